section
-- ===== PART A: goes FIRST, ahead of the names: the tables' words, and 'selects' of the private methods out of them =====
/-- a private method of a class that the tables say can be made, by its rows of tables_1 -/
def lw_okq (q : MethodName × Nat) : Prop := (q.1.cls ≠ "java/lang/invoke/MethodHandle" ∧ q.1.cls ≠ "java/lang/invoke/VarHandle") ∧ Cond.instantiable q.1.cls q.2 ∈ tables_1 ∧ Cond.privateMethod q.1 ∈ tables_1 ∧ Cond.instanceMethod q.1 ∈ tables_1
theorem lw_p0 : lw_okq (⟨"DoughRoom", "knead", "(II)LDoughRoom$Dough;"⟩, 7) := ⟨⟨by decide +kernel, by decide +kernel⟩, List.mem_of_getElem? (i := 13) (by decide +kernel), List.mem_of_getElem? (i := 69) (by decide +kernel), List.mem_of_getElem? (i := 70) (by decide +kernel)⟩
theorem lw_p1 : lw_okq (⟨"DoughRoom", "find", "(I)LDoughRoom$Dough;"⟩, 7) := ⟨⟨by decide +kernel, by decide +kernel⟩, List.mem_of_getElem? (i := 13) (by decide +kernel), List.mem_of_getElem? (i := 214) (by decide +kernel), List.mem_of_getElem? (i := 215) (by decide +kernel)⟩
theorem lw_p2 : lw_okq (⟨"DoughRoom", "isOven", "(I)Z"⟩, 7) := ⟨⟨by decide +kernel, by decide +kernel⟩, List.mem_of_getElem? (i := 13) (by decide +kernel), List.mem_of_getElem? (i := 377) (by decide +kernel), List.mem_of_getElem? (i := 378) (by decide +kernel)⟩
theorem lw_p3 : lw_okq (⟨"DoughRoom", "howMany", "(I)I"⟩, 7) := ⟨⟨by decide +kernel, by decide +kernel⟩, List.mem_of_getElem? (i := 13) (by decide +kernel), List.mem_of_getElem? (i := 385) (by decide +kernel), List.mem_of_getElem? (i := 386) (by decide +kernel)⟩
theorem lw_p4 : lw_okq (⟨"DoughRoom", "heatOf", "(I)I"⟩, 7) := ⟨⟨by decide +kernel, by decide +kernel⟩, List.mem_of_getElem? (i := 13) (by decide +kernel), List.mem_of_getElem? (i := 402) (by decide +kernel), List.mem_of_getElem? (i := 403) (by decide +kernel)⟩
theorem lw_p5 : lw_okq (⟨"DoughRoom", "massIn", "(I)I"⟩, 7) := ⟨⟨by decide +kernel, by decide +kernel⟩, List.mem_of_getElem? (i := 13) (by decide +kernel), List.mem_of_getElem? (i := 422) (by decide +kernel), List.mem_of_getElem? (i := 423) (by decide +kernel)⟩
theorem lw_p6 : lw_okq (⟨"DoughRoomModel", "isBatch", "(I)Z"⟩, 15) := ⟨⟨by decide +kernel, by decide +kernel⟩, List.mem_of_getElem? (i := 449) (by decide +kernel), List.mem_of_getElem? (i := 512) (by decide +kernel), List.mem_of_getElem? (i := 513) (by decide +kernel)⟩
theorem lw_p7 : lw_okq (⟨"DoughRoomModel", "answer", "(III)I"⟩, 15) := ⟨⟨by decide +kernel, by decide +kernel⟩, List.mem_of_getElem? (i := 449) (by decide +kernel), List.mem_of_getElem? (i := 516) (by decide +kernel), List.mem_of_getElem? (i := 517) (by decide +kernel)⟩
theorem lw_p8 : lw_okq (⟨"DoughRoomModel", "rise", "(II)I"⟩, 15) := ⟨⟨by decide +kernel, by decide +kernel⟩, List.mem_of_getElem? (i := 449) (by decide +kernel), List.mem_of_getElem? (i := 520) (by decide +kernel), List.mem_of_getElem? (i := 521) (by decide +kernel)⟩
theorem lw_p9 : lw_okq (⟨"DoughRoomModel", "began", "(I)V"⟩, 15) := ⟨⟨by decide +kernel, by decide +kernel⟩, List.mem_of_getElem? (i := 449) (by decide +kernel), List.mem_of_getElem? (i := 524) (by decide +kernel), List.mem_of_getElem? (i := 525) (by decide +kernel)⟩
theorem lw_p10 : lw_okq (⟨"DoughRoomModel", "need", "(I)I"⟩, 15) := ⟨⟨by decide +kernel, by decide +kernel⟩, List.mem_of_getElem? (i := 449) (by decide +kernel), List.mem_of_getElem? (i := 528) (by decide +kernel), List.mem_of_getElem? (i := 529) (by decide +kernel)⟩
theorem lw_p11 : lw_okq (⟨"DoughRoomModel", "brown", "(II)I"⟩, 15) := ⟨⟨by decide +kernel, by decide +kernel⟩, List.mem_of_getElem? (i := 449) (by decide +kernel), List.mem_of_getElem? (i := 532) (by decide +kernel), List.mem_of_getElem? (i := 533) (by decide +kernel)⟩
theorem lw_p12 : lw_okq (⟨"DoughRoomModel", "price", "(I)I"⟩, 15) := ⟨⟨by decide +kernel, by decide +kernel⟩, List.mem_of_getElem? (i := 449) (by decide +kernel), List.mem_of_getElem? (i := 536) (by decide +kernel), List.mem_of_getElem? (i := 537) (by decide +kernel)⟩
theorem lw_p13 : lw_okq (⟨"DoughRoomModel", "keeps", "(I)I"⟩, 15) := ⟨⟨by decide +kernel, by decide +kernel⟩, List.mem_of_getElem? (i := 449) (by decide +kernel), List.mem_of_getElem? (i := 543) (by decide +kernel), List.mem_of_getElem? (i := 544) (by decide +kernel)⟩
theorem lw_p14 : lw_okq (⟨"DoughRoomModel", "glaze", "(I)I"⟩, 15) := ⟨⟨by decide +kernel, by decide +kernel⟩, List.mem_of_getElem? (i := 449) (by decide +kernel), List.mem_of_getElem? (i := 550) (by decide +kernel), List.mem_of_getElem? (i := 551) (by decide +kernel)⟩
theorem lw_p15 : lw_okq (⟨"DoughRoomModel", "minute", "()I"⟩, 15) := ⟨⟨by decide +kernel, by decide +kernel⟩, List.mem_of_getElem? (i := 449) (by decide +kernel), List.mem_of_getElem? (i := 570) (by decide +kernel), List.mem_of_getElem? (i := 571) (by decide +kernel)⟩
def lw_privs_1 : List (MethodName × Nat) := [(⟨"DoughRoom", "knead", "(II)LDoughRoom$Dough;"⟩, 7), (⟨"DoughRoom", "find", "(I)LDoughRoom$Dough;"⟩, 7), (⟨"DoughRoom", "isOven", "(I)Z"⟩, 7), (⟨"DoughRoom", "howMany", "(I)I"⟩, 7), (⟨"DoughRoom", "heatOf", "(I)I"⟩, 7), (⟨"DoughRoom", "massIn", "(I)I"⟩, 7), (⟨"DoughRoomModel", "isBatch", "(I)Z"⟩, 15), (⟨"DoughRoomModel", "answer", "(III)I"⟩, 15), (⟨"DoughRoomModel", "rise", "(II)I"⟩, 15), (⟨"DoughRoomModel", "began", "(I)V"⟩, 15), (⟨"DoughRoomModel", "need", "(I)I"⟩, 15), (⟨"DoughRoomModel", "brown", "(II)I"⟩, 15), (⟨"DoughRoomModel", "price", "(I)I"⟩, 15), (⟨"DoughRoomModel", "keeps", "(I)I"⟩, 15), (⟨"DoughRoomModel", "glaze", "(I)I"⟩, 15), (⟨"DoughRoomModel", "minute", "()I"⟩, 15)]
theorem lw_r1 : ∀ q ∈ lw_privs_1, lw_okq q := List.forall_mem_cons.mpr ⟨lw_p0, List.forall_mem_cons.mpr ⟨lw_p1, List.forall_mem_cons.mpr ⟨lw_p2, List.forall_mem_cons.mpr ⟨lw_p3, List.forall_mem_cons.mpr ⟨lw_p4, List.forall_mem_cons.mpr ⟨lw_p5, List.forall_mem_cons.mpr ⟨lw_p6, List.forall_mem_cons.mpr ⟨lw_p7, List.forall_mem_cons.mpr ⟨lw_p8, List.forall_mem_cons.mpr ⟨lw_p9, List.forall_mem_cons.mpr ⟨lw_p10, List.forall_mem_cons.mpr ⟨lw_p11, List.forall_mem_cons.mpr ⟨lw_p12, List.forall_mem_cons.mpr ⟨lw_p13, List.forall_mem_cons.mpr ⟨lw_p14, List.forall_mem_cons.mpr ⟨lw_p15, fun _ h => absurd h List.not_mem_nil⟩⟩⟩⟩⟩⟩⟩⟩⟩⟩⟩⟩⟩⟩⟩⟩
theorem lw_p16 : lw_okq (⟨"DoughRoomModel", "massIn", "(I)I"⟩, 15) := ⟨⟨by decide +kernel, by decide +kernel⟩, List.mem_of_getElem? (i := 449) (by decide +kernel), List.mem_of_getElem? (i := 578) (by decide +kernel), List.mem_of_getElem? (i := 579) (by decide +kernel)⟩
def lw_privs_2 : List (MethodName × Nat) := [(⟨"DoughRoomModel", "massIn", "(I)I"⟩, 15)]
theorem lw_r2 : ∀ q ∈ lw_privs_2, lw_okq q := List.forall_mem_cons.mpr ⟨lw_p16, fun _ h => absurd h List.not_mem_nil⟩
def lw_privs : List (MethodName × Nat) := lw_privs_1 ++ (lw_privs_2)
def lw_tbl : List Cond := k2_sels lw_privs ++ tables_1
theorem lw_privs_ok : ∀ q ∈ lw_privs, lw_okq q := by
  show ∀ q ∈ lw_privs_1 ++ (lw_privs_2), lw_okq q
  exact List.forall_mem_append.mpr ⟨lw_r1, lw_r2⟩

def RX0 : String := "DoughRoom$Black"
def TX0 : u_T := fun k => match k with
  | 0 => ("DoughRoom$Dough", "kind", "I", true)
  | 1 => ("DoughRoom$Dough", "mass", "I", true)
  | 2 => ("DoughRoom$Dough", "trace", "LDoughRoom$Trace;", true)
  | 3 => ("DoughRoom$Dough", "state", "I", false)
  | 4 => ("DoughRoom$Dough", "risen", "I", false)
  | 5 => ("DoughRoom$Dough", "browned", "I", false)
  | 6 => ("DoughRoom$Dough", "oven", "I", false)
  | _ => ("DoughRoom$Dough", "doneSince", "I", false)
def tyX0 : Nat → FieldType := fun k => match k with
  | 0 => .int
  | 1 => .int
  | 2 => .object "DoughRoom$Trace"
  | 3 => .int
  | 4 => .int
  | 5 => .int
  | 6 => .int
  | _ => .int
abbrev wsX00 : List Cond := u_ws RX0 TX0 8
theorem nmX0 : ∀ a, a < 8 → ∀ b, b < 8 → a ≠ b → (TX0 a).2.1 ≠ (TX0 b).2.1 := by decide +kernel
theorem tyX0_ok : ∀ k, k < 8 → parseFieldDescriptor (TX0 k).2.2.1 = some (tyX0 k) := by decide +kernel
abbrev cX0_init : ByteArray := prog_2_method_1_code
def yX0_init : MethodName := ⟨RX0, "<init>", "(IILDoughRoom$Trace;)V"⟩
abbrev cX0_rise : ByteArray := prog_2_method_2_code
def yX0_rise : MethodName := ⟨RX0, "rise", "(I)I"⟩
abbrev cX0_brown : ByteArray := prog_2_method_3_code
def yX0_brown : MethodName := ⟨RX0, "brown", "(I)I"⟩
abbrev cX0_price : ByteArray := prog_2_method_4_code
def yX0_price : MethodName := ⟨RX0, "price", "()I"⟩
abbrev cX0_keeps : ByteArray := prog_2_method_5_code
def yX0_keeps : MethodName := ⟨RX0, "keeps", "()I"⟩
def RX1 : String := "DoughRoom$Butter"
def TX1 : u_T := fun k => match k with
  | 0 => ("DoughRoom$Dough", "kind", "I", true)
  | 1 => ("DoughRoom$Dough", "mass", "I", true)
  | 2 => ("DoughRoom$Dough", "trace", "LDoughRoom$Trace;", true)
  | 3 => ("DoughRoom$Dough", "state", "I", false)
  | 4 => ("DoughRoom$Dough", "risen", "I", false)
  | 5 => ("DoughRoom$Dough", "browned", "I", false)
  | 6 => ("DoughRoom$Dough", "oven", "I", false)
  | _ => ("DoughRoom$Dough", "doneSince", "I", false)
def tyX1 : Nat → FieldType := fun k => match k with
  | 0 => .int
  | 1 => .int
  | 2 => .object "DoughRoom$Trace"
  | 3 => .int
  | 4 => .int
  | 5 => .int
  | 6 => .int
  | _ => .int
abbrev wsX10 : List Cond := u_ws RX1 TX1 8
theorem nmX1 : ∀ a, a < 8 → ∀ b, b < 8 → a ≠ b → (TX1 a).2.1 ≠ (TX1 b).2.1 := by decide +kernel
theorem tyX1_ok : ∀ k, k < 8 → parseFieldDescriptor (TX1 k).2.2.1 = some (tyX1 k) := by decide +kernel
abbrev cX1_init : ByteArray := prog_3_method_1_code
def yX1_init : MethodName := ⟨RX1, "<init>", "(IILDoughRoom$Trace;)V"⟩
abbrev cX1_rise : ByteArray := prog_3_method_2_code
def yX1_rise : MethodName := ⟨RX1, "rise", "(I)I"⟩
abbrev cX1_price : ByteArray := prog_3_method_3_code
def yX1_price : MethodName := ⟨RX1, "price", "()I"⟩
abbrev cX1_glaze : ByteArray := prog_3_method_4_code
def yX1_glaze : MethodName := ⟨RX1, "glaze", "()I"⟩
def RX2 : String := "DoughRoom$Dough"
def TX2 : u_T := fun k => match k with
  | 0 => ("DoughRoom$Dough", "kind", "I", true)
  | 1 => ("DoughRoom$Dough", "mass", "I", true)
  | 2 => ("DoughRoom$Dough", "trace", "LDoughRoom$Trace;", true)
  | 3 => ("DoughRoom$Dough", "state", "I", false)
  | 4 => ("DoughRoom$Dough", "risen", "I", false)
  | 5 => ("DoughRoom$Dough", "browned", "I", false)
  | 6 => ("DoughRoom$Dough", "oven", "I", false)
  | _ => ("DoughRoom$Dough", "doneSince", "I", false)
def tyX2 : Nat → FieldType := fun k => match k with
  | 0 => .int
  | 1 => .int
  | 2 => .object "DoughRoom$Trace"
  | 3 => .int
  | 4 => .int
  | 5 => .int
  | 6 => .int
  | _ => .int
abbrev wsX20 : List Cond := u_ws RX2 TX2 8
theorem nmX2 : ∀ a, a < 8 → ∀ b, b < 8 → a ≠ b → (TX2 a).2.1 ≠ (TX2 b).2.1 := by decide +kernel
theorem tyX2_ok : ∀ k, k < 8 → parseFieldDescriptor (TX2 k).2.2.1 = some (tyX2 k) := by decide +kernel
abbrev cX2_init : ByteArray := prog_4_method_1_code
def yX2_init : MethodName := ⟨RX2, "<init>", "(IILDoughRoom$Trace;)V"⟩
abbrev cX2_rise : ByteArray := prog_4_method_2_code
def yX2_rise : MethodName := ⟨RX2, "rise", "(I)I"⟩
abbrev cX2_need : ByteArray := prog_4_method_3_code
def yX2_need : MethodName := ⟨RX2, "need", "()I"⟩
abbrev cX2_brown : ByteArray := prog_4_method_4_code
def yX2_brown : MethodName := ⟨RX2, "brown", "(I)I"⟩
abbrev cX2_price : ByteArray := prog_4_method_5_code
def yX2_price : MethodName := ⟨RX2, "price", "()I"⟩
abbrev cX2_riseFor : ByteArray := prog_4_method_6_code
def yX2_riseFor : MethodName := ⟨RX2, "riseFor", "(II)V"⟩
abbrev cX2_brownFor : ByteArray := prog_4_method_7_code
def yX2_brownFor : MethodName := ⟨RX2, "brownFor", "(II)V"⟩
def RX3 : String := "DoughRoom$Rye"
def TX3 : u_T := fun k => match k with
  | 0 => ("DoughRoom$Dough", "kind", "I", true)
  | 1 => ("DoughRoom$Dough", "mass", "I", true)
  | 2 => ("DoughRoom$Dough", "trace", "LDoughRoom$Trace;", true)
  | 3 => ("DoughRoom$Dough", "state", "I", false)
  | 4 => ("DoughRoom$Dough", "risen", "I", false)
  | 5 => ("DoughRoom$Dough", "browned", "I", false)
  | 6 => ("DoughRoom$Dough", "oven", "I", false)
  | _ => ("DoughRoom$Dough", "doneSince", "I", false)
def tyX3 : Nat → FieldType := fun k => match k with
  | 0 => .int
  | 1 => .int
  | 2 => .object "DoughRoom$Trace"
  | 3 => .int
  | 4 => .int
  | 5 => .int
  | 6 => .int
  | _ => .int
abbrev wsX30 : List Cond := u_ws RX3 TX3 8
theorem nmX3 : ∀ a, a < 8 → ∀ b, b < 8 → a ≠ b → (TX3 a).2.1 ≠ (TX3 b).2.1 := by decide +kernel
theorem tyX3_ok : ∀ k, k < 8 → parseFieldDescriptor (TX3 k).2.2.1 = some (tyX3 k) := by decide +kernel
abbrev cX3_init : ByteArray := prog_5_method_1_code
def yX3_init : MethodName := ⟨RX3, "<init>", "(IILDoughRoom$Trace;)V"⟩
abbrev cX3_need : ByteArray := prog_5_method_2_code
def yX3_need : MethodName := ⟨RX3, "need", "()I"⟩
abbrev cX3_price : ByteArray := prog_5_method_3_code
def yX3_price : MethodName := ⟨RX3, "price", "()I"⟩
def RX4 : String := "DoughRoom$Sour"
def TX4 : u_T := fun k => match k with
  | 0 => ("DoughRoom$Dough", "kind", "I", true)
  | 1 => ("DoughRoom$Dough", "mass", "I", true)
  | 2 => ("DoughRoom$Dough", "trace", "LDoughRoom$Trace;", true)
  | 3 => ("DoughRoom$Dough", "state", "I", false)
  | 4 => ("DoughRoom$Dough", "risen", "I", false)
  | 5 => ("DoughRoom$Dough", "browned", "I", false)
  | 6 => ("DoughRoom$Dough", "oven", "I", false)
  | _ => ("DoughRoom$Dough", "doneSince", "I", false)
def tyX4 : Nat → FieldType := fun k => match k with
  | 0 => .int
  | 1 => .int
  | 2 => .object "DoughRoom$Trace"
  | 3 => .int
  | 4 => .int
  | 5 => .int
  | 6 => .int
  | _ => .int
abbrev wsX40 : List Cond := u_ws RX4 TX4 8
theorem nmX4 : ∀ a, a < 8 → ∀ b, b < 8 → a ≠ b → (TX4 a).2.1 ≠ (TX4 b).2.1 := by decide +kernel
theorem tyX4_ok : ∀ k, k < 8 → parseFieldDescriptor (TX4 k).2.2.1 = some (tyX4 k) := by decide +kernel
abbrev cX4_init : ByteArray := prog_6_method_1_code
def yX4_init : MethodName := ⟨RX4, "<init>", "(IILDoughRoom$Trace;)V"⟩
abbrev cX4_rise : ByteArray := prog_6_method_2_code
def yX4_rise : MethodName := ⟨RX4, "rise", "(I)I"⟩
abbrev cX4_keeps : ByteArray := prog_6_method_3_code
def yX4_keeps : MethodName := ⟨RX4, "keeps", "()I"⟩
def RX5 : String := "DoughRoom$Sweet"
def TX5 : u_T := fun k => match k with
  | 0 => ("DoughRoom$Dough", "kind", "I", true)
  | 1 => ("DoughRoom$Dough", "mass", "I", true)
  | 2 => ("DoughRoom$Dough", "trace", "LDoughRoom$Trace;", true)
  | 3 => ("DoughRoom$Dough", "state", "I", false)
  | 4 => ("DoughRoom$Dough", "risen", "I", false)
  | 5 => ("DoughRoom$Dough", "browned", "I", false)
  | 6 => ("DoughRoom$Dough", "oven", "I", false)
  | _ => ("DoughRoom$Dough", "doneSince", "I", false)
def tyX5 : Nat → FieldType := fun k => match k with
  | 0 => .int
  | 1 => .int
  | 2 => .object "DoughRoom$Trace"
  | 3 => .int
  | 4 => .int
  | 5 => .int
  | 6 => .int
  | _ => .int
abbrev wsX50 : List Cond := u_ws RX5 TX5 8
theorem nmX5 : ∀ a, a < 8 → ∀ b, b < 8 → a ≠ b → (TX5 a).2.1 ≠ (TX5 b).2.1 := by decide +kernel
theorem tyX5_ok : ∀ k, k < 8 → parseFieldDescriptor (TX5 k).2.2.1 = some (tyX5 k) := by decide +kernel
abbrev cX5_init : ByteArray := prog_7_method_1_code
def yX5_init : MethodName := ⟨RX5, "<init>", "(IILDoughRoom$Trace;)V"⟩
abbrev cX5_brown : ByteArray := prog_7_method_2_code
def yX5_brown : MethodName := ⟨RX5, "brown", "(I)I"⟩
abbrev cX5_glaze : ByteArray := prog_7_method_3_code
def yX5_glaze : MethodName := ⟨RX5, "glaze", "()I"⟩
def RX6 : String := "DoughRoom$Trace"
def TX6 : u_T := fun k => match k with
  | 0 => ("DoughRoom$Trace", "numbers", "[I", true)
  | 1 => ("DoughRoom$Trace", "length", "I", false)
  | _ => ("DoughRoom$Trace", "running", "Z", false)
def tyX6 : Nat → FieldType := fun k => match k with
  | 0 => .array .int
  | 1 => .int
  | _ => .boolean
abbrev wsX60 : List Cond := u_ws RX6 TX6 3
theorem nmX6 : ∀ a, a < 3 → ∀ b, b < 3 → a ≠ b → (TX6 a).2.1 ≠ (TX6 b).2.1 := by decide +kernel
theorem tyX6_ok : ∀ k, k < 3 → parseFieldDescriptor (TX6 k).2.2.1 = some (tyX6 k) := by decide +kernel
abbrev cX6_init : ByteArray := prog_8_method_1_code
def yX6_init : MethodName := ⟨RX6, "<init>", "()V"⟩
abbrev cX6_start : ByteArray := prog_8_method_2_code
def yX6_start : MethodName := ⟨RX6, "start", "()V"⟩
abbrev cX6_stop : ByteArray := prog_8_method_3_code
def yX6_stop : MethodName := ⟨RX6, "stop", "()V"⟩
abbrev cX6_leave : ByteArray := prog_8_method_4_code
def yX6_leave : MethodName := ⟨RX6, "leave", "(I)V"⟩
abbrev cX6_at : ByteArray := prog_8_method_5_code
def yX6_at : MethodName := ⟨RX6, "at", "(I)I"⟩
def RX7 : String := "DoughRoom$Yeast"
def TX7 : u_T := fun k => match k with
  | 0 => ("DoughRoom$Dough", "kind", "I", true)
  | 1 => ("DoughRoom$Dough", "mass", "I", true)
  | 2 => ("DoughRoom$Dough", "trace", "LDoughRoom$Trace;", true)
  | 3 => ("DoughRoom$Dough", "state", "I", false)
  | 4 => ("DoughRoom$Dough", "risen", "I", false)
  | 5 => ("DoughRoom$Dough", "browned", "I", false)
  | 6 => ("DoughRoom$Dough", "oven", "I", false)
  | _ => ("DoughRoom$Dough", "doneSince", "I", false)
def tyX7 : Nat → FieldType := fun k => match k with
  | 0 => .int
  | 1 => .int
  | 2 => .object "DoughRoom$Trace"
  | 3 => .int
  | 4 => .int
  | 5 => .int
  | 6 => .int
  | _ => .int
abbrev wsX70 : List Cond := u_ws RX7 TX7 8
theorem nmX7 : ∀ a, a < 8 → ∀ b, b < 8 → a ≠ b → (TX7 a).2.1 ≠ (TX7 b).2.1 := by decide +kernel
theorem tyX7_ok : ∀ k, k < 8 → parseFieldDescriptor (TX7 k).2.2.1 = some (tyX7 k) := by decide +kernel
abbrev cX7_init : ByteArray := prog_9_method_1_code
def yX7_init : MethodName := ⟨RX7, "<init>", "(IILDoughRoom$Trace;)V"⟩
abbrev cX7_need : ByteArray := prog_9_method_2_code
def yX7_need : MethodName := ⟨RX7, "need", "()I"⟩
def RX8 : String := "DoughRoom"
def TX8 : u_T := fun k => match k with
  | 0 => ("DoughRoom", "batches", "[LDoughRoom$Dough;", true)
  | 1 => ("DoughRoom", "heats", "[I", true)
  | 2 => ("DoughRoom", "trace", "LDoughRoom$Trace;", true)
  | 3 => ("DoughRoom", "made", "I", false)
  | 4 => ("DoughRoom", "warmth", "I", false)
  | 5 => ("DoughRoom", "days", "I", false)
  | _ => ("DoughRoom", "till", "I", false)
def tyX8 : Nat → FieldType := fun k => match k with
  | 0 => .array (.object "DoughRoom$Dough")
  | 1 => .array .int
  | 2 => .object "DoughRoom$Trace"
  | 3 => .int
  | 4 => .int
  | 5 => .int
  | _ => .int
abbrev wsX80 : List Cond := u_ws RX8 TX8 7
theorem nmX8 : ∀ a, a < 7 → ∀ b, b < 7 → a ≠ b → (TX8 a).2.1 ≠ (TX8 b).2.1 := by decide +kernel
theorem tyX8_ok : ∀ k, k < 7 → parseFieldDescriptor (TX8 k).2.2.1 = some (tyX8 k) := by decide +kernel
abbrev cX8_init : ByteArray := prog_1_method_1_code
def yX8_init : MethodName := ⟨RX8, "<init>", "()V"⟩
abbrev cX8_batch : ByteArray := prog_1_method_2_code
def yX8_batch : MethodName := ⟨RX8, "batch", "(II)I"⟩
abbrev cX8_ask : ByteArray := prog_1_method_3_code
def yX8_ask : MethodName := ⟨RX8, "ask", "(III)I"⟩
abbrev cX8_trace : ByteArray := prog_1_method_4_code
def yX8_trace : MethodName := ⟨RX8, "trace", "(I)I"⟩
abbrev cX8_room : ByteArray := prog_1_method_5_code
def yX8_room : MethodName := ⟨RX8, "room", "(I)I"⟩
abbrev cX8_heat : ByteArray := prog_1_method_6_code
def yX8_heat : MethodName := ⟨RX8, "heat", "(II)I"⟩
abbrev cX8_minutes : ByteArray := prog_1_method_7_code
def yX8_minutes : MethodName := ⟨RX8, "minutes", "(I)I"⟩
abbrev cX8_bake : ByteArray := prog_1_method_8_code
def yX8_bake : MethodName := ⟨RX8, "bake", "(II)I"⟩
abbrev cX8_out : ByteArray := prog_1_method_9_code
def yX8_out : MethodName := ⟨RX8, "out", "(I)I"⟩
abbrev cX8_sell : ByteArray := prog_1_method_10_code
def yX8_sell : MethodName := ⟨RX8, "sell", "(I)I"⟩
abbrev cX8_day : ByteArray := prog_1_method_11_code
def yX8_day : MethodName := ⟨RX8, "day", "()I"⟩
abbrev cX8_told : ByteArray := prog_1_method_12_code
def yX8_told : MethodName := ⟨RX8, "told", "(II)I"⟩
abbrev cX8_count : ByteArray := prog_1_method_13_code
def yX8_count : MethodName := ⟨RX8, "count", "(I)I"⟩
abbrev cX8_within : ByteArray := prog_1_method_14_code
def yX8_within : MethodName := ⟨RX8, "within", "(III)Z"⟩
abbrev cX8_isQuestion : ByteArray := prog_1_method_15_code
def yX8_isQuestion : MethodName := ⟨RX8, "isQuestion", "(II)Z"⟩
abbrev cX8_isOven : ByteArray := prog_1_method_16_code
def yX8_isOven : MethodName := ⟨RX8, "isOven", "(I)Z"⟩
abbrev cX8_heatOf : ByteArray := prog_1_method_17_code
def yX8_heatOf : MethodName := ⟨RX8, "heatOf", "(I)I"⟩
abbrev cX8_find : ByteArray := prog_1_method_18_code
def yX8_find : MethodName := ⟨RX8, "find", "(I)LDoughRoom$Dough;"⟩
abbrev cX8_knead : ByteArray := prog_1_method_19_code
def yX8_knead : MethodName := ⟨RX8, "knead", "(II)LDoughRoom$Dough;"⟩
abbrev cX8_howMany : ByteArray := prog_1_method_20_code
def yX8_howMany : MethodName := ⟨RX8, "howMany", "(I)I"⟩
abbrev cX8_massIn : ByteArray := prog_1_method_21_code
def yX8_massIn : MethodName := ⟨RX8, "massIn", "(I)I"⟩
def RX9 : String := "DoughRoomModel"
def TX9 : u_T := fun k => match k with
  | 0 => ("DoughRoomModel", "batches", "I", false)
  | 1 => ("DoughRoomModel", "kind", "[I", true)
  | 2 => ("DoughRoomModel", "mass", "[I", true)
  | 3 => ("DoughRoomModel", "state", "[I", true)
  | 4 => ("DoughRoomModel", "risen", "[I", true)
  | 5 => ("DoughRoomModel", "browned", "[I", true)
  | 6 => ("DoughRoomModel", "oven", "[I", true)
  | 7 => ("DoughRoomModel", "since", "[I", true)
  | 8 => ("DoughRoomModel", "warmth", "I", false)
  | 9 => ("DoughRoomModel", "heats", "[I", true)
  | 10 => ("DoughRoomModel", "days", "I", false)
  | 11 => ("DoughRoomModel", "till", "I", false)
  | 12 => ("DoughRoomModel", "trace", "[I", true)
  | 13 => ("DoughRoomModel", "traced", "I", false)
  | _ => ("DoughRoomModel", "isTold", "Z", false)
def tyX9 : Nat → FieldType := fun k => match k with
  | 0 => .int
  | 1 => .array .int
  | 2 => .array .int
  | 3 => .array .int
  | 4 => .array .int
  | 5 => .array .int
  | 6 => .array .int
  | 7 => .array .int
  | 8 => .int
  | 9 => .array .int
  | 10 => .int
  | 11 => .int
  | 12 => .array .int
  | 13 => .int
  | _ => .boolean
abbrev wsX90 : List Cond := u_ws RX9 TX9 15
theorem nmX9 : ∀ a, a < 15 → ∀ b, b < 15 → a ≠ b → (TX9 a).2.1 ≠ (TX9 b).2.1 := by decide +kernel
theorem tyX9_ok : ∀ k, k < 15 → parseFieldDescriptor (TX9 k).2.2.1 = some (tyX9 k) := by decide +kernel
abbrev cX9_init : ByteArray := prog_11_method_1_code
def yX9_init : MethodName := ⟨RX9, "<init>", "()V"⟩
abbrev cX9_in : ByteArray := prog_11_method_3_code
def yX9_in : MethodName := ⟨RX9, "in", "(III)Z"⟩
abbrev cX9_isBatch : ByteArray := prog_11_method_4_code
def yX9_isBatch : MethodName := ⟨RX9, "isBatch", "(I)Z"⟩
abbrev cX9_batch : ByteArray := prog_11_method_5_code
def yX9_batch : MethodName := ⟨RX9, "batch", "(II)I"⟩
abbrev cX9_began : ByteArray := prog_11_method_6_code
def yX9_began : MethodName := ⟨RX9, "began", "(I)V"⟩
abbrev cX9_rise : ByteArray := prog_11_method_7_code
def yX9_rise : MethodName := ⟨RX9, "rise", "(II)I"⟩
abbrev cX9_need : ByteArray := prog_11_method_8_code
def yX9_need : MethodName := ⟨RX9, "need", "(I)I"⟩
abbrev cX9_brown : ByteArray := prog_11_method_9_code
def yX9_brown : MethodName := ⟨RX9, "brown", "(II)I"⟩
abbrev cX9_price : ByteArray := prog_11_method_10_code
def yX9_price : MethodName := ⟨RX9, "price", "(I)I"⟩
abbrev cX9_isKeeping : ByteArray := prog_11_method_11_code
def yX9_isKeeping : MethodName := ⟨RX9, "isKeeping", "(I)Z"⟩
abbrev cX9_isGlazed : ByteArray := prog_11_method_12_code
def yX9_isGlazed : MethodName := ⟨RX9, "isGlazed", "(I)Z"⟩
abbrev cX9_keeps : ByteArray := prog_11_method_13_code
def yX9_keeps : MethodName := ⟨RX9, "keeps", "(I)I"⟩
abbrev cX9_glaze : ByteArray := prog_11_method_14_code
def yX9_glaze : MethodName := ⟨RX9, "glaze", "(I)I"⟩
abbrev cX9_answer : ByteArray := prog_11_method_15_code
def yX9_answer : MethodName := ⟨RX9, "answer", "(III)I"⟩
abbrev cX9_ask : ByteArray := prog_11_method_16_code
def yX9_ask : MethodName := ⟨RX9, "ask", "(III)I"⟩
abbrev cX9_trace : ByteArray := prog_11_method_17_code
def yX9_trace : MethodName := ⟨RX9, "trace", "(I)I"⟩
abbrev cX9_room : ByteArray := prog_11_method_18_code
def yX9_room : MethodName := ⟨RX9, "room", "(I)I"⟩
abbrev cX9_heat : ByteArray := prog_11_method_19_code
def yX9_heat : MethodName := ⟨RX9, "heat", "(II)I"⟩
abbrev cX9_minute : ByteArray := prog_11_method_20_code
def yX9_minute : MethodName := ⟨RX9, "minute", "()I"⟩
abbrev cX9_minutes : ByteArray := prog_11_method_21_code
def yX9_minutes : MethodName := ⟨RX9, "minutes", "(I)I"⟩
abbrev cX9_massIn : ByteArray := prog_11_method_22_code
def yX9_massIn : MethodName := ⟨RX9, "massIn", "(I)I"⟩
abbrev cX9_bake : ByteArray := prog_11_method_23_code
def yX9_bake : MethodName := ⟨RX9, "bake", "(II)I"⟩
abbrev cX9_out : ByteArray := prog_11_method_24_code
def yX9_out : MethodName := ⟨RX9, "out", "(I)I"⟩
abbrev cX9_sell : ByteArray := prog_11_method_25_code
def yX9_sell : MethodName := ⟨RX9, "sell", "(I)I"⟩
abbrev cX9_day : ByteArray := prog_11_method_26_code
def yX9_day : MethodName := ⟨RX9, "day", "()I"⟩
abbrev cX9_told : ByteArray := prog_11_method_27_code
def yX9_told : MethodName := ⟨RX9, "told", "(II)I"⟩
abbrev cX9_count : ByteArray := prog_11_method_28_code
def yX9_count : MethodName := ⟨RX9, "count", "(I)I"⟩
def RJ9 : String := "java/lang/Math"
def TJ9 : u_T := fun k => match k with
  | _ => ("", "", "", false)
def tyJ9 : Nat → FieldType := fun k => match k with
  | _ => .int
abbrev wsJ90 : List Cond := u_ws RJ9 TJ9 0
theorem nmJ9 : ∀ a, a < 0 → ∀ b, b < 0 → a ≠ b → (TJ9 a).2.1 ≠ (TJ9 b).2.1 := by decide +kernel
theorem tyJ9_ok : ∀ k, k < 0 → parseFieldDescriptor (TJ9 k).2.2.1 = some (tyJ9 k) := by decide +kernel
abbrev cJ9_max_7cf53 : ByteArray := prog_12_method_65_code
def yJ9_max_7cf53 : MethodName := ⟨RJ9, "max", "(II)I"⟩
def RL : String := "DoughRoomLaw"
abbrev cL_law : ByteArray := code
def yL_law : MethodName := ⟨RL, "law", "([I)Z"⟩
/-- the good words: what every method of the system may ask of the tables -/
def G : List Cond := lw_tbl.filter goodWord
theorem G_tbl : ∀ w ∈ G, w ∈ lw_tbl := fun _ h => (List.mem_filter.mp h).1
theorem G_ok : ∀ w ∈ G, (w.onTables && w.keeps) = true ∨ ∃ ty, w = .arrayClass ty := fun _ h => good_of_word (List.mem_filter.mp h).2
theorem kw_0 : (Cond.selects RX8 yX8_knead yX8_knead) ∈ G := List.mem_filter.mpr ⟨List.mem_of_getElem? (i := 0) (by decide +kernel), by decide +kernel⟩
theorem kw_1 : (Cond.selects RX8 yX8_find yX8_find) ∈ G := List.mem_filter.mpr ⟨List.mem_of_getElem? (i := 1) (by decide +kernel), by decide +kernel⟩
theorem kw_2 : (Cond.selects RX8 yX8_isOven yX8_isOven) ∈ G := List.mem_filter.mpr ⟨List.mem_of_getElem? (i := 2) (by decide +kernel), by decide +kernel⟩
theorem kw_3 : (Cond.selects RX8 yX8_howMany yX8_howMany) ∈ G := List.mem_filter.mpr ⟨List.mem_of_getElem? (i := 3) (by decide +kernel), by decide +kernel⟩
theorem kw_4 : (Cond.selects RX8 yX8_heatOf yX8_heatOf) ∈ G := List.mem_filter.mpr ⟨List.mem_of_getElem? (i := 4) (by decide +kernel), by decide +kernel⟩
theorem kw_5 : (Cond.selects RX8 yX8_massIn yX8_massIn) ∈ G := List.mem_filter.mpr ⟨List.mem_of_getElem? (i := 5) (by decide +kernel), by decide +kernel⟩
theorem kw_6 : (Cond.selects RX9 yX9_isBatch yX9_isBatch) ∈ G := List.mem_filter.mpr ⟨List.mem_of_getElem? (i := 6) (by decide +kernel), by decide +kernel⟩
theorem kw_7 : (Cond.selects RX9 yX9_answer yX9_answer) ∈ G := List.mem_filter.mpr ⟨List.mem_of_getElem? (i := 7) (by decide +kernel), by decide +kernel⟩
theorem kw_8 : (Cond.selects RX9 yX9_rise yX9_rise) ∈ G := List.mem_filter.mpr ⟨List.mem_of_getElem? (i := 8) (by decide +kernel), by decide +kernel⟩
theorem kw_9 : (Cond.selects RX9 yX9_began yX9_began) ∈ G := List.mem_filter.mpr ⟨List.mem_of_getElem? (i := 9) (by decide +kernel), by decide +kernel⟩
theorem kw_10 : (Cond.selects RX9 yX9_need yX9_need) ∈ G := List.mem_filter.mpr ⟨List.mem_of_getElem? (i := 10) (by decide +kernel), by decide +kernel⟩
theorem kw_11 : (Cond.selects RX9 yX9_brown yX9_brown) ∈ G := List.mem_filter.mpr ⟨List.mem_of_getElem? (i := 11) (by decide +kernel), by decide +kernel⟩
theorem kw_12 : (Cond.selects RX9 yX9_price yX9_price) ∈ G := List.mem_filter.mpr ⟨List.mem_of_getElem? (i := 12) (by decide +kernel), by decide +kernel⟩
theorem kw_13 : (Cond.selects RX9 yX9_keeps yX9_keeps) ∈ G := List.mem_filter.mpr ⟨List.mem_of_getElem? (i := 13) (by decide +kernel), by decide +kernel⟩
theorem kw_14 : (Cond.selects RX9 yX9_glaze yX9_glaze) ∈ G := List.mem_filter.mpr ⟨List.mem_of_getElem? (i := 14) (by decide +kernel), by decide +kernel⟩
theorem kw_15 : (Cond.selects RX9 yX9_minute yX9_minute) ∈ G := List.mem_filter.mpr ⟨List.mem_of_getElem? (i := 15) (by decide +kernel), by decide +kernel⟩
theorem kw_16 : (Cond.selects RX9 yX9_massIn yX9_massIn) ∈ G := List.mem_filter.mpr ⟨List.mem_of_getElem? (i := 16) (by decide +kernel), by decide +kernel⟩
theorem kw_17 : (Cond.initialized RL) ∈ G := List.mem_filter.mpr ⟨List.mem_of_getElem? (i := 17) (by decide +kernel), by decide +kernel⟩
theorem kw_18 : (Cond.initialized RX8) ∈ G := List.mem_filter.mpr ⟨List.mem_of_getElem? (i := 18) (by decide +kernel), by decide +kernel⟩
theorem kw_19 : (Cond.initialized RX6) ∈ G := List.mem_filter.mpr ⟨List.mem_of_getElem? (i := 19) (by decide +kernel), by decide +kernel⟩
theorem kw_20 : (Cond.initialized RX9) ∈ G := List.mem_filter.mpr ⟨List.mem_of_getElem? (i := 20) (by decide +kernel), by decide +kernel⟩
theorem kw_21 : (Cond.initialized RX2) ∈ G := List.mem_filter.mpr ⟨List.mem_of_getElem? (i := 21) (by decide +kernel), by decide +kernel⟩
theorem kw_22 : (Cond.initialized RX7) ∈ G := List.mem_filter.mpr ⟨List.mem_of_getElem? (i := 22) (by decide +kernel), by decide +kernel⟩
theorem kw_23 : (Cond.initialized RX4) ∈ G := List.mem_filter.mpr ⟨List.mem_of_getElem? (i := 23) (by decide +kernel), by decide +kernel⟩
theorem kw_24 : (Cond.initialized RX3) ∈ G := List.mem_filter.mpr ⟨List.mem_of_getElem? (i := 24) (by decide +kernel), by decide +kernel⟩
theorem kw_25 : (Cond.initialized RX0) ∈ G := List.mem_filter.mpr ⟨List.mem_of_getElem? (i := 25) (by decide +kernel), by decide +kernel⟩
theorem kw_26 : (Cond.initialized RX5) ∈ G := List.mem_filter.mpr ⟨List.mem_of_getElem? (i := 26) (by decide +kernel), by decide +kernel⟩
theorem kw_27 : (Cond.initialized RX1) ∈ G := List.mem_filter.mpr ⟨List.mem_of_getElem? (i := 27) (by decide +kernel), by decide +kernel⟩
theorem kw_28 : (Cond.initialized RJ9) ∈ G := List.mem_filter.mpr ⟨List.mem_of_getElem? (i := 28) (by decide +kernel), by decide +kernel⟩
theorem kw_29 : (Cond.classLink RL 7 RX8) ∈ G := List.mem_filter.mpr ⟨List.mem_of_getElem? (i := 29) (by decide +kernel), by decide +kernel⟩
theorem kw_30 : (Cond.instantiable RX8 7) ∈ G := List.mem_filter.mpr ⟨List.mem_of_getElem? (i := 30) (by decide +kernel), by decide +kernel⟩
theorem kw_31 : (Cond.methodLink RL 9 yX8_init) ∈ G := List.mem_filter.mpr ⟨List.mem_of_getElem? (i := 31) (by decide +kernel), by decide +kernel⟩
theorem kw_32 : (Cond.instanceMethod yX8_init) ∈ G := List.mem_filter.mpr ⟨List.mem_of_getElem? (i := 32) (by decide +kernel), by decide +kernel⟩
theorem kw_33 : (Cond.code yX8_init cX8_init 1 none) ∈ G := List.mem_filter.mpr ⟨List.mem_of_getElem? (i := 33) (by decide +kernel), by decide +kernel⟩
theorem kw_34 : (Cond.methodLink RX8 1 objectInit) ∈ G := List.mem_filter.mpr ⟨List.mem_of_getElem? (i := 34) (by decide +kernel), by decide +kernel⟩
theorem kw_35 : (Cond.instanceMethod objectInit) ∈ G := List.mem_filter.mpr ⟨List.mem_of_getElem? (i := 35) (by decide +kernel), by decide +kernel⟩
theorem kw_36 : (Cond.code objectInit object_method_1_code 1 none) ∈ G := List.mem_filter.mpr ⟨List.mem_of_getElem? (i := 36) (by decide +kernel), by decide +kernel⟩
theorem kw_37 : (Cond.classLink RX8 9 RX2) ∈ G := List.mem_filter.mpr ⟨List.mem_of_getElem? (i := 37) (by decide +kernel), by decide +kernel⟩
theorem kw_39 : (Cond.classLink RX8 19 RX6) ∈ G := List.mem_filter.mpr ⟨List.mem_of_getElem? (i := 39) (by decide +kernel), by decide +kernel⟩
theorem kw_40 : (Cond.instantiable RX6 3) ∈ G := List.mem_filter.mpr ⟨List.mem_of_getElem? (i := 40) (by decide +kernel), by decide +kernel⟩
theorem kw_41 : (Cond.methodLink RX8 21 yX6_init) ∈ G := List.mem_filter.mpr ⟨List.mem_of_getElem? (i := 41) (by decide +kernel), by decide +kernel⟩
theorem kw_42 : (Cond.instanceMethod yX6_init) ∈ G := List.mem_filter.mpr ⟨List.mem_of_getElem? (i := 42) (by decide +kernel), by decide +kernel⟩
theorem kw_43 : (Cond.code yX6_init cX6_init 1 none) ∈ G := List.mem_filter.mpr ⟨List.mem_of_getElem? (i := 43) (by decide +kernel), by decide +kernel⟩
theorem kw_44 : (Cond.methodLink RX6 3 objectInit) ∈ G := List.mem_filter.mpr ⟨List.mem_of_getElem? (i := 44) (by decide +kernel), by decide +kernel⟩
theorem kw_45 : (Cond.fieldLink RX6 11 "DoughRoom$Trace" "numbers" "[I") ∈ G := List.mem_filter.mpr ⟨List.mem_of_getElem? (i := 45) (by decide +kernel), by decide +kernel⟩
theorem kw_46 : (Cond.fieldLink RX6 15 "DoughRoom$Trace" "length" "I") ∈ G := List.mem_filter.mpr ⟨List.mem_of_getElem? (i := 46) (by decide +kernel), by decide +kernel⟩
theorem kw_47 : (Cond.fieldLink RX6 19 "DoughRoom$Trace" "running" "Z") ∈ G := List.mem_filter.mpr ⟨List.mem_of_getElem? (i := 47) (by decide +kernel), by decide +kernel⟩
theorem kw_48 : (Cond.laysFinal RX6 "DoughRoom$Trace" "numbers" "[I") ∈ G := List.mem_filter.mpr ⟨List.mem_of_getElem? (i := 48) (by decide +kernel), by decide +kernel⟩
theorem kw_50 : (Cond.lays RX6 "DoughRoom$Trace" "length" "I") ∈ G := List.mem_filter.mpr ⟨List.mem_of_getElem? (i := 50) (by decide +kernel), by decide +kernel⟩
theorem kw_52 : (Cond.lays RX6 "DoughRoom$Trace" "running" "Z") ∈ G := List.mem_filter.mpr ⟨List.mem_of_getElem? (i := 52) (by decide +kernel), by decide +kernel⟩
theorem kw_54 : (Cond.superclass RX6 "java/lang/Object") ∈ G := List.mem_filter.mpr ⟨List.mem_of_getElem? (i := 54) (by decide +kernel), by decide +kernel⟩
theorem kw_55 : (Cond.arrayClass .int) ∈ G := List.mem_filter.mpr ⟨List.mem_of_getElem? (i := 55) (by decide +kernel), by decide +kernel⟩
theorem kw_56 : (Cond.fieldLink RX8 11 "DoughRoom" "batches" "[LDoughRoom$Dough;") ∈ G := List.mem_filter.mpr ⟨List.mem_of_getElem? (i := 56) (by decide +kernel), by decide +kernel⟩
theorem kw_57 : (Cond.fieldLink RX8 15 "DoughRoom" "heats" "[I") ∈ G := List.mem_filter.mpr ⟨List.mem_of_getElem? (i := 57) (by decide +kernel), by decide +kernel⟩
theorem kw_58 : (Cond.fieldLink RX8 22 "DoughRoom" "trace" "LDoughRoom$Trace;") ∈ G := List.mem_filter.mpr ⟨List.mem_of_getElem? (i := 58) (by decide +kernel), by decide +kernel⟩
theorem kw_59 : (Cond.fieldLink RX8 34 "DoughRoom" "made" "I") ∈ G := List.mem_filter.mpr ⟨List.mem_of_getElem? (i := 59) (by decide +kernel), by decide +kernel⟩
theorem kw_60 : (Cond.fieldLink RX8 26 "DoughRoom" "warmth" "I") ∈ G := List.mem_filter.mpr ⟨List.mem_of_getElem? (i := 60) (by decide +kernel), by decide +kernel⟩
theorem kw_61 : (Cond.fieldLink RX8 117 "DoughRoom" "days" "I") ∈ G := List.mem_filter.mpr ⟨List.mem_of_getElem? (i := 61) (by decide +kernel), by decide +kernel⟩
theorem kw_62 : (Cond.fieldLink RX8 129 "DoughRoom" "till" "I") ∈ G := List.mem_filter.mpr ⟨List.mem_of_getElem? (i := 62) (by decide +kernel), by decide +kernel⟩
theorem kw_63 : (Cond.laysFinal RX8 "DoughRoom" "batches" "[LDoughRoom$Dough;") ∈ G := List.mem_filter.mpr ⟨List.mem_of_getElem? (i := 63) (by decide +kernel), by decide +kernel⟩
theorem kw_65 : (Cond.laysFinal RX8 "DoughRoom" "heats" "[I") ∈ G := List.mem_filter.mpr ⟨List.mem_of_getElem? (i := 65) (by decide +kernel), by decide +kernel⟩
theorem kw_67 : (Cond.laysFinal RX8 "DoughRoom" "trace" "LDoughRoom$Trace;") ∈ G := List.mem_filter.mpr ⟨List.mem_of_getElem? (i := 67) (by decide +kernel), by decide +kernel⟩
theorem kw_69 : (Cond.lays RX8 "DoughRoom" "made" "I") ∈ G := List.mem_filter.mpr ⟨List.mem_of_getElem? (i := 69) (by decide +kernel), by decide +kernel⟩
theorem kw_71 : (Cond.lays RX8 "DoughRoom" "warmth" "I") ∈ G := List.mem_filter.mpr ⟨List.mem_of_getElem? (i := 71) (by decide +kernel), by decide +kernel⟩
theorem kw_73 : (Cond.lays RX8 "DoughRoom" "days" "I") ∈ G := List.mem_filter.mpr ⟨List.mem_of_getElem? (i := 73) (by decide +kernel), by decide +kernel⟩
theorem kw_75 : (Cond.lays RX8 "DoughRoom" "till" "I") ∈ G := List.mem_filter.mpr ⟨List.mem_of_getElem? (i := 75) (by decide +kernel), by decide +kernel⟩
theorem kw_77 : (Cond.superclass RX8 "java/lang/Object") ∈ G := List.mem_filter.mpr ⟨List.mem_of_getElem? (i := 77) (by decide +kernel), by decide +kernel⟩
theorem kw_78 : (Cond.methodLink RL 13 yX8_batch) ∈ G := List.mem_filter.mpr ⟨List.mem_of_getElem? (i := 78) (by decide +kernel), by decide +kernel⟩
theorem kw_79 : (Cond.instanceMethod yX8_batch) ∈ G := List.mem_filter.mpr ⟨List.mem_of_getElem? (i := 79) (by decide +kernel), by decide +kernel⟩
theorem kw_80 : (Cond.selects RX8 yX8_batch yX8_batch) ∈ G := List.mem_filter.mpr ⟨List.mem_of_getElem? (i := 80) (by decide +kernel), by decide +kernel⟩
theorem kw_81 : (Cond.code yX8_batch cX8_batch 3 (some .int)) ∈ G := List.mem_filter.mpr ⟨List.mem_of_getElem? (i := 81) (by decide +kernel), by decide +kernel⟩
theorem kw_82 : (Cond.methodLink RX8 30 yX8_within) ∈ G := List.mem_filter.mpr ⟨List.mem_of_getElem? (i := 82) (by decide +kernel), by decide +kernel⟩
theorem kw_83 : (Cond.static yX8_within) ∈ G := List.mem_filter.mpr ⟨List.mem_of_getElem? (i := 83) (by decide +kernel), by decide +kernel⟩
theorem kw_84 : (Cond.code yX8_within cX8_within 3 (some .boolean)) ∈ G := List.mem_filter.mpr ⟨List.mem_of_getElem? (i := 84) (by decide +kernel), by decide +kernel⟩
theorem kw_85 : (Cond.methodLink RX8 37 yX8_knead) ∈ G := List.mem_filter.mpr ⟨List.mem_of_getElem? (i := 85) (by decide +kernel), by decide +kernel⟩
theorem kw_87 : (Cond.instanceMethod yX8_knead) ∈ G := List.mem_filter.mpr ⟨List.mem_of_getElem? (i := 87) (by decide +kernel), by decide +kernel⟩
theorem kw_88 : (Cond.code yX8_knead cX8_knead 3 (some (.object "DoughRoom$Dough"))) ∈ G := List.mem_filter.mpr ⟨List.mem_of_getElem? (i := 88) (by decide +kernel), by decide +kernel⟩
theorem kw_89 : (Cond.classLink RX8 135 RX7) ∈ G := List.mem_filter.mpr ⟨List.mem_of_getElem? (i := 89) (by decide +kernel), by decide +kernel⟩
theorem kw_90 : (Cond.instantiable RX7 8) ∈ G := List.mem_filter.mpr ⟨List.mem_of_getElem? (i := 90) (by decide +kernel), by decide +kernel⟩
theorem kw_91 : (Cond.methodLink RX8 137 yX7_init) ∈ G := List.mem_filter.mpr ⟨List.mem_of_getElem? (i := 91) (by decide +kernel), by decide +kernel⟩
theorem kw_92 : (Cond.instanceMethod yX7_init) ∈ G := List.mem_filter.mpr ⟨List.mem_of_getElem? (i := 92) (by decide +kernel), by decide +kernel⟩
theorem kw_93 : (Cond.code yX7_init cX7_init 4 none) ∈ G := List.mem_filter.mpr ⟨List.mem_of_getElem? (i := 93) (by decide +kernel), by decide +kernel⟩
theorem kw_94 : (Cond.methodLink RX7 1 yX2_init) ∈ G := List.mem_filter.mpr ⟨List.mem_of_getElem? (i := 94) (by decide +kernel), by decide +kernel⟩
theorem kw_95 : (Cond.instanceMethod yX2_init) ∈ G := List.mem_filter.mpr ⟨List.mem_of_getElem? (i := 95) (by decide +kernel), by decide +kernel⟩
theorem kw_96 : (Cond.code yX2_init cX2_init 4 none) ∈ G := List.mem_filter.mpr ⟨List.mem_of_getElem? (i := 96) (by decide +kernel), by decide +kernel⟩
theorem kw_97 : (Cond.methodLink RX2 3 objectInit) ∈ G := List.mem_filter.mpr ⟨List.mem_of_getElem? (i := 97) (by decide +kernel), by decide +kernel⟩
theorem kw_98 : (Cond.fieldLink RX2 9 "DoughRoom$Dough" "kind" "I") ∈ G := List.mem_filter.mpr ⟨List.mem_of_getElem? (i := 98) (by decide +kernel), by decide +kernel⟩
theorem kw_99 : (Cond.fieldLink RX8 132 "DoughRoom$Dough" "kind" "I") ∈ G := List.mem_filter.mpr ⟨List.mem_of_getElem? (i := 99) (by decide +kernel), by decide +kernel⟩
theorem kw_100 : (Cond.fieldLink RX2 15 "DoughRoom$Dough" "mass" "I") ∈ G := List.mem_filter.mpr ⟨List.mem_of_getElem? (i := 100) (by decide +kernel), by decide +kernel⟩
theorem kw_101 : (Cond.fieldLink RX8 111 "DoughRoom$Dough" "mass" "I") ∈ G := List.mem_filter.mpr ⟨List.mem_of_getElem? (i := 101) (by decide +kernel), by decide +kernel⟩
theorem kw_102 : (Cond.fieldLink RX2 18 "DoughRoom$Dough" "trace" "LDoughRoom$Trace;") ∈ G := List.mem_filter.mpr ⟨List.mem_of_getElem? (i := 102) (by decide +kernel), by decide +kernel⟩
theorem kw_103 : (Cond.fieldLink RX0 7 "DoughRoom$Black" "trace" "LDoughRoom$Trace;") ∈ G := List.mem_filter.mpr ⟨List.mem_of_getElem? (i := 103) (by decide +kernel), by decide +kernel⟩
theorem kw_104 : (Cond.sameField "DoughRoom$Black" "DoughRoom$Dough" "trace" "LDoughRoom$Trace;") ∈ G := List.mem_filter.mpr ⟨List.mem_of_getElem? (i := 104) (by decide +kernel), by decide +kernel⟩
theorem kw_105 : (Cond.fieldLink RX4 7 "DoughRoom$Sour" "trace" "LDoughRoom$Trace;") ∈ G := List.mem_filter.mpr ⟨List.mem_of_getElem? (i := 105) (by decide +kernel), by decide +kernel⟩
theorem kw_106 : (Cond.sameField "DoughRoom$Sour" "DoughRoom$Dough" "trace" "LDoughRoom$Trace;") ∈ G := List.mem_filter.mpr ⟨List.mem_of_getElem? (i := 106) (by decide +kernel), by decide +kernel⟩
theorem kw_107 : (Cond.fieldLink RX1 7 "DoughRoom$Butter" "trace" "LDoughRoom$Trace;") ∈ G := List.mem_filter.mpr ⟨List.mem_of_getElem? (i := 107) (by decide +kernel), by decide +kernel⟩
theorem kw_108 : (Cond.sameField "DoughRoom$Butter" "DoughRoom$Dough" "trace" "LDoughRoom$Trace;") ∈ G := List.mem_filter.mpr ⟨List.mem_of_getElem? (i := 108) (by decide +kernel), by decide +kernel⟩
theorem kw_109 : (Cond.fieldLink RX3 7 "DoughRoom$Rye" "trace" "LDoughRoom$Trace;") ∈ G := List.mem_filter.mpr ⟨List.mem_of_getElem? (i := 109) (by decide +kernel), by decide +kernel⟩
theorem kw_110 : (Cond.sameField "DoughRoom$Rye" "DoughRoom$Dough" "trace" "LDoughRoom$Trace;") ∈ G := List.mem_filter.mpr ⟨List.mem_of_getElem? (i := 110) (by decide +kernel), by decide +kernel⟩
theorem kw_111 : (Cond.fieldLink RX7 7 "DoughRoom$Yeast" "trace" "LDoughRoom$Trace;") ∈ G := List.mem_filter.mpr ⟨List.mem_of_getElem? (i := 111) (by decide +kernel), by decide +kernel⟩
theorem kw_112 : (Cond.sameField "DoughRoom$Yeast" "DoughRoom$Dough" "trace" "LDoughRoom$Trace;") ∈ G := List.mem_filter.mpr ⟨List.mem_of_getElem? (i := 112) (by decide +kernel), by decide +kernel⟩
theorem kw_113 : (Cond.fieldLink RX5 7 "DoughRoom$Sweet" "trace" "LDoughRoom$Trace;") ∈ G := List.mem_filter.mpr ⟨List.mem_of_getElem? (i := 113) (by decide +kernel), by decide +kernel⟩
theorem kw_114 : (Cond.sameField "DoughRoom$Sweet" "DoughRoom$Dough" "trace" "LDoughRoom$Trace;") ∈ G := List.mem_filter.mpr ⟨List.mem_of_getElem? (i := 114) (by decide +kernel), by decide +kernel⟩
theorem kw_115 : (Cond.fieldLink RX2 22 "DoughRoom$Dough" "state" "I") ∈ G := List.mem_filter.mpr ⟨List.mem_of_getElem? (i := 115) (by decide +kernel), by decide +kernel⟩
theorem kw_116 : (Cond.fieldLink RX8 89 "DoughRoom$Dough" "state" "I") ∈ G := List.mem_filter.mpr ⟨List.mem_of_getElem? (i := 116) (by decide +kernel), by decide +kernel⟩
theorem kw_117 : (Cond.fieldLink RX2 39 "DoughRoom$Dough" "risen" "I") ∈ G := List.mem_filter.mpr ⟨List.mem_of_getElem? (i := 117) (by decide +kernel), by decide +kernel⟩
theorem kw_118 : (Cond.fieldLink RX8 105 "DoughRoom$Dough" "risen" "I") ∈ G := List.mem_filter.mpr ⟨List.mem_of_getElem? (i := 118) (by decide +kernel), by decide +kernel⟩
theorem kw_119 : (Cond.fieldLink RX2 45 "DoughRoom$Dough" "browned" "I") ∈ G := List.mem_filter.mpr ⟨List.mem_of_getElem? (i := 119) (by decide +kernel), by decide +kernel⟩
theorem kw_120 : (Cond.fieldLink RX8 114 "DoughRoom$Dough" "browned" "I") ∈ G := List.mem_filter.mpr ⟨List.mem_of_getElem? (i := 120) (by decide +kernel), by decide +kernel⟩
theorem kw_121 : (Cond.fieldLink RX8 96 "DoughRoom$Dough" "oven" "I") ∈ G := List.mem_filter.mpr ⟨List.mem_of_getElem? (i := 121) (by decide +kernel), by decide +kernel⟩
theorem kw_122 : (Cond.fieldLink RX8 120 "DoughRoom$Dough" "doneSince" "I") ∈ G := List.mem_filter.mpr ⟨List.mem_of_getElem? (i := 122) (by decide +kernel), by decide +kernel⟩
theorem kw_123 : (Cond.laysFinal RX7 "DoughRoom$Dough" "kind" "I") ∈ G := List.mem_filter.mpr ⟨List.mem_of_getElem? (i := 123) (by decide +kernel), by decide +kernel⟩
theorem kw_125 : (Cond.laysFinal RX7 "DoughRoom$Dough" "mass" "I") ∈ G := List.mem_filter.mpr ⟨List.mem_of_getElem? (i := 125) (by decide +kernel), by decide +kernel⟩
theorem kw_127 : (Cond.laysFinal RX7 "DoughRoom$Dough" "trace" "LDoughRoom$Trace;") ∈ G := List.mem_filter.mpr ⟨List.mem_of_getElem? (i := 127) (by decide +kernel), by decide +kernel⟩
theorem kw_129 : (Cond.lays RX7 "DoughRoom$Dough" "state" "I") ∈ G := List.mem_filter.mpr ⟨List.mem_of_getElem? (i := 129) (by decide +kernel), by decide +kernel⟩
theorem kw_131 : (Cond.lays RX7 "DoughRoom$Dough" "risen" "I") ∈ G := List.mem_filter.mpr ⟨List.mem_of_getElem? (i := 131) (by decide +kernel), by decide +kernel⟩
theorem kw_133 : (Cond.lays RX7 "DoughRoom$Dough" "browned" "I") ∈ G := List.mem_filter.mpr ⟨List.mem_of_getElem? (i := 133) (by decide +kernel), by decide +kernel⟩
theorem kw_135 : (Cond.lays RX7 "DoughRoom$Dough" "oven" "I") ∈ G := List.mem_filter.mpr ⟨List.mem_of_getElem? (i := 135) (by decide +kernel), by decide +kernel⟩
theorem kw_137 : (Cond.lays RX7 "DoughRoom$Dough" "doneSince" "I") ∈ G := List.mem_filter.mpr ⟨List.mem_of_getElem? (i := 137) (by decide +kernel), by decide +kernel⟩
theorem kw_139 : (Cond.superclass RX7 RX2) ∈ G := List.mem_filter.mpr ⟨List.mem_of_getElem? (i := 139) (by decide +kernel), by decide +kernel⟩
theorem kw_140 : (Cond.classLink RX8 66 RX4) ∈ G := List.mem_filter.mpr ⟨List.mem_of_getElem? (i := 140) (by decide +kernel), by decide +kernel⟩
theorem kw_141 : (Cond.instantiable RX4 8) ∈ G := List.mem_filter.mpr ⟨List.mem_of_getElem? (i := 141) (by decide +kernel), by decide +kernel⟩
theorem kw_142 : (Cond.methodLink RX8 140 yX4_init) ∈ G := List.mem_filter.mpr ⟨List.mem_of_getElem? (i := 142) (by decide +kernel), by decide +kernel⟩
theorem kw_143 : (Cond.instanceMethod yX4_init) ∈ G := List.mem_filter.mpr ⟨List.mem_of_getElem? (i := 143) (by decide +kernel), by decide +kernel⟩
theorem kw_144 : (Cond.code yX4_init cX4_init 4 none) ∈ G := List.mem_filter.mpr ⟨List.mem_of_getElem? (i := 144) (by decide +kernel), by decide +kernel⟩
theorem kw_145 : (Cond.methodLink RX4 1 yX7_init) ∈ G := List.mem_filter.mpr ⟨List.mem_of_getElem? (i := 145) (by decide +kernel), by decide +kernel⟩
theorem kw_146 : (Cond.laysFinal RX4 "DoughRoom$Dough" "kind" "I") ∈ G := List.mem_filter.mpr ⟨List.mem_of_getElem? (i := 146) (by decide +kernel), by decide +kernel⟩
theorem kw_147 : (Cond.laysFinal RX4 "DoughRoom$Dough" "mass" "I") ∈ G := List.mem_filter.mpr ⟨List.mem_of_getElem? (i := 147) (by decide +kernel), by decide +kernel⟩
theorem kw_148 : (Cond.laysFinal RX4 "DoughRoom$Dough" "trace" "LDoughRoom$Trace;") ∈ G := List.mem_filter.mpr ⟨List.mem_of_getElem? (i := 148) (by decide +kernel), by decide +kernel⟩
theorem kw_149 : (Cond.lays RX4 "DoughRoom$Dough" "state" "I") ∈ G := List.mem_filter.mpr ⟨List.mem_of_getElem? (i := 149) (by decide +kernel), by decide +kernel⟩
theorem kw_150 : (Cond.lays RX4 "DoughRoom$Dough" "risen" "I") ∈ G := List.mem_filter.mpr ⟨List.mem_of_getElem? (i := 150) (by decide +kernel), by decide +kernel⟩
theorem kw_151 : (Cond.lays RX4 "DoughRoom$Dough" "browned" "I") ∈ G := List.mem_filter.mpr ⟨List.mem_of_getElem? (i := 151) (by decide +kernel), by decide +kernel⟩
theorem kw_152 : (Cond.lays RX4 "DoughRoom$Dough" "oven" "I") ∈ G := List.mem_filter.mpr ⟨List.mem_of_getElem? (i := 152) (by decide +kernel), by decide +kernel⟩
theorem kw_153 : (Cond.lays RX4 "DoughRoom$Dough" "doneSince" "I") ∈ G := List.mem_filter.mpr ⟨List.mem_of_getElem? (i := 153) (by decide +kernel), by decide +kernel⟩
theorem kw_154 : (Cond.superclass RX4 RX7) ∈ G := List.mem_filter.mpr ⟨List.mem_of_getElem? (i := 154) (by decide +kernel), by decide +kernel⟩
theorem kw_155 : (Cond.classLink RX8 141 RX3) ∈ G := List.mem_filter.mpr ⟨List.mem_of_getElem? (i := 155) (by decide +kernel), by decide +kernel⟩
theorem kw_156 : (Cond.instantiable RX3 8) ∈ G := List.mem_filter.mpr ⟨List.mem_of_getElem? (i := 156) (by decide +kernel), by decide +kernel⟩
theorem kw_157 : (Cond.methodLink RX8 143 yX3_init) ∈ G := List.mem_filter.mpr ⟨List.mem_of_getElem? (i := 157) (by decide +kernel), by decide +kernel⟩
theorem kw_158 : (Cond.instanceMethod yX3_init) ∈ G := List.mem_filter.mpr ⟨List.mem_of_getElem? (i := 158) (by decide +kernel), by decide +kernel⟩
theorem kw_159 : (Cond.code yX3_init cX3_init 4 none) ∈ G := List.mem_filter.mpr ⟨List.mem_of_getElem? (i := 159) (by decide +kernel), by decide +kernel⟩
theorem kw_160 : (Cond.methodLink RX3 1 yX4_init) ∈ G := List.mem_filter.mpr ⟨List.mem_of_getElem? (i := 160) (by decide +kernel), by decide +kernel⟩
theorem kw_161 : (Cond.laysFinal RX3 "DoughRoom$Dough" "kind" "I") ∈ G := List.mem_filter.mpr ⟨List.mem_of_getElem? (i := 161) (by decide +kernel), by decide +kernel⟩
theorem kw_162 : (Cond.laysFinal RX3 "DoughRoom$Dough" "mass" "I") ∈ G := List.mem_filter.mpr ⟨List.mem_of_getElem? (i := 162) (by decide +kernel), by decide +kernel⟩
theorem kw_163 : (Cond.laysFinal RX3 "DoughRoom$Dough" "trace" "LDoughRoom$Trace;") ∈ G := List.mem_filter.mpr ⟨List.mem_of_getElem? (i := 163) (by decide +kernel), by decide +kernel⟩
theorem kw_164 : (Cond.lays RX3 "DoughRoom$Dough" "state" "I") ∈ G := List.mem_filter.mpr ⟨List.mem_of_getElem? (i := 164) (by decide +kernel), by decide +kernel⟩
theorem kw_165 : (Cond.lays RX3 "DoughRoom$Dough" "risen" "I") ∈ G := List.mem_filter.mpr ⟨List.mem_of_getElem? (i := 165) (by decide +kernel), by decide +kernel⟩
theorem kw_166 : (Cond.lays RX3 "DoughRoom$Dough" "browned" "I") ∈ G := List.mem_filter.mpr ⟨List.mem_of_getElem? (i := 166) (by decide +kernel), by decide +kernel⟩
theorem kw_167 : (Cond.lays RX3 "DoughRoom$Dough" "oven" "I") ∈ G := List.mem_filter.mpr ⟨List.mem_of_getElem? (i := 167) (by decide +kernel), by decide +kernel⟩
theorem kw_168 : (Cond.lays RX3 "DoughRoom$Dough" "doneSince" "I") ∈ G := List.mem_filter.mpr ⟨List.mem_of_getElem? (i := 168) (by decide +kernel), by decide +kernel⟩
theorem kw_169 : (Cond.superclass RX3 RX4) ∈ G := List.mem_filter.mpr ⟨List.mem_of_getElem? (i := 169) (by decide +kernel), by decide +kernel⟩
theorem kw_170 : (Cond.classLink RX8 144 RX0) ∈ G := List.mem_filter.mpr ⟨List.mem_of_getElem? (i := 170) (by decide +kernel), by decide +kernel⟩
theorem kw_171 : (Cond.instantiable RX0 8) ∈ G := List.mem_filter.mpr ⟨List.mem_of_getElem? (i := 171) (by decide +kernel), by decide +kernel⟩
theorem kw_172 : (Cond.methodLink RX8 146 yX0_init) ∈ G := List.mem_filter.mpr ⟨List.mem_of_getElem? (i := 172) (by decide +kernel), by decide +kernel⟩
theorem kw_173 : (Cond.instanceMethod yX0_init) ∈ G := List.mem_filter.mpr ⟨List.mem_of_getElem? (i := 173) (by decide +kernel), by decide +kernel⟩
theorem kw_174 : (Cond.code yX0_init cX0_init 4 none) ∈ G := List.mem_filter.mpr ⟨List.mem_of_getElem? (i := 174) (by decide +kernel), by decide +kernel⟩
theorem kw_175 : (Cond.methodLink RX0 1 yX3_init) ∈ G := List.mem_filter.mpr ⟨List.mem_of_getElem? (i := 175) (by decide +kernel), by decide +kernel⟩
theorem kw_176 : (Cond.laysFinal RX0 "DoughRoom$Dough" "kind" "I") ∈ G := List.mem_filter.mpr ⟨List.mem_of_getElem? (i := 176) (by decide +kernel), by decide +kernel⟩
theorem kw_177 : (Cond.laysFinal RX0 "DoughRoom$Dough" "mass" "I") ∈ G := List.mem_filter.mpr ⟨List.mem_of_getElem? (i := 177) (by decide +kernel), by decide +kernel⟩
theorem kw_178 : (Cond.laysFinal RX0 "DoughRoom$Dough" "trace" "LDoughRoom$Trace;") ∈ G := List.mem_filter.mpr ⟨List.mem_of_getElem? (i := 178) (by decide +kernel), by decide +kernel⟩
theorem kw_179 : (Cond.lays RX0 "DoughRoom$Dough" "state" "I") ∈ G := List.mem_filter.mpr ⟨List.mem_of_getElem? (i := 179) (by decide +kernel), by decide +kernel⟩
theorem kw_180 : (Cond.lays RX0 "DoughRoom$Dough" "risen" "I") ∈ G := List.mem_filter.mpr ⟨List.mem_of_getElem? (i := 180) (by decide +kernel), by decide +kernel⟩
theorem kw_181 : (Cond.lays RX0 "DoughRoom$Dough" "browned" "I") ∈ G := List.mem_filter.mpr ⟨List.mem_of_getElem? (i := 181) (by decide +kernel), by decide +kernel⟩
theorem kw_182 : (Cond.lays RX0 "DoughRoom$Dough" "oven" "I") ∈ G := List.mem_filter.mpr ⟨List.mem_of_getElem? (i := 182) (by decide +kernel), by decide +kernel⟩
theorem kw_183 : (Cond.lays RX0 "DoughRoom$Dough" "doneSince" "I") ∈ G := List.mem_filter.mpr ⟨List.mem_of_getElem? (i := 183) (by decide +kernel), by decide +kernel⟩
theorem kw_184 : (Cond.superclass RX0 RX3) ∈ G := List.mem_filter.mpr ⟨List.mem_of_getElem? (i := 184) (by decide +kernel), by decide +kernel⟩
theorem kw_185 : (Cond.classLink RX8 71 RX5) ∈ G := List.mem_filter.mpr ⟨List.mem_of_getElem? (i := 185) (by decide +kernel), by decide +kernel⟩
theorem kw_186 : (Cond.instantiable RX5 8) ∈ G := List.mem_filter.mpr ⟨List.mem_of_getElem? (i := 186) (by decide +kernel), by decide +kernel⟩
theorem kw_187 : (Cond.methodLink RX8 147 yX5_init) ∈ G := List.mem_filter.mpr ⟨List.mem_of_getElem? (i := 187) (by decide +kernel), by decide +kernel⟩
theorem kw_188 : (Cond.instanceMethod yX5_init) ∈ G := List.mem_filter.mpr ⟨List.mem_of_getElem? (i := 188) (by decide +kernel), by decide +kernel⟩
theorem kw_189 : (Cond.code yX5_init cX5_init 4 none) ∈ G := List.mem_filter.mpr ⟨List.mem_of_getElem? (i := 189) (by decide +kernel), by decide +kernel⟩
theorem kw_190 : (Cond.methodLink RX5 1 yX2_init) ∈ G := List.mem_filter.mpr ⟨List.mem_of_getElem? (i := 190) (by decide +kernel), by decide +kernel⟩
theorem kw_191 : (Cond.laysFinal RX5 "DoughRoom$Dough" "kind" "I") ∈ G := List.mem_filter.mpr ⟨List.mem_of_getElem? (i := 191) (by decide +kernel), by decide +kernel⟩
theorem kw_192 : (Cond.laysFinal RX5 "DoughRoom$Dough" "mass" "I") ∈ G := List.mem_filter.mpr ⟨List.mem_of_getElem? (i := 192) (by decide +kernel), by decide +kernel⟩
theorem kw_193 : (Cond.laysFinal RX5 "DoughRoom$Dough" "trace" "LDoughRoom$Trace;") ∈ G := List.mem_filter.mpr ⟨List.mem_of_getElem? (i := 193) (by decide +kernel), by decide +kernel⟩
theorem kw_194 : (Cond.lays RX5 "DoughRoom$Dough" "state" "I") ∈ G := List.mem_filter.mpr ⟨List.mem_of_getElem? (i := 194) (by decide +kernel), by decide +kernel⟩
theorem kw_195 : (Cond.lays RX5 "DoughRoom$Dough" "risen" "I") ∈ G := List.mem_filter.mpr ⟨List.mem_of_getElem? (i := 195) (by decide +kernel), by decide +kernel⟩
theorem kw_196 : (Cond.lays RX5 "DoughRoom$Dough" "browned" "I") ∈ G := List.mem_filter.mpr ⟨List.mem_of_getElem? (i := 196) (by decide +kernel), by decide +kernel⟩
theorem kw_197 : (Cond.lays RX5 "DoughRoom$Dough" "oven" "I") ∈ G := List.mem_filter.mpr ⟨List.mem_of_getElem? (i := 197) (by decide +kernel), by decide +kernel⟩
theorem kw_198 : (Cond.lays RX5 "DoughRoom$Dough" "doneSince" "I") ∈ G := List.mem_filter.mpr ⟨List.mem_of_getElem? (i := 198) (by decide +kernel), by decide +kernel⟩
theorem kw_199 : (Cond.superclass RX5 RX2) ∈ G := List.mem_filter.mpr ⟨List.mem_of_getElem? (i := 199) (by decide +kernel), by decide +kernel⟩
theorem kw_200 : (Cond.classLink RX8 148 RX1) ∈ G := List.mem_filter.mpr ⟨List.mem_of_getElem? (i := 200) (by decide +kernel), by decide +kernel⟩
theorem kw_201 : (Cond.instantiable RX1 8) ∈ G := List.mem_filter.mpr ⟨List.mem_of_getElem? (i := 201) (by decide +kernel), by decide +kernel⟩
theorem kw_202 : (Cond.methodLink RX8 150 yX1_init) ∈ G := List.mem_filter.mpr ⟨List.mem_of_getElem? (i := 202) (by decide +kernel), by decide +kernel⟩
theorem kw_203 : (Cond.instanceMethod yX1_init) ∈ G := List.mem_filter.mpr ⟨List.mem_of_getElem? (i := 203) (by decide +kernel), by decide +kernel⟩
theorem kw_204 : (Cond.code yX1_init cX1_init 4 none) ∈ G := List.mem_filter.mpr ⟨List.mem_of_getElem? (i := 204) (by decide +kernel), by decide +kernel⟩
theorem kw_205 : (Cond.methodLink RX1 1 yX5_init) ∈ G := List.mem_filter.mpr ⟨List.mem_of_getElem? (i := 205) (by decide +kernel), by decide +kernel⟩
theorem kw_206 : (Cond.laysFinal RX1 "DoughRoom$Dough" "kind" "I") ∈ G := List.mem_filter.mpr ⟨List.mem_of_getElem? (i := 206) (by decide +kernel), by decide +kernel⟩
theorem kw_207 : (Cond.laysFinal RX1 "DoughRoom$Dough" "mass" "I") ∈ G := List.mem_filter.mpr ⟨List.mem_of_getElem? (i := 207) (by decide +kernel), by decide +kernel⟩
theorem kw_208 : (Cond.laysFinal RX1 "DoughRoom$Dough" "trace" "LDoughRoom$Trace;") ∈ G := List.mem_filter.mpr ⟨List.mem_of_getElem? (i := 208) (by decide +kernel), by decide +kernel⟩
theorem kw_209 : (Cond.lays RX1 "DoughRoom$Dough" "state" "I") ∈ G := List.mem_filter.mpr ⟨List.mem_of_getElem? (i := 209) (by decide +kernel), by decide +kernel⟩
theorem kw_210 : (Cond.lays RX1 "DoughRoom$Dough" "risen" "I") ∈ G := List.mem_filter.mpr ⟨List.mem_of_getElem? (i := 210) (by decide +kernel), by decide +kernel⟩
theorem kw_211 : (Cond.lays RX1 "DoughRoom$Dough" "browned" "I") ∈ G := List.mem_filter.mpr ⟨List.mem_of_getElem? (i := 211) (by decide +kernel), by decide +kernel⟩
theorem kw_212 : (Cond.lays RX1 "DoughRoom$Dough" "oven" "I") ∈ G := List.mem_filter.mpr ⟨List.mem_of_getElem? (i := 212) (by decide +kernel), by decide +kernel⟩
theorem kw_213 : (Cond.lays RX1 "DoughRoom$Dough" "doneSince" "I") ∈ G := List.mem_filter.mpr ⟨List.mem_of_getElem? (i := 213) (by decide +kernel), by decide +kernel⟩
theorem kw_214 : (Cond.superclass RX1 RX5) ∈ G := List.mem_filter.mpr ⟨List.mem_of_getElem? (i := 214) (by decide +kernel), by decide +kernel⟩
theorem kw_215 : (Cond.instantiable RX2 8) ∈ G := List.mem_filter.mpr ⟨List.mem_of_getElem? (i := 215) (by decide +kernel), by decide +kernel⟩
theorem kw_216 : (Cond.methodLink RX8 151 yX2_init) ∈ G := List.mem_filter.mpr ⟨List.mem_of_getElem? (i := 216) (by decide +kernel), by decide +kernel⟩
theorem kw_217 : (Cond.laysFinal RX2 "DoughRoom$Dough" "kind" "I") ∈ G := List.mem_filter.mpr ⟨List.mem_of_getElem? (i := 217) (by decide +kernel), by decide +kernel⟩
theorem kw_218 : (Cond.laysFinal RX2 "DoughRoom$Dough" "mass" "I") ∈ G := List.mem_filter.mpr ⟨List.mem_of_getElem? (i := 218) (by decide +kernel), by decide +kernel⟩
theorem kw_219 : (Cond.laysFinal RX2 "DoughRoom$Dough" "trace" "LDoughRoom$Trace;") ∈ G := List.mem_filter.mpr ⟨List.mem_of_getElem? (i := 219) (by decide +kernel), by decide +kernel⟩
theorem kw_220 : (Cond.lays RX2 "DoughRoom$Dough" "state" "I") ∈ G := List.mem_filter.mpr ⟨List.mem_of_getElem? (i := 220) (by decide +kernel), by decide +kernel⟩
theorem kw_221 : (Cond.lays RX2 "DoughRoom$Dough" "risen" "I") ∈ G := List.mem_filter.mpr ⟨List.mem_of_getElem? (i := 221) (by decide +kernel), by decide +kernel⟩
theorem kw_222 : (Cond.lays RX2 "DoughRoom$Dough" "browned" "I") ∈ G := List.mem_filter.mpr ⟨List.mem_of_getElem? (i := 222) (by decide +kernel), by decide +kernel⟩
theorem kw_223 : (Cond.lays RX2 "DoughRoom$Dough" "oven" "I") ∈ G := List.mem_filter.mpr ⟨List.mem_of_getElem? (i := 223) (by decide +kernel), by decide +kernel⟩
theorem kw_224 : (Cond.lays RX2 "DoughRoom$Dough" "doneSince" "I") ∈ G := List.mem_filter.mpr ⟨List.mem_of_getElem? (i := 224) (by decide +kernel), by decide +kernel⟩
theorem kw_225 : (Cond.superclass RX2 "java/lang/Object") ∈ G := List.mem_filter.mpr ⟨List.mem_of_getElem? (i := 225) (by decide +kernel), by decide +kernel⟩
theorem kw_226 : (Cond.methodLink RL 18 yX8_ask) ∈ G := List.mem_filter.mpr ⟨List.mem_of_getElem? (i := 226) (by decide +kernel), by decide +kernel⟩
theorem kw_227 : (Cond.instanceMethod yX8_ask) ∈ G := List.mem_filter.mpr ⟨List.mem_of_getElem? (i := 227) (by decide +kernel), by decide +kernel⟩
theorem kw_228 : (Cond.selects RX8 yX8_ask yX8_ask) ∈ G := List.mem_filter.mpr ⟨List.mem_of_getElem? (i := 228) (by decide +kernel), by decide +kernel⟩
theorem kw_229 : (Cond.code yX8_ask cX8_ask 7 (some .int)) ∈ G := List.mem_filter.mpr ⟨List.mem_of_getElem? (i := 229) (by decide +kernel), by decide +kernel⟩
theorem kw_230 : (Cond.methodLink RX8 41 yX8_find) ∈ G := List.mem_filter.mpr ⟨List.mem_of_getElem? (i := 230) (by decide +kernel), by decide +kernel⟩
theorem kw_232 : (Cond.instanceMethod yX8_find) ∈ G := List.mem_filter.mpr ⟨List.mem_of_getElem? (i := 232) (by decide +kernel), by decide +kernel⟩
theorem kw_233 : (Cond.code yX8_find cX8_find 2 (some (.object "DoughRoom$Dough"))) ∈ G := List.mem_filter.mpr ⟨List.mem_of_getElem? (i := 233) (by decide +kernel), by decide +kernel⟩
theorem kw_234 : (Cond.methodLink RX8 45 yX8_isQuestion) ∈ G := List.mem_filter.mpr ⟨List.mem_of_getElem? (i := 234) (by decide +kernel), by decide +kernel⟩
theorem kw_235 : (Cond.static yX8_isQuestion) ∈ G := List.mem_filter.mpr ⟨List.mem_of_getElem? (i := 235) (by decide +kernel), by decide +kernel⟩
theorem kw_236 : (Cond.code yX8_isQuestion cX8_isQuestion 2 (some .boolean)) ∈ G := List.mem_filter.mpr ⟨List.mem_of_getElem? (i := 236) (by decide +kernel), by decide +kernel⟩
theorem kw_237 : (Cond.methodLink RX8 49 yX6_start) ∈ G := List.mem_filter.mpr ⟨List.mem_of_getElem? (i := 237) (by decide +kernel), by decide +kernel⟩
theorem kw_238 : (Cond.instanceMethod yX6_start) ∈ G := List.mem_filter.mpr ⟨List.mem_of_getElem? (i := 238) (by decide +kernel), by decide +kernel⟩
theorem kw_239 : (Cond.selects RX6 yX6_start yX6_start) ∈ G := List.mem_filter.mpr ⟨List.mem_of_getElem? (i := 239) (by decide +kernel), by decide +kernel⟩
theorem kw_240 : (Cond.code yX6_start cX6_start 1 none) ∈ G := List.mem_filter.mpr ⟨List.mem_of_getElem? (i := 240) (by decide +kernel), by decide +kernel⟩
theorem kw_241 : (Cond.methodLink RX8 52 yX2_rise) ∈ G := List.mem_filter.mpr ⟨List.mem_of_getElem? (i := 241) (by decide +kernel), by decide +kernel⟩
theorem kw_242 : (Cond.instanceMethod yX2_rise) ∈ G := List.mem_filter.mpr ⟨List.mem_of_getElem? (i := 242) (by decide +kernel), by decide +kernel⟩
theorem kw_243 : (Cond.selects RX2 yX2_rise yX2_rise) ∈ G := List.mem_filter.mpr ⟨List.mem_of_getElem? (i := 243) (by decide +kernel), by decide +kernel⟩
theorem kw_244 : (Cond.sameMethod "DoughRoom$Dough" "DoughRoom$Dough" "rise" "(I)I") ∈ G := List.mem_filter.mpr ⟨List.mem_of_getElem? (i := 244) (by decide +kernel), by decide +kernel⟩
theorem kw_245 : (Cond.selects RX0 yX2_rise yX0_rise) ∈ G := List.mem_filter.mpr ⟨List.mem_of_getElem? (i := 245) (by decide +kernel), by decide +kernel⟩
theorem kw_246 : (Cond.instanceMethod yX0_rise) ∈ G := List.mem_filter.mpr ⟨List.mem_of_getElem? (i := 246) (by decide +kernel), by decide +kernel⟩
theorem kw_247 : (Cond.code yX0_rise cX0_rise 2 (some .int)) ∈ G := List.mem_filter.mpr ⟨List.mem_of_getElem? (i := 247) (by decide +kernel), by decide +kernel⟩
theorem kw_248 : (Cond.methodLink RX0 13 yX6_leave) ∈ G := List.mem_filter.mpr ⟨List.mem_of_getElem? (i := 248) (by decide +kernel), by decide +kernel⟩
theorem kw_249 : (Cond.instanceMethod yX6_leave) ∈ G := List.mem_filter.mpr ⟨List.mem_of_getElem? (i := 249) (by decide +kernel), by decide +kernel⟩
theorem kw_250 : (Cond.selects RX6 yX6_leave yX6_leave) ∈ G := List.mem_filter.mpr ⟨List.mem_of_getElem? (i := 250) (by decide +kernel), by decide +kernel⟩
theorem kw_251 : (Cond.code yX6_leave cX6_leave 2 none) ∈ G := List.mem_filter.mpr ⟨List.mem_of_getElem? (i := 251) (by decide +kernel), by decide +kernel⟩
theorem kw_252 : (Cond.methodLink RX0 19 ⟨RX3, "rise", "(I)I"⟩) ∈ G := List.mem_filter.mpr ⟨List.mem_of_getElem? (i := 252) (by decide +kernel), by decide +kernel⟩
theorem kw_253 : (Cond.sameMethod "DoughRoom$Rye" "DoughRoom$Sour" "rise" "(I)I") ∈ G := List.mem_filter.mpr ⟨List.mem_of_getElem? (i := 253) (by decide +kernel), by decide +kernel⟩
theorem kw_255 : (Cond.instanceMethod yX4_rise) ∈ G := List.mem_filter.mpr ⟨List.mem_of_getElem? (i := 255) (by decide +kernel), by decide +kernel⟩
theorem kw_256 : (Cond.code yX4_rise cX4_rise 2 (some .int)) ∈ G := List.mem_filter.mpr ⟨List.mem_of_getElem? (i := 256) (by decide +kernel), by decide +kernel⟩
theorem kw_257 : (Cond.methodLink RX4 13 yX6_leave) ∈ G := List.mem_filter.mpr ⟨List.mem_of_getElem? (i := 257) (by decide +kernel), by decide +kernel⟩
theorem kw_258 : (Cond.methodLink RX4 19 ⟨RX7, "rise", "(I)I"⟩) ∈ G := List.mem_filter.mpr ⟨List.mem_of_getElem? (i := 258) (by decide +kernel), by decide +kernel⟩
theorem kw_259 : (Cond.sameMethod "DoughRoom$Yeast" "DoughRoom$Dough" "rise" "(I)I") ∈ G := List.mem_filter.mpr ⟨List.mem_of_getElem? (i := 259) (by decide +kernel), by decide +kernel⟩
theorem kw_261 : (Cond.selects RX1 yX2_rise yX1_rise) ∈ G := List.mem_filter.mpr ⟨List.mem_of_getElem? (i := 261) (by decide +kernel), by decide +kernel⟩
theorem kw_262 : (Cond.instanceMethod yX1_rise) ∈ G := List.mem_filter.mpr ⟨List.mem_of_getElem? (i := 262) (by decide +kernel), by decide +kernel⟩
theorem kw_263 : (Cond.code yX1_rise cX1_rise 2 (some .int)) ∈ G := List.mem_filter.mpr ⟨List.mem_of_getElem? (i := 263) (by decide +kernel), by decide +kernel⟩
theorem kw_264 : (Cond.methodLink RX1 13 yX6_leave) ∈ G := List.mem_filter.mpr ⟨List.mem_of_getElem? (i := 264) (by decide +kernel), by decide +kernel⟩
theorem kw_265 : (Cond.methodLink RX1 19 ⟨RX5, "rise", "(I)I"⟩) ∈ G := List.mem_filter.mpr ⟨List.mem_of_getElem? (i := 265) (by decide +kernel), by decide +kernel⟩
theorem kw_266 : (Cond.sameMethod "DoughRoom$Sweet" "DoughRoom$Dough" "rise" "(I)I") ∈ G := List.mem_filter.mpr ⟨List.mem_of_getElem? (i := 266) (by decide +kernel), by decide +kernel⟩
theorem kw_267 : (Cond.selects RX3 yX2_rise yX4_rise) ∈ G := List.mem_filter.mpr ⟨List.mem_of_getElem? (i := 267) (by decide +kernel), by decide +kernel⟩
theorem kw_268 : (Cond.selects RX4 yX2_rise yX4_rise) ∈ G := List.mem_filter.mpr ⟨List.mem_of_getElem? (i := 268) (by decide +kernel), by decide +kernel⟩
theorem kw_269 : (Cond.selects RX5 yX2_rise yX2_rise) ∈ G := List.mem_filter.mpr ⟨List.mem_of_getElem? (i := 269) (by decide +kernel), by decide +kernel⟩
theorem kw_270 : (Cond.selects RX7 yX2_rise yX2_rise) ∈ G := List.mem_filter.mpr ⟨List.mem_of_getElem? (i := 270) (by decide +kernel), by decide +kernel⟩
theorem kw_271 : (Cond.code yX2_rise cX2_rise 2 (some .int)) ∈ G := List.mem_filter.mpr ⟨List.mem_of_getElem? (i := 271) (by decide +kernel), by decide +kernel⟩
theorem kw_272 : (Cond.methodLink RX2 25 yX6_leave) ∈ G := List.mem_filter.mpr ⟨List.mem_of_getElem? (i := 272) (by decide +kernel), by decide +kernel⟩
theorem kw_273 : (Cond.methodLink RX8 56 yX2_need) ∈ G := List.mem_filter.mpr ⟨List.mem_of_getElem? (i := 273) (by decide +kernel), by decide +kernel⟩
theorem kw_274 : (Cond.instanceMethod yX2_need) ∈ G := List.mem_filter.mpr ⟨List.mem_of_getElem? (i := 274) (by decide +kernel), by decide +kernel⟩
theorem kw_275 : (Cond.selects RX2 yX2_need yX2_need) ∈ G := List.mem_filter.mpr ⟨List.mem_of_getElem? (i := 275) (by decide +kernel), by decide +kernel⟩
theorem kw_276 : (Cond.sameMethod "DoughRoom$Dough" "DoughRoom$Dough" "need" "()I") ∈ G := List.mem_filter.mpr ⟨List.mem_of_getElem? (i := 276) (by decide +kernel), by decide +kernel⟩
theorem kw_277 : (Cond.selects RX0 yX2_need yX3_need) ∈ G := List.mem_filter.mpr ⟨List.mem_of_getElem? (i := 277) (by decide +kernel), by decide +kernel⟩
theorem kw_278 : (Cond.instanceMethod yX3_need) ∈ G := List.mem_filter.mpr ⟨List.mem_of_getElem? (i := 278) (by decide +kernel), by decide +kernel⟩
theorem kw_279 : (Cond.code yX3_need cX3_need 2 (some .int)) ∈ G := List.mem_filter.mpr ⟨List.mem_of_getElem? (i := 279) (by decide +kernel), by decide +kernel⟩
theorem kw_280 : (Cond.methodLink RX3 13 yX6_leave) ∈ G := List.mem_filter.mpr ⟨List.mem_of_getElem? (i := 280) (by decide +kernel), by decide +kernel⟩
theorem kw_281 : (Cond.methodLink RX3 19 ⟨RX4, "need", "()I"⟩) ∈ G := List.mem_filter.mpr ⟨List.mem_of_getElem? (i := 281) (by decide +kernel), by decide +kernel⟩
theorem kw_282 : (Cond.sameMethod "DoughRoom$Sour" "DoughRoom$Yeast" "need" "()I") ∈ G := List.mem_filter.mpr ⟨List.mem_of_getElem? (i := 282) (by decide +kernel), by decide +kernel⟩
theorem kw_284 : (Cond.instanceMethod yX7_need) ∈ G := List.mem_filter.mpr ⟨List.mem_of_getElem? (i := 284) (by decide +kernel), by decide +kernel⟩
theorem kw_285 : (Cond.code yX7_need cX7_need 1 (some .int)) ∈ G := List.mem_filter.mpr ⟨List.mem_of_getElem? (i := 285) (by decide +kernel), by decide +kernel⟩
theorem kw_286 : (Cond.methodLink RX7 13 yX6_leave) ∈ G := List.mem_filter.mpr ⟨List.mem_of_getElem? (i := 286) (by decide +kernel), by decide +kernel⟩
theorem kw_287 : (Cond.methodLink RX7 19 yX2_need) ∈ G := List.mem_filter.mpr ⟨List.mem_of_getElem? (i := 287) (by decide +kernel), by decide +kernel⟩
theorem kw_288 : (Cond.methodLink RX3 23 ⟨RX3, "rise", "(I)I"⟩) ∈ G := List.mem_filter.mpr ⟨List.mem_of_getElem? (i := 288) (by decide +kernel), by decide +kernel⟩
theorem kw_289 : (Cond.selects RX0 ⟨RX3, "rise", "(I)I"⟩ yX0_rise) ∈ G := List.mem_filter.mpr ⟨List.mem_of_getElem? (i := 289) (by decide +kernel), by decide +kernel⟩
theorem kw_290 : (Cond.selects RX3 ⟨RX3, "rise", "(I)I"⟩ yX4_rise) ∈ G := List.mem_filter.mpr ⟨List.mem_of_getElem? (i := 290) (by decide +kernel), by decide +kernel⟩
theorem kw_291 : (Cond.selects RX1 yX2_need yX2_need) ∈ G := List.mem_filter.mpr ⟨List.mem_of_getElem? (i := 291) (by decide +kernel), by decide +kernel⟩
theorem kw_292 : (Cond.selects RX3 yX2_need yX3_need) ∈ G := List.mem_filter.mpr ⟨List.mem_of_getElem? (i := 292) (by decide +kernel), by decide +kernel⟩
theorem kw_293 : (Cond.selects RX4 yX2_need yX7_need) ∈ G := List.mem_filter.mpr ⟨List.mem_of_getElem? (i := 293) (by decide +kernel), by decide +kernel⟩
theorem kw_294 : (Cond.selects RX5 yX2_need yX2_need) ∈ G := List.mem_filter.mpr ⟨List.mem_of_getElem? (i := 294) (by decide +kernel), by decide +kernel⟩
theorem kw_295 : (Cond.selects RX7 yX2_need yX7_need) ∈ G := List.mem_filter.mpr ⟨List.mem_of_getElem? (i := 295) (by decide +kernel), by decide +kernel⟩
theorem kw_296 : (Cond.code yX2_need cX2_need 1 (some .int)) ∈ G := List.mem_filter.mpr ⟨List.mem_of_getElem? (i := 296) (by decide +kernel), by decide +kernel⟩
theorem kw_297 : (Cond.methodLink RX8 60 yX2_brown) ∈ G := List.mem_filter.mpr ⟨List.mem_of_getElem? (i := 297) (by decide +kernel), by decide +kernel⟩
theorem kw_298 : (Cond.instanceMethod yX2_brown) ∈ G := List.mem_filter.mpr ⟨List.mem_of_getElem? (i := 298) (by decide +kernel), by decide +kernel⟩
theorem kw_299 : (Cond.selects RX2 yX2_brown yX2_brown) ∈ G := List.mem_filter.mpr ⟨List.mem_of_getElem? (i := 299) (by decide +kernel), by decide +kernel⟩
theorem kw_300 : (Cond.sameMethod "DoughRoom$Dough" "DoughRoom$Dough" "brown" "(I)I") ∈ G := List.mem_filter.mpr ⟨List.mem_of_getElem? (i := 300) (by decide +kernel), by decide +kernel⟩
theorem kw_301 : (Cond.selects RX0 yX2_brown yX0_brown) ∈ G := List.mem_filter.mpr ⟨List.mem_of_getElem? (i := 301) (by decide +kernel), by decide +kernel⟩
theorem kw_302 : (Cond.instanceMethod yX0_brown) ∈ G := List.mem_filter.mpr ⟨List.mem_of_getElem? (i := 302) (by decide +kernel), by decide +kernel⟩
theorem kw_303 : (Cond.code yX0_brown cX0_brown 2 (some .int)) ∈ G := List.mem_filter.mpr ⟨List.mem_of_getElem? (i := 303) (by decide +kernel), by decide +kernel⟩
theorem kw_304 : (Cond.methodLink RX0 23 ⟨RX3, "brown", "(I)I"⟩) ∈ G := List.mem_filter.mpr ⟨List.mem_of_getElem? (i := 304) (by decide +kernel), by decide +kernel⟩
theorem kw_305 : (Cond.sameMethod "DoughRoom$Rye" "DoughRoom$Dough" "brown" "(I)I") ∈ G := List.mem_filter.mpr ⟨List.mem_of_getElem? (i := 305) (by decide +kernel), by decide +kernel⟩
theorem kw_307 : (Cond.selects RX1 yX2_brown yX5_brown) ∈ G := List.mem_filter.mpr ⟨List.mem_of_getElem? (i := 307) (by decide +kernel), by decide +kernel⟩
theorem kw_308 : (Cond.instanceMethod yX5_brown) ∈ G := List.mem_filter.mpr ⟨List.mem_of_getElem? (i := 308) (by decide +kernel), by decide +kernel⟩
theorem kw_309 : (Cond.code yX5_brown cX5_brown 2 (some .int)) ∈ G := List.mem_filter.mpr ⟨List.mem_of_getElem? (i := 309) (by decide +kernel), by decide +kernel⟩
theorem kw_310 : (Cond.methodLink RX5 13 yX6_leave) ∈ G := List.mem_filter.mpr ⟨List.mem_of_getElem? (i := 310) (by decide +kernel), by decide +kernel⟩
theorem kw_311 : (Cond.methodLink RX5 19 yX2_brown) ∈ G := List.mem_filter.mpr ⟨List.mem_of_getElem? (i := 311) (by decide +kernel), by decide +kernel⟩
theorem kw_312 : (Cond.selects RX3 yX2_brown yX2_brown) ∈ G := List.mem_filter.mpr ⟨List.mem_of_getElem? (i := 312) (by decide +kernel), by decide +kernel⟩
theorem kw_313 : (Cond.selects RX4 yX2_brown yX2_brown) ∈ G := List.mem_filter.mpr ⟨List.mem_of_getElem? (i := 313) (by decide +kernel), by decide +kernel⟩
theorem kw_314 : (Cond.selects RX5 yX2_brown yX5_brown) ∈ G := List.mem_filter.mpr ⟨List.mem_of_getElem? (i := 314) (by decide +kernel), by decide +kernel⟩
theorem kw_315 : (Cond.selects RX7 yX2_brown yX2_brown) ∈ G := List.mem_filter.mpr ⟨List.mem_of_getElem? (i := 315) (by decide +kernel), by decide +kernel⟩
theorem kw_316 : (Cond.code yX2_brown cX2_brown 2 (some .int)) ∈ G := List.mem_filter.mpr ⟨List.mem_of_getElem? (i := 316) (by decide +kernel), by decide +kernel⟩
theorem kw_317 : (Cond.methodLink RX8 63 yX2_price) ∈ G := List.mem_filter.mpr ⟨List.mem_of_getElem? (i := 317) (by decide +kernel), by decide +kernel⟩
theorem kw_318 : (Cond.instanceMethod yX2_price) ∈ G := List.mem_filter.mpr ⟨List.mem_of_getElem? (i := 318) (by decide +kernel), by decide +kernel⟩
theorem kw_319 : (Cond.selects RX2 yX2_price yX2_price) ∈ G := List.mem_filter.mpr ⟨List.mem_of_getElem? (i := 319) (by decide +kernel), by decide +kernel⟩
theorem kw_320 : (Cond.sameMethod "DoughRoom$Dough" "DoughRoom$Dough" "price" "()I") ∈ G := List.mem_filter.mpr ⟨List.mem_of_getElem? (i := 320) (by decide +kernel), by decide +kernel⟩
theorem kw_321 : (Cond.selects RX0 yX2_price yX0_price) ∈ G := List.mem_filter.mpr ⟨List.mem_of_getElem? (i := 321) (by decide +kernel), by decide +kernel⟩
theorem kw_322 : (Cond.instanceMethod yX0_price) ∈ G := List.mem_filter.mpr ⟨List.mem_of_getElem? (i := 322) (by decide +kernel), by decide +kernel⟩
theorem kw_323 : (Cond.code yX0_price cX0_price 2 (some .int)) ∈ G := List.mem_filter.mpr ⟨List.mem_of_getElem? (i := 323) (by decide +kernel), by decide +kernel⟩
theorem kw_324 : (Cond.methodLink RX0 26 yX3_price) ∈ G := List.mem_filter.mpr ⟨List.mem_of_getElem? (i := 324) (by decide +kernel), by decide +kernel⟩
theorem kw_325 : (Cond.instanceMethod yX3_price) ∈ G := List.mem_filter.mpr ⟨List.mem_of_getElem? (i := 325) (by decide +kernel), by decide +kernel⟩
theorem kw_326 : (Cond.code yX3_price cX3_price 1 (some .int)) ∈ G := List.mem_filter.mpr ⟨List.mem_of_getElem? (i := 326) (by decide +kernel), by decide +kernel⟩
theorem kw_327 : (Cond.methodLink RX3 27 ⟨RX4, "price", "()I"⟩) ∈ G := List.mem_filter.mpr ⟨List.mem_of_getElem? (i := 327) (by decide +kernel), by decide +kernel⟩
theorem kw_328 : (Cond.sameMethod "DoughRoom$Sour" "DoughRoom$Dough" "price" "()I") ∈ G := List.mem_filter.mpr ⟨List.mem_of_getElem? (i := 328) (by decide +kernel), by decide +kernel⟩
theorem kw_330 : (Cond.methodLink RX0 30 ⟨RX0, "need", "()I"⟩) ∈ G := List.mem_filter.mpr ⟨List.mem_of_getElem? (i := 330) (by decide +kernel), by decide +kernel⟩
theorem kw_331 : (Cond.sameMethod "DoughRoom$Black" "DoughRoom$Rye" "need" "()I") ∈ G := List.mem_filter.mpr ⟨List.mem_of_getElem? (i := 331) (by decide +kernel), by decide +kernel⟩
theorem kw_333 : (Cond.selects RX0 ⟨RX0, "need", "()I"⟩ yX3_need) ∈ G := List.mem_filter.mpr ⟨List.mem_of_getElem? (i := 333) (by decide +kernel), by decide +kernel⟩
theorem kw_334 : (Cond.selects RX1 yX2_price yX1_price) ∈ G := List.mem_filter.mpr ⟨List.mem_of_getElem? (i := 334) (by decide +kernel), by decide +kernel⟩
theorem kw_335 : (Cond.instanceMethod yX1_price) ∈ G := List.mem_filter.mpr ⟨List.mem_of_getElem? (i := 335) (by decide +kernel), by decide +kernel⟩
theorem kw_336 : (Cond.code yX1_price cX1_price 1 (some .int)) ∈ G := List.mem_filter.mpr ⟨List.mem_of_getElem? (i := 336) (by decide +kernel), by decide +kernel⟩
theorem kw_337 : (Cond.methodLink RX1 23 ⟨RX5, "price", "()I"⟩) ∈ G := List.mem_filter.mpr ⟨List.mem_of_getElem? (i := 337) (by decide +kernel), by decide +kernel⟩
theorem kw_338 : (Cond.sameMethod "DoughRoom$Sweet" "DoughRoom$Dough" "price" "()I") ∈ G := List.mem_filter.mpr ⟨List.mem_of_getElem? (i := 338) (by decide +kernel), by decide +kernel⟩
theorem kw_339 : (Cond.selects RX3 yX2_price yX3_price) ∈ G := List.mem_filter.mpr ⟨List.mem_of_getElem? (i := 339) (by decide +kernel), by decide +kernel⟩
theorem kw_340 : (Cond.selects RX4 yX2_price yX2_price) ∈ G := List.mem_filter.mpr ⟨List.mem_of_getElem? (i := 340) (by decide +kernel), by decide +kernel⟩
theorem kw_341 : (Cond.selects RX5 yX2_price yX2_price) ∈ G := List.mem_filter.mpr ⟨List.mem_of_getElem? (i := 341) (by decide +kernel), by decide +kernel⟩
theorem kw_342 : (Cond.selects RX7 yX2_price yX2_price) ∈ G := List.mem_filter.mpr ⟨List.mem_of_getElem? (i := 342) (by decide +kernel), by decide +kernel⟩
theorem kw_343 : (Cond.code yX2_price cX2_price 1 (some .int)) ∈ G := List.mem_filter.mpr ⟨List.mem_of_getElem? (i := 343) (by decide +kernel), by decide +kernel⟩
theorem kw_344 : (Cond.methodLink RX8 68 yX4_keeps) ∈ G := List.mem_filter.mpr ⟨List.mem_of_getElem? (i := 344) (by decide +kernel), by decide +kernel⟩
theorem kw_345 : (Cond.instanceMethod yX4_keeps) ∈ G := List.mem_filter.mpr ⟨List.mem_of_getElem? (i := 345) (by decide +kernel), by decide +kernel⟩
theorem kw_346 : (Cond.selects RX4 yX4_keeps yX4_keeps) ∈ G := List.mem_filter.mpr ⟨List.mem_of_getElem? (i := 346) (by decide +kernel), by decide +kernel⟩
theorem kw_347 : (Cond.sameMethod "DoughRoom$Sour" "DoughRoom$Sour" "keeps" "()I") ∈ G := List.mem_filter.mpr ⟨List.mem_of_getElem? (i := 347) (by decide +kernel), by decide +kernel⟩
theorem kw_348 : (Cond.selects RX0 yX4_keeps yX0_keeps) ∈ G := List.mem_filter.mpr ⟨List.mem_of_getElem? (i := 348) (by decide +kernel), by decide +kernel⟩
theorem kw_349 : (Cond.instanceMethod yX0_keeps) ∈ G := List.mem_filter.mpr ⟨List.mem_of_getElem? (i := 349) (by decide +kernel), by decide +kernel⟩
theorem kw_350 : (Cond.code yX0_keeps cX0_keeps 1 (some .int)) ∈ G := List.mem_filter.mpr ⟨List.mem_of_getElem? (i := 350) (by decide +kernel), by decide +kernel⟩
theorem kw_351 : (Cond.methodLink RX0 33 yX0_price) ∈ G := List.mem_filter.mpr ⟨List.mem_of_getElem? (i := 351) (by decide +kernel), by decide +kernel⟩
theorem kw_352 : (Cond.selects RX3 yX4_keeps yX4_keeps) ∈ G := List.mem_filter.mpr ⟨List.mem_of_getElem? (i := 352) (by decide +kernel), by decide +kernel⟩
theorem kw_353 : (Cond.code yX4_keeps cX4_keeps 1 (some .int)) ∈ G := List.mem_filter.mpr ⟨List.mem_of_getElem? (i := 353) (by decide +kernel), by decide +kernel⟩
theorem kw_354 : (Cond.methodLink RX4 23 ⟨RX4, "need", "()I"⟩) ∈ G := List.mem_filter.mpr ⟨List.mem_of_getElem? (i := 354) (by decide +kernel), by decide +kernel⟩
theorem kw_355 : (Cond.selects RX0 ⟨RX4, "need", "()I"⟩ yX3_need) ∈ G := List.mem_filter.mpr ⟨List.mem_of_getElem? (i := 355) (by decide +kernel), by decide +kernel⟩
theorem kw_356 : (Cond.selects RX3 ⟨RX4, "need", "()I"⟩ yX3_need) ∈ G := List.mem_filter.mpr ⟨List.mem_of_getElem? (i := 356) (by decide +kernel), by decide +kernel⟩
theorem kw_357 : (Cond.selects RX4 ⟨RX4, "need", "()I"⟩ yX7_need) ∈ G := List.mem_filter.mpr ⟨List.mem_of_getElem? (i := 357) (by decide +kernel), by decide +kernel⟩
theorem kw_358 : (Cond.methodLink RX8 73 yX5_glaze) ∈ G := List.mem_filter.mpr ⟨List.mem_of_getElem? (i := 358) (by decide +kernel), by decide +kernel⟩
theorem kw_359 : (Cond.instanceMethod yX5_glaze) ∈ G := List.mem_filter.mpr ⟨List.mem_of_getElem? (i := 359) (by decide +kernel), by decide +kernel⟩
theorem kw_360 : (Cond.selects RX5 yX5_glaze yX5_glaze) ∈ G := List.mem_filter.mpr ⟨List.mem_of_getElem? (i := 360) (by decide +kernel), by decide +kernel⟩
theorem kw_361 : (Cond.sameMethod "DoughRoom$Sweet" "DoughRoom$Sweet" "glaze" "()I") ∈ G := List.mem_filter.mpr ⟨List.mem_of_getElem? (i := 361) (by decide +kernel), by decide +kernel⟩
theorem kw_362 : (Cond.selects RX1 yX5_glaze yX1_glaze) ∈ G := List.mem_filter.mpr ⟨List.mem_of_getElem? (i := 362) (by decide +kernel), by decide +kernel⟩
theorem kw_363 : (Cond.instanceMethod yX1_glaze) ∈ G := List.mem_filter.mpr ⟨List.mem_of_getElem? (i := 363) (by decide +kernel), by decide +kernel⟩
theorem kw_364 : (Cond.code yX1_glaze cX1_glaze 1 (some .int)) ∈ G := List.mem_filter.mpr ⟨List.mem_of_getElem? (i := 364) (by decide +kernel), by decide +kernel⟩
theorem kw_365 : (Cond.methodLink RX1 27 ⟨RX1, "brown", "(I)I"⟩) ∈ G := List.mem_filter.mpr ⟨List.mem_of_getElem? (i := 365) (by decide +kernel), by decide +kernel⟩
theorem kw_366 : (Cond.sameMethod "DoughRoom$Butter" "DoughRoom$Sweet" "brown" "(I)I") ∈ G := List.mem_filter.mpr ⟨List.mem_of_getElem? (i := 366) (by decide +kernel), by decide +kernel⟩
theorem kw_368 : (Cond.selects RX1 ⟨RX1, "brown", "(I)I"⟩ yX5_brown) ∈ G := List.mem_filter.mpr ⟨List.mem_of_getElem? (i := 368) (by decide +kernel), by decide +kernel⟩
theorem kw_369 : (Cond.code yX5_glaze cX5_glaze 1 (some .int)) ∈ G := List.mem_filter.mpr ⟨List.mem_of_getElem? (i := 369) (by decide +kernel), by decide +kernel⟩
theorem kw_370 : (Cond.methodLink RX5 23 ⟨RX5, "price", "()I"⟩) ∈ G := List.mem_filter.mpr ⟨List.mem_of_getElem? (i := 370) (by decide +kernel), by decide +kernel⟩
theorem kw_371 : (Cond.selects RX1 ⟨RX5, "price", "()I"⟩ yX1_price) ∈ G := List.mem_filter.mpr ⟨List.mem_of_getElem? (i := 371) (by decide +kernel), by decide +kernel⟩
theorem kw_372 : (Cond.selects RX5 ⟨RX5, "price", "()I"⟩ yX2_price) ∈ G := List.mem_filter.mpr ⟨List.mem_of_getElem? (i := 372) (by decide +kernel), by decide +kernel⟩
theorem kw_373 : (Cond.methodLink RX8 76 yX6_stop) ∈ G := List.mem_filter.mpr ⟨List.mem_of_getElem? (i := 373) (by decide +kernel), by decide +kernel⟩
theorem kw_374 : (Cond.instanceMethod yX6_stop) ∈ G := List.mem_filter.mpr ⟨List.mem_of_getElem? (i := 374) (by decide +kernel), by decide +kernel⟩
theorem kw_375 : (Cond.selects RX6 yX6_stop yX6_stop) ∈ G := List.mem_filter.mpr ⟨List.mem_of_getElem? (i := 375) (by decide +kernel), by decide +kernel⟩
theorem kw_376 : (Cond.code yX6_stop cX6_stop 1 none) ∈ G := List.mem_filter.mpr ⟨List.mem_of_getElem? (i := 376) (by decide +kernel), by decide +kernel⟩
theorem kw_377 : (Cond.methodLink RL 23 yX8_trace) ∈ G := List.mem_filter.mpr ⟨List.mem_of_getElem? (i := 377) (by decide +kernel), by decide +kernel⟩
theorem kw_378 : (Cond.instanceMethod yX8_trace) ∈ G := List.mem_filter.mpr ⟨List.mem_of_getElem? (i := 378) (by decide +kernel), by decide +kernel⟩
theorem kw_379 : (Cond.selects RX8 yX8_trace yX8_trace) ∈ G := List.mem_filter.mpr ⟨List.mem_of_getElem? (i := 379) (by decide +kernel), by decide +kernel⟩
theorem kw_380 : (Cond.code yX8_trace cX8_trace 2 (some .int)) ∈ G := List.mem_filter.mpr ⟨List.mem_of_getElem? (i := 380) (by decide +kernel), by decide +kernel⟩
theorem kw_381 : (Cond.methodLink RX8 79 yX6_at) ∈ G := List.mem_filter.mpr ⟨List.mem_of_getElem? (i := 381) (by decide +kernel), by decide +kernel⟩
theorem kw_382 : (Cond.instanceMethod yX6_at) ∈ G := List.mem_filter.mpr ⟨List.mem_of_getElem? (i := 382) (by decide +kernel), by decide +kernel⟩
theorem kw_383 : (Cond.selects RX6 yX6_at yX6_at) ∈ G := List.mem_filter.mpr ⟨List.mem_of_getElem? (i := 383) (by decide +kernel), by decide +kernel⟩
theorem kw_384 : (Cond.code yX6_at cX6_at 2 (some .int)) ∈ G := List.mem_filter.mpr ⟨List.mem_of_getElem? (i := 384) (by decide +kernel), by decide +kernel⟩
theorem kw_385 : (Cond.methodLink RL 28 yX8_room) ∈ G := List.mem_filter.mpr ⟨List.mem_of_getElem? (i := 385) (by decide +kernel), by decide +kernel⟩
theorem kw_386 : (Cond.instanceMethod yX8_room) ∈ G := List.mem_filter.mpr ⟨List.mem_of_getElem? (i := 386) (by decide +kernel), by decide +kernel⟩
theorem kw_387 : (Cond.selects RX8 yX8_room yX8_room) ∈ G := List.mem_filter.mpr ⟨List.mem_of_getElem? (i := 387) (by decide +kernel), by decide +kernel⟩
theorem kw_388 : (Cond.code yX8_room cX8_room 3 (some .int)) ∈ G := List.mem_filter.mpr ⟨List.mem_of_getElem? (i := 388) (by decide +kernel), by decide +kernel⟩
theorem kw_389 : (Cond.methodLink RL 32 yX8_heat) ∈ G := List.mem_filter.mpr ⟨List.mem_of_getElem? (i := 389) (by decide +kernel), by decide +kernel⟩
theorem kw_390 : (Cond.instanceMethod yX8_heat) ∈ G := List.mem_filter.mpr ⟨List.mem_of_getElem? (i := 390) (by decide +kernel), by decide +kernel⟩
theorem kw_391 : (Cond.selects RX8 yX8_heat yX8_heat) ∈ G := List.mem_filter.mpr ⟨List.mem_of_getElem? (i := 391) (by decide +kernel), by decide +kernel⟩
theorem kw_392 : (Cond.code yX8_heat cX8_heat 4 (some .int)) ∈ G := List.mem_filter.mpr ⟨List.mem_of_getElem? (i := 392) (by decide +kernel), by decide +kernel⟩
theorem kw_393 : (Cond.methodLink RX8 82 yX8_isOven) ∈ G := List.mem_filter.mpr ⟨List.mem_of_getElem? (i := 393) (by decide +kernel), by decide +kernel⟩
theorem kw_395 : (Cond.instanceMethod yX8_isOven) ∈ G := List.mem_filter.mpr ⟨List.mem_of_getElem? (i := 395) (by decide +kernel), by decide +kernel⟩
theorem kw_396 : (Cond.code yX8_isOven cX8_isOven 2 (some .boolean)) ∈ G := List.mem_filter.mpr ⟨List.mem_of_getElem? (i := 396) (by decide +kernel), by decide +kernel⟩
theorem kw_397 : (Cond.methodLink RL 36 yX8_minutes) ∈ G := List.mem_filter.mpr ⟨List.mem_of_getElem? (i := 397) (by decide +kernel), by decide +kernel⟩
theorem kw_398 : (Cond.instanceMethod yX8_minutes) ∈ G := List.mem_filter.mpr ⟨List.mem_of_getElem? (i := 398) (by decide +kernel), by decide +kernel⟩
theorem kw_399 : (Cond.selects RX8 yX8_minutes yX8_minutes) ∈ G := List.mem_filter.mpr ⟨List.mem_of_getElem? (i := 399) (by decide +kernel), by decide +kernel⟩
theorem kw_400 : (Cond.code yX8_minutes cX8_minutes 7 (some .int)) ∈ G := List.mem_filter.mpr ⟨List.mem_of_getElem? (i := 400) (by decide +kernel), by decide +kernel⟩
theorem kw_401 : (Cond.methodLink RX8 86 yX8_howMany) ∈ G := List.mem_filter.mpr ⟨List.mem_of_getElem? (i := 401) (by decide +kernel), by decide +kernel⟩
theorem kw_403 : (Cond.instanceMethod yX8_howMany) ∈ G := List.mem_filter.mpr ⟨List.mem_of_getElem? (i := 403) (by decide +kernel), by decide +kernel⟩
theorem kw_404 : (Cond.code yX8_howMany cX8_howMany 7 (some .int)) ∈ G := List.mem_filter.mpr ⟨List.mem_of_getElem? (i := 404) (by decide +kernel), by decide +kernel⟩
theorem kw_405 : (Cond.methodLink RX8 92 yX2_riseFor) ∈ G := List.mem_filter.mpr ⟨List.mem_of_getElem? (i := 405) (by decide +kernel), by decide +kernel⟩
theorem kw_406 : (Cond.instanceMethod yX2_riseFor) ∈ G := List.mem_filter.mpr ⟨List.mem_of_getElem? (i := 406) (by decide +kernel), by decide +kernel⟩
theorem kw_407 : (Cond.selects RX2 yX2_riseFor yX2_riseFor) ∈ G := List.mem_filter.mpr ⟨List.mem_of_getElem? (i := 407) (by decide +kernel), by decide +kernel⟩
theorem kw_408 : (Cond.sameMethod "DoughRoom$Dough" "DoughRoom$Dough" "riseFor" "(II)V") ∈ G := List.mem_filter.mpr ⟨List.mem_of_getElem? (i := 408) (by decide +kernel), by decide +kernel⟩
theorem kw_409 : (Cond.selects RX0 yX2_riseFor yX2_riseFor) ∈ G := List.mem_filter.mpr ⟨List.mem_of_getElem? (i := 409) (by decide +kernel), by decide +kernel⟩
theorem kw_410 : (Cond.selects RX1 yX2_riseFor yX2_riseFor) ∈ G := List.mem_filter.mpr ⟨List.mem_of_getElem? (i := 410) (by decide +kernel), by decide +kernel⟩
theorem kw_411 : (Cond.selects RX3 yX2_riseFor yX2_riseFor) ∈ G := List.mem_filter.mpr ⟨List.mem_of_getElem? (i := 411) (by decide +kernel), by decide +kernel⟩
theorem kw_412 : (Cond.selects RX4 yX2_riseFor yX2_riseFor) ∈ G := List.mem_filter.mpr ⟨List.mem_of_getElem? (i := 412) (by decide +kernel), by decide +kernel⟩
theorem kw_413 : (Cond.selects RX5 yX2_riseFor yX2_riseFor) ∈ G := List.mem_filter.mpr ⟨List.mem_of_getElem? (i := 413) (by decide +kernel), by decide +kernel⟩
theorem kw_414 : (Cond.selects RX7 yX2_riseFor yX2_riseFor) ∈ G := List.mem_filter.mpr ⟨List.mem_of_getElem? (i := 414) (by decide +kernel), by decide +kernel⟩
theorem kw_415 : (Cond.code yX2_riseFor cX2_riseFor 6 none) ∈ G := List.mem_filter.mpr ⟨List.mem_of_getElem? (i := 415) (by decide +kernel), by decide +kernel⟩
theorem kw_416 : (Cond.methodLink RX2 31 yX2_rise) ∈ G := List.mem_filter.mpr ⟨List.mem_of_getElem? (i := 416) (by decide +kernel), by decide +kernel⟩
theorem kw_417 : (Cond.methodLink RX2 35 yX2_need) ∈ G := List.mem_filter.mpr ⟨List.mem_of_getElem? (i := 417) (by decide +kernel), by decide +kernel⟩
theorem kw_418 : (Cond.methodLink RX8 99 yX8_heatOf) ∈ G := List.mem_filter.mpr ⟨List.mem_of_getElem? (i := 418) (by decide +kernel), by decide +kernel⟩
theorem kw_420 : (Cond.instanceMethod yX8_heatOf) ∈ G := List.mem_filter.mpr ⟨List.mem_of_getElem? (i := 420) (by decide +kernel), by decide +kernel⟩
theorem kw_421 : (Cond.code yX8_heatOf cX8_heatOf 2 (some .int)) ∈ G := List.mem_filter.mpr ⟨List.mem_of_getElem? (i := 421) (by decide +kernel), by decide +kernel⟩
theorem kw_422 : (Cond.methodLink RX8 102 yX2_brownFor) ∈ G := List.mem_filter.mpr ⟨List.mem_of_getElem? (i := 422) (by decide +kernel), by decide +kernel⟩
theorem kw_423 : (Cond.instanceMethod yX2_brownFor) ∈ G := List.mem_filter.mpr ⟨List.mem_of_getElem? (i := 423) (by decide +kernel), by decide +kernel⟩
theorem kw_424 : (Cond.selects RX2 yX2_brownFor yX2_brownFor) ∈ G := List.mem_filter.mpr ⟨List.mem_of_getElem? (i := 424) (by decide +kernel), by decide +kernel⟩
theorem kw_425 : (Cond.sameMethod "DoughRoom$Dough" "DoughRoom$Dough" "brownFor" "(II)V") ∈ G := List.mem_filter.mpr ⟨List.mem_of_getElem? (i := 425) (by decide +kernel), by decide +kernel⟩
theorem kw_426 : (Cond.selects RX0 yX2_brownFor yX2_brownFor) ∈ G := List.mem_filter.mpr ⟨List.mem_of_getElem? (i := 426) (by decide +kernel), by decide +kernel⟩
theorem kw_427 : (Cond.selects RX1 yX2_brownFor yX2_brownFor) ∈ G := List.mem_filter.mpr ⟨List.mem_of_getElem? (i := 427) (by decide +kernel), by decide +kernel⟩
theorem kw_428 : (Cond.selects RX3 yX2_brownFor yX2_brownFor) ∈ G := List.mem_filter.mpr ⟨List.mem_of_getElem? (i := 428) (by decide +kernel), by decide +kernel⟩
theorem kw_429 : (Cond.selects RX4 yX2_brownFor yX2_brownFor) ∈ G := List.mem_filter.mpr ⟨List.mem_of_getElem? (i := 429) (by decide +kernel), by decide +kernel⟩
theorem kw_430 : (Cond.selects RX5 yX2_brownFor yX2_brownFor) ∈ G := List.mem_filter.mpr ⟨List.mem_of_getElem? (i := 430) (by decide +kernel), by decide +kernel⟩
theorem kw_431 : (Cond.selects RX7 yX2_brownFor yX2_brownFor) ∈ G := List.mem_filter.mpr ⟨List.mem_of_getElem? (i := 431) (by decide +kernel), by decide +kernel⟩
theorem kw_432 : (Cond.code yX2_brownFor cX2_brownFor 5 none) ∈ G := List.mem_filter.mpr ⟨List.mem_of_getElem? (i := 432) (by decide +kernel), by decide +kernel⟩
theorem kw_433 : (Cond.methodLink RX2 42 yX2_brown) ∈ G := List.mem_filter.mpr ⟨List.mem_of_getElem? (i := 433) (by decide +kernel), by decide +kernel⟩
theorem kw_434 : (Cond.methodLink RL 40 yX8_bake) ∈ G := List.mem_filter.mpr ⟨List.mem_of_getElem? (i := 434) (by decide +kernel), by decide +kernel⟩
theorem kw_435 : (Cond.instanceMethod yX8_bake) ∈ G := List.mem_filter.mpr ⟨List.mem_of_getElem? (i := 435) (by decide +kernel), by decide +kernel⟩
theorem kw_436 : (Cond.selects RX8 yX8_bake yX8_bake) ∈ G := List.mem_filter.mpr ⟨List.mem_of_getElem? (i := 436) (by decide +kernel), by decide +kernel⟩
theorem kw_437 : (Cond.code yX8_bake cX8_bake 5 (some .int)) ∈ G := List.mem_filter.mpr ⟨List.mem_of_getElem? (i := 437) (by decide +kernel), by decide +kernel⟩
theorem kw_438 : (Cond.methodLink RX8 108 yX8_massIn) ∈ G := List.mem_filter.mpr ⟨List.mem_of_getElem? (i := 438) (by decide +kernel), by decide +kernel⟩
theorem kw_440 : (Cond.instanceMethod yX8_massIn) ∈ G := List.mem_filter.mpr ⟨List.mem_of_getElem? (i := 440) (by decide +kernel), by decide +kernel⟩
theorem kw_441 : (Cond.code yX8_massIn cX8_massIn 7 (some .int)) ∈ G := List.mem_filter.mpr ⟨List.mem_of_getElem? (i := 441) (by decide +kernel), by decide +kernel⟩
theorem kw_442 : (Cond.methodLink RL 44 yX8_out) ∈ G := List.mem_filter.mpr ⟨List.mem_of_getElem? (i := 442) (by decide +kernel), by decide +kernel⟩
theorem kw_443 : (Cond.instanceMethod yX8_out) ∈ G := List.mem_filter.mpr ⟨List.mem_of_getElem? (i := 443) (by decide +kernel), by decide +kernel⟩
theorem kw_444 : (Cond.selects RX8 yX8_out yX8_out) ∈ G := List.mem_filter.mpr ⟨List.mem_of_getElem? (i := 444) (by decide +kernel), by decide +kernel⟩
theorem kw_445 : (Cond.code yX8_out cX8_out 3 (some .int)) ∈ G := List.mem_filter.mpr ⟨List.mem_of_getElem? (i := 445) (by decide +kernel), by decide +kernel⟩
theorem kw_446 : (Cond.methodLink RL 48 yX8_sell) ∈ G := List.mem_filter.mpr ⟨List.mem_of_getElem? (i := 446) (by decide +kernel), by decide +kernel⟩
theorem kw_447 : (Cond.instanceMethod yX8_sell) ∈ G := List.mem_filter.mpr ⟨List.mem_of_getElem? (i := 447) (by decide +kernel), by decide +kernel⟩
theorem kw_448 : (Cond.selects RX8 yX8_sell yX8_sell) ∈ G := List.mem_filter.mpr ⟨List.mem_of_getElem? (i := 448) (by decide +kernel), by decide +kernel⟩
theorem kw_449 : (Cond.code yX8_sell cX8_sell 5 (some .int)) ∈ G := List.mem_filter.mpr ⟨List.mem_of_getElem? (i := 449) (by decide +kernel), by decide +kernel⟩
theorem kw_450 : (Cond.methodLink RX8 123 yJ9_max_7cf53) ∈ G := List.mem_filter.mpr ⟨List.mem_of_getElem? (i := 450) (by decide +kernel), by decide +kernel⟩
theorem kw_451 : (Cond.static yJ9_max_7cf53) ∈ G := List.mem_filter.mpr ⟨List.mem_of_getElem? (i := 451) (by decide +kernel), by decide +kernel⟩
theorem kw_452 : (Cond.code yJ9_max_7cf53 cJ9_max_7cf53 2 (some .int)) ∈ G := List.mem_filter.mpr ⟨List.mem_of_getElem? (i := 452) (by decide +kernel), by decide +kernel⟩
theorem kw_453 : (Cond.methodLink RL 52 yX8_day) ∈ G := List.mem_filter.mpr ⟨List.mem_of_getElem? (i := 453) (by decide +kernel), by decide +kernel⟩
theorem kw_454 : (Cond.instanceMethod yX8_day) ∈ G := List.mem_filter.mpr ⟨List.mem_of_getElem? (i := 454) (by decide +kernel), by decide +kernel⟩
theorem kw_455 : (Cond.selects RX8 yX8_day yX8_day) ∈ G := List.mem_filter.mpr ⟨List.mem_of_getElem? (i := 455) (by decide +kernel), by decide +kernel⟩
theorem kw_456 : (Cond.code yX8_day cX8_day 8 (some .int)) ∈ G := List.mem_filter.mpr ⟨List.mem_of_getElem? (i := 456) (by decide +kernel), by decide +kernel⟩
theorem kw_457 : (Cond.methodLink RL 57 yX8_told) ∈ G := List.mem_filter.mpr ⟨List.mem_of_getElem? (i := 457) (by decide +kernel), by decide +kernel⟩
theorem kw_458 : (Cond.instanceMethod yX8_told) ∈ G := List.mem_filter.mpr ⟨List.mem_of_getElem? (i := 458) (by decide +kernel), by decide +kernel⟩
theorem kw_459 : (Cond.selects RX8 yX8_told yX8_told) ∈ G := List.mem_filter.mpr ⟨List.mem_of_getElem? (i := 459) (by decide +kernel), by decide +kernel⟩
theorem kw_460 : (Cond.code yX8_told cX8_told 4 (some .int)) ∈ G := List.mem_filter.mpr ⟨List.mem_of_getElem? (i := 460) (by decide +kernel), by decide +kernel⟩
theorem kw_461 : (Cond.methodLink RL 61 yX8_count) ∈ G := List.mem_filter.mpr ⟨List.mem_of_getElem? (i := 461) (by decide +kernel), by decide +kernel⟩
theorem kw_462 : (Cond.instanceMethod yX8_count) ∈ G := List.mem_filter.mpr ⟨List.mem_of_getElem? (i := 462) (by decide +kernel), by decide +kernel⟩
theorem kw_463 : (Cond.selects RX8 yX8_count yX8_count) ∈ G := List.mem_filter.mpr ⟨List.mem_of_getElem? (i := 463) (by decide +kernel), by decide +kernel⟩
theorem kw_464 : (Cond.code yX8_count cX8_count 2 (some .int)) ∈ G := List.mem_filter.mpr ⟨List.mem_of_getElem? (i := 464) (by decide +kernel), by decide +kernel⟩
theorem kw_465 : (Cond.classLink RL 10 RX9) ∈ G := List.mem_filter.mpr ⟨List.mem_of_getElem? (i := 465) (by decide +kernel), by decide +kernel⟩
theorem kw_466 : (Cond.instantiable RX9 15) ∈ G := List.mem_filter.mpr ⟨List.mem_of_getElem? (i := 466) (by decide +kernel), by decide +kernel⟩
theorem kw_467 : (Cond.methodLink RL 12 yX9_init) ∈ G := List.mem_filter.mpr ⟨List.mem_of_getElem? (i := 467) (by decide +kernel), by decide +kernel⟩
theorem kw_468 : (Cond.instanceMethod yX9_init) ∈ G := List.mem_filter.mpr ⟨List.mem_of_getElem? (i := 468) (by decide +kernel), by decide +kernel⟩
theorem kw_469 : (Cond.code yX9_init cX9_init 1 none) ∈ G := List.mem_filter.mpr ⟨List.mem_of_getElem? (i := 469) (by decide +kernel), by decide +kernel⟩
theorem kw_470 : (Cond.methodLink RX9 1 objectInit) ∈ G := List.mem_filter.mpr ⟨List.mem_of_getElem? (i := 470) (by decide +kernel), by decide +kernel⟩
theorem kw_471 : (Cond.fieldLink RX9 41 "DoughRoomModel" "batches" "I") ∈ G := List.mem_filter.mpr ⟨List.mem_of_getElem? (i := 471) (by decide +kernel), by decide +kernel⟩
theorem kw_472 : (Cond.fieldLink RX9 7 "DoughRoomModel" "kind" "[I") ∈ G := List.mem_filter.mpr ⟨List.mem_of_getElem? (i := 472) (by decide +kernel), by decide +kernel⟩
theorem kw_473 : (Cond.fieldLink RX9 13 "DoughRoomModel" "mass" "[I") ∈ G := List.mem_filter.mpr ⟨List.mem_of_getElem? (i := 473) (by decide +kernel), by decide +kernel⟩
theorem kw_474 : (Cond.fieldLink RX9 16 "DoughRoomModel" "state" "[I") ∈ G := List.mem_filter.mpr ⟨List.mem_of_getElem? (i := 474) (by decide +kernel), by decide +kernel⟩
theorem kw_475 : (Cond.fieldLink RX9 19 "DoughRoomModel" "risen" "[I") ∈ G := List.mem_filter.mpr ⟨List.mem_of_getElem? (i := 475) (by decide +kernel), by decide +kernel⟩
theorem kw_476 : (Cond.fieldLink RX9 22 "DoughRoomModel" "browned" "[I") ∈ G := List.mem_filter.mpr ⟨List.mem_of_getElem? (i := 476) (by decide +kernel), by decide +kernel⟩
theorem kw_477 : (Cond.fieldLink RX9 25 "DoughRoomModel" "oven" "[I") ∈ G := List.mem_filter.mpr ⟨List.mem_of_getElem? (i := 477) (by decide +kernel), by decide +kernel⟩
theorem kw_478 : (Cond.fieldLink RX9 28 "DoughRoomModel" "since" "[I") ∈ G := List.mem_filter.mpr ⟨List.mem_of_getElem? (i := 478) (by decide +kernel), by decide +kernel⟩
theorem kw_479 : (Cond.fieldLink RX9 31 "DoughRoomModel" "warmth" "I") ∈ G := List.mem_filter.mpr ⟨List.mem_of_getElem? (i := 479) (by decide +kernel), by decide +kernel⟩
theorem kw_480 : (Cond.fieldLink RX9 35 "DoughRoomModel" "heats" "[I") ∈ G := List.mem_filter.mpr ⟨List.mem_of_getElem? (i := 480) (by decide +kernel), by decide +kernel⟩
theorem kw_481 : (Cond.fieldLink RX9 100 "DoughRoomModel" "days" "I") ∈ G := List.mem_filter.mpr ⟨List.mem_of_getElem? (i := 481) (by decide +kernel), by decide +kernel⟩
theorem kw_482 : (Cond.fieldLink RX9 103 "DoughRoomModel" "till" "I") ∈ G := List.mem_filter.mpr ⟨List.mem_of_getElem? (i := 482) (by decide +kernel), by decide +kernel⟩
theorem kw_483 : (Cond.fieldLink RX9 38 "DoughRoomModel" "trace" "[I") ∈ G := List.mem_filter.mpr ⟨List.mem_of_getElem? (i := 483) (by decide +kernel), by decide +kernel⟩
theorem kw_484 : (Cond.fieldLink RX9 52 "DoughRoomModel" "traced" "I") ∈ G := List.mem_filter.mpr ⟨List.mem_of_getElem? (i := 484) (by decide +kernel), by decide +kernel⟩
theorem kw_485 : (Cond.fieldLink RX9 48 "DoughRoomModel" "isTold" "Z") ∈ G := List.mem_filter.mpr ⟨List.mem_of_getElem? (i := 485) (by decide +kernel), by decide +kernel⟩
theorem kw_486 : (Cond.lays RX9 "DoughRoomModel" "batches" "I") ∈ G := List.mem_filter.mpr ⟨List.mem_of_getElem? (i := 486) (by decide +kernel), by decide +kernel⟩
theorem kw_488 : (Cond.laysFinal RX9 "DoughRoomModel" "kind" "[I") ∈ G := List.mem_filter.mpr ⟨List.mem_of_getElem? (i := 488) (by decide +kernel), by decide +kernel⟩
theorem kw_490 : (Cond.laysFinal RX9 "DoughRoomModel" "mass" "[I") ∈ G := List.mem_filter.mpr ⟨List.mem_of_getElem? (i := 490) (by decide +kernel), by decide +kernel⟩
theorem kw_492 : (Cond.laysFinal RX9 "DoughRoomModel" "state" "[I") ∈ G := List.mem_filter.mpr ⟨List.mem_of_getElem? (i := 492) (by decide +kernel), by decide +kernel⟩
theorem kw_494 : (Cond.laysFinal RX9 "DoughRoomModel" "risen" "[I") ∈ G := List.mem_filter.mpr ⟨List.mem_of_getElem? (i := 494) (by decide +kernel), by decide +kernel⟩
theorem kw_496 : (Cond.laysFinal RX9 "DoughRoomModel" "browned" "[I") ∈ G := List.mem_filter.mpr ⟨List.mem_of_getElem? (i := 496) (by decide +kernel), by decide +kernel⟩
theorem kw_498 : (Cond.laysFinal RX9 "DoughRoomModel" "oven" "[I") ∈ G := List.mem_filter.mpr ⟨List.mem_of_getElem? (i := 498) (by decide +kernel), by decide +kernel⟩
theorem kw_500 : (Cond.laysFinal RX9 "DoughRoomModel" "since" "[I") ∈ G := List.mem_filter.mpr ⟨List.mem_of_getElem? (i := 500) (by decide +kernel), by decide +kernel⟩
theorem kw_502 : (Cond.lays RX9 "DoughRoomModel" "warmth" "I") ∈ G := List.mem_filter.mpr ⟨List.mem_of_getElem? (i := 502) (by decide +kernel), by decide +kernel⟩
theorem kw_504 : (Cond.laysFinal RX9 "DoughRoomModel" "heats" "[I") ∈ G := List.mem_filter.mpr ⟨List.mem_of_getElem? (i := 504) (by decide +kernel), by decide +kernel⟩
theorem kw_506 : (Cond.lays RX9 "DoughRoomModel" "days" "I") ∈ G := List.mem_filter.mpr ⟨List.mem_of_getElem? (i := 506) (by decide +kernel), by decide +kernel⟩
theorem kw_508 : (Cond.lays RX9 "DoughRoomModel" "till" "I") ∈ G := List.mem_filter.mpr ⟨List.mem_of_getElem? (i := 508) (by decide +kernel), by decide +kernel⟩
theorem kw_510 : (Cond.laysFinal RX9 "DoughRoomModel" "trace" "[I") ∈ G := List.mem_filter.mpr ⟨List.mem_of_getElem? (i := 510) (by decide +kernel), by decide +kernel⟩
theorem kw_512 : (Cond.lays RX9 "DoughRoomModel" "traced" "I") ∈ G := List.mem_filter.mpr ⟨List.mem_of_getElem? (i := 512) (by decide +kernel), by decide +kernel⟩
theorem kw_514 : (Cond.lays RX9 "DoughRoomModel" "isTold" "Z") ∈ G := List.mem_filter.mpr ⟨List.mem_of_getElem? (i := 514) (by decide +kernel), by decide +kernel⟩
theorem kw_516 : (Cond.superclass RX9 "java/lang/Object") ∈ G := List.mem_filter.mpr ⟨List.mem_of_getElem? (i := 516) (by decide +kernel), by decide +kernel⟩
theorem kw_517 : (Cond.methodLink RL 17 yX9_batch) ∈ G := List.mem_filter.mpr ⟨List.mem_of_getElem? (i := 517) (by decide +kernel), by decide +kernel⟩
theorem kw_518 : (Cond.instanceMethod yX9_batch) ∈ G := List.mem_filter.mpr ⟨List.mem_of_getElem? (i := 518) (by decide +kernel), by decide +kernel⟩
theorem kw_519 : (Cond.selects RX9 yX9_batch yX9_batch) ∈ G := List.mem_filter.mpr ⟨List.mem_of_getElem? (i := 519) (by decide +kernel), by decide +kernel⟩
theorem kw_520 : (Cond.code yX9_batch cX9_batch 3 (some .int)) ∈ G := List.mem_filter.mpr ⟨List.mem_of_getElem? (i := 520) (by decide +kernel), by decide +kernel⟩
theorem kw_521 : (Cond.methodLink RX9 44 yX9_in) ∈ G := List.mem_filter.mpr ⟨List.mem_of_getElem? (i := 521) (by decide +kernel), by decide +kernel⟩
theorem kw_522 : (Cond.static yX9_in) ∈ G := List.mem_filter.mpr ⟨List.mem_of_getElem? (i := 522) (by decide +kernel), by decide +kernel⟩
theorem kw_523 : (Cond.code yX9_in cX9_in 3 (some .boolean)) ∈ G := List.mem_filter.mpr ⟨List.mem_of_getElem? (i := 523) (by decide +kernel), by decide +kernel⟩
theorem kw_524 : (Cond.methodLink RL 22 yX9_ask) ∈ G := List.mem_filter.mpr ⟨List.mem_of_getElem? (i := 524) (by decide +kernel), by decide +kernel⟩
theorem kw_525 : (Cond.instanceMethod yX9_ask) ∈ G := List.mem_filter.mpr ⟨List.mem_of_getElem? (i := 525) (by decide +kernel), by decide +kernel⟩
theorem kw_526 : (Cond.selects RX9 yX9_ask yX9_ask) ∈ G := List.mem_filter.mpr ⟨List.mem_of_getElem? (i := 526) (by decide +kernel), by decide +kernel⟩
theorem kw_527 : (Cond.code yX9_ask cX9_ask 5 (some .int)) ∈ G := List.mem_filter.mpr ⟨List.mem_of_getElem? (i := 527) (by decide +kernel), by decide +kernel⟩
theorem kw_528 : (Cond.methodLink RX9 86 yX9_isBatch) ∈ G := List.mem_filter.mpr ⟨List.mem_of_getElem? (i := 528) (by decide +kernel), by decide +kernel⟩
theorem kw_530 : (Cond.instanceMethod yX9_isBatch) ∈ G := List.mem_filter.mpr ⟨List.mem_of_getElem? (i := 530) (by decide +kernel), by decide +kernel⟩
theorem kw_531 : (Cond.code yX9_isBatch cX9_isBatch 2 (some .boolean)) ∈ G := List.mem_filter.mpr ⟨List.mem_of_getElem? (i := 531) (by decide +kernel), by decide +kernel⟩
theorem kw_532 : (Cond.methodLink RX9 89 yX9_answer) ∈ G := List.mem_filter.mpr ⟨List.mem_of_getElem? (i := 532) (by decide +kernel), by decide +kernel⟩
theorem kw_534 : (Cond.instanceMethod yX9_answer) ∈ G := List.mem_filter.mpr ⟨List.mem_of_getElem? (i := 534) (by decide +kernel), by decide +kernel⟩
theorem kw_535 : (Cond.code yX9_answer cX9_answer 4 (some .int)) ∈ G := List.mem_filter.mpr ⟨List.mem_of_getElem? (i := 535) (by decide +kernel), by decide +kernel⟩
theorem kw_536 : (Cond.methodLink RX9 59 yX9_rise) ∈ G := List.mem_filter.mpr ⟨List.mem_of_getElem? (i := 536) (by decide +kernel), by decide +kernel⟩
theorem kw_538 : (Cond.instanceMethod yX9_rise) ∈ G := List.mem_filter.mpr ⟨List.mem_of_getElem? (i := 538) (by decide +kernel), by decide +kernel⟩
theorem kw_539 : (Cond.code yX9_rise cX9_rise 5 (some .int)) ∈ G := List.mem_filter.mpr ⟨List.mem_of_getElem? (i := 539) (by decide +kernel), by decide +kernel⟩
theorem kw_540 : (Cond.methodLink RX9 55 yX9_began) ∈ G := List.mem_filter.mpr ⟨List.mem_of_getElem? (i := 540) (by decide +kernel), by decide +kernel⟩
theorem kw_542 : (Cond.instanceMethod yX9_began) ∈ G := List.mem_filter.mpr ⟨List.mem_of_getElem? (i := 542) (by decide +kernel), by decide +kernel⟩
theorem kw_543 : (Cond.code yX9_began cX9_began 2 none) ∈ G := List.mem_filter.mpr ⟨List.mem_of_getElem? (i := 543) (by decide +kernel), by decide +kernel⟩
theorem kw_544 : (Cond.methodLink RX9 63 yX9_need) ∈ G := List.mem_filter.mpr ⟨List.mem_of_getElem? (i := 544) (by decide +kernel), by decide +kernel⟩
theorem kw_546 : (Cond.instanceMethod yX9_need) ∈ G := List.mem_filter.mpr ⟨List.mem_of_getElem? (i := 546) (by decide +kernel), by decide +kernel⟩
theorem kw_547 : (Cond.code yX9_need cX9_need 4 (some .int)) ∈ G := List.mem_filter.mpr ⟨List.mem_of_getElem? (i := 547) (by decide +kernel), by decide +kernel⟩
theorem kw_548 : (Cond.methodLink RX9 70 yX9_brown) ∈ G := List.mem_filter.mpr ⟨List.mem_of_getElem? (i := 548) (by decide +kernel), by decide +kernel⟩
theorem kw_550 : (Cond.instanceMethod yX9_brown) ∈ G := List.mem_filter.mpr ⟨List.mem_of_getElem? (i := 550) (by decide +kernel), by decide +kernel⟩
theorem kw_551 : (Cond.code yX9_brown cX9_brown 5 (some .int)) ∈ G := List.mem_filter.mpr ⟨List.mem_of_getElem? (i := 551) (by decide +kernel), by decide +kernel⟩
theorem kw_552 : (Cond.methodLink RX9 67 yX9_price) ∈ G := List.mem_filter.mpr ⟨List.mem_of_getElem? (i := 552) (by decide +kernel), by decide +kernel⟩
theorem kw_554 : (Cond.instanceMethod yX9_price) ∈ G := List.mem_filter.mpr ⟨List.mem_of_getElem? (i := 554) (by decide +kernel), by decide +kernel⟩
theorem kw_555 : (Cond.code yX9_price cX9_price 4 (some .int)) ∈ G := List.mem_filter.mpr ⟨List.mem_of_getElem? (i := 555) (by decide +kernel), by decide +kernel⟩
theorem kw_556 : (Cond.methodLink RX9 73 yX9_isKeeping) ∈ G := List.mem_filter.mpr ⟨List.mem_of_getElem? (i := 556) (by decide +kernel), by decide +kernel⟩
theorem kw_557 : (Cond.static yX9_isKeeping) ∈ G := List.mem_filter.mpr ⟨List.mem_of_getElem? (i := 557) (by decide +kernel), by decide +kernel⟩
theorem kw_558 : (Cond.code yX9_isKeeping cX9_isKeeping 1 (some .boolean)) ∈ G := List.mem_filter.mpr ⟨List.mem_of_getElem? (i := 558) (by decide +kernel), by decide +kernel⟩
theorem kw_559 : (Cond.methodLink RX9 77 yX9_keeps) ∈ G := List.mem_filter.mpr ⟨List.mem_of_getElem? (i := 559) (by decide +kernel), by decide +kernel⟩
theorem kw_561 : (Cond.instanceMethod yX9_keeps) ∈ G := List.mem_filter.mpr ⟨List.mem_of_getElem? (i := 561) (by decide +kernel), by decide +kernel⟩
theorem kw_562 : (Cond.code yX9_keeps cX9_keeps 2 (some .int)) ∈ G := List.mem_filter.mpr ⟨List.mem_of_getElem? (i := 562) (by decide +kernel), by decide +kernel⟩
theorem kw_563 : (Cond.methodLink RX9 80 yX9_isGlazed) ∈ G := List.mem_filter.mpr ⟨List.mem_of_getElem? (i := 563) (by decide +kernel), by decide +kernel⟩
theorem kw_564 : (Cond.static yX9_isGlazed) ∈ G := List.mem_filter.mpr ⟨List.mem_of_getElem? (i := 564) (by decide +kernel), by decide +kernel⟩
theorem kw_565 : (Cond.code yX9_isGlazed cX9_isGlazed 1 (some .boolean)) ∈ G := List.mem_filter.mpr ⟨List.mem_of_getElem? (i := 565) (by decide +kernel), by decide +kernel⟩
theorem kw_566 : (Cond.methodLink RX9 83 yX9_glaze) ∈ G := List.mem_filter.mpr ⟨List.mem_of_getElem? (i := 566) (by decide +kernel), by decide +kernel⟩
theorem kw_568 : (Cond.instanceMethod yX9_glaze) ∈ G := List.mem_filter.mpr ⟨List.mem_of_getElem? (i := 568) (by decide +kernel), by decide +kernel⟩
theorem kw_569 : (Cond.code yX9_glaze cX9_glaze 2 (some .int)) ∈ G := List.mem_filter.mpr ⟨List.mem_of_getElem? (i := 569) (by decide +kernel), by decide +kernel⟩
theorem kw_570 : (Cond.methodLink RL 27 yX9_trace) ∈ G := List.mem_filter.mpr ⟨List.mem_of_getElem? (i := 570) (by decide +kernel), by decide +kernel⟩
theorem kw_571 : (Cond.instanceMethod yX9_trace) ∈ G := List.mem_filter.mpr ⟨List.mem_of_getElem? (i := 571) (by decide +kernel), by decide +kernel⟩
theorem kw_572 : (Cond.selects RX9 yX9_trace yX9_trace) ∈ G := List.mem_filter.mpr ⟨List.mem_of_getElem? (i := 572) (by decide +kernel), by decide +kernel⟩
theorem kw_573 : (Cond.code yX9_trace cX9_trace 2 (some .int)) ∈ G := List.mem_filter.mpr ⟨List.mem_of_getElem? (i := 573) (by decide +kernel), by decide +kernel⟩
theorem kw_574 : (Cond.methodLink RL 31 yX9_room) ∈ G := List.mem_filter.mpr ⟨List.mem_of_getElem? (i := 574) (by decide +kernel), by decide +kernel⟩
theorem kw_575 : (Cond.instanceMethod yX9_room) ∈ G := List.mem_filter.mpr ⟨List.mem_of_getElem? (i := 575) (by decide +kernel), by decide +kernel⟩
theorem kw_576 : (Cond.selects RX9 yX9_room yX9_room) ∈ G := List.mem_filter.mpr ⟨List.mem_of_getElem? (i := 576) (by decide +kernel), by decide +kernel⟩
theorem kw_577 : (Cond.code yX9_room cX9_room 3 (some .int)) ∈ G := List.mem_filter.mpr ⟨List.mem_of_getElem? (i := 577) (by decide +kernel), by decide +kernel⟩
theorem kw_578 : (Cond.methodLink RL 35 yX9_heat) ∈ G := List.mem_filter.mpr ⟨List.mem_of_getElem? (i := 578) (by decide +kernel), by decide +kernel⟩
theorem kw_579 : (Cond.instanceMethod yX9_heat) ∈ G := List.mem_filter.mpr ⟨List.mem_of_getElem? (i := 579) (by decide +kernel), by decide +kernel⟩
theorem kw_580 : (Cond.selects RX9 yX9_heat yX9_heat) ∈ G := List.mem_filter.mpr ⟨List.mem_of_getElem? (i := 580) (by decide +kernel), by decide +kernel⟩
theorem kw_581 : (Cond.code yX9_heat cX9_heat 4 (some .int)) ∈ G := List.mem_filter.mpr ⟨List.mem_of_getElem? (i := 581) (by decide +kernel), by decide +kernel⟩
theorem kw_582 : (Cond.methodLink RL 39 yX9_minutes) ∈ G := List.mem_filter.mpr ⟨List.mem_of_getElem? (i := 582) (by decide +kernel), by decide +kernel⟩
theorem kw_583 : (Cond.instanceMethod yX9_minutes) ∈ G := List.mem_filter.mpr ⟨List.mem_of_getElem? (i := 583) (by decide +kernel), by decide +kernel⟩
theorem kw_584 : (Cond.selects RX9 yX9_minutes yX9_minutes) ∈ G := List.mem_filter.mpr ⟨List.mem_of_getElem? (i := 584) (by decide +kernel), by decide +kernel⟩
theorem kw_585 : (Cond.code yX9_minutes cX9_minutes 4 (some .int)) ∈ G := List.mem_filter.mpr ⟨List.mem_of_getElem? (i := 585) (by decide +kernel), by decide +kernel⟩
theorem kw_586 : (Cond.methodLink RX9 93 yX9_minute) ∈ G := List.mem_filter.mpr ⟨List.mem_of_getElem? (i := 586) (by decide +kernel), by decide +kernel⟩
theorem kw_588 : (Cond.instanceMethod yX9_minute) ∈ G := List.mem_filter.mpr ⟨List.mem_of_getElem? (i := 588) (by decide +kernel), by decide +kernel⟩
theorem kw_589 : (Cond.code yX9_minute cX9_minute 3 (some .int)) ∈ G := List.mem_filter.mpr ⟨List.mem_of_getElem? (i := 589) (by decide +kernel), by decide +kernel⟩
theorem kw_590 : (Cond.methodLink RL 43 yX9_bake) ∈ G := List.mem_filter.mpr ⟨List.mem_of_getElem? (i := 590) (by decide +kernel), by decide +kernel⟩
theorem kw_591 : (Cond.instanceMethod yX9_bake) ∈ G := List.mem_filter.mpr ⟨List.mem_of_getElem? (i := 591) (by decide +kernel), by decide +kernel⟩
theorem kw_592 : (Cond.selects RX9 yX9_bake yX9_bake) ∈ G := List.mem_filter.mpr ⟨List.mem_of_getElem? (i := 592) (by decide +kernel), by decide +kernel⟩
theorem kw_593 : (Cond.code yX9_bake cX9_bake 3 (some .int)) ∈ G := List.mem_filter.mpr ⟨List.mem_of_getElem? (i := 593) (by decide +kernel), by decide +kernel⟩
theorem kw_594 : (Cond.methodLink RX9 97 yX9_massIn) ∈ G := List.mem_filter.mpr ⟨List.mem_of_getElem? (i := 594) (by decide +kernel), by decide +kernel⟩
theorem kw_596 : (Cond.instanceMethod yX9_massIn) ∈ G := List.mem_filter.mpr ⟨List.mem_of_getElem? (i := 596) (by decide +kernel), by decide +kernel⟩
theorem kw_597 : (Cond.code yX9_massIn cX9_massIn 4 (some .int)) ∈ G := List.mem_filter.mpr ⟨List.mem_of_getElem? (i := 597) (by decide +kernel), by decide +kernel⟩
theorem kw_598 : (Cond.methodLink RL 47 yX9_out) ∈ G := List.mem_filter.mpr ⟨List.mem_of_getElem? (i := 598) (by decide +kernel), by decide +kernel⟩
theorem kw_599 : (Cond.instanceMethod yX9_out) ∈ G := List.mem_filter.mpr ⟨List.mem_of_getElem? (i := 599) (by decide +kernel), by decide +kernel⟩
theorem kw_600 : (Cond.selects RX9 yX9_out yX9_out) ∈ G := List.mem_filter.mpr ⟨List.mem_of_getElem? (i := 600) (by decide +kernel), by decide +kernel⟩
theorem kw_601 : (Cond.code yX9_out cX9_out 2 (some .int)) ∈ G := List.mem_filter.mpr ⟨List.mem_of_getElem? (i := 601) (by decide +kernel), by decide +kernel⟩
theorem kw_602 : (Cond.methodLink RL 51 yX9_sell) ∈ G := List.mem_filter.mpr ⟨List.mem_of_getElem? (i := 602) (by decide +kernel), by decide +kernel⟩
theorem kw_603 : (Cond.instanceMethod yX9_sell) ∈ G := List.mem_filter.mpr ⟨List.mem_of_getElem? (i := 603) (by decide +kernel), by decide +kernel⟩
theorem kw_604 : (Cond.selects RX9 yX9_sell yX9_sell) ∈ G := List.mem_filter.mpr ⟨List.mem_of_getElem? (i := 604) (by decide +kernel), by decide +kernel⟩
theorem kw_605 : (Cond.code yX9_sell cX9_sell 3 (some .int)) ∈ G := List.mem_filter.mpr ⟨List.mem_of_getElem? (i := 605) (by decide +kernel), by decide +kernel⟩
theorem kw_606 : (Cond.methodLink RL 56 yX9_day) ∈ G := List.mem_filter.mpr ⟨List.mem_of_getElem? (i := 606) (by decide +kernel), by decide +kernel⟩
theorem kw_607 : (Cond.instanceMethod yX9_day) ∈ G := List.mem_filter.mpr ⟨List.mem_of_getElem? (i := 607) (by decide +kernel), by decide +kernel⟩
theorem kw_608 : (Cond.selects RX9 yX9_day yX9_day) ∈ G := List.mem_filter.mpr ⟨List.mem_of_getElem? (i := 608) (by decide +kernel), by decide +kernel⟩
theorem kw_609 : (Cond.code yX9_day cX9_day 4 (some .int)) ∈ G := List.mem_filter.mpr ⟨List.mem_of_getElem? (i := 609) (by decide +kernel), by decide +kernel⟩
theorem kw_610 : (Cond.methodLink RL 60 yX9_told) ∈ G := List.mem_filter.mpr ⟨List.mem_of_getElem? (i := 610) (by decide +kernel), by decide +kernel⟩
theorem kw_611 : (Cond.instanceMethod yX9_told) ∈ G := List.mem_filter.mpr ⟨List.mem_of_getElem? (i := 611) (by decide +kernel), by decide +kernel⟩
theorem kw_612 : (Cond.selects RX9 yX9_told yX9_told) ∈ G := List.mem_filter.mpr ⟨List.mem_of_getElem? (i := 612) (by decide +kernel), by decide +kernel⟩
theorem kw_613 : (Cond.code yX9_told cX9_told 3 (some .int)) ∈ G := List.mem_filter.mpr ⟨List.mem_of_getElem? (i := 613) (by decide +kernel), by decide +kernel⟩
theorem kw_614 : (Cond.methodLink RL 64 yX9_count) ∈ G := List.mem_filter.mpr ⟨List.mem_of_getElem? (i := 614) (by decide +kernel), by decide +kernel⟩
theorem kw_615 : (Cond.instanceMethod yX9_count) ∈ G := List.mem_filter.mpr ⟨List.mem_of_getElem? (i := 615) (by decide +kernel), by decide +kernel⟩
theorem kw_616 : (Cond.selects RX9 yX9_count yX9_count) ∈ G := List.mem_filter.mpr ⟨List.mem_of_getElem? (i := 616) (by decide +kernel), by decide +kernel⟩
theorem kw_617 : (Cond.code yX9_count cX9_count 4 (some .int)) ∈ G := List.mem_filter.mpr ⟨List.mem_of_getElem? (i := 617) (by decide +kernel), by decide +kernel⟩
theorem kw_618 : (Cond.sameMethod "DoughRoom$Rye" "DoughRoom$Rye" "price" "()I") ∈ G := List.mem_filter.mpr ⟨List.mem_of_getElem? (i := 618) (by decide +kernel), by decide +kernel⟩
theorem kw_619 : (Cond.selects RX0 yX0_price yX0_price) ∈ G := List.mem_filter.mpr ⟨List.mem_of_getElem? (i := 619) (by decide +kernel), by decide +kernel⟩
abbrev TD : u_T := TX2
abbrev tyD : Nat → FieldType := tyX2
def RD : Nat → String := fun k => match k with
  | 0 => RX2
  | 1 => RX7
  | 2 => RX4
  | 3 => RX3
  | 4 => RX0
  | 5 => RX5
  | _ => RX1
/-- the classes whose objects the worlds hold: the seven kinds by their numbers, 7 the trace, 8 the room, 9 the reference -/
abbrev classes : List vw_C := [(RX2, TD, 8), (RX7, TD, 8), (RX4, TD, 8), (RX3, TD, 8), (RX0, TD, 8), (RX5, TD, 8), (RX1, TD, 8), (RX6, TX6, 3), (RX8, TX8, 7), (RX9, TX9, 15)]
theorem iG_0 : ∀ w ∈ u_ws RX2 TD 8, w ∈ G := by decide +kernel
theorem iG_1 : ∀ w ∈ u_ws RX7 TD 8, w ∈ G := by decide +kernel
theorem iG_2 : ∀ w ∈ u_ws RX4 TD 8, w ∈ G := by decide +kernel
theorem iG_3 : ∀ w ∈ u_ws RX3 TD 8, w ∈ G := by decide +kernel
theorem iG_4 : ∀ w ∈ u_ws RX0 TD 8, w ∈ G := by decide +kernel
theorem iG_5 : ∀ w ∈ u_ws RX5 TD 8, w ∈ G := by decide +kernel
theorem iG_6 : ∀ w ∈ u_ws RX1 TD 8, w ∈ G := by decide +kernel
theorem iG_7 : ∀ w ∈ u_ws RX6 TX6 3, w ∈ G := by decide +kernel
theorem iG_8 : ∀ w ∈ u_ws RX8 TX8 7, w ∈ G := by decide +kernel
theorem iG_9 : ∀ w ∈ u_ws RX9 TX9 15, w ∈ G := by decide +kernel
end
section
theorem dX0_init_0 : decode cX0_init 0 = .ok (.aload_n 0, 1) := by decide +kernel
theorem dX0_init_1 : decode cX0_init 1 = .ok (.iload_n 1, 1) := by decide +kernel
theorem dX0_init_2 : decode cX0_init 2 = .ok (.iload_n 2, 1) := by decide +kernel
theorem dX0_init_3 : decode cX0_init 3 = .ok (.aload_n 3, 1) := by decide +kernel
theorem dX0_init_4 : decode cX0_init 4 = .ok (.invokespecial 1, 3) := by decide +kernel
theorem dX0_init_7 : decode cX0_init 7 = .ok (.return_, 1) := by decide +kernel
theorem dX0_rise_0 : decode cX0_rise 0 = .ok (.aload_n 0, 1) := by decide +kernel
theorem dX0_rise_1 : decode cX0_rise 1 = .ok (.getfield 7, 3) := by decide +kernel
theorem dX0_rise_4 : decode cX0_rise 4 = .ok (.iconst 3, 1) := by decide +kernel
theorem dX0_rise_5 : decode cX0_rise 5 = .ok (.invokevirtual 13, 3) := by decide +kernel
theorem dX0_rise_8 : decode cX0_rise 8 = .ok (.aload_n 0, 1) := by decide +kernel
theorem dX0_rise_9 : decode cX0_rise 9 = .ok (.iload_n 1, 1) := by decide +kernel
theorem dX0_rise_10 : decode cX0_rise 10 = .ok (.invokespecial 19, 3) := by decide +kernel
theorem dX0_rise_13 : decode cX0_rise 13 = .ok (.iconst 1, 1) := by decide +kernel
theorem dX0_rise_14 : decode cX0_rise 14 = .ok (.isub, 1) := by decide +kernel
theorem dX0_rise_15 : decode cX0_rise 15 = .ok (.ireturn, 1) := by decide +kernel
theorem dX0_brown_0 : decode cX0_brown 0 = .ok (.aload_n 0, 1) := by decide +kernel
theorem dX0_brown_1 : decode cX0_brown 1 = .ok (.getfield 7, 3) := by decide +kernel
theorem dX0_brown_4 : decode cX0_brown 4 = .ok (.bipush 22, 2) := by decide +kernel
theorem dX0_brown_6 : decode cX0_brown 6 = .ok (.invokevirtual 13, 3) := by decide +kernel
theorem dX0_brown_9 : decode cX0_brown 9 = .ok (.aload_n 0, 1) := by decide +kernel
theorem dX0_brown_10 : decode cX0_brown 10 = .ok (.iload_n 1, 1) := by decide +kernel
theorem dX0_brown_11 : decode cX0_brown 11 = .ok (.invokespecial 23, 3) := by decide +kernel
theorem dX0_brown_14 : decode cX0_brown 14 = .ok (.iconst 2, 1) := by decide +kernel
theorem dX0_brown_15 : decode cX0_brown 15 = .ok (.iadd, 1) := by decide +kernel
theorem dX0_brown_16 : decode cX0_brown 16 = .ok (.iconst 3, 1) := by decide +kernel
theorem dX0_brown_17 : decode cX0_brown 17 = .ok (.idiv, 1) := by decide +kernel
theorem dX0_brown_18 : decode cX0_brown 18 = .ok (.ireturn, 1) := by decide +kernel
theorem dX0_price_0 : decode cX0_price 0 = .ok (.aload_n 0, 1) := by decide +kernel
theorem dX0_price_1 : decode cX0_price 1 = .ok (.getfield 7, 3) := by decide +kernel
theorem dX0_price_4 : decode cX0_price 4 = .ok (.bipush 33, 2) := by decide +kernel
theorem dX0_price_6 : decode cX0_price 6 = .ok (.invokevirtual 13, 3) := by decide +kernel
theorem dX0_price_9 : decode cX0_price 9 = .ok (.aload_n 0, 1) := by decide +kernel
theorem dX0_price_10 : decode cX0_price 10 = .ok (.invokespecial 26, 3) := by decide +kernel
theorem dX0_price_13 : decode cX0_price 13 = .ok (.istore_n 1, 1) := by decide +kernel
theorem dX0_price_14 : decode cX0_price 14 = .ok (.iload_n 1, 1) := by decide +kernel
theorem dX0_price_15 : decode cX0_price 15 = .ok (.aload_n 0, 1) := by decide +kernel
theorem dX0_price_16 : decode cX0_price 16 = .ok (.invokevirtual 30, 3) := by decide +kernel
theorem dX0_price_19 : decode cX0_price 19 = .ok (.iadd, 1) := by decide +kernel
theorem dX0_price_20 : decode cX0_price 20 = .ok (.ireturn, 1) := by decide +kernel
theorem dX0_keeps_0 : decode cX0_keeps 0 = .ok (.aload_n 0, 1) := by decide +kernel
theorem dX0_keeps_1 : decode cX0_keeps 1 = .ok (.getfield 7, 3) := by decide +kernel
theorem dX0_keeps_4 : decode cX0_keeps 4 = .ok (.bipush 42, 2) := by decide +kernel
theorem dX0_keeps_6 : decode cX0_keeps 6 = .ok (.invokevirtual 13, 3) := by decide +kernel
theorem dX0_keeps_9 : decode cX0_keeps 9 = .ok (.aload_n 0, 1) := by decide +kernel
theorem dX0_keeps_10 : decode cX0_keeps 10 = .ok (.invokevirtual 33, 3) := by decide +kernel
theorem dX0_keeps_13 : decode cX0_keeps 13 = .ok (.bipush 50, 2) := by decide +kernel
theorem dX0_keeps_15 : decode cX0_keeps 15 = .ok (.idiv, 1) := by decide +kernel
theorem dX0_keeps_16 : decode cX0_keeps 16 = .ok (.iconst 2, 1) := by decide +kernel
theorem dX0_keeps_17 : decode cX0_keeps 17 = .ok (.iadd, 1) := by decide +kernel
theorem dX0_keeps_18 : decode cX0_keeps 18 = .ok (.ireturn, 1) := by decide +kernel
theorem dX1_init_0 : decode cX1_init 0 = .ok (.aload_n 0, 1) := by decide +kernel
theorem dX1_init_1 : decode cX1_init 1 = .ok (.iload_n 1, 1) := by decide +kernel
theorem dX1_init_2 : decode cX1_init 2 = .ok (.iload_n 2, 1) := by decide +kernel
theorem dX1_init_3 : decode cX1_init 3 = .ok (.aload_n 3, 1) := by decide +kernel
theorem dX1_init_4 : decode cX1_init 4 = .ok (.invokespecial 1, 3) := by decide +kernel
theorem dX1_init_7 : decode cX1_init 7 = .ok (.return_, 1) := by decide +kernel
theorem dX1_rise_0 : decode cX1_rise 0 = .ok (.aload_n 0, 1) := by decide +kernel
theorem dX1_rise_1 : decode cX1_rise 1 = .ok (.getfield 7, 3) := by decide +kernel
theorem dX1_rise_4 : decode cX1_rise 4 = .ok (.iconst 4, 1) := by decide +kernel
theorem dX1_rise_5 : decode cX1_rise 5 = .ok (.invokevirtual 13, 3) := by decide +kernel
theorem dX1_rise_8 : decode cX1_rise 8 = .ok (.aload_n 0, 1) := by decide +kernel
theorem dX1_rise_9 : decode cX1_rise 9 = .ok (.iload_n 1, 1) := by decide +kernel
theorem dX1_rise_10 : decode cX1_rise 10 = .ok (.invokespecial 19, 3) := by decide +kernel
theorem dX1_rise_13 : decode cX1_rise 13 = .ok (.iload_n 1, 1) := by decide +kernel
theorem dX1_rise_14 : decode cX1_rise 14 = .ok (.bipush 10, 2) := by decide +kernel
theorem dX1_rise_16 : decode cX1_rise 16 = .ok (.idiv, 1) := by decide +kernel
theorem dX1_rise_17 : decode cX1_rise 17 = .ok (.iadd, 1) := by decide +kernel
theorem dX1_rise_18 : decode cX1_rise 18 = .ok (.ireturn, 1) := by decide +kernel
theorem dX1_price_0 : decode cX1_price 0 = .ok (.aload_n 0, 1) := by decide +kernel
theorem dX1_price_1 : decode cX1_price 1 = .ok (.getfield 7, 3) := by decide +kernel
theorem dX1_price_4 : decode cX1_price 4 = .ok (.bipush 34, 2) := by decide +kernel
theorem dX1_price_6 : decode cX1_price 6 = .ok (.invokevirtual 13, 3) := by decide +kernel
theorem dX1_price_9 : decode cX1_price 9 = .ok (.iconst 2, 1) := by decide +kernel
theorem dX1_price_10 : decode cX1_price 10 = .ok (.aload_n 0, 1) := by decide +kernel
theorem dX1_price_11 : decode cX1_price 11 = .ok (.invokespecial 23, 3) := by decide +kernel
theorem dX1_price_14 : decode cX1_price 14 = .ok (.imul, 1) := by decide +kernel
theorem dX1_price_15 : decode cX1_price 15 = .ok (.ireturn, 1) := by decide +kernel
theorem dX1_glaze_0 : decode cX1_glaze 0 = .ok (.aload_n 0, 1) := by decide +kernel
theorem dX1_glaze_1 : decode cX1_glaze 1 = .ok (.getfield 7, 3) := by decide +kernel
theorem dX1_glaze_4 : decode cX1_glaze 4 = .ok (.bipush 52, 2) := by decide +kernel
theorem dX1_glaze_6 : decode cX1_glaze 6 = .ok (.invokevirtual 13, 3) := by decide +kernel
theorem dX1_glaze_9 : decode cX1_glaze 9 = .ok (.aload_n 0, 1) := by decide +kernel
theorem dX1_glaze_10 : decode cX1_glaze 10 = .ok (.sipush 200, 3) := by decide +kernel
theorem dX1_glaze_13 : decode cX1_glaze 13 = .ok (.invokevirtual 27, 3) := by decide +kernel
theorem dX1_glaze_16 : decode cX1_glaze 16 = .ok (.bipush 20, 2) := by decide +kernel
theorem dX1_glaze_18 : decode cX1_glaze 18 = .ok (.iadd, 1) := by decide +kernel
theorem dX1_glaze_19 : decode cX1_glaze 19 = .ok (.ireturn, 1) := by decide +kernel
theorem dX2_init_0 : decode cX2_init 0 = .ok (.aload_n 0, 1) := by decide +kernel
theorem dX2_init_1 : decode cX2_init 1 = .ok (.invokespecial 3, 3) := by decide +kernel
theorem dX2_init_4 : decode cX2_init 4 = .ok (.aload_n 0, 1) := by decide +kernel
theorem dX2_init_5 : decode cX2_init 5 = .ok (.iload_n 1, 1) := by decide +kernel
theorem dX2_init_6 : decode cX2_init 6 = .ok (.putfield 9, 3) := by decide +kernel
theorem dX2_init_9 : decode cX2_init 9 = .ok (.aload_n 0, 1) := by decide +kernel
theorem dX2_init_10 : decode cX2_init 10 = .ok (.iload_n 2, 1) := by decide +kernel
theorem dX2_init_11 : decode cX2_init 11 = .ok (.putfield 15, 3) := by decide +kernel
theorem dX2_init_14 : decode cX2_init 14 = .ok (.aload_n 0, 1) := by decide +kernel
theorem dX2_init_15 : decode cX2_init 15 = .ok (.aload_n 3, 1) := by decide +kernel
theorem dX2_init_16 : decode cX2_init 16 = .ok (.putfield 18, 3) := by decide +kernel
theorem dX2_init_19 : decode cX2_init 19 = .ok (.aload_n 0, 1) := by decide +kernel
theorem dX2_init_20 : decode cX2_init 20 = .ok (.iconst 0, 1) := by decide +kernel
theorem dX2_init_21 : decode cX2_init 21 = .ok (.putfield 22, 3) := by decide +kernel
theorem dX2_init_24 : decode cX2_init 24 = .ok (.return_, 1) := by decide +kernel
theorem dX2_rise_0 : decode cX2_rise 0 = .ok (.aload_n 0, 1) := by decide +kernel
theorem dX2_rise_1 : decode cX2_rise 1 = .ok (.getfield 18, 3) := by decide +kernel
theorem dX2_rise_4 : decode cX2_rise 4 = .ok (.iconst 1, 1) := by decide +kernel
theorem dX2_rise_5 : decode cX2_rise 5 = .ok (.invokevirtual 25, 3) := by decide +kernel
theorem dX2_rise_8 : decode cX2_rise 8 = .ok (.iload_n 1, 1) := by decide +kernel
theorem dX2_rise_9 : decode cX2_rise 9 = .ok (.iconst 4, 1) := by decide +kernel
theorem dX2_rise_10 : decode cX2_rise 10 = .ok (.idiv, 1) := by decide +kernel
theorem dX2_rise_11 : decode cX2_rise 11 = .ok (.ireturn, 1) := by decide +kernel
theorem dX2_need_0 : decode cX2_need 0 = .ok (.aload_n 0, 1) := by decide +kernel
theorem dX2_need_1 : decode cX2_need 1 = .ok (.getfield 18, 3) := by decide +kernel
theorem dX2_need_4 : decode cX2_need 4 = .ok (.bipush 11, 2) := by decide +kernel
theorem dX2_need_6 : decode cX2_need 6 = .ok (.invokevirtual 25, 3) := by decide +kernel
theorem dX2_need_9 : decode cX2_need 9 = .ok (.bipush 100, 2) := by decide +kernel
theorem dX2_need_11 : decode cX2_need 11 = .ok (.aload_n 0, 1) := by decide +kernel
theorem dX2_need_12 : decode cX2_need 12 = .ok (.getfield 15, 3) := by decide +kernel
theorem dX2_need_15 : decode cX2_need 15 = .ok (.bipush 10, 2) := by decide +kernel
theorem dX2_need_17 : decode cX2_need 17 = .ok (.idiv, 1) := by decide +kernel
theorem dX2_need_18 : decode cX2_need 18 = .ok (.iadd, 1) := by decide +kernel
theorem dX2_need_19 : decode cX2_need 19 = .ok (.ireturn, 1) := by decide +kernel
theorem dX2_brown_0 : decode cX2_brown 0 = .ok (.aload_n 0, 1) := by decide +kernel
theorem dX2_brown_1 : decode cX2_brown 1 = .ok (.getfield 18, 3) := by decide +kernel
theorem dX2_brown_4 : decode cX2_brown 4 = .ok (.bipush 21, 2) := by decide +kernel
theorem dX2_brown_6 : decode cX2_brown 6 = .ok (.invokevirtual 25, 3) := by decide +kernel
theorem dX2_brown_9 : decode cX2_brown 9 = .ok (.iload_n 1, 1) := by decide +kernel
theorem dX2_brown_10 : decode cX2_brown 10 = .ok (.bipush 50, 2) := by decide +kernel
theorem dX2_brown_12 : decode cX2_brown 12 = .ok (.idiv, 1) := by decide +kernel
theorem dX2_brown_13 : decode cX2_brown 13 = .ok (.ireturn, 1) := by decide +kernel
theorem dX2_price_0 : decode cX2_price 0 = .ok (.aload_n 0, 1) := by decide +kernel
theorem dX2_price_1 : decode cX2_price 1 = .ok (.getfield 18, 3) := by decide +kernel
theorem dX2_price_4 : decode cX2_price 4 = .ok (.bipush 31, 2) := by decide +kernel
theorem dX2_price_6 : decode cX2_price 6 = .ok (.invokevirtual 25, 3) := by decide +kernel
theorem dX2_price_9 : decode cX2_price 9 = .ok (.bipush 10, 2) := by decide +kernel
theorem dX2_price_11 : decode cX2_price 11 = .ok (.aload_n 0, 1) := by decide +kernel
theorem dX2_price_12 : decode cX2_price 12 = .ok (.getfield 15, 3) := by decide +kernel
theorem dX2_price_15 : decode cX2_price 15 = .ok (.iconst 5, 1) := by decide +kernel
theorem dX2_price_16 : decode cX2_price 16 = .ok (.idiv, 1) := by decide +kernel
theorem dX2_price_17 : decode cX2_price 17 = .ok (.iadd, 1) := by decide +kernel
theorem dX2_price_18 : decode cX2_price 18 = .ok (.ireturn, 1) := by decide +kernel
theorem dX2_riseFor_0 : decode cX2_riseFor 0 = .ok (.aload_n 0, 1) := by decide +kernel
theorem dX2_riseFor_1 : decode cX2_riseFor 1 = .ok (.iload_n 2, 1) := by decide +kernel
theorem dX2_riseFor_2 : decode cX2_riseFor 2 = .ok (.invokevirtual 31, 3) := by decide +kernel
theorem dX2_riseFor_5 : decode cX2_riseFor 5 = .ok (.istore_n 3, 1) := by decide +kernel
theorem dX2_riseFor_6 : decode cX2_riseFor 6 = .ok (.iconst 2, 1) := by decide +kernel
theorem dX2_riseFor_7 : decode cX2_riseFor 7 = .ok (.aload_n 0, 1) := by decide +kernel
theorem dX2_riseFor_8 : decode cX2_riseFor 8 = .ok (.invokevirtual 35, 3) := by decide +kernel
theorem dX2_riseFor_11 : decode cX2_riseFor 11 = .ok (.imul, 1) := by decide +kernel
theorem dX2_riseFor_12 : decode cX2_riseFor 12 = .ok (.istore 4, 2) := by decide +kernel
theorem dX2_riseFor_14 : decode cX2_riseFor 14 = .ok (.iconst 0, 1) := by decide +kernel
theorem dX2_riseFor_15 : decode cX2_riseFor 15 = .ok (.istore 5, 2) := by decide +kernel
theorem dX2_riseFor_17 : decode cX2_riseFor 17 = .ok (.iload 5, 2) := by decide +kernel
theorem dX2_riseFor_19 : decode cX2_riseFor 19 = .ok (.iload_n 1, 1) := by decide +kernel
theorem dX2_riseFor_20 : decode cX2_riseFor 20 = .ok (.if_icmp .ge 40, 3) := by decide +kernel
theorem dX2_riseFor_23 : decode cX2_riseFor 23 = .ok (.aload_n 0, 1) := by decide +kernel
theorem dX2_riseFor_24 : decode cX2_riseFor 24 = .ok (.getfield 22, 3) := by decide +kernel
theorem dX2_riseFor_27 : decode cX2_riseFor 27 = .ok (.ifCond .ne 33, 3) := by decide +kernel
theorem dX2_riseFor_30 : decode cX2_riseFor 30 = .ok (.aload_n 0, 1) := by decide +kernel
theorem dX2_riseFor_31 : decode cX2_riseFor 31 = .ok (.dup, 1) := by decide +kernel
theorem dX2_riseFor_32 : decode cX2_riseFor 32 = .ok (.getfield 39, 3) := by decide +kernel
theorem dX2_riseFor_35 : decode cX2_riseFor 35 = .ok (.iload_n 3, 1) := by decide +kernel
theorem dX2_riseFor_36 : decode cX2_riseFor 36 = .ok (.iadd, 1) := by decide +kernel
theorem dX2_riseFor_37 : decode cX2_riseFor 37 = .ok (.putfield 39, 3) := by decide +kernel
theorem dX2_riseFor_40 : decode cX2_riseFor 40 = .ok (.aload_n 0, 1) := by decide +kernel
theorem dX2_riseFor_41 : decode cX2_riseFor 41 = .ok (.getfield 39, 3) := by decide +kernel
theorem dX2_riseFor_44 : decode cX2_riseFor 44 = .ok (.iload 4, 2) := by decide +kernel
theorem dX2_riseFor_46 : decode cX2_riseFor 46 = .ok (.if_icmp .le 8, 3) := by decide +kernel
theorem dX2_riseFor_49 : decode cX2_riseFor 49 = .ok (.aload_n 0, 1) := by decide +kernel
theorem dX2_riseFor_50 : decode cX2_riseFor 50 = .ok (.iconst 4, 1) := by decide +kernel
theorem dX2_riseFor_51 : decode cX2_riseFor 51 = .ok (.putfield 22, 3) := by decide +kernel
theorem dX2_riseFor_54 : decode cX2_riseFor 54 = .ok (.iinc 5 1, 3) := by decide +kernel
theorem dX2_riseFor_57 : decode cX2_riseFor 57 = .ok (.goto (-40), 3) := by decide +kernel
theorem dX2_riseFor_60 : decode cX2_riseFor 60 = .ok (.return_, 1) := by decide +kernel
theorem dX2_brownFor_0 : decode cX2_brownFor 0 = .ok (.aload_n 0, 1) := by decide +kernel
theorem dX2_brownFor_1 : decode cX2_brownFor 1 = .ok (.iload_n 2, 1) := by decide +kernel
theorem dX2_brownFor_2 : decode cX2_brownFor 2 = .ok (.invokevirtual 42, 3) := by decide +kernel
theorem dX2_brownFor_5 : decode cX2_brownFor 5 = .ok (.istore_n 3, 1) := by decide +kernel
theorem dX2_brownFor_6 : decode cX2_brownFor 6 = .ok (.iconst 0, 1) := by decide +kernel
theorem dX2_brownFor_7 : decode cX2_brownFor 7 = .ok (.istore 4, 2) := by decide +kernel
theorem dX2_brownFor_9 : decode cX2_brownFor 9 = .ok (.iload 4, 2) := by decide +kernel
theorem dX2_brownFor_11 : decode cX2_brownFor 11 = .ok (.iload_n 1, 1) := by decide +kernel
theorem dX2_brownFor_12 : decode cX2_brownFor 12 = .ok (.if_icmp .ge 41, 3) := by decide +kernel
theorem dX2_brownFor_15 : decode cX2_brownFor 15 = .ok (.aload_n 0, 1) := by decide +kernel
theorem dX2_brownFor_16 : decode cX2_brownFor 16 = .ok (.getfield 22, 3) := by decide +kernel
theorem dX2_brownFor_19 : decode cX2_brownFor 19 = .ok (.iconst 1, 1) := by decide +kernel
theorem dX2_brownFor_20 : decode cX2_brownFor 20 = .ok (.if_icmp .ne 33, 3) := by decide +kernel
theorem dX2_brownFor_23 : decode cX2_brownFor 23 = .ok (.aload_n 0, 1) := by decide +kernel
theorem dX2_brownFor_24 : decode cX2_brownFor 24 = .ok (.dup, 1) := by decide +kernel
theorem dX2_brownFor_25 : decode cX2_brownFor 25 = .ok (.getfield 45, 3) := by decide +kernel
theorem dX2_brownFor_28 : decode cX2_brownFor 28 = .ok (.iload_n 3, 1) := by decide +kernel
theorem dX2_brownFor_29 : decode cX2_brownFor 29 = .ok (.iadd, 1) := by decide +kernel
theorem dX2_brownFor_30 : decode cX2_brownFor 30 = .ok (.putfield 45, 3) := by decide +kernel
theorem dX2_brownFor_33 : decode cX2_brownFor 33 = .ok (.aload_n 0, 1) := by decide +kernel
theorem dX2_brownFor_34 : decode cX2_brownFor 34 = .ok (.getfield 45, 3) := by decide +kernel
theorem dX2_brownFor_37 : decode cX2_brownFor 37 = .ok (.bipush 100, 2) := by decide +kernel
theorem dX2_brownFor_39 : decode cX2_brownFor 39 = .ok (.if_icmp .le 8, 3) := by decide +kernel
theorem dX2_brownFor_42 : decode cX2_brownFor 42 = .ok (.aload_n 0, 1) := by decide +kernel
theorem dX2_brownFor_43 : decode cX2_brownFor 43 = .ok (.iconst 4, 1) := by decide +kernel
theorem dX2_brownFor_44 : decode cX2_brownFor 44 = .ok (.putfield 22, 3) := by decide +kernel
theorem dX2_brownFor_47 : decode cX2_brownFor 47 = .ok (.iinc 4 1, 3) := by decide +kernel
theorem dX2_brownFor_50 : decode cX2_brownFor 50 = .ok (.goto (-41), 3) := by decide +kernel
theorem dX2_brownFor_53 : decode cX2_brownFor 53 = .ok (.return_, 1) := by decide +kernel
theorem dX3_init_0 : decode cX3_init 0 = .ok (.aload_n 0, 1) := by decide +kernel
theorem dX3_init_1 : decode cX3_init 1 = .ok (.iload_n 1, 1) := by decide +kernel
theorem dX3_init_2 : decode cX3_init 2 = .ok (.iload_n 2, 1) := by decide +kernel
theorem dX3_init_3 : decode cX3_init 3 = .ok (.aload_n 3, 1) := by decide +kernel
theorem dX3_init_4 : decode cX3_init 4 = .ok (.invokespecial 1, 3) := by decide +kernel
theorem dX3_init_7 : decode cX3_init 7 = .ok (.return_, 1) := by decide +kernel
theorem dX3_need_0 : decode cX3_need 0 = .ok (.aload_n 0, 1) := by decide +kernel
theorem dX3_need_1 : decode cX3_need 1 = .ok (.getfield 7, 3) := by decide +kernel
theorem dX3_need_4 : decode cX3_need 4 = .ok (.bipush 13, 2) := by decide +kernel
theorem dX3_need_6 : decode cX3_need 6 = .ok (.invokevirtual 13, 3) := by decide +kernel
theorem dX3_need_9 : decode cX3_need 9 = .ok (.aload_n 0, 1) := by decide +kernel
theorem dX3_need_10 : decode cX3_need 10 = .ok (.invokespecial 19, 3) := by decide +kernel
theorem dX3_need_13 : decode cX3_need 13 = .ok (.istore_n 1, 1) := by decide +kernel
theorem dX3_need_14 : decode cX3_need 14 = .ok (.iload_n 1, 1) := by decide +kernel
theorem dX3_need_15 : decode cX3_need 15 = .ok (.aload_n 0, 1) := by decide +kernel
theorem dX3_need_16 : decode cX3_need 16 = .ok (.bipush 20, 2) := by decide +kernel
theorem dX3_need_18 : decode cX3_need 18 = .ok (.invokevirtual 23, 3) := by decide +kernel
theorem dX3_need_21 : decode cX3_need 21 = .ok (.iadd, 1) := by decide +kernel
theorem dX3_need_22 : decode cX3_need 22 = .ok (.ireturn, 1) := by decide +kernel
theorem dX3_price_0 : decode cX3_price 0 = .ok (.aload_n 0, 1) := by decide +kernel
theorem dX3_price_1 : decode cX3_price 1 = .ok (.getfield 7, 3) := by decide +kernel
theorem dX3_price_4 : decode cX3_price 4 = .ok (.bipush 32, 2) := by decide +kernel
theorem dX3_price_6 : decode cX3_price 6 = .ok (.invokevirtual 13, 3) := by decide +kernel
theorem dX3_price_9 : decode cX3_price 9 = .ok (.aload_n 0, 1) := by decide +kernel
theorem dX3_price_10 : decode cX3_price 10 = .ok (.invokespecial 27, 3) := by decide +kernel
theorem dX3_price_13 : decode cX3_price 13 = .ok (.bipush 40, 2) := by decide +kernel
theorem dX3_price_15 : decode cX3_price 15 = .ok (.iadd, 1) := by decide +kernel
theorem dX3_price_16 : decode cX3_price 16 = .ok (.ireturn, 1) := by decide +kernel
theorem dX4_init_0 : decode cX4_init 0 = .ok (.aload_n 0, 1) := by decide +kernel
theorem dX4_init_1 : decode cX4_init 1 = .ok (.iload_n 1, 1) := by decide +kernel
theorem dX4_init_2 : decode cX4_init 2 = .ok (.iload_n 2, 1) := by decide +kernel
theorem dX4_init_3 : decode cX4_init 3 = .ok (.aload_n 3, 1) := by decide +kernel
theorem dX4_init_4 : decode cX4_init 4 = .ok (.invokespecial 1, 3) := by decide +kernel
theorem dX4_init_7 : decode cX4_init 7 = .ok (.return_, 1) := by decide +kernel
theorem dX4_rise_0 : decode cX4_rise 0 = .ok (.aload_n 0, 1) := by decide +kernel
theorem dX4_rise_1 : decode cX4_rise 1 = .ok (.getfield 7, 3) := by decide +kernel
theorem dX4_rise_4 : decode cX4_rise 4 = .ok (.iconst 2, 1) := by decide +kernel
theorem dX4_rise_5 : decode cX4_rise 5 = .ok (.invokevirtual 13, 3) := by decide +kernel
theorem dX4_rise_8 : decode cX4_rise 8 = .ok (.aload_n 0, 1) := by decide +kernel
theorem dX4_rise_9 : decode cX4_rise 9 = .ok (.iload_n 1, 1) := by decide +kernel
theorem dX4_rise_10 : decode cX4_rise 10 = .ok (.invokespecial 19, 3) := by decide +kernel
theorem dX4_rise_13 : decode cX4_rise 13 = .ok (.iconst 2, 1) := by decide +kernel
theorem dX4_rise_14 : decode cX4_rise 14 = .ok (.idiv, 1) := by decide +kernel
theorem dX4_rise_15 : decode cX4_rise 15 = .ok (.iconst 1, 1) := by decide +kernel
theorem dX4_rise_16 : decode cX4_rise 16 = .ok (.iadd, 1) := by decide +kernel
theorem dX4_rise_17 : decode cX4_rise 17 = .ok (.ireturn, 1) := by decide +kernel
theorem dX4_keeps_0 : decode cX4_keeps 0 = .ok (.aload_n 0, 1) := by decide +kernel
theorem dX4_keeps_1 : decode cX4_keeps 1 = .ok (.getfield 7, 3) := by decide +kernel
theorem dX4_keeps_4 : decode cX4_keeps 4 = .ok (.bipush 41, 2) := by decide +kernel
theorem dX4_keeps_6 : decode cX4_keeps 6 = .ok (.invokevirtual 13, 3) := by decide +kernel
theorem dX4_keeps_9 : decode cX4_keeps 9 = .ok (.iconst 1, 1) := by decide +kernel
theorem dX4_keeps_10 : decode cX4_keeps 10 = .ok (.aload_n 0, 1) := by decide +kernel
theorem dX4_keeps_11 : decode cX4_keeps 11 = .ok (.invokevirtual 23, 3) := by decide +kernel
theorem dX4_keeps_14 : decode cX4_keeps 14 = .ok (.bipush 100, 2) := by decide +kernel
theorem dX4_keeps_16 : decode cX4_keeps 16 = .ok (.idiv, 1) := by decide +kernel
theorem dX4_keeps_17 : decode cX4_keeps 17 = .ok (.iadd, 1) := by decide +kernel
theorem dX4_keeps_18 : decode cX4_keeps 18 = .ok (.ireturn, 1) := by decide +kernel
theorem dX5_init_0 : decode cX5_init 0 = .ok (.aload_n 0, 1) := by decide +kernel
theorem dX5_init_1 : decode cX5_init 1 = .ok (.iload_n 1, 1) := by decide +kernel
theorem dX5_init_2 : decode cX5_init 2 = .ok (.iload_n 2, 1) := by decide +kernel
theorem dX5_init_3 : decode cX5_init 3 = .ok (.aload_n 3, 1) := by decide +kernel
theorem dX5_init_4 : decode cX5_init 4 = .ok (.invokespecial 1, 3) := by decide +kernel
theorem dX5_init_7 : decode cX5_init 7 = .ok (.return_, 1) := by decide +kernel
theorem dX5_brown_0 : decode cX5_brown 0 = .ok (.aload_n 0, 1) := by decide +kernel
theorem dX5_brown_1 : decode cX5_brown 1 = .ok (.getfield 7, 3) := by decide +kernel
theorem dX5_brown_4 : decode cX5_brown 4 = .ok (.bipush 23, 2) := by decide +kernel
theorem dX5_brown_6 : decode cX5_brown 6 = .ok (.invokevirtual 13, 3) := by decide +kernel
theorem dX5_brown_9 : decode cX5_brown 9 = .ok (.aload_n 0, 1) := by decide +kernel
theorem dX5_brown_10 : decode cX5_brown 10 = .ok (.iload_n 1, 1) := by decide +kernel
theorem dX5_brown_11 : decode cX5_brown 11 = .ok (.invokespecial 19, 3) := by decide +kernel
theorem dX5_brown_14 : decode cX5_brown 14 = .ok (.iconst 1, 1) := by decide +kernel
theorem dX5_brown_15 : decode cX5_brown 15 = .ok (.iadd, 1) := by decide +kernel
theorem dX5_brown_16 : decode cX5_brown 16 = .ok (.ireturn, 1) := by decide +kernel
theorem dX5_glaze_0 : decode cX5_glaze 0 = .ok (.aload_n 0, 1) := by decide +kernel
theorem dX5_glaze_1 : decode cX5_glaze 1 = .ok (.getfield 7, 3) := by decide +kernel
theorem dX5_glaze_4 : decode cX5_glaze 4 = .ok (.bipush 51, 2) := by decide +kernel
theorem dX5_glaze_6 : decode cX5_glaze 6 = .ok (.invokevirtual 13, 3) := by decide +kernel
theorem dX5_glaze_9 : decode cX5_glaze 9 = .ok (.aload_n 0, 1) := by decide +kernel
theorem dX5_glaze_10 : decode cX5_glaze 10 = .ok (.invokevirtual 23, 3) := by decide +kernel
theorem dX5_glaze_13 : decode cX5_glaze 13 = .ok (.bipush 10, 2) := by decide +kernel
theorem dX5_glaze_15 : decode cX5_glaze 15 = .ok (.idiv, 1) := by decide +kernel
theorem dX5_glaze_16 : decode cX5_glaze 16 = .ok (.iconst 5, 1) := by decide +kernel
theorem dX5_glaze_17 : decode cX5_glaze 17 = .ok (.iadd, 1) := by decide +kernel
theorem dX5_glaze_18 : decode cX5_glaze 18 = .ok (.ireturn, 1) := by decide +kernel
theorem dX6_init_0 : decode cX6_init 0 = .ok (.aload_n 0, 1) := by decide +kernel
theorem dX6_init_1 : decode cX6_init 1 = .ok (.invokespecial 3, 3) := by decide +kernel
theorem dX6_init_4 : decode cX6_init 4 = .ok (.aload_n 0, 1) := by decide +kernel
theorem dX6_init_5 : decode cX6_init 5 = .ok (.bipush 10, 2) := by decide +kernel
theorem dX6_init_7 : decode cX6_init 7 = .ok (.newarray .int, 2) := by decide +kernel
theorem dX6_init_9 : decode cX6_init 9 = .ok (.putfield 11, 3) := by decide +kernel
theorem dX6_init_12 : decode cX6_init 12 = .ok (.return_, 1) := by decide +kernel
theorem dX6_start_0 : decode cX6_start 0 = .ok (.aload_n 0, 1) := by decide +kernel
theorem dX6_start_1 : decode cX6_start 1 = .ok (.iconst 0, 1) := by decide +kernel
theorem dX6_start_2 : decode cX6_start 2 = .ok (.putfield 15, 3) := by decide +kernel
theorem dX6_start_5 : decode cX6_start 5 = .ok (.aload_n 0, 1) := by decide +kernel
theorem dX6_start_6 : decode cX6_start 6 = .ok (.iconst 1, 1) := by decide +kernel
theorem dX6_start_7 : decode cX6_start 7 = .ok (.putfield 19, 3) := by decide +kernel
theorem dX6_start_10 : decode cX6_start 10 = .ok (.return_, 1) := by decide +kernel
theorem dX6_stop_0 : decode cX6_stop 0 = .ok (.aload_n 0, 1) := by decide +kernel
theorem dX6_stop_1 : decode cX6_stop 1 = .ok (.iconst 0, 1) := by decide +kernel
theorem dX6_stop_2 : decode cX6_stop 2 = .ok (.putfield 19, 3) := by decide +kernel
theorem dX6_stop_5 : decode cX6_stop 5 = .ok (.return_, 1) := by decide +kernel
theorem dX6_leave_0 : decode cX6_leave 0 = .ok (.aload_n 0, 1) := by decide +kernel
theorem dX6_leave_1 : decode cX6_leave 1 = .ok (.getfield 19, 3) := by decide +kernel
theorem dX6_leave_4 : decode cX6_leave 4 = .ok (.ifCond .eq 42, 3) := by decide +kernel
theorem dX6_leave_7 : decode cX6_leave 7 = .ok (.aload_n 0, 1) := by decide +kernel
theorem dX6_leave_8 : decode cX6_leave 8 = .ok (.getfield 15, 3) := by decide +kernel
theorem dX6_leave_11 : decode cX6_leave 11 = .ok (.ifCond .lt 35, 3) := by decide +kernel
theorem dX6_leave_14 : decode cX6_leave 14 = .ok (.aload_n 0, 1) := by decide +kernel
theorem dX6_leave_15 : decode cX6_leave 15 = .ok (.getfield 15, 3) := by decide +kernel
theorem dX6_leave_18 : decode cX6_leave 18 = .ok (.aload_n 0, 1) := by decide +kernel
theorem dX6_leave_19 : decode cX6_leave 19 = .ok (.getfield 11, 3) := by decide +kernel
theorem dX6_leave_22 : decode cX6_leave 22 = .ok (.arraylength, 1) := by decide +kernel
theorem dX6_leave_23 : decode cX6_leave 23 = .ok (.if_icmp .ge 23, 3) := by decide +kernel
theorem dX6_leave_26 : decode cX6_leave 26 = .ok (.aload_n 0, 1) := by decide +kernel
theorem dX6_leave_27 : decode cX6_leave 27 = .ok (.getfield 11, 3) := by decide +kernel
theorem dX6_leave_30 : decode cX6_leave 30 = .ok (.aload_n 0, 1) := by decide +kernel
theorem dX6_leave_31 : decode cX6_leave 31 = .ok (.getfield 15, 3) := by decide +kernel
theorem dX6_leave_34 : decode cX6_leave 34 = .ok (.iload_n 1, 1) := by decide +kernel
theorem dX6_leave_35 : decode cX6_leave 35 = .ok (.iastore, 1) := by decide +kernel
theorem dX6_leave_36 : decode cX6_leave 36 = .ok (.aload_n 0, 1) := by decide +kernel
theorem dX6_leave_37 : decode cX6_leave 37 = .ok (.dup, 1) := by decide +kernel
theorem dX6_leave_38 : decode cX6_leave 38 = .ok (.getfield 15, 3) := by decide +kernel
theorem dX6_leave_41 : decode cX6_leave 41 = .ok (.iconst 1, 1) := by decide +kernel
theorem dX6_leave_42 : decode cX6_leave 42 = .ok (.iadd, 1) := by decide +kernel
theorem dX6_leave_43 : decode cX6_leave 43 = .ok (.putfield 15, 3) := by decide +kernel
theorem dX6_leave_46 : decode cX6_leave 46 = .ok (.return_, 1) := by decide +kernel
theorem dX6_at_0 : decode cX6_at 0 = .ok (.iload_n 1, 1) := by decide +kernel
theorem dX6_at_1 : decode cX6_at 1 = .ok (.ifCond .lt 29, 3) := by decide +kernel
theorem dX6_at_4 : decode cX6_at 4 = .ok (.iload_n 1, 1) := by decide +kernel
theorem dX6_at_5 : decode cX6_at 5 = .ok (.aload_n 0, 1) := by decide +kernel
theorem dX6_at_6 : decode cX6_at 6 = .ok (.getfield 15, 3) := by decide +kernel
theorem dX6_at_9 : decode cX6_at 9 = .ok (.if_icmp .ge 21, 3) := by decide +kernel
theorem dX6_at_12 : decode cX6_at 12 = .ok (.iload_n 1, 1) := by decide +kernel
theorem dX6_at_13 : decode cX6_at 13 = .ok (.aload_n 0, 1) := by decide +kernel
theorem dX6_at_14 : decode cX6_at 14 = .ok (.getfield 11, 3) := by decide +kernel
theorem dX6_at_17 : decode cX6_at 17 = .ok (.arraylength, 1) := by decide +kernel
theorem dX6_at_18 : decode cX6_at 18 = .ok (.if_icmp .ge 12, 3) := by decide +kernel
theorem dX6_at_21 : decode cX6_at 21 = .ok (.aload_n 0, 1) := by decide +kernel
theorem dX6_at_22 : decode cX6_at 22 = .ok (.getfield 11, 3) := by decide +kernel
theorem dX6_at_25 : decode cX6_at 25 = .ok (.iload_n 1, 1) := by decide +kernel
theorem dX6_at_26 : decode cX6_at 26 = .ok (.iaload, 1) := by decide +kernel
theorem dX6_at_27 : decode cX6_at 27 = .ok (.goto 4, 3) := by decide +kernel
theorem dX6_at_30 : decode cX6_at 30 = .ok (.iconst (-1), 1) := by decide +kernel
theorem dX6_at_31 : decode cX6_at 31 = .ok (.ireturn, 1) := by decide +kernel
theorem dX7_init_0 : decode cX7_init 0 = .ok (.aload_n 0, 1) := by decide +kernel
theorem dX7_init_1 : decode cX7_init 1 = .ok (.iload_n 1, 1) := by decide +kernel
theorem dX7_init_2 : decode cX7_init 2 = .ok (.iload_n 2, 1) := by decide +kernel
theorem dX7_init_3 : decode cX7_init 3 = .ok (.aload_n 3, 1) := by decide +kernel
theorem dX7_init_4 : decode cX7_init 4 = .ok (.invokespecial 1, 3) := by decide +kernel
theorem dX7_init_7 : decode cX7_init 7 = .ok (.return_, 1) := by decide +kernel
theorem dX7_need_0 : decode cX7_need 0 = .ok (.aload_n 0, 1) := by decide +kernel
theorem dX7_need_1 : decode cX7_need 1 = .ok (.getfield 7, 3) := by decide +kernel
theorem dX7_need_4 : decode cX7_need 4 = .ok (.bipush 12, 2) := by decide +kernel
theorem dX7_need_6 : decode cX7_need 6 = .ok (.invokevirtual 13, 3) := by decide +kernel
theorem dX7_need_9 : decode cX7_need 9 = .ok (.aload_n 0, 1) := by decide +kernel
theorem dX7_need_10 : decode cX7_need 10 = .ok (.invokespecial 19, 3) := by decide +kernel
theorem dX7_need_13 : decode cX7_need 13 = .ok (.bipush 50, 2) := by decide +kernel
theorem dX7_need_15 : decode cX7_need 15 = .ok (.iadd, 1) := by decide +kernel
theorem dX7_need_16 : decode cX7_need 16 = .ok (.ireturn, 1) := by decide +kernel
theorem dX8_init_0 : decode cX8_init 0 = .ok (.aload_n 0, 1) := by decide +kernel
theorem dX8_init_1 : decode cX8_init 1 = .ok (.invokespecial 1, 3) := by decide +kernel
theorem dX8_init_4 : decode cX8_init 4 = .ok (.aload_n 0, 1) := by decide +kernel
theorem dX8_init_5 : decode cX8_init 5 = .ok (.bipush 40, 2) := by decide +kernel
theorem dX8_init_7 : decode cX8_init 7 = .ok (.anewarray 9, 3) := by decide +kernel
theorem dX8_init_10 : decode cX8_init 10 = .ok (.putfield 11, 3) := by decide +kernel
theorem dX8_init_13 : decode cX8_init 13 = .ok (.aload_n 0, 1) := by decide +kernel
theorem dX8_init_14 : decode cX8_init 14 = .ok (.iconst 3, 1) := by decide +kernel
theorem dX8_init_15 : decode cX8_init 15 = .ok (.newarray .int, 2) := by decide +kernel
theorem dX8_init_17 : decode cX8_init 17 = .ok (.putfield 15, 3) := by decide +kernel
theorem dX8_init_20 : decode cX8_init 20 = .ok (.aload_n 0, 1) := by decide +kernel
theorem dX8_init_21 : decode cX8_init 21 = .ok (.new 19, 3) := by decide +kernel
theorem dX8_init_24 : decode cX8_init 24 = .ok (.dup, 1) := by decide +kernel
theorem dX8_init_25 : decode cX8_init 25 = .ok (.invokespecial 21, 3) := by decide +kernel
theorem dX8_init_28 : decode cX8_init 28 = .ok (.putfield 22, 3) := by decide +kernel
theorem dX8_init_31 : decode cX8_init 31 = .ok (.aload_n 0, 1) := by decide +kernel
theorem dX8_init_32 : decode cX8_init 32 = .ok (.bipush 20, 2) := by decide +kernel
theorem dX8_init_34 : decode cX8_init 34 = .ok (.putfield 26, 3) := by decide +kernel
theorem dX8_init_37 : decode cX8_init 37 = .ok (.return_, 1) := by decide +kernel
theorem dX8_batch_0 : decode cX8_batch 0 = .ok (.iload_n 1, 1) := by decide +kernel
theorem dX8_batch_1 : decode cX8_batch 1 = .ok (.iconst 0, 1) := by decide +kernel
theorem dX8_batch_2 : decode cX8_batch 2 = .ok (.bipush 6, 2) := by decide +kernel
theorem dX8_batch_4 : decode cX8_batch 4 = .ok (.invokestatic 30, 3) := by decide +kernel
theorem dX8_batch_7 : decode cX8_batch 7 = .ok (.ifCond .eq 14, 3) := by decide +kernel
theorem dX8_batch_10 : decode cX8_batch 10 = .ok (.iload_n 2, 1) := by decide +kernel
theorem dX8_batch_11 : decode cX8_batch 11 = .ok (.iconst 1, 1) := by decide +kernel
theorem dX8_batch_12 : decode cX8_batch 12 = .ok (.sipush 500, 3) := by decide +kernel
theorem dX8_batch_15 : decode cX8_batch 15 = .ok (.invokestatic 30, 3) := by decide +kernel
theorem dX8_batch_18 : decode cX8_batch 18 = .ok (.ifCond .ne 6, 3) := by decide +kernel
theorem dX8_batch_21 : decode cX8_batch 21 = .ok (.bipush (-2), 2) := by decide +kernel
theorem dX8_batch_23 : decode cX8_batch 23 = .ok (.ireturn, 1) := by decide +kernel
theorem dX8_batch_24 : decode cX8_batch 24 = .ok (.aload_n 0, 1) := by decide +kernel
theorem dX8_batch_25 : decode cX8_batch 25 = .ok (.getfield 34, 3) := by decide +kernel
theorem dX8_batch_28 : decode cX8_batch 28 = .ok (.ifCond .lt 15, 3) := by decide +kernel
theorem dX8_batch_31 : decode cX8_batch 31 = .ok (.aload_n 0, 1) := by decide +kernel
theorem dX8_batch_32 : decode cX8_batch 32 = .ok (.getfield 34, 3) := by decide +kernel
theorem dX8_batch_35 : decode cX8_batch 35 = .ok (.aload_n 0, 1) := by decide +kernel
theorem dX8_batch_36 : decode cX8_batch 36 = .ok (.getfield 11, 3) := by decide +kernel
theorem dX8_batch_39 : decode cX8_batch 39 = .ok (.arraylength, 1) := by decide +kernel
theorem dX8_batch_40 : decode cX8_batch 40 = .ok (.if_icmp .lt 6, 3) := by decide +kernel
theorem dX8_batch_43 : decode cX8_batch 43 = .ok (.bipush (-4), 2) := by decide +kernel
theorem dX8_batch_45 : decode cX8_batch 45 = .ok (.ireturn, 1) := by decide +kernel
theorem dX8_batch_46 : decode cX8_batch 46 = .ok (.aload_n 0, 1) := by decide +kernel
theorem dX8_batch_47 : decode cX8_batch 47 = .ok (.getfield 11, 3) := by decide +kernel
theorem dX8_batch_50 : decode cX8_batch 50 = .ok (.aload_n 0, 1) := by decide +kernel
theorem dX8_batch_51 : decode cX8_batch 51 = .ok (.getfield 34, 3) := by decide +kernel
theorem dX8_batch_54 : decode cX8_batch 54 = .ok (.aload_n 0, 1) := by decide +kernel
theorem dX8_batch_55 : decode cX8_batch 55 = .ok (.iload_n 1, 1) := by decide +kernel
theorem dX8_batch_56 : decode cX8_batch 56 = .ok (.iload_n 2, 1) := by decide +kernel
theorem dX8_batch_57 : decode cX8_batch 57 = .ok (.invokevirtual 37, 3) := by decide +kernel
theorem dX8_batch_60 : decode cX8_batch 60 = .ok (.aastore, 1) := by decide +kernel
theorem dX8_batch_61 : decode cX8_batch 61 = .ok (.aload_n 0, 1) := by decide +kernel
theorem dX8_batch_62 : decode cX8_batch 62 = .ok (.dup, 1) := by decide +kernel
theorem dX8_batch_63 : decode cX8_batch 63 = .ok (.getfield 34, 3) := by decide +kernel
theorem dX8_batch_66 : decode cX8_batch 66 = .ok (.iconst 1, 1) := by decide +kernel
theorem dX8_batch_67 : decode cX8_batch 67 = .ok (.iadd, 1) := by decide +kernel
theorem dX8_batch_68 : decode cX8_batch 68 = .ok (.putfield 34, 3) := by decide +kernel
theorem dX8_batch_71 : decode cX8_batch 71 = .ok (.aload_n 0, 1) := by decide +kernel
theorem dX8_batch_72 : decode cX8_batch 72 = .ok (.getfield 34, 3) := by decide +kernel
theorem dX8_batch_75 : decode cX8_batch 75 = .ok (.iconst 1, 1) := by decide +kernel
theorem dX8_batch_76 : decode cX8_batch 76 = .ok (.isub, 1) := by decide +kernel
theorem dX8_batch_77 : decode cX8_batch 77 = .ok (.ireturn, 1) := by decide +kernel
theorem dX8_ask_0 : decode cX8_ask 0 = .ok (.aload_n 0, 1) := by decide +kernel
theorem dX8_ask_1 : decode cX8_ask 1 = .ok (.iload_n 1, 1) := by decide +kernel
theorem dX8_ask_2 : decode cX8_ask 2 = .ok (.invokevirtual 41, 3) := by decide +kernel
theorem dX8_ask_5 : decode cX8_ask 5 = .ok (.astore 4, 2) := by decide +kernel
theorem dX8_ask_7 : decode cX8_ask 7 = .ok (.aload 4, 2) := by decide +kernel
theorem dX8_ask_9 : decode cX8_ask 9 = .ok (.ifnull 11, 3) := by decide +kernel
theorem dX8_ask_12 : decode cX8_ask 12 = .ok (.iload_n 2, 1) := by decide +kernel
theorem dX8_ask_13 : decode cX8_ask 13 = .ok (.iload_n 3, 1) := by decide +kernel
theorem dX8_ask_14 : decode cX8_ask 14 = .ok (.invokestatic 45, 3) := by decide +kernel
theorem dX8_ask_17 : decode cX8_ask 17 = .ok (.ifCond .ne 6, 3) := by decide +kernel
theorem dX8_ask_20 : decode cX8_ask 20 = .ok (.bipush (-2), 2) := by decide +kernel
theorem dX8_ask_22 : decode cX8_ask 22 = .ok (.ireturn, 1) := by decide +kernel
theorem dX8_ask_23 : decode cX8_ask 23 = .ok (.bipush (-3), 2) := by decide +kernel
theorem dX8_ask_25 : decode cX8_ask 25 = .ok (.istore 5, 2) := by decide +kernel
theorem dX8_ask_27 : decode cX8_ask 27 = .ok (.aload_n 0, 1) := by decide +kernel
theorem dX8_ask_28 : decode cX8_ask 28 = .ok (.getfield 22, 3) := by decide +kernel
theorem dX8_ask_31 : decode cX8_ask 31 = .ok (.invokevirtual 49, 3) := by decide +kernel
theorem dX8_ask_34 : decode cX8_ask 34 = .ok (.iload_n 2, 1) := by decide +kernel
theorem dX8_ask_35 : decode cX8_ask 35 = .ok (.tableswitch 100 0 4 #[33, 44, 54, 65, 75], 33) := by decide +kernel
theorem dX8_ask_68 : decode cX8_ask 68 = .ok (.aload 4, 2) := by decide +kernel
theorem dX8_ask_70 : decode cX8_ask 70 = .ok (.iload_n 3, 1) := by decide +kernel
theorem dX8_ask_71 : decode cX8_ask 71 = .ok (.invokevirtual 52, 3) := by decide +kernel
theorem dX8_ask_74 : decode cX8_ask 74 = .ok (.istore 5, 2) := by decide +kernel
theorem dX8_ask_76 : decode cX8_ask 76 = .ok (.goto 81, 3) := by decide +kernel
theorem dX8_ask_79 : decode cX8_ask 79 = .ok (.aload 4, 2) := by decide +kernel
theorem dX8_ask_81 : decode cX8_ask 81 = .ok (.invokevirtual 56, 3) := by decide +kernel
theorem dX8_ask_84 : decode cX8_ask 84 = .ok (.istore 5, 2) := by decide +kernel
theorem dX8_ask_86 : decode cX8_ask 86 = .ok (.goto 71, 3) := by decide +kernel
theorem dX8_ask_89 : decode cX8_ask 89 = .ok (.aload 4, 2) := by decide +kernel
theorem dX8_ask_91 : decode cX8_ask 91 = .ok (.iload_n 3, 1) := by decide +kernel
theorem dX8_ask_92 : decode cX8_ask 92 = .ok (.invokevirtual 60, 3) := by decide +kernel
theorem dX8_ask_95 : decode cX8_ask 95 = .ok (.istore 5, 2) := by decide +kernel
theorem dX8_ask_97 : decode cX8_ask 97 = .ok (.goto 60, 3) := by decide +kernel
theorem dX8_ask_100 : decode cX8_ask 100 = .ok (.aload 4, 2) := by decide +kernel
theorem dX8_ask_102 : decode cX8_ask 102 = .ok (.invokevirtual 63, 3) := by decide +kernel
theorem dX8_ask_105 : decode cX8_ask 105 = .ok (.istore 5, 2) := by decide +kernel
theorem dX8_ask_107 : decode cX8_ask 107 = .ok (.goto 50, 3) := by decide +kernel
theorem dX8_ask_110 : decode cX8_ask 110 = .ok (.aload 4, 2) := by decide +kernel
theorem dX8_ask_112 : decode cX8_ask 112 = .ok (.instanceof 66, 3) := by decide +kernel
theorem dX8_ask_115 : decode cX8_ask 115 = .ok (.ifCond .eq 17, 3) := by decide +kernel
theorem dX8_ask_118 : decode cX8_ask 118 = .ok (.aload 4, 2) := by decide +kernel
theorem dX8_ask_120 : decode cX8_ask 120 = .ok (.checkcast 66, 3) := by decide +kernel
theorem dX8_ask_123 : decode cX8_ask 123 = .ok (.astore 6, 2) := by decide +kernel
theorem dX8_ask_125 : decode cX8_ask 125 = .ok (.aload 6, 2) := by decide +kernel
theorem dX8_ask_127 : decode cX8_ask 127 = .ok (.invokevirtual 68, 3) := by decide +kernel
theorem dX8_ask_130 : decode cX8_ask 130 = .ok (.istore 5, 2) := by decide +kernel
theorem dX8_ask_132 : decode cX8_ask 132 = .ok (.goto 25, 3) := by decide +kernel
theorem dX8_ask_135 : decode cX8_ask 135 = .ok (.aload 4, 2) := by decide +kernel
theorem dX8_ask_137 : decode cX8_ask 137 = .ok (.instanceof 71, 3) := by decide +kernel
theorem dX8_ask_140 : decode cX8_ask 140 = .ok (.ifCond .eq 17, 3) := by decide +kernel
theorem dX8_ask_143 : decode cX8_ask 143 = .ok (.aload 4, 2) := by decide +kernel
theorem dX8_ask_145 : decode cX8_ask 145 = .ok (.checkcast 71, 3) := by decide +kernel
theorem dX8_ask_148 : decode cX8_ask 148 = .ok (.astore 6, 2) := by decide +kernel
theorem dX8_ask_150 : decode cX8_ask 150 = .ok (.aload 6, 2) := by decide +kernel
theorem dX8_ask_152 : decode cX8_ask 152 = .ok (.invokevirtual 73, 3) := by decide +kernel
theorem dX8_ask_155 : decode cX8_ask 155 = .ok (.istore 5, 2) := by decide +kernel
theorem dX8_ask_157 : decode cX8_ask 157 = .ok (.aload_n 0, 1) := by decide +kernel
theorem dX8_ask_158 : decode cX8_ask 158 = .ok (.getfield 22, 3) := by decide +kernel
theorem dX8_ask_161 : decode cX8_ask 161 = .ok (.invokevirtual 76, 3) := by decide +kernel
theorem dX8_ask_164 : decode cX8_ask 164 = .ok (.iload 5, 2) := by decide +kernel
theorem dX8_ask_166 : decode cX8_ask 166 = .ok (.ireturn, 1) := by decide +kernel
theorem dX8_trace_0 : decode cX8_trace 0 = .ok (.aload_n 0, 1) := by decide +kernel
theorem dX8_trace_1 : decode cX8_trace 1 = .ok (.getfield 22, 3) := by decide +kernel
theorem dX8_trace_4 : decode cX8_trace 4 = .ok (.iload_n 1, 1) := by decide +kernel
theorem dX8_trace_5 : decode cX8_trace 5 = .ok (.invokevirtual 79, 3) := by decide +kernel
theorem dX8_trace_8 : decode cX8_trace 8 = .ok (.ireturn, 1) := by decide +kernel
theorem dX8_room_0 : decode cX8_room 0 = .ok (.iload_n 1, 1) := by decide +kernel
theorem dX8_room_1 : decode cX8_room 1 = .ok (.iconst 0, 1) := by decide +kernel
theorem dX8_room_2 : decode cX8_room 2 = .ok (.bipush 60, 2) := by decide +kernel
theorem dX8_room_4 : decode cX8_room 4 = .ok (.invokestatic 30, 3) := by decide +kernel
theorem dX8_room_7 : decode cX8_room 7 = .ok (.ifCond .ne 6, 3) := by decide +kernel
theorem dX8_room_10 : decode cX8_room 10 = .ok (.bipush (-2), 2) := by decide +kernel
theorem dX8_room_12 : decode cX8_room 12 = .ok (.ireturn, 1) := by decide +kernel
theorem dX8_room_13 : decode cX8_room 13 = .ok (.aload_n 0, 1) := by decide +kernel
theorem dX8_room_14 : decode cX8_room 14 = .ok (.getfield 26, 3) := by decide +kernel
theorem dX8_room_17 : decode cX8_room 17 = .ok (.istore_n 2, 1) := by decide +kernel
theorem dX8_room_18 : decode cX8_room 18 = .ok (.aload_n 0, 1) := by decide +kernel
theorem dX8_room_19 : decode cX8_room 19 = .ok (.iload_n 1, 1) := by decide +kernel
theorem dX8_room_20 : decode cX8_room 20 = .ok (.putfield 26, 3) := by decide +kernel
theorem dX8_room_23 : decode cX8_room 23 = .ok (.iload_n 2, 1) := by decide +kernel
theorem dX8_room_24 : decode cX8_room 24 = .ok (.ireturn, 1) := by decide +kernel
theorem dX8_heat_0 : decode cX8_heat 0 = .ok (.aload_n 0, 1) := by decide +kernel
theorem dX8_heat_1 : decode cX8_heat 1 = .ok (.iload_n 1, 1) := by decide +kernel
theorem dX8_heat_2 : decode cX8_heat 2 = .ok (.invokevirtual 82, 3) := by decide +kernel
theorem dX8_heat_5 : decode cX8_heat 5 = .ok (.ifCond .eq 14, 3) := by decide +kernel
theorem dX8_heat_8 : decode cX8_heat 8 = .ok (.iload_n 2, 1) := by decide +kernel
theorem dX8_heat_9 : decode cX8_heat 9 = .ok (.iconst 0, 1) := by decide +kernel
theorem dX8_heat_10 : decode cX8_heat 10 = .ok (.sipush 400, 3) := by decide +kernel
theorem dX8_heat_13 : decode cX8_heat 13 = .ok (.invokestatic 30, 3) := by decide +kernel
theorem dX8_heat_16 : decode cX8_heat 16 = .ok (.ifCond .ne 6, 3) := by decide +kernel
theorem dX8_heat_19 : decode cX8_heat 19 = .ok (.bipush (-2), 2) := by decide +kernel
theorem dX8_heat_21 : decode cX8_heat 21 = .ok (.ireturn, 1) := by decide +kernel
theorem dX8_heat_22 : decode cX8_heat 22 = .ok (.aload_n 0, 1) := by decide +kernel
theorem dX8_heat_23 : decode cX8_heat 23 = .ok (.getfield 15, 3) := by decide +kernel
theorem dX8_heat_26 : decode cX8_heat 26 = .ok (.iload_n 1, 1) := by decide +kernel
theorem dX8_heat_27 : decode cX8_heat 27 = .ok (.iaload, 1) := by decide +kernel
theorem dX8_heat_28 : decode cX8_heat 28 = .ok (.istore_n 3, 1) := by decide +kernel
theorem dX8_heat_29 : decode cX8_heat 29 = .ok (.aload_n 0, 1) := by decide +kernel
theorem dX8_heat_30 : decode cX8_heat 30 = .ok (.getfield 15, 3) := by decide +kernel
theorem dX8_heat_33 : decode cX8_heat 33 = .ok (.iload_n 1, 1) := by decide +kernel
theorem dX8_heat_34 : decode cX8_heat 34 = .ok (.iload_n 2, 1) := by decide +kernel
theorem dX8_heat_35 : decode cX8_heat 35 = .ok (.iastore, 1) := by decide +kernel
theorem dX8_heat_36 : decode cX8_heat 36 = .ok (.iload_n 3, 1) := by decide +kernel
theorem dX8_heat_37 : decode cX8_heat 37 = .ok (.ireturn, 1) := by decide +kernel
theorem dX8_minutes_0 : decode cX8_minutes 0 = .ok (.iload_n 1, 1) := by decide +kernel
theorem dX8_minutes_1 : decode cX8_minutes 1 = .ok (.iconst 1, 1) := by decide +kernel
theorem dX8_minutes_2 : decode cX8_minutes 2 = .ok (.sipush 200, 3) := by decide +kernel
theorem dX8_minutes_5 : decode cX8_minutes 5 = .ok (.invokestatic 30, 3) := by decide +kernel
theorem dX8_minutes_8 : decode cX8_minutes 8 = .ok (.ifCond .ne 6, 3) := by decide +kernel
theorem dX8_minutes_11 : decode cX8_minutes 11 = .ok (.bipush (-2), 2) := by decide +kernel
theorem dX8_minutes_13 : decode cX8_minutes 13 = .ok (.ireturn, 1) := by decide +kernel
theorem dX8_minutes_14 : decode cX8_minutes 14 = .ok (.aload_n 0, 1) := by decide +kernel
theorem dX8_minutes_15 : decode cX8_minutes 15 = .ok (.iconst 4, 1) := by decide +kernel
theorem dX8_minutes_16 : decode cX8_minutes 16 = .ok (.invokevirtual 86, 3) := by decide +kernel
theorem dX8_minutes_19 : decode cX8_minutes 19 = .ok (.istore_n 2, 1) := by decide +kernel
theorem dX8_minutes_20 : decode cX8_minutes 20 = .ok (.aload_n 0, 1) := by decide +kernel
theorem dX8_minutes_21 : decode cX8_minutes 21 = .ok (.getfield 11, 3) := by decide +kernel
theorem dX8_minutes_24 : decode cX8_minutes 24 = .ok (.astore_n 3, 1) := by decide +kernel
theorem dX8_minutes_25 : decode cX8_minutes 25 = .ok (.aload_n 3, 1) := by decide +kernel
theorem dX8_minutes_26 : decode cX8_minutes 26 = .ok (.arraylength, 1) := by decide +kernel
theorem dX8_minutes_27 : decode cX8_minutes 27 = .ok (.istore 4, 2) := by decide +kernel
theorem dX8_minutes_29 : decode cX8_minutes 29 = .ok (.iconst 0, 1) := by decide +kernel
theorem dX8_minutes_30 : decode cX8_minutes 30 = .ok (.istore 5, 2) := by decide +kernel
theorem dX8_minutes_32 : decode cX8_minutes 32 = .ok (.iload 5, 2) := by decide +kernel
theorem dX8_minutes_34 : decode cX8_minutes 34 = .ok (.iload 4, 2) := by decide +kernel
theorem dX8_minutes_36 : decode cX8_minutes 36 = .ok (.if_icmp .ge 68, 3) := by decide +kernel
theorem dX8_minutes_39 : decode cX8_minutes 39 = .ok (.aload_n 3, 1) := by decide +kernel
theorem dX8_minutes_40 : decode cX8_minutes 40 = .ok (.iload 5, 2) := by decide +kernel
theorem dX8_minutes_42 : decode cX8_minutes 42 = .ok (.aaload, 1) := by decide +kernel
theorem dX8_minutes_43 : decode cX8_minutes 43 = .ok (.astore 6, 2) := by decide +kernel
theorem dX8_minutes_45 : decode cX8_minutes 45 = .ok (.aload 6, 2) := by decide +kernel
theorem dX8_minutes_47 : decode cX8_minutes 47 = .ok (.ifnonnull 6, 3) := by decide +kernel
theorem dX8_minutes_50 : decode cX8_minutes 50 = .ok (.goto 54, 3) := by decide +kernel
theorem dX8_minutes_53 : decode cX8_minutes 53 = .ok (.aload 6, 2) := by decide +kernel
theorem dX8_minutes_55 : decode cX8_minutes 55 = .ok (.getfield 89, 3) := by decide +kernel
theorem dX8_minutes_58 : decode cX8_minutes 58 = .ok (.ifCond .ne 16, 3) := by decide +kernel
theorem dX8_minutes_61 : decode cX8_minutes 61 = .ok (.aload 6, 2) := by decide +kernel
theorem dX8_minutes_63 : decode cX8_minutes 63 = .ok (.iload_n 1, 1) := by decide +kernel
theorem dX8_minutes_64 : decode cX8_minutes 64 = .ok (.aload_n 0, 1) := by decide +kernel
theorem dX8_minutes_65 : decode cX8_minutes 65 = .ok (.getfield 26, 3) := by decide +kernel
theorem dX8_minutes_68 : decode cX8_minutes 68 = .ok (.invokevirtual 92, 3) := by decide +kernel
theorem dX8_minutes_71 : decode cX8_minutes 71 = .ok (.goto 27, 3) := by decide +kernel
theorem dX8_minutes_74 : decode cX8_minutes 74 = .ok (.aload 6, 2) := by decide +kernel
theorem dX8_minutes_76 : decode cX8_minutes 76 = .ok (.getfield 89, 3) := by decide +kernel
theorem dX8_minutes_79 : decode cX8_minutes 79 = .ok (.iconst 1, 1) := by decide +kernel
theorem dX8_minutes_80 : decode cX8_minutes 80 = .ok (.if_icmp .ne 18, 3) := by decide +kernel
theorem dX8_minutes_83 : decode cX8_minutes 83 = .ok (.aload 6, 2) := by decide +kernel
theorem dX8_minutes_85 : decode cX8_minutes 85 = .ok (.iload_n 1, 1) := by decide +kernel
theorem dX8_minutes_86 : decode cX8_minutes 86 = .ok (.aload_n 0, 1) := by decide +kernel
theorem dX8_minutes_87 : decode cX8_minutes 87 = .ok (.aload 6, 2) := by decide +kernel
theorem dX8_minutes_89 : decode cX8_minutes 89 = .ok (.getfield 96, 3) := by decide +kernel
theorem dX8_minutes_92 : decode cX8_minutes 92 = .ok (.invokevirtual 99, 3) := by decide +kernel
theorem dX8_minutes_95 : decode cX8_minutes 95 = .ok (.invokevirtual 102, 3) := by decide +kernel
theorem dX8_minutes_98 : decode cX8_minutes 98 = .ok (.iinc 5 1, 3) := by decide +kernel
theorem dX8_minutes_101 : decode cX8_minutes 101 = .ok (.goto (-69), 3) := by decide +kernel
theorem dX8_minutes_104 : decode cX8_minutes 104 = .ok (.aload_n 0, 1) := by decide +kernel
theorem dX8_minutes_105 : decode cX8_minutes 105 = .ok (.iconst 4, 1) := by decide +kernel
theorem dX8_minutes_106 : decode cX8_minutes 106 = .ok (.invokevirtual 86, 3) := by decide +kernel
theorem dX8_minutes_109 : decode cX8_minutes 109 = .ok (.iload_n 2, 1) := by decide +kernel
theorem dX8_minutes_110 : decode cX8_minutes 110 = .ok (.isub, 1) := by decide +kernel
theorem dX8_minutes_111 : decode cX8_minutes 111 = .ok (.ireturn, 1) := by decide +kernel
theorem dX8_bake_0 : decode cX8_bake 0 = .ok (.aload_n 0, 1) := by decide +kernel
theorem dX8_bake_1 : decode cX8_bake 1 = .ok (.iload_n 1, 1) := by decide +kernel
theorem dX8_bake_2 : decode cX8_bake 2 = .ok (.invokevirtual 41, 3) := by decide +kernel
theorem dX8_bake_5 : decode cX8_bake 5 = .ok (.astore_n 3, 1) := by decide +kernel
theorem dX8_bake_6 : decode cX8_bake 6 = .ok (.aload_n 3, 1) := by decide +kernel
theorem dX8_bake_7 : decode cX8_bake 7 = .ok (.ifnull 11, 3) := by decide +kernel
theorem dX8_bake_10 : decode cX8_bake 10 = .ok (.aload_n 0, 1) := by decide +kernel
theorem dX8_bake_11 : decode cX8_bake 11 = .ok (.iload_n 2, 1) := by decide +kernel
theorem dX8_bake_12 : decode cX8_bake 12 = .ok (.invokevirtual 82, 3) := by decide +kernel
theorem dX8_bake_15 : decode cX8_bake 15 = .ok (.ifCond .ne 6, 3) := by decide +kernel
theorem dX8_bake_18 : decode cX8_bake 18 = .ok (.bipush (-2), 2) := by decide +kernel
theorem dX8_bake_20 : decode cX8_bake 20 = .ok (.ireturn, 1) := by decide +kernel
theorem dX8_bake_21 : decode cX8_bake 21 = .ok (.aload_n 3, 1) := by decide +kernel
theorem dX8_bake_22 : decode cX8_bake 22 = .ok (.getfield 89, 3) := by decide +kernel
theorem dX8_bake_25 : decode cX8_bake 25 = .ok (.ifCond .ne 14, 3) := by decide +kernel
theorem dX8_bake_28 : decode cX8_bake 28 = .ok (.aload_n 3, 1) := by decide +kernel
theorem dX8_bake_29 : decode cX8_bake 29 = .ok (.getfield 105, 3) := by decide +kernel
theorem dX8_bake_32 : decode cX8_bake 32 = .ok (.aload_n 3, 1) := by decide +kernel
theorem dX8_bake_33 : decode cX8_bake 33 = .ok (.invokevirtual 56, 3) := by decide +kernel
theorem dX8_bake_36 : decode cX8_bake 36 = .ok (.if_icmp .ge 6, 3) := by decide +kernel
theorem dX8_bake_39 : decode cX8_bake 39 = .ok (.bipush (-3), 2) := by decide +kernel
theorem dX8_bake_41 : decode cX8_bake 41 = .ok (.ireturn, 1) := by decide +kernel
theorem dX8_bake_42 : decode cX8_bake 42 = .ok (.aload_n 0, 1) := by decide +kernel
theorem dX8_bake_43 : decode cX8_bake 43 = .ok (.iload_n 2, 1) := by decide +kernel
theorem dX8_bake_44 : decode cX8_bake 44 = .ok (.invokevirtual 108, 3) := by decide +kernel
theorem dX8_bake_47 : decode cX8_bake 47 = .ok (.aload_n 3, 1) := by decide +kernel
theorem dX8_bake_48 : decode cX8_bake 48 = .ok (.getfield 111, 3) := by decide +kernel
theorem dX8_bake_51 : decode cX8_bake 51 = .ok (.iadd, 1) := by decide +kernel
theorem dX8_bake_52 : decode cX8_bake 52 = .ok (.istore 4, 2) := by decide +kernel
theorem dX8_bake_54 : decode cX8_bake 54 = .ok (.iload 4, 2) := by decide +kernel
theorem dX8_bake_56 : decode cX8_bake 56 = .ok (.sipush 800, 3) := by decide +kernel
theorem dX8_bake_59 : decode cX8_bake 59 = .ok (.if_icmp .le 6, 3) := by decide +kernel
theorem dX8_bake_62 : decode cX8_bake 62 = .ok (.bipush (-4), 2) := by decide +kernel
theorem dX8_bake_64 : decode cX8_bake 64 = .ok (.ireturn, 1) := by decide +kernel
theorem dX8_bake_65 : decode cX8_bake 65 = .ok (.aload_n 3, 1) := by decide +kernel
theorem dX8_bake_66 : decode cX8_bake 66 = .ok (.iconst 1, 1) := by decide +kernel
theorem dX8_bake_67 : decode cX8_bake 67 = .ok (.putfield 89, 3) := by decide +kernel
theorem dX8_bake_70 : decode cX8_bake 70 = .ok (.aload_n 3, 1) := by decide +kernel
theorem dX8_bake_71 : decode cX8_bake 71 = .ok (.iload_n 2, 1) := by decide +kernel
theorem dX8_bake_72 : decode cX8_bake 72 = .ok (.putfield 96, 3) := by decide +kernel
theorem dX8_bake_75 : decode cX8_bake 75 = .ok (.iload 4, 2) := by decide +kernel
theorem dX8_bake_77 : decode cX8_bake 77 = .ok (.ireturn, 1) := by decide +kernel
theorem dX8_out_0 : decode cX8_out 0 = .ok (.aload_n 0, 1) := by decide +kernel
theorem dX8_out_1 : decode cX8_out 1 = .ok (.iload_n 1, 1) := by decide +kernel
theorem dX8_out_2 : decode cX8_out 2 = .ok (.invokevirtual 41, 3) := by decide +kernel
theorem dX8_out_5 : decode cX8_out 5 = .ok (.astore_n 2, 1) := by decide +kernel
theorem dX8_out_6 : decode cX8_out 6 = .ok (.aload_n 2, 1) := by decide +kernel
theorem dX8_out_7 : decode cX8_out 7 = .ok (.ifnonnull 6, 3) := by decide +kernel
theorem dX8_out_10 : decode cX8_out 10 = .ok (.bipush (-2), 2) := by decide +kernel
theorem dX8_out_12 : decode cX8_out 12 = .ok (.ireturn, 1) := by decide +kernel
theorem dX8_out_13 : decode cX8_out 13 = .ok (.aload_n 2, 1) := by decide +kernel
theorem dX8_out_14 : decode cX8_out 14 = .ok (.getfield 89, 3) := by decide +kernel
theorem dX8_out_17 : decode cX8_out 17 = .ok (.iconst 1, 1) := by decide +kernel
theorem dX8_out_18 : decode cX8_out 18 = .ok (.if_icmp .eq 6, 3) := by decide +kernel
theorem dX8_out_21 : decode cX8_out 21 = .ok (.bipush (-3), 2) := by decide +kernel
theorem dX8_out_23 : decode cX8_out 23 = .ok (.ireturn, 1) := by decide +kernel
theorem dX8_out_24 : decode cX8_out 24 = .ok (.aload_n 2, 1) := by decide +kernel
theorem dX8_out_25 : decode cX8_out 25 = .ok (.getfield 114, 3) := by decide +kernel
theorem dX8_out_28 : decode cX8_out 28 = .ok (.bipush 40, 2) := by decide +kernel
theorem dX8_out_30 : decode cX8_out 30 = .ok (.if_icmp .lt 19, 3) := by decide +kernel
theorem dX8_out_33 : decode cX8_out 33 = .ok (.aload_n 2, 1) := by decide +kernel
theorem dX8_out_34 : decode cX8_out 34 = .ok (.iconst 2, 1) := by decide +kernel
theorem dX8_out_35 : decode cX8_out 35 = .ok (.putfield 89, 3) := by decide +kernel
theorem dX8_out_38 : decode cX8_out 38 = .ok (.aload_n 2, 1) := by decide +kernel
theorem dX8_out_39 : decode cX8_out 39 = .ok (.aload_n 0, 1) := by decide +kernel
theorem dX8_out_40 : decode cX8_out 40 = .ok (.getfield 117, 3) := by decide +kernel
theorem dX8_out_43 : decode cX8_out 43 = .ok (.putfield 120, 3) := by decide +kernel
theorem dX8_out_46 : decode cX8_out 46 = .ok (.goto 8, 3) := by decide +kernel
theorem dX8_out_49 : decode cX8_out 49 = .ok (.aload_n 2, 1) := by decide +kernel
theorem dX8_out_50 : decode cX8_out 50 = .ok (.iconst 4, 1) := by decide +kernel
theorem dX8_out_51 : decode cX8_out 51 = .ok (.putfield 89, 3) := by decide +kernel
theorem dX8_out_54 : decode cX8_out 54 = .ok (.aload_n 2, 1) := by decide +kernel
theorem dX8_out_55 : decode cX8_out 55 = .ok (.getfield 114, 3) := by decide +kernel
theorem dX8_out_58 : decode cX8_out 58 = .ok (.ireturn, 1) := by decide +kernel
theorem dX8_sell_0 : decode cX8_sell 0 = .ok (.aload_n 0, 1) := by decide +kernel
theorem dX8_sell_1 : decode cX8_sell 1 = .ok (.iload_n 1, 1) := by decide +kernel
theorem dX8_sell_2 : decode cX8_sell 2 = .ok (.invokevirtual 41, 3) := by decide +kernel
theorem dX8_sell_5 : decode cX8_sell 5 = .ok (.astore_n 2, 1) := by decide +kernel
theorem dX8_sell_6 : decode cX8_sell 6 = .ok (.aload_n 2, 1) := by decide +kernel
theorem dX8_sell_7 : decode cX8_sell 7 = .ok (.ifnonnull 6, 3) := by decide +kernel
theorem dX8_sell_10 : decode cX8_sell 10 = .ok (.bipush (-2), 2) := by decide +kernel
theorem dX8_sell_12 : decode cX8_sell 12 = .ok (.ireturn, 1) := by decide +kernel
theorem dX8_sell_13 : decode cX8_sell 13 = .ok (.aload_n 2, 1) := by decide +kernel
theorem dX8_sell_14 : decode cX8_sell 14 = .ok (.getfield 89, 3) := by decide +kernel
theorem dX8_sell_17 : decode cX8_sell 17 = .ok (.iconst 2, 1) := by decide +kernel
theorem dX8_sell_18 : decode cX8_sell 18 = .ok (.if_icmp .eq 6, 3) := by decide +kernel
theorem dX8_sell_21 : decode cX8_sell 21 = .ok (.bipush (-3), 2) := by decide +kernel
theorem dX8_sell_23 : decode cX8_sell 23 = .ok (.ireturn, 1) := by decide +kernel
theorem dX8_sell_24 : decode cX8_sell 24 = .ok (.aload_n 2, 1) := by decide +kernel
theorem dX8_sell_25 : decode cX8_sell 25 = .ok (.invokevirtual 63, 3) := by decide +kernel
theorem dX8_sell_28 : decode cX8_sell 28 = .ok (.istore_n 3, 1) := by decide +kernel
theorem dX8_sell_29 : decode cX8_sell 29 = .ok (.aload_n 2, 1) := by decide +kernel
theorem dX8_sell_30 : decode cX8_sell 30 = .ok (.instanceof 71, 3) := by decide +kernel
theorem dX8_sell_33 : decode cX8_sell 33 = .ok (.ifCond .eq 17, 3) := by decide +kernel
theorem dX8_sell_36 : decode cX8_sell 36 = .ok (.aload_n 2, 1) := by decide +kernel
theorem dX8_sell_37 : decode cX8_sell 37 = .ok (.checkcast 71, 3) := by decide +kernel
theorem dX8_sell_40 : decode cX8_sell 40 = .ok (.astore 4, 2) := by decide +kernel
theorem dX8_sell_42 : decode cX8_sell 42 = .ok (.iload_n 3, 1) := by decide +kernel
theorem dX8_sell_43 : decode cX8_sell 43 = .ok (.aload 4, 2) := by decide +kernel
theorem dX8_sell_45 : decode cX8_sell 45 = .ok (.invokevirtual 73, 3) := by decide +kernel
theorem dX8_sell_48 : decode cX8_sell 48 = .ok (.iadd, 1) := by decide +kernel
theorem dX8_sell_49 : decode cX8_sell 49 = .ok (.istore_n 3, 1) := by decide +kernel
theorem dX8_sell_50 : decode cX8_sell 50 = .ok (.iconst 1, 1) := by decide +kernel
theorem dX8_sell_51 : decode cX8_sell 51 = .ok (.iload_n 3, 1) := by decide +kernel
theorem dX8_sell_52 : decode cX8_sell 52 = .ok (.aload_n 0, 1) := by decide +kernel
theorem dX8_sell_53 : decode cX8_sell 53 = .ok (.getfield 117, 3) := by decide +kernel
theorem dX8_sell_56 : decode cX8_sell 56 = .ok (.aload_n 2, 1) := by decide +kernel
theorem dX8_sell_57 : decode cX8_sell 57 = .ok (.getfield 120, 3) := by decide +kernel
theorem dX8_sell_60 : decode cX8_sell 60 = .ok (.isub, 1) := by decide +kernel
theorem dX8_sell_61 : decode cX8_sell 61 = .ok (.isub, 1) := by decide +kernel
theorem dX8_sell_62 : decode cX8_sell 62 = .ok (.invokestatic 123, 3) := by decide +kernel
theorem dX8_sell_65 : decode cX8_sell 65 = .ok (.istore 4, 2) := by decide +kernel
theorem dX8_sell_67 : decode cX8_sell 67 = .ok (.aload_n 2, 1) := by decide +kernel
theorem dX8_sell_68 : decode cX8_sell 68 = .ok (.iconst 3, 1) := by decide +kernel
theorem dX8_sell_69 : decode cX8_sell 69 = .ok (.putfield 89, 3) := by decide +kernel
theorem dX8_sell_72 : decode cX8_sell 72 = .ok (.aload_n 0, 1) := by decide +kernel
theorem dX8_sell_73 : decode cX8_sell 73 = .ok (.dup, 1) := by decide +kernel
theorem dX8_sell_74 : decode cX8_sell 74 = .ok (.getfield 129, 3) := by decide +kernel
theorem dX8_sell_77 : decode cX8_sell 77 = .ok (.iload 4, 2) := by decide +kernel
theorem dX8_sell_79 : decode cX8_sell 79 = .ok (.iadd, 1) := by decide +kernel
theorem dX8_sell_80 : decode cX8_sell 80 = .ok (.putfield 129, 3) := by decide +kernel
theorem dX8_sell_83 : decode cX8_sell 83 = .ok (.iload 4, 2) := by decide +kernel
theorem dX8_sell_85 : decode cX8_sell 85 = .ok (.ireturn, 1) := by decide +kernel
theorem dX8_day_0 : decode cX8_day 0 = .ok (.aload_n 0, 1) := by decide +kernel
theorem dX8_day_1 : decode cX8_day 1 = .ok (.getfield 117, 3) := by decide +kernel
theorem dX8_day_4 : decode cX8_day 4 = .ok (.sipush 10000, 3) := by decide +kernel
theorem dX8_day_7 : decode cX8_day 7 = .ok (.if_icmp .lt 6, 3) := by decide +kernel
theorem dX8_day_10 : decode cX8_day 10 = .ok (.bipush (-4), 2) := by decide +kernel
theorem dX8_day_12 : decode cX8_day 12 = .ok (.ireturn, 1) := by decide +kernel
theorem dX8_day_13 : decode cX8_day 13 = .ok (.iconst 0, 1) := by decide +kernel
theorem dX8_day_14 : decode cX8_day 14 = .ok (.istore_n 1, 1) := by decide +kernel
theorem dX8_day_15 : decode cX8_day 15 = .ok (.aload_n 0, 1) := by decide +kernel
theorem dX8_day_16 : decode cX8_day 16 = .ok (.getfield 11, 3) := by decide +kernel
theorem dX8_day_19 : decode cX8_day 19 = .ok (.astore_n 2, 1) := by decide +kernel
theorem dX8_day_20 : decode cX8_day 20 = .ok (.aload_n 2, 1) := by decide +kernel
theorem dX8_day_21 : decode cX8_day 21 = .ok (.arraylength, 1) := by decide +kernel
theorem dX8_day_22 : decode cX8_day 22 = .ok (.istore_n 3, 1) := by decide +kernel
theorem dX8_day_23 : decode cX8_day 23 = .ok (.iconst 0, 1) := by decide +kernel
theorem dX8_day_24 : decode cX8_day 24 = .ok (.istore 4, 2) := by decide +kernel
theorem dX8_day_26 : decode cX8_day 26 = .ok (.iload 4, 2) := by decide +kernel
theorem dX8_day_28 : decode cX8_day 28 = .ok (.iload_n 3, 1) := by decide +kernel
theorem dX8_day_29 : decode cX8_day 29 = .ok (.if_icmp .ge 82, 3) := by decide +kernel
theorem dX8_day_32 : decode cX8_day 32 = .ok (.aload_n 2, 1) := by decide +kernel
theorem dX8_day_33 : decode cX8_day 33 = .ok (.iload 4, 2) := by decide +kernel
theorem dX8_day_35 : decode cX8_day 35 = .ok (.aaload, 1) := by decide +kernel
theorem dX8_day_36 : decode cX8_day 36 = .ok (.astore 5, 2) := by decide +kernel
theorem dX8_day_38 : decode cX8_day 38 = .ok (.aload 5, 2) := by decide +kernel
theorem dX8_day_40 : decode cX8_day 40 = .ok (.ifnonnull 6, 3) := by decide +kernel
theorem dX8_day_43 : decode cX8_day 43 = .ok (.goto 68, 3) := by decide +kernel
theorem dX8_day_46 : decode cX8_day 46 = .ok (.aload 5, 2) := by decide +kernel
theorem dX8_day_48 : decode cX8_day 48 = .ok (.getfield 89, 3) := by decide +kernel
theorem dX8_day_51 : decode cX8_day 51 = .ok (.iconst 2, 1) := by decide +kernel
theorem dX8_day_52 : decode cX8_day 52 = .ok (.if_icmp .ne 53, 3) := by decide +kernel
theorem dX8_day_55 : decode cX8_day 55 = .ok (.aload 5, 2) := by decide +kernel
theorem dX8_day_57 : decode cX8_day 57 = .ok (.instanceof 66, 3) := by decide +kernel
theorem dX8_day_60 : decode cX8_day 60 = .ok (.ifCond .eq 18, 3) := by decide +kernel
theorem dX8_day_63 : decode cX8_day 63 = .ok (.aload 5, 2) := by decide +kernel
theorem dX8_day_65 : decode cX8_day 65 = .ok (.checkcast 66, 3) := by decide +kernel
theorem dX8_day_68 : decode cX8_day 68 = .ok (.astore 7, 2) := by decide +kernel
theorem dX8_day_70 : decode cX8_day 70 = .ok (.aload 7, 2) := by decide +kernel
theorem dX8_day_72 : decode cX8_day 72 = .ok (.invokevirtual 68, 3) := by decide +kernel
theorem dX8_day_75 : decode cX8_day 75 = .ok (.goto 4, 3) := by decide +kernel
theorem dX8_day_78 : decode cX8_day 78 = .ok (.iconst 1, 1) := by decide +kernel
theorem dX8_day_79 : decode cX8_day 79 = .ok (.istore 6, 2) := by decide +kernel
theorem dX8_day_81 : decode cX8_day 81 = .ok (.aload_n 0, 1) := by decide +kernel
theorem dX8_day_82 : decode cX8_day 82 = .ok (.getfield 117, 3) := by decide +kernel
theorem dX8_day_85 : decode cX8_day 85 = .ok (.aload 5, 2) := by decide +kernel
theorem dX8_day_87 : decode cX8_day 87 = .ok (.getfield 120, 3) := by decide +kernel
theorem dX8_day_90 : decode cX8_day 90 = .ok (.isub, 1) := by decide +kernel
theorem dX8_day_91 : decode cX8_day 91 = .ok (.iload 6, 2) := by decide +kernel
theorem dX8_day_93 : decode cX8_day 93 = .ok (.if_icmp .lt 12, 3) := by decide +kernel
theorem dX8_day_96 : decode cX8_day 96 = .ok (.aload 5, 2) := by decide +kernel
theorem dX8_day_98 : decode cX8_day 98 = .ok (.iconst 4, 1) := by decide +kernel
theorem dX8_day_99 : decode cX8_day 99 = .ok (.putfield 89, 3) := by decide +kernel
theorem dX8_day_102 : decode cX8_day 102 = .ok (.iinc 1 1, 3) := by decide +kernel
theorem dX8_day_105 : decode cX8_day 105 = .ok (.iinc 4 1, 3) := by decide +kernel
theorem dX8_day_108 : decode cX8_day 108 = .ok (.goto (-82), 3) := by decide +kernel
theorem dX8_day_111 : decode cX8_day 111 = .ok (.aload_n 0, 1) := by decide +kernel
theorem dX8_day_112 : decode cX8_day 112 = .ok (.dup, 1) := by decide +kernel
theorem dX8_day_113 : decode cX8_day 113 = .ok (.getfield 117, 3) := by decide +kernel
theorem dX8_day_116 : decode cX8_day 116 = .ok (.iconst 1, 1) := by decide +kernel
theorem dX8_day_117 : decode cX8_day 117 = .ok (.iadd, 1) := by decide +kernel
theorem dX8_day_118 : decode cX8_day 118 = .ok (.putfield 117, 3) := by decide +kernel
theorem dX8_day_121 : decode cX8_day 121 = .ok (.iload_n 1, 1) := by decide +kernel
theorem dX8_day_122 : decode cX8_day 122 = .ok (.ireturn, 1) := by decide +kernel
theorem dX8_told_0 : decode cX8_told 0 = .ok (.aload_n 0, 1) := by decide +kernel
theorem dX8_told_1 : decode cX8_told 1 = .ok (.iload_n 1, 1) := by decide +kernel
theorem dX8_told_2 : decode cX8_told 2 = .ok (.invokevirtual 41, 3) := by decide +kernel
theorem dX8_told_5 : decode cX8_told 5 = .ok (.astore_n 3, 1) := by decide +kernel
theorem dX8_told_6 : decode cX8_told 6 = .ok (.aload_n 3, 1) := by decide +kernel
theorem dX8_told_7 : decode cX8_told 7 = .ok (.ifnonnull 6, 3) := by decide +kernel
theorem dX8_told_10 : decode cX8_told 10 = .ok (.bipush (-2), 2) := by decide +kernel
theorem dX8_told_12 : decode cX8_told 12 = .ok (.ireturn, 1) := by decide +kernel
theorem dX8_told_13 : decode cX8_told 13 = .ok (.iload_n 2, 1) := by decide +kernel
theorem dX8_told_14 : decode cX8_told 14 = .ok (.tableswitch 126 0 7 #[46, 51, 56, 61, 66, 83, 100, 113], 46) := by decide +kernel
theorem dX8_told_60 : decode cX8_told 60 = .ok (.aload_n 3, 1) := by decide +kernel
theorem dX8_told_61 : decode cX8_told 61 = .ok (.getfield 132, 3) := by decide +kernel
theorem dX8_told_64 : decode cX8_told 64 = .ok (.ireturn, 1) := by decide +kernel
theorem dX8_told_65 : decode cX8_told 65 = .ok (.aload_n 3, 1) := by decide +kernel
theorem dX8_told_66 : decode cX8_told 66 = .ok (.getfield 89, 3) := by decide +kernel
theorem dX8_told_69 : decode cX8_told 69 = .ok (.ireturn, 1) := by decide +kernel
theorem dX8_told_70 : decode cX8_told 70 = .ok (.aload_n 3, 1) := by decide +kernel
theorem dX8_told_71 : decode cX8_told 71 = .ok (.getfield 105, 3) := by decide +kernel
theorem dX8_told_74 : decode cX8_told 74 = .ok (.ireturn, 1) := by decide +kernel
theorem dX8_told_75 : decode cX8_told 75 = .ok (.aload_n 3, 1) := by decide +kernel
theorem dX8_told_76 : decode cX8_told 76 = .ok (.getfield 114, 3) := by decide +kernel
theorem dX8_told_79 : decode cX8_told 79 = .ok (.ireturn, 1) := by decide +kernel
theorem dX8_told_80 : decode cX8_told 80 = .ok (.aload_n 3, 1) := by decide +kernel
theorem dX8_told_81 : decode cX8_told 81 = .ok (.getfield 89, 3) := by decide +kernel
theorem dX8_told_84 : decode cX8_told 84 = .ok (.iconst 1, 1) := by decide +kernel
theorem dX8_told_85 : decode cX8_told 85 = .ok (.if_icmp .ne 10, 3) := by decide +kernel
theorem dX8_told_88 : decode cX8_told 88 = .ok (.aload_n 3, 1) := by decide +kernel
theorem dX8_told_89 : decode cX8_told 89 = .ok (.getfield 96, 3) := by decide +kernel
theorem dX8_told_92 : decode cX8_told 92 = .ok (.goto 4, 3) := by decide +kernel
theorem dX8_told_95 : decode cX8_told 95 = .ok (.iconst (-1), 1) := by decide +kernel
theorem dX8_told_96 : decode cX8_told 96 = .ok (.ireturn, 1) := by decide +kernel
theorem dX8_told_97 : decode cX8_told 97 = .ok (.aload_n 3, 1) := by decide +kernel
theorem dX8_told_98 : decode cX8_told 98 = .ok (.getfield 89, 3) := by decide +kernel
theorem dX8_told_101 : decode cX8_told 101 = .ok (.iconst 2, 1) := by decide +kernel
theorem dX8_told_102 : decode cX8_told 102 = .ok (.if_icmp .ne 10, 3) := by decide +kernel
theorem dX8_told_105 : decode cX8_told 105 = .ok (.aload_n 3, 1) := by decide +kernel
theorem dX8_told_106 : decode cX8_told 106 = .ok (.getfield 120, 3) := by decide +kernel
theorem dX8_told_109 : decode cX8_told 109 = .ok (.goto 4, 3) := by decide +kernel
theorem dX8_told_112 : decode cX8_told 112 = .ok (.iconst (-1), 1) := by decide +kernel
theorem dX8_told_113 : decode cX8_told 113 = .ok (.ireturn, 1) := by decide +kernel
theorem dX8_told_114 : decode cX8_told 114 = .ok (.aload_n 3, 1) := by decide +kernel
theorem dX8_told_115 : decode cX8_told 115 = .ok (.instanceof 66, 3) := by decide +kernel
theorem dX8_told_118 : decode cX8_told 118 = .ok (.ifCond .eq 7, 3) := by decide +kernel
theorem dX8_told_121 : decode cX8_told 121 = .ok (.iconst 1, 1) := by decide +kernel
theorem dX8_told_122 : decode cX8_told 122 = .ok (.goto 4, 3) := by decide +kernel
theorem dX8_told_125 : decode cX8_told 125 = .ok (.iconst 0, 1) := by decide +kernel
theorem dX8_told_126 : decode cX8_told 126 = .ok (.ireturn, 1) := by decide +kernel
theorem dX8_told_127 : decode cX8_told 127 = .ok (.aload_n 3, 1) := by decide +kernel
theorem dX8_told_128 : decode cX8_told 128 = .ok (.instanceof 71, 3) := by decide +kernel
theorem dX8_told_131 : decode cX8_told 131 = .ok (.ifCond .eq 7, 3) := by decide +kernel
theorem dX8_told_134 : decode cX8_told 134 = .ok (.iconst 1, 1) := by decide +kernel
theorem dX8_told_135 : decode cX8_told 135 = .ok (.goto 4, 3) := by decide +kernel
theorem dX8_told_138 : decode cX8_told 138 = .ok (.iconst 0, 1) := by decide +kernel
theorem dX8_told_139 : decode cX8_told 139 = .ok (.ireturn, 1) := by decide +kernel
theorem dX8_told_140 : decode cX8_told 140 = .ok (.bipush (-2), 2) := by decide +kernel
theorem dX8_told_142 : decode cX8_told 142 = .ok (.ireturn, 1) := by decide +kernel
theorem dX8_count_0 : decode cX8_count 0 = .ok (.iload_n 1, 1) := by decide +kernel
theorem dX8_count_1 : decode cX8_count 1 = .ok (.tableswitch 70 0 7 #[47, 52, 52, 52, 52, 52, 60, 65], 47) := by decide +kernel
theorem dX8_count_48 : decode cX8_count 48 = .ok (.aload_n 0, 1) := by decide +kernel
theorem dX8_count_49 : decode cX8_count 49 = .ok (.getfield 34, 3) := by decide +kernel
theorem dX8_count_52 : decode cX8_count 52 = .ok (.ireturn, 1) := by decide +kernel
theorem dX8_count_53 : decode cX8_count 53 = .ok (.aload_n 0, 1) := by decide +kernel
theorem dX8_count_54 : decode cX8_count 54 = .ok (.iload_n 1, 1) := by decide +kernel
theorem dX8_count_55 : decode cX8_count 55 = .ok (.iconst 1, 1) := by decide +kernel
theorem dX8_count_56 : decode cX8_count 56 = .ok (.isub, 1) := by decide +kernel
theorem dX8_count_57 : decode cX8_count 57 = .ok (.invokevirtual 86, 3) := by decide +kernel
theorem dX8_count_60 : decode cX8_count 60 = .ok (.ireturn, 1) := by decide +kernel
theorem dX8_count_61 : decode cX8_count 61 = .ok (.aload_n 0, 1) := by decide +kernel
theorem dX8_count_62 : decode cX8_count 62 = .ok (.getfield 117, 3) := by decide +kernel
theorem dX8_count_65 : decode cX8_count 65 = .ok (.ireturn, 1) := by decide +kernel
theorem dX8_count_66 : decode cX8_count 66 = .ok (.aload_n 0, 1) := by decide +kernel
theorem dX8_count_67 : decode cX8_count 67 = .ok (.getfield 129, 3) := by decide +kernel
theorem dX8_count_70 : decode cX8_count 70 = .ok (.ireturn, 1) := by decide +kernel
theorem dX8_count_71 : decode cX8_count 71 = .ok (.bipush (-2), 2) := by decide +kernel
theorem dX8_count_73 : decode cX8_count 73 = .ok (.ireturn, 1) := by decide +kernel
theorem dX8_within_0 : decode cX8_within 0 = .ok (.iload_n 0, 1) := by decide +kernel
theorem dX8_within_1 : decode cX8_within 1 = .ok (.iload_n 1, 1) := by decide +kernel
theorem dX8_within_2 : decode cX8_within 2 = .ok (.if_icmp .lt 12, 3) := by decide +kernel
theorem dX8_within_5 : decode cX8_within 5 = .ok (.iload_n 0, 1) := by decide +kernel
theorem dX8_within_6 : decode cX8_within 6 = .ok (.iload_n 2, 1) := by decide +kernel
theorem dX8_within_7 : decode cX8_within 7 = .ok (.if_icmp .gt 7, 3) := by decide +kernel
theorem dX8_within_10 : decode cX8_within 10 = .ok (.iconst 1, 1) := by decide +kernel
theorem dX8_within_11 : decode cX8_within 11 = .ok (.goto 4, 3) := by decide +kernel
theorem dX8_within_14 : decode cX8_within 14 = .ok (.iconst 0, 1) := by decide +kernel
theorem dX8_within_15 : decode cX8_within 15 = .ok (.ireturn, 1) := by decide +kernel
theorem dX8_isQuestion_0 : decode cX8_isQuestion 0 = .ok (.iload_n 0, 1) := by decide +kernel
theorem dX8_isQuestion_1 : decode cX8_isQuestion 1 = .ok (.lookupswitch 44 #[(0, 27), (2, 35)], 27) := by decide +kernel
theorem dX8_isQuestion_28 : decode cX8_isQuestion 28 = .ok (.iload_n 1, 1) := by decide +kernel
theorem dX8_isQuestion_29 : decode cX8_isQuestion 29 = .ok (.iconst 0, 1) := by decide +kernel
theorem dX8_isQuestion_30 : decode cX8_isQuestion 30 = .ok (.bipush 60, 2) := by decide +kernel
theorem dX8_isQuestion_32 : decode cX8_isQuestion 32 = .ok (.invokestatic 30, 3) := by decide +kernel
theorem dX8_isQuestion_35 : decode cX8_isQuestion 35 = .ok (.ireturn, 1) := by decide +kernel
theorem dX8_isQuestion_36 : decode cX8_isQuestion 36 = .ok (.iload_n 1, 1) := by decide +kernel
theorem dX8_isQuestion_37 : decode cX8_isQuestion 37 = .ok (.iconst 0, 1) := by decide +kernel
theorem dX8_isQuestion_38 : decode cX8_isQuestion 38 = .ok (.sipush 400, 3) := by decide +kernel
theorem dX8_isQuestion_41 : decode cX8_isQuestion 41 = .ok (.invokestatic 30, 3) := by decide +kernel
theorem dX8_isQuestion_44 : decode cX8_isQuestion 44 = .ok (.ireturn, 1) := by decide +kernel
theorem dX8_isQuestion_45 : decode cX8_isQuestion 45 = .ok (.iload_n 0, 1) := by decide +kernel
theorem dX8_isQuestion_46 : decode cX8_isQuestion 46 = .ok (.iconst 0, 1) := by decide +kernel
theorem dX8_isQuestion_47 : decode cX8_isQuestion 47 = .ok (.iconst 5, 1) := by decide +kernel
theorem dX8_isQuestion_48 : decode cX8_isQuestion 48 = .ok (.invokestatic 30, 3) := by decide +kernel
theorem dX8_isQuestion_51 : decode cX8_isQuestion 51 = .ok (.ireturn, 1) := by decide +kernel
theorem dX8_isOven_0 : decode cX8_isOven 0 = .ok (.iload_n 1, 1) := by decide +kernel
theorem dX8_isOven_1 : decode cX8_isOven 1 = .ok (.ifCond .lt 16, 3) := by decide +kernel
theorem dX8_isOven_4 : decode cX8_isOven 4 = .ok (.iload_n 1, 1) := by decide +kernel
theorem dX8_isOven_5 : decode cX8_isOven 5 = .ok (.aload_n 0, 1) := by decide +kernel
theorem dX8_isOven_6 : decode cX8_isOven 6 = .ok (.getfield 15, 3) := by decide +kernel
theorem dX8_isOven_9 : decode cX8_isOven 9 = .ok (.arraylength, 1) := by decide +kernel
theorem dX8_isOven_10 : decode cX8_isOven 10 = .ok (.if_icmp .ge 7, 3) := by decide +kernel
theorem dX8_isOven_13 : decode cX8_isOven 13 = .ok (.iconst 1, 1) := by decide +kernel
theorem dX8_isOven_14 : decode cX8_isOven 14 = .ok (.goto 4, 3) := by decide +kernel
theorem dX8_isOven_17 : decode cX8_isOven 17 = .ok (.iconst 0, 1) := by decide +kernel
theorem dX8_isOven_18 : decode cX8_isOven 18 = .ok (.ireturn, 1) := by decide +kernel
theorem dX8_heatOf_0 : decode cX8_heatOf 0 = .ok (.aload_n 0, 1) := by decide +kernel
theorem dX8_heatOf_1 : decode cX8_heatOf 1 = .ok (.iload_n 1, 1) := by decide +kernel
theorem dX8_heatOf_2 : decode cX8_heatOf 2 = .ok (.invokevirtual 82, 3) := by decide +kernel
theorem dX8_heatOf_5 : decode cX8_heatOf 5 = .ok (.ifCond .eq 12, 3) := by decide +kernel
theorem dX8_heatOf_8 : decode cX8_heatOf 8 = .ok (.aload_n 0, 1) := by decide +kernel
theorem dX8_heatOf_9 : decode cX8_heatOf 9 = .ok (.getfield 15, 3) := by decide +kernel
theorem dX8_heatOf_12 : decode cX8_heatOf 12 = .ok (.iload_n 1, 1) := by decide +kernel
theorem dX8_heatOf_13 : decode cX8_heatOf 13 = .ok (.iaload, 1) := by decide +kernel
theorem dX8_heatOf_14 : decode cX8_heatOf 14 = .ok (.goto 4, 3) := by decide +kernel
theorem dX8_heatOf_17 : decode cX8_heatOf 17 = .ok (.iconst 0, 1) := by decide +kernel
theorem dX8_heatOf_18 : decode cX8_heatOf 18 = .ok (.ireturn, 1) := by decide +kernel
theorem dX8_find_0 : decode cX8_find 0 = .ok (.iload_n 1, 1) := by decide +kernel
theorem dX8_find_1 : decode cX8_find 1 = .ok (.ifCond .lt 21, 3) := by decide +kernel
theorem dX8_find_4 : decode cX8_find 4 = .ok (.iload_n 1, 1) := by decide +kernel
theorem dX8_find_5 : decode cX8_find 5 = .ok (.aload_n 0, 1) := by decide +kernel
theorem dX8_find_6 : decode cX8_find 6 = .ok (.getfield 11, 3) := by decide +kernel
theorem dX8_find_9 : decode cX8_find 9 = .ok (.arraylength, 1) := by decide +kernel
theorem dX8_find_10 : decode cX8_find 10 = .ok (.if_icmp .ge 12, 3) := by decide +kernel
theorem dX8_find_13 : decode cX8_find 13 = .ok (.aload_n 0, 1) := by decide +kernel
theorem dX8_find_14 : decode cX8_find 14 = .ok (.getfield 11, 3) := by decide +kernel
theorem dX8_find_17 : decode cX8_find 17 = .ok (.iload_n 1, 1) := by decide +kernel
theorem dX8_find_18 : decode cX8_find 18 = .ok (.aaload, 1) := by decide +kernel
theorem dX8_find_19 : decode cX8_find 19 = .ok (.goto 4, 3) := by decide +kernel
theorem dX8_find_22 : decode cX8_find 22 = .ok (.aconst_null, 1) := by decide +kernel
theorem dX8_find_23 : decode cX8_find 23 = .ok (.areturn, 1) := by decide +kernel
theorem dX8_knead_0 : decode cX8_knead 0 = .ok (.iload_n 1, 1) := by decide +kernel
theorem dX8_knead_1 : decode cX8_knead 1 = .ok (.tableswitch 123 1 6 #[39, 53, 67, 81, 95, 109], 39) := by decide +kernel
theorem dX8_knead_40 : decode cX8_knead 40 = .ok (.new 135, 3) := by decide +kernel
theorem dX8_knead_43 : decode cX8_knead 43 = .ok (.dup, 1) := by decide +kernel
theorem dX8_knead_44 : decode cX8_knead 44 = .ok (.iload_n 1, 1) := by decide +kernel
theorem dX8_knead_45 : decode cX8_knead 45 = .ok (.iload_n 2, 1) := by decide +kernel
theorem dX8_knead_46 : decode cX8_knead 46 = .ok (.aload_n 0, 1) := by decide +kernel
theorem dX8_knead_47 : decode cX8_knead 47 = .ok (.getfield 22, 3) := by decide +kernel
theorem dX8_knead_50 : decode cX8_knead 50 = .ok (.invokespecial 137, 3) := by decide +kernel
theorem dX8_knead_53 : decode cX8_knead 53 = .ok (.areturn, 1) := by decide +kernel
theorem dX8_knead_54 : decode cX8_knead 54 = .ok (.new 66, 3) := by decide +kernel
theorem dX8_knead_57 : decode cX8_knead 57 = .ok (.dup, 1) := by decide +kernel
theorem dX8_knead_58 : decode cX8_knead 58 = .ok (.iload_n 1, 1) := by decide +kernel
theorem dX8_knead_59 : decode cX8_knead 59 = .ok (.iload_n 2, 1) := by decide +kernel
theorem dX8_knead_60 : decode cX8_knead 60 = .ok (.aload_n 0, 1) := by decide +kernel
theorem dX8_knead_61 : decode cX8_knead 61 = .ok (.getfield 22, 3) := by decide +kernel
theorem dX8_knead_64 : decode cX8_knead 64 = .ok (.invokespecial 140, 3) := by decide +kernel
theorem dX8_knead_67 : decode cX8_knead 67 = .ok (.areturn, 1) := by decide +kernel
theorem dX8_knead_68 : decode cX8_knead 68 = .ok (.new 141, 3) := by decide +kernel
theorem dX8_knead_71 : decode cX8_knead 71 = .ok (.dup, 1) := by decide +kernel
theorem dX8_knead_72 : decode cX8_knead 72 = .ok (.iload_n 1, 1) := by decide +kernel
theorem dX8_knead_73 : decode cX8_knead 73 = .ok (.iload_n 2, 1) := by decide +kernel
theorem dX8_knead_74 : decode cX8_knead 74 = .ok (.aload_n 0, 1) := by decide +kernel
theorem dX8_knead_75 : decode cX8_knead 75 = .ok (.getfield 22, 3) := by decide +kernel
theorem dX8_knead_78 : decode cX8_knead 78 = .ok (.invokespecial 143, 3) := by decide +kernel
theorem dX8_knead_81 : decode cX8_knead 81 = .ok (.areturn, 1) := by decide +kernel
theorem dX8_knead_82 : decode cX8_knead 82 = .ok (.new 144, 3) := by decide +kernel
theorem dX8_knead_85 : decode cX8_knead 85 = .ok (.dup, 1) := by decide +kernel
theorem dX8_knead_86 : decode cX8_knead 86 = .ok (.iload_n 1, 1) := by decide +kernel
theorem dX8_knead_87 : decode cX8_knead 87 = .ok (.iload_n 2, 1) := by decide +kernel
theorem dX8_knead_88 : decode cX8_knead 88 = .ok (.aload_n 0, 1) := by decide +kernel
theorem dX8_knead_89 : decode cX8_knead 89 = .ok (.getfield 22, 3) := by decide +kernel
theorem dX8_knead_92 : decode cX8_knead 92 = .ok (.invokespecial 146, 3) := by decide +kernel
theorem dX8_knead_95 : decode cX8_knead 95 = .ok (.areturn, 1) := by decide +kernel
theorem dX8_knead_96 : decode cX8_knead 96 = .ok (.new 71, 3) := by decide +kernel
theorem dX8_knead_99 : decode cX8_knead 99 = .ok (.dup, 1) := by decide +kernel
theorem dX8_knead_100 : decode cX8_knead 100 = .ok (.iload_n 1, 1) := by decide +kernel
theorem dX8_knead_101 : decode cX8_knead 101 = .ok (.iload_n 2, 1) := by decide +kernel
theorem dX8_knead_102 : decode cX8_knead 102 = .ok (.aload_n 0, 1) := by decide +kernel
theorem dX8_knead_103 : decode cX8_knead 103 = .ok (.getfield 22, 3) := by decide +kernel
theorem dX8_knead_106 : decode cX8_knead 106 = .ok (.invokespecial 147, 3) := by decide +kernel
theorem dX8_knead_109 : decode cX8_knead 109 = .ok (.areturn, 1) := by decide +kernel
theorem dX8_knead_110 : decode cX8_knead 110 = .ok (.new 148, 3) := by decide +kernel
theorem dX8_knead_113 : decode cX8_knead 113 = .ok (.dup, 1) := by decide +kernel
theorem dX8_knead_114 : decode cX8_knead 114 = .ok (.iload_n 1, 1) := by decide +kernel
theorem dX8_knead_115 : decode cX8_knead 115 = .ok (.iload_n 2, 1) := by decide +kernel
theorem dX8_knead_116 : decode cX8_knead 116 = .ok (.aload_n 0, 1) := by decide +kernel
theorem dX8_knead_117 : decode cX8_knead 117 = .ok (.getfield 22, 3) := by decide +kernel
theorem dX8_knead_120 : decode cX8_knead 120 = .ok (.invokespecial 150, 3) := by decide +kernel
theorem dX8_knead_123 : decode cX8_knead 123 = .ok (.areturn, 1) := by decide +kernel
theorem dX8_knead_124 : decode cX8_knead 124 = .ok (.new 9, 3) := by decide +kernel
theorem dX8_knead_127 : decode cX8_knead 127 = .ok (.dup, 1) := by decide +kernel
theorem dX8_knead_128 : decode cX8_knead 128 = .ok (.iload_n 1, 1) := by decide +kernel
theorem dX8_knead_129 : decode cX8_knead 129 = .ok (.iload_n 2, 1) := by decide +kernel
theorem dX8_knead_130 : decode cX8_knead 130 = .ok (.aload_n 0, 1) := by decide +kernel
theorem dX8_knead_131 : decode cX8_knead 131 = .ok (.getfield 22, 3) := by decide +kernel
theorem dX8_knead_134 : decode cX8_knead 134 = .ok (.invokespecial 151, 3) := by decide +kernel
theorem dX8_knead_137 : decode cX8_knead 137 = .ok (.areturn, 1) := by decide +kernel
theorem dX8_howMany_0 : decode cX8_howMany 0 = .ok (.iconst 0, 1) := by decide +kernel
theorem dX8_howMany_1 : decode cX8_howMany 1 = .ok (.istore_n 2, 1) := by decide +kernel
theorem dX8_howMany_2 : decode cX8_howMany 2 = .ok (.aload_n 0, 1) := by decide +kernel
theorem dX8_howMany_3 : decode cX8_howMany 3 = .ok (.getfield 11, 3) := by decide +kernel
theorem dX8_howMany_6 : decode cX8_howMany 6 = .ok (.astore_n 3, 1) := by decide +kernel
theorem dX8_howMany_7 : decode cX8_howMany 7 = .ok (.aload_n 3, 1) := by decide +kernel
theorem dX8_howMany_8 : decode cX8_howMany 8 = .ok (.arraylength, 1) := by decide +kernel
theorem dX8_howMany_9 : decode cX8_howMany 9 = .ok (.istore 4, 2) := by decide +kernel
theorem dX8_howMany_11 : decode cX8_howMany 11 = .ok (.iconst 0, 1) := by decide +kernel
theorem dX8_howMany_12 : decode cX8_howMany 12 = .ok (.istore 5, 2) := by decide +kernel
theorem dX8_howMany_14 : decode cX8_howMany 14 = .ok (.iload 5, 2) := by decide +kernel
theorem dX8_howMany_16 : decode cX8_howMany 16 = .ok (.iload 4, 2) := by decide +kernel
theorem dX8_howMany_18 : decode cX8_howMany 18 = .ok (.if_icmp .ge 32, 3) := by decide +kernel
theorem dX8_howMany_21 : decode cX8_howMany 21 = .ok (.aload_n 3, 1) := by decide +kernel
theorem dX8_howMany_22 : decode cX8_howMany 22 = .ok (.iload 5, 2) := by decide +kernel
theorem dX8_howMany_24 : decode cX8_howMany 24 = .ok (.aaload, 1) := by decide +kernel
theorem dX8_howMany_25 : decode cX8_howMany 25 = .ok (.astore 6, 2) := by decide +kernel
theorem dX8_howMany_27 : decode cX8_howMany 27 = .ok (.aload 6, 2) := by decide +kernel
theorem dX8_howMany_29 : decode cX8_howMany 29 = .ok (.ifnull 15, 3) := by decide +kernel
theorem dX8_howMany_32 : decode cX8_howMany 32 = .ok (.aload 6, 2) := by decide +kernel
theorem dX8_howMany_34 : decode cX8_howMany 34 = .ok (.getfield 89, 3) := by decide +kernel
theorem dX8_howMany_37 : decode cX8_howMany 37 = .ok (.iload_n 1, 1) := by decide +kernel
theorem dX8_howMany_38 : decode cX8_howMany 38 = .ok (.if_icmp .ne 6, 3) := by decide +kernel
theorem dX8_howMany_41 : decode cX8_howMany 41 = .ok (.iinc 2 1, 3) := by decide +kernel
theorem dX8_howMany_44 : decode cX8_howMany 44 = .ok (.iinc 5 1, 3) := by decide +kernel
theorem dX8_howMany_47 : decode cX8_howMany 47 = .ok (.goto (-33), 3) := by decide +kernel
theorem dX8_howMany_50 : decode cX8_howMany 50 = .ok (.iload_n 2, 1) := by decide +kernel
theorem dX8_howMany_51 : decode cX8_howMany 51 = .ok (.ireturn, 1) := by decide +kernel
theorem dX8_massIn_0 : decode cX8_massIn 0 = .ok (.iconst 0, 1) := by decide +kernel
theorem dX8_massIn_1 : decode cX8_massIn 1 = .ok (.istore_n 2, 1) := by decide +kernel
theorem dX8_massIn_2 : decode cX8_massIn 2 = .ok (.aload_n 0, 1) := by decide +kernel
theorem dX8_massIn_3 : decode cX8_massIn 3 = .ok (.getfield 11, 3) := by decide +kernel
theorem dX8_massIn_6 : decode cX8_massIn 6 = .ok (.astore_n 3, 1) := by decide +kernel
theorem dX8_massIn_7 : decode cX8_massIn 7 = .ok (.aload_n 3, 1) := by decide +kernel
theorem dX8_massIn_8 : decode cX8_massIn 8 = .ok (.arraylength, 1) := by decide +kernel
theorem dX8_massIn_9 : decode cX8_massIn 9 = .ok (.istore 4, 2) := by decide +kernel
theorem dX8_massIn_11 : decode cX8_massIn 11 = .ok (.iconst 0, 1) := by decide +kernel
theorem dX8_massIn_12 : decode cX8_massIn 12 = .ok (.istore 5, 2) := by decide +kernel
theorem dX8_massIn_14 : decode cX8_massIn 14 = .ok (.iload 5, 2) := by decide +kernel
theorem dX8_massIn_16 : decode cX8_massIn 16 = .ok (.iload 4, 2) := by decide +kernel
theorem dX8_massIn_18 : decode cX8_massIn 18 = .ok (.if_icmp .ge 46, 3) := by decide +kernel
theorem dX8_massIn_21 : decode cX8_massIn 21 = .ok (.aload_n 3, 1) := by decide +kernel
theorem dX8_massIn_22 : decode cX8_massIn 22 = .ok (.iload 5, 2) := by decide +kernel
theorem dX8_massIn_24 : decode cX8_massIn 24 = .ok (.aaload, 1) := by decide +kernel
theorem dX8_massIn_25 : decode cX8_massIn 25 = .ok (.astore 6, 2) := by decide +kernel
theorem dX8_massIn_27 : decode cX8_massIn 27 = .ok (.aload 6, 2) := by decide +kernel
theorem dX8_massIn_29 : decode cX8_massIn 29 = .ok (.ifnull 29, 3) := by decide +kernel
theorem dX8_massIn_32 : decode cX8_massIn 32 = .ok (.aload 6, 2) := by decide +kernel
theorem dX8_massIn_34 : decode cX8_massIn 34 = .ok (.getfield 89, 3) := by decide +kernel
theorem dX8_massIn_37 : decode cX8_massIn 37 = .ok (.iconst 1, 1) := by decide +kernel
theorem dX8_massIn_38 : decode cX8_massIn 38 = .ok (.if_icmp .ne 20, 3) := by decide +kernel
theorem dX8_massIn_41 : decode cX8_massIn 41 = .ok (.aload 6, 2) := by decide +kernel
theorem dX8_massIn_43 : decode cX8_massIn 43 = .ok (.getfield 96, 3) := by decide +kernel
theorem dX8_massIn_46 : decode cX8_massIn 46 = .ok (.iload_n 1, 1) := by decide +kernel
theorem dX8_massIn_47 : decode cX8_massIn 47 = .ok (.if_icmp .ne 11, 3) := by decide +kernel
theorem dX8_massIn_50 : decode cX8_massIn 50 = .ok (.iload_n 2, 1) := by decide +kernel
theorem dX8_massIn_51 : decode cX8_massIn 51 = .ok (.aload 6, 2) := by decide +kernel
theorem dX8_massIn_53 : decode cX8_massIn 53 = .ok (.getfield 111, 3) := by decide +kernel
theorem dX8_massIn_56 : decode cX8_massIn 56 = .ok (.iadd, 1) := by decide +kernel
theorem dX8_massIn_57 : decode cX8_massIn 57 = .ok (.istore_n 2, 1) := by decide +kernel
theorem dX8_massIn_58 : decode cX8_massIn 58 = .ok (.iinc 5 1, 3) := by decide +kernel
theorem dX8_massIn_61 : decode cX8_massIn 61 = .ok (.goto (-47), 3) := by decide +kernel
theorem dX8_massIn_64 : decode cX8_massIn 64 = .ok (.iload_n 2, 1) := by decide +kernel
theorem dX8_massIn_65 : decode cX8_massIn 65 = .ok (.ireturn, 1) := by decide +kernel
theorem dJ9_max_7cf53_0 : decode cJ9_max_7cf53 0 = .ok (.iload_n 0, 1) := by decide +kernel
theorem dJ9_max_7cf53_1 : decode cJ9_max_7cf53 1 = .ok (.iload_n 1, 1) := by decide +kernel
theorem dJ9_max_7cf53_2 : decode cJ9_max_7cf53 2 = .ok (.if_icmp .lt 7, 3) := by decide +kernel
theorem dJ9_max_7cf53_5 : decode cJ9_max_7cf53 5 = .ok (.iload_n 0, 1) := by decide +kernel
theorem dJ9_max_7cf53_6 : decode cJ9_max_7cf53 6 = .ok (.goto 4, 3) := by decide +kernel
theorem dJ9_max_7cf53_9 : decode cJ9_max_7cf53 9 = .ok (.iload_n 1, 1) := by decide +kernel
theorem dJ9_max_7cf53_10 : decode cJ9_max_7cf53 10 = .ok (.ireturn, 1) := by decide +kernel
end
section
theorem dX9_init_0 : decode cX9_init 0 = .ok (.aload_n 0, 1) := by decide +kernel
theorem dX9_init_1 : decode cX9_init 1 = .ok (.invokespecial 1, 3) := by decide +kernel
theorem dX9_init_4 : decode cX9_init 4 = .ok (.aload_n 0, 1) := by decide +kernel
theorem dX9_init_5 : decode cX9_init 5 = .ok (.bipush 40, 2) := by decide +kernel
theorem dX9_init_7 : decode cX9_init 7 = .ok (.newarray .int, 2) := by decide +kernel
theorem dX9_init_9 : decode cX9_init 9 = .ok (.putfield 7, 3) := by decide +kernel
theorem dX9_init_12 : decode cX9_init 12 = .ok (.aload_n 0, 1) := by decide +kernel
theorem dX9_init_13 : decode cX9_init 13 = .ok (.bipush 40, 2) := by decide +kernel
theorem dX9_init_15 : decode cX9_init 15 = .ok (.newarray .int, 2) := by decide +kernel
theorem dX9_init_17 : decode cX9_init 17 = .ok (.putfield 13, 3) := by decide +kernel
theorem dX9_init_20 : decode cX9_init 20 = .ok (.aload_n 0, 1) := by decide +kernel
theorem dX9_init_21 : decode cX9_init 21 = .ok (.bipush 40, 2) := by decide +kernel
theorem dX9_init_23 : decode cX9_init 23 = .ok (.newarray .int, 2) := by decide +kernel
theorem dX9_init_25 : decode cX9_init 25 = .ok (.putfield 16, 3) := by decide +kernel
theorem dX9_init_28 : decode cX9_init 28 = .ok (.aload_n 0, 1) := by decide +kernel
theorem dX9_init_29 : decode cX9_init 29 = .ok (.bipush 40, 2) := by decide +kernel
theorem dX9_init_31 : decode cX9_init 31 = .ok (.newarray .int, 2) := by decide +kernel
theorem dX9_init_33 : decode cX9_init 33 = .ok (.putfield 19, 3) := by decide +kernel
theorem dX9_init_36 : decode cX9_init 36 = .ok (.aload_n 0, 1) := by decide +kernel
theorem dX9_init_37 : decode cX9_init 37 = .ok (.bipush 40, 2) := by decide +kernel
theorem dX9_init_39 : decode cX9_init 39 = .ok (.newarray .int, 2) := by decide +kernel
theorem dX9_init_41 : decode cX9_init 41 = .ok (.putfield 22, 3) := by decide +kernel
theorem dX9_init_44 : decode cX9_init 44 = .ok (.aload_n 0, 1) := by decide +kernel
theorem dX9_init_45 : decode cX9_init 45 = .ok (.bipush 40, 2) := by decide +kernel
theorem dX9_init_47 : decode cX9_init 47 = .ok (.newarray .int, 2) := by decide +kernel
theorem dX9_init_49 : decode cX9_init 49 = .ok (.putfield 25, 3) := by decide +kernel
theorem dX9_init_52 : decode cX9_init 52 = .ok (.aload_n 0, 1) := by decide +kernel
theorem dX9_init_53 : decode cX9_init 53 = .ok (.bipush 40, 2) := by decide +kernel
theorem dX9_init_55 : decode cX9_init 55 = .ok (.newarray .int, 2) := by decide +kernel
theorem dX9_init_57 : decode cX9_init 57 = .ok (.putfield 28, 3) := by decide +kernel
theorem dX9_init_60 : decode cX9_init 60 = .ok (.aload_n 0, 1) := by decide +kernel
theorem dX9_init_61 : decode cX9_init 61 = .ok (.bipush 20, 2) := by decide +kernel
theorem dX9_init_63 : decode cX9_init 63 = .ok (.putfield 31, 3) := by decide +kernel
theorem dX9_init_66 : decode cX9_init 66 = .ok (.aload_n 0, 1) := by decide +kernel
theorem dX9_init_67 : decode cX9_init 67 = .ok (.iconst 3, 1) := by decide +kernel
theorem dX9_init_68 : decode cX9_init 68 = .ok (.newarray .int, 2) := by decide +kernel
theorem dX9_init_70 : decode cX9_init 70 = .ok (.putfield 35, 3) := by decide +kernel
theorem dX9_init_73 : decode cX9_init 73 = .ok (.aload_n 0, 1) := by decide +kernel
theorem dX9_init_74 : decode cX9_init 74 = .ok (.bipush 40, 2) := by decide +kernel
theorem dX9_init_76 : decode cX9_init 76 = .ok (.newarray .int, 2) := by decide +kernel
theorem dX9_init_78 : decode cX9_init 78 = .ok (.putfield 38, 3) := by decide +kernel
theorem dX9_init_81 : decode cX9_init 81 = .ok (.return_, 1) := by decide +kernel
theorem dX9_in_0 : decode cX9_in 0 = .ok (.iload_n 0, 1) := by decide +kernel
theorem dX9_in_1 : decode cX9_in 1 = .ok (.iload_n 1, 1) := by decide +kernel
theorem dX9_in_2 : decode cX9_in 2 = .ok (.if_icmp .lt 12, 3) := by decide +kernel
theorem dX9_in_5 : decode cX9_in 5 = .ok (.iload_n 0, 1) := by decide +kernel
theorem dX9_in_6 : decode cX9_in 6 = .ok (.iload_n 2, 1) := by decide +kernel
theorem dX9_in_7 : decode cX9_in 7 = .ok (.if_icmp .gt 7, 3) := by decide +kernel
theorem dX9_in_10 : decode cX9_in 10 = .ok (.iconst 1, 1) := by decide +kernel
theorem dX9_in_11 : decode cX9_in 11 = .ok (.goto 4, 3) := by decide +kernel
theorem dX9_in_14 : decode cX9_in 14 = .ok (.iconst 0, 1) := by decide +kernel
theorem dX9_in_15 : decode cX9_in 15 = .ok (.ireturn, 1) := by decide +kernel
theorem dX9_isBatch_0 : decode cX9_isBatch 0 = .ok (.iload_n 1, 1) := by decide +kernel
theorem dX9_isBatch_1 : decode cX9_isBatch 1 = .ok (.iconst 0, 1) := by decide +kernel
theorem dX9_isBatch_2 : decode cX9_isBatch 2 = .ok (.aload_n 0, 1) := by decide +kernel
theorem dX9_isBatch_3 : decode cX9_isBatch 3 = .ok (.getfield 41, 3) := by decide +kernel
theorem dX9_isBatch_6 : decode cX9_isBatch 6 = .ok (.iconst 1, 1) := by decide +kernel
theorem dX9_isBatch_7 : decode cX9_isBatch 7 = .ok (.isub, 1) := by decide +kernel
theorem dX9_isBatch_8 : decode cX9_isBatch 8 = .ok (.invokestatic 44, 3) := by decide +kernel
theorem dX9_isBatch_11 : decode cX9_isBatch 11 = .ok (.ireturn, 1) := by decide +kernel
theorem dX9_batch_0 : decode cX9_batch 0 = .ok (.iload_n 1, 1) := by decide +kernel
theorem dX9_batch_1 : decode cX9_batch 1 = .ok (.iconst 0, 1) := by decide +kernel
theorem dX9_batch_2 : decode cX9_batch 2 = .ok (.bipush 6, 2) := by decide +kernel
theorem dX9_batch_4 : decode cX9_batch 4 = .ok (.invokestatic 44, 3) := by decide +kernel
theorem dX9_batch_7 : decode cX9_batch 7 = .ok (.ifCond .eq 14, 3) := by decide +kernel
theorem dX9_batch_10 : decode cX9_batch 10 = .ok (.iload_n 2, 1) := by decide +kernel
theorem dX9_batch_11 : decode cX9_batch 11 = .ok (.iconst 1, 1) := by decide +kernel
theorem dX9_batch_12 : decode cX9_batch 12 = .ok (.sipush 500, 3) := by decide +kernel
theorem dX9_batch_15 : decode cX9_batch 15 = .ok (.invokestatic 44, 3) := by decide +kernel
theorem dX9_batch_18 : decode cX9_batch 18 = .ok (.ifCond .ne 6, 3) := by decide +kernel
theorem dX9_batch_21 : decode cX9_batch 21 = .ok (.bipush (-2), 2) := by decide +kernel
theorem dX9_batch_23 : decode cX9_batch 23 = .ok (.ireturn, 1) := by decide +kernel
theorem dX9_batch_24 : decode cX9_batch 24 = .ok (.aload_n 0, 1) := by decide +kernel
theorem dX9_batch_25 : decode cX9_batch 25 = .ok (.getfield 41, 3) := by decide +kernel
theorem dX9_batch_28 : decode cX9_batch 28 = .ok (.bipush 40, 2) := by decide +kernel
theorem dX9_batch_30 : decode cX9_batch 30 = .ok (.if_icmp .ne 6, 3) := by decide +kernel
theorem dX9_batch_33 : decode cX9_batch 33 = .ok (.bipush (-4), 2) := by decide +kernel
theorem dX9_batch_35 : decode cX9_batch 35 = .ok (.ireturn, 1) := by decide +kernel
theorem dX9_batch_36 : decode cX9_batch 36 = .ok (.aload_n 0, 1) := by decide +kernel
theorem dX9_batch_37 : decode cX9_batch 37 = .ok (.getfield 7, 3) := by decide +kernel
theorem dX9_batch_40 : decode cX9_batch 40 = .ok (.aload_n 0, 1) := by decide +kernel
theorem dX9_batch_41 : decode cX9_batch 41 = .ok (.getfield 41, 3) := by decide +kernel
theorem dX9_batch_44 : decode cX9_batch 44 = .ok (.iload_n 1, 1) := by decide +kernel
theorem dX9_batch_45 : decode cX9_batch 45 = .ok (.iastore, 1) := by decide +kernel
theorem dX9_batch_46 : decode cX9_batch 46 = .ok (.aload_n 0, 1) := by decide +kernel
theorem dX9_batch_47 : decode cX9_batch 47 = .ok (.getfield 13, 3) := by decide +kernel
theorem dX9_batch_50 : decode cX9_batch 50 = .ok (.aload_n 0, 1) := by decide +kernel
theorem dX9_batch_51 : decode cX9_batch 51 = .ok (.getfield 41, 3) := by decide +kernel
theorem dX9_batch_54 : decode cX9_batch 54 = .ok (.iload_n 2, 1) := by decide +kernel
theorem dX9_batch_55 : decode cX9_batch 55 = .ok (.iastore, 1) := by decide +kernel
theorem dX9_batch_56 : decode cX9_batch 56 = .ok (.aload_n 0, 1) := by decide +kernel
theorem dX9_batch_57 : decode cX9_batch 57 = .ok (.getfield 16, 3) := by decide +kernel
theorem dX9_batch_60 : decode cX9_batch 60 = .ok (.aload_n 0, 1) := by decide +kernel
theorem dX9_batch_61 : decode cX9_batch 61 = .ok (.getfield 41, 3) := by decide +kernel
theorem dX9_batch_64 : decode cX9_batch 64 = .ok (.iconst 0, 1) := by decide +kernel
theorem dX9_batch_65 : decode cX9_batch 65 = .ok (.iastore, 1) := by decide +kernel
theorem dX9_batch_66 : decode cX9_batch 66 = .ok (.aload_n 0, 1) := by decide +kernel
theorem dX9_batch_67 : decode cX9_batch 67 = .ok (.dup, 1) := by decide +kernel
theorem dX9_batch_68 : decode cX9_batch 68 = .ok (.getfield 41, 3) := by decide +kernel
theorem dX9_batch_71 : decode cX9_batch 71 = .ok (.iconst 1, 1) := by decide +kernel
theorem dX9_batch_72 : decode cX9_batch 72 = .ok (.iadd, 1) := by decide +kernel
theorem dX9_batch_73 : decode cX9_batch 73 = .ok (.putfield 41, 3) := by decide +kernel
theorem dX9_batch_76 : decode cX9_batch 76 = .ok (.aload_n 0, 1) := by decide +kernel
theorem dX9_batch_77 : decode cX9_batch 77 = .ok (.getfield 41, 3) := by decide +kernel
theorem dX9_batch_80 : decode cX9_batch 80 = .ok (.iconst 1, 1) := by decide +kernel
theorem dX9_batch_81 : decode cX9_batch 81 = .ok (.isub, 1) := by decide +kernel
theorem dX9_batch_82 : decode cX9_batch 82 = .ok (.ireturn, 1) := by decide +kernel
theorem dX9_began_0 : decode cX9_began 0 = .ok (.aload_n 0, 1) := by decide +kernel
theorem dX9_began_1 : decode cX9_began 1 = .ok (.getfield 48, 3) := by decide +kernel
theorem dX9_began_4 : decode cX9_began 4 = .ok (.ifCond .eq 23, 3) := by decide +kernel
theorem dX9_began_7 : decode cX9_began 7 = .ok (.aload_n 0, 1) := by decide +kernel
theorem dX9_began_8 : decode cX9_began 8 = .ok (.getfield 38, 3) := by decide +kernel
theorem dX9_began_11 : decode cX9_began 11 = .ok (.aload_n 0, 1) := by decide +kernel
theorem dX9_began_12 : decode cX9_began 12 = .ok (.getfield 52, 3) := by decide +kernel
theorem dX9_began_15 : decode cX9_began 15 = .ok (.iload_n 1, 1) := by decide +kernel
theorem dX9_began_16 : decode cX9_began 16 = .ok (.iastore, 1) := by decide +kernel
theorem dX9_began_17 : decode cX9_began 17 = .ok (.aload_n 0, 1) := by decide +kernel
theorem dX9_began_18 : decode cX9_began 18 = .ok (.dup, 1) := by decide +kernel
theorem dX9_began_19 : decode cX9_began 19 = .ok (.getfield 52, 3) := by decide +kernel
theorem dX9_began_22 : decode cX9_began 22 = .ok (.iconst 1, 1) := by decide +kernel
theorem dX9_began_23 : decode cX9_began 23 = .ok (.iadd, 1) := by decide +kernel
theorem dX9_began_24 : decode cX9_began 24 = .ok (.putfield 52, 3) := by decide +kernel
theorem dX9_began_27 : decode cX9_began 27 = .ok (.return_, 1) := by decide +kernel
theorem dX9_rise_0 : decode cX9_rise 0 = .ok (.aload_n 0, 1) := by decide +kernel
theorem dX9_rise_1 : decode cX9_rise 1 = .ok (.getfield 7, 3) := by decide +kernel
theorem dX9_rise_4 : decode cX9_rise 4 = .ok (.iload_n 1, 1) := by decide +kernel
theorem dX9_rise_5 : decode cX9_rise 5 = .ok (.iaload, 1) := by decide +kernel
theorem dX9_rise_6 : decode cX9_rise 6 = .ok (.istore_n 3, 1) := by decide +kernel
theorem dX9_rise_7 : decode cX9_rise 7 = .ok (.iload_n 3, 1) := by decide +kernel
theorem dX9_rise_8 : decode cX9_rise 8 = .ok (.iconst 4, 1) := by decide +kernel
theorem dX9_rise_9 : decode cX9_rise 9 = .ok (.if_icmp .ne 8, 3) := by decide +kernel
theorem dX9_rise_12 : decode cX9_rise 12 = .ok (.aload_n 0, 1) := by decide +kernel
theorem dX9_rise_13 : decode cX9_rise 13 = .ok (.iconst 3, 1) := by decide +kernel
theorem dX9_rise_14 : decode cX9_rise 14 = .ok (.invokevirtual 55, 3) := by decide +kernel
theorem dX9_rise_17 : decode cX9_rise 17 = .ok (.iload_n 3, 1) := by decide +kernel
theorem dX9_rise_18 : decode cX9_rise 18 = .ok (.iconst 2, 1) := by decide +kernel
theorem dX9_rise_19 : decode cX9_rise 19 = .ok (.iconst 4, 1) := by decide +kernel
theorem dX9_rise_20 : decode cX9_rise 20 = .ok (.invokestatic 44, 3) := by decide +kernel
theorem dX9_rise_23 : decode cX9_rise 23 = .ok (.ifCond .eq 8, 3) := by decide +kernel
theorem dX9_rise_26 : decode cX9_rise 26 = .ok (.aload_n 0, 1) := by decide +kernel
theorem dX9_rise_27 : decode cX9_rise 27 = .ok (.iconst 2, 1) := by decide +kernel
theorem dX9_rise_28 : decode cX9_rise 28 = .ok (.invokevirtual 55, 3) := by decide +kernel
theorem dX9_rise_31 : decode cX9_rise 31 = .ok (.iload_n 3, 1) := by decide +kernel
theorem dX9_rise_32 : decode cX9_rise 32 = .ok (.bipush 6, 2) := by decide +kernel
theorem dX9_rise_34 : decode cX9_rise 34 = .ok (.if_icmp .ne 8, 3) := by decide +kernel
theorem dX9_rise_37 : decode cX9_rise 37 = .ok (.aload_n 0, 1) := by decide +kernel
theorem dX9_rise_38 : decode cX9_rise 38 = .ok (.iconst 4, 1) := by decide +kernel
theorem dX9_rise_39 : decode cX9_rise 39 = .ok (.invokevirtual 55, 3) := by decide +kernel
theorem dX9_rise_42 : decode cX9_rise 42 = .ok (.aload_n 0, 1) := by decide +kernel
theorem dX9_rise_43 : decode cX9_rise 43 = .ok (.iconst 1, 1) := by decide +kernel
theorem dX9_rise_44 : decode cX9_rise 44 = .ok (.invokevirtual 55, 3) := by decide +kernel
theorem dX9_rise_47 : decode cX9_rise 47 = .ok (.iload_n 2, 1) := by decide +kernel
theorem dX9_rise_48 : decode cX9_rise 48 = .ok (.iconst 4, 1) := by decide +kernel
theorem dX9_rise_49 : decode cX9_rise 49 = .ok (.idiv, 1) := by decide +kernel
theorem dX9_rise_50 : decode cX9_rise 50 = .ok (.istore 4, 2) := by decide +kernel
theorem dX9_rise_52 : decode cX9_rise 52 = .ok (.iload_n 3, 1) := by decide +kernel
theorem dX9_rise_53 : decode cX9_rise 53 = .ok (.iconst 2, 1) := by decide +kernel
theorem dX9_rise_54 : decode cX9_rise 54 = .ok (.iconst 4, 1) := by decide +kernel
theorem dX9_rise_55 : decode cX9_rise 55 = .ok (.invokestatic 44, 3) := by decide +kernel
theorem dX9_rise_58 : decode cX9_rise 58 = .ok (.ifCond .eq 12, 3) := by decide +kernel
theorem dX9_rise_61 : decode cX9_rise 61 = .ok (.iload 4, 2) := by decide +kernel
theorem dX9_rise_63 : decode cX9_rise 63 = .ok (.iconst 2, 1) := by decide +kernel
theorem dX9_rise_64 : decode cX9_rise 64 = .ok (.idiv, 1) := by decide +kernel
theorem dX9_rise_65 : decode cX9_rise 65 = .ok (.iconst 1, 1) := by decide +kernel
theorem dX9_rise_66 : decode cX9_rise 66 = .ok (.iadd, 1) := by decide +kernel
theorem dX9_rise_67 : decode cX9_rise 67 = .ok (.goto 5, 3) := by decide +kernel
theorem dX9_rise_70 : decode cX9_rise 70 = .ok (.iload 4, 2) := by decide +kernel
theorem dX9_rise_72 : decode cX9_rise 72 = .ok (.istore 4, 2) := by decide +kernel
theorem dX9_rise_74 : decode cX9_rise 74 = .ok (.iload_n 3, 1) := by decide +kernel
theorem dX9_rise_75 : decode cX9_rise 75 = .ok (.iconst 4, 1) := by decide +kernel
theorem dX9_rise_76 : decode cX9_rise 76 = .ok (.if_icmp .ne 10, 3) := by decide +kernel
theorem dX9_rise_79 : decode cX9_rise 79 = .ok (.iload 4, 2) := by decide +kernel
theorem dX9_rise_81 : decode cX9_rise 81 = .ok (.iconst 1, 1) := by decide +kernel
theorem dX9_rise_82 : decode cX9_rise 82 = .ok (.isub, 1) := by decide +kernel
theorem dX9_rise_83 : decode cX9_rise 83 = .ok (.goto 21, 3) := by decide +kernel
theorem dX9_rise_86 : decode cX9_rise 86 = .ok (.iload_n 3, 1) := by decide +kernel
theorem dX9_rise_87 : decode cX9_rise 87 = .ok (.bipush 6, 2) := by decide +kernel
theorem dX9_rise_89 : decode cX9_rise 89 = .ok (.if_icmp .ne 13, 3) := by decide +kernel
theorem dX9_rise_92 : decode cX9_rise 92 = .ok (.iload 4, 2) := by decide +kernel
theorem dX9_rise_94 : decode cX9_rise 94 = .ok (.iload_n 2, 1) := by decide +kernel
theorem dX9_rise_95 : decode cX9_rise 95 = .ok (.bipush 10, 2) := by decide +kernel
theorem dX9_rise_97 : decode cX9_rise 97 = .ok (.idiv, 1) := by decide +kernel
theorem dX9_rise_98 : decode cX9_rise 98 = .ok (.iadd, 1) := by decide +kernel
theorem dX9_rise_99 : decode cX9_rise 99 = .ok (.goto 5, 3) := by decide +kernel
theorem dX9_rise_102 : decode cX9_rise 102 = .ok (.iload 4, 2) := by decide +kernel
theorem dX9_rise_104 : decode cX9_rise 104 = .ok (.ireturn, 1) := by decide +kernel
theorem dX9_need_0 : decode cX9_need 0 = .ok (.aload_n 0, 1) := by decide +kernel
theorem dX9_need_1 : decode cX9_need 1 = .ok (.getfield 7, 3) := by decide +kernel
theorem dX9_need_4 : decode cX9_need 4 = .ok (.iload_n 1, 1) := by decide +kernel
theorem dX9_need_5 : decode cX9_need 5 = .ok (.iaload, 1) := by decide +kernel
theorem dX9_need_6 : decode cX9_need 6 = .ok (.istore_n 2, 1) := by decide +kernel
theorem dX9_need_7 : decode cX9_need 7 = .ok (.iload_n 2, 1) := by decide +kernel
theorem dX9_need_8 : decode cX9_need 8 = .ok (.iconst 3, 1) := by decide +kernel
theorem dX9_need_9 : decode cX9_need 9 = .ok (.iconst 4, 1) := by decide +kernel
theorem dX9_need_10 : decode cX9_need 10 = .ok (.invokestatic 44, 3) := by decide +kernel
theorem dX9_need_13 : decode cX9_need 13 = .ok (.ifCond .eq 9, 3) := by decide +kernel
theorem dX9_need_16 : decode cX9_need 16 = .ok (.aload_n 0, 1) := by decide +kernel
theorem dX9_need_17 : decode cX9_need 17 = .ok (.bipush 13, 2) := by decide +kernel
theorem dX9_need_19 : decode cX9_need 19 = .ok (.invokevirtual 55, 3) := by decide +kernel
theorem dX9_need_22 : decode cX9_need 22 = .ok (.iload_n 2, 1) := by decide +kernel
theorem dX9_need_23 : decode cX9_need 23 = .ok (.iconst 1, 1) := by decide +kernel
theorem dX9_need_24 : decode cX9_need 24 = .ok (.iconst 4, 1) := by decide +kernel
theorem dX9_need_25 : decode cX9_need 25 = .ok (.invokestatic 44, 3) := by decide +kernel
theorem dX9_need_28 : decode cX9_need 28 = .ok (.ifCond .eq 9, 3) := by decide +kernel
theorem dX9_need_31 : decode cX9_need 31 = .ok (.aload_n 0, 1) := by decide +kernel
theorem dX9_need_32 : decode cX9_need 32 = .ok (.bipush 12, 2) := by decide +kernel
theorem dX9_need_34 : decode cX9_need 34 = .ok (.invokevirtual 55, 3) := by decide +kernel
theorem dX9_need_37 : decode cX9_need 37 = .ok (.aload_n 0, 1) := by decide +kernel
theorem dX9_need_38 : decode cX9_need 38 = .ok (.bipush 11, 2) := by decide +kernel
theorem dX9_need_40 : decode cX9_need 40 = .ok (.invokevirtual 55, 3) := by decide +kernel
theorem dX9_need_43 : decode cX9_need 43 = .ok (.bipush 100, 2) := by decide +kernel
theorem dX9_need_45 : decode cX9_need 45 = .ok (.aload_n 0, 1) := by decide +kernel
theorem dX9_need_46 : decode cX9_need 46 = .ok (.getfield 13, 3) := by decide +kernel
theorem dX9_need_49 : decode cX9_need 49 = .ok (.iload_n 1, 1) := by decide +kernel
theorem dX9_need_50 : decode cX9_need 50 = .ok (.iaload, 1) := by decide +kernel
theorem dX9_need_51 : decode cX9_need 51 = .ok (.bipush 10, 2) := by decide +kernel
theorem dX9_need_53 : decode cX9_need 53 = .ok (.idiv, 1) := by decide +kernel
theorem dX9_need_54 : decode cX9_need 54 = .ok (.iadd, 1) := by decide +kernel
theorem dX9_need_55 : decode cX9_need 55 = .ok (.iload_n 2, 1) := by decide +kernel
theorem dX9_need_56 : decode cX9_need 56 = .ok (.iconst 1, 1) := by decide +kernel
theorem dX9_need_57 : decode cX9_need 57 = .ok (.iconst 4, 1) := by decide +kernel
theorem dX9_need_58 : decode cX9_need 58 = .ok (.invokestatic 44, 3) := by decide +kernel
theorem dX9_need_61 : decode cX9_need 61 = .ok (.ifCond .eq 8, 3) := by decide +kernel
theorem dX9_need_64 : decode cX9_need 64 = .ok (.bipush 50, 2) := by decide +kernel
theorem dX9_need_66 : decode cX9_need 66 = .ok (.goto 4, 3) := by decide +kernel
theorem dX9_need_69 : decode cX9_need 69 = .ok (.iconst 0, 1) := by decide +kernel
theorem dX9_need_70 : decode cX9_need 70 = .ok (.iadd, 1) := by decide +kernel
theorem dX9_need_71 : decode cX9_need 71 = .ok (.istore_n 3, 1) := by decide +kernel
theorem dX9_need_72 : decode cX9_need 72 = .ok (.iload_n 2, 1) := by decide +kernel
theorem dX9_need_73 : decode cX9_need 73 = .ok (.iconst 3, 1) := by decide +kernel
theorem dX9_need_74 : decode cX9_need 74 = .ok (.iconst 4, 1) := by decide +kernel
theorem dX9_need_75 : decode cX9_need 75 = .ok (.invokestatic 44, 3) := by decide +kernel
theorem dX9_need_78 : decode cX9_need 78 = .ok (.ifCond .eq 15, 3) := by decide +kernel
theorem dX9_need_81 : decode cX9_need 81 = .ok (.iload_n 3, 1) := by decide +kernel
theorem dX9_need_82 : decode cX9_need 82 = .ok (.aload_n 0, 1) := by decide +kernel
theorem dX9_need_83 : decode cX9_need 83 = .ok (.iload_n 1, 1) := by decide +kernel
theorem dX9_need_84 : decode cX9_need 84 = .ok (.bipush 20, 2) := by decide +kernel
theorem dX9_need_86 : decode cX9_need 86 = .ok (.invokevirtual 59, 3) := by decide +kernel
theorem dX9_need_89 : decode cX9_need 89 = .ok (.iadd, 1) := by decide +kernel
theorem dX9_need_90 : decode cX9_need 90 = .ok (.goto 4, 3) := by decide +kernel
theorem dX9_need_93 : decode cX9_need 93 = .ok (.iload_n 3, 1) := by decide +kernel
theorem dX9_need_94 : decode cX9_need 94 = .ok (.ireturn, 1) := by decide +kernel
theorem dX9_brown_0 : decode cX9_brown 0 = .ok (.aload_n 0, 1) := by decide +kernel
theorem dX9_brown_1 : decode cX9_brown 1 = .ok (.getfield 7, 3) := by decide +kernel
theorem dX9_brown_4 : decode cX9_brown 4 = .ok (.iload_n 1, 1) := by decide +kernel
theorem dX9_brown_5 : decode cX9_brown 5 = .ok (.iaload, 1) := by decide +kernel
theorem dX9_brown_6 : decode cX9_brown 6 = .ok (.istore_n 3, 1) := by decide +kernel
theorem dX9_brown_7 : decode cX9_brown 7 = .ok (.iload_n 3, 1) := by decide +kernel
theorem dX9_brown_8 : decode cX9_brown 8 = .ok (.iconst 4, 1) := by decide +kernel
theorem dX9_brown_9 : decode cX9_brown 9 = .ok (.if_icmp .ne 9, 3) := by decide +kernel
theorem dX9_brown_12 : decode cX9_brown 12 = .ok (.aload_n 0, 1) := by decide +kernel
theorem dX9_brown_13 : decode cX9_brown 13 = .ok (.bipush 22, 2) := by decide +kernel
theorem dX9_brown_15 : decode cX9_brown 15 = .ok (.invokevirtual 55, 3) := by decide +kernel
theorem dX9_brown_18 : decode cX9_brown 18 = .ok (.iload_n 3, 1) := by decide +kernel
theorem dX9_brown_19 : decode cX9_brown 19 = .ok (.iconst 4, 1) := by decide +kernel
theorem dX9_brown_20 : decode cX9_brown 20 = .ok (.if_icmp .le 9, 3) := by decide +kernel
theorem dX9_brown_23 : decode cX9_brown 23 = .ok (.aload_n 0, 1) := by decide +kernel
theorem dX9_brown_24 : decode cX9_brown 24 = .ok (.bipush 23, 2) := by decide +kernel
theorem dX9_brown_26 : decode cX9_brown 26 = .ok (.invokevirtual 55, 3) := by decide +kernel
theorem dX9_brown_29 : decode cX9_brown 29 = .ok (.aload_n 0, 1) := by decide +kernel
theorem dX9_brown_30 : decode cX9_brown 30 = .ok (.bipush 21, 2) := by decide +kernel
theorem dX9_brown_32 : decode cX9_brown 32 = .ok (.invokevirtual 55, 3) := by decide +kernel
theorem dX9_brown_35 : decode cX9_brown 35 = .ok (.iload_n 2, 1) := by decide +kernel
theorem dX9_brown_36 : decode cX9_brown 36 = .ok (.bipush 50, 2) := by decide +kernel
theorem dX9_brown_38 : decode cX9_brown 38 = .ok (.idiv, 1) := by decide +kernel
theorem dX9_brown_39 : decode cX9_brown 39 = .ok (.istore 4, 2) := by decide +kernel
theorem dX9_brown_41 : decode cX9_brown 41 = .ok (.iload_n 3, 1) := by decide +kernel
theorem dX9_brown_42 : decode cX9_brown 42 = .ok (.iconst 4, 1) := by decide +kernel
theorem dX9_brown_43 : decode cX9_brown 43 = .ok (.if_icmp .ne 12, 3) := by decide +kernel
theorem dX9_brown_46 : decode cX9_brown 46 = .ok (.iload 4, 2) := by decide +kernel
theorem dX9_brown_48 : decode cX9_brown 48 = .ok (.iconst 2, 1) := by decide +kernel
theorem dX9_brown_49 : decode cX9_brown 49 = .ok (.iadd, 1) := by decide +kernel
theorem dX9_brown_50 : decode cX9_brown 50 = .ok (.iconst 3, 1) := by decide +kernel
theorem dX9_brown_51 : decode cX9_brown 51 = .ok (.idiv, 1) := by decide +kernel
theorem dX9_brown_52 : decode cX9_brown 52 = .ok (.goto 17, 3) := by decide +kernel
theorem dX9_brown_55 : decode cX9_brown 55 = .ok (.iload_n 3, 1) := by decide +kernel
theorem dX9_brown_56 : decode cX9_brown 56 = .ok (.iconst 4, 1) := by decide +kernel
theorem dX9_brown_57 : decode cX9_brown 57 = .ok (.if_icmp .le 10, 3) := by decide +kernel
theorem dX9_brown_60 : decode cX9_brown 60 = .ok (.iload 4, 2) := by decide +kernel
theorem dX9_brown_62 : decode cX9_brown 62 = .ok (.iconst 1, 1) := by decide +kernel
theorem dX9_brown_63 : decode cX9_brown 63 = .ok (.iadd, 1) := by decide +kernel
theorem dX9_brown_64 : decode cX9_brown 64 = .ok (.goto 5, 3) := by decide +kernel
theorem dX9_brown_67 : decode cX9_brown 67 = .ok (.iload 4, 2) := by decide +kernel
theorem dX9_brown_69 : decode cX9_brown 69 = .ok (.ireturn, 1) := by decide +kernel
theorem dX9_price_0 : decode cX9_price 0 = .ok (.aload_n 0, 1) := by decide +kernel
theorem dX9_price_1 : decode cX9_price 1 = .ok (.getfield 7, 3) := by decide +kernel
theorem dX9_price_4 : decode cX9_price 4 = .ok (.iload_n 1, 1) := by decide +kernel
theorem dX9_price_5 : decode cX9_price 5 = .ok (.iaload, 1) := by decide +kernel
theorem dX9_price_6 : decode cX9_price 6 = .ok (.istore_n 2, 1) := by decide +kernel
theorem dX9_price_7 : decode cX9_price 7 = .ok (.iload_n 2, 1) := by decide +kernel
theorem dX9_price_8 : decode cX9_price 8 = .ok (.iconst 4, 1) := by decide +kernel
theorem dX9_price_9 : decode cX9_price 9 = .ok (.if_icmp .ne 9, 3) := by decide +kernel
theorem dX9_price_12 : decode cX9_price 12 = .ok (.aload_n 0, 1) := by decide +kernel
theorem dX9_price_13 : decode cX9_price 13 = .ok (.bipush 33, 2) := by decide +kernel
theorem dX9_price_15 : decode cX9_price 15 = .ok (.invokevirtual 55, 3) := by decide +kernel
theorem dX9_price_18 : decode cX9_price 18 = .ok (.iload_n 2, 1) := by decide +kernel
theorem dX9_price_19 : decode cX9_price 19 = .ok (.iconst 3, 1) := by decide +kernel
theorem dX9_price_20 : decode cX9_price 20 = .ok (.iconst 4, 1) := by decide +kernel
theorem dX9_price_21 : decode cX9_price 21 = .ok (.invokestatic 44, 3) := by decide +kernel
theorem dX9_price_24 : decode cX9_price 24 = .ok (.ifCond .eq 9, 3) := by decide +kernel
theorem dX9_price_27 : decode cX9_price 27 = .ok (.aload_n 0, 1) := by decide +kernel
theorem dX9_price_28 : decode cX9_price 28 = .ok (.bipush 32, 2) := by decide +kernel
theorem dX9_price_30 : decode cX9_price 30 = .ok (.invokevirtual 55, 3) := by decide +kernel
theorem dX9_price_33 : decode cX9_price 33 = .ok (.iload_n 2, 1) := by decide +kernel
theorem dX9_price_34 : decode cX9_price 34 = .ok (.bipush 6, 2) := by decide +kernel
theorem dX9_price_36 : decode cX9_price 36 = .ok (.if_icmp .ne 9, 3) := by decide +kernel
theorem dX9_price_39 : decode cX9_price 39 = .ok (.aload_n 0, 1) := by decide +kernel
theorem dX9_price_40 : decode cX9_price 40 = .ok (.bipush 34, 2) := by decide +kernel
theorem dX9_price_42 : decode cX9_price 42 = .ok (.invokevirtual 55, 3) := by decide +kernel
theorem dX9_price_45 : decode cX9_price 45 = .ok (.aload_n 0, 1) := by decide +kernel
theorem dX9_price_46 : decode cX9_price 46 = .ok (.bipush 31, 2) := by decide +kernel
theorem dX9_price_48 : decode cX9_price 48 = .ok (.invokevirtual 55, 3) := by decide +kernel
theorem dX9_price_51 : decode cX9_price 51 = .ok (.bipush 10, 2) := by decide +kernel
theorem dX9_price_53 : decode cX9_price 53 = .ok (.aload_n 0, 1) := by decide +kernel
theorem dX9_price_54 : decode cX9_price 54 = .ok (.getfield 13, 3) := by decide +kernel
theorem dX9_price_57 : decode cX9_price 57 = .ok (.iload_n 1, 1) := by decide +kernel
theorem dX9_price_58 : decode cX9_price 58 = .ok (.iaload, 1) := by decide +kernel
theorem dX9_price_59 : decode cX9_price 59 = .ok (.iconst 5, 1) := by decide +kernel
theorem dX9_price_60 : decode cX9_price 60 = .ok (.idiv, 1) := by decide +kernel
theorem dX9_price_61 : decode cX9_price 61 = .ok (.iadd, 1) := by decide +kernel
theorem dX9_price_62 : decode cX9_price 62 = .ok (.iload_n 2, 1) := by decide +kernel
theorem dX9_price_63 : decode cX9_price 63 = .ok (.iconst 3, 1) := by decide +kernel
theorem dX9_price_64 : decode cX9_price 64 = .ok (.iconst 4, 1) := by decide +kernel
theorem dX9_price_65 : decode cX9_price 65 = .ok (.invokestatic 44, 3) := by decide +kernel
theorem dX9_price_68 : decode cX9_price 68 = .ok (.ifCond .eq 8, 3) := by decide +kernel
theorem dX9_price_71 : decode cX9_price 71 = .ok (.bipush 40, 2) := by decide +kernel
theorem dX9_price_73 : decode cX9_price 73 = .ok (.goto 4, 3) := by decide +kernel
theorem dX9_price_76 : decode cX9_price 76 = .ok (.iconst 0, 1) := by decide +kernel
theorem dX9_price_77 : decode cX9_price 77 = .ok (.iadd, 1) := by decide +kernel
theorem dX9_price_78 : decode cX9_price 78 = .ok (.istore_n 3, 1) := by decide +kernel
theorem dX9_price_79 : decode cX9_price 79 = .ok (.iload_n 2, 1) := by decide +kernel
theorem dX9_price_80 : decode cX9_price 80 = .ok (.iconst 4, 1) := by decide +kernel
theorem dX9_price_81 : decode cX9_price 81 = .ok (.if_icmp .ne 13, 3) := by decide +kernel
theorem dX9_price_84 : decode cX9_price 84 = .ok (.iload_n 3, 1) := by decide +kernel
theorem dX9_price_85 : decode cX9_price 85 = .ok (.aload_n 0, 1) := by decide +kernel
theorem dX9_price_86 : decode cX9_price 86 = .ok (.iload_n 1, 1) := by decide +kernel
theorem dX9_price_87 : decode cX9_price 87 = .ok (.invokevirtual 63, 3) := by decide +kernel
theorem dX9_price_90 : decode cX9_price 90 = .ok (.iadd, 1) := by decide +kernel
theorem dX9_price_91 : decode cX9_price 91 = .ok (.goto 16, 3) := by decide +kernel
theorem dX9_price_94 : decode cX9_price 94 = .ok (.iload_n 2, 1) := by decide +kernel
theorem dX9_price_95 : decode cX9_price 95 = .ok (.bipush 6, 2) := by decide +kernel
theorem dX9_price_97 : decode cX9_price 97 = .ok (.if_icmp .ne 9, 3) := by decide +kernel
theorem dX9_price_100 : decode cX9_price 100 = .ok (.iconst 2, 1) := by decide +kernel
theorem dX9_price_101 : decode cX9_price 101 = .ok (.iload_n 3, 1) := by decide +kernel
theorem dX9_price_102 : decode cX9_price 102 = .ok (.imul, 1) := by decide +kernel
theorem dX9_price_103 : decode cX9_price 103 = .ok (.goto 4, 3) := by decide +kernel
theorem dX9_price_106 : decode cX9_price 106 = .ok (.iload_n 3, 1) := by decide +kernel
theorem dX9_price_107 : decode cX9_price 107 = .ok (.ireturn, 1) := by decide +kernel
theorem dX9_isKeeping_0 : decode cX9_isKeeping 0 = .ok (.iload_n 0, 1) := by decide +kernel
theorem dX9_isKeeping_1 : decode cX9_isKeeping 1 = .ok (.iconst 2, 1) := by decide +kernel
theorem dX9_isKeeping_2 : decode cX9_isKeeping 2 = .ok (.iconst 4, 1) := by decide +kernel
theorem dX9_isKeeping_3 : decode cX9_isKeeping 3 = .ok (.invokestatic 44, 3) := by decide +kernel
theorem dX9_isKeeping_6 : decode cX9_isKeeping 6 = .ok (.ireturn, 1) := by decide +kernel
theorem dX9_isGlazed_0 : decode cX9_isGlazed 0 = .ok (.iload_n 0, 1) := by decide +kernel
theorem dX9_isGlazed_1 : decode cX9_isGlazed 1 = .ok (.iconst 4, 1) := by decide +kernel
theorem dX9_isGlazed_2 : decode cX9_isGlazed 2 = .ok (.if_icmp .le 7, 3) := by decide +kernel
theorem dX9_isGlazed_5 : decode cX9_isGlazed 5 = .ok (.iconst 1, 1) := by decide +kernel
theorem dX9_isGlazed_6 : decode cX9_isGlazed 6 = .ok (.goto 4, 3) := by decide +kernel
theorem dX9_isGlazed_9 : decode cX9_isGlazed 9 = .ok (.iconst 0, 1) := by decide +kernel
theorem dX9_isGlazed_10 : decode cX9_isGlazed 10 = .ok (.ireturn, 1) := by decide +kernel
theorem dX9_keeps_0 : decode cX9_keeps 0 = .ok (.aload_n 0, 1) := by decide +kernel
theorem dX9_keeps_1 : decode cX9_keeps 1 = .ok (.getfield 7, 3) := by decide +kernel
theorem dX9_keeps_4 : decode cX9_keeps 4 = .ok (.iload_n 1, 1) := by decide +kernel
theorem dX9_keeps_5 : decode cX9_keeps 5 = .ok (.iaload, 1) := by decide +kernel
theorem dX9_keeps_6 : decode cX9_keeps 6 = .ok (.iconst 4, 1) := by decide +kernel
theorem dX9_keeps_7 : decode cX9_keeps 7 = .ok (.if_icmp .ne 20, 3) := by decide +kernel
theorem dX9_keeps_10 : decode cX9_keeps 10 = .ok (.aload_n 0, 1) := by decide +kernel
theorem dX9_keeps_11 : decode cX9_keeps 11 = .ok (.bipush 42, 2) := by decide +kernel
theorem dX9_keeps_13 : decode cX9_keeps 13 = .ok (.invokevirtual 55, 3) := by decide +kernel
theorem dX9_keeps_16 : decode cX9_keeps 16 = .ok (.aload_n 0, 1) := by decide +kernel
theorem dX9_keeps_17 : decode cX9_keeps 17 = .ok (.iload_n 1, 1) := by decide +kernel
theorem dX9_keeps_18 : decode cX9_keeps 18 = .ok (.invokevirtual 67, 3) := by decide +kernel
theorem dX9_keeps_21 : decode cX9_keeps 21 = .ok (.bipush 50, 2) := by decide +kernel
theorem dX9_keeps_23 : decode cX9_keeps 23 = .ok (.idiv, 1) := by decide +kernel
theorem dX9_keeps_24 : decode cX9_keeps 24 = .ok (.iconst 2, 1) := by decide +kernel
theorem dX9_keeps_25 : decode cX9_keeps 25 = .ok (.iadd, 1) := by decide +kernel
theorem dX9_keeps_26 : decode cX9_keeps 26 = .ok (.ireturn, 1) := by decide +kernel
theorem dX9_keeps_27 : decode cX9_keeps 27 = .ok (.aload_n 0, 1) := by decide +kernel
theorem dX9_keeps_28 : decode cX9_keeps 28 = .ok (.bipush 41, 2) := by decide +kernel
theorem dX9_keeps_30 : decode cX9_keeps 30 = .ok (.invokevirtual 55, 3) := by decide +kernel
theorem dX9_keeps_33 : decode cX9_keeps 33 = .ok (.iconst 1, 1) := by decide +kernel
theorem dX9_keeps_34 : decode cX9_keeps 34 = .ok (.aload_n 0, 1) := by decide +kernel
theorem dX9_keeps_35 : decode cX9_keeps 35 = .ok (.iload_n 1, 1) := by decide +kernel
theorem dX9_keeps_36 : decode cX9_keeps 36 = .ok (.invokevirtual 63, 3) := by decide +kernel
theorem dX9_keeps_39 : decode cX9_keeps 39 = .ok (.bipush 100, 2) := by decide +kernel
theorem dX9_keeps_41 : decode cX9_keeps 41 = .ok (.idiv, 1) := by decide +kernel
theorem dX9_keeps_42 : decode cX9_keeps 42 = .ok (.iadd, 1) := by decide +kernel
theorem dX9_keeps_43 : decode cX9_keeps 43 = .ok (.ireturn, 1) := by decide +kernel
theorem dX9_glaze_0 : decode cX9_glaze 0 = .ok (.aload_n 0, 1) := by decide +kernel
theorem dX9_glaze_1 : decode cX9_glaze 1 = .ok (.getfield 7, 3) := by decide +kernel
theorem dX9_glaze_4 : decode cX9_glaze 4 = .ok (.iload_n 1, 1) := by decide +kernel
theorem dX9_glaze_5 : decode cX9_glaze 5 = .ok (.iaload, 1) := by decide +kernel
theorem dX9_glaze_6 : decode cX9_glaze 6 = .ok (.bipush 6, 2) := by decide +kernel
theorem dX9_glaze_8 : decode cX9_glaze 8 = .ok (.if_icmp .ne 21, 3) := by decide +kernel
theorem dX9_glaze_11 : decode cX9_glaze 11 = .ok (.aload_n 0, 1) := by decide +kernel
theorem dX9_glaze_12 : decode cX9_glaze 12 = .ok (.bipush 52, 2) := by decide +kernel
theorem dX9_glaze_14 : decode cX9_glaze 14 = .ok (.invokevirtual 55, 3) := by decide +kernel
theorem dX9_glaze_17 : decode cX9_glaze 17 = .ok (.aload_n 0, 1) := by decide +kernel
theorem dX9_glaze_18 : decode cX9_glaze 18 = .ok (.iload_n 1, 1) := by decide +kernel
theorem dX9_glaze_19 : decode cX9_glaze 19 = .ok (.sipush 200, 3) := by decide +kernel
theorem dX9_glaze_22 : decode cX9_glaze 22 = .ok (.invokevirtual 70, 3) := by decide +kernel
theorem dX9_glaze_25 : decode cX9_glaze 25 = .ok (.bipush 20, 2) := by decide +kernel
theorem dX9_glaze_27 : decode cX9_glaze 27 = .ok (.iadd, 1) := by decide +kernel
theorem dX9_glaze_28 : decode cX9_glaze 28 = .ok (.ireturn, 1) := by decide +kernel
theorem dX9_glaze_29 : decode cX9_glaze 29 = .ok (.aload_n 0, 1) := by decide +kernel
theorem dX9_glaze_30 : decode cX9_glaze 30 = .ok (.bipush 51, 2) := by decide +kernel
theorem dX9_glaze_32 : decode cX9_glaze 32 = .ok (.invokevirtual 55, 3) := by decide +kernel
theorem dX9_glaze_35 : decode cX9_glaze 35 = .ok (.aload_n 0, 1) := by decide +kernel
theorem dX9_glaze_36 : decode cX9_glaze 36 = .ok (.iload_n 1, 1) := by decide +kernel
theorem dX9_glaze_37 : decode cX9_glaze 37 = .ok (.invokevirtual 67, 3) := by decide +kernel
theorem dX9_glaze_40 : decode cX9_glaze 40 = .ok (.bipush 10, 2) := by decide +kernel
theorem dX9_glaze_42 : decode cX9_glaze 42 = .ok (.idiv, 1) := by decide +kernel
theorem dX9_glaze_43 : decode cX9_glaze 43 = .ok (.iconst 5, 1) := by decide +kernel
theorem dX9_glaze_44 : decode cX9_glaze 44 = .ok (.iadd, 1) := by decide +kernel
theorem dX9_glaze_45 : decode cX9_glaze 45 = .ok (.ireturn, 1) := by decide +kernel
theorem dX9_answer_0 : decode cX9_answer 0 = .ok (.iload_n 2, 1) := by decide +kernel
theorem dX9_answer_1 : decode cX9_answer 1 = .ok (.tableswitch 84 0 4 #[35, 42, 48, 55, 61], 35) := by decide +kernel
theorem dX9_answer_36 : decode cX9_answer 36 = .ok (.aload_n 0, 1) := by decide +kernel
theorem dX9_answer_37 : decode cX9_answer 37 = .ok (.iload_n 1, 1) := by decide +kernel
theorem dX9_answer_38 : decode cX9_answer 38 = .ok (.iload_n 3, 1) := by decide +kernel
theorem dX9_answer_39 : decode cX9_answer 39 = .ok (.invokevirtual 59, 3) := by decide +kernel
theorem dX9_answer_42 : decode cX9_answer 42 = .ok (.ireturn, 1) := by decide +kernel
theorem dX9_answer_43 : decode cX9_answer 43 = .ok (.aload_n 0, 1) := by decide +kernel
theorem dX9_answer_44 : decode cX9_answer 44 = .ok (.iload_n 1, 1) := by decide +kernel
theorem dX9_answer_45 : decode cX9_answer 45 = .ok (.invokevirtual 63, 3) := by decide +kernel
theorem dX9_answer_48 : decode cX9_answer 48 = .ok (.ireturn, 1) := by decide +kernel
theorem dX9_answer_49 : decode cX9_answer 49 = .ok (.aload_n 0, 1) := by decide +kernel
theorem dX9_answer_50 : decode cX9_answer 50 = .ok (.iload_n 1, 1) := by decide +kernel
theorem dX9_answer_51 : decode cX9_answer 51 = .ok (.iload_n 3, 1) := by decide +kernel
theorem dX9_answer_52 : decode cX9_answer 52 = .ok (.invokevirtual 70, 3) := by decide +kernel
theorem dX9_answer_55 : decode cX9_answer 55 = .ok (.ireturn, 1) := by decide +kernel
theorem dX9_answer_56 : decode cX9_answer 56 = .ok (.aload_n 0, 1) := by decide +kernel
theorem dX9_answer_57 : decode cX9_answer 57 = .ok (.iload_n 1, 1) := by decide +kernel
theorem dX9_answer_58 : decode cX9_answer 58 = .ok (.invokevirtual 67, 3) := by decide +kernel
theorem dX9_answer_61 : decode cX9_answer 61 = .ok (.ireturn, 1) := by decide +kernel
theorem dX9_answer_62 : decode cX9_answer 62 = .ok (.aload_n 0, 1) := by decide +kernel
theorem dX9_answer_63 : decode cX9_answer 63 = .ok (.getfield 7, 3) := by decide +kernel
theorem dX9_answer_66 : decode cX9_answer 66 = .ok (.iload_n 1, 1) := by decide +kernel
theorem dX9_answer_67 : decode cX9_answer 67 = .ok (.iaload, 1) := by decide +kernel
theorem dX9_answer_68 : decode cX9_answer 68 = .ok (.invokestatic 73, 3) := by decide +kernel
theorem dX9_answer_71 : decode cX9_answer 71 = .ok (.ifCond .eq 11, 3) := by decide +kernel
theorem dX9_answer_74 : decode cX9_answer 74 = .ok (.aload_n 0, 1) := by decide +kernel
theorem dX9_answer_75 : decode cX9_answer 75 = .ok (.iload_n 1, 1) := by decide +kernel
theorem dX9_answer_76 : decode cX9_answer 76 = .ok (.invokevirtual 77, 3) := by decide +kernel
theorem dX9_answer_79 : decode cX9_answer 79 = .ok (.goto 5, 3) := by decide +kernel
theorem dX9_answer_82 : decode cX9_answer 82 = .ok (.bipush (-3), 2) := by decide +kernel
theorem dX9_answer_84 : decode cX9_answer 84 = .ok (.ireturn, 1) := by decide +kernel
theorem dX9_answer_85 : decode cX9_answer 85 = .ok (.aload_n 0, 1) := by decide +kernel
theorem dX9_answer_86 : decode cX9_answer 86 = .ok (.getfield 7, 3) := by decide +kernel
theorem dX9_answer_89 : decode cX9_answer 89 = .ok (.iload_n 1, 1) := by decide +kernel
theorem dX9_answer_90 : decode cX9_answer 90 = .ok (.iaload, 1) := by decide +kernel
theorem dX9_answer_91 : decode cX9_answer 91 = .ok (.invokestatic 80, 3) := by decide +kernel
theorem dX9_answer_94 : decode cX9_answer 94 = .ok (.ifCond .eq 11, 3) := by decide +kernel
theorem dX9_answer_97 : decode cX9_answer 97 = .ok (.aload_n 0, 1) := by decide +kernel
theorem dX9_answer_98 : decode cX9_answer 98 = .ok (.iload_n 1, 1) := by decide +kernel
theorem dX9_answer_99 : decode cX9_answer 99 = .ok (.invokevirtual 83, 3) := by decide +kernel
theorem dX9_answer_102 : decode cX9_answer 102 = .ok (.goto 5, 3) := by decide +kernel
theorem dX9_answer_105 : decode cX9_answer 105 = .ok (.bipush (-3), 2) := by decide +kernel
theorem dX9_answer_107 : decode cX9_answer 107 = .ok (.ireturn, 1) := by decide +kernel
theorem dX9_ask_0 : decode cX9_ask 0 = .ok (.aload_n 0, 1) := by decide +kernel
theorem dX9_ask_1 : decode cX9_ask 1 = .ok (.iload_n 1, 1) := by decide +kernel
theorem dX9_ask_2 : decode cX9_ask 2 = .ok (.invokevirtual 86, 3) := by decide +kernel
theorem dX9_ask_5 : decode cX9_ask 5 = .ok (.ifCond .eq 42, 3) := by decide +kernel
theorem dX9_ask_8 : decode cX9_ask 8 = .ok (.iload_n 2, 1) := by decide +kernel
theorem dX9_ask_9 : decode cX9_ask 9 = .ok (.iconst 0, 1) := by decide +kernel
theorem dX9_ask_10 : decode cX9_ask 10 = .ok (.iconst 5, 1) := by decide +kernel
theorem dX9_ask_11 : decode cX9_ask 11 = .ok (.invokestatic 44, 3) := by decide +kernel
theorem dX9_ask_14 : decode cX9_ask 14 = .ok (.ifCond .eq 33, 3) := by decide +kernel
theorem dX9_ask_17 : decode cX9_ask 17 = .ok (.iload_n 2, 1) := by decide +kernel
theorem dX9_ask_18 : decode cX9_ask 18 = .ok (.ifCond .ne 13, 3) := by decide +kernel
theorem dX9_ask_21 : decode cX9_ask 21 = .ok (.iload_n 3, 1) := by decide +kernel
theorem dX9_ask_22 : decode cX9_ask 22 = .ok (.iconst 0, 1) := by decide +kernel
theorem dX9_ask_23 : decode cX9_ask 23 = .ok (.bipush 60, 2) := by decide +kernel
theorem dX9_ask_25 : decode cX9_ask 25 = .ok (.invokestatic 44, 3) := by decide +kernel
theorem dX9_ask_28 : decode cX9_ask 28 = .ok (.ifCond .eq 19, 3) := by decide +kernel
theorem dX9_ask_31 : decode cX9_ask 31 = .ok (.iload_n 2, 1) := by decide +kernel
theorem dX9_ask_32 : decode cX9_ask 32 = .ok (.iconst 2, 1) := by decide +kernel
theorem dX9_ask_33 : decode cX9_ask 33 = .ok (.if_icmp .ne 17, 3) := by decide +kernel
theorem dX9_ask_36 : decode cX9_ask 36 = .ok (.iload_n 3, 1) := by decide +kernel
theorem dX9_ask_37 : decode cX9_ask 37 = .ok (.iconst 0, 1) := by decide +kernel
theorem dX9_ask_38 : decode cX9_ask 38 = .ok (.sipush 400, 3) := by decide +kernel
theorem dX9_ask_41 : decode cX9_ask 41 = .ok (.invokestatic 44, 3) := by decide +kernel
theorem dX9_ask_44 : decode cX9_ask 44 = .ok (.ifCond .ne 6, 3) := by decide +kernel
theorem dX9_ask_47 : decode cX9_ask 47 = .ok (.bipush (-2), 2) := by decide +kernel
theorem dX9_ask_49 : decode cX9_ask 49 = .ok (.ireturn, 1) := by decide +kernel
theorem dX9_ask_50 : decode cX9_ask 50 = .ok (.aload_n 0, 1) := by decide +kernel
theorem dX9_ask_51 : decode cX9_ask 51 = .ok (.iconst 0, 1) := by decide +kernel
theorem dX9_ask_52 : decode cX9_ask 52 = .ok (.putfield 52, 3) := by decide +kernel
theorem dX9_ask_55 : decode cX9_ask 55 = .ok (.aload_n 0, 1) := by decide +kernel
theorem dX9_ask_56 : decode cX9_ask 56 = .ok (.iconst 1, 1) := by decide +kernel
theorem dX9_ask_57 : decode cX9_ask 57 = .ok (.putfield 48, 3) := by decide +kernel
theorem dX9_ask_60 : decode cX9_ask 60 = .ok (.aload_n 0, 1) := by decide +kernel
theorem dX9_ask_61 : decode cX9_ask 61 = .ok (.iload_n 1, 1) := by decide +kernel
theorem dX9_ask_62 : decode cX9_ask 62 = .ok (.iload_n 2, 1) := by decide +kernel
theorem dX9_ask_63 : decode cX9_ask 63 = .ok (.iload_n 3, 1) := by decide +kernel
theorem dX9_ask_64 : decode cX9_ask 64 = .ok (.invokevirtual 89, 3) := by decide +kernel
theorem dX9_ask_67 : decode cX9_ask 67 = .ok (.istore 4, 2) := by decide +kernel
theorem dX9_ask_69 : decode cX9_ask 69 = .ok (.aload_n 0, 1) := by decide +kernel
theorem dX9_ask_70 : decode cX9_ask 70 = .ok (.iconst 0, 1) := by decide +kernel
theorem dX9_ask_71 : decode cX9_ask 71 = .ok (.putfield 48, 3) := by decide +kernel
theorem dX9_ask_74 : decode cX9_ask 74 = .ok (.iload 4, 2) := by decide +kernel
theorem dX9_ask_76 : decode cX9_ask 76 = .ok (.ireturn, 1) := by decide +kernel
theorem dX9_trace_0 : decode cX9_trace 0 = .ok (.iload_n 1, 1) := by decide +kernel
theorem dX9_trace_1 : decode cX9_trace 1 = .ok (.iconst 0, 1) := by decide +kernel
theorem dX9_trace_2 : decode cX9_trace 2 = .ok (.aload_n 0, 1) := by decide +kernel
theorem dX9_trace_3 : decode cX9_trace 3 = .ok (.getfield 52, 3) := by decide +kernel
theorem dX9_trace_6 : decode cX9_trace 6 = .ok (.iconst 1, 1) := by decide +kernel
theorem dX9_trace_7 : decode cX9_trace 7 = .ok (.isub, 1) := by decide +kernel
theorem dX9_trace_8 : decode cX9_trace 8 = .ok (.invokestatic 44, 3) := by decide +kernel
theorem dX9_trace_11 : decode cX9_trace 11 = .ok (.ifCond .eq 12, 3) := by decide +kernel
theorem dX9_trace_14 : decode cX9_trace 14 = .ok (.aload_n 0, 1) := by decide +kernel
theorem dX9_trace_15 : decode cX9_trace 15 = .ok (.getfield 38, 3) := by decide +kernel
theorem dX9_trace_18 : decode cX9_trace 18 = .ok (.iload_n 1, 1) := by decide +kernel
theorem dX9_trace_19 : decode cX9_trace 19 = .ok (.iaload, 1) := by decide +kernel
theorem dX9_trace_20 : decode cX9_trace 20 = .ok (.goto 4, 3) := by decide +kernel
theorem dX9_trace_23 : decode cX9_trace 23 = .ok (.iconst (-1), 1) := by decide +kernel
theorem dX9_trace_24 : decode cX9_trace 24 = .ok (.ireturn, 1) := by decide +kernel
theorem dX9_room_0 : decode cX9_room 0 = .ok (.iload_n 1, 1) := by decide +kernel
theorem dX9_room_1 : decode cX9_room 1 = .ok (.iconst 0, 1) := by decide +kernel
theorem dX9_room_2 : decode cX9_room 2 = .ok (.bipush 60, 2) := by decide +kernel
theorem dX9_room_4 : decode cX9_room 4 = .ok (.invokestatic 44, 3) := by decide +kernel
theorem dX9_room_7 : decode cX9_room 7 = .ok (.ifCond .ne 6, 3) := by decide +kernel
theorem dX9_room_10 : decode cX9_room 10 = .ok (.bipush (-2), 2) := by decide +kernel
theorem dX9_room_12 : decode cX9_room 12 = .ok (.ireturn, 1) := by decide +kernel
theorem dX9_room_13 : decode cX9_room 13 = .ok (.aload_n 0, 1) := by decide +kernel
theorem dX9_room_14 : decode cX9_room 14 = .ok (.getfield 31, 3) := by decide +kernel
theorem dX9_room_17 : decode cX9_room 17 = .ok (.istore_n 2, 1) := by decide +kernel
theorem dX9_room_18 : decode cX9_room 18 = .ok (.aload_n 0, 1) := by decide +kernel
theorem dX9_room_19 : decode cX9_room 19 = .ok (.iload_n 1, 1) := by decide +kernel
theorem dX9_room_20 : decode cX9_room 20 = .ok (.putfield 31, 3) := by decide +kernel
theorem dX9_room_23 : decode cX9_room 23 = .ok (.iload_n 2, 1) := by decide +kernel
theorem dX9_room_24 : decode cX9_room 24 = .ok (.ireturn, 1) := by decide +kernel
theorem dX9_heat_0 : decode cX9_heat 0 = .ok (.iload_n 1, 1) := by decide +kernel
theorem dX9_heat_1 : decode cX9_heat 1 = .ok (.iconst 0, 1) := by decide +kernel
theorem dX9_heat_2 : decode cX9_heat 2 = .ok (.iconst 2, 1) := by decide +kernel
theorem dX9_heat_3 : decode cX9_heat 3 = .ok (.invokestatic 44, 3) := by decide +kernel
theorem dX9_heat_6 : decode cX9_heat 6 = .ok (.ifCond .eq 14, 3) := by decide +kernel
theorem dX9_heat_9 : decode cX9_heat 9 = .ok (.iload_n 2, 1) := by decide +kernel
theorem dX9_heat_10 : decode cX9_heat 10 = .ok (.iconst 0, 1) := by decide +kernel
theorem dX9_heat_11 : decode cX9_heat 11 = .ok (.sipush 400, 3) := by decide +kernel
theorem dX9_heat_14 : decode cX9_heat 14 = .ok (.invokestatic 44, 3) := by decide +kernel
theorem dX9_heat_17 : decode cX9_heat 17 = .ok (.ifCond .ne 6, 3) := by decide +kernel
theorem dX9_heat_20 : decode cX9_heat 20 = .ok (.bipush (-2), 2) := by decide +kernel
theorem dX9_heat_22 : decode cX9_heat 22 = .ok (.ireturn, 1) := by decide +kernel
theorem dX9_heat_23 : decode cX9_heat 23 = .ok (.aload_n 0, 1) := by decide +kernel
theorem dX9_heat_24 : decode cX9_heat 24 = .ok (.getfield 35, 3) := by decide +kernel
theorem dX9_heat_27 : decode cX9_heat 27 = .ok (.iload_n 1, 1) := by decide +kernel
theorem dX9_heat_28 : decode cX9_heat 28 = .ok (.iaload, 1) := by decide +kernel
theorem dX9_heat_29 : decode cX9_heat 29 = .ok (.istore_n 3, 1) := by decide +kernel
theorem dX9_heat_30 : decode cX9_heat 30 = .ok (.aload_n 0, 1) := by decide +kernel
theorem dX9_heat_31 : decode cX9_heat 31 = .ok (.getfield 35, 3) := by decide +kernel
theorem dX9_heat_34 : decode cX9_heat 34 = .ok (.iload_n 1, 1) := by decide +kernel
theorem dX9_heat_35 : decode cX9_heat 35 = .ok (.iload_n 2, 1) := by decide +kernel
theorem dX9_heat_36 : decode cX9_heat 36 = .ok (.iastore, 1) := by decide +kernel
theorem dX9_heat_37 : decode cX9_heat 37 = .ok (.iload_n 3, 1) := by decide +kernel
theorem dX9_heat_38 : decode cX9_heat 38 = .ok (.ireturn, 1) := by decide +kernel
theorem dX9_minute_0 : decode cX9_minute 0 = .ok (.iconst 0, 1) := by decide +kernel
theorem dX9_minute_1 : decode cX9_minute 1 = .ok (.istore_n 1, 1) := by decide +kernel
theorem dX9_minute_2 : decode cX9_minute 2 = .ok (.iconst 0, 1) := by decide +kernel
theorem dX9_minute_3 : decode cX9_minute 3 = .ok (.istore_n 2, 1) := by decide +kernel
theorem dX9_minute_4 : decode cX9_minute 4 = .ok (.iload_n 2, 1) := by decide +kernel
theorem dX9_minute_5 : decode cX9_minute 5 = .ok (.aload_n 0, 1) := by decide +kernel
theorem dX9_minute_6 : decode cX9_minute 6 = .ok (.getfield 41, 3) := by decide +kernel
theorem dX9_minute_9 : decode cX9_minute 9 = .ok (.if_icmp .ge 121, 3) := by decide +kernel
theorem dX9_minute_12 : decode cX9_minute 12 = .ok (.aload_n 0, 1) := by decide +kernel
theorem dX9_minute_13 : decode cX9_minute 13 = .ok (.getfield 16, 3) := by decide +kernel
theorem dX9_minute_16 : decode cX9_minute 16 = .ok (.iload_n 2, 1) := by decide +kernel
theorem dX9_minute_17 : decode cX9_minute 17 = .ok (.iaload, 1) := by decide +kernel
theorem dX9_minute_18 : decode cX9_minute 18 = .ok (.ifCond .ne 50, 3) := by decide +kernel
theorem dX9_minute_21 : decode cX9_minute 21 = .ok (.aload_n 0, 1) := by decide +kernel
theorem dX9_minute_22 : decode cX9_minute 22 = .ok (.getfield 19, 3) := by decide +kernel
theorem dX9_minute_25 : decode cX9_minute 25 = .ok (.iload_n 2, 1) := by decide +kernel
theorem dX9_minute_26 : decode cX9_minute 26 = .ok (.dup2, 1) := by decide +kernel
theorem dX9_minute_27 : decode cX9_minute 27 = .ok (.iaload, 1) := by decide +kernel
theorem dX9_minute_28 : decode cX9_minute 28 = .ok (.aload_n 0, 1) := by decide +kernel
theorem dX9_minute_29 : decode cX9_minute 29 = .ok (.iload_n 2, 1) := by decide +kernel
theorem dX9_minute_30 : decode cX9_minute 30 = .ok (.aload_n 0, 1) := by decide +kernel
theorem dX9_minute_31 : decode cX9_minute 31 = .ok (.getfield 31, 3) := by decide +kernel
theorem dX9_minute_34 : decode cX9_minute 34 = .ok (.invokevirtual 59, 3) := by decide +kernel
theorem dX9_minute_37 : decode cX9_minute 37 = .ok (.iadd, 1) := by decide +kernel
theorem dX9_minute_38 : decode cX9_minute 38 = .ok (.iastore, 1) := by decide +kernel
theorem dX9_minute_39 : decode cX9_minute 39 = .ok (.aload_n 0, 1) := by decide +kernel
theorem dX9_minute_40 : decode cX9_minute 40 = .ok (.getfield 19, 3) := by decide +kernel
theorem dX9_minute_43 : decode cX9_minute 43 = .ok (.iload_n 2, 1) := by decide +kernel
theorem dX9_minute_44 : decode cX9_minute 44 = .ok (.iaload, 1) := by decide +kernel
theorem dX9_minute_45 : decode cX9_minute 45 = .ok (.iconst 2, 1) := by decide +kernel
theorem dX9_minute_46 : decode cX9_minute 46 = .ok (.aload_n 0, 1) := by decide +kernel
theorem dX9_minute_47 : decode cX9_minute 47 = .ok (.iload_n 2, 1) := by decide +kernel
theorem dX9_minute_48 : decode cX9_minute 48 = .ok (.invokevirtual 63, 3) := by decide +kernel
theorem dX9_minute_51 : decode cX9_minute 51 = .ok (.imul, 1) := by decide +kernel
theorem dX9_minute_52 : decode cX9_minute 52 = .ok (.if_icmp .le 72, 3) := by decide +kernel
theorem dX9_minute_55 : decode cX9_minute 55 = .ok (.aload_n 0, 1) := by decide +kernel
theorem dX9_minute_56 : decode cX9_minute 56 = .ok (.getfield 16, 3) := by decide +kernel
theorem dX9_minute_59 : decode cX9_minute 59 = .ok (.iload_n 2, 1) := by decide +kernel
theorem dX9_minute_60 : decode cX9_minute 60 = .ok (.iconst 4, 1) := by decide +kernel
theorem dX9_minute_61 : decode cX9_minute 61 = .ok (.iastore, 1) := by decide +kernel
theorem dX9_minute_62 : decode cX9_minute 62 = .ok (.iinc 1 1, 3) := by decide +kernel
theorem dX9_minute_65 : decode cX9_minute 65 = .ok (.goto 59, 3) := by decide +kernel
theorem dX9_minute_68 : decode cX9_minute 68 = .ok (.aload_n 0, 1) := by decide +kernel
theorem dX9_minute_69 : decode cX9_minute 69 = .ok (.getfield 16, 3) := by decide +kernel
theorem dX9_minute_72 : decode cX9_minute 72 = .ok (.iload_n 2, 1) := by decide +kernel
theorem dX9_minute_73 : decode cX9_minute 73 = .ok (.iaload, 1) := by decide +kernel
theorem dX9_minute_74 : decode cX9_minute 74 = .ok (.iconst 1, 1) := by decide +kernel
theorem dX9_minute_75 : decode cX9_minute 75 = .ok (.if_icmp .ne 49, 3) := by decide +kernel
theorem dX9_minute_78 : decode cX9_minute 78 = .ok (.aload_n 0, 1) := by decide +kernel
theorem dX9_minute_79 : decode cX9_minute 79 = .ok (.getfield 22, 3) := by decide +kernel
theorem dX9_minute_82 : decode cX9_minute 82 = .ok (.iload_n 2, 1) := by decide +kernel
theorem dX9_minute_83 : decode cX9_minute 83 = .ok (.dup2, 1) := by decide +kernel
theorem dX9_minute_84 : decode cX9_minute 84 = .ok (.iaload, 1) := by decide +kernel
theorem dX9_minute_85 : decode cX9_minute 85 = .ok (.aload_n 0, 1) := by decide +kernel
theorem dX9_minute_86 : decode cX9_minute 86 = .ok (.iload_n 2, 1) := by decide +kernel
theorem dX9_minute_87 : decode cX9_minute 87 = .ok (.aload_n 0, 1) := by decide +kernel
theorem dX9_minute_88 : decode cX9_minute 88 = .ok (.getfield 35, 3) := by decide +kernel
theorem dX9_minute_91 : decode cX9_minute 91 = .ok (.aload_n 0, 1) := by decide +kernel
theorem dX9_minute_92 : decode cX9_minute 92 = .ok (.getfield 25, 3) := by decide +kernel
theorem dX9_minute_95 : decode cX9_minute 95 = .ok (.iload_n 2, 1) := by decide +kernel
theorem dX9_minute_96 : decode cX9_minute 96 = .ok (.iaload, 1) := by decide +kernel
theorem dX9_minute_97 : decode cX9_minute 97 = .ok (.iaload, 1) := by decide +kernel
theorem dX9_minute_98 : decode cX9_minute 98 = .ok (.invokevirtual 70, 3) := by decide +kernel
theorem dX9_minute_101 : decode cX9_minute 101 = .ok (.iadd, 1) := by decide +kernel
theorem dX9_minute_102 : decode cX9_minute 102 = .ok (.iastore, 1) := by decide +kernel
theorem dX9_minute_103 : decode cX9_minute 103 = .ok (.aload_n 0, 1) := by decide +kernel
theorem dX9_minute_104 : decode cX9_minute 104 = .ok (.getfield 22, 3) := by decide +kernel
theorem dX9_minute_107 : decode cX9_minute 107 = .ok (.iload_n 2, 1) := by decide +kernel
theorem dX9_minute_108 : decode cX9_minute 108 = .ok (.iaload, 1) := by decide +kernel
theorem dX9_minute_109 : decode cX9_minute 109 = .ok (.bipush 100, 2) := by decide +kernel
theorem dX9_minute_111 : decode cX9_minute 111 = .ok (.if_icmp .le 13, 3) := by decide +kernel
theorem dX9_minute_114 : decode cX9_minute 114 = .ok (.aload_n 0, 1) := by decide +kernel
theorem dX9_minute_115 : decode cX9_minute 115 = .ok (.getfield 16, 3) := by decide +kernel
theorem dX9_minute_118 : decode cX9_minute 118 = .ok (.iload_n 2, 1) := by decide +kernel
theorem dX9_minute_119 : decode cX9_minute 119 = .ok (.iconst 4, 1) := by decide +kernel
theorem dX9_minute_120 : decode cX9_minute 120 = .ok (.iastore, 1) := by decide +kernel
theorem dX9_minute_121 : decode cX9_minute 121 = .ok (.iinc 1 1, 3) := by decide +kernel
theorem dX9_minute_124 : decode cX9_minute 124 = .ok (.iinc 2 1, 3) := by decide +kernel
theorem dX9_minute_127 : decode cX9_minute 127 = .ok (.goto (-123), 3) := by decide +kernel
theorem dX9_minute_130 : decode cX9_minute 130 = .ok (.iload_n 1, 1) := by decide +kernel
theorem dX9_minute_131 : decode cX9_minute 131 = .ok (.ireturn, 1) := by decide +kernel
theorem dX9_minutes_0 : decode cX9_minutes 0 = .ok (.iload_n 1, 1) := by decide +kernel
theorem dX9_minutes_1 : decode cX9_minutes 1 = .ok (.iconst 1, 1) := by decide +kernel
theorem dX9_minutes_2 : decode cX9_minutes 2 = .ok (.sipush 200, 3) := by decide +kernel
theorem dX9_minutes_5 : decode cX9_minutes 5 = .ok (.invokestatic 44, 3) := by decide +kernel
theorem dX9_minutes_8 : decode cX9_minutes 8 = .ok (.ifCond .ne 6, 3) := by decide +kernel
theorem dX9_minutes_11 : decode cX9_minutes 11 = .ok (.bipush (-2), 2) := by decide +kernel
theorem dX9_minutes_13 : decode cX9_minutes 13 = .ok (.ireturn, 1) := by decide +kernel
theorem dX9_minutes_14 : decode cX9_minutes 14 = .ok (.iconst 0, 1) := by decide +kernel
theorem dX9_minutes_15 : decode cX9_minutes 15 = .ok (.istore_n 2, 1) := by decide +kernel
theorem dX9_minutes_16 : decode cX9_minutes 16 = .ok (.iconst 0, 1) := by decide +kernel
theorem dX9_minutes_17 : decode cX9_minutes 17 = .ok (.istore_n 3, 1) := by decide +kernel
theorem dX9_minutes_18 : decode cX9_minutes 18 = .ok (.iload_n 3, 1) := by decide +kernel
theorem dX9_minutes_19 : decode cX9_minutes 19 = .ok (.iload_n 1, 1) := by decide +kernel
theorem dX9_minutes_20 : decode cX9_minutes 20 = .ok (.if_icmp .ge 16, 3) := by decide +kernel
theorem dX9_minutes_23 : decode cX9_minutes 23 = .ok (.iload_n 2, 1) := by decide +kernel
theorem dX9_minutes_24 : decode cX9_minutes 24 = .ok (.aload_n 0, 1) := by decide +kernel
theorem dX9_minutes_25 : decode cX9_minutes 25 = .ok (.invokevirtual 93, 3) := by decide +kernel
theorem dX9_minutes_28 : decode cX9_minutes 28 = .ok (.iadd, 1) := by decide +kernel
theorem dX9_minutes_29 : decode cX9_minutes 29 = .ok (.istore_n 2, 1) := by decide +kernel
theorem dX9_minutes_30 : decode cX9_minutes 30 = .ok (.iinc 3 1, 3) := by decide +kernel
theorem dX9_minutes_33 : decode cX9_minutes 33 = .ok (.goto (-15), 3) := by decide +kernel
theorem dX9_minutes_36 : decode cX9_minutes 36 = .ok (.iload_n 2, 1) := by decide +kernel
theorem dX9_minutes_37 : decode cX9_minutes 37 = .ok (.ireturn, 1) := by decide +kernel
theorem dX9_massIn_0 : decode cX9_massIn 0 = .ok (.iconst 0, 1) := by decide +kernel
theorem dX9_massIn_1 : decode cX9_massIn 1 = .ok (.istore_n 2, 1) := by decide +kernel
theorem dX9_massIn_2 : decode cX9_massIn 2 = .ok (.iconst 0, 1) := by decide +kernel
theorem dX9_massIn_3 : decode cX9_massIn 3 = .ok (.istore_n 3, 1) := by decide +kernel
theorem dX9_massIn_4 : decode cX9_massIn 4 = .ok (.iload_n 3, 1) := by decide +kernel
theorem dX9_massIn_5 : decode cX9_massIn 5 = .ok (.aload_n 0, 1) := by decide +kernel
theorem dX9_massIn_6 : decode cX9_massIn 6 = .ok (.getfield 41, 3) := by decide +kernel
theorem dX9_massIn_9 : decode cX9_massIn 9 = .ok (.if_icmp .ge 42, 3) := by decide +kernel
theorem dX9_massIn_12 : decode cX9_massIn 12 = .ok (.iload_n 2, 1) := by decide +kernel
theorem dX9_massIn_13 : decode cX9_massIn 13 = .ok (.aload_n 0, 1) := by decide +kernel
theorem dX9_massIn_14 : decode cX9_massIn 14 = .ok (.getfield 16, 3) := by decide +kernel
theorem dX9_massIn_17 : decode cX9_massIn 17 = .ok (.iload_n 3, 1) := by decide +kernel
theorem dX9_massIn_18 : decode cX9_massIn 18 = .ok (.iaload, 1) := by decide +kernel
theorem dX9_massIn_19 : decode cX9_massIn 19 = .ok (.iconst 1, 1) := by decide +kernel
theorem dX9_massIn_20 : decode cX9_massIn 20 = .ok (.if_icmp .ne 22, 3) := by decide +kernel
theorem dX9_massIn_23 : decode cX9_massIn 23 = .ok (.aload_n 0, 1) := by decide +kernel
theorem dX9_massIn_24 : decode cX9_massIn 24 = .ok (.getfield 25, 3) := by decide +kernel
theorem dX9_massIn_27 : decode cX9_massIn 27 = .ok (.iload_n 3, 1) := by decide +kernel
theorem dX9_massIn_28 : decode cX9_massIn 28 = .ok (.iaload, 1) := by decide +kernel
theorem dX9_massIn_29 : decode cX9_massIn 29 = .ok (.iload_n 1, 1) := by decide +kernel
theorem dX9_massIn_30 : decode cX9_massIn 30 = .ok (.if_icmp .ne 12, 3) := by decide +kernel
theorem dX9_massIn_33 : decode cX9_massIn 33 = .ok (.aload_n 0, 1) := by decide +kernel
theorem dX9_massIn_34 : decode cX9_massIn 34 = .ok (.getfield 13, 3) := by decide +kernel
theorem dX9_massIn_37 : decode cX9_massIn 37 = .ok (.iload_n 3, 1) := by decide +kernel
theorem dX9_massIn_38 : decode cX9_massIn 38 = .ok (.iaload, 1) := by decide +kernel
theorem dX9_massIn_39 : decode cX9_massIn 39 = .ok (.goto 4, 3) := by decide +kernel
theorem dX9_massIn_42 : decode cX9_massIn 42 = .ok (.iconst 0, 1) := by decide +kernel
theorem dX9_massIn_43 : decode cX9_massIn 43 = .ok (.iadd, 1) := by decide +kernel
theorem dX9_massIn_44 : decode cX9_massIn 44 = .ok (.istore_n 2, 1) := by decide +kernel
theorem dX9_massIn_45 : decode cX9_massIn 45 = .ok (.iinc 3 1, 3) := by decide +kernel
theorem dX9_massIn_48 : decode cX9_massIn 48 = .ok (.goto (-44), 3) := by decide +kernel
theorem dX9_massIn_51 : decode cX9_massIn 51 = .ok (.iload_n 2, 1) := by decide +kernel
theorem dX9_massIn_52 : decode cX9_massIn 52 = .ok (.ireturn, 1) := by decide +kernel
theorem dX9_bake_0 : decode cX9_bake 0 = .ok (.aload_n 0, 1) := by decide +kernel
theorem dX9_bake_1 : decode cX9_bake 1 = .ok (.iload_n 1, 1) := by decide +kernel
theorem dX9_bake_2 : decode cX9_bake 2 = .ok (.invokevirtual 86, 3) := by decide +kernel
theorem dX9_bake_5 : decode cX9_bake 5 = .ok (.ifCond .eq 12, 3) := by decide +kernel
theorem dX9_bake_8 : decode cX9_bake 8 = .ok (.iload_n 2, 1) := by decide +kernel
theorem dX9_bake_9 : decode cX9_bake 9 = .ok (.iconst 0, 1) := by decide +kernel
theorem dX9_bake_10 : decode cX9_bake 10 = .ok (.iconst 2, 1) := by decide +kernel
theorem dX9_bake_11 : decode cX9_bake 11 = .ok (.invokestatic 44, 3) := by decide +kernel
theorem dX9_bake_14 : decode cX9_bake 14 = .ok (.ifCond .ne 6, 3) := by decide +kernel
theorem dX9_bake_17 : decode cX9_bake 17 = .ok (.bipush (-2), 2) := by decide +kernel
theorem dX9_bake_19 : decode cX9_bake 19 = .ok (.ireturn, 1) := by decide +kernel
theorem dX9_bake_20 : decode cX9_bake 20 = .ok (.aload_n 0, 1) := by decide +kernel
theorem dX9_bake_21 : decode cX9_bake 21 = .ok (.getfield 16, 3) := by decide +kernel
theorem dX9_bake_24 : decode cX9_bake 24 = .ok (.iload_n 1, 1) := by decide +kernel
theorem dX9_bake_25 : decode cX9_bake 25 = .ok (.iaload, 1) := by decide +kernel
theorem dX9_bake_26 : decode cX9_bake 26 = .ok (.ifCond .ne 17, 3) := by decide +kernel
theorem dX9_bake_29 : decode cX9_bake 29 = .ok (.aload_n 0, 1) := by decide +kernel
theorem dX9_bake_30 : decode cX9_bake 30 = .ok (.getfield 19, 3) := by decide +kernel
theorem dX9_bake_33 : decode cX9_bake 33 = .ok (.iload_n 1, 1) := by decide +kernel
theorem dX9_bake_34 : decode cX9_bake 34 = .ok (.iaload, 1) := by decide +kernel
theorem dX9_bake_35 : decode cX9_bake 35 = .ok (.aload_n 0, 1) := by decide +kernel
theorem dX9_bake_36 : decode cX9_bake 36 = .ok (.iload_n 1, 1) := by decide +kernel
theorem dX9_bake_37 : decode cX9_bake 37 = .ok (.invokevirtual 63, 3) := by decide +kernel
theorem dX9_bake_40 : decode cX9_bake 40 = .ok (.if_icmp .ge 6, 3) := by decide +kernel
theorem dX9_bake_43 : decode cX9_bake 43 = .ok (.bipush (-3), 2) := by decide +kernel
theorem dX9_bake_45 : decode cX9_bake 45 = .ok (.ireturn, 1) := by decide +kernel
theorem dX9_bake_46 : decode cX9_bake 46 = .ok (.aload_n 0, 1) := by decide +kernel
theorem dX9_bake_47 : decode cX9_bake 47 = .ok (.iload_n 2, 1) := by decide +kernel
theorem dX9_bake_48 : decode cX9_bake 48 = .ok (.invokevirtual 97, 3) := by decide +kernel
theorem dX9_bake_51 : decode cX9_bake 51 = .ok (.aload_n 0, 1) := by decide +kernel
theorem dX9_bake_52 : decode cX9_bake 52 = .ok (.getfield 13, 3) := by decide +kernel
theorem dX9_bake_55 : decode cX9_bake 55 = .ok (.iload_n 1, 1) := by decide +kernel
theorem dX9_bake_56 : decode cX9_bake 56 = .ok (.iaload, 1) := by decide +kernel
theorem dX9_bake_57 : decode cX9_bake 57 = .ok (.iadd, 1) := by decide +kernel
theorem dX9_bake_58 : decode cX9_bake 58 = .ok (.sipush 800, 3) := by decide +kernel
theorem dX9_bake_61 : decode cX9_bake 61 = .ok (.if_icmp .le 6, 3) := by decide +kernel
theorem dX9_bake_64 : decode cX9_bake 64 = .ok (.bipush (-4), 2) := by decide +kernel
theorem dX9_bake_66 : decode cX9_bake 66 = .ok (.ireturn, 1) := by decide +kernel
theorem dX9_bake_67 : decode cX9_bake 67 = .ok (.aload_n 0, 1) := by decide +kernel
theorem dX9_bake_68 : decode cX9_bake 68 = .ok (.getfield 16, 3) := by decide +kernel
theorem dX9_bake_71 : decode cX9_bake 71 = .ok (.iload_n 1, 1) := by decide +kernel
theorem dX9_bake_72 : decode cX9_bake 72 = .ok (.iconst 1, 1) := by decide +kernel
theorem dX9_bake_73 : decode cX9_bake 73 = .ok (.iastore, 1) := by decide +kernel
theorem dX9_bake_74 : decode cX9_bake 74 = .ok (.aload_n 0, 1) := by decide +kernel
theorem dX9_bake_75 : decode cX9_bake 75 = .ok (.getfield 25, 3) := by decide +kernel
theorem dX9_bake_78 : decode cX9_bake 78 = .ok (.iload_n 1, 1) := by decide +kernel
theorem dX9_bake_79 : decode cX9_bake 79 = .ok (.iload_n 2, 1) := by decide +kernel
theorem dX9_bake_80 : decode cX9_bake 80 = .ok (.iastore, 1) := by decide +kernel
theorem dX9_bake_81 : decode cX9_bake 81 = .ok (.aload_n 0, 1) := by decide +kernel
theorem dX9_bake_82 : decode cX9_bake 82 = .ok (.iload_n 2, 1) := by decide +kernel
theorem dX9_bake_83 : decode cX9_bake 83 = .ok (.invokevirtual 97, 3) := by decide +kernel
theorem dX9_bake_86 : decode cX9_bake 86 = .ok (.ireturn, 1) := by decide +kernel
theorem dX9_out_0 : decode cX9_out 0 = .ok (.aload_n 0, 1) := by decide +kernel
theorem dX9_out_1 : decode cX9_out 1 = .ok (.iload_n 1, 1) := by decide +kernel
theorem dX9_out_2 : decode cX9_out 2 = .ok (.invokevirtual 86, 3) := by decide +kernel
theorem dX9_out_5 : decode cX9_out 5 = .ok (.ifCond .ne 6, 3) := by decide +kernel
theorem dX9_out_8 : decode cX9_out 8 = .ok (.bipush (-2), 2) := by decide +kernel
theorem dX9_out_10 : decode cX9_out 10 = .ok (.ireturn, 1) := by decide +kernel
theorem dX9_out_11 : decode cX9_out 11 = .ok (.aload_n 0, 1) := by decide +kernel
theorem dX9_out_12 : decode cX9_out 12 = .ok (.getfield 16, 3) := by decide +kernel
theorem dX9_out_15 : decode cX9_out 15 = .ok (.iload_n 1, 1) := by decide +kernel
theorem dX9_out_16 : decode cX9_out 16 = .ok (.iaload, 1) := by decide +kernel
theorem dX9_out_17 : decode cX9_out 17 = .ok (.iconst 1, 1) := by decide +kernel
theorem dX9_out_18 : decode cX9_out 18 = .ok (.if_icmp .eq 6, 3) := by decide +kernel
theorem dX9_out_21 : decode cX9_out 21 = .ok (.bipush (-3), 2) := by decide +kernel
theorem dX9_out_23 : decode cX9_out 23 = .ok (.ireturn, 1) := by decide +kernel
theorem dX9_out_24 : decode cX9_out 24 = .ok (.aload_n 0, 1) := by decide +kernel
theorem dX9_out_25 : decode cX9_out 25 = .ok (.getfield 16, 3) := by decide +kernel
theorem dX9_out_28 : decode cX9_out 28 = .ok (.iload_n 1, 1) := by decide +kernel
theorem dX9_out_29 : decode cX9_out 29 = .ok (.aload_n 0, 1) := by decide +kernel
theorem dX9_out_30 : decode cX9_out 30 = .ok (.getfield 22, 3) := by decide +kernel
theorem dX9_out_33 : decode cX9_out 33 = .ok (.iload_n 1, 1) := by decide +kernel
theorem dX9_out_34 : decode cX9_out 34 = .ok (.iaload, 1) := by decide +kernel
theorem dX9_out_35 : decode cX9_out 35 = .ok (.bipush 40, 2) := by decide +kernel
theorem dX9_out_37 : decode cX9_out 37 = .ok (.if_icmp .lt 7, 3) := by decide +kernel
theorem dX9_out_40 : decode cX9_out 40 = .ok (.iconst 2, 1) := by decide +kernel
theorem dX9_out_41 : decode cX9_out 41 = .ok (.goto 4, 3) := by decide +kernel
theorem dX9_out_44 : decode cX9_out 44 = .ok (.iconst 4, 1) := by decide +kernel
theorem dX9_out_45 : decode cX9_out 45 = .ok (.iastore, 1) := by decide +kernel
theorem dX9_out_46 : decode cX9_out 46 = .ok (.aload_n 0, 1) := by decide +kernel
theorem dX9_out_47 : decode cX9_out 47 = .ok (.getfield 28, 3) := by decide +kernel
theorem dX9_out_50 : decode cX9_out 50 = .ok (.iload_n 1, 1) := by decide +kernel
theorem dX9_out_51 : decode cX9_out 51 = .ok (.aload_n 0, 1) := by decide +kernel
theorem dX9_out_52 : decode cX9_out 52 = .ok (.getfield 100, 3) := by decide +kernel
theorem dX9_out_55 : decode cX9_out 55 = .ok (.iastore, 1) := by decide +kernel
theorem dX9_out_56 : decode cX9_out 56 = .ok (.aload_n 0, 1) := by decide +kernel
theorem dX9_out_57 : decode cX9_out 57 = .ok (.getfield 22, 3) := by decide +kernel
theorem dX9_out_60 : decode cX9_out 60 = .ok (.iload_n 1, 1) := by decide +kernel
theorem dX9_out_61 : decode cX9_out 61 = .ok (.iaload, 1) := by decide +kernel
theorem dX9_out_62 : decode cX9_out 62 = .ok (.ireturn, 1) := by decide +kernel
theorem dX9_sell_0 : decode cX9_sell 0 = .ok (.aload_n 0, 1) := by decide +kernel
theorem dX9_sell_1 : decode cX9_sell 1 = .ok (.iload_n 1, 1) := by decide +kernel
theorem dX9_sell_2 : decode cX9_sell 2 = .ok (.invokevirtual 86, 3) := by decide +kernel
theorem dX9_sell_5 : decode cX9_sell 5 = .ok (.ifCond .ne 6, 3) := by decide +kernel
theorem dX9_sell_8 : decode cX9_sell 8 = .ok (.bipush (-2), 2) := by decide +kernel
theorem dX9_sell_10 : decode cX9_sell 10 = .ok (.ireturn, 1) := by decide +kernel
theorem dX9_sell_11 : decode cX9_sell 11 = .ok (.aload_n 0, 1) := by decide +kernel
theorem dX9_sell_12 : decode cX9_sell 12 = .ok (.getfield 16, 3) := by decide +kernel
theorem dX9_sell_15 : decode cX9_sell 15 = .ok (.iload_n 1, 1) := by decide +kernel
theorem dX9_sell_16 : decode cX9_sell 16 = .ok (.iaload, 1) := by decide +kernel
theorem dX9_sell_17 : decode cX9_sell 17 = .ok (.iconst 2, 1) := by decide +kernel
theorem dX9_sell_18 : decode cX9_sell 18 = .ok (.if_icmp .eq 6, 3) := by decide +kernel
theorem dX9_sell_21 : decode cX9_sell 21 = .ok (.bipush (-3), 2) := by decide +kernel
theorem dX9_sell_23 : decode cX9_sell 23 = .ok (.ireturn, 1) := by decide +kernel
theorem dX9_sell_24 : decode cX9_sell 24 = .ok (.aload_n 0, 1) := by decide +kernel
theorem dX9_sell_25 : decode cX9_sell 25 = .ok (.iload_n 1, 1) := by decide +kernel
theorem dX9_sell_26 : decode cX9_sell 26 = .ok (.invokevirtual 67, 3) := by decide +kernel
theorem dX9_sell_29 : decode cX9_sell 29 = .ok (.aload_n 0, 1) := by decide +kernel
theorem dX9_sell_30 : decode cX9_sell 30 = .ok (.getfield 7, 3) := by decide +kernel
theorem dX9_sell_33 : decode cX9_sell 33 = .ok (.iload_n 1, 1) := by decide +kernel
theorem dX9_sell_34 : decode cX9_sell 34 = .ok (.iaload, 1) := by decide +kernel
theorem dX9_sell_35 : decode cX9_sell 35 = .ok (.invokestatic 80, 3) := by decide +kernel
theorem dX9_sell_38 : decode cX9_sell 38 = .ok (.ifCond .eq 11, 3) := by decide +kernel
theorem dX9_sell_41 : decode cX9_sell 41 = .ok (.aload_n 0, 1) := by decide +kernel
theorem dX9_sell_42 : decode cX9_sell 42 = .ok (.iload_n 1, 1) := by decide +kernel
theorem dX9_sell_43 : decode cX9_sell 43 = .ok (.invokevirtual 83, 3) := by decide +kernel
theorem dX9_sell_46 : decode cX9_sell 46 = .ok (.goto 4, 3) := by decide +kernel
theorem dX9_sell_49 : decode cX9_sell 49 = .ok (.iconst 0, 1) := by decide +kernel
theorem dX9_sell_50 : decode cX9_sell 50 = .ok (.iadd, 1) := by decide +kernel
theorem dX9_sell_51 : decode cX9_sell 51 = .ok (.aload_n 0, 1) := by decide +kernel
theorem dX9_sell_52 : decode cX9_sell 52 = .ok (.getfield 100, 3) := by decide +kernel
theorem dX9_sell_55 : decode cX9_sell 55 = .ok (.aload_n 0, 1) := by decide +kernel
theorem dX9_sell_56 : decode cX9_sell 56 = .ok (.getfield 28, 3) := by decide +kernel
theorem dX9_sell_59 : decode cX9_sell 59 = .ok (.iload_n 1, 1) := by decide +kernel
theorem dX9_sell_60 : decode cX9_sell 60 = .ok (.iaload, 1) := by decide +kernel
theorem dX9_sell_61 : decode cX9_sell 61 = .ok (.isub, 1) := by decide +kernel
theorem dX9_sell_62 : decode cX9_sell 62 = .ok (.isub, 1) := by decide +kernel
theorem dX9_sell_63 : decode cX9_sell 63 = .ok (.istore_n 2, 1) := by decide +kernel
theorem dX9_sell_64 : decode cX9_sell 64 = .ok (.iload_n 2, 1) := by decide +kernel
theorem dX9_sell_65 : decode cX9_sell 65 = .ok (.iconst 1, 1) := by decide +kernel
theorem dX9_sell_66 : decode cX9_sell 66 = .ok (.if_icmp .ge 7, 3) := by decide +kernel
theorem dX9_sell_69 : decode cX9_sell 69 = .ok (.iconst 1, 1) := by decide +kernel
theorem dX9_sell_70 : decode cX9_sell 70 = .ok (.goto 4, 3) := by decide +kernel
theorem dX9_sell_73 : decode cX9_sell 73 = .ok (.iload_n 2, 1) := by decide +kernel
theorem dX9_sell_74 : decode cX9_sell 74 = .ok (.istore_n 2, 1) := by decide +kernel
theorem dX9_sell_75 : decode cX9_sell 75 = .ok (.aload_n 0, 1) := by decide +kernel
theorem dX9_sell_76 : decode cX9_sell 76 = .ok (.dup, 1) := by decide +kernel
theorem dX9_sell_77 : decode cX9_sell 77 = .ok (.getfield 103, 3) := by decide +kernel
theorem dX9_sell_80 : decode cX9_sell 80 = .ok (.iload_n 2, 1) := by decide +kernel
theorem dX9_sell_81 : decode cX9_sell 81 = .ok (.iadd, 1) := by decide +kernel
theorem dX9_sell_82 : decode cX9_sell 82 = .ok (.putfield 103, 3) := by decide +kernel
theorem dX9_sell_85 : decode cX9_sell 85 = .ok (.aload_n 0, 1) := by decide +kernel
theorem dX9_sell_86 : decode cX9_sell 86 = .ok (.getfield 16, 3) := by decide +kernel
theorem dX9_sell_89 : decode cX9_sell 89 = .ok (.iload_n 1, 1) := by decide +kernel
theorem dX9_sell_90 : decode cX9_sell 90 = .ok (.iconst 3, 1) := by decide +kernel
theorem dX9_sell_91 : decode cX9_sell 91 = .ok (.iastore, 1) := by decide +kernel
theorem dX9_sell_92 : decode cX9_sell 92 = .ok (.iload_n 2, 1) := by decide +kernel
theorem dX9_sell_93 : decode cX9_sell 93 = .ok (.ireturn, 1) := by decide +kernel
theorem dX9_day_0 : decode cX9_day 0 = .ok (.aload_n 0, 1) := by decide +kernel
theorem dX9_day_1 : decode cX9_day 1 = .ok (.getfield 100, 3) := by decide +kernel
theorem dX9_day_4 : decode cX9_day 4 = .ok (.sipush 10000, 3) := by decide +kernel
theorem dX9_day_7 : decode cX9_day 7 = .ok (.if_icmp .ne 6, 3) := by decide +kernel
theorem dX9_day_10 : decode cX9_day 10 = .ok (.bipush (-4), 2) := by decide +kernel
theorem dX9_day_12 : decode cX9_day 12 = .ok (.ireturn, 1) := by decide +kernel
theorem dX9_day_13 : decode cX9_day 13 = .ok (.iconst 0, 1) := by decide +kernel
theorem dX9_day_14 : decode cX9_day 14 = .ok (.istore_n 1, 1) := by decide +kernel
theorem dX9_day_15 : decode cX9_day 15 = .ok (.iconst 0, 1) := by decide +kernel
theorem dX9_day_16 : decode cX9_day 16 = .ok (.istore_n 2, 1) := by decide +kernel
theorem dX9_day_17 : decode cX9_day 17 = .ok (.iload_n 2, 1) := by decide +kernel
theorem dX9_day_18 : decode cX9_day 18 = .ok (.aload_n 0, 1) := by decide +kernel
theorem dX9_day_19 : decode cX9_day 19 = .ok (.getfield 41, 3) := by decide +kernel
theorem dX9_day_22 : decode cX9_day 22 = .ok (.if_icmp .ge 76, 3) := by decide +kernel
theorem dX9_day_25 : decode cX9_day 25 = .ok (.aload_n 0, 1) := by decide +kernel
theorem dX9_day_26 : decode cX9_day 26 = .ok (.getfield 16, 3) := by decide +kernel
theorem dX9_day_29 : decode cX9_day 29 = .ok (.iload_n 2, 1) := by decide +kernel
theorem dX9_day_30 : decode cX9_day 30 = .ok (.iaload, 1) := by decide +kernel
theorem dX9_day_31 : decode cX9_day 31 = .ok (.iconst 2, 1) := by decide +kernel
theorem dX9_day_32 : decode cX9_day 32 = .ok (.if_icmp .ne 23, 3) := by decide +kernel
theorem dX9_day_35 : decode cX9_day 35 = .ok (.aload_n 0, 1) := by decide +kernel
theorem dX9_day_36 : decode cX9_day 36 = .ok (.getfield 7, 3) := by decide +kernel
theorem dX9_day_39 : decode cX9_day 39 = .ok (.iload_n 2, 1) := by decide +kernel
theorem dX9_day_40 : decode cX9_day 40 = .ok (.iaload, 1) := by decide +kernel
theorem dX9_day_41 : decode cX9_day 41 = .ok (.invokestatic 73, 3) := by decide +kernel
theorem dX9_day_44 : decode cX9_day 44 = .ok (.ifCond .eq 11, 3) := by decide +kernel
theorem dX9_day_47 : decode cX9_day 47 = .ok (.aload_n 0, 1) := by decide +kernel
theorem dX9_day_48 : decode cX9_day 48 = .ok (.iload_n 2, 1) := by decide +kernel
theorem dX9_day_49 : decode cX9_day 49 = .ok (.invokevirtual 77, 3) := by decide +kernel
theorem dX9_day_52 : decode cX9_day 52 = .ok (.goto 4, 3) := by decide +kernel
theorem dX9_day_55 : decode cX9_day 55 = .ok (.iconst 1, 1) := by decide +kernel
theorem dX9_day_56 : decode cX9_day 56 = .ok (.istore_n 3, 1) := by decide +kernel
theorem dX9_day_57 : decode cX9_day 57 = .ok (.aload_n 0, 1) := by decide +kernel
theorem dX9_day_58 : decode cX9_day 58 = .ok (.getfield 16, 3) := by decide +kernel
theorem dX9_day_61 : decode cX9_day 61 = .ok (.iload_n 2, 1) := by decide +kernel
theorem dX9_day_62 : decode cX9_day 62 = .ok (.iaload, 1) := by decide +kernel
theorem dX9_day_63 : decode cX9_day 63 = .ok (.iconst 2, 1) := by decide +kernel
theorem dX9_day_64 : decode cX9_day 64 = .ok (.if_icmp .ne 28, 3) := by decide +kernel
theorem dX9_day_67 : decode cX9_day 67 = .ok (.aload_n 0, 1) := by decide +kernel
theorem dX9_day_68 : decode cX9_day 68 = .ok (.getfield 100, 3) := by decide +kernel
theorem dX9_day_71 : decode cX9_day 71 = .ok (.aload_n 0, 1) := by decide +kernel
theorem dX9_day_72 : decode cX9_day 72 = .ok (.getfield 28, 3) := by decide +kernel
theorem dX9_day_75 : decode cX9_day 75 = .ok (.iload_n 2, 1) := by decide +kernel
theorem dX9_day_76 : decode cX9_day 76 = .ok (.iaload, 1) := by decide +kernel
theorem dX9_day_77 : decode cX9_day 77 = .ok (.isub, 1) := by decide +kernel
theorem dX9_day_78 : decode cX9_day 78 = .ok (.iload_n 3, 1) := by decide +kernel
theorem dX9_day_79 : decode cX9_day 79 = .ok (.if_icmp .lt 13, 3) := by decide +kernel
theorem dX9_day_82 : decode cX9_day 82 = .ok (.aload_n 0, 1) := by decide +kernel
theorem dX9_day_83 : decode cX9_day 83 = .ok (.getfield 16, 3) := by decide +kernel
theorem dX9_day_86 : decode cX9_day 86 = .ok (.iload_n 2, 1) := by decide +kernel
theorem dX9_day_87 : decode cX9_day 87 = .ok (.iconst 4, 1) := by decide +kernel
theorem dX9_day_88 : decode cX9_day 88 = .ok (.iastore, 1) := by decide +kernel
theorem dX9_day_89 : decode cX9_day 89 = .ok (.iinc 1 1, 3) := by decide +kernel
theorem dX9_day_92 : decode cX9_day 92 = .ok (.iinc 2 1, 3) := by decide +kernel
theorem dX9_day_95 : decode cX9_day 95 = .ok (.goto (-78), 3) := by decide +kernel
theorem dX9_day_98 : decode cX9_day 98 = .ok (.aload_n 0, 1) := by decide +kernel
theorem dX9_day_99 : decode cX9_day 99 = .ok (.dup, 1) := by decide +kernel
theorem dX9_day_100 : decode cX9_day 100 = .ok (.getfield 100, 3) := by decide +kernel
theorem dX9_day_103 : decode cX9_day 103 = .ok (.iconst 1, 1) := by decide +kernel
theorem dX9_day_104 : decode cX9_day 104 = .ok (.iadd, 1) := by decide +kernel
theorem dX9_day_105 : decode cX9_day 105 = .ok (.putfield 100, 3) := by decide +kernel
theorem dX9_day_108 : decode cX9_day 108 = .ok (.iload_n 1, 1) := by decide +kernel
theorem dX9_day_109 : decode cX9_day 109 = .ok (.ireturn, 1) := by decide +kernel
theorem dX9_told_0 : decode cX9_told 0 = .ok (.aload_n 0, 1) := by decide +kernel
theorem dX9_told_1 : decode cX9_told 1 = .ok (.iload_n 1, 1) := by decide +kernel
theorem dX9_told_2 : decode cX9_told 2 = .ok (.invokevirtual 86, 3) := by decide +kernel
theorem dX9_told_5 : decode cX9_told 5 = .ok (.ifCond .eq 13, 3) := by decide +kernel
theorem dX9_told_8 : decode cX9_told 8 = .ok (.iload_n 2, 1) := by decide +kernel
theorem dX9_told_9 : decode cX9_told 9 = .ok (.iconst 0, 1) := by decide +kernel
theorem dX9_told_10 : decode cX9_told 10 = .ok (.bipush 7, 2) := by decide +kernel
theorem dX9_told_12 : decode cX9_told 12 = .ok (.invokestatic 44, 3) := by decide +kernel
theorem dX9_told_15 : decode cX9_told 15 = .ok (.ifCond .ne 6, 3) := by decide +kernel
theorem dX9_told_18 : decode cX9_told 18 = .ok (.bipush (-2), 2) := by decide +kernel
theorem dX9_told_20 : decode cX9_told 20 = .ok (.ireturn, 1) := by decide +kernel
theorem dX9_told_21 : decode cX9_told 21 = .ok (.iload_n 2, 1) := by decide +kernel
theorem dX9_told_22 : decode cX9_told 22 = .ok (.tableswitch 130 0 6 #[42, 49, 56, 63, 70, 91, 112], 42) := by decide +kernel
theorem dX9_told_64 : decode cX9_told 64 = .ok (.aload_n 0, 1) := by decide +kernel
theorem dX9_told_65 : decode cX9_told 65 = .ok (.getfield 7, 3) := by decide +kernel
theorem dX9_told_68 : decode cX9_told 68 = .ok (.iload_n 1, 1) := by decide +kernel
theorem dX9_told_69 : decode cX9_told 69 = .ok (.iaload, 1) := by decide +kernel
theorem dX9_told_70 : decode cX9_told 70 = .ok (.ireturn, 1) := by decide +kernel
theorem dX9_told_71 : decode cX9_told 71 = .ok (.aload_n 0, 1) := by decide +kernel
theorem dX9_told_72 : decode cX9_told 72 = .ok (.getfield 16, 3) := by decide +kernel
theorem dX9_told_75 : decode cX9_told 75 = .ok (.iload_n 1, 1) := by decide +kernel
theorem dX9_told_76 : decode cX9_told 76 = .ok (.iaload, 1) := by decide +kernel
theorem dX9_told_77 : decode cX9_told 77 = .ok (.ireturn, 1) := by decide +kernel
theorem dX9_told_78 : decode cX9_told 78 = .ok (.aload_n 0, 1) := by decide +kernel
theorem dX9_told_79 : decode cX9_told 79 = .ok (.getfield 19, 3) := by decide +kernel
theorem dX9_told_82 : decode cX9_told 82 = .ok (.iload_n 1, 1) := by decide +kernel
theorem dX9_told_83 : decode cX9_told 83 = .ok (.iaload, 1) := by decide +kernel
theorem dX9_told_84 : decode cX9_told 84 = .ok (.ireturn, 1) := by decide +kernel
theorem dX9_told_85 : decode cX9_told 85 = .ok (.aload_n 0, 1) := by decide +kernel
theorem dX9_told_86 : decode cX9_told 86 = .ok (.getfield 22, 3) := by decide +kernel
theorem dX9_told_89 : decode cX9_told 89 = .ok (.iload_n 1, 1) := by decide +kernel
theorem dX9_told_90 : decode cX9_told 90 = .ok (.iaload, 1) := by decide +kernel
theorem dX9_told_91 : decode cX9_told 91 = .ok (.ireturn, 1) := by decide +kernel
theorem dX9_told_92 : decode cX9_told 92 = .ok (.aload_n 0, 1) := by decide +kernel
theorem dX9_told_93 : decode cX9_told 93 = .ok (.getfield 16, 3) := by decide +kernel
theorem dX9_told_96 : decode cX9_told 96 = .ok (.iload_n 1, 1) := by decide +kernel
theorem dX9_told_97 : decode cX9_told 97 = .ok (.iaload, 1) := by decide +kernel
theorem dX9_told_98 : decode cX9_told 98 = .ok (.iconst 1, 1) := by decide +kernel
theorem dX9_told_99 : decode cX9_told 99 = .ok (.if_icmp .ne 12, 3) := by decide +kernel
theorem dX9_told_102 : decode cX9_told 102 = .ok (.aload_n 0, 1) := by decide +kernel
theorem dX9_told_103 : decode cX9_told 103 = .ok (.getfield 25, 3) := by decide +kernel
theorem dX9_told_106 : decode cX9_told 106 = .ok (.iload_n 1, 1) := by decide +kernel
theorem dX9_told_107 : decode cX9_told 107 = .ok (.iaload, 1) := by decide +kernel
theorem dX9_told_108 : decode cX9_told 108 = .ok (.goto 4, 3) := by decide +kernel
theorem dX9_told_111 : decode cX9_told 111 = .ok (.iconst (-1), 1) := by decide +kernel
theorem dX9_told_112 : decode cX9_told 112 = .ok (.ireturn, 1) := by decide +kernel
theorem dX9_told_113 : decode cX9_told 113 = .ok (.aload_n 0, 1) := by decide +kernel
theorem dX9_told_114 : decode cX9_told 114 = .ok (.getfield 16, 3) := by decide +kernel
theorem dX9_told_117 : decode cX9_told 117 = .ok (.iload_n 1, 1) := by decide +kernel
theorem dX9_told_118 : decode cX9_told 118 = .ok (.iaload, 1) := by decide +kernel
theorem dX9_told_119 : decode cX9_told 119 = .ok (.iconst 2, 1) := by decide +kernel
theorem dX9_told_120 : decode cX9_told 120 = .ok (.if_icmp .ne 12, 3) := by decide +kernel
theorem dX9_told_123 : decode cX9_told 123 = .ok (.aload_n 0, 1) := by decide +kernel
theorem dX9_told_124 : decode cX9_told 124 = .ok (.getfield 28, 3) := by decide +kernel
theorem dX9_told_127 : decode cX9_told 127 = .ok (.iload_n 1, 1) := by decide +kernel
theorem dX9_told_128 : decode cX9_told 128 = .ok (.iaload, 1) := by decide +kernel
theorem dX9_told_129 : decode cX9_told 129 = .ok (.goto 4, 3) := by decide +kernel
theorem dX9_told_132 : decode cX9_told 132 = .ok (.iconst (-1), 1) := by decide +kernel
theorem dX9_told_133 : decode cX9_told 133 = .ok (.ireturn, 1) := by decide +kernel
theorem dX9_told_134 : decode cX9_told 134 = .ok (.aload_n 0, 1) := by decide +kernel
theorem dX9_told_135 : decode cX9_told 135 = .ok (.getfield 7, 3) := by decide +kernel
theorem dX9_told_138 : decode cX9_told 138 = .ok (.iload_n 1, 1) := by decide +kernel
theorem dX9_told_139 : decode cX9_told 139 = .ok (.iaload, 1) := by decide +kernel
theorem dX9_told_140 : decode cX9_told 140 = .ok (.invokestatic 73, 3) := by decide +kernel
theorem dX9_told_143 : decode cX9_told 143 = .ok (.ifCond .eq 7, 3) := by decide +kernel
theorem dX9_told_146 : decode cX9_told 146 = .ok (.iconst 1, 1) := by decide +kernel
theorem dX9_told_147 : decode cX9_told 147 = .ok (.goto 4, 3) := by decide +kernel
theorem dX9_told_150 : decode cX9_told 150 = .ok (.iconst 0, 1) := by decide +kernel
theorem dX9_told_151 : decode cX9_told 151 = .ok (.ireturn, 1) := by decide +kernel
theorem dX9_told_152 : decode cX9_told 152 = .ok (.aload_n 0, 1) := by decide +kernel
theorem dX9_told_153 : decode cX9_told 153 = .ok (.getfield 7, 3) := by decide +kernel
theorem dX9_told_156 : decode cX9_told 156 = .ok (.iload_n 1, 1) := by decide +kernel
theorem dX9_told_157 : decode cX9_told 157 = .ok (.iaload, 1) := by decide +kernel
theorem dX9_told_158 : decode cX9_told 158 = .ok (.invokestatic 80, 3) := by decide +kernel
theorem dX9_told_161 : decode cX9_told 161 = .ok (.ifCond .eq 7, 3) := by decide +kernel
theorem dX9_told_164 : decode cX9_told 164 = .ok (.iconst 1, 1) := by decide +kernel
theorem dX9_told_165 : decode cX9_told 165 = .ok (.goto 4, 3) := by decide +kernel
theorem dX9_told_168 : decode cX9_told 168 = .ok (.iconst 0, 1) := by decide +kernel
theorem dX9_told_169 : decode cX9_told 169 = .ok (.ireturn, 1) := by decide +kernel
theorem dX9_count_0 : decode cX9_count 0 = .ok (.iload_n 1, 1) := by decide +kernel
theorem dX9_count_1 : decode cX9_count 1 = .ok (.iconst 0, 1) := by decide +kernel
theorem dX9_count_2 : decode cX9_count 2 = .ok (.bipush 7, 2) := by decide +kernel
theorem dX9_count_4 : decode cX9_count 4 = .ok (.invokestatic 44, 3) := by decide +kernel
theorem dX9_count_7 : decode cX9_count 7 = .ok (.ifCond .ne 6, 3) := by decide +kernel
theorem dX9_count_10 : decode cX9_count 10 = .ok (.bipush (-2), 2) := by decide +kernel
theorem dX9_count_12 : decode cX9_count 12 = .ok (.ireturn, 1) := by decide +kernel
theorem dX9_count_13 : decode cX9_count 13 = .ok (.iconst 0, 1) := by decide +kernel
theorem dX9_count_14 : decode cX9_count 14 = .ok (.istore_n 2, 1) := by decide +kernel
theorem dX9_count_15 : decode cX9_count 15 = .ok (.iconst 0, 1) := by decide +kernel
theorem dX9_count_16 : decode cX9_count 16 = .ok (.istore_n 3, 1) := by decide +kernel
theorem dX9_count_17 : decode cX9_count 17 = .ok (.iload_n 3, 1) := by decide +kernel
theorem dX9_count_18 : decode cX9_count 18 = .ok (.aload_n 0, 1) := by decide +kernel
theorem dX9_count_19 : decode cX9_count 19 = .ok (.getfield 41, 3) := by decide +kernel
theorem dX9_count_22 : decode cX9_count 22 = .ok (.if_icmp .ge 29, 3) := by decide +kernel
theorem dX9_count_25 : decode cX9_count 25 = .ok (.iload_n 2, 1) := by decide +kernel
theorem dX9_count_26 : decode cX9_count 26 = .ok (.aload_n 0, 1) := by decide +kernel
theorem dX9_count_27 : decode cX9_count 27 = .ok (.getfield 16, 3) := by decide +kernel
theorem dX9_count_30 : decode cX9_count 30 = .ok (.iload_n 3, 1) := by decide +kernel
theorem dX9_count_31 : decode cX9_count 31 = .ok (.iaload, 1) := by decide +kernel
theorem dX9_count_32 : decode cX9_count 32 = .ok (.iload_n 1, 1) := by decide +kernel
theorem dX9_count_33 : decode cX9_count 33 = .ok (.iconst 1, 1) := by decide +kernel
theorem dX9_count_34 : decode cX9_count 34 = .ok (.isub, 1) := by decide +kernel
theorem dX9_count_35 : decode cX9_count 35 = .ok (.if_icmp .ne 7, 3) := by decide +kernel
theorem dX9_count_38 : decode cX9_count 38 = .ok (.iconst 1, 1) := by decide +kernel
theorem dX9_count_39 : decode cX9_count 39 = .ok (.goto 4, 3) := by decide +kernel
theorem dX9_count_42 : decode cX9_count 42 = .ok (.iconst 0, 1) := by decide +kernel
theorem dX9_count_43 : decode cX9_count 43 = .ok (.iadd, 1) := by decide +kernel
theorem dX9_count_44 : decode cX9_count 44 = .ok (.istore_n 2, 1) := by decide +kernel
theorem dX9_count_45 : decode cX9_count 45 = .ok (.iinc 3 1, 3) := by decide +kernel
theorem dX9_count_48 : decode cX9_count 48 = .ok (.goto (-31), 3) := by decide +kernel
theorem dX9_count_51 : decode cX9_count 51 = .ok (.iload_n 1, 1) := by decide +kernel
theorem dX9_count_52 : decode cX9_count 52 = .ok (.ifCond .ne 10, 3) := by decide +kernel
theorem dX9_count_55 : decode cX9_count 55 = .ok (.aload_n 0, 1) := by decide +kernel
theorem dX9_count_56 : decode cX9_count 56 = .ok (.getfield 41, 3) := by decide +kernel
theorem dX9_count_59 : decode cX9_count 59 = .ok (.goto 30, 3) := by decide +kernel
theorem dX9_count_62 : decode cX9_count 62 = .ok (.iload_n 1, 1) := by decide +kernel
theorem dX9_count_63 : decode cX9_count 63 = .ok (.bipush 6, 2) := by decide +kernel
theorem dX9_count_65 : decode cX9_count 65 = .ok (.if_icmp .ne 10, 3) := by decide +kernel
theorem dX9_count_68 : decode cX9_count 68 = .ok (.aload_n 0, 1) := by decide +kernel
theorem dX9_count_69 : decode cX9_count 69 = .ok (.getfield 100, 3) := by decide +kernel
theorem dX9_count_72 : decode cX9_count 72 = .ok (.goto 17, 3) := by decide +kernel
theorem dX9_count_75 : decode cX9_count 75 = .ok (.iload_n 1, 1) := by decide +kernel
theorem dX9_count_76 : decode cX9_count 76 = .ok (.bipush 7, 2) := by decide +kernel
theorem dX9_count_78 : decode cX9_count 78 = .ok (.if_icmp .ne 10, 3) := by decide +kernel
theorem dX9_count_81 : decode cX9_count 81 = .ok (.aload_n 0, 1) := by decide +kernel
theorem dX9_count_82 : decode cX9_count 82 = .ok (.getfield 103, 3) := by decide +kernel
theorem dX9_count_85 : decode cX9_count 85 = .ok (.goto 4, 3) := by decide +kernel
theorem dX9_count_88 : decode cX9_count 88 = .ok (.iload_n 2, 1) := by decide +kernel
theorem dX9_count_89 : decode cX9_count 89 = .ok (.ireturn, 1) := by decide +kernel
end
section
theorem dL_law_0 : decode cL_law 0 = .ok (.new 7, 3) := by decide +kernel
theorem dL_law_3 : decode cL_law 3 = .ok (.dup, 1) := by decide +kernel
theorem dL_law_4 : decode cL_law 4 = .ok (.invokespecial 9, 3) := by decide +kernel
theorem dL_law_7 : decode cL_law 7 = .ok (.astore_n 1, 1) := by decide +kernel
theorem dL_law_8 : decode cL_law 8 = .ok (.new 10, 3) := by decide +kernel
theorem dL_law_11 : decode cL_law 11 = .ok (.dup, 1) := by decide +kernel
theorem dL_law_12 : decode cL_law 12 = .ok (.invokespecial 12, 3) := by decide +kernel
theorem dL_law_15 : decode cL_law 15 = .ok (.astore_n 2, 1) := by decide +kernel
theorem dL_law_16 : decode cL_law 16 = .ok (.iconst 0, 1) := by decide +kernel
theorem dL_law_17 : decode cL_law 17 = .ok (.istore_n 3, 1) := by decide +kernel
theorem dL_law_18 : decode cL_law 18 = .ok (.iload_n 3, 1) := by decide +kernel
theorem dL_law_19 : decode cL_law 19 = .ok (.aload_n 0, 1) := by decide +kernel
theorem dL_law_20 : decode cL_law 20 = .ok (.arraylength, 1) := by decide +kernel
theorem dL_law_21 : decode cL_law 21 = .ok (.iconst 4, 1) := by decide +kernel
theorem dL_law_22 : decode cL_law 22 = .ok (.isub, 1) := by decide +kernel
theorem dL_law_23 : decode cL_law 23 = .ok (.if_icmp .gt 405, 3) := by decide +kernel
theorem dL_law_26 : decode cL_law 26 = .ok (.aload_n 0, 1) := by decide +kernel
theorem dL_law_27 : decode cL_law 27 = .ok (.iload_n 3, 1) := by decide +kernel
theorem dL_law_28 : decode cL_law 28 = .ok (.iaload, 1) := by decide +kernel
theorem dL_law_29 : decode cL_law 29 = .ok (.bipush 15, 2) := by decide +kernel
theorem dL_law_31 : decode cL_law 31 = .ok (.iand, 1) := by decide +kernel
theorem dL_law_32 : decode cL_law 32 = .ok (.tableswitch 390 0 11 #[64, 97, 140, 163, 186, 219, 242, 275, 298, 321, 334, 367], 64) := by decide +kernel
theorem dL_law_96 : decode cL_law 96 = .ok (.aload_n 1, 1) := by decide +kernel
theorem dL_law_97 : decode cL_law 97 = .ok (.aload_n 0, 1) := by decide +kernel
theorem dL_law_98 : decode cL_law 98 = .ok (.iload_n 3, 1) := by decide +kernel
theorem dL_law_99 : decode cL_law 99 = .ok (.iconst 1, 1) := by decide +kernel
theorem dL_law_100 : decode cL_law 100 = .ok (.iadd, 1) := by decide +kernel
theorem dL_law_101 : decode cL_law 101 = .ok (.iaload, 1) := by decide +kernel
theorem dL_law_102 : decode cL_law 102 = .ok (.aload_n 0, 1) := by decide +kernel
theorem dL_law_103 : decode cL_law 103 = .ok (.iload_n 3, 1) := by decide +kernel
theorem dL_law_104 : decode cL_law 104 = .ok (.iconst 2, 1) := by decide +kernel
theorem dL_law_105 : decode cL_law 105 = .ok (.iadd, 1) := by decide +kernel
theorem dL_law_106 : decode cL_law 106 = .ok (.iaload, 1) := by decide +kernel
theorem dL_law_107 : decode cL_law 107 = .ok (.invokevirtual 13, 3) := by decide +kernel
theorem dL_law_110 : decode cL_law 110 = .ok (.aload_n 2, 1) := by decide +kernel
theorem dL_law_111 : decode cL_law 111 = .ok (.aload_n 0, 1) := by decide +kernel
theorem dL_law_112 : decode cL_law 112 = .ok (.iload_n 3, 1) := by decide +kernel
theorem dL_law_113 : decode cL_law 113 = .ok (.iconst 1, 1) := by decide +kernel
theorem dL_law_114 : decode cL_law 114 = .ok (.iadd, 1) := by decide +kernel
theorem dL_law_115 : decode cL_law 115 = .ok (.iaload, 1) := by decide +kernel
theorem dL_law_116 : decode cL_law 116 = .ok (.aload_n 0, 1) := by decide +kernel
theorem dL_law_117 : decode cL_law 117 = .ok (.iload_n 3, 1) := by decide +kernel
theorem dL_law_118 : decode cL_law 118 = .ok (.iconst 2, 1) := by decide +kernel
theorem dL_law_119 : decode cL_law 119 = .ok (.iadd, 1) := by decide +kernel
theorem dL_law_120 : decode cL_law 120 = .ok (.iaload, 1) := by decide +kernel
theorem dL_law_121 : decode cL_law 121 = .ok (.invokevirtual 17, 3) := by decide +kernel
theorem dL_law_124 : decode cL_law 124 = .ok (.if_icmp .eq 298, 3) := by decide +kernel
theorem dL_law_127 : decode cL_law 127 = .ok (.iconst 0, 1) := by decide +kernel
theorem dL_law_128 : decode cL_law 128 = .ok (.ireturn, 1) := by decide +kernel
theorem dL_law_129 : decode cL_law 129 = .ok (.aload_n 1, 1) := by decide +kernel
theorem dL_law_130 : decode cL_law 130 = .ok (.aload_n 0, 1) := by decide +kernel
theorem dL_law_131 : decode cL_law 131 = .ok (.iload_n 3, 1) := by decide +kernel
theorem dL_law_132 : decode cL_law 132 = .ok (.iconst 1, 1) := by decide +kernel
theorem dL_law_133 : decode cL_law 133 = .ok (.iadd, 1) := by decide +kernel
theorem dL_law_134 : decode cL_law 134 = .ok (.iaload, 1) := by decide +kernel
theorem dL_law_135 : decode cL_law 135 = .ok (.aload_n 0, 1) := by decide +kernel
theorem dL_law_136 : decode cL_law 136 = .ok (.iload_n 3, 1) := by decide +kernel
theorem dL_law_137 : decode cL_law 137 = .ok (.iconst 2, 1) := by decide +kernel
theorem dL_law_138 : decode cL_law 138 = .ok (.iadd, 1) := by decide +kernel
theorem dL_law_139 : decode cL_law 139 = .ok (.iaload, 1) := by decide +kernel
theorem dL_law_140 : decode cL_law 140 = .ok (.aload_n 0, 1) := by decide +kernel
theorem dL_law_141 : decode cL_law 141 = .ok (.iload_n 3, 1) := by decide +kernel
theorem dL_law_142 : decode cL_law 142 = .ok (.iconst 3, 1) := by decide +kernel
theorem dL_law_143 : decode cL_law 143 = .ok (.iadd, 1) := by decide +kernel
theorem dL_law_144 : decode cL_law 144 = .ok (.iaload, 1) := by decide +kernel
theorem dL_law_145 : decode cL_law 145 = .ok (.invokevirtual 18, 3) := by decide +kernel
theorem dL_law_148 : decode cL_law 148 = .ok (.aload_n 2, 1) := by decide +kernel
theorem dL_law_149 : decode cL_law 149 = .ok (.aload_n 0, 1) := by decide +kernel
theorem dL_law_150 : decode cL_law 150 = .ok (.iload_n 3, 1) := by decide +kernel
theorem dL_law_151 : decode cL_law 151 = .ok (.iconst 1, 1) := by decide +kernel
theorem dL_law_152 : decode cL_law 152 = .ok (.iadd, 1) := by decide +kernel
theorem dL_law_153 : decode cL_law 153 = .ok (.iaload, 1) := by decide +kernel
theorem dL_law_154 : decode cL_law 154 = .ok (.aload_n 0, 1) := by decide +kernel
theorem dL_law_155 : decode cL_law 155 = .ok (.iload_n 3, 1) := by decide +kernel
theorem dL_law_156 : decode cL_law 156 = .ok (.iconst 2, 1) := by decide +kernel
theorem dL_law_157 : decode cL_law 157 = .ok (.iadd, 1) := by decide +kernel
theorem dL_law_158 : decode cL_law 158 = .ok (.iaload, 1) := by decide +kernel
theorem dL_law_159 : decode cL_law 159 = .ok (.aload_n 0, 1) := by decide +kernel
theorem dL_law_160 : decode cL_law 160 = .ok (.iload_n 3, 1) := by decide +kernel
theorem dL_law_161 : decode cL_law 161 = .ok (.iconst 3, 1) := by decide +kernel
theorem dL_law_162 : decode cL_law 162 = .ok (.iadd, 1) := by decide +kernel
theorem dL_law_163 : decode cL_law 163 = .ok (.iaload, 1) := by decide +kernel
theorem dL_law_164 : decode cL_law 164 = .ok (.invokevirtual 22, 3) := by decide +kernel
theorem dL_law_167 : decode cL_law 167 = .ok (.if_icmp .eq 255, 3) := by decide +kernel
theorem dL_law_170 : decode cL_law 170 = .ok (.iconst 0, 1) := by decide +kernel
theorem dL_law_171 : decode cL_law 171 = .ok (.ireturn, 1) := by decide +kernel
theorem dL_law_172 : decode cL_law 172 = .ok (.aload_n 1, 1) := by decide +kernel
theorem dL_law_173 : decode cL_law 173 = .ok (.aload_n 0, 1) := by decide +kernel
theorem dL_law_174 : decode cL_law 174 = .ok (.iload_n 3, 1) := by decide +kernel
theorem dL_law_175 : decode cL_law 175 = .ok (.iconst 1, 1) := by decide +kernel
theorem dL_law_176 : decode cL_law 176 = .ok (.iadd, 1) := by decide +kernel
theorem dL_law_177 : decode cL_law 177 = .ok (.iaload, 1) := by decide +kernel
theorem dL_law_178 : decode cL_law 178 = .ok (.invokevirtual 23, 3) := by decide +kernel
theorem dL_law_181 : decode cL_law 181 = .ok (.aload_n 2, 1) := by decide +kernel
theorem dL_law_182 : decode cL_law 182 = .ok (.aload_n 0, 1) := by decide +kernel
theorem dL_law_183 : decode cL_law 183 = .ok (.iload_n 3, 1) := by decide +kernel
theorem dL_law_184 : decode cL_law 184 = .ok (.iconst 1, 1) := by decide +kernel
theorem dL_law_185 : decode cL_law 185 = .ok (.iadd, 1) := by decide +kernel
theorem dL_law_186 : decode cL_law 186 = .ok (.iaload, 1) := by decide +kernel
theorem dL_law_187 : decode cL_law 187 = .ok (.invokevirtual 27, 3) := by decide +kernel
theorem dL_law_190 : decode cL_law 190 = .ok (.if_icmp .eq 232, 3) := by decide +kernel
theorem dL_law_193 : decode cL_law 193 = .ok (.iconst 0, 1) := by decide +kernel
theorem dL_law_194 : decode cL_law 194 = .ok (.ireturn, 1) := by decide +kernel
theorem dL_law_195 : decode cL_law 195 = .ok (.aload_n 1, 1) := by decide +kernel
theorem dL_law_196 : decode cL_law 196 = .ok (.aload_n 0, 1) := by decide +kernel
theorem dL_law_197 : decode cL_law 197 = .ok (.iload_n 3, 1) := by decide +kernel
theorem dL_law_198 : decode cL_law 198 = .ok (.iconst 1, 1) := by decide +kernel
theorem dL_law_199 : decode cL_law 199 = .ok (.iadd, 1) := by decide +kernel
theorem dL_law_200 : decode cL_law 200 = .ok (.iaload, 1) := by decide +kernel
theorem dL_law_201 : decode cL_law 201 = .ok (.invokevirtual 28, 3) := by decide +kernel
theorem dL_law_204 : decode cL_law 204 = .ok (.aload_n 2, 1) := by decide +kernel
theorem dL_law_205 : decode cL_law 205 = .ok (.aload_n 0, 1) := by decide +kernel
theorem dL_law_206 : decode cL_law 206 = .ok (.iload_n 3, 1) := by decide +kernel
theorem dL_law_207 : decode cL_law 207 = .ok (.iconst 1, 1) := by decide +kernel
theorem dL_law_208 : decode cL_law 208 = .ok (.iadd, 1) := by decide +kernel
theorem dL_law_209 : decode cL_law 209 = .ok (.iaload, 1) := by decide +kernel
theorem dL_law_210 : decode cL_law 210 = .ok (.invokevirtual 31, 3) := by decide +kernel
theorem dL_law_213 : decode cL_law 213 = .ok (.if_icmp .eq 209, 3) := by decide +kernel
theorem dL_law_216 : decode cL_law 216 = .ok (.iconst 0, 1) := by decide +kernel
theorem dL_law_217 : decode cL_law 217 = .ok (.ireturn, 1) := by decide +kernel
theorem dL_law_218 : decode cL_law 218 = .ok (.aload_n 1, 1) := by decide +kernel
theorem dL_law_219 : decode cL_law 219 = .ok (.aload_n 0, 1) := by decide +kernel
theorem dL_law_220 : decode cL_law 220 = .ok (.iload_n 3, 1) := by decide +kernel
theorem dL_law_221 : decode cL_law 221 = .ok (.iconst 1, 1) := by decide +kernel
theorem dL_law_222 : decode cL_law 222 = .ok (.iadd, 1) := by decide +kernel
theorem dL_law_223 : decode cL_law 223 = .ok (.iaload, 1) := by decide +kernel
theorem dL_law_224 : decode cL_law 224 = .ok (.aload_n 0, 1) := by decide +kernel
theorem dL_law_225 : decode cL_law 225 = .ok (.iload_n 3, 1) := by decide +kernel
theorem dL_law_226 : decode cL_law 226 = .ok (.iconst 2, 1) := by decide +kernel
theorem dL_law_227 : decode cL_law 227 = .ok (.iadd, 1) := by decide +kernel
theorem dL_law_228 : decode cL_law 228 = .ok (.iaload, 1) := by decide +kernel
theorem dL_law_229 : decode cL_law 229 = .ok (.invokevirtual 32, 3) := by decide +kernel
theorem dL_law_232 : decode cL_law 232 = .ok (.aload_n 2, 1) := by decide +kernel
theorem dL_law_233 : decode cL_law 233 = .ok (.aload_n 0, 1) := by decide +kernel
theorem dL_law_234 : decode cL_law 234 = .ok (.iload_n 3, 1) := by decide +kernel
theorem dL_law_235 : decode cL_law 235 = .ok (.iconst 1, 1) := by decide +kernel
theorem dL_law_236 : decode cL_law 236 = .ok (.iadd, 1) := by decide +kernel
theorem dL_law_237 : decode cL_law 237 = .ok (.iaload, 1) := by decide +kernel
theorem dL_law_238 : decode cL_law 238 = .ok (.aload_n 0, 1) := by decide +kernel
theorem dL_law_239 : decode cL_law 239 = .ok (.iload_n 3, 1) := by decide +kernel
theorem dL_law_240 : decode cL_law 240 = .ok (.iconst 2, 1) := by decide +kernel
theorem dL_law_241 : decode cL_law 241 = .ok (.iadd, 1) := by decide +kernel
theorem dL_law_242 : decode cL_law 242 = .ok (.iaload, 1) := by decide +kernel
theorem dL_law_243 : decode cL_law 243 = .ok (.invokevirtual 35, 3) := by decide +kernel
theorem dL_law_246 : decode cL_law 246 = .ok (.if_icmp .eq 176, 3) := by decide +kernel
theorem dL_law_249 : decode cL_law 249 = .ok (.iconst 0, 1) := by decide +kernel
theorem dL_law_250 : decode cL_law 250 = .ok (.ireturn, 1) := by decide +kernel
theorem dL_law_251 : decode cL_law 251 = .ok (.aload_n 1, 1) := by decide +kernel
theorem dL_law_252 : decode cL_law 252 = .ok (.aload_n 0, 1) := by decide +kernel
theorem dL_law_253 : decode cL_law 253 = .ok (.iload_n 3, 1) := by decide +kernel
theorem dL_law_254 : decode cL_law 254 = .ok (.iconst 1, 1) := by decide +kernel
theorem dL_law_255 : decode cL_law 255 = .ok (.iadd, 1) := by decide +kernel
theorem dL_law_256 : decode cL_law 256 = .ok (.iaload, 1) := by decide +kernel
theorem dL_law_257 : decode cL_law 257 = .ok (.invokevirtual 36, 3) := by decide +kernel
theorem dL_law_260 : decode cL_law 260 = .ok (.aload_n 2, 1) := by decide +kernel
theorem dL_law_261 : decode cL_law 261 = .ok (.aload_n 0, 1) := by decide +kernel
theorem dL_law_262 : decode cL_law 262 = .ok (.iload_n 3, 1) := by decide +kernel
theorem dL_law_263 : decode cL_law 263 = .ok (.iconst 1, 1) := by decide +kernel
theorem dL_law_264 : decode cL_law 264 = .ok (.iadd, 1) := by decide +kernel
theorem dL_law_265 : decode cL_law 265 = .ok (.iaload, 1) := by decide +kernel
theorem dL_law_266 : decode cL_law 266 = .ok (.invokevirtual 39, 3) := by decide +kernel
theorem dL_law_269 : decode cL_law 269 = .ok (.if_icmp .eq 153, 3) := by decide +kernel
theorem dL_law_272 : decode cL_law 272 = .ok (.iconst 0, 1) := by decide +kernel
theorem dL_law_273 : decode cL_law 273 = .ok (.ireturn, 1) := by decide +kernel
theorem dL_law_274 : decode cL_law 274 = .ok (.aload_n 1, 1) := by decide +kernel
theorem dL_law_275 : decode cL_law 275 = .ok (.aload_n 0, 1) := by decide +kernel
theorem dL_law_276 : decode cL_law 276 = .ok (.iload_n 3, 1) := by decide +kernel
theorem dL_law_277 : decode cL_law 277 = .ok (.iconst 1, 1) := by decide +kernel
theorem dL_law_278 : decode cL_law 278 = .ok (.iadd, 1) := by decide +kernel
theorem dL_law_279 : decode cL_law 279 = .ok (.iaload, 1) := by decide +kernel
theorem dL_law_280 : decode cL_law 280 = .ok (.aload_n 0, 1) := by decide +kernel
theorem dL_law_281 : decode cL_law 281 = .ok (.iload_n 3, 1) := by decide +kernel
theorem dL_law_282 : decode cL_law 282 = .ok (.iconst 2, 1) := by decide +kernel
theorem dL_law_283 : decode cL_law 283 = .ok (.iadd, 1) := by decide +kernel
theorem dL_law_284 : decode cL_law 284 = .ok (.iaload, 1) := by decide +kernel
theorem dL_law_285 : decode cL_law 285 = .ok (.invokevirtual 40, 3) := by decide +kernel
theorem dL_law_288 : decode cL_law 288 = .ok (.aload_n 2, 1) := by decide +kernel
theorem dL_law_289 : decode cL_law 289 = .ok (.aload_n 0, 1) := by decide +kernel
theorem dL_law_290 : decode cL_law 290 = .ok (.iload_n 3, 1) := by decide +kernel
theorem dL_law_291 : decode cL_law 291 = .ok (.iconst 1, 1) := by decide +kernel
theorem dL_law_292 : decode cL_law 292 = .ok (.iadd, 1) := by decide +kernel
theorem dL_law_293 : decode cL_law 293 = .ok (.iaload, 1) := by decide +kernel
theorem dL_law_294 : decode cL_law 294 = .ok (.aload_n 0, 1) := by decide +kernel
theorem dL_law_295 : decode cL_law 295 = .ok (.iload_n 3, 1) := by decide +kernel
theorem dL_law_296 : decode cL_law 296 = .ok (.iconst 2, 1) := by decide +kernel
theorem dL_law_297 : decode cL_law 297 = .ok (.iadd, 1) := by decide +kernel
theorem dL_law_298 : decode cL_law 298 = .ok (.iaload, 1) := by decide +kernel
theorem dL_law_299 : decode cL_law 299 = .ok (.invokevirtual 43, 3) := by decide +kernel
theorem dL_law_302 : decode cL_law 302 = .ok (.if_icmp .eq 120, 3) := by decide +kernel
theorem dL_law_305 : decode cL_law 305 = .ok (.iconst 0, 1) := by decide +kernel
theorem dL_law_306 : decode cL_law 306 = .ok (.ireturn, 1) := by decide +kernel
theorem dL_law_307 : decode cL_law 307 = .ok (.aload_n 1, 1) := by decide +kernel
theorem dL_law_308 : decode cL_law 308 = .ok (.aload_n 0, 1) := by decide +kernel
theorem dL_law_309 : decode cL_law 309 = .ok (.iload_n 3, 1) := by decide +kernel
theorem dL_law_310 : decode cL_law 310 = .ok (.iconst 1, 1) := by decide +kernel
theorem dL_law_311 : decode cL_law 311 = .ok (.iadd, 1) := by decide +kernel
theorem dL_law_312 : decode cL_law 312 = .ok (.iaload, 1) := by decide +kernel
theorem dL_law_313 : decode cL_law 313 = .ok (.invokevirtual 44, 3) := by decide +kernel
theorem dL_law_316 : decode cL_law 316 = .ok (.aload_n 2, 1) := by decide +kernel
theorem dL_law_317 : decode cL_law 317 = .ok (.aload_n 0, 1) := by decide +kernel
theorem dL_law_318 : decode cL_law 318 = .ok (.iload_n 3, 1) := by decide +kernel
theorem dL_law_319 : decode cL_law 319 = .ok (.iconst 1, 1) := by decide +kernel
theorem dL_law_320 : decode cL_law 320 = .ok (.iadd, 1) := by decide +kernel
theorem dL_law_321 : decode cL_law 321 = .ok (.iaload, 1) := by decide +kernel
theorem dL_law_322 : decode cL_law 322 = .ok (.invokevirtual 47, 3) := by decide +kernel
theorem dL_law_325 : decode cL_law 325 = .ok (.if_icmp .eq 97, 3) := by decide +kernel
theorem dL_law_328 : decode cL_law 328 = .ok (.iconst 0, 1) := by decide +kernel
theorem dL_law_329 : decode cL_law 329 = .ok (.ireturn, 1) := by decide +kernel
theorem dL_law_330 : decode cL_law 330 = .ok (.aload_n 1, 1) := by decide +kernel
theorem dL_law_331 : decode cL_law 331 = .ok (.aload_n 0, 1) := by decide +kernel
theorem dL_law_332 : decode cL_law 332 = .ok (.iload_n 3, 1) := by decide +kernel
theorem dL_law_333 : decode cL_law 333 = .ok (.iconst 1, 1) := by decide +kernel
theorem dL_law_334 : decode cL_law 334 = .ok (.iadd, 1) := by decide +kernel
theorem dL_law_335 : decode cL_law 335 = .ok (.iaload, 1) := by decide +kernel
theorem dL_law_336 : decode cL_law 336 = .ok (.invokevirtual 48, 3) := by decide +kernel
theorem dL_law_339 : decode cL_law 339 = .ok (.aload_n 2, 1) := by decide +kernel
theorem dL_law_340 : decode cL_law 340 = .ok (.aload_n 0, 1) := by decide +kernel
theorem dL_law_341 : decode cL_law 341 = .ok (.iload_n 3, 1) := by decide +kernel
theorem dL_law_342 : decode cL_law 342 = .ok (.iconst 1, 1) := by decide +kernel
theorem dL_law_343 : decode cL_law 343 = .ok (.iadd, 1) := by decide +kernel
theorem dL_law_344 : decode cL_law 344 = .ok (.iaload, 1) := by decide +kernel
theorem dL_law_345 : decode cL_law 345 = .ok (.invokevirtual 51, 3) := by decide +kernel
theorem dL_law_348 : decode cL_law 348 = .ok (.if_icmp .eq 74, 3) := by decide +kernel
theorem dL_law_351 : decode cL_law 351 = .ok (.iconst 0, 1) := by decide +kernel
theorem dL_law_352 : decode cL_law 352 = .ok (.ireturn, 1) := by decide +kernel
theorem dL_law_353 : decode cL_law 353 = .ok (.aload_n 1, 1) := by decide +kernel
theorem dL_law_354 : decode cL_law 354 = .ok (.invokevirtual 52, 3) := by decide +kernel
theorem dL_law_357 : decode cL_law 357 = .ok (.aload_n 2, 1) := by decide +kernel
theorem dL_law_358 : decode cL_law 358 = .ok (.invokevirtual 56, 3) := by decide +kernel
theorem dL_law_361 : decode cL_law 361 = .ok (.if_icmp .eq 61, 3) := by decide +kernel
theorem dL_law_364 : decode cL_law 364 = .ok (.iconst 0, 1) := by decide +kernel
theorem dL_law_365 : decode cL_law 365 = .ok (.ireturn, 1) := by decide +kernel
theorem dL_law_366 : decode cL_law 366 = .ok (.aload_n 1, 1) := by decide +kernel
theorem dL_law_367 : decode cL_law 367 = .ok (.aload_n 0, 1) := by decide +kernel
theorem dL_law_368 : decode cL_law 368 = .ok (.iload_n 3, 1) := by decide +kernel
theorem dL_law_369 : decode cL_law 369 = .ok (.iconst 1, 1) := by decide +kernel
theorem dL_law_370 : decode cL_law 370 = .ok (.iadd, 1) := by decide +kernel
theorem dL_law_371 : decode cL_law 371 = .ok (.iaload, 1) := by decide +kernel
theorem dL_law_372 : decode cL_law 372 = .ok (.aload_n 0, 1) := by decide +kernel
theorem dL_law_373 : decode cL_law 373 = .ok (.iload_n 3, 1) := by decide +kernel
theorem dL_law_374 : decode cL_law 374 = .ok (.iconst 2, 1) := by decide +kernel
theorem dL_law_375 : decode cL_law 375 = .ok (.iadd, 1) := by decide +kernel
theorem dL_law_376 : decode cL_law 376 = .ok (.iaload, 1) := by decide +kernel
theorem dL_law_377 : decode cL_law 377 = .ok (.invokevirtual 57, 3) := by decide +kernel
theorem dL_law_380 : decode cL_law 380 = .ok (.aload_n 2, 1) := by decide +kernel
theorem dL_law_381 : decode cL_law 381 = .ok (.aload_n 0, 1) := by decide +kernel
theorem dL_law_382 : decode cL_law 382 = .ok (.iload_n 3, 1) := by decide +kernel
theorem dL_law_383 : decode cL_law 383 = .ok (.iconst 1, 1) := by decide +kernel
theorem dL_law_384 : decode cL_law 384 = .ok (.iadd, 1) := by decide +kernel
theorem dL_law_385 : decode cL_law 385 = .ok (.iaload, 1) := by decide +kernel
theorem dL_law_386 : decode cL_law 386 = .ok (.aload_n 0, 1) := by decide +kernel
theorem dL_law_387 : decode cL_law 387 = .ok (.iload_n 3, 1) := by decide +kernel
theorem dL_law_388 : decode cL_law 388 = .ok (.iconst 2, 1) := by decide +kernel
theorem dL_law_389 : decode cL_law 389 = .ok (.iadd, 1) := by decide +kernel
theorem dL_law_390 : decode cL_law 390 = .ok (.iaload, 1) := by decide +kernel
theorem dL_law_391 : decode cL_law 391 = .ok (.invokevirtual 60, 3) := by decide +kernel
theorem dL_law_394 : decode cL_law 394 = .ok (.if_icmp .eq 28, 3) := by decide +kernel
theorem dL_law_397 : decode cL_law 397 = .ok (.iconst 0, 1) := by decide +kernel
theorem dL_law_398 : decode cL_law 398 = .ok (.ireturn, 1) := by decide +kernel
theorem dL_law_399 : decode cL_law 399 = .ok (.aload_n 1, 1) := by decide +kernel
theorem dL_law_400 : decode cL_law 400 = .ok (.aload_n 0, 1) := by decide +kernel
theorem dL_law_401 : decode cL_law 401 = .ok (.iload_n 3, 1) := by decide +kernel
theorem dL_law_402 : decode cL_law 402 = .ok (.iconst 1, 1) := by decide +kernel
theorem dL_law_403 : decode cL_law 403 = .ok (.iadd, 1) := by decide +kernel
theorem dL_law_404 : decode cL_law 404 = .ok (.iaload, 1) := by decide +kernel
theorem dL_law_405 : decode cL_law 405 = .ok (.invokevirtual 61, 3) := by decide +kernel
theorem dL_law_408 : decode cL_law 408 = .ok (.aload_n 2, 1) := by decide +kernel
theorem dL_law_409 : decode cL_law 409 = .ok (.aload_n 0, 1) := by decide +kernel
theorem dL_law_410 : decode cL_law 410 = .ok (.iload_n 3, 1) := by decide +kernel
theorem dL_law_411 : decode cL_law 411 = .ok (.iconst 1, 1) := by decide +kernel
theorem dL_law_412 : decode cL_law 412 = .ok (.iadd, 1) := by decide +kernel
theorem dL_law_413 : decode cL_law 413 = .ok (.iaload, 1) := by decide +kernel
theorem dL_law_414 : decode cL_law 414 = .ok (.invokevirtual 64, 3) := by decide +kernel
theorem dL_law_417 : decode cL_law 417 = .ok (.if_icmp .eq 5, 3) := by decide +kernel
theorem dL_law_420 : decode cL_law 420 = .ok (.iconst 0, 1) := by decide +kernel
theorem dL_law_421 : decode cL_law 421 = .ok (.ireturn, 1) := by decide +kernel
theorem dL_law_422 : decode cL_law 422 = .ok (.iinc 3 4, 3) := by decide +kernel
theorem dL_law_425 : decode cL_law 425 = .ok (.goto (-407), 3) := by decide +kernel
theorem dL_law_428 : decode cL_law 428 = .ok (.iconst 1, 1) := by decide +kernel
theorem dL_law_429 : decode cL_law 429 = .ok (.ireturn, 1) := by decide +kernel
end
section
/-! the frame of all contracts: one world of cells, at places; all that is known lies from X.2.2.2 on -/
abbrev Cx : Type := va_G × ClassId × ClassId × Nat
def xA (X : Cx) : Nat → Prop := fun q => X.2.2.2 ≤ q
abbrev xT (X : Cx) : List (ClassId × FieldType) := [(X.2.1, .int), (X.2.2.1, .object RX2)]
theorem Nw_moved {C T : String} {u U : State} (h : u.vm.Alike U.vm) (hZ : va_Nw (.castable C T) u) : va_Nw (.castable C T) U := va_tabs rfl (rfl : (u.setVm U.vm).vm = U.vm) (by rw [Cond.castable_setVm h]; exact hZ)
/-- which kinds can be cast to which class, as the start's tables have it -/
def mKc (U : State) : Prop :=
  (∀ k, k < 7 → 0 < k → va_Nw (.castable (RD k) RX2) U) ∧ (∀ k, 2 ≤ k → k < 5 → va_Nw (.castable (RD k) RX4) U) ∧ (∀ k, 5 ≤ k → k < 7 → va_Nw (.castable (RD k) RX5) U) ∧ (∀ k, k < 2 → va_Nc (RD k) RX4 U) ∧ (∀ k, 5 ≤ k → k < 7 → va_Nc (RD k) RX4 U) ∧ (∀ k, k < 5 → va_Nc (RD k) RX5 U)
theorem mKc.moved {u U : State} (h : u.vm.Alike U.vm) (q : mKc u) : mKc U :=
  ⟨fun k a b => Nw_moved h (q.1 k a b), fun k a b => Nw_moved h (q.2.1 k a b), fun k a b => Nw_moved h (q.2.2.1 k a b), fun k a => (q.2.2.2.1 k a).moved h, fun k a b => (q.2.2.2.2.1 k a b).moved h, fun k a => (q.2.2.2.2.2 k a).moved h⟩
def mF (X : Cx) (U : State) : Prop := va_K X.1 classes (xT X) U ∧ va_AO RX2 U ∧ mKc U
theorem mF.moved {X : Cx} {u U : State} (h : u.vm.Alike U.vm) (q : mF X u) : mF X U := ⟨va_K.moved h q.1, q.2.1.moved h, q.2.2.moved h⟩
def mH (X : Cx) (ws : va_W) (H : Heap) : Prop := va_P X.1 classes ws H ∧ va_D (xA X) ws
def mIn (X : Cx) (ws : va_W) (U : State) : Prop := X.2.2.2 ≤ U.heap.size ∧ mH X ws U.heap ∧ mF X U
def mS (X : Cx) (s : State) (ws : va_W) (H : Heap) (locs : List Loc) : Prop := mH X ws H ∧ va_S (xA X) s.heap H locs
theorem mIn_blind {X : Cx} {ws : va_W} {av : List Value} : FrameBlind (va_Pc av (mIn X ws)) := fun a U g mk q => by
  obtain ⟨q0, q1, q2, q3⟩ := q
  exact ⟨q0, q1, q2, mF.moved (u := U) (U := U.calling g mk a) (Vm.Alike.refl U.vm) q3⟩
/-- contracts: an int (or a boolean), nothing, a reference or null; P: the answer and the world behind it -/
def cI (l : Launch) (y : MethodName) (b : ByteArray) (mL : Nat) (ret : Option FieldType) (rm : Room) (X : Cx) (av : List Value) (ws : va_W) (P : Int32 → va_W → Prop) : Prop :=
  Met l y (Cond.code y b mL ret :: G) rm (va_Pc av (mIn X ws)) (va_Qi P (fun w t => mH X w t.heap) (xA X)) rm.cells rm.slots (xA X)
def cV (l : Launch) (y : MethodName) (b : ByteArray) (mL : Nat) (rm : Room) (X : Cx) (av : List Value) (ws : va_W) (P : va_W → Prop) : Prop :=
  Met l y (Cond.code y b mL none :: G) rm (va_Pc av (mIn X ws)) (va_Qv P (fun w t => mH X w t.heap) (xA X)) rm.cells rm.slots (xA X)
def cQ (l : Launch) (y : MethodName) (b : ByteArray) (mL : Nat) (ret : Option FieldType) (rm : Room) (X : Cx) (av : List Value) (ws : va_W) (P : Option Nat → va_W → Prop) : Prop :=
  Met l y (Cond.code y b mL ret :: G) rm (va_Pc av (mIn X ws)) (va_Qq P (fun w t => mH X w t.heap) (xA X)) rm.cells rm.slots (xA X)
def Fx (p : Program) (s : State) (m : MethodId) (meth : Method) (c : Code) (y : MethodName) (b : ByteArray) (mL : Nat) (ret : Option FieldType) (av : List Value) (X : Cx) : Prop :=
  p.tables.exec = Jvm.exec ∧ c.code = b ∧ meth.sig.returnType = ret ∧ c.maxLocals = mL ∧ s.vm.findClass y.cls = some m.cls ∧ (∀ w ∈ G, w.before av.toArray s = true) ∧ meth.locks = false ∧ mF X s ∧ X.2.2.2 ≤ s.heap.size ∧ meth.name = y.name
theorem met_start {l : Launch} {y : MethodName} {b : ByteArray} {mL : Nat} {ret : Option FieldType} {rm : Room} {X : Cx} {av : List Value} {ws : va_W} {Qc : Array Value → State → Outcome → State → Prop} (hy : plainName y.cls = true) (hlen : (lg_sl av).length ≤ mL)
    (body : ∀ (p : Program) (e : Env) (s : State) (m : MethodId) (below : List Frame) (meth : Method) (c : Code) (ls : Array Slot), Fx p s m meth c y b mL ret av X → mS X s ws s.heap [] → lv_has ls mL (lv_args 0 av) →
      W p l e rm s m av.toArray below meth c s.heap [] 0 0 (MQ below Qc av.toArray s rm.cells rm.slots (xA X)) (F0 m 0 ls [])) :
    Met l y (Cond.code y b mL ret :: G) rm (va_Pc av (mIn X ws)) Qc rm.cells rm.slots (xA X) := by
  refine Met.ofW (cc := b) (maxL := mL) (ret := ret) hy rfl ?_
  intro p e s m args below meth c s₁ B hml hv
  obtain ⟨rfl, hz, hH, hF⟩ := hv
  have hts := atoms_spec (ws := Cond.code y b mL ret :: G) B.pre
  have hl := lv_entry av (n := mL) hlen
  rw [lg_entry_eq]
  exact body p e s m below meth c _ ⟨B.exec, B.bytes, B.returns, hml, findClass_of_methodNamed B.named, fun w h => hts w (List.mem_cons_of_mem _ h), B.notSynchronized, hF, hz, (name_of_methodNamed B.named B.method).1⟩ ⟨hH, va_S.rf⟩ hl
theorem G_pay {args : Array Value} {s : State} {y : MethodName} {b : ByteArray} {mL : Nat} {ret : Option FieldType} (hG : ∀ w ∈ G, w.before args s = true) (hc : Cond.code y b mL ret ∈ G) : ∀ w ∈ Cond.code y b mL ret :: G, ∀ (a' : Array Value) (U : State), s.WarmedH U.vm → w.before a' U = true :=
  pay_in hG (fun w h => by
    rcases List.mem_cons.mp h with e | e
    · rw [e]; exact ⟨hc, G_ok _ hc⟩
    · exact ⟨e, G_ok _ e⟩)
section MR
variable {p : Program} {l : Launch} {e : Env} {R : Room} {s : State} {m : MethodId} {args : Array Value} {below : List Frame} {meth : Method} {c : Code} {H : Heap} {locs : List Loc} {cells slots : Nat} {Q : State → Prop}
variable {cc bytes : ByteArray} {pc nL mL n index : Nat} {ls : Array Slot} {rest st As : List Value} {X : Cx} {a ci q0 : Nat} {fs : List Value} {ws : va_W} {y x : MethodName} {ret : Option FieldType} {rm : Room} {own C owner : String} {T : u_T} {N : Nat} {Qc : Array Value → State → Outcome → State → Prop}
theorem nof {d : String} {n : Nat} (h : (parseMethodDescriptor d).map (fun d => d.parameters.length) = some n) : ∀ sig, parseMethodDescriptor d = some sig → n = sig.parameters.length := fun sig q => by
  rw [q] at h; exact (Option.some.inj h).symm
theorem m_pre {av : List Value} (hF : mF X s) (hz : X.2.2.2 ≤ s.heap.size) (hS : mS X s ws H locs) : ∀ U : State, U.heap = H → s.WarmedH U.vm → va_Pc av (mIn X ws) av.toArray U := fun U hU hW => ⟨rfl, by rw [hU]; exact Nat.le_trans hz hS.2.1, by rw [hU]; exact hS.1, hF.moved hW.alike⟩
theorem m_runV (S : CallFix p m c cc nL s args G own) (hM : Met l y (Cond.code y bytes mL ret :: G) rm (va_Pc (.ref a :: As) (mIn X ws)) Qc rm.cells rm.slots (xA X))
    (kl : Cond.methodLink own index y ∈ G) (ki : Cond.instanceMethod y ∈ G) (ks : Cond.selects C y y ∈ G) (kn : Cond.initialized y.cls ∈ G) (kc : Cond.code y bytes mL ret ∈ G)
    (hd : y.cls ≠ "java/lang/invoke/MethodHandle" ∧ y.cls ≠ "java/lang/invoke/VarHandle" ∧ (parseMethodDescriptor y.desc).map (fun d => d.parameters.length) = some n) (hR : rm.frames + 1 ≤ R.frames ∧ 8 + (mL + 11) + rm.locals ≤ R.locals)
    (hF : mF X s) (hz : X.2.2.2 ≤ s.heap.size) (hS : mS X s ws H locs) (he : ws[q0]? = some (a, .inr (ci, fs))) (hc : classes[ci]? = some (C, T, N))
    (hn : As.length = n) (hsize : ls.size = nL) (hst : st = As.reverse ++ .ref a :: rest) (hW : (rest.map fun v => v.category).sum ≤ 8) (hdg : decode cc pc = .ok (.invokevirtual index, 3)) (hf : cells + rm.cells ≤ R.cells ∧ slots + rm.slots ≤ R.slots) :
    va_Run p l e R s m args below meth c H locs cells slots rm.cells rm.slots (F0 m pc ls st) rest (Qc (Value.ref a :: As).toArray) (xA X) := by
  have hG := S.2.2.2.2
  exact va_runV S hM ⟨⟨rfl, rfl, hR.1, hR.2, G_pay hG kc, List.mem_cons_self, hG _ kc, hG _ kn, ⟨hd.1, hd.2.1⟩, nof hd.2.2, hG _ kl⟩, hG _ ki, hG _ ks⟩ ⟨mIn_blind, va_recv hF.1 hS.1.1 hc he, m_pre hF hz hS⟩ rfl hn hsize hst (lv_room hW) hdg hf
theorem m_runU (S : CallFix p m c cc nL s args G own) (hM : Met l y (Cond.code y bytes mL ret :: G) rm (va_Pc (.ref a :: As) (mIn X ws)) Qc rm.cells rm.slots (xA X))
    (kl : Cond.methodLink own index x ∈ G) (ke : Cond.sameMethod x.cls owner x.name x.desc ∈ G) (k0 : Cond.instanceMethod ⟨owner, x.name, x.desc⟩ ∈ G) {b0 : ByteArray} {m0 : Nat} {r0 : Option FieldType} (k1 : Cond.code ⟨owner, x.name, x.desc⟩ b0 m0 r0 ∈ G) (ki : Cond.instanceMethod y ∈ G) (ks : Cond.selects C x y ∈ G) (kn : Cond.initialized y.cls ∈ G) (kc : Cond.code y bytes mL ret ∈ G)
    (hd : owner ≠ "java/lang/invoke/MethodHandle" ∧ owner ≠ "java/lang/invoke/VarHandle" ∧ (parseMethodDescriptor x.desc).map (fun d => d.parameters.length) = some n) (hR : rm.frames + 1 ≤ R.frames ∧ 8 + (mL + 11) + rm.locals ≤ R.locals)
    (hF : mF X s) (hz : X.2.2.2 ≤ s.heap.size) (hS : mS X s ws H locs) (he : ws[q0]? = some (a, .inr (ci, fs))) (hc : classes[ci]? = some (C, T, N))
    (hn : As.length = n) (hsize : ls.size = nL) (hst : st = As.reverse ++ .ref a :: rest) (hW : (rest.map fun v => v.category).sum ≤ 8) (hdg : decode cc pc = .ok (.invokevirtual index, 3)) (hf : cells + rm.cells ≤ R.cells ∧ slots + rm.slots ≤ R.slots) :
    va_Run p l e R s m args below meth c H locs cells slots rm.cells rm.slots (F0 m pc ls st) rest (Qc (Value.ref a :: As).toArray) (xA X) := by
  have hG := S.2.2.2.2
  exact va_runU (owner := owner) (x := x) S hM ⟨⟨rfl, rfl, hR.1, hR.2, G_pay hG kc, List.mem_cons_self⟩, hG _ kc, hG _ kn, ⟨hd.1, hd.2.1⟩, nof hd.2.2, hG _ kl, hG _ ke, va_Decl.of (hG _ k0) (hG _ k1), hG _ ks, hG _ ki⟩ ⟨mIn_blind, va_recv hF.1 hS.1.1 hc he, m_pre hF hz hS⟩ rfl hn hsize hst (lv_room hW) hdg hf
theorem m_runS (S : CallFix p m c cc nL s args G own) (hM : Met l y (Cond.code y bytes mL ret :: G) rm (va_Pc As (mIn X ws)) Qc rm.cells rm.slots (xA X))
    (kl : Cond.methodLink own index y ∈ G) (ks : Cond.static y ∈ G) (kn : Cond.initialized y.cls ∈ G) (kc : Cond.code y bytes mL ret ∈ G)
    (hd : y.cls ≠ "java/lang/invoke/MethodHandle" ∧ y.cls ≠ "java/lang/invoke/VarHandle" ∧ (parseMethodDescriptor y.desc).map (fun d => d.parameters.length) = some n) (hR : rm.frames + 1 ≤ R.frames ∧ 8 + (mL + 11) + rm.locals ≤ R.locals)
    (hF : mF X s) (hz : X.2.2.2 ≤ s.heap.size) (hS : mS X s ws H locs)
    (hn : As.length = n) (hsize : ls.size = nL) (hst : st = As.reverse ++ rest) (hW : (rest.map fun v => v.category).sum ≤ 8) (hdg : decode cc pc = .ok (.invokestatic index, 3)) (hf : cells + rm.cells ≤ R.cells ∧ slots + rm.slots ≤ R.slots) :
    va_Run p l e R s m args below meth c H locs cells slots rm.cells rm.slots (F0 m pc ls st) rest (Qc As.toArray) (xA X) := by
  have hG := S.2.2.2.2
  exact va_runS S hM ⟨⟨rfl, rfl, hR.1, hR.2, G_pay hG kc, List.mem_cons_self, hG _ kc, hG _ kn, ⟨hd.1, hd.2.1⟩, nof hd.2.2, hG _ kl⟩, hG _ ks⟩ ⟨mIn_blind, m_pre hF hz hS⟩ rfl hn hsize hst (lv_room hW) hdg hf
theorem m_runI (S : CallFix p m c cc nL s args G own) (hM : Met l y (Cond.code y bytes mL none :: G) rm (va_Pc (.ref a :: As) (mIn X ws)) Qc rm.cells rm.slots (xA X))
    (kl : Cond.methodLink own index y ∈ G) (ki : Cond.instanceMethod y ∈ G) (kn : Cond.initialized y.cls ∈ G) (kc : Cond.code y bytes mL none ∈ G) (hy1 : y.name = "<init>")
    (hd : y.cls ≠ "java/lang/invoke/MethodHandle" ∧ y.cls ≠ "java/lang/invoke/VarHandle" ∧ (parseMethodDescriptor y.desc).map (fun d => d.parameters.length) = some n) (hR : rm.frames + 1 ≤ R.frames ∧ 8 + (mL + 11) + rm.locals ≤ R.locals)
    (hF : mF X s) (hz : X.2.2.2 ≤ s.heap.size) (hS : mS X s ws H locs)
    (hn : As.length = n) (hsize : ls.size = nL) (hst : st = As.reverse ++ .ref a :: rest) (hW : (rest.map fun v => v.category).sum ≤ 8) (hdg : decode cc pc = .ok (.invokespecial index, 3)) (hf : cells + rm.cells ≤ R.cells ∧ slots + rm.slots ≤ R.slots) :
    va_Run p l e R s m args below meth c H locs cells slots rm.cells rm.slots (F0 m pc ls st) rest (Qc (Value.ref a :: As).toArray) (xA X) := by
  have hG := S.2.2.2.2
  exact va_runI S hM ⟨⟨rfl, rfl, hR.1, hR.2, G_pay hG kc, List.mem_cons_self, hG _ kc, hG _ kn, ⟨hd.1, hd.2.1⟩, nof hd.2.2, hG _ kl⟩, hy1, hG _ ki⟩ ⟨mIn_blind, m_pre hF hz hS⟩ rfl hn hsize hst (lv_room hW) hdg hf
/-- super.m(..) where the class right above has the method from further up: x names it there, y is its own -/
theorem m_runSU (S : CallFix p m c cc nL s args G own) (hM : Met l y (Cond.code y bytes mL ret :: G) rm (va_Pc (.ref a :: As) (mIn X ws)) Qc rm.cells rm.slots (xA X))
    (kl : Cond.methodLink own index x ∈ G) (ke : Cond.sameMethod x.cls y.cls x.name x.desc ∈ G) (kp : Cond.superclass own x.cls ∈ G) (ki : Cond.instanceMethod y ∈ G) (kn : Cond.initialized y.cls ∈ G) (kc : Cond.code y bytes mL ret ∈ G)
    (hsub : ∀ ps pd : ClassId, s.vm.findClass x.cls = some ps → s.vm.findClass y.cls = some pd → s.vm.isSubclass ps pd = true)
    (hxy : y.name = x.name ∧ y.desc = x.desc) (hd : x.name ≠ "<init>" ∧ (parseMethodDescriptor x.desc).map (fun d => d.parameters.length) = some n) (hR : rm.frames + 1 ≤ R.frames ∧ 8 + (mL + 11) + rm.locals ≤ R.locals)
    (hF : mF X s) (hz : X.2.2.2 ≤ s.heap.size) (hS : mS X s ws H locs) (he : ws[q0]? = some (a, .inr (ci, fs))) (hc : classes[ci]? = some (C, T, N))
    (hn : As.length = n) (hsize : ls.size = nL) (hst : st = As.reverse ++ .ref a :: rest) (hW : (rest.map fun v => v.category).sum ≤ 8) (hdg : decode cc pc = .ok (.invokespecial index, 3)) (hf : cells + rm.cells ≤ R.cells ∧ slots + rm.slots ≤ R.slots) :
    va_Run p l e R s m args below meth c H locs cells slots rm.cells rm.slots (F0 m pc ls st) rest (Qc (Value.ref a :: As).toArray) (xA X) := by
  have hG := S.2.2.2.2
  obtain ⟨hx, hb, hml, hown, -⟩ := S
  have hK : Back l R p e below s args y 3 8 (PreOf R rm.cells rm.slots (va_Pc (.ref a :: As) (mIn X ws))) (PostOf Qc rm.cells rm.slots (xA X)) := back_of (bytes := bytes) (maxL := mL) (ret := ret) hM mIn_blind rfl rfl hR.1 hR.2 (G_pay hG kc) List.mem_cons_self (fun a' U hW => word_at hW (Or.inl (by first | rfl | simp [Cond.onTables, Cond.keeps, Cond.steady])) (hG _ kn))
  obtain ⟨cellB, hcB, hoB, hclB⟩ := va_recv hF.1 hS.1.1 hc he
  obtain ⟨kB, hkB, -⟩ := Vm.findClass_spec hclB
  obtain ⟨mk, methM, hnamed, hmethM, hstM, habM⟩ := Cond.instanceMethod_spec (hG _ ki)
  obtain ⟨methM', cM, hmethM', -, -, -, -, -, -, hsigM⟩ := Cond.code_spec hnamed (hG _ kc)
  cases hmethM.symm.trans hmethM'
  obtain ⟨ps, dk, kp', hps, hdk, hkp, hsuper, -, -, hnid⟩ := Cond.superclass_spec hown (hG _ kp)
  have hn' : s.methodNamed? ⟨y.cls, x.name, x.desc⟩ = some mk := by rw [← hxy.1, ← hxy.2]; exact hnamed
  have hsb : s.vm.isSubclass ps mk.cls = true := hsub _ _ hps (findClass_of_methodNamed hnamed)
  have hlen : As.length = methM.sig.parameters.length := hn.trans (nof hd.2 _ (by rw [← hxy.2]; exact hsigM))
  intro U hU XX
  obtain ⟨vm₁, X₁, hstep₁⟩ := XX.invokespecialUp hx hown (hG _ kl) (hG _ ke) hn' hmethM hstM habM hd.1 hdk hnid hps hsuper hsb (a := a) (cell := cellB) (by rw [hU]; exact hcB)
    (fun z h => by rw [h] at hoB; cases hoB) hkB (g := F0 m pc ls st) rfl (argsL := As) (rest := rest) hlen hst (by rw [hb]; exact hdg)
  obtain ⟨v, B, X', hpost, hsteps⟩ := hK m meth c ⟨U.setVm vm₁, locs, cells, slots⟩ { F0 m pc ls st with stack := rest } (.invokespecial index) mk (Value.ref a :: As).toArray X₁ rfl (hsize.trans hml.symm) (by rw [hb]; exact hdg) (lv_room hW) (X₁.named hnamed) ⟨hf.1, hf.2, m_pre hF hz hS (U.setVm vm₁) hU X₁.warmed⟩
  obtain ⟨U', l2, c2, s2⟩ := B
  obtain ⟨g', mk', t, L, e1, e2, hq, h1, hL, h2, h3⟩ := hpost
  dsimp only [Pt.U, Pt.locs, Pt.cells, Pt.slots] at X' e1 e2 h1 h2 h3 hsteps
  subst h1; subst h2; subst h3
  exact ⟨v, (U.setVm vm₁).calling g' mk' (Value.ref a :: As).toArray, t, U', L, hU, X', hL, e1, e2, hq, fun target h => hstep₁ _ (by rw [doInvoke_state]; exact hsteps.trans h)⟩
variable {av : Array Value} {st0 : List Value} {mc ms : Nat}
theorem m_ci {P : Int32 → va_W → Prop} (hr : va_Run p l e R s m args below meth c H locs cells slots mc ms (F0 m pc ls st0) rest (va_Qi P (fun w t => mH X w t.heap) (xA X) av) (xA X)) (hS : mS X s ws H locs)
    (kk : ∀ (r : Int32) (w : va_W) (H1 : Heap) (locs1 : List Loc), P r w → mS X s w H1 locs1 → W p l e R s m args below meth c H1 locs1 (cells + mc) (slots + ms) Q (F0 m (pc + 3) ls (.int r :: rest))) : W p l e R s m args below meth c H locs cells slots Q (F0 m pc ls st0) :=
  va_calli hr hS.2 (fun _ _ h => h) (fun _ h => h) (fun r u t H1 locs1 ht _ hp hB _ _ hS1 => kk r u H1 locs1 hp ⟨by rw [← ht]; exact hB, hS1⟩)
theorem m_cv {P : va_W → Prop} (hr : va_Run p l e R s m args below meth c H locs cells slots mc ms (F0 m pc ls st0) rest (va_Qv P (fun w t => mH X w t.heap) (xA X) av) (xA X)) (hS : mS X s ws H locs)
    (kk : ∀ (w : va_W) (H1 : Heap) (locs1 : List Loc), P w → mS X s w H1 locs1 → W p l e R s m args below meth c H1 locs1 (cells + mc) (slots + ms) Q (F0 m (pc + 3) ls rest)) : W p l e R s m args below meth c H locs cells slots Q (F0 m pc ls st0) :=
  va_callv hr hS.2 (fun _ _ h => h) (fun _ h => h) (fun u t H1 locs1 ht _ hp hB _ _ hS1 => kk u H1 locs1 hp ⟨by rw [← ht]; exact hB, hS1⟩)
theorem m_cq {P : Option Nat → va_W → Prop} (hr : va_Run p l e R s m args below meth c H locs cells slots mc ms (F0 m pc ls st0) rest (va_Qq P (fun w t => mH X w t.heap) (xA X) av) (xA X)) (hS : mS X s ws H locs)
    (kk : ∀ (r : Option Nat) (w : va_W) (H1 : Heap) (locs1 : List Loc), P r w → mS X s w H1 locs1 → W p l e R s m args below meth c H1 locs1 (cells + mc) (slots + ms) Q (F0 m (pc + 3) ls (va_rf r :: rest))) : W p l e R s m args below meth c H locs cells slots Q (F0 m pc ls st0) :=
  va_callq hr hS.2 (fun _ _ h => h) (fun _ h => h) (fun r u t H1 locs1 ht _ hp hB _ _ hS1 => kk r u H1 locs1 hp ⟨by rw [← ht]; exact hB, hS1⟩)
/-- heap rows -/
theorem m_get (hx : p.tables.exec = Jvm.exec) (hb : c.code = cc) (hG : ∀ w ∈ G, w.before args s = true) (hown : s.vm.findClass own = some m.cls) (hF : mF X s) (hS : mS X s ws H locs) (q0 : Nat) {ref : String} {T : u_T} {N : Nat} {fs : List Value} (he : ws[q0]? = some (a, .inr (ci, fs))) (hc : classes[ci]? = some (C, T, N)) (hin : ∀ w ∈ u_ws C T N, w ∈ G) (k : Nat) (hk : k < N) (hl : Cond.fieldLink own index ref (T k).2.1 (T k).2.2.1 ∈ G) (hsame : ∀ x, s.fieldFound? (T k).1 (T k).2.1 (T k).2.2.1 = some x → s.fieldFound? ref (T k).2.1 (T k).2.2.1 = some x) {v : Value} (hv : fs[k]? = some v) (hdg : decode cc pc = .ok (.getfield index, 3))
    (kk : W p l e R s m args below meth c H locs cells slots Q (F0 m (pc + 3) ls (v :: rest))) : W p l e R s m args below meth c H locs cells slots Q (F0 m pc ls (.ref a :: rest)) :=
  va_get hx hb hG hin hown hF.1 hS.1.1 q0 he hc k hk (hG _ hl) hsame hv hdg kk
theorem m_put (hx : p.tables.exec = Jvm.exec) (hb : c.code = cc) (hG : ∀ w ∈ G, w.before args s = true) (hown : s.vm.findClass own = some m.cls) (hF : mF X s) (hS : mS X s ws H locs) (q0 : Nat) {ref : String} {T : u_T} {N : Nat} {fs : List Value} (he : ws[q0]? = some (a, .inr (ci, fs))) (hc : classes[ci]? = some (C, T, N)) (hin : ∀ w ∈ u_ws C T N, w ∈ G) {ty0 : Nat → FieldType} (hty : ∀ k, k < N → parseFieldDescriptor (T k).2.2.1 = some (ty0 k)) (hnm : ∀ a, a < N → ∀ b, b < N → a ≠ b → (T a).2.1 ≠ (T b).2.1) (k : Nat) (hk : k < N) (hl : Cond.fieldLink own index ref (T k).2.1 (T k).2.2.1 ∈ G) (hsame : ∀ x, s.fieldFound? (T k).1 (T k).2.1 (T k).2.2.1 = some x → s.fieldFound? ref (T k).2.1 (T k).2.2.1 = some x) (hfin : (T k).2.2.2 = false) {v : Value} (hn : narrow (ty0 k) v = v) (hfit : fits (ty0 k) v = true) (hlf : k < fs.length) (ws' : va_W) (hw : ws.set q0 (a, .inr (ci, fs.set k v)) = ws')
    (hdg : decode cc pc = .ok (.putfield index, 3)) (kk : ∀ (H1 : Heap) (locs1 : List Loc), mS X s ws' H1 locs1 → W p l e R s m args below meth c H1 locs1 cells slots Q (F0 m (pc + 3) ls rest)) : W p l e R s m args below meth c H locs cells slots Q (F0 m pc ls (v :: .ref a :: rest)) :=
  va_put hx hb hG hin ty0 hty hnm hown hF.1 hS.1.1 hS.1.2 hS.2 q0 he hc k hk (hG _ hl) hsame hfin (hty k hk) hn hfit hlf hdg (fun H1 locs1 h1 h2 h3 => kk H1 locs1 ⟨⟨by rw [← hw]; exact h1, by rw [← hw]; exact h2⟩, h3⟩)
theorem m_putF (hx : p.tables.exec = Jvm.exec) (hb : c.code = cc) (hG : ∀ w ∈ G, w.before args s = true) (hown : s.vm.findClass own = some m.cls) (hF : mF X s) (hS : mS X s ws H locs) (q0 : Nat) {ref : String} {T : u_T} {N : Nat} {fs : List Value} (he : ws[q0]? = some (a, .inr (ci, fs))) (hc : classes[ci]? = some (C, T, N)) (hin : ∀ w ∈ u_ws C T N, w ∈ G) {ty0 : Nat → FieldType} (hty : ∀ k, k < N → parseFieldDescriptor (T k).2.2.1 = some (ty0 k)) (hnm : ∀ a, a < N → ∀ b, b < N → a ≠ b → (T a).2.1 ≠ (T b).2.1) (k : Nat) (hk : k < N) (hl : Cond.fieldLink own index ref (T k).2.1 (T k).2.2.1 ∈ G) (hsame : ∀ x, s.fieldFound? (T k).1 (T k).2.1 (T k).2.2.1 = some x → s.fieldFound? ref (T k).2.1 (T k).2.2.1 = some x) (hfin : (T k).2.2.2 = true) (hin2 : meth.name = "<init>") (hdecl : (T k).1 = own) {v : Value} (hn : narrow (ty0 k) v = v) (hfit : fits (ty0 k) v = true) (hlf : k < fs.length) (ws' : va_W) (hw : ws.set q0 (a, .inr (ci, fs.set k v)) = ws')
    (hdg : decode cc pc = .ok (.putfield index, 3)) (kk : ∀ (H1 : Heap) (locs1 : List Loc), mS X s ws' H1 locs1 → W p l e R s m args below meth c H1 locs1 cells slots Q (F0 m (pc + 3) ls rest)) : W p l e R s m args below meth c H locs cells slots Q (F0 m pc ls (v :: .ref a :: rest)) :=
  va_putF hx hb hG hin ty0 hty hnm hown hF.1 hS.1.1 hS.1.2 hS.2 q0 he hc k hk (hG _ hl) hsame hfin hin2 hdecl (hty k hk) hn hfit hlf hdg (fun H1 locs1 h1 h2 h3 => kk H1 locs1 ⟨⟨by rw [← hw]; exact h1, by rw [← hw]; exact h2⟩, h3⟩)
theorem m_iald (hx : p.tables.exec = Jvm.exec) (hb : c.code = cc) (hF : mF X s) (hS : mS X s ws H locs) (q0 : Nat) {n : Nat} {f : Nat → Int32} (he : ws[q0]? = some (a, .inl (X.2.1, n, .inl f))) {i : Int32} (j : Nat) (hi : i = nI j) (hj : j < n) (hn : n < 2 ^ 31) (hdg : decode cc pc = .ok (.iaload, 1))
    (kk : W p l e R s m args below meth c H locs cells slots Q (F0 m (pc + 1) ls (.int (f j) :: rest))) : W p l e R s m args below meth c H locs cells slots Q (F0 m pc ls (.int i :: .ref a :: rest)) := by
  subst hi
  have h2 := va_iald (l := l) (e := e) (below := below) (meth := meth) (locs := locs) (cells := cells) (slots := slots) (Q := Q) (R := R) (ls := ls) (rest := rest) (m := m) (args := args) hx hb hF.1 hS.1.1 q0 0 he rfl (vp_in_nI hj hn) hdg
  rw [nI_clamp (Nat.lt_trans hj hn)] at h2
  exact h2 kk
theorem m_iast (hx : p.tables.exec = Jvm.exec) (hb : c.code = cc) (hF : mF X s) (hS : mS X s ws H locs) (q0 : Nat) {n : Nat} {f : Nat → Int32} (he : ws[q0]? = some (a, .inl (X.2.1, n, .inl f))) {i v : Int32} (j : Nat) (hi : i = nI j) (hj : j < n) (hn : n < 2 ^ 31) (ws' : va_W) (hw : ws.set q0 (a, .inl (X.2.1, n, .inl (upd f j v))) = ws') (hdg : decode cc pc = .ok (.iastore, 1))
    (kk : ∀ (H1 : Heap) (locs1 : List Loc), mS X s ws' H1 locs1 → W p l e R s m args below meth c H1 locs1 cells slots Q (F0 m (pc + 1) ls rest)) : W p l e R s m args below meth c H locs cells slots Q (F0 m pc ls (.int v :: .int i :: .ref a :: rest)) := by
  subst hi
  refine va_iast hx hb hF.1 hS.1.1 hS.1.2 hS.2 q0 0 he rfl (vp_in_nI hj hn) hdg (fun H1 locs1 h1 h2 h3 => kk H1 locs1 ⟨⟨?_, ?_⟩, h3⟩)
  · rw [← hw]; rw [nI_clamp (Nat.lt_trans hj hn)] at h1; exact h1
  · rw [← hw]; rw [nI_clamp (Nat.lt_trans hj hn)] at h2; exact h2
theorem m_alenI (hx : p.tables.exec = Jvm.exec) (hb : c.code = cc) (hF : mF X s) (hS : mS X s ws H locs) (q0 : Nat) {n : Nat} {f : Nat → Int32} (he : ws[q0]? = some (a, .inl (X.2.1, n, .inl f))) (hdg : decode cc pc = .ok (.arraylength, 1))
    (kk : W p l e R s m args below meth c H locs cells slots Q (F0 m (pc + 1) ls (.int (nI n) :: rest))) : W p l e R s m args below meth c H locs cells slots Q (F0 m pc ls (.ref a :: rest)) :=
  va_alen hx hb hF.1 hS.1.1 q0 0 he rfl rfl hdg kk
theorem m_alenQ (hx : p.tables.exec = Jvm.exec) (hb : c.code = cc) (hF : mF X s) (hS : mS X s ws H locs) (q0 : Nat) {n : Nat} {f : Nat → Option Nat} (he : ws[q0]? = some (a, .inl (X.2.2.1, n, .inr (.inr (.inr (.inr f)))))) (hdg : decode cc pc = .ok (.arraylength, 1))
    (kk : W p l e R s m args below meth c H locs cells slots Q (F0 m (pc + 1) ls (.int (nI n) :: rest))) : W p l e R s m args below meth c H locs cells slots Q (F0 m pc ls (.ref a :: rest)) :=
  va_alen hx hb hF.1 hS.1.1 q0 1 he rfl rfl hdg kk
theorem m_aald (hx : p.tables.exec = Jvm.exec) (hb : c.code = cc) (hF : mF X s) (hS : mS X s ws H locs) (q0 : Nat) {n : Nat} {f : Nat → Option Nat} (he : ws[q0]? = some (a, .inl (X.2.2.1, n, .inr (.inr (.inr (.inr f)))))) {i : Int32} (j : Nat) (hi : i = nI j) (hj : j < n) (hn : n < 2 ^ 31) (hdg : decode cc pc = .ok (.aaload, 1))
    (kk : W p l e R s m args below meth c H locs cells slots Q (F0 m (pc + 1) ls (va_rf (f j) :: rest))) : W p l e R s m args below meth c H locs cells slots Q (F0 m pc ls (.int i :: .ref a :: rest)) := by
  subst hi
  have h2 := va_aldq (l := l) (e := e) (below := below) (meth := meth) (locs := locs) (cells := cells) (slots := slots) (Q := Q) (R := R) (ls := ls) (rest := rest) (m := m) (args := args) hx hb hF.1 hS.1.1 q0 1 he rfl (vp_in_nI hj hn) hdg
  rw [nI_clamp (Nat.lt_trans hj hn)] at h2
  exact h2 kk
/-- ends -/
theorem m_iret {P : Int32 → va_W → Prop} {v : Int32} {ws : va_W} (hx : p.tables.exec = Jvm.exec) (hb : c.code = cc) (hr : meth.sig.returnType = some .int) (hlk : meth.locks = false) (hS : mS X s ws H locs) (hP : P v ws) (h1 : cells ≤ mc) (h2 : slots ≤ ms) (hdg : decode cc pc = .ok (.ireturn, 1)) :
    W p l e R s m args below meth c H locs cells slots (MQ below (va_Qi P (fun w t => mH X w t.heap) (xA X)) args s mc ms (xA X)) (F0 m pc ls [.int v]) := by
  refine W.widen h1 h2 ?_
  exact W.iret hx hb hr (fun t ht hW => ⟨⟨v, ws, rfl, hP, by show mH X ws t.heap; rw [ht]; exact hS.1⟩, hS.2.F ht⟩) hS.2.2.2 hdg hlk
theorem m_zret {P : Int32 → va_W → Prop} {v : Int32} {ws : va_W} (hx : p.tables.exec = Jvm.exec) (hb : c.code = cc) (hr : meth.sig.returnType = some .boolean) (hn : narrow .boolean (.int v) = .int v) (hlk : meth.locks = false) (hS : mS X s ws H locs) (hP : P v ws) (h1 : cells ≤ mc) (h2 : slots ≤ ms) (hdg : decode cc pc = .ok (.ireturn, 1)) :
    W p l e R s m args below meth c H locs cells slots (MQ below (va_Qi P (fun w t => mH X w t.heap) (xA X)) args s mc ms (xA X)) (F0 m pc ls [.int v]) := by
  refine W.widen h1 h2 ?_
  exact W.zret hx hb hr hn (fun t ht hW => ⟨⟨v, ws, rfl, hP, by show mH X ws t.heap; rw [ht]; exact hS.1⟩, hS.2.F ht⟩) hS.2.2.2 hdg hlk
theorem m_vret {P : va_W → Prop} {ws : va_W} (hx : p.tables.exec = Jvm.exec) (hb : c.code = cc) (hr : meth.sig.returnType = none) (hlk : meth.locks = false) (hS : mS X s ws H locs) (hP : P ws) (h1 : cells ≤ mc) (h2 : slots ≤ ms) (hdg : decode cc pc = .ok (.return_, 1)) :
    W p l e R s m args below meth c H locs cells slots (MQ below (va_Qv P (fun w t => mH X w t.heap) (xA X)) args s mc ms (xA X)) (F0 m pc ls []) := by
  refine W.widen h1 h2 ?_
  exact W.vret hx hb hr (fun t ht hW => ⟨⟨ws, rfl, hP, by show mH X ws t.heap; rw [ht]; exact hS.1⟩, hS.2.F ht⟩) hS.2.2.2 hdg hlk
theorem m_qret {P : Option Nat → va_W → Prop} {r : Option Nat} {o : String} {ws : va_W} (hx : p.tables.exec = Jvm.exec) (hb : c.code = cc) (hr : meth.sig.returnType = some (.object o)) (hlk : meth.locks = false) (hS : mS X s ws H locs) (hP : P r ws) (h1 : cells ≤ mc) (h2 : slots ≤ ms) (hdg : decode cc pc = .ok (.areturn, 1)) :
    W p l e R s m args below meth c H locs cells slots (MQ below (va_Qq P (fun w t => mH X w t.heap) (xA X)) args s mc ms (xA X)) (F0 m pc ls [va_rf r]) := by
  refine W.widen h1 h2 ?_
  exact W.aret hx hb hr (Or.inl ⟨o, rfl⟩) (va_rf_or r) (fun t ht hW => ⟨⟨r, ws, rfl, hP, by show mH X ws t.heap; rw [ht]; exact hS.1⟩, hS.2.F ht⟩) hS.2.2.2 hdg hlk
end MR
end
section
/-! ===== what a batch answers, by its kind k and its mass m ===== -/
def riseV (k : Nat) (w : Int32) : Int32 := match k with
  | 2 => w / 4 / 2 + 1
  | 3 => w / 4 / 2 + 1
  | 4 => w / 4 / 2 + 1 - 1
  | 6 => w / 4 + w / 10
  | _ => w / 4
def riseT (k : Nat) : List Int32 := match k with
  | 2 => [2, 1]
  | 3 => [2, 1]
  | 4 => [3, 2, 1]
  | 6 => [4, 1]
  | _ => [1]
def needV (k : Nat) (m : Int32) : Int32 := match k with
  | 1 => 100 + m / 10 + 50
  | 2 => 100 + m / 10 + 50
  | 3 => 100 + m / 10 + 50 + riseV 3 20
  | 4 => 100 + m / 10 + 50 + riseV 4 20
  | _ => 100 + m / 10
def needT (k : Nat) : List Int32 := match k with
  | 1 => [12, 11]
  | 2 => [12, 11]
  | 3 => [13, 12, 11, 2, 1]
  | 4 => [13, 12, 11, 3, 2, 1]
  | _ => [11]
def brownV (k : Nat) (h : Int32) : Int32 := match k with
  | 4 => (h / 50 + 2) / 3
  | 5 => h / 50 + 1
  | 6 => h / 50 + 1
  | _ => h / 50
def brownT (k : Nat) : List Int32 := match k with
  | 4 => [22, 21]
  | 5 => [23, 21]
  | 6 => [23, 21]
  | _ => [21]
def priceV (k : Nat) (m : Int32) : Int32 := match k with
  | 3 => 10 + m / 5 + 40
  | 4 => 10 + m / 5 + 40 + needV 4 m
  | 6 => 2 * (10 + m / 5)
  | _ => 10 + m / 5
def priceT (k : Nat) : List Int32 := match k with
  | 3 => [32, 31]
  | 4 => [33, 32, 31, 13, 12, 11, 3, 2, 1]
  | 6 => [34, 31]
  | _ => [31]
def keepsV (k : Nat) (m : Int32) : Int32 := match k with
  | 4 => priceV 4 m / 50 + 2
  | _ => 1 + needV k m / 100
def keepsT (k : Nat) : List Int32 := match k with
  | 4 => [42, 33, 32, 31, 13, 12, 11, 3, 2, 1]
  | 3 => [41, 13, 12, 11, 2, 1]
  | _ => [41, 12, 11]
def glazeV (k : Nat) (m : Int32) : Int32 := match k with
  | 6 => brownV 6 200 + 20
  | _ => priceV k m / 10 + 5
def glazeT (k : Nat) : List Int32 := match k with
  | 6 => [52, 23, 21]
  | _ => [51, 31]
/-! ===== the trace ===== -/
abbrev Tr : Type := Nat × (Nat → Int32)
def tw : List Int32 → Tr → Tr
  | [], t => t
  | x :: xs, t => tw xs (t.1 + 1, upd t.2 t.1 x)
def te (r : Bool) (xs : List Int32) (t : Tr) : Tr := match r with
  | true => tw xs t
  | false => t
theorem tw_app : ∀ (xs ys : List Int32) (t : Tr), tw ys (tw xs t) = tw (xs ++ ys) t
  | [], _, _ => rfl
  | _ :: xs, ys, t => tw_app xs ys _
theorem te_te (r : Bool) (xs ys : List Int32) (t : Tr) : te r ys (te r xs t) = te r (xs ++ ys) t := by
  cases r
  · rfl
  · exact tw_app xs ys t
theorem tw_len : ∀ (xs : List Int32) (t : Tr), (tw xs t).1 = t.1 + xs.length
  | [], _ => rfl
  | x :: xs, t => by rw [tw, tw_len xs]; simp; omega
/-- the trace has room for n more, if it is kept at all -/
def tR (r : Bool) (n : Nat) (t : Tr) : Prop := r = true → t.1 + n ≤ 10
theorem tR.le {r : Bool} {n k : Nat} {t : Tr} (h : tR r n t) (hk : k ≤ n) : tR r k t := fun q => Nat.le_trans (by omega) (h q)
theorem tR.step {r : Bool} {n k : Nat} {t : Tr} {xs : List Int32} (h : tR r n t) (hk : xs.length + k ≤ n) : tR r k (te r xs t) := fun q => by
  subst q
  have := h rfl
  show (tw xs t).1 + k ≤ 10
  rw [tw_len]; omega
theorem tR.f {n : Nat} {t : Tr} : tR false n t := fun q => by cases q
def bI (b : Bool) : Int32 := match b with
  | true => 1
  | false => 0
/-! ===== the cells ===== -/
abbrev Rc : Type := Nat → Int32
/-- a batch's kind -/
def kd (r : Rc) : Nat := (r 0).toNatClampNeg
def dfs (T : Nat) (r : Rc) : List Value := [.int (r 0), .int (r 1), .ref T, .int (r 3), .int (r 4), .int (r 5), .int (r 6), .int (r 7)]
def dE (T : Nat) (r : Rc) : va_E := .inr (kd r, dfs T r)
/-- all of the world but the trace: the reference's ten cells q, the addresses A, made, warmth, days, till, the batches' array, the heats, the pool -/
abbrev KT : Type := (Nat → Nat × va_E) × (Nat → Nat) × Int32 × Int32 × Int32 × Int32 × (Nat → Option Nat) × (Nat → Int32) × va_W
abbrev kq (K : KT) : Nat → Nat × va_E := K.1
abbrev kA (K : KT) : Nat → Nat := K.2.1
abbrev kP (K : KT) : va_W := K.2.2.2.2.2.2.2.2
/-- the world: the reference's ten cells, the room, its arrays of batches and of heats, the trace and its array, the batches -/
def wT (X : Cx) (K : KT) (r : Bool) (t : Tr) : va_W :=
  K.1 0 :: K.1 1 :: K.1 2 :: K.1 3 :: K.1 4 :: K.1 5 :: K.1 6 :: K.1 7 :: K.1 8 :: K.1 9 ::
  (K.2.1 0, .inr (8, [.ref (K.2.1 1), .ref (K.2.1 2), .ref (K.2.1 3), .int K.2.2.1, .int K.2.2.2.1, .int K.2.2.2.2.1, .int K.2.2.2.2.2.1])) ::
  (K.2.1 1, .inl (X.2.2.1, 40, .inr (.inr (.inr (.inr K.2.2.2.2.2.2.1))))) ::
  (K.2.1 2, .inl (X.2.1, 3, .inl K.2.2.2.2.2.2.2.1)) ::
  (K.2.1 3, .inr (7, [.ref (K.2.1 4), .int (nI t.1), .int (bI r)])) ::
  (K.2.1 4, .inl (X.2.1, 10, .inl t.2)) :: K.2.2.2.2.2.2.2.2
def kset (K : KT) (i : Nat) (x : Nat × va_E) : KT := (K.1, K.2.1, K.2.2.1, K.2.2.2.1, K.2.2.2.2.1, K.2.2.2.2.2.1, K.2.2.2.2.2.2.1, K.2.2.2.2.2.2.2.1, K.2.2.2.2.2.2.2.2.set i x)
theorem wT_at {X : Cx} {K : KT} {r : Bool} {t : Tr} {i : Nat} {x : Nat × va_E} (h : (kP K)[i]? = some x) : (wT X K r t)[i + 15]? = some x := h
theorem wT_set {X : Cx} {K : KT} {r : Bool} {t : Tr} {i : Nat} {x : Nat × va_E} : (wT X K r t).set (i + 15) x = wT X (kset K i x) r t := rfl
theorem wT_T {X : Cx} {K : KT} {r : Bool} {t : Tr} {u : Tr} {n : Int32} (h : n = nI u.1) : (wT X K r t).set 13 (K.2.1 3, .inr (7, [.ref (K.2.1 4), .int n, .int (bI r)])) = wT X K r (u.1, t.2) := by rw [h]; rfl
/-- room: no cells, f frames -/
def rl (f : Nat) : Room := { frames := f, cells := 0, slots := 0, locals := 27 * f }
theorem rl_ok {f f' mL : Nat} (h : f < f') (h2 : mL ≤ 8) : (rl f).frames + 1 ≤ (rl f').frames ∧ 8 + (mL + 11) + (rl f).locals ≤ (rl f').locals := by
  show f + 1 ≤ f' ∧ 8 + (mL + 11) + 27 * f ≤ 27 * f'
  omega
theorem rl_c {f f' : Nat} : 0 + (rl f).cells ≤ (rl f').cells ∧ 0 + (rl f).slots ≤ (rl f').slots := ⟨Nat.le_refl 0, Nat.le_refl 0⟩
/-- a kind's own class, its fields among the words -/
theorem kd_cls {r : Rc} (h : kd r < 7) : classes[kd r]? = some (RD (kd r), TD, 8) ∧ ∀ w ∈ u_ws (RD (kd r)) TD 8, w ∈ G := by
  revert h
  generalize kd r = k
  intro h
  match k, h with
  | 0, _ => exact ⟨rfl, iG_0⟩
  | 1, _ => exact ⟨rfl, iG_1⟩
  | 2, _ => exact ⟨rfl, iG_2⟩
  | 3, _ => exact ⟨rfl, iG_3⟩
  | 4, _ => exact ⟨rfl, iG_4⟩
  | 5, _ => exact ⟨rfl, iG_5⟩
  | 6, _ => exact ⟨rfl, iG_6⟩
end
section
theorem sf_Black {args : Array Value} {s : State} (hG : ∀ w ∈ G, w.before args s = true) : ∀ x, s.fieldFound? "DoughRoom$Dough" "trace" "LDoughRoom$Trace;" = some x → s.fieldFound? "DoughRoom$Black" "trace" "LDoughRoom$Trace;" = some x := u_same (hG _ kw_104)
theorem sf_Sour {args : Array Value} {s : State} (hG : ∀ w ∈ G, w.before args s = true) : ∀ x, s.fieldFound? "DoughRoom$Dough" "trace" "LDoughRoom$Trace;" = some x → s.fieldFound? "DoughRoom$Sour" "trace" "LDoughRoom$Trace;" = some x := u_same (hG _ kw_106)
theorem sf_Butter {args : Array Value} {s : State} (hG : ∀ w ∈ G, w.before args s = true) : ∀ x, s.fieldFound? "DoughRoom$Dough" "trace" "LDoughRoom$Trace;" = some x → s.fieldFound? "DoughRoom$Butter" "trace" "LDoughRoom$Trace;" = some x := u_same (hG _ kw_108)
theorem sf_Rye {args : Array Value} {s : State} (hG : ∀ w ∈ G, w.before args s = true) : ∀ x, s.fieldFound? "DoughRoom$Dough" "trace" "LDoughRoom$Trace;" = some x → s.fieldFound? "DoughRoom$Rye" "trace" "LDoughRoom$Trace;" = some x := u_same (hG _ kw_110)
theorem sf_Yeast {args : Array Value} {s : State} (hG : ∀ w ∈ G, w.before args s = true) : ∀ x, s.fieldFound? "DoughRoom$Dough" "trace" "LDoughRoom$Trace;" = some x → s.fieldFound? "DoughRoom$Yeast" "trace" "LDoughRoom$Trace;" = some x := u_same (hG _ kw_112)
theorem sf_Sweet {args : Array Value} {s : State} (hG : ∀ w ∈ G, w.before args s = true) : ∀ x, s.fieldFound? "DoughRoom$Dough" "trace" "LDoughRoom$Trace;" = some x → s.fieldFound? "DoughRoom$Sweet" "trace" "LDoughRoom$Trace;" = some x := u_same (hG _ kw_114)
theorem sub_self {s : State} {C : String} : ∀ ps pd : ClassId, s.vm.findClass C = some ps → s.vm.findClass C = some pd → s.vm.isSubclass ps pd = true := fun ps pd h1 h2 => by
  cases h1.symm.trans h2
  simp [Vm.isSubclass, Vm.isSubclassAux]
set_option maxHeartbeats 4000000 in
set_option maxRecDepth 100000 in
theorem c_leave (l : Launch) (X : Cx) (K : KT) (r : Bool) (t : Tr) (x : Int32) (f : Nat) (ht : tR r 1 t) : cV l yX6_leave cX6_leave 2 (rl f) X [.ref (kA K 3), .int x] (wT X K r t) (fun w => w = wT X K r (te r [x] t)) := by
  refine met_start (by decide) (Nat.le_of_ble_eq_true rfl) ?_
  intro p e s m below meth c ls fx hS hl
  obtain ⟨hx, hb, hr, hml, hown, hG, hlk, hF, hz, hnm⟩ := fx
  have hown : s.vm.findClass RX6 = some m.cls := hown
  have hl : lv_has ls 2 [(0, .ref (kA K 3)), (1, .int x)] := hl
  cases r with
  | false =>
    refine lv_aload_n hx hb dX6_leave_0 rfl (lv_at hl 0 rfl) ?_
    refine m_get hx hb hG hown hF hS (13) rfl rfl iG_7 2 (by decide) kw_47 (fun _ h9 => h9) rfl dX6_leave_1 ?_
    refine lv_if_eq (tgt := 46) hx hb dX6_leave_4 (by decide) (fun c_1 => ?_) (fun c_1 => absurd (rfl) c_1)
    exact m_vret hx hb hr hlk hS rfl (Nat.le_refl 0) (Nat.le_refl 0) dX6_leave_46
  | true =>
    have h10 : t.1 + 1 ≤ 10 := ht rfl
    refine lv_aload_n hx hb dX6_leave_0 rfl (lv_at hl 0 rfl) ?_
    refine m_get hx hb hG hown hF hS (13) rfl rfl iG_7 2 (by decide) kw_47 (fun _ h9 => h9) rfl dX6_leave_1 ?_
    refine lv_if_eq (tgt := 46) hx hb dX6_leave_4 (by decide) (fun c_1 => absurd c_1 (by decide)) (fun c_1 => ?_)
    refine lv_aload_n hx hb dX6_leave_7 rfl (lv_at hl 0 rfl) ?_
    refine m_get hx hb hG hown hF hS (13) rfl rfl iG_7 1 (by decide) kw_46 (fun _ h9 => h9) rfl dX6_leave_8 ?_
    refine lv_if_lt (tgt := 46) hx hb dX6_leave_11 (by decide) (fun c_2 => absurd c_2 (nI_pos (by omega))) (fun c_2 => ?_)
    refine lv_aload_n hx hb dX6_leave_14 rfl (lv_at hl 0 rfl) ?_
    refine m_get hx hb hG hown hF hS (13) rfl rfl iG_7 1 (by decide) kw_46 (fun _ h9 => h9) rfl dX6_leave_15 ?_
    refine lv_aload_n hx hb dX6_leave_18 rfl (lv_at hl 0 rfl) ?_
    refine m_get hx hb hG hown hF hS (13) rfl rfl iG_7 0 (by decide) kw_45 (fun _ h9 => h9) rfl dX6_leave_19 ?_
    refine m_alenI hx hb hF hS (14) rfl dX6_leave_22 ?_
    refine lv_icmp_ge (tgt := 46) hx hb dX6_leave_23 (by decide) (fun c_3 => absurd c_3 (nI_ge (a := t.1) (b := 10) (by omega) (by decide))) (fun c_3 => ?_)
    refine lv_aload_n hx hb dX6_leave_26 rfl (lv_at hl 0 rfl) ?_
    refine m_get hx hb hG hown hF hS (13) rfl rfl iG_7 0 (by decide) kw_45 (fun _ h9 => h9) rfl dX6_leave_27 ?_
    refine lv_aload_n hx hb dX6_leave_30 rfl (lv_at hl 0 rfl) ?_
    refine m_get hx hb hG hown hF hS (13) rfl rfl iG_7 1 (by decide) kw_46 (fun _ h9 => h9) rfl dX6_leave_31 ?_
    refine lv_iload_n hx hb dX6_leave_34 rfl (lv_at hl 1 rfl) ?_
    refine m_iast hx hb hF hS (14) rfl (t.1) rfl (by omega) (by decide) (wT X K true (t.1, upd t.2 t.1 x)) rfl dX6_leave_35 (fun H locs hS => ?_)
    refine lv_aload_n hx hb dX6_leave_36 rfl (lv_at hl 0 rfl) ?_
    refine lv_dup hx hb dX6_leave_37 rfl ?_
    refine m_get hx hb hG hown hF hS (13) rfl rfl iG_7 1 (by decide) kw_46 (fun _ h9 => h9) rfl dX6_leave_38 ?_
    refine lv_iconst (v := 1) hx hb dX6_leave_41 (by decide) ?_
    refine lv_iadd hx hb dX6_leave_42 ?_
    refine m_put hx hb hG hown hF hS (13) rfl rfl iG_7 tyX6_ok nmX6 1 (by decide) kw_46 (fun _ h9 => h9) rfl rfl rfl (Nat.le_of_ble_eq_true rfl) (wT X K true (t.1 + 1, upd t.2 t.1 x)) (by rw [nI_1]; rfl) dX6_leave_43 (fun H locs hS => ?_)
    exact m_vret hx hb hr hlk hS rfl (Nat.le_refl 0) (Nat.le_refl 0) dX6_leave_46
set_option maxHeartbeats 4000000 in
set_option maxRecDepth 100000 in
theorem c_start (l : Launch) (X : Cx) (K : KT) (r : Bool) (t : Tr) (f : Nat) : cV l yX6_start cX6_start 1 (rl f) X [.ref (kA K 3)] (wT X K r t) (fun w => w = wT X K true (0, t.2)) := by
  refine met_start (by decide) (Nat.le_of_ble_eq_true rfl) ?_
  intro p e s m below meth c ls fx hS hl
  obtain ⟨hx, hb, hr, hml, hown, hG, hlk, hF, hz, hnm⟩ := fx
  have hown : s.vm.findClass RX6 = some m.cls := hown
  have hl : lv_has ls 1 [(0, .ref (kA K 3))] := hl
  refine lv_aload_n hx hb dX6_start_0 rfl (lv_at hl 0 rfl) ?_
  refine lv_iconst (v := 0) hx hb dX6_start_1 (by decide) ?_
  refine m_put hx hb hG hown hF hS (13) rfl rfl iG_7 tyX6_ok nmX6 1 (by decide) kw_46 (fun _ h9 => h9) rfl rfl rfl (Nat.le_of_ble_eq_true rfl) (wT X K r (0, t.2)) rfl dX6_start_2 (fun H locs hS => ?_)
  refine lv_aload_n hx hb dX6_start_5 rfl (lv_at hl 0 rfl) ?_
  refine lv_iconst (v := 1) hx hb dX6_start_6 (by decide) ?_
  refine m_put hx hb hG hown hF hS (13) rfl rfl iG_7 tyX6_ok nmX6 2 (by decide) kw_47 (fun _ h9 => h9) rfl rfl rfl (Nat.le_of_ble_eq_true rfl) (wT X K true (0, t.2)) rfl dX6_start_7 (fun H locs hS => ?_)
  exact m_vret hx hb hr hlk hS rfl (Nat.le_refl 0) (Nat.le_refl 0) dX6_start_10
set_option maxHeartbeats 4000000 in
set_option maxRecDepth 100000 in
theorem c_stop (l : Launch) (X : Cx) (K : KT) (r : Bool) (t : Tr) (f : Nat) : cV l yX6_stop cX6_stop 1 (rl f) X [.ref (kA K 3)] (wT X K r t) (fun w => w = wT X K false t) := by
  refine met_start (by decide) (Nat.le_of_ble_eq_true rfl) ?_
  intro p e s m below meth c ls fx hS hl
  obtain ⟨hx, hb, hr, hml, hown, hG, hlk, hF, hz, hnm⟩ := fx
  have hown : s.vm.findClass RX6 = some m.cls := hown
  have hl : lv_has ls 1 [(0, .ref (kA K 3))] := hl
  refine lv_aload_n hx hb dX6_stop_0 rfl (lv_at hl 0 rfl) ?_
  refine lv_iconst (v := 0) hx hb dX6_stop_1 (by decide) ?_
  refine m_put hx hb hG hown hF hS (13) rfl rfl iG_7 tyX6_ok nmX6 2 (by decide) kw_47 (fun _ h9 => h9) rfl rfl rfl (Nat.le_of_ble_eq_true rfl) (wT X K false t) rfl dX6_stop_2 (fun H locs hS => ?_)
  exact m_vret hx hb hr hlk hS rfl (Nat.le_refl 0) (Nat.le_refl 0) dX6_stop_5
set_option maxHeartbeats 4000000 in
set_option maxRecDepth 100000 in
theorem c_Drise (l : Launch) (X : Cx) (K : KT) (r : Bool) (t : Tr) (h i : Nat) (rc : Rc) (w : Int32) (f : Nat) (hi : (kP K)[i]? = some (h, dE (kA K 3) rc)) (hk : kd rc < 7) (hf : 1 ≤ f) (ht : tR r 1 t) : cI l yX2_rise cX2_rise 2 (some .int) (rl f) X [.ref h, .int w] (wT X K r t) (fun v w' => v = w / 4 ∧ w' = wT X K r (te r [1] t)) := by
  refine met_start (by decide) (Nat.le_of_ble_eq_true rfl) ?_
  intro p e s m below meth c ls fx hS hl
  obtain ⟨hx, hb, hr, hml, hown, hG, hlk, hF, hz, hnm⟩ := fx
  have hown : s.vm.findClass RX2 = some m.cls := hown
  have hl : lv_has ls 2 [(0, .ref h), (1, .int w)] := hl
  refine lv_aload_n hx hb dX2_rise_0 rfl (lv_at hl 0 rfl) ?_
  refine m_get hx hb hG hown hF hS (i + 15) (wT_at hi) (kd_cls hk).1 (kd_cls hk).2 2 (by decide) kw_102 (fun _ h9 => h9) rfl dX2_rise_1 ?_
  refine lv_iconst (v := 1) hx hb dX2_rise_4 (by decide) ?_
  refine m_cv (m_runV (n := 1) (rest := []) ⟨hx, hb, hml, hown, hG⟩ (c_leave l X K r t 1 0 (ht.le (by decide))) kw_272 kw_249 kw_250 kw_19 kw_251 (by decide +kernel) (rl_ok (by omega) (by decide)) hF hz hS (q0 := 13) rfl rfl rfl hl.1 rfl (Nat.le_of_ble_eq_true rfl) dX2_rise_5 ⟨Nat.le_refl 0, Nat.le_refl 0⟩) hS (fun w1 H locs hw1 hS => ?_)
  subst hw1
  refine lv_iload_n hx hb dX2_rise_8 rfl (lv_at hl 1 rfl) ?_
  refine lv_iconst (v := 4) hx hb dX2_rise_9 (by decide) ?_
  refine lv_idiv hx hb dX2_rise_10 (by decide) ?_
  exact m_iret hx hb hr hlk hS ⟨rfl, rfl⟩ (Nat.le_refl 0) (Nat.le_refl 0) dX2_rise_11
set_option maxHeartbeats 4000000 in
set_option maxRecDepth 100000 in
theorem c_Dneed (l : Launch) (X : Cx) (K : KT) (r : Bool) (t : Tr) (h i : Nat) (rc : Rc) (f : Nat) (hi : (kP K)[i]? = some (h, dE (kA K 3) rc)) (hk : kd rc < 7) (hf : 1 ≤ f) (ht : tR r 1 t) : cI l yX2_need cX2_need 1 (some .int) (rl f) X [.ref h] (wT X K r t) (fun v w' => v = 100 + rc 1 / 10 ∧ w' = wT X K r (te r [11] t)) := by
  refine met_start (by decide) (Nat.le_of_ble_eq_true rfl) ?_
  intro p e s m below meth c ls fx hS hl
  obtain ⟨hx, hb, hr, hml, hown, hG, hlk, hF, hz, hnm⟩ := fx
  have hown : s.vm.findClass RX2 = some m.cls := hown
  have hl : lv_has ls 1 [(0, .ref h)] := hl
  refine lv_aload_n hx hb dX2_need_0 rfl (lv_at hl 0 rfl) ?_
  refine m_get hx hb hG hown hF hS (i + 15) (wT_at hi) (kd_cls hk).1 (kd_cls hk).2 2 (by decide) kw_102 (fun _ h9 => h9) rfl dX2_need_1 ?_
  refine lv_bipush (v := 11) hx hb dX2_need_4 (by decide) ?_
  refine m_cv (m_runV (n := 1) (rest := []) ⟨hx, hb, hml, hown, hG⟩ (c_leave l X K r t 11 0 (ht.le (by decide))) kw_272 kw_249 kw_250 kw_19 kw_251 (by decide +kernel) (rl_ok (by omega) (by decide)) hF hz hS (q0 := 13) rfl rfl rfl hl.1 rfl (Nat.le_of_ble_eq_true rfl) dX2_need_6 ⟨Nat.le_refl 0, Nat.le_refl 0⟩) hS (fun w1 H locs hw1 hS => ?_)
  subst hw1
  refine lv_bipush (v := 100) hx hb dX2_need_9 (by decide) ?_
  refine lv_aload_n hx hb dX2_need_11 rfl (lv_at hl 0 rfl) ?_
  refine m_get hx hb hG hown hF hS (i + 15) (wT_at hi) (kd_cls hk).1 (kd_cls hk).2 1 (by decide) kw_100 (fun _ h9 => h9) rfl dX2_need_12 ?_
  refine lv_bipush (v := 10) hx hb dX2_need_15 (by decide) ?_
  refine lv_idiv hx hb dX2_need_17 (by decide) ?_
  refine lv_iadd hx hb dX2_need_18 ?_
  exact m_iret hx hb hr hlk hS ⟨rfl, rfl⟩ (Nat.le_refl 0) (Nat.le_refl 0) dX2_need_19
set_option maxHeartbeats 4000000 in
set_option maxRecDepth 100000 in
theorem c_Dbrown (l : Launch) (X : Cx) (K : KT) (r : Bool) (t : Tr) (h i : Nat) (rc : Rc) (w : Int32) (f : Nat) (hi : (kP K)[i]? = some (h, dE (kA K 3) rc)) (hk : kd rc < 7) (hf : 1 ≤ f) (ht : tR r 1 t) : cI l yX2_brown cX2_brown 2 (some .int) (rl f) X [.ref h, .int w] (wT X K r t) (fun v w' => v = w / 50 ∧ w' = wT X K r (te r [21] t)) := by
  refine met_start (by decide) (Nat.le_of_ble_eq_true rfl) ?_
  intro p e s m below meth c ls fx hS hl
  obtain ⟨hx, hb, hr, hml, hown, hG, hlk, hF, hz, hnm⟩ := fx
  have hown : s.vm.findClass RX2 = some m.cls := hown
  have hl : lv_has ls 2 [(0, .ref h), (1, .int w)] := hl
  refine lv_aload_n hx hb dX2_brown_0 rfl (lv_at hl 0 rfl) ?_
  refine m_get hx hb hG hown hF hS (i + 15) (wT_at hi) (kd_cls hk).1 (kd_cls hk).2 2 (by decide) kw_102 (fun _ h9 => h9) rfl dX2_brown_1 ?_
  refine lv_bipush (v := 21) hx hb dX2_brown_4 (by decide) ?_
  refine m_cv (m_runV (n := 1) (rest := []) ⟨hx, hb, hml, hown, hG⟩ (c_leave l X K r t 21 0 (ht.le (by decide))) kw_272 kw_249 kw_250 kw_19 kw_251 (by decide +kernel) (rl_ok (by omega) (by decide)) hF hz hS (q0 := 13) rfl rfl rfl hl.1 rfl (Nat.le_of_ble_eq_true rfl) dX2_brown_6 ⟨Nat.le_refl 0, Nat.le_refl 0⟩) hS (fun w1 H locs hw1 hS => ?_)
  subst hw1
  refine lv_iload_n hx hb dX2_brown_9 rfl (lv_at hl 1 rfl) ?_
  refine lv_bipush (v := 50) hx hb dX2_brown_10 (by decide) ?_
  refine lv_idiv hx hb dX2_brown_12 (by decide) ?_
  exact m_iret hx hb hr hlk hS ⟨rfl, rfl⟩ (Nat.le_refl 0) (Nat.le_refl 0) dX2_brown_13
set_option maxHeartbeats 4000000 in
set_option maxRecDepth 100000 in
theorem c_Dprice (l : Launch) (X : Cx) (K : KT) (r : Bool) (t : Tr) (h i : Nat) (rc : Rc) (f : Nat) (hi : (kP K)[i]? = some (h, dE (kA K 3) rc)) (hk : kd rc < 7) (hf : 1 ≤ f) (ht : tR r 1 t) : cI l yX2_price cX2_price 1 (some .int) (rl f) X [.ref h] (wT X K r t) (fun v w' => v = 10 + rc 1 / 5 ∧ w' = wT X K r (te r [31] t)) := by
  refine met_start (by decide) (Nat.le_of_ble_eq_true rfl) ?_
  intro p e s m below meth c ls fx hS hl
  obtain ⟨hx, hb, hr, hml, hown, hG, hlk, hF, hz, hnm⟩ := fx
  have hown : s.vm.findClass RX2 = some m.cls := hown
  have hl : lv_has ls 1 [(0, .ref h)] := hl
  refine lv_aload_n hx hb dX2_price_0 rfl (lv_at hl 0 rfl) ?_
  refine m_get hx hb hG hown hF hS (i + 15) (wT_at hi) (kd_cls hk).1 (kd_cls hk).2 2 (by decide) kw_102 (fun _ h9 => h9) rfl dX2_price_1 ?_
  refine lv_bipush (v := 31) hx hb dX2_price_4 (by decide) ?_
  refine m_cv (m_runV (n := 1) (rest := []) ⟨hx, hb, hml, hown, hG⟩ (c_leave l X K r t 31 0 (ht.le (by decide))) kw_272 kw_249 kw_250 kw_19 kw_251 (by decide +kernel) (rl_ok (by omega) (by decide)) hF hz hS (q0 := 13) rfl rfl rfl hl.1 rfl (Nat.le_of_ble_eq_true rfl) dX2_price_6 ⟨Nat.le_refl 0, Nat.le_refl 0⟩) hS (fun w1 H locs hw1 hS => ?_)
  subst hw1
  refine lv_bipush (v := 10) hx hb dX2_price_9 (by decide) ?_
  refine lv_aload_n hx hb dX2_price_11 rfl (lv_at hl 0 rfl) ?_
  refine m_get hx hb hG hown hF hS (i + 15) (wT_at hi) (kd_cls hk).1 (kd_cls hk).2 1 (by decide) kw_100 (fun _ h9 => h9) rfl dX2_price_12 ?_
  refine lv_iconst (v := 5) hx hb dX2_price_15 (by decide) ?_
  refine lv_idiv hx hb dX2_price_16 (by decide) ?_
  refine lv_iadd hx hb dX2_price_17 ?_
  exact m_iret hx hb hr hlk hS ⟨rfl, rfl⟩ (Nat.le_refl 0) (Nat.le_refl 0) dX2_price_18
theorem sub_up1 {args : Array Value} {s : State} {C T : String} (h : (Cond.superclass C T).before args s = true) : ∀ ps pd : ClassId, s.vm.findClass C = some ps → s.vm.findClass T = some pd → s.vm.isSubclass ps pd = true := fun ps pd h1 h2 => by
  obtain ⟨p, k, kp, a1, a2, a3, a4, -⟩ := Cond.superclass_spec h1 h
  cases h2.symm.trans a1
  have hlt : ps < s.vm.classes.size := (Array.getElem?_eq_some_iff.mp a2).1
  obtain ⟨n, hn⟩ : ∃ n, s.vm.classes.size = n + 1 := Nat.exists_eq_succ_of_ne_zero (Nat.ne_of_gt (Nat.lt_of_le_of_lt (Nat.zero_le _) hlt))
  simp [Vm.isSubclass, Vm.isSubclassAux, hn, a2, a4]
theorem sub_cast {args : Array Value} {s : State} {C D T O : String} (h : va_Nw (.castable C T) s) (hC : (Cond.superclass C D).before args s = true) (hT : (Cond.superclass T O).before args s = true) : ∀ ps pd : ClassId, s.vm.findClass C = some ps → s.vm.findClass T = some pd → s.vm.isSubclass ps pd = true := fun ps pd h1 h2 => by
  obtain ⟨c0, t0, f1, f2, f3⟩ := Cond.castable_spec (va_Nw.use (A := args) rfl h)
  cases h1.symm.trans f1
  cases h2.symm.trans f2
  obtain ⟨p, k, kp, a1, a2, a3, a4, a5, -⟩ := Cond.superclass_spec h1 hC
  obtain ⟨p', k', kp', b1, b2, b3, b4, b5, b6, b7⟩ := Cond.superclass_spec h2 hT
  exact isSubclass_of_assignable a2 b2 a5 b5 b7 f3
theorem sub_Yeast_Dough {X : Cx} {args : Array Value} {s : State} (hG : ∀ w ∈ G, w.before args s = true) (_ : mF X s) : ∀ ps pd : ClassId, s.vm.findClass RX7 = some ps → s.vm.findClass RX2 = some pd → s.vm.isSubclass ps pd = true := sub_up1 (hG _ kw_139)
theorem sub_Rye_Sour {X : Cx} {args : Array Value} {s : State} (hG : ∀ w ∈ G, w.before args s = true) (_ : mF X s) : ∀ ps pd : ClassId, s.vm.findClass RX3 = some ps → s.vm.findClass RX4 = some pd → s.vm.isSubclass ps pd = true := sub_up1 (hG _ kw_169)
theorem sub_Sweet_Dough {X : Cx} {args : Array Value} {s : State} (hG : ∀ w ∈ G, w.before args s = true) (_ : mF X s) : ∀ ps pd : ClassId, s.vm.findClass RX5 = some ps → s.vm.findClass RX2 = some pd → s.vm.isSubclass ps pd = true := sub_up1 (hG _ kw_199)
theorem sub_Sour_Yeast {X : Cx} {args : Array Value} {s : State} (hG : ∀ w ∈ G, w.before args s = true) (_ : mF X s) : ∀ ps pd : ClassId, s.vm.findClass RX4 = some ps → s.vm.findClass RX7 = some pd → s.vm.isSubclass ps pd = true := sub_up1 (hG _ kw_154)
theorem sub_Rye_Dough {X : Cx} {args : Array Value} {s : State} (hG : ∀ w ∈ G, w.before args s = true) (hF : mF X s) : ∀ ps pd : ClassId, s.vm.findClass RX3 = some ps → s.vm.findClass RX2 = some pd → s.vm.isSubclass ps pd = true := sub_cast (hF.2.2.1 3 (by decide) (by decide)) (hG _ kw_169) (hG _ kw_225)
theorem sub_Sour_Dough {X : Cx} {args : Array Value} {s : State} (hG : ∀ w ∈ G, w.before args s = true) (hF : mF X s) : ∀ ps pd : ClassId, s.vm.findClass RX4 = some ps → s.vm.findClass RX2 = some pd → s.vm.isSubclass ps pd = true := sub_cast (hF.2.2.1 2 (by decide) (by decide)) (hG _ kw_154) (hG _ kw_225)
theorem sub_Dough_Dough {X : Cx} {args : Array Value} {s : State} (_ : ∀ w ∈ G, w.before args s = true) (_ : mF X s) : ∀ ps pd : ClassId, s.vm.findClass RX2 = some ps → s.vm.findClass RX2 = some pd → s.vm.isSubclass ps pd = true := sub_self
theorem sub_Rye_Rye {X : Cx} {args : Array Value} {s : State} (_ : ∀ w ∈ G, w.before args s = true) (_ : mF X s) : ∀ ps pd : ClassId, s.vm.findClass RX3 = some ps → s.vm.findClass RX3 = some pd → s.vm.isSubclass ps pd = true := sub_self
set_option maxHeartbeats 4000000 in
set_option maxRecDepth 100000 in
theorem c_Srise (l : Launch) (X : Cx) (K : KT) (r : Bool) (t : Tr) (h i : Nat) (rc : Rc) (w : Int32) (f : Nat) (hi : (kP K)[i]? = some (h, dE (kA K 3) rc)) (hk : kd rc < 7) (hf : 2 ≤ f) (ht : tR r 2 t) : cI l yX4_rise cX4_rise 2 (some .int) (rl f) X [.ref h, .int w] (wT X K r t) (fun v w' => v = w / 4 / 2 + 1 ∧ w' = wT X K r (te r [2, 1] t)) := by
  refine met_start (by decide) (Nat.le_of_ble_eq_true rfl) ?_
  intro p e s m below meth c ls fx hS hl
  obtain ⟨hx, hb, hr, hml, hown, hG, hlk, hF, hz, hnm⟩ := fx
  have hown : s.vm.findClass RX4 = some m.cls := hown
  have hl : lv_has ls 2 [(0, .ref h), (1, .int w)] := hl
  refine lv_aload_n hx hb dX4_rise_0 rfl (lv_at hl 0 rfl) ?_
  refine m_get hx hb hG hown hF hS (i + 15) (wT_at hi) (kd_cls hk).1 (kd_cls hk).2 2 (by decide) kw_105 (sf_Sour hG) rfl dX4_rise_1 ?_
  refine lv_iconst (v := 2) hx hb dX4_rise_4 (by decide) ?_
  refine m_cv (m_runV (n := 1) (rest := []) ⟨hx, hb, hml, hown, hG⟩ (c_leave l X K r t 2 0 (ht.le (by decide))) kw_257 kw_249 kw_250 kw_19 kw_251 (by decide +kernel) (rl_ok (by omega) (by decide)) hF hz hS (q0 := 13) rfl rfl rfl hl.1 rfl (Nat.le_of_ble_eq_true rfl) dX4_rise_5 ⟨Nat.le_refl 0, Nat.le_refl 0⟩) hS (fun w1 H locs hw1 hS => ?_)
  subst hw1
  refine lv_aload_n hx hb dX4_rise_8 rfl (lv_at hl 0 rfl) ?_
  refine lv_iload_n hx hb dX4_rise_9 rfl (lv_at hl 1 rfl) ?_
  refine m_ci (m_runSU (x := ⟨RX7, "rise", "(I)I"⟩) (n := 1) (rest := []) ⟨hx, hb, hml, hown, hG⟩ (c_Drise l X K r (te r [2] t) h i rc w 1 hi hk (by decide) (ht.step (by decide))) kw_258 kw_259 kw_154 kw_242 kw_21 kw_271 (sub_Yeast_Dough hG hF) ⟨rfl, rfl⟩ (by decide +kernel) (rl_ok (by omega) (by decide)) hF hz hS (q0 := i + 15) (wT_at hi) (kd_cls hk).1 rfl hl.1 rfl (Nat.le_of_ble_eq_true rfl) dX4_rise_10 ⟨Nat.le_refl 0, Nat.le_refl 0⟩) hS (fun r_1 w2 H locs hw2 hS => ?_)
  obtain ⟨rfl, rfl⟩ := hw2
  rw [te_te] at hS
  refine lv_iconst (v := 2) hx hb dX4_rise_13 (by decide) ?_
  refine lv_idiv hx hb dX4_rise_14 (by decide) ?_
  refine lv_iconst (v := 1) hx hb dX4_rise_15 (by decide) ?_
  refine lv_iadd hx hb dX4_rise_16 ?_
  exact m_iret hx hb hr hlk hS ⟨rfl, rfl⟩ (Nat.le_refl 0) (Nat.le_refl 0) dX4_rise_17
set_option maxHeartbeats 4000000 in
set_option maxRecDepth 100000 in
theorem c_Brise (l : Launch) (X : Cx) (K : KT) (r : Bool) (t : Tr) (h i : Nat) (rc : Rc) (w : Int32) (f : Nat) (hi : (kP K)[i]? = some (h, dE (kA K 3) rc)) (hk : kd rc < 7) (hf : 3 ≤ f) (ht : tR r 3 t) : cI l yX0_rise cX0_rise 2 (some .int) (rl f) X [.ref h, .int w] (wT X K r t) (fun v w' => v = w / 4 / 2 + 1 - 1 ∧ w' = wT X K r (te r [3, 2, 1] t)) := by
  refine met_start (by decide) (Nat.le_of_ble_eq_true rfl) ?_
  intro p e s m below meth c ls fx hS hl
  obtain ⟨hx, hb, hr, hml, hown, hG, hlk, hF, hz, hnm⟩ := fx
  have hown : s.vm.findClass RX0 = some m.cls := hown
  have hl : lv_has ls 2 [(0, .ref h), (1, .int w)] := hl
  refine lv_aload_n hx hb dX0_rise_0 rfl (lv_at hl 0 rfl) ?_
  refine m_get hx hb hG hown hF hS (i + 15) (wT_at hi) (kd_cls hk).1 (kd_cls hk).2 2 (by decide) kw_103 (sf_Black hG) rfl dX0_rise_1 ?_
  refine lv_iconst (v := 3) hx hb dX0_rise_4 (by decide) ?_
  refine m_cv (m_runV (n := 1) (rest := []) ⟨hx, hb, hml, hown, hG⟩ (c_leave l X K r t 3 0 (ht.le (by decide))) kw_248 kw_249 kw_250 kw_19 kw_251 (by decide +kernel) (rl_ok (by omega) (by decide)) hF hz hS (q0 := 13) rfl rfl rfl hl.1 rfl (Nat.le_of_ble_eq_true rfl) dX0_rise_5 ⟨Nat.le_refl 0, Nat.le_refl 0⟩) hS (fun w1 H locs hw1 hS => ?_)
  subst hw1
  refine lv_aload_n hx hb dX0_rise_8 rfl (lv_at hl 0 rfl) ?_
  refine lv_iload_n hx hb dX0_rise_9 rfl (lv_at hl 1 rfl) ?_
  refine m_ci (m_runSU (x := ⟨RX3, "rise", "(I)I"⟩) (n := 1) (rest := []) ⟨hx, hb, hml, hown, hG⟩ (c_Srise l X K r (te r [3] t) h i rc w 2 hi hk (by decide) (ht.step (by decide))) kw_252 kw_253 kw_184 kw_255 kw_23 kw_256 (sub_Rye_Sour hG hF) ⟨rfl, rfl⟩ (by decide +kernel) (rl_ok (by omega) (by decide)) hF hz hS (q0 := i + 15) (wT_at hi) (kd_cls hk).1 rfl hl.1 rfl (Nat.le_of_ble_eq_true rfl) dX0_rise_10 ⟨Nat.le_refl 0, Nat.le_refl 0⟩) hS (fun r_1 w2 H locs hw2 hS => ?_)
  obtain ⟨rfl, rfl⟩ := hw2
  rw [te_te] at hS
  refine lv_iconst (v := 1) hx hb dX0_rise_13 (by decide) ?_
  refine lv_isub hx hb dX0_rise_14 ?_
  exact m_iret hx hb hr hlk hS ⟨rfl, rfl⟩ (Nat.le_refl 0) (Nat.le_refl 0) dX0_rise_15
set_option maxHeartbeats 4000000 in
set_option maxRecDepth 100000 in
theorem c_Urise (l : Launch) (X : Cx) (K : KT) (r : Bool) (t : Tr) (h i : Nat) (rc : Rc) (w : Int32) (f : Nat) (hi : (kP K)[i]? = some (h, dE (kA K 3) rc)) (hk : kd rc < 7) (hf : 2 ≤ f) (ht : tR r 2 t) : cI l yX1_rise cX1_rise 2 (some .int) (rl f) X [.ref h, .int w] (wT X K r t) (fun v w' => v = w / 4 + w / 10 ∧ w' = wT X K r (te r [4, 1] t)) := by
  refine met_start (by decide) (Nat.le_of_ble_eq_true rfl) ?_
  intro p e s m below meth c ls fx hS hl
  obtain ⟨hx, hb, hr, hml, hown, hG, hlk, hF, hz, hnm⟩ := fx
  have hown : s.vm.findClass RX1 = some m.cls := hown
  have hl : lv_has ls 2 [(0, .ref h), (1, .int w)] := hl
  refine lv_aload_n hx hb dX1_rise_0 rfl (lv_at hl 0 rfl) ?_
  refine m_get hx hb hG hown hF hS (i + 15) (wT_at hi) (kd_cls hk).1 (kd_cls hk).2 2 (by decide) kw_107 (sf_Butter hG) rfl dX1_rise_1 ?_
  refine lv_iconst (v := 4) hx hb dX1_rise_4 (by decide) ?_
  refine m_cv (m_runV (n := 1) (rest := []) ⟨hx, hb, hml, hown, hG⟩ (c_leave l X K r t 4 0 (ht.le (by decide))) kw_264 kw_249 kw_250 kw_19 kw_251 (by decide +kernel) (rl_ok (by omega) (by decide)) hF hz hS (q0 := 13) rfl rfl rfl hl.1 rfl (Nat.le_of_ble_eq_true rfl) dX1_rise_5 ⟨Nat.le_refl 0, Nat.le_refl 0⟩) hS (fun w1 H locs hw1 hS => ?_)
  subst hw1
  refine lv_aload_n hx hb dX1_rise_8 rfl (lv_at hl 0 rfl) ?_
  refine lv_iload_n hx hb dX1_rise_9 rfl (lv_at hl 1 rfl) ?_
  refine m_ci (m_runSU (x := ⟨RX5, "rise", "(I)I"⟩) (n := 1) (rest := []) ⟨hx, hb, hml, hown, hG⟩ (c_Drise l X K r (te r [4] t) h i rc w 1 hi hk (by decide) (ht.step (by decide))) kw_265 kw_266 kw_214 kw_242 kw_21 kw_271 (sub_Sweet_Dough hG hF) ⟨rfl, rfl⟩ (by decide +kernel) (rl_ok (by omega) (by decide)) hF hz hS (q0 := i + 15) (wT_at hi) (kd_cls hk).1 rfl hl.1 rfl (Nat.le_of_ble_eq_true rfl) dX1_rise_10 ⟨Nat.le_refl 0, Nat.le_refl 0⟩) hS (fun r_1 w2 H locs hw2 hS => ?_)
  obtain ⟨rfl, rfl⟩ := hw2
  rw [te_te] at hS
  refine lv_iload_n hx hb dX1_rise_13 rfl (lv_at hl 1 rfl) ?_
  refine lv_bipush (v := 10) hx hb dX1_rise_14 (by decide) ?_
  refine lv_idiv hx hb dX1_rise_16 (by decide) ?_
  refine lv_iadd hx hb dX1_rise_17 ?_
  exact m_iret hx hb hr hlk hS ⟨rfl, rfl⟩ (Nat.le_refl 0) (Nat.le_refl 0) dX1_rise_18
set_option maxHeartbeats 4000000 in
set_option maxRecDepth 100000 in
theorem c_Yneed (l : Launch) (X : Cx) (K : KT) (r : Bool) (t : Tr) (h i : Nat) (rc : Rc) (f : Nat) (hi : (kP K)[i]? = some (h, dE (kA K 3) rc)) (hk : kd rc < 7) (hf : 2 ≤ f) (ht : tR r 2 t) : cI l yX7_need cX7_need 1 (some .int) (rl f) X [.ref h] (wT X K r t) (fun v w' => v = 100 + rc 1 / 10 + 50 ∧ w' = wT X K r (te r [12, 11] t)) := by
  refine met_start (by decide) (Nat.le_of_ble_eq_true rfl) ?_
  intro p e s m below meth c ls fx hS hl
  obtain ⟨hx, hb, hr, hml, hown, hG, hlk, hF, hz, hnm⟩ := fx
  have hown : s.vm.findClass RX7 = some m.cls := hown
  have hl : lv_has ls 1 [(0, .ref h)] := hl
  refine lv_aload_n hx hb dX7_need_0 rfl (lv_at hl 0 rfl) ?_
  refine m_get hx hb hG hown hF hS (i + 15) (wT_at hi) (kd_cls hk).1 (kd_cls hk).2 2 (by decide) kw_111 (sf_Yeast hG) rfl dX7_need_1 ?_
  refine lv_bipush (v := 12) hx hb dX7_need_4 (by decide) ?_
  refine m_cv (m_runV (n := 1) (rest := []) ⟨hx, hb, hml, hown, hG⟩ (c_leave l X K r t 12 0 (ht.le (by decide))) kw_286 kw_249 kw_250 kw_19 kw_251 (by decide +kernel) (rl_ok (by omega) (by decide)) hF hz hS (q0 := 13) rfl rfl rfl hl.1 rfl (Nat.le_of_ble_eq_true rfl) dX7_need_6 ⟨Nat.le_refl 0, Nat.le_refl 0⟩) hS (fun w1 H locs hw1 hS => ?_)
  subst hw1
  refine lv_aload_n hx hb dX7_need_9 rfl (lv_at hl 0 rfl) ?_
  refine m_ci (m_runSU (x := yX2_need) (n := 0) (rest := []) ⟨hx, hb, hml, hown, hG⟩ (c_Dneed l X K r (te r [12] t) h i rc 1 hi hk (by decide) (ht.step (by decide))) kw_287 kw_276 kw_139 kw_274 kw_21 kw_296 (sub_Dough_Dough hG hF) ⟨rfl, rfl⟩ (by decide +kernel) (rl_ok (by omega) (by decide)) hF hz hS (q0 := i + 15) (wT_at hi) (kd_cls hk).1 rfl hl.1 rfl (Nat.le_of_ble_eq_true rfl) dX7_need_10 ⟨Nat.le_refl 0, Nat.le_refl 0⟩) hS (fun r_1 w2 H locs hw2 hS => ?_)
  obtain ⟨rfl, rfl⟩ := hw2
  rw [te_te] at hS
  refine lv_bipush (v := 50) hx hb dX7_need_13 (by decide) ?_
  refine lv_iadd hx hb dX7_need_15 ?_
  exact m_iret hx hb hr hlk hS ⟨rfl, rfl⟩ (Nat.le_refl 0) (Nat.le_refl 0) dX7_need_16
set_option maxHeartbeats 4000000 in
set_option maxRecDepth 100000 in
theorem c_Bbrown (l : Launch) (X : Cx) (K : KT) (r : Bool) (t : Tr) (h i : Nat) (rc : Rc) (w : Int32) (f : Nat) (hi : (kP K)[i]? = some (h, dE (kA K 3) rc)) (hk : kd rc < 7) (hf : 2 ≤ f) (ht : tR r 2 t) : cI l yX0_brown cX0_brown 2 (some .int) (rl f) X [.ref h, .int w] (wT X K r t) (fun v w' => v = (w / 50 + 2) / 3 ∧ w' = wT X K r (te r [22, 21] t)) := by
  refine met_start (by decide) (Nat.le_of_ble_eq_true rfl) ?_
  intro p e s m below meth c ls fx hS hl
  obtain ⟨hx, hb, hr, hml, hown, hG, hlk, hF, hz, hnm⟩ := fx
  have hown : s.vm.findClass RX0 = some m.cls := hown
  have hl : lv_has ls 2 [(0, .ref h), (1, .int w)] := hl
  refine lv_aload_n hx hb dX0_brown_0 rfl (lv_at hl 0 rfl) ?_
  refine m_get hx hb hG hown hF hS (i + 15) (wT_at hi) (kd_cls hk).1 (kd_cls hk).2 2 (by decide) kw_103 (sf_Black hG) rfl dX0_brown_1 ?_
  refine lv_bipush (v := 22) hx hb dX0_brown_4 (by decide) ?_
  refine m_cv (m_runV (n := 1) (rest := []) ⟨hx, hb, hml, hown, hG⟩ (c_leave l X K r t 22 0 (ht.le (by decide))) kw_248 kw_249 kw_250 kw_19 kw_251 (by decide +kernel) (rl_ok (by omega) (by decide)) hF hz hS (q0 := 13) rfl rfl rfl hl.1 rfl (Nat.le_of_ble_eq_true rfl) dX0_brown_6 ⟨Nat.le_refl 0, Nat.le_refl 0⟩) hS (fun w1 H locs hw1 hS => ?_)
  subst hw1
  refine lv_aload_n hx hb dX0_brown_9 rfl (lv_at hl 0 rfl) ?_
  refine lv_iload_n hx hb dX0_brown_10 rfl (lv_at hl 1 rfl) ?_
  refine m_ci (m_runSU (x := ⟨RX3, "brown", "(I)I"⟩) (n := 1) (rest := []) ⟨hx, hb, hml, hown, hG⟩ (c_Dbrown l X K r (te r [22] t) h i rc w 1 hi hk (by decide) (ht.step (by decide))) kw_304 kw_305 kw_184 kw_298 kw_21 kw_316 (sub_Rye_Dough hG hF) ⟨rfl, rfl⟩ (by decide +kernel) (rl_ok (by omega) (by decide)) hF hz hS (q0 := i + 15) (wT_at hi) (kd_cls hk).1 rfl hl.1 rfl (Nat.le_of_ble_eq_true rfl) dX0_brown_11 ⟨Nat.le_refl 0, Nat.le_refl 0⟩) hS (fun r_1 w2 H locs hw2 hS => ?_)
  obtain ⟨rfl, rfl⟩ := hw2
  rw [te_te] at hS
  refine lv_iconst (v := 2) hx hb dX0_brown_14 (by decide) ?_
  refine lv_iadd hx hb dX0_brown_15 ?_
  refine lv_iconst (v := 3) hx hb dX0_brown_16 (by decide) ?_
  refine lv_idiv hx hb dX0_brown_17 (by decide) ?_
  exact m_iret hx hb hr hlk hS ⟨rfl, rfl⟩ (Nat.le_refl 0) (Nat.le_refl 0) dX0_brown_18
set_option maxHeartbeats 4000000 in
set_option maxRecDepth 100000 in
theorem c_Wbrown (l : Launch) (X : Cx) (K : KT) (r : Bool) (t : Tr) (h i : Nat) (rc : Rc) (w : Int32) (f : Nat) (hi : (kP K)[i]? = some (h, dE (kA K 3) rc)) (hk : kd rc < 7) (hf : 2 ≤ f) (ht : tR r 2 t) : cI l yX5_brown cX5_brown 2 (some .int) (rl f) X [.ref h, .int w] (wT X K r t) (fun v w' => v = w / 50 + 1 ∧ w' = wT X K r (te r [23, 21] t)) := by
  refine met_start (by decide) (Nat.le_of_ble_eq_true rfl) ?_
  intro p e s m below meth c ls fx hS hl
  obtain ⟨hx, hb, hr, hml, hown, hG, hlk, hF, hz, hnm⟩ := fx
  have hown : s.vm.findClass RX5 = some m.cls := hown
  have hl : lv_has ls 2 [(0, .ref h), (1, .int w)] := hl
  refine lv_aload_n hx hb dX5_brown_0 rfl (lv_at hl 0 rfl) ?_
  refine m_get hx hb hG hown hF hS (i + 15) (wT_at hi) (kd_cls hk).1 (kd_cls hk).2 2 (by decide) kw_113 (sf_Sweet hG) rfl dX5_brown_1 ?_
  refine lv_bipush (v := 23) hx hb dX5_brown_4 (by decide) ?_
  refine m_cv (m_runV (n := 1) (rest := []) ⟨hx, hb, hml, hown, hG⟩ (c_leave l X K r t 23 0 (ht.le (by decide))) kw_310 kw_249 kw_250 kw_19 kw_251 (by decide +kernel) (rl_ok (by omega) (by decide)) hF hz hS (q0 := 13) rfl rfl rfl hl.1 rfl (Nat.le_of_ble_eq_true rfl) dX5_brown_6 ⟨Nat.le_refl 0, Nat.le_refl 0⟩) hS (fun w1 H locs hw1 hS => ?_)
  subst hw1
  refine lv_aload_n hx hb dX5_brown_9 rfl (lv_at hl 0 rfl) ?_
  refine lv_iload_n hx hb dX5_brown_10 rfl (lv_at hl 1 rfl) ?_
  refine m_ci (m_runSU (x := yX2_brown) (n := 1) (rest := []) ⟨hx, hb, hml, hown, hG⟩ (c_Dbrown l X K r (te r [23] t) h i rc w 1 hi hk (by decide) (ht.step (by decide))) kw_311 kw_300 kw_199 kw_298 kw_21 kw_316 (sub_Dough_Dough hG hF) ⟨rfl, rfl⟩ (by decide +kernel) (rl_ok (by omega) (by decide)) hF hz hS (q0 := i + 15) (wT_at hi) (kd_cls hk).1 rfl hl.1 rfl (Nat.le_of_ble_eq_true rfl) dX5_brown_11 ⟨Nat.le_refl 0, Nat.le_refl 0⟩) hS (fun r_1 w2 H locs hw2 hS => ?_)
  obtain ⟨rfl, rfl⟩ := hw2
  rw [te_te] at hS
  refine lv_iconst (v := 1) hx hb dX5_brown_14 (by decide) ?_
  refine lv_iadd hx hb dX5_brown_15 ?_
  exact m_iret hx hb hr hlk hS ⟨rfl, rfl⟩ (Nat.le_refl 0) (Nat.le_refl 0) dX5_brown_16
set_option maxHeartbeats 4000000 in
set_option maxRecDepth 100000 in
theorem c_Rprice (l : Launch) (X : Cx) (K : KT) (r : Bool) (t : Tr) (h i : Nat) (rc : Rc) (f : Nat) (hi : (kP K)[i]? = some (h, dE (kA K 3) rc)) (hk : kd rc < 7) (hf : 2 ≤ f) (ht : tR r 2 t) : cI l yX3_price cX3_price 1 (some .int) (rl f) X [.ref h] (wT X K r t) (fun v w' => v = 10 + rc 1 / 5 + 40 ∧ w' = wT X K r (te r [32, 31] t)) := by
  refine met_start (by decide) (Nat.le_of_ble_eq_true rfl) ?_
  intro p e s m below meth c ls fx hS hl
  obtain ⟨hx, hb, hr, hml, hown, hG, hlk, hF, hz, hnm⟩ := fx
  have hown : s.vm.findClass RX3 = some m.cls := hown
  have hl : lv_has ls 1 [(0, .ref h)] := hl
  refine lv_aload_n hx hb dX3_price_0 rfl (lv_at hl 0 rfl) ?_
  refine m_get hx hb hG hown hF hS (i + 15) (wT_at hi) (kd_cls hk).1 (kd_cls hk).2 2 (by decide) kw_109 (sf_Rye hG) rfl dX3_price_1 ?_
  refine lv_bipush (v := 32) hx hb dX3_price_4 (by decide) ?_
  refine m_cv (m_runV (n := 1) (rest := []) ⟨hx, hb, hml, hown, hG⟩ (c_leave l X K r t 32 0 (ht.le (by decide))) kw_280 kw_249 kw_250 kw_19 kw_251 (by decide +kernel) (rl_ok (by omega) (by decide)) hF hz hS (q0 := 13) rfl rfl rfl hl.1 rfl (Nat.le_of_ble_eq_true rfl) dX3_price_6 ⟨Nat.le_refl 0, Nat.le_refl 0⟩) hS (fun w1 H locs hw1 hS => ?_)
  subst hw1
  refine lv_aload_n hx hb dX3_price_9 rfl (lv_at hl 0 rfl) ?_
  refine m_ci (m_runSU (x := ⟨RX4, "price", "()I"⟩) (n := 0) (rest := []) ⟨hx, hb, hml, hown, hG⟩ (c_Dprice l X K r (te r [32] t) h i rc 1 hi hk (by decide) (ht.step (by decide))) kw_327 kw_328 kw_169 kw_318 kw_21 kw_343 (sub_Sour_Dough hG hF) ⟨rfl, rfl⟩ (by decide +kernel) (rl_ok (by omega) (by decide)) hF hz hS (q0 := i + 15) (wT_at hi) (kd_cls hk).1 rfl hl.1 rfl (Nat.le_of_ble_eq_true rfl) dX3_price_10 ⟨Nat.le_refl 0, Nat.le_refl 0⟩) hS (fun r_1 w2 H locs hw2 hS => ?_)
  obtain ⟨rfl, rfl⟩ := hw2
  rw [te_te] at hS
  refine lv_bipush (v := 40) hx hb dX3_price_13 (by decide) ?_
  refine lv_iadd hx hb dX3_price_15 ?_
  exact m_iret hx hb hr hlk hS ⟨rfl, rfl⟩ (Nat.le_refl 0) (Nat.le_refl 0) dX3_price_16
set_option maxHeartbeats 4000000 in
set_option maxRecDepth 100000 in
theorem c_Uprice (l : Launch) (X : Cx) (K : KT) (r : Bool) (t : Tr) (h i : Nat) (rc : Rc) (f : Nat) (hi : (kP K)[i]? = some (h, dE (kA K 3) rc)) (hk : kd rc < 7) (hf : 2 ≤ f) (ht : tR r 2 t) : cI l yX1_price cX1_price 1 (some .int) (rl f) X [.ref h] (wT X K r t) (fun v w' => v = 2 * (10 + rc 1 / 5) ∧ w' = wT X K r (te r [34, 31] t)) := by
  refine met_start (by decide) (Nat.le_of_ble_eq_true rfl) ?_
  intro p e s m below meth c ls fx hS hl
  obtain ⟨hx, hb, hr, hml, hown, hG, hlk, hF, hz, hnm⟩ := fx
  have hown : s.vm.findClass RX1 = some m.cls := hown
  have hl : lv_has ls 1 [(0, .ref h)] := hl
  refine lv_aload_n hx hb dX1_price_0 rfl (lv_at hl 0 rfl) ?_
  refine m_get hx hb hG hown hF hS (i + 15) (wT_at hi) (kd_cls hk).1 (kd_cls hk).2 2 (by decide) kw_107 (sf_Butter hG) rfl dX1_price_1 ?_
  refine lv_bipush (v := 34) hx hb dX1_price_4 (by decide) ?_
  refine m_cv (m_runV (n := 1) (rest := []) ⟨hx, hb, hml, hown, hG⟩ (c_leave l X K r t 34 0 (ht.le (by decide))) kw_264 kw_249 kw_250 kw_19 kw_251 (by decide +kernel) (rl_ok (by omega) (by decide)) hF hz hS (q0 := 13) rfl rfl rfl hl.1 rfl (Nat.le_of_ble_eq_true rfl) dX1_price_6 ⟨Nat.le_refl 0, Nat.le_refl 0⟩) hS (fun w1 H locs hw1 hS => ?_)
  subst hw1
  refine lv_iconst (v := 2) hx hb dX1_price_9 (by decide) ?_
  refine lv_aload_n hx hb dX1_price_10 rfl (lv_at hl 0 rfl) ?_
  refine m_ci (m_runSU (x := ⟨RX5, "price", "()I"⟩) (n := 0) (rest := [.int 2]) ⟨hx, hb, hml, hown, hG⟩ (c_Dprice l X K r (te r [34] t) h i rc 1 hi hk (by decide) (ht.step (by decide))) kw_337 kw_338 kw_214 kw_318 kw_21 kw_343 (sub_Sweet_Dough hG hF) ⟨rfl, rfl⟩ (by decide +kernel) (rl_ok (by omega) (by decide)) hF hz hS (q0 := i + 15) (wT_at hi) (kd_cls hk).1 rfl hl.1 rfl (Nat.le_of_ble_eq_true rfl) dX1_price_11 ⟨Nat.le_refl 0, Nat.le_refl 0⟩) hS (fun r_1 w2 H locs hw2 hS => ?_)
  obtain ⟨rfl, rfl⟩ := hw2
  rw [te_te] at hS
  refine lv_imul hx hb dX1_price_14 ?_
  exact m_iret hx hb hr hlk hS ⟨rfl, rfl⟩ (Nat.le_refl 0) (Nat.le_refl 0) dX1_price_15
end
section
def yRise (k : Nat) : MethodName := match k with
  | 0 => yX2_rise
  | 1 => yX2_rise
  | 2 => yX4_rise
  | 3 => yX4_rise
  | 4 => yX0_rise
  | 5 => yX2_rise
  | _ => yX1_rise
def bRise (k : Nat) : ByteArray := match k with
  | 0 => cX2_rise
  | 1 => cX2_rise
  | 2 => cX4_rise
  | 3 => cX4_rise
  | 4 => cX0_rise
  | 5 => cX2_rise
  | _ => cX1_rise
def nRise (k : Nat) : Nat := match k with
  | 0 => 2
  | 1 => 2
  | 2 => 2
  | 3 => 2
  | 4 => 2
  | 5 => 2
  | _ => 2
theorem fam_rise (k : Nat) (h1 : 0 ≤ k) (h2 : k < 7) : Cond.selects (RD k) yX2_rise (yRise k) ∈ G ∧ Cond.instanceMethod (yRise k) ∈ G ∧ Cond.initialized (yRise k).cls ∈ G ∧ Cond.code (yRise k) (bRise k) (nRise k) (some .int) ∈ G ∧ nRise k ≤ 8 :=
  match k, h1, h2 with
  | 0, _, _ => ⟨kw_243, kw_242, kw_21, kw_271, by decide⟩
  | 1, _, _ => ⟨kw_270, kw_242, kw_21, kw_271, by decide⟩
  | 2, _, _ => ⟨kw_268, kw_255, kw_23, kw_256, by decide⟩
  | 3, _, _ => ⟨kw_267, kw_255, kw_23, kw_256, by decide⟩
  | 4, _, _ => ⟨kw_245, kw_246, kw_25, kw_247, by decide⟩
  | 5, _, _ => ⟨kw_269, kw_242, kw_21, kw_271, by decide⟩
  | 6, _, _ => ⟨kw_261, kw_262, kw_27, kw_263, by decide⟩
set_option maxHeartbeats 4000000 in
set_option maxRecDepth 100000 in
theorem f_rise (l : Launch) (X : Cx) (K : KT) (r : Bool) (t : Tr) (h i : Nat) (rc : Rc) (k : Nat) (w : Int32) (f : Nat) (hi : (kP K)[i]? = some (h, dE (kA K 3) rc)) (hk : kd rc = k) (h1 : 0 ≤ k) (h2 : k < 7) (hf : 3 ≤ f) (ht : tR r 3 t) : cI l (yRise k) (bRise k) (nRise k) (some .int) (rl f) X [.ref h, .int w] (wT X K r t) (fun v w' => v = riseV k w ∧ w' = wT X K r (te r (riseT k) t)) :=
  match k, hk, h1, h2 with
  | 0, hk, _, _ => c_Drise l X K r t h i rc w f hi (by rw [hk]; decide) (by omega) (ht.le (by decide))
  | 1, hk, _, _ => c_Drise l X K r t h i rc w f hi (by rw [hk]; decide) (by omega) (ht.le (by decide))
  | 2, hk, _, _ => c_Srise l X K r t h i rc w f hi (by rw [hk]; decide) (by omega) (ht.le (by decide))
  | 3, hk, _, _ => c_Srise l X K r t h i rc w f hi (by rw [hk]; decide) (by omega) (ht.le (by decide))
  | 4, hk, _, _ => c_Brise l X K r t h i rc w f hi (by rw [hk]; decide) (by omega) (ht.le (by decide))
  | 5, hk, _, _ => c_Drise l X K r t h i rc w f hi (by rw [hk]; decide) (by omega) (ht.le (by decide))
  | 6, hk, _, _ => c_Urise l X K r t h i rc w f hi (by rw [hk]; decide) (by omega) (ht.le (by decide))
set_option maxHeartbeats 4000000 in
set_option maxRecDepth 100000 in
theorem c_Rneed3 (l : Launch) (X : Cx) (K : KT) (r : Bool) (t : Tr) (h i : Nat) (rc : Rc) (f : Nat) (hi : (kP K)[i]? = some (h, dE (kA K 3) rc)) (hk : kd rc = 3) (hf : 4 ≤ f) (ht : tR r 5 t) : cI l yX3_need cX3_need 2 (some .int) (rl f) X [.ref h] (wT X K r t) (fun v w' => v = needV 3 (rc 1) ∧ w' = wT X K r (te r (needT 3) t)) := by
  refine met_start (by decide) (Nat.le_of_ble_eq_true rfl) ?_
  intro p e s m below meth c ls fx hS hl
  obtain ⟨hx, hb, hr, hml, hown, hG, hlk, hF, hz, hnm⟩ := fx
  have hown : s.vm.findClass RX3 = some m.cls := hown
  have hl : lv_has ls 2 [(0, .ref h)] := hl
  have hk7 : kd rc < 7 := by rw [hk]; decide
  have hc : classes[kd rc]? = some (RX3, TD, 8) := by rw [hk]; rfl
  refine lv_aload_n hx hb dX3_need_0 rfl (lv_at hl 0 rfl) ?_
  refine m_get hx hb hG hown hF hS (i + 15) (wT_at hi) (kd_cls hk7).1 (kd_cls hk7).2 2 (by decide) kw_109 (sf_Rye hG) rfl dX3_need_1 ?_
  refine lv_bipush (v := 13) hx hb dX3_need_4 (by decide) ?_
  refine m_cv (m_runV (n := 1) (rest := []) ⟨hx, hb, hml, hown, hG⟩ (c_leave l X K r t 13 0 (ht.le (by decide))) kw_280 kw_249 kw_250 kw_19 kw_251 (by decide +kernel) (rl_ok (by omega) (by decide)) hF hz hS (q0 := 13) rfl rfl rfl hl.1 rfl (Nat.le_of_ble_eq_true rfl) dX3_need_6 ⟨Nat.le_refl 0, Nat.le_refl 0⟩) hS (fun w1 H locs hw1 hS => ?_)
  subst hw1
  refine lv_aload_n hx hb dX3_need_9 rfl (lv_at hl 0 rfl) ?_
  refine m_ci (m_runSU (x := ⟨RX4, "need", "()I"⟩) (n := 0) (rest := []) ⟨hx, hb, hml, hown, hG⟩ (c_Yneed l X K r (te r [13] t) h i rc 2 hi hk7 (by decide) (ht.step (by decide))) kw_281 kw_282 kw_169 kw_284 kw_22 kw_285 (sub_Sour_Yeast hG hF) ⟨rfl, rfl⟩ (by decide +kernel) (rl_ok (by omega) (by decide)) hF hz hS (q0 := i + 15) (wT_at hi) (kd_cls hk7).1 rfl hl.1 rfl (Nat.le_of_ble_eq_true rfl) dX3_need_10 ⟨Nat.le_refl 0, Nat.le_refl 0⟩) hS (fun r_1 w2 H locs hw2 hS => ?_)
  obtain ⟨rfl, rfl⟩ := hw2
  rw [te_te] at hS
  refine lv_istore_n (lv' := [(1, .int (100 + rc 1 / 10 + 50)), (0, .ref h)]) hx hb dX3_need_13 rfl hl (by decide) rfl (fun ls hl => ?_)
  refine lv_iload_n hx hb dX3_need_14 rfl (lv_at hl 0 rfl) ?_
  refine lv_aload_n hx hb dX3_need_15 rfl (lv_at hl 1 rfl) ?_
  refine lv_bipush (v := 20) hx hb dX3_need_16 (by decide) ?_
  refine m_ci (m_runU (x := ⟨RX3, "rise", "(I)I"⟩) (owner := "DoughRoom$Sour") (n := 1) (rest := [.int (100 + rc 1 / 10 + 50)]) ⟨hx, hb, hml, hown, hG⟩ (c_Srise l X K r (te r [13, 12, 11] t) h i rc 20 3 hi hk7 (by decide) (ht.step (by decide))) kw_288 kw_253 kw_255 kw_256 kw_255 kw_290 kw_23 kw_256 (by decide +kernel) (rl_ok (by omega) (by decide)) hF hz hS (q0 := i + 15) (wT_at hi) hc rfl hl.1 rfl (Nat.le_of_ble_eq_true rfl) dX3_need_18 ⟨Nat.le_refl 0, Nat.le_refl 0⟩) hS (fun r_2 w3 H locs hw3 hS => ?_)
  obtain ⟨rfl, rfl⟩ := hw3
  rw [te_te] at hS
  refine lv_iadd hx hb dX3_need_21 ?_
  exact m_iret hx hb hr hlk hS ⟨rfl, rfl⟩ (Nat.le_refl 0) (Nat.le_refl 0) dX3_need_22
set_option maxHeartbeats 4000000 in
set_option maxRecDepth 100000 in
theorem c_Rneed4 (l : Launch) (X : Cx) (K : KT) (r : Bool) (t : Tr) (h i : Nat) (rc : Rc) (f : Nat) (hi : (kP K)[i]? = some (h, dE (kA K 3) rc)) (hk : kd rc = 4) (hf : 4 ≤ f) (ht : tR r 6 t) : cI l yX3_need cX3_need 2 (some .int) (rl f) X [.ref h] (wT X K r t) (fun v w' => v = needV 4 (rc 1) ∧ w' = wT X K r (te r (needT 4) t)) := by
  refine met_start (by decide) (Nat.le_of_ble_eq_true rfl) ?_
  intro p e s m below meth c ls fx hS hl
  obtain ⟨hx, hb, hr, hml, hown, hG, hlk, hF, hz, hnm⟩ := fx
  have hown : s.vm.findClass RX3 = some m.cls := hown
  have hl : lv_has ls 2 [(0, .ref h)] := hl
  have hk7 : kd rc < 7 := by rw [hk]; decide
  have hc : classes[kd rc]? = some (RX0, TD, 8) := by rw [hk]; rfl
  refine lv_aload_n hx hb dX3_need_0 rfl (lv_at hl 0 rfl) ?_
  refine m_get hx hb hG hown hF hS (i + 15) (wT_at hi) (kd_cls hk7).1 (kd_cls hk7).2 2 (by decide) kw_109 (sf_Rye hG) rfl dX3_need_1 ?_
  refine lv_bipush (v := 13) hx hb dX3_need_4 (by decide) ?_
  refine m_cv (m_runV (n := 1) (rest := []) ⟨hx, hb, hml, hown, hG⟩ (c_leave l X K r t 13 0 (ht.le (by decide))) kw_280 kw_249 kw_250 kw_19 kw_251 (by decide +kernel) (rl_ok (by omega) (by decide)) hF hz hS (q0 := 13) rfl rfl rfl hl.1 rfl (Nat.le_of_ble_eq_true rfl) dX3_need_6 ⟨Nat.le_refl 0, Nat.le_refl 0⟩) hS (fun w1 H locs hw1 hS => ?_)
  subst hw1
  refine lv_aload_n hx hb dX3_need_9 rfl (lv_at hl 0 rfl) ?_
  refine m_ci (m_runSU (x := ⟨RX4, "need", "()I"⟩) (n := 0) (rest := []) ⟨hx, hb, hml, hown, hG⟩ (c_Yneed l X K r (te r [13] t) h i rc 2 hi hk7 (by decide) (ht.step (by decide))) kw_281 kw_282 kw_169 kw_284 kw_22 kw_285 (sub_Sour_Yeast hG hF) ⟨rfl, rfl⟩ (by decide +kernel) (rl_ok (by omega) (by decide)) hF hz hS (q0 := i + 15) (wT_at hi) (kd_cls hk7).1 rfl hl.1 rfl (Nat.le_of_ble_eq_true rfl) dX3_need_10 ⟨Nat.le_refl 0, Nat.le_refl 0⟩) hS (fun r_1 w2 H locs hw2 hS => ?_)
  obtain ⟨rfl, rfl⟩ := hw2
  rw [te_te] at hS
  refine lv_istore_n (lv' := [(1, .int (100 + rc 1 / 10 + 50)), (0, .ref h)]) hx hb dX3_need_13 rfl hl (by decide) rfl (fun ls hl => ?_)
  refine lv_iload_n hx hb dX3_need_14 rfl (lv_at hl 0 rfl) ?_
  refine lv_aload_n hx hb dX3_need_15 rfl (lv_at hl 1 rfl) ?_
  refine lv_bipush (v := 20) hx hb dX3_need_16 (by decide) ?_
  refine m_ci (m_runU (x := ⟨RX3, "rise", "(I)I"⟩) (owner := "DoughRoom$Sour") (n := 1) (rest := [.int (100 + rc 1 / 10 + 50)]) ⟨hx, hb, hml, hown, hG⟩ (c_Brise l X K r (te r [13, 12, 11] t) h i rc 20 3 hi hk7 (by decide) (ht.step (by decide))) kw_288 kw_253 kw_255 kw_256 kw_246 kw_289 kw_25 kw_247 (by decide +kernel) (rl_ok (by omega) (by decide)) hF hz hS (q0 := i + 15) (wT_at hi) hc rfl hl.1 rfl (Nat.le_of_ble_eq_true rfl) dX3_need_18 ⟨Nat.le_refl 0, Nat.le_refl 0⟩) hS (fun r_2 w3 H locs hw3 hS => ?_)
  obtain ⟨rfl, rfl⟩ := hw3
  rw [te_te] at hS
  refine lv_iadd hx hb dX3_need_21 ?_
  exact m_iret hx hb hr hlk hS ⟨rfl, rfl⟩ (Nat.le_refl 0) (Nat.le_refl 0) dX3_need_22
def yNeed (k : Nat) : MethodName := match k with
  | 0 => yX2_need
  | 1 => yX7_need
  | 2 => yX7_need
  | 3 => yX3_need
  | 4 => yX3_need
  | 5 => yX2_need
  | _ => yX2_need
def bNeed (k : Nat) : ByteArray := match k with
  | 0 => cX2_need
  | 1 => cX7_need
  | 2 => cX7_need
  | 3 => cX3_need
  | 4 => cX3_need
  | 5 => cX2_need
  | _ => cX2_need
def nNeed (k : Nat) : Nat := match k with
  | 0 => 1
  | 1 => 1
  | 2 => 1
  | 3 => 2
  | 4 => 2
  | 5 => 1
  | _ => 1
theorem fam_need (k : Nat) (h1 : 0 ≤ k) (h2 : k < 7) : Cond.selects (RD k) yX2_need (yNeed k) ∈ G ∧ Cond.instanceMethod (yNeed k) ∈ G ∧ Cond.initialized (yNeed k).cls ∈ G ∧ Cond.code (yNeed k) (bNeed k) (nNeed k) (some .int) ∈ G ∧ nNeed k ≤ 8 :=
  match k, h1, h2 with
  | 0, _, _ => ⟨kw_275, kw_274, kw_21, kw_296, by decide⟩
  | 1, _, _ => ⟨kw_295, kw_284, kw_22, kw_285, by decide⟩
  | 2, _, _ => ⟨kw_293, kw_284, kw_22, kw_285, by decide⟩
  | 3, _, _ => ⟨kw_292, kw_278, kw_24, kw_279, by decide⟩
  | 4, _, _ => ⟨kw_277, kw_278, kw_24, kw_279, by decide⟩
  | 5, _, _ => ⟨kw_294, kw_274, kw_21, kw_296, by decide⟩
  | 6, _, _ => ⟨kw_291, kw_274, kw_21, kw_296, by decide⟩
set_option maxHeartbeats 4000000 in
set_option maxRecDepth 100000 in
theorem f_need (l : Launch) (X : Cx) (K : KT) (r : Bool) (t : Tr) (h i : Nat) (rc : Rc) (k : Nat) (f : Nat) (hi : (kP K)[i]? = some (h, dE (kA K 3) rc)) (hk : kd rc = k) (h1 : 0 ≤ k) (h2 : k < 7) (hf : 4 ≤ f) (ht : tR r 6 t) : cI l (yNeed k) (bNeed k) (nNeed k) (some .int) (rl f) X [.ref h] (wT X K r t) (fun v w' => v = needV k (rc 1) ∧ w' = wT X K r (te r (needT k) t)) :=
  match k, hk, h1, h2 with
  | 0, hk, _, _ => c_Dneed l X K r t h i rc f hi (by rw [hk]; decide) (by omega) (ht.le (by decide))
  | 1, hk, _, _ => c_Yneed l X K r t h i rc f hi (by rw [hk]; decide) (by omega) (ht.le (by decide))
  | 2, hk, _, _ => c_Yneed l X K r t h i rc f hi (by rw [hk]; decide) (by omega) (ht.le (by decide))
  | 3, hk, _, _ => c_Rneed3 l X K r t h i rc f hi hk (by omega) (ht.le (by decide))
  | 4, hk, _, _ => c_Rneed4 l X K r t h i rc f hi hk (by omega) (ht.le (by decide))
  | 5, hk, _, _ => c_Dneed l X K r t h i rc f hi (by rw [hk]; decide) (by omega) (ht.le (by decide))
  | 6, hk, _, _ => c_Dneed l X K r t h i rc f hi (by rw [hk]; decide) (by omega) (ht.le (by decide))
def yBrown (k : Nat) : MethodName := match k with
  | 0 => yX2_brown
  | 1 => yX2_brown
  | 2 => yX2_brown
  | 3 => yX2_brown
  | 4 => yX0_brown
  | 5 => yX5_brown
  | _ => yX5_brown
def bBrown (k : Nat) : ByteArray := match k with
  | 0 => cX2_brown
  | 1 => cX2_brown
  | 2 => cX2_brown
  | 3 => cX2_brown
  | 4 => cX0_brown
  | 5 => cX5_brown
  | _ => cX5_brown
def nBrown (k : Nat) : Nat := match k with
  | 0 => 2
  | 1 => 2
  | 2 => 2
  | 3 => 2
  | 4 => 2
  | 5 => 2
  | _ => 2
theorem fam_brown (k : Nat) (h1 : 0 ≤ k) (h2 : k < 7) : Cond.selects (RD k) yX2_brown (yBrown k) ∈ G ∧ Cond.instanceMethod (yBrown k) ∈ G ∧ Cond.initialized (yBrown k).cls ∈ G ∧ Cond.code (yBrown k) (bBrown k) (nBrown k) (some .int) ∈ G ∧ nBrown k ≤ 8 :=
  match k, h1, h2 with
  | 0, _, _ => ⟨kw_299, kw_298, kw_21, kw_316, by decide⟩
  | 1, _, _ => ⟨kw_315, kw_298, kw_21, kw_316, by decide⟩
  | 2, _, _ => ⟨kw_313, kw_298, kw_21, kw_316, by decide⟩
  | 3, _, _ => ⟨kw_312, kw_298, kw_21, kw_316, by decide⟩
  | 4, _, _ => ⟨kw_301, kw_302, kw_25, kw_303, by decide⟩
  | 5, _, _ => ⟨kw_314, kw_308, kw_26, kw_309, by decide⟩
  | 6, _, _ => ⟨kw_307, kw_308, kw_26, kw_309, by decide⟩
set_option maxHeartbeats 4000000 in
set_option maxRecDepth 100000 in
theorem f_brown (l : Launch) (X : Cx) (K : KT) (r : Bool) (t : Tr) (h i : Nat) (rc : Rc) (k : Nat) (w : Int32) (f : Nat) (hi : (kP K)[i]? = some (h, dE (kA K 3) rc)) (hk : kd rc = k) (h1 : 0 ≤ k) (h2 : k < 7) (hf : 2 ≤ f) (ht : tR r 2 t) : cI l (yBrown k) (bBrown k) (nBrown k) (some .int) (rl f) X [.ref h, .int w] (wT X K r t) (fun v w' => v = brownV k w ∧ w' = wT X K r (te r (brownT k) t)) :=
  match k, hk, h1, h2 with
  | 0, hk, _, _ => c_Dbrown l X K r t h i rc w f hi (by rw [hk]; decide) (by omega) (ht.le (by decide))
  | 1, hk, _, _ => c_Dbrown l X K r t h i rc w f hi (by rw [hk]; decide) (by omega) (ht.le (by decide))
  | 2, hk, _, _ => c_Dbrown l X K r t h i rc w f hi (by rw [hk]; decide) (by omega) (ht.le (by decide))
  | 3, hk, _, _ => c_Dbrown l X K r t h i rc w f hi (by rw [hk]; decide) (by omega) (ht.le (by decide))
  | 4, hk, _, _ => c_Bbrown l X K r t h i rc w f hi (by rw [hk]; decide) (by omega) (ht.le (by decide))
  | 5, hk, _, _ => c_Wbrown l X K r t h i rc w f hi (by rw [hk]; decide) (by omega) (ht.le (by decide))
  | 6, hk, _, _ => c_Wbrown l X K r t h i rc w f hi (by rw [hk]; decide) (by omega) (ht.le (by decide))
set_option maxHeartbeats 4000000 in
set_option maxRecDepth 100000 in
theorem c_Bprice (l : Launch) (X : Cx) (K : KT) (r : Bool) (t : Tr) (h i : Nat) (rc : Rc) (f : Nat) (hi : (kP K)[i]? = some (h, dE (kA K 3) rc)) (hk : kd rc = 4) (hf : 5 ≤ f) (ht : tR r 9 t) : cI l yX0_price cX0_price 2 (some .int) (rl f) X [.ref h] (wT X K r t) (fun v w' => v = priceV 4 (rc 1) ∧ w' = wT X K r (te r (priceT 4) t)) := by
  refine met_start (by decide) (Nat.le_of_ble_eq_true rfl) ?_
  intro p e s m below meth c ls fx hS hl
  obtain ⟨hx, hb, hr, hml, hown, hG, hlk, hF, hz, hnm⟩ := fx
  have hown : s.vm.findClass RX0 = some m.cls := hown
  have hl : lv_has ls 2 [(0, .ref h)] := hl
  have hk7 : kd rc < 7 := by rw [hk]; decide
  have hc : classes[kd rc]? = some (RX0, TD, 8) := by rw [hk]; rfl
  refine lv_aload_n hx hb dX0_price_0 rfl (lv_at hl 0 rfl) ?_
  refine m_get hx hb hG hown hF hS (i + 15) (wT_at hi) (kd_cls hk7).1 (kd_cls hk7).2 2 (by decide) kw_103 (sf_Black hG) rfl dX0_price_1 ?_
  refine lv_bipush (v := 33) hx hb dX0_price_4 (by decide) ?_
  refine m_cv (m_runV (n := 1) (rest := []) ⟨hx, hb, hml, hown, hG⟩ (c_leave l X K r t 33 0 (ht.le (by decide))) kw_248 kw_249 kw_250 kw_19 kw_251 (by decide +kernel) (rl_ok (by omega) (by decide)) hF hz hS (q0 := 13) rfl rfl rfl hl.1 rfl (Nat.le_of_ble_eq_true rfl) dX0_price_6 ⟨Nat.le_refl 0, Nat.le_refl 0⟩) hS (fun w1 H locs hw1 hS => ?_)
  subst hw1
  refine lv_aload_n hx hb dX0_price_9 rfl (lv_at hl 0 rfl) ?_
  refine m_ci (m_runSU (x := yX3_price) (n := 0) (rest := []) ⟨hx, hb, hml, hown, hG⟩ (c_Rprice l X K r (te r [33] t) h i rc 2 hi hk7 (by decide) (ht.step (by decide))) kw_324 kw_618 kw_184 kw_325 kw_24 kw_326 (sub_Rye_Rye hG hF) ⟨rfl, rfl⟩ (by decide +kernel) (rl_ok (by omega) (by decide)) hF hz hS (q0 := i + 15) (wT_at hi) (kd_cls hk7).1 rfl hl.1 rfl (Nat.le_of_ble_eq_true rfl) dX0_price_10 ⟨Nat.le_refl 0, Nat.le_refl 0⟩) hS (fun r_1 w2 H locs hw2 hS => ?_)
  obtain ⟨rfl, rfl⟩ := hw2
  rw [te_te] at hS
  refine lv_istore_n (lv' := [(1, .int (10 + rc 1 / 5 + 40)), (0, .ref h)]) hx hb dX0_price_13 rfl hl (by decide) rfl (fun ls hl => ?_)
  refine lv_iload_n hx hb dX0_price_14 rfl (lv_at hl 0 rfl) ?_
  refine lv_aload_n hx hb dX0_price_15 rfl (lv_at hl 1 rfl) ?_
  refine m_ci (m_runU (x := ⟨RX0, "need", "()I"⟩) (owner := "DoughRoom$Rye") (n := 0) (rest := [.int (10 + rc 1 / 5 + 40)]) ⟨hx, hb, hml, hown, hG⟩ (c_Rneed4 l X K r (te r [33, 32, 31] t) h i rc 4 hi hk (by decide) (ht.step (by decide))) kw_330 kw_331 kw_278 kw_279 kw_278 kw_333 kw_24 kw_279 (by decide +kernel) (rl_ok (by omega) (by decide)) hF hz hS (q0 := i + 15) (wT_at hi) hc rfl hl.1 rfl (Nat.le_of_ble_eq_true rfl) dX0_price_16 ⟨Nat.le_refl 0, Nat.le_refl 0⟩) hS (fun r_2 w3 H locs hw3 hS => ?_)
  obtain ⟨rfl, rfl⟩ := hw3
  rw [te_te] at hS
  refine lv_iadd hx hb dX0_price_19 ?_
  exact m_iret hx hb hr hlk hS ⟨rfl, rfl⟩ (Nat.le_refl 0) (Nat.le_refl 0) dX0_price_20
def yPrice (k : Nat) : MethodName := match k with
  | 0 => yX2_price
  | 1 => yX2_price
  | 2 => yX2_price
  | 3 => yX3_price
  | 4 => yX0_price
  | 5 => yX2_price
  | _ => yX1_price
def bPrice (k : Nat) : ByteArray := match k with
  | 0 => cX2_price
  | 1 => cX2_price
  | 2 => cX2_price
  | 3 => cX3_price
  | 4 => cX0_price
  | 5 => cX2_price
  | _ => cX1_price
def nPrice (k : Nat) : Nat := match k with
  | 0 => 1
  | 1 => 1
  | 2 => 1
  | 3 => 1
  | 4 => 2
  | 5 => 1
  | _ => 1
theorem fam_price (k : Nat) (h1 : 0 ≤ k) (h2 : k < 7) : Cond.selects (RD k) yX2_price (yPrice k) ∈ G ∧ Cond.instanceMethod (yPrice k) ∈ G ∧ Cond.initialized (yPrice k).cls ∈ G ∧ Cond.code (yPrice k) (bPrice k) (nPrice k) (some .int) ∈ G ∧ nPrice k ≤ 8 :=
  match k, h1, h2 with
  | 0, _, _ => ⟨kw_319, kw_318, kw_21, kw_343, by decide⟩
  | 1, _, _ => ⟨kw_342, kw_318, kw_21, kw_343, by decide⟩
  | 2, _, _ => ⟨kw_340, kw_318, kw_21, kw_343, by decide⟩
  | 3, _, _ => ⟨kw_339, kw_325, kw_24, kw_326, by decide⟩
  | 4, _, _ => ⟨kw_321, kw_322, kw_25, kw_323, by decide⟩
  | 5, _, _ => ⟨kw_341, kw_318, kw_21, kw_343, by decide⟩
  | 6, _, _ => ⟨kw_334, kw_335, kw_27, kw_336, by decide⟩
set_option maxHeartbeats 4000000 in
set_option maxRecDepth 100000 in
theorem f_price (l : Launch) (X : Cx) (K : KT) (r : Bool) (t : Tr) (h i : Nat) (rc : Rc) (k : Nat) (f : Nat) (hi : (kP K)[i]? = some (h, dE (kA K 3) rc)) (hk : kd rc = k) (h1 : 0 ≤ k) (h2 : k < 7) (hf : 5 ≤ f) (ht : tR r 9 t) : cI l (yPrice k) (bPrice k) (nPrice k) (some .int) (rl f) X [.ref h] (wT X K r t) (fun v w' => v = priceV k (rc 1) ∧ w' = wT X K r (te r (priceT k) t)) :=
  match k, hk, h1, h2 with
  | 0, hk, _, _ => c_Dprice l X K r t h i rc f hi (by rw [hk]; decide) (by omega) (ht.le (by decide))
  | 1, hk, _, _ => c_Dprice l X K r t h i rc f hi (by rw [hk]; decide) (by omega) (ht.le (by decide))
  | 2, hk, _, _ => c_Dprice l X K r t h i rc f hi (by rw [hk]; decide) (by omega) (ht.le (by decide))
  | 3, hk, _, _ => c_Rprice l X K r t h i rc f hi (by rw [hk]; decide) (by omega) (ht.le (by decide))
  | 4, hk, _, _ => c_Bprice l X K r t h i rc f hi hk (by omega) (ht.le (by decide))
  | 5, hk, _, _ => c_Dprice l X K r t h i rc f hi (by rw [hk]; decide) (by omega) (ht.le (by decide))
  | 6, hk, _, _ => c_Uprice l X K r t h i rc f hi (by rw [hk]; decide) (by omega) (ht.le (by decide))
set_option maxHeartbeats 4000000 in
set_option maxRecDepth 100000 in
theorem c_Skeeps2 (l : Launch) (X : Cx) (K : KT) (r : Bool) (t : Tr) (h i : Nat) (rc : Rc) (f : Nat) (hi : (kP K)[i]? = some (h, dE (kA K 3) rc)) (hk : kd rc = 2) (hf : 5 ≤ f) (ht : tR r 3 t) : cI l yX4_keeps cX4_keeps 1 (some .int) (rl f) X [.ref h] (wT X K r t) (fun v w' => v = keepsV 2 (rc 1) ∧ w' = wT X K r (te r (keepsT 2) t)) := by
  refine met_start (by decide) (Nat.le_of_ble_eq_true rfl) ?_
  intro p e s m below meth c ls fx hS hl
  obtain ⟨hx, hb, hr, hml, hown, hG, hlk, hF, hz, hnm⟩ := fx
  have hown : s.vm.findClass RX4 = some m.cls := hown
  have hl : lv_has ls 1 [(0, .ref h)] := hl
  have hk7 : kd rc < 7 := by rw [hk]; decide
  have hc : classes[kd rc]? = some (RX4, TD, 8) := by rw [hk]; rfl
  refine lv_aload_n hx hb dX4_keeps_0 rfl (lv_at hl 0 rfl) ?_
  refine m_get hx hb hG hown hF hS (i + 15) (wT_at hi) (kd_cls hk7).1 (kd_cls hk7).2 2 (by decide) kw_105 (sf_Sour hG) rfl dX4_keeps_1 ?_
  refine lv_bipush (v := 41) hx hb dX4_keeps_4 (by decide) ?_
  refine m_cv (m_runV (n := 1) (rest := []) ⟨hx, hb, hml, hown, hG⟩ (c_leave l X K r t 41 0 (ht.le (by decide))) kw_257 kw_249 kw_250 kw_19 kw_251 (by decide +kernel) (rl_ok (by omega) (by decide)) hF hz hS (q0 := 13) rfl rfl rfl hl.1 rfl (Nat.le_of_ble_eq_true rfl) dX4_keeps_6 ⟨Nat.le_refl 0, Nat.le_refl 0⟩) hS (fun w1 H locs hw1 hS => ?_)
  subst hw1
  refine lv_iconst (v := 1) hx hb dX4_keeps_9 (by decide) ?_
  refine lv_aload_n hx hb dX4_keeps_10 rfl (lv_at hl 0 rfl) ?_
  refine m_ci (m_runU (x := ⟨RX4, "need", "()I"⟩) (owner := "DoughRoom$Yeast") (n := 0) (rest := [.int 1]) ⟨hx, hb, hml, hown, hG⟩ (c_Yneed l X K r (te r [41] t) h i rc 4 hi hk7 (by decide) (ht.step (by decide))) kw_354 kw_282 kw_284 kw_285 kw_284 kw_357 kw_22 kw_285 (by decide +kernel) (rl_ok (by omega) (by decide)) hF hz hS (q0 := i + 15) (wT_at hi) hc rfl hl.1 rfl (Nat.le_of_ble_eq_true rfl) dX4_keeps_11 ⟨Nat.le_refl 0, Nat.le_refl 0⟩) hS (fun r_1 w2 H locs hw2 hS => ?_)
  obtain ⟨rfl, rfl⟩ := hw2
  rw [te_te] at hS
  refine lv_bipush (v := 100) hx hb dX4_keeps_14 (by decide) ?_
  refine lv_idiv hx hb dX4_keeps_16 (by decide) ?_
  refine lv_iadd hx hb dX4_keeps_17 ?_
  exact m_iret hx hb hr hlk hS ⟨rfl, rfl⟩ (Nat.le_refl 0) (Nat.le_refl 0) dX4_keeps_18
set_option maxHeartbeats 4000000 in
set_option maxRecDepth 100000 in
theorem c_Skeeps3 (l : Launch) (X : Cx) (K : KT) (r : Bool) (t : Tr) (h i : Nat) (rc : Rc) (f : Nat) (hi : (kP K)[i]? = some (h, dE (kA K 3) rc)) (hk : kd rc = 3) (hf : 5 ≤ f) (ht : tR r 6 t) : cI l yX4_keeps cX4_keeps 1 (some .int) (rl f) X [.ref h] (wT X K r t) (fun v w' => v = keepsV 3 (rc 1) ∧ w' = wT X K r (te r (keepsT 3) t)) := by
  refine met_start (by decide) (Nat.le_of_ble_eq_true rfl) ?_
  intro p e s m below meth c ls fx hS hl
  obtain ⟨hx, hb, hr, hml, hown, hG, hlk, hF, hz, hnm⟩ := fx
  have hown : s.vm.findClass RX4 = some m.cls := hown
  have hl : lv_has ls 1 [(0, .ref h)] := hl
  have hk7 : kd rc < 7 := by rw [hk]; decide
  have hc : classes[kd rc]? = some (RX3, TD, 8) := by rw [hk]; rfl
  refine lv_aload_n hx hb dX4_keeps_0 rfl (lv_at hl 0 rfl) ?_
  refine m_get hx hb hG hown hF hS (i + 15) (wT_at hi) (kd_cls hk7).1 (kd_cls hk7).2 2 (by decide) kw_105 (sf_Sour hG) rfl dX4_keeps_1 ?_
  refine lv_bipush (v := 41) hx hb dX4_keeps_4 (by decide) ?_
  refine m_cv (m_runV (n := 1) (rest := []) ⟨hx, hb, hml, hown, hG⟩ (c_leave l X K r t 41 0 (ht.le (by decide))) kw_257 kw_249 kw_250 kw_19 kw_251 (by decide +kernel) (rl_ok (by omega) (by decide)) hF hz hS (q0 := 13) rfl rfl rfl hl.1 rfl (Nat.le_of_ble_eq_true rfl) dX4_keeps_6 ⟨Nat.le_refl 0, Nat.le_refl 0⟩) hS (fun w1 H locs hw1 hS => ?_)
  subst hw1
  refine lv_iconst (v := 1) hx hb dX4_keeps_9 (by decide) ?_
  refine lv_aload_n hx hb dX4_keeps_10 rfl (lv_at hl 0 rfl) ?_
  refine m_ci (m_runU (x := ⟨RX4, "need", "()I"⟩) (owner := "DoughRoom$Yeast") (n := 0) (rest := [.int 1]) ⟨hx, hb, hml, hown, hG⟩ (c_Rneed3 l X K r (te r [41] t) h i rc 4 hi hk (by decide) (ht.step (by decide))) kw_354 kw_282 kw_284 kw_285 kw_278 kw_356 kw_24 kw_279 (by decide +kernel) (rl_ok (by omega) (by decide)) hF hz hS (q0 := i + 15) (wT_at hi) hc rfl hl.1 rfl (Nat.le_of_ble_eq_true rfl) dX4_keeps_11 ⟨Nat.le_refl 0, Nat.le_refl 0⟩) hS (fun r_1 w2 H locs hw2 hS => ?_)
  obtain ⟨rfl, rfl⟩ := hw2
  rw [te_te] at hS
  refine lv_bipush (v := 100) hx hb dX4_keeps_14 (by decide) ?_
  refine lv_idiv hx hb dX4_keeps_16 (by decide) ?_
  refine lv_iadd hx hb dX4_keeps_17 ?_
  exact m_iret hx hb hr hlk hS ⟨rfl, rfl⟩ (Nat.le_refl 0) (Nat.le_refl 0) dX4_keeps_18
set_option maxHeartbeats 4000000 in
set_option maxRecDepth 100000 in
theorem c_Bkeeps (l : Launch) (X : Cx) (K : KT) (r : Bool) (t : Tr) (h i : Nat) (rc : Rc) (f : Nat) (hi : (kP K)[i]? = some (h, dE (kA K 3) rc)) (hk : kd rc = 4) (hf : 6 ≤ f) (ht : tR r 10 t) : cI l yX0_keeps cX0_keeps 1 (some .int) (rl f) X [.ref h] (wT X K r t) (fun v w' => v = keepsV 4 (rc 1) ∧ w' = wT X K r (te r (keepsT 4) t)) := by
  refine met_start (by decide) (Nat.le_of_ble_eq_true rfl) ?_
  intro p e s m below meth c ls fx hS hl
  obtain ⟨hx, hb, hr, hml, hown, hG, hlk, hF, hz, hnm⟩ := fx
  have hown : s.vm.findClass RX0 = some m.cls := hown
  have hl : lv_has ls 1 [(0, .ref h)] := hl
  have hk7 : kd rc < 7 := by rw [hk]; decide
  have hc : classes[kd rc]? = some (RX0, TD, 8) := by rw [hk]; rfl
  refine lv_aload_n hx hb dX0_keeps_0 rfl (lv_at hl 0 rfl) ?_
  refine m_get hx hb hG hown hF hS (i + 15) (wT_at hi) (kd_cls hk7).1 (kd_cls hk7).2 2 (by decide) kw_103 (sf_Black hG) rfl dX0_keeps_1 ?_
  refine lv_bipush (v := 42) hx hb dX0_keeps_4 (by decide) ?_
  refine m_cv (m_runV (n := 1) (rest := []) ⟨hx, hb, hml, hown, hG⟩ (c_leave l X K r t 42 0 (ht.le (by decide))) kw_248 kw_249 kw_250 kw_19 kw_251 (by decide +kernel) (rl_ok (by omega) (by decide)) hF hz hS (q0 := 13) rfl rfl rfl hl.1 rfl (Nat.le_of_ble_eq_true rfl) dX0_keeps_6 ⟨Nat.le_refl 0, Nat.le_refl 0⟩) hS (fun w1 H locs hw1 hS => ?_)
  subst hw1
  refine lv_aload_n hx hb dX0_keeps_9 rfl (lv_at hl 0 rfl) ?_
  refine m_ci (m_runV (n := 0) (rest := []) ⟨hx, hb, hml, hown, hG⟩ (c_Bprice l X K r (te r [42] t) h i rc 5 hi hk (by decide) (ht.step (by decide))) kw_351 kw_322 kw_619 kw_25 kw_323 (by decide +kernel) (rl_ok (by omega) (by decide)) hF hz hS (q0 := i + 15) (wT_at hi) hc rfl hl.1 rfl (Nat.le_of_ble_eq_true rfl) dX0_keeps_10 ⟨Nat.le_refl 0, Nat.le_refl 0⟩) hS (fun r_1 w2 H locs hw2 hS => ?_)
  obtain ⟨rfl, rfl⟩ := hw2
  rw [te_te] at hS
  refine lv_bipush (v := 50) hx hb dX0_keeps_13 (by decide) ?_
  refine lv_idiv hx hb dX0_keeps_15 (by decide) ?_
  refine lv_iconst (v := 2) hx hb dX0_keeps_16 (by decide) ?_
  refine lv_iadd hx hb dX0_keeps_17 ?_
  exact m_iret hx hb hr hlk hS ⟨rfl, rfl⟩ (Nat.le_refl 0) (Nat.le_refl 0) dX0_keeps_18
set_option maxHeartbeats 4000000 in
set_option maxRecDepth 100000 in
theorem c_Wglaze (l : Launch) (X : Cx) (K : KT) (r : Bool) (t : Tr) (h i : Nat) (rc : Rc) (f : Nat) (hi : (kP K)[i]? = some (h, dE (kA K 3) rc)) (hk : kd rc = 5) (hf : 3 ≤ f) (ht : tR r 2 t) : cI l yX5_glaze cX5_glaze 1 (some .int) (rl f) X [.ref h] (wT X K r t) (fun v w' => v = glazeV 5 (rc 1) ∧ w' = wT X K r (te r (glazeT 5) t)) := by
  refine met_start (by decide) (Nat.le_of_ble_eq_true rfl) ?_
  intro p e s m below meth c ls fx hS hl
  obtain ⟨hx, hb, hr, hml, hown, hG, hlk, hF, hz, hnm⟩ := fx
  have hown : s.vm.findClass RX5 = some m.cls := hown
  have hl : lv_has ls 1 [(0, .ref h)] := hl
  have hk7 : kd rc < 7 := by rw [hk]; decide
  have hc : classes[kd rc]? = some (RX5, TD, 8) := by rw [hk]; rfl
  refine lv_aload_n hx hb dX5_glaze_0 rfl (lv_at hl 0 rfl) ?_
  refine m_get hx hb hG hown hF hS (i + 15) (wT_at hi) (kd_cls hk7).1 (kd_cls hk7).2 2 (by decide) kw_113 (sf_Sweet hG) rfl dX5_glaze_1 ?_
  refine lv_bipush (v := 51) hx hb dX5_glaze_4 (by decide) ?_
  refine m_cv (m_runV (n := 1) (rest := []) ⟨hx, hb, hml, hown, hG⟩ (c_leave l X K r t 51 0 (ht.le (by decide))) kw_310 kw_249 kw_250 kw_19 kw_251 (by decide +kernel) (rl_ok (by omega) (by decide)) hF hz hS (q0 := 13) rfl rfl rfl hl.1 rfl (Nat.le_of_ble_eq_true rfl) dX5_glaze_6 ⟨Nat.le_refl 0, Nat.le_refl 0⟩) hS (fun w1 H locs hw1 hS => ?_)
  subst hw1
  refine lv_aload_n hx hb dX5_glaze_9 rfl (lv_at hl 0 rfl) ?_
  refine m_ci (m_runU (x := ⟨RX5, "price", "()I"⟩) (owner := "DoughRoom$Dough") (n := 0) (rest := []) ⟨hx, hb, hml, hown, hG⟩ (c_Dprice l X K r (te r [51] t) h i rc 2 hi hk7 (by decide) (ht.step (by decide))) kw_370 kw_338 kw_318 kw_343 kw_318 kw_372 kw_21 kw_343 (by decide +kernel) (rl_ok (by omega) (by decide)) hF hz hS (q0 := i + 15) (wT_at hi) hc rfl hl.1 rfl (Nat.le_of_ble_eq_true rfl) dX5_glaze_10 ⟨Nat.le_refl 0, Nat.le_refl 0⟩) hS (fun r_1 w2 H locs hw2 hS => ?_)
  obtain ⟨rfl, rfl⟩ := hw2
  rw [te_te] at hS
  refine lv_bipush (v := 10) hx hb dX5_glaze_13 (by decide) ?_
  refine lv_idiv hx hb dX5_glaze_15 (by decide) ?_
  refine lv_iconst (v := 5) hx hb dX5_glaze_16 (by decide) ?_
  refine lv_iadd hx hb dX5_glaze_17 ?_
  exact m_iret hx hb hr hlk hS ⟨rfl, rfl⟩ (Nat.le_refl 0) (Nat.le_refl 0) dX5_glaze_18
set_option maxHeartbeats 4000000 in
set_option maxRecDepth 100000 in
theorem c_Uglaze (l : Launch) (X : Cx) (K : KT) (r : Bool) (t : Tr) (h i : Nat) (rc : Rc) (f : Nat) (hi : (kP K)[i]? = some (h, dE (kA K 3) rc)) (hk : kd rc = 6) (hf : 3 ≤ f) (ht : tR r 3 t) : cI l yX1_glaze cX1_glaze 1 (some .int) (rl f) X [.ref h] (wT X K r t) (fun v w' => v = glazeV 6 (rc 1) ∧ w' = wT X K r (te r (glazeT 6) t)) := by
  refine met_start (by decide) (Nat.le_of_ble_eq_true rfl) ?_
  intro p e s m below meth c ls fx hS hl
  obtain ⟨hx, hb, hr, hml, hown, hG, hlk, hF, hz, hnm⟩ := fx
  have hown : s.vm.findClass RX1 = some m.cls := hown
  have hl : lv_has ls 1 [(0, .ref h)] := hl
  have hk7 : kd rc < 7 := by rw [hk]; decide
  have hc : classes[kd rc]? = some (RX1, TD, 8) := by rw [hk]; rfl
  refine lv_aload_n hx hb dX1_glaze_0 rfl (lv_at hl 0 rfl) ?_
  refine m_get hx hb hG hown hF hS (i + 15) (wT_at hi) (kd_cls hk7).1 (kd_cls hk7).2 2 (by decide) kw_107 (sf_Butter hG) rfl dX1_glaze_1 ?_
  refine lv_bipush (v := 52) hx hb dX1_glaze_4 (by decide) ?_
  refine m_cv (m_runV (n := 1) (rest := []) ⟨hx, hb, hml, hown, hG⟩ (c_leave l X K r t 52 0 (ht.le (by decide))) kw_264 kw_249 kw_250 kw_19 kw_251 (by decide +kernel) (rl_ok (by omega) (by decide)) hF hz hS (q0 := 13) rfl rfl rfl hl.1 rfl (Nat.le_of_ble_eq_true rfl) dX1_glaze_6 ⟨Nat.le_refl 0, Nat.le_refl 0⟩) hS (fun w1 H locs hw1 hS => ?_)
  subst hw1
  refine lv_aload_n hx hb dX1_glaze_9 rfl (lv_at hl 0 rfl) ?_
  refine lv_sipush (v := 200) hx hb dX1_glaze_10 (by decide) ?_
  refine m_ci (m_runU (x := ⟨RX1, "brown", "(I)I"⟩) (owner := "DoughRoom$Sweet") (n := 1) (rest := []) ⟨hx, hb, hml, hown, hG⟩ (c_Wbrown l X K r (te r [52] t) h i rc 200 2 hi hk7 (by decide) (ht.step (by decide))) kw_365 kw_366 kw_308 kw_309 kw_308 kw_368 kw_26 kw_309 (by decide +kernel) (rl_ok (by omega) (by decide)) hF hz hS (q0 := i + 15) (wT_at hi) hc rfl hl.1 rfl (Nat.le_of_ble_eq_true rfl) dX1_glaze_13 ⟨Nat.le_refl 0, Nat.le_refl 0⟩) hS (fun r_1 w2 H locs hw2 hS => ?_)
  obtain ⟨rfl, rfl⟩ := hw2
  rw [te_te] at hS
  refine lv_bipush (v := 20) hx hb dX1_glaze_16 (by decide) ?_
  refine lv_iadd hx hb dX1_glaze_18 ?_
  exact m_iret hx hb hr hlk hS ⟨rfl, rfl⟩ (Nat.le_refl 0) (Nat.le_refl 0) dX1_glaze_19
def yKeeps (k : Nat) : MethodName := match k with
  | 2 => yX4_keeps
  | 3 => yX4_keeps
  | _ => yX0_keeps
def bKeeps (k : Nat) : ByteArray := match k with
  | 2 => cX4_keeps
  | 3 => cX4_keeps
  | _ => cX0_keeps
def nKeeps (k : Nat) : Nat := match k with
  | 2 => 1
  | 3 => 1
  | _ => 1
theorem fam_keeps (k : Nat) (h1 : 2 ≤ k) (h2 : k < 5) : Cond.selects (RD k) yX4_keeps (yKeeps k) ∈ G ∧ Cond.instanceMethod (yKeeps k) ∈ G ∧ Cond.initialized (yKeeps k).cls ∈ G ∧ Cond.code (yKeeps k) (bKeeps k) (nKeeps k) (some .int) ∈ G ∧ nKeeps k ≤ 8 :=
  match k, h1, h2 with
  | 2, _, _ => ⟨kw_346, kw_345, kw_23, kw_353, by decide⟩
  | 3, _, _ => ⟨kw_352, kw_345, kw_23, kw_353, by decide⟩
  | 4, _, _ => ⟨kw_348, kw_349, kw_25, kw_350, by decide⟩
set_option maxHeartbeats 4000000 in
set_option maxRecDepth 100000 in
theorem f_keeps (l : Launch) (X : Cx) (K : KT) (r : Bool) (t : Tr) (h i : Nat) (rc : Rc) (k : Nat) (f : Nat) (hi : (kP K)[i]? = some (h, dE (kA K 3) rc)) (hk : kd rc = k) (h1 : 2 ≤ k) (h2 : k < 5) (hf : 6 ≤ f) (ht : tR r 10 t) : cI l (yKeeps k) (bKeeps k) (nKeeps k) (some .int) (rl f) X [.ref h] (wT X K r t) (fun v w' => v = keepsV k (rc 1) ∧ w' = wT X K r (te r (keepsT k) t)) :=
  match k, hk, h1, h2 with
  | 2, hk, _, _ => c_Skeeps2 l X K r t h i rc f hi hk (by omega) (ht.le (by decide))
  | 3, hk, _, _ => c_Skeeps3 l X K r t h i rc f hi hk (by omega) (ht.le (by decide))
  | 4, hk, _, _ => c_Bkeeps l X K r t h i rc f hi hk (by omega) (ht.le (by decide))
def yGlaze (k : Nat) : MethodName := match k with
  | 5 => yX5_glaze
  | _ => yX1_glaze
def bGlaze (k : Nat) : ByteArray := match k with
  | 5 => cX5_glaze
  | _ => cX1_glaze
def nGlaze (k : Nat) : Nat := match k with
  | 5 => 1
  | _ => 1
theorem fam_glaze (k : Nat) (h1 : 5 ≤ k) (h2 : k < 7) : Cond.selects (RD k) yX5_glaze (yGlaze k) ∈ G ∧ Cond.instanceMethod (yGlaze k) ∈ G ∧ Cond.initialized (yGlaze k).cls ∈ G ∧ Cond.code (yGlaze k) (bGlaze k) (nGlaze k) (some .int) ∈ G ∧ nGlaze k ≤ 8 :=
  match k, h1, h2 with
  | 5, _, _ => ⟨kw_360, kw_359, kw_26, kw_369, by decide⟩
  | 6, _, _ => ⟨kw_362, kw_363, kw_27, kw_364, by decide⟩
set_option maxHeartbeats 4000000 in
set_option maxRecDepth 100000 in
theorem f_glaze (l : Launch) (X : Cx) (K : KT) (r : Bool) (t : Tr) (h i : Nat) (rc : Rc) (k : Nat) (f : Nat) (hi : (kP K)[i]? = some (h, dE (kA K 3) rc)) (hk : kd rc = k) (h1 : 5 ≤ k) (h2 : k < 7) (hf : 6 ≤ f) (ht : tR r 3 t) : cI l (yGlaze k) (bGlaze k) (nGlaze k) (some .int) (rl f) X [.ref h] (wT X K r t) (fun v w' => v = glazeV k (rc 1) ∧ w' = wT X K r (te r (glazeT k) t)) :=
  match k, hk, h1, h2 with
  | 5, hk, _, _ => c_Wglaze l X K r t h i rc f hi hk (by omega) (ht.le (by decide))
  | 6, hk, _, _ => c_Uglaze l X K r t h i rc f hi hk (by omega) (ht.le (by decide))
end
section
theorem list_set_same {α : Type} : ∀ {l : List α} {i : Nat} {x : α}, l[i]? = some x → l.set i x = l
  | [], _, _, h => by simp at h
  | a :: l, 0, x, h => by
    have : a = x := by simpa using h
    rw [this]; rfl
  | a :: l, i + 1, x, h => by
    have h2 : l[i]? = some x := by simpa using h
    show a :: l.set i x = a :: l
    rw [list_set_same h2]
theorem kset_self {K : KT} {i : Nat} {x : Nat × va_E} (h : (kP K)[i]? = some x) : kset K i x = K := by
  show (K.1, K.2.1, K.2.2.1, K.2.2.2.1, K.2.2.2.2.1, K.2.2.2.2.2.1, K.2.2.2.2.2.2.1, K.2.2.2.2.2.2.2.1, (kP K).set i x) = K
  rw [list_set_same h]
theorem kset_at {K : KT} {i : Nat} {x y : Nat × va_E} (h : (kP K)[i]? = some x) : (kP (kset K i y))[i]? = some y := by
  show ((kP K).set i y)[i]? = some y
  exact List.getElem?_set_self (List.getElem?_eq_some_iff.mp h).1
theorem kset_kset {K : KT} {i : Nat} {x y : Nat × va_E} : kset (kset K i x) i y = kset K i y := by
  show (K.1, K.2.1, K.2.2.1, K.2.2.2.1, K.2.2.2.2.1, K.2.2.2.2.2.1, K.2.2.2.2.2.2.1, K.2.2.2.2.2.2.2.1, ((kP K).set i x).set i y) = _
  rw [List.set_set]; rfl
/-- one minute of one that rises, of one in an oven -/
def stepR (w : Int32) (rc : Rc) : Rc := if rc 4 + riseV (kd rc) w ≤ 2 * needV (kd rc) (rc 1) then va_up rc 4 (rc 4 + riseV (kd rc) w) else va_up (va_up rc 4 (rc 4 + riseV (kd rc) w)) 3 4
def stepB (h : Int32) (rc : Rc) : Rc := if rc 5 + brownV (kd rc) h ≤ 100 then va_up rc 5 (rc 5 + brownV (kd rc) h) else va_up (va_up rc 5 (rc 5 + brownV (kd rc) h)) 3 4
def riseN (w : Int32) : Nat → Rc → Rc
  | 0, rc => rc
  | n + 1, rc => if rc 3 = 0 then riseN w n (stepR w rc) else rc
def brownN (h : Int32) : Nat → Rc → Rc
  | 0, rc => rc
  | n + 1, rc => if rc 3 = 1 then brownN h n (stepB h rc) else rc
theorem riseN_0 {w : Int32} {n : Nat} {rc : Rc} (h : ¬ rc 3 = 0) : riseN w n rc = rc := by
  cases n
  · rfl
  · rw [riseN, if_neg h]
theorem brownN_0 {w : Int32} {n : Nat} {rc : Rc} (h : ¬ rc 3 = 1) : brownN w n rc = rc := by
  cases n
  · rfl
  · rw [brownN, if_neg h]
set_option maxHeartbeats 4000000 in
set_option maxRecDepth 100000 in
theorem rf_loop {p : Program} {l : Launch} {e : Env} {R : Room} {s : State} {m : MethodId} {args : Array Value} {below : List Frame} {meth : Method} {c : Code} {X : Cx} {r : Bool} {t : Tr} {h i N : Nat} {w more most : Int32} {P : va_W → Prop} (hN : N < 1000) (hx : p.tables.exec = Jvm.exec) (hb : c.code = cX2_riseFor) (hr : meth.sig.returnType = none) (hml : c.maxLocals = 6) (hown : s.vm.findClass RX2 = some m.cls) (hG : ∀ w ∈ G, w.before args s = true) (hlk : meth.locks = false) (hF : mF X s) (hz : X.2.2.2 ≤ s.heap.size) : ∀ (d : Nat) (K : KT) (rc : Rc) (j : Nat) (x : Int32) (H : Heap) (locs : List Loc) (ls : Array Slot), (kP K)[i]? = some (h, dE (kA K 3) rc) → kd rc < 7 → x = nI j → j + d = N → mS X s (wT X K r t) H locs → lv_has ls 6 [(5, .int x), (0, .ref h), (1, .int (nI N)), (3, .int more), (4, .int most)] → more = riseV (kd rc) w → most = 2 * needV (kd rc) (rc 1) → P (wT X (kset K i (h, dE (kA K 3) (riseN w d rc))) r t) → W p l e R s m args below meth c H locs 0 0 (MQ below (va_Qv P (fun w t => mH X w t.heap) (xA X)) args s 0 0 (xA X)) (F0 m 17 ls []) := by
  intro d
  induction d with
  | zero =>
    intro K rc j x H locs ls hi hk ex hd hS hl hmore hmost hP
    refine lv_iload hx hb dX2_riseFor_17 (lv_at hl 0 rfl) ?_
    refine lv_iload_n hx hb dX2_riseFor_19 rfl (lv_at hl 2 rfl) ?_
    refine lv_icmp_ge (tgt := 60) hx hb dX2_riseFor_20 (by decide) (fun c_1 => ?_) (fun c_1 => absurd (by rw [ex]; exact nI_le (by omega) (by omega)) c_1)
    exact m_vret hx hb hr hlk hS (by have hP : P (wT X (kset K i (h, dE (kA K 3) rc)) r t) := hP; rw [kset_self hi] at hP; exact hP) (Nat.le_refl 0) (Nat.le_refl 0) dX2_riseFor_60
  | succ d ih =>
    intro K rc j x H locs ls hi hk ex hd hS hl hmore hmost hP
    refine lv_iload hx hb dX2_riseFor_17 (lv_at hl 0 rfl) ?_
    refine lv_iload_n hx hb dX2_riseFor_19 rfl (lv_at hl 2 rfl) ?_
    refine lv_icmp_ge (tgt := 60) hx hb dX2_riseFor_20 (by decide) (fun c_2 => absurd c_2 (by rw [ex]; exact nI_ge (by omega) (by omega))) (fun c_2 => ?_)
    refine lv_aload_n hx hb dX2_riseFor_23 rfl (lv_at hl 1 rfl) ?_
    refine m_get hx hb hG hown hF hS (i + 15) (wT_at hi) (kd_cls hk).1 (kd_cls hk).2 3 (by decide) kw_115 (fun _ h9 => h9) rfl dX2_riseFor_24 ?_
    refine lv_if_ne (tgt := 60) hx hb dX2_riseFor_27 (by decide) (fun c_3 => ?_) (fun c_3 => ?_)
    · exact m_vret hx hb hr hlk hS (by rw [riseN_0 c_3, kset_self hi] at hP; exact hP) (Nat.le_refl 0) (Nat.le_refl 0) dX2_riseFor_60
    · rw [riseN, if_pos c_3] at hP
      refine lv_aload_n hx hb dX2_riseFor_30 rfl (lv_at hl 1 rfl) ?_
      refine lv_dup hx hb dX2_riseFor_31 rfl ?_
      refine m_get hx hb hG hown hF hS (i + 15) (wT_at hi) (kd_cls hk).1 (kd_cls hk).2 4 (by decide) kw_117 (fun _ h9 => h9) rfl dX2_riseFor_32 ?_
      refine lv_iload_n hx hb dX2_riseFor_35 rfl (lv_at hl 3 rfl) ?_
      refine lv_iadd hx hb dX2_riseFor_36 ?_
      refine m_put hx hb hG hown hF hS (i + 15) (wT_at hi) (kd_cls hk).1 (kd_cls hk).2 tyX2_ok nmX2 4 (by decide) kw_117 (fun _ h9 => h9) rfl rfl rfl (Nat.le_of_ble_eq_true rfl) (wT X (kset K i (h, dE (kA K 3) (va_up rc 4 ((rc 4) + more)))) r t) rfl dX2_riseFor_37 (fun H locs hS => ?_)
      have hi2 : (kP (kset K i (h, dE (kA K 3) (va_up rc 4 ((rc 4) + more)))))[i]? = some (h, dE (kA K 3) (va_up rc 4 ((rc 4) + more))) := kset_at hi
      refine lv_aload_n hx hb dX2_riseFor_40 rfl (lv_at hl 1 rfl) ?_
      refine m_get hx hb hG hown hF hS (i + 15) (wT_at hi2) (kd_cls hk).1 (kd_cls hk).2 4 (by decide) kw_117 (fun _ h9 => h9) rfl dX2_riseFor_41 ?_
      refine lv_iload hx hb dX2_riseFor_44 (lv_at hl 4 rfl) ?_
      refine lv_icmp_le (tgt := 54) hx hb dX2_riseFor_46 (by decide) (fun c_4 => ?_) (fun c_4 => ?_)
      · rw [stepR, if_pos (by rw [← hmore, ← hmost]; exact c_4)] at hP
        obtain ⟨x_5, ex_5⟩ : ∃ y : Int32, y = x + 1 := ⟨_, rfl⟩
        refine lv_iinc (v := x_5) (lv' := [(5, .int x_5), (0, .ref h), (1, .int (nI N)), (3, .int more), (4, .int most)]) hx hb dX2_riseFor_54 hl (k := 0) rfl (by rw [ex_5]; rfl) (by decide) rfl (fun ls hl => ?_)
        refine lv_goto (tgt := 17) hx hb dX2_riseFor_57 (by decide) ?_
        exact ih (kset K i (h, dE (kA K 3) (va_up rc 4 ((rc 4) + more)))) (va_up rc 4 ((rc 4) + more)) (j + 1) x_5 _ _ _ hi2 hk (by rw [ex_5, ex]; exact nI_1 j) (by omega) hS (lv_sub hl [0, 1, 2, 3, 4] rfl) hmore hmost (by rw [kset_kset, hmore]; exact hP)
      · rw [stepR, if_neg (by rw [← hmore, ← hmost]; exact c_4)] at hP
        refine lv_aload_n hx hb dX2_riseFor_49 rfl (lv_at hl 1 rfl) ?_
        refine lv_iconst (v := 4) hx hb dX2_riseFor_50 (by decide) ?_
        refine m_put hx hb hG hown hF hS (i + 15) (wT_at hi2) (kd_cls hk).1 (kd_cls hk).2 tyX2_ok nmX2 3 (by decide) kw_115 (fun _ h9 => h9) rfl rfl rfl (Nat.le_of_ble_eq_true rfl) (wT X (kset K i (h, dE (kA K 3) (va_up (va_up rc 4 ((rc 4) + more)) 3 4))) r t) (by rw [wT_set, kset_kset]; rfl) dX2_riseFor_51 (fun H locs hS => ?_)
        obtain ⟨x_6, ex_6⟩ : ∃ y : Int32, y = x + 1 := ⟨_, rfl⟩
        refine lv_iinc (v := x_6) (lv' := [(5, .int x_6), (0, .ref h), (1, .int (nI N)), (3, .int more), (4, .int most)]) hx hb dX2_riseFor_54 hl (k := 0) rfl (by rw [ex_6]; rfl) (by decide) rfl (fun ls hl => ?_)
        refine lv_goto (tgt := 17) hx hb dX2_riseFor_57 (by decide) ?_
        exact ih (kset K i (h, dE (kA K 3) (va_up (va_up rc 4 ((rc 4) + more)) 3 4))) (va_up (va_up rc 4 ((rc 4) + more)) 3 4) (j + 1) x_6 _ _ _ (kset_at hi) hk (by rw [ex_6, ex]; exact nI_1 j) (by omega) hS (lv_sub hl [0, 1, 2, 3, 4] rfl) hmore hmost (by rw [kset_kset, hmore]; exact hP)
set_option maxHeartbeats 4000000 in
set_option maxRecDepth 100000 in
theorem bf_loop {p : Program} {l : Launch} {e : Env} {R : Room} {s : State} {m : MethodId} {args : Array Value} {below : List Frame} {meth : Method} {c : Code} {X : Cx} {r : Bool} {t : Tr} {h i N : Nat} {w more : Int32} {P : va_W → Prop} (hN : N < 1000) (hx : p.tables.exec = Jvm.exec) (hb : c.code = cX2_brownFor) (hr : meth.sig.returnType = none) (hml : c.maxLocals = 5) (hown : s.vm.findClass RX2 = some m.cls) (hG : ∀ w ∈ G, w.before args s = true) (hlk : meth.locks = false) (hF : mF X s) (hz : X.2.2.2 ≤ s.heap.size) : ∀ (d : Nat) (K : KT) (rc : Rc) (j : Nat) (x : Int32) (H : Heap) (locs : List Loc) (ls : Array Slot), (kP K)[i]? = some (h, dE (kA K 3) rc) → kd rc < 7 → x = nI j → j + d = N → mS X s (wT X K r t) H locs → lv_has ls 5 [(4, .int x), (0, .ref h), (1, .int (nI N)), (3, .int more)] → more = brownV (kd rc) w → P (wT X (kset K i (h, dE (kA K 3) (brownN w d rc))) r t) → W p l e R s m args below meth c H locs 0 0 (MQ below (va_Qv P (fun w t => mH X w t.heap) (xA X)) args s 0 0 (xA X)) (F0 m 9 ls []) := by
  intro d
  induction d with
  | zero =>
    intro K rc j x H locs ls hi hk ex hd hS hl hmore hP
    refine lv_iload hx hb dX2_brownFor_9 (lv_at hl 0 rfl) ?_
    refine lv_iload_n hx hb dX2_brownFor_11 rfl (lv_at hl 2 rfl) ?_
    refine lv_icmp_ge (tgt := 53) hx hb dX2_brownFor_12 (by decide) (fun c_1 => ?_) (fun c_1 => absurd (by rw [ex]; exact nI_le (by omega) (by omega)) c_1)
    exact m_vret hx hb hr hlk hS (by have hP : P (wT X (kset K i (h, dE (kA K 3) rc)) r t) := hP; rw [kset_self hi] at hP; exact hP) (Nat.le_refl 0) (Nat.le_refl 0) dX2_brownFor_53
  | succ d ih =>
    intro K rc j x H locs ls hi hk ex hd hS hl hmore hP
    refine lv_iload hx hb dX2_brownFor_9 (lv_at hl 0 rfl) ?_
    refine lv_iload_n hx hb dX2_brownFor_11 rfl (lv_at hl 2 rfl) ?_
    refine lv_icmp_ge (tgt := 53) hx hb dX2_brownFor_12 (by decide) (fun c_2 => absurd c_2 (by rw [ex]; exact nI_ge (by omega) (by omega))) (fun c_2 => ?_)
    refine lv_aload_n hx hb dX2_brownFor_15 rfl (lv_at hl 1 rfl) ?_
    refine m_get hx hb hG hown hF hS (i + 15) (wT_at hi) (kd_cls hk).1 (kd_cls hk).2 3 (by decide) kw_115 (fun _ h9 => h9) rfl dX2_brownFor_16 ?_
    refine lv_iconst (v := 1) hx hb dX2_brownFor_19 (by decide) ?_
    refine lv_icmp_ne (tgt := 53) hx hb dX2_brownFor_20 (by decide) (fun c_3 => ?_) (fun c_3 => ?_)
    · exact m_vret hx hb hr hlk hS (by rw [brownN_0 c_3, kset_self hi] at hP; exact hP) (Nat.le_refl 0) (Nat.le_refl 0) dX2_brownFor_53
    · rw [brownN, if_pos c_3] at hP
      refine lv_aload_n hx hb dX2_brownFor_23 rfl (lv_at hl 1 rfl) ?_
      refine lv_dup hx hb dX2_brownFor_24 rfl ?_
      refine m_get hx hb hG hown hF hS (i + 15) (wT_at hi) (kd_cls hk).1 (kd_cls hk).2 5 (by decide) kw_119 (fun _ h9 => h9) rfl dX2_brownFor_25 ?_
      refine lv_iload_n hx hb dX2_brownFor_28 rfl (lv_at hl 3 rfl) ?_
      refine lv_iadd hx hb dX2_brownFor_29 ?_
      refine m_put hx hb hG hown hF hS (i + 15) (wT_at hi) (kd_cls hk).1 (kd_cls hk).2 tyX2_ok nmX2 5 (by decide) kw_119 (fun _ h9 => h9) rfl rfl rfl (Nat.le_of_ble_eq_true rfl) (wT X (kset K i (h, dE (kA K 3) (va_up rc 5 ((rc 5) + more)))) r t) rfl dX2_brownFor_30 (fun H locs hS => ?_)
      have hi2 : (kP (kset K i (h, dE (kA K 3) (va_up rc 5 ((rc 5) + more)))))[i]? = some (h, dE (kA K 3) (va_up rc 5 ((rc 5) + more))) := kset_at hi
      refine lv_aload_n hx hb dX2_brownFor_33 rfl (lv_at hl 1 rfl) ?_
      refine m_get hx hb hG hown hF hS (i + 15) (wT_at hi2) (kd_cls hk).1 (kd_cls hk).2 5 (by decide) kw_119 (fun _ h9 => h9) rfl dX2_brownFor_34 ?_
      refine lv_bipush (v := 100) hx hb dX2_brownFor_37 (by decide) ?_
      refine lv_icmp_le (tgt := 47) hx hb dX2_brownFor_39 (by decide) (fun c_4 => ?_) (fun c_4 => ?_)
      · rw [stepB, if_pos (by rw [← hmore]; exact c_4)] at hP
        obtain ⟨x_5, ex_5⟩ : ∃ y : Int32, y = x + 1 := ⟨_, rfl⟩
        refine lv_iinc (v := x_5) (lv' := [(4, .int x_5), (0, .ref h), (1, .int (nI N)), (3, .int more)]) hx hb dX2_brownFor_47 hl (k := 0) rfl (by rw [ex_5]; rfl) (by decide) rfl (fun ls hl => ?_)
        refine lv_goto (tgt := 9) hx hb dX2_brownFor_50 (by decide) ?_
        exact ih (kset K i (h, dE (kA K 3) (va_up rc 5 ((rc 5) + more)))) (va_up rc 5 ((rc 5) + more)) (j + 1) x_5 _ _ _ hi2 hk (by rw [ex_5, ex]; exact nI_1 j) (by omega) hS (lv_sub hl [0, 1, 2, 3] rfl) hmore (by rw [kset_kset, hmore]; exact hP)
      · rw [stepB, if_neg (by rw [← hmore]; exact c_4)] at hP
        refine lv_aload_n hx hb dX2_brownFor_42 rfl (lv_at hl 1 rfl) ?_
        refine lv_iconst (v := 4) hx hb dX2_brownFor_43 (by decide) ?_
        refine m_put hx hb hG hown hF hS (i + 15) (wT_at hi2) (kd_cls hk).1 (kd_cls hk).2 tyX2_ok nmX2 3 (by decide) kw_115 (fun _ h9 => h9) rfl rfl rfl (Nat.le_of_ble_eq_true rfl) (wT X (kset K i (h, dE (kA K 3) (va_up (va_up rc 5 ((rc 5) + more)) 3 4))) r t) (by rw [wT_set, kset_kset]; rfl) dX2_brownFor_44 (fun H locs hS => ?_)
        obtain ⟨x_6, ex_6⟩ : ∃ y : Int32, y = x + 1 := ⟨_, rfl⟩
        refine lv_iinc (v := x_6) (lv' := [(4, .int x_6), (0, .ref h), (1, .int (nI N)), (3, .int more)]) hx hb dX2_brownFor_47 hl (k := 0) rfl (by rw [ex_6]; rfl) (by decide) rfl (fun ls hl => ?_)
        refine lv_goto (tgt := 9) hx hb dX2_brownFor_50 (by decide) ?_
        exact ih (kset K i (h, dE (kA K 3) (va_up (va_up rc 5 ((rc 5) + more)) 3 4))) (va_up (va_up rc 5 ((rc 5) + more)) 3 4) (j + 1) x_6 _ _ _ (kset_at hi) hk (by rw [ex_6, ex]; exact nI_1 j) (by omega) hS (lv_sub hl [0, 1, 2, 3] rfl) hmore (by rw [kset_kset, hmore]; exact hP)
end
section
set_option maxHeartbeats 4000000 in
set_option maxRecDepth 100000 in
theorem c_riseFor (l : Launch) (X : Cx) (K : KT) (t : Tr) (h i N : Nat) (rc : Rc) (w : Int32) (f : Nat) (hi : (kP K)[i]? = some (h, dE (kA K 3) rc)) (hk : kd rc < 7) (hN : N < 1000) (hf : 5 ≤ f) : cV l yX2_riseFor cX2_riseFor 6 (rl f) X [.ref h, .int (nI N), .int w] (wT X K false t) (fun w' => w' = wT X (kset K i (h, dE (kA K 3) (riseN w N rc))) false t) := by
  refine met_start (by decide) (Nat.le_of_ble_eq_true rfl) ?_
  intro p e s m below meth c ls fx hS hl
  obtain ⟨hx, hb, hr, hml, hown, hG, hlk, hF, hz, hnm⟩ := fx
  have hown : s.vm.findClass RX2 = some m.cls := hown
  have hl : lv_has ls 6 [(0, .ref h), (1, .int (nI N)), (2, .int w)] := hl
  refine lv_aload_n hx hb dX2_riseFor_0 rfl (lv_at hl 0 rfl) ?_
  refine lv_iload_n hx hb dX2_riseFor_1 rfl (lv_at hl 2 rfl) ?_
  refine m_ci (m_runU (x := yX2_rise) (owner := "DoughRoom$Dough") (n := 1) (rest := []) ⟨hx, hb, hml, hown, hG⟩ (f_rise l X K false t h i rc (kd rc) w 3 hi rfl (Nat.zero_le _) hk (by decide) tR.f) kw_416 kw_244 kw_242 kw_271 (fam_rise (kd rc) (Nat.zero_le _) hk).2.1 (fam_rise (kd rc) (Nat.zero_le _) hk).1 (fam_rise (kd rc) (Nat.zero_le _) hk).2.2.1 (fam_rise (kd rc) (Nat.zero_le _) hk).2.2.2.1 (by decide +kernel) (rl_ok (by omega) (fam_rise (kd rc) (Nat.zero_le _) hk).2.2.2.2) hF hz hS (q0 := i + 15) (wT_at hi) (kd_cls hk).1 rfl hl.1 rfl (Nat.le_of_ble_eq_true rfl) dX2_riseFor_2 ⟨Nat.le_refl 0, Nat.le_refl 0⟩) hS (fun r_1 w1 H locs hw1 hS => ?_)
  obtain ⟨rfl, rfl⟩ := hw1
  refine lv_istore_n (lv' := [(3, .int (riseV (kd rc) w)), (0, .ref h), (1, .int (nI N)), (2, .int w)]) hx hb dX2_riseFor_5 rfl hl (by decide) rfl (fun ls hl => ?_)
  refine lv_iconst (v := 2) hx hb dX2_riseFor_6 (by decide) ?_
  refine lv_aload_n hx hb dX2_riseFor_7 rfl (lv_at hl 1 rfl) ?_
  refine m_ci (m_runU (x := yX2_need) (owner := "DoughRoom$Dough") (n := 0) (rest := [.int 2]) ⟨hx, hb, hml, hown, hG⟩ (f_need l X K false t h i rc (kd rc) 4 hi rfl (Nat.zero_le _) hk (by decide) tR.f) kw_417 kw_276 kw_274 kw_296 (fam_need (kd rc) (Nat.zero_le _) hk).2.1 (fam_need (kd rc) (Nat.zero_le _) hk).1 (fam_need (kd rc) (Nat.zero_le _) hk).2.2.1 (fam_need (kd rc) (Nat.zero_le _) hk).2.2.2.1 (by decide +kernel) (rl_ok (by omega) (fam_need (kd rc) (Nat.zero_le _) hk).2.2.2.2) hF hz hS (q0 := i + 15) (wT_at hi) (kd_cls hk).1 rfl hl.1 rfl (Nat.le_of_ble_eq_true rfl) dX2_riseFor_8 ⟨Nat.le_refl 0, Nat.le_refl 0⟩) hS (fun r_2 w2 H locs hw2 hS => ?_)
  obtain ⟨rfl, rfl⟩ := hw2
  refine lv_imul hx hb dX2_riseFor_11 ?_
  refine lv_istore (lv' := [(4, .int (2 * (needV (kd rc) (rc 1)))), (3, .int (riseV (kd rc) w)), (0, .ref h), (1, .int (nI N)), (2, .int w)]) hx hb dX2_riseFor_12 hl (by decide) rfl (fun ls hl => ?_)
  refine lv_iconst (v := 0) hx hb dX2_riseFor_14 (by decide) ?_
  refine lv_istore (lv' := [(5, .int 0), (4, .int (2 * (needV (kd rc) (rc 1)))), (3, .int (riseV (kd rc) w)), (0, .ref h), (1, .int (nI N)), (2, .int w)]) hx hb dX2_riseFor_15 hl (by decide) rfl (fun ls hl => ?_)
  exact rf_loop (t := t) (r := false) (N := N) (w := w) hN hx hb hr hml hown hG hlk hF hz N K rc 0 0 _ _ _ hi hk nI_0.symm (by omega) hS (lv_sub hl [0, 3, 4, 2, 1] rfl) rfl rfl rfl
set_option maxHeartbeats 4000000 in
set_option maxRecDepth 100000 in
theorem c_brownFor (l : Launch) (X : Cx) (K : KT) (t : Tr) (h i N : Nat) (rc : Rc) (w : Int32) (f : Nat) (hi : (kP K)[i]? = some (h, dE (kA K 3) rc)) (hk : kd rc < 7) (hN : N < 1000) (hf : 5 ≤ f) : cV l yX2_brownFor cX2_brownFor 5 (rl f) X [.ref h, .int (nI N), .int w] (wT X K false t) (fun w' => w' = wT X (kset K i (h, dE (kA K 3) (brownN w N rc))) false t) := by
  refine met_start (by decide) (Nat.le_of_ble_eq_true rfl) ?_
  intro p e s m below meth c ls fx hS hl
  obtain ⟨hx, hb, hr, hml, hown, hG, hlk, hF, hz, hnm⟩ := fx
  have hown : s.vm.findClass RX2 = some m.cls := hown
  have hl : lv_has ls 5 [(0, .ref h), (1, .int (nI N)), (2, .int w)] := hl
  refine lv_aload_n hx hb dX2_brownFor_0 rfl (lv_at hl 0 rfl) ?_
  refine lv_iload_n hx hb dX2_brownFor_1 rfl (lv_at hl 2 rfl) ?_
  refine m_ci (m_runU (x := yX2_brown) (owner := "DoughRoom$Dough") (n := 1) (rest := []) ⟨hx, hb, hml, hown, hG⟩ (f_brown l X K false t h i rc (kd rc) w 2 hi rfl (Nat.zero_le _) hk (by decide) tR.f) kw_433 kw_300 kw_298 kw_316 (fam_brown (kd rc) (Nat.zero_le _) hk).2.1 (fam_brown (kd rc) (Nat.zero_le _) hk).1 (fam_brown (kd rc) (Nat.zero_le _) hk).2.2.1 (fam_brown (kd rc) (Nat.zero_le _) hk).2.2.2.1 (by decide +kernel) (rl_ok (by omega) (fam_brown (kd rc) (Nat.zero_le _) hk).2.2.2.2) hF hz hS (q0 := i + 15) (wT_at hi) (kd_cls hk).1 rfl hl.1 rfl (Nat.le_of_ble_eq_true rfl) dX2_brownFor_2 ⟨Nat.le_refl 0, Nat.le_refl 0⟩) hS (fun r_1 w1 H locs hw1 hS => ?_)
  obtain ⟨rfl, rfl⟩ := hw1
  refine lv_istore_n (lv' := [(3, .int (brownV (kd rc) w)), (0, .ref h), (1, .int (nI N)), (2, .int w)]) hx hb dX2_brownFor_5 rfl hl (by decide) rfl (fun ls hl => ?_)
  refine lv_iconst (v := 0) hx hb dX2_brownFor_6 (by decide) ?_
  refine lv_istore (lv' := [(4, .int 0), (3, .int (brownV (kd rc) w)), (0, .ref h), (1, .int (nI N)), (2, .int w)]) hx hb dX2_brownFor_7 hl (by decide) rfl (fun ls hl => ?_)
  exact bf_loop (t := t) (r := false) (N := N) (w := w) hN hx hb hr hml hown hG hlk hF hz N K rc 0 0 _ _ _ hi hk nI_0.symm (by omega) hS (lv_sub hl [0, 2, 3, 1] rfl) rfl rfl
theorem wT_at2 {X : Cx} {K : KT} {r : Bool} {t : Tr} {i kk h : Nat} {fs : List Value} (hi : (kP K)[i]? = some (h, .inr (kk, fs))) : (wT X K r t)[i + 15]? = some (h, .inr (kk, fs)) := hi
theorem k_cls {k : Nat} (h : k < 7) : classes[k]? = some (RD k, TD, 8) ∧ ∀ w ∈ u_ws (RD k) TD 8, w ∈ G := by
  match k, h with
  | 0, _ => exact ⟨rfl, iG_0⟩
  | 1, _ => exact ⟨rfl, iG_1⟩
  | 2, _ => exact ⟨rfl, iG_2⟩
  | 3, _ => exact ⟨rfl, iG_3⟩
  | 4, _ => exact ⟨rfl, iG_4⟩
  | 5, _ => exact ⟨rfl, iG_5⟩
  | 6, _ => exact ⟨rfl, iG_6⟩
/-- a batch just made, and one that its constructor has filled -/
abbrev dN (kk : Nat) : va_E := .inr (kk, [.int 0, .int 0, .null, .int 0, .int 0, .int 0, .int 0, .int 0])
abbrev dM (kk T : Nat) (k m : Int32) : va_E := .inr (kk, [.int k, .int m, .ref T, .int 0, .int 0, .int 0, .int 0, .int 0])
set_option maxHeartbeats 4000000 in
set_option maxRecDepth 100000 in
theorem c_Dinit (l : Launch) (X : Cx) (K : KT) (t : Tr) (h i kk : Nat) (k ma : Int32) (f : Nat) (hi : (kP K)[i]? = some (h, dN kk)) (hk : kk < 7) (hf : 1 ≤ f) : cV l yX2_init cX2_init 4 (rl f) X [.ref h, .int k, .int ma, .ref (kA K 3)] (wT X K false t) (fun w' => w' = wT X (kset K i (h, dM kk (kA K 3) k ma)) false t) := by
  refine met_start (by decide) (Nat.le_of_ble_eq_true rfl) ?_
  intro p e s m below meth c ls fx hS hl
  obtain ⟨hx, hb, hr, hml, hown, hG, hlk, hF, hz, hnm⟩ := fx
  have hown : s.vm.findClass RX2 = some m.cls := hown
  have hl : lv_has ls 4 [(0, .ref h), (1, .int k), (2, .int ma), (3, .ref (kA K 3))] := hl
  refine lv_aload_n hx hb dX2_init_0 rfl (lv_at hl 0 rfl) ?_
  refine W.objInit hx hb hown (hG _ kw_97) (hG _ kw_35) (hG _ kw_36) rfl (by rw [hml]; exact hl.1) rfl dX2_init_1 (by show 1 ≤ f; omega) (by show _ ≤ 27 * f; first | omega | (simp; omega)) ?_
  refine W.eq (g2 := F0 m 4 ls []) rfl ?_
  refine lv_aload_n hx hb dX2_init_4 rfl (lv_at hl 0 rfl) ?_
  refine lv_iload_n hx hb dX2_init_5 rfl (lv_at hl 1 rfl) ?_
  refine m_putF hx hb hG hown hF hS (i + 15) (wT_at2 hi) (k_cls hk).1 (k_cls hk).2 tyX2_ok nmX2 0 (by decide) kw_98 (fun _ h9 => h9) rfl hnm rfl rfl rfl (Nat.le_of_ble_eq_true rfl) (wT X (kset K i (h, .inr (kk, [.int k, .int 0, .null, .int 0, .int 0, .int 0, .int 0, .int 0]))) false t) rfl dX2_init_6 (fun H locs hS => ?_)
  have hi0 : (kP (kset K i (h, .inr (kk, [.int k, .int 0, .null, .int 0, .int 0, .int 0, .int 0, .int 0]))))[i]? = some (h, .inr (kk, [.int k, .int 0, .null, .int 0, .int 0, .int 0, .int 0, .int 0])) := kset_at hi
  refine lv_aload_n hx hb dX2_init_9 rfl (lv_at hl 0 rfl) ?_
  refine lv_iload_n hx hb dX2_init_10 rfl (lv_at hl 2 rfl) ?_
  refine m_putF hx hb hG hown hF hS (i + 15) (wT_at2 hi0) (k_cls hk).1 (k_cls hk).2 tyX2_ok nmX2 1 (by decide) kw_100 (fun _ h9 => h9) rfl hnm rfl rfl rfl (Nat.le_of_ble_eq_true rfl) (wT X (kset K i (h, .inr (kk, [.int k, .int ma, .null, .int 0, .int 0, .int 0, .int 0, .int 0]))) false t) (by rw [wT_set, kset_kset]; rfl) dX2_init_11 (fun H locs hS => ?_)
  have hi1 : (kP (kset K i (h, .inr (kk, [.int k, .int ma, .null, .int 0, .int 0, .int 0, .int 0, .int 0]))))[i]? = some (h, .inr (kk, [.int k, .int ma, .null, .int 0, .int 0, .int 0, .int 0, .int 0])) := kset_at hi
  refine lv_aload_n hx hb dX2_init_14 rfl (lv_at hl 0 rfl) ?_
  refine lv_aload_n hx hb dX2_init_15 rfl (lv_at hl 3 rfl) ?_
  refine m_putF hx hb hG hown hF hS (i + 15) (wT_at2 hi1) (k_cls hk).1 (k_cls hk).2 tyX2_ok nmX2 2 (by decide) kw_102 (fun _ h9 => h9) rfl hnm rfl rfl rfl (Nat.le_of_ble_eq_true rfl) (wT X (kset K i (h, .inr (kk, [.int k, .int ma, .ref (kA K 3), .int 0, .int 0, .int 0, .int 0, .int 0]))) false t) (by rw [wT_set, kset_kset]; rfl) dX2_init_16 (fun H locs hS => ?_)
  have hi2 : (kP (kset K i (h, .inr (kk, [.int k, .int ma, .ref (kA K 3), .int 0, .int 0, .int 0, .int 0, .int 0]))))[i]? = some (h, .inr (kk, [.int k, .int ma, .ref (kA K 3), .int 0, .int 0, .int 0, .int 0, .int 0])) := kset_at hi
  refine lv_aload_n hx hb dX2_init_19 rfl (lv_at hl 0 rfl) ?_
  refine lv_iconst (v := 0) hx hb dX2_init_20 (by decide) ?_
  refine m_put hx hb hG hown hF hS (i + 15) (wT_at2 hi2) (k_cls hk).1 (k_cls hk).2 tyX2_ok nmX2 3 (by decide) kw_115 (fun _ h9 => h9) rfl rfl rfl (Nat.le_of_ble_eq_true rfl) (wT X (kset K i (h, .inr (kk, [.int k, .int ma, .ref (kA K 3), .int 0, .int 0, .int 0, .int 0, .int 0]))) false t) (by rw [wT_set, kset_kset]; rfl) dX2_init_21 (fun H locs hS => ?_)
  have hi3 : (kP (kset K i (h, .inr (kk, [.int k, .int ma, .ref (kA K 3), .int 0, .int 0, .int 0, .int 0, .int 0]))))[i]? = some (h, .inr (kk, [.int k, .int ma, .ref (kA K 3), .int 0, .int 0, .int 0, .int 0, .int 0])) := kset_at hi
  exact m_vret hx hb hr hlk hS rfl (Nat.le_refl 0) (Nat.le_refl 0) dX2_init_24
set_option maxHeartbeats 4000000 in
set_option maxRecDepth 100000 in
theorem c_Yinit (l : Launch) (X : Cx) (K : KT) (t : Tr) (h i kk : Nat) (k ma : Int32) (f : Nat) (hi : (kP K)[i]? = some (h, dN kk)) (hk : kk < 7) (hf : 2 ≤ f) : cV l yX7_init cX7_init 4 (rl f) X [.ref h, .int k, .int ma, .ref (kA K 3)] (wT X K false t) (fun w' => w' = wT X (kset K i (h, dM kk (kA K 3) k ma)) false t) := by
  refine met_start (by decide) (Nat.le_of_ble_eq_true rfl) ?_
  intro p e s m below meth c ls fx hS hl
  obtain ⟨hx, hb, hr, hml, hown, hG, hlk, hF, hz, hnm⟩ := fx
  have hown : s.vm.findClass RX7 = some m.cls := hown
  have hl : lv_has ls 4 [(0, .ref h), (1, .int k), (2, .int ma), (3, .ref (kA K 3))] := hl
  refine lv_aload_n hx hb dX7_init_0 rfl (lv_at hl 0 rfl) ?_
  refine lv_iload_n hx hb dX7_init_1 rfl (lv_at hl 1 rfl) ?_
  refine lv_iload_n hx hb dX7_init_2 rfl (lv_at hl 2 rfl) ?_
  refine lv_aload_n hx hb dX7_init_3 rfl (lv_at hl 3 rfl) ?_
  refine m_cv (m_runI (n := 3) (rest := []) ⟨hx, hb, hml, hown, hG⟩ (c_Dinit l X K t h i kk k ma 1 hi hk (by decide)) kw_94 kw_95 kw_21 kw_96 rfl (by decide +kernel) (rl_ok (by omega) (by decide)) hF hz hS rfl hl.1 rfl (Nat.le_of_ble_eq_true rfl) dX7_init_4 ⟨Nat.le_refl 0, Nat.le_refl 0⟩) hS (fun w1 H locs hw1 hS => ?_)
  subst hw1
  exact m_vret hx hb hr hlk hS rfl (Nat.le_refl 0) (Nat.le_refl 0) dX7_init_7
set_option maxHeartbeats 4000000 in
set_option maxRecDepth 100000 in
theorem c_Winit (l : Launch) (X : Cx) (K : KT) (t : Tr) (h i kk : Nat) (k ma : Int32) (f : Nat) (hi : (kP K)[i]? = some (h, dN kk)) (hk : kk < 7) (hf : 2 ≤ f) : cV l yX5_init cX5_init 4 (rl f) X [.ref h, .int k, .int ma, .ref (kA K 3)] (wT X K false t) (fun w' => w' = wT X (kset K i (h, dM kk (kA K 3) k ma)) false t) := by
  refine met_start (by decide) (Nat.le_of_ble_eq_true rfl) ?_
  intro p e s m below meth c ls fx hS hl
  obtain ⟨hx, hb, hr, hml, hown, hG, hlk, hF, hz, hnm⟩ := fx
  have hown : s.vm.findClass RX5 = some m.cls := hown
  have hl : lv_has ls 4 [(0, .ref h), (1, .int k), (2, .int ma), (3, .ref (kA K 3))] := hl
  refine lv_aload_n hx hb dX5_init_0 rfl (lv_at hl 0 rfl) ?_
  refine lv_iload_n hx hb dX5_init_1 rfl (lv_at hl 1 rfl) ?_
  refine lv_iload_n hx hb dX5_init_2 rfl (lv_at hl 2 rfl) ?_
  refine lv_aload_n hx hb dX5_init_3 rfl (lv_at hl 3 rfl) ?_
  refine m_cv (m_runI (n := 3) (rest := []) ⟨hx, hb, hml, hown, hG⟩ (c_Dinit l X K t h i kk k ma 1 hi hk (by decide)) kw_190 kw_95 kw_21 kw_96 rfl (by decide +kernel) (rl_ok (by omega) (by decide)) hF hz hS rfl hl.1 rfl (Nat.le_of_ble_eq_true rfl) dX5_init_4 ⟨Nat.le_refl 0, Nat.le_refl 0⟩) hS (fun w1 H locs hw1 hS => ?_)
  subst hw1
  exact m_vret hx hb hr hlk hS rfl (Nat.le_refl 0) (Nat.le_refl 0) dX5_init_7
set_option maxHeartbeats 4000000 in
set_option maxRecDepth 100000 in
theorem c_Sinit (l : Launch) (X : Cx) (K : KT) (t : Tr) (h i kk : Nat) (k ma : Int32) (f : Nat) (hi : (kP K)[i]? = some (h, dN kk)) (hk : kk < 7) (hf : 3 ≤ f) : cV l yX4_init cX4_init 4 (rl f) X [.ref h, .int k, .int ma, .ref (kA K 3)] (wT X K false t) (fun w' => w' = wT X (kset K i (h, dM kk (kA K 3) k ma)) false t) := by
  refine met_start (by decide) (Nat.le_of_ble_eq_true rfl) ?_
  intro p e s m below meth c ls fx hS hl
  obtain ⟨hx, hb, hr, hml, hown, hG, hlk, hF, hz, hnm⟩ := fx
  have hown : s.vm.findClass RX4 = some m.cls := hown
  have hl : lv_has ls 4 [(0, .ref h), (1, .int k), (2, .int ma), (3, .ref (kA K 3))] := hl
  refine lv_aload_n hx hb dX4_init_0 rfl (lv_at hl 0 rfl) ?_
  refine lv_iload_n hx hb dX4_init_1 rfl (lv_at hl 1 rfl) ?_
  refine lv_iload_n hx hb dX4_init_2 rfl (lv_at hl 2 rfl) ?_
  refine lv_aload_n hx hb dX4_init_3 rfl (lv_at hl 3 rfl) ?_
  refine m_cv (m_runI (n := 3) (rest := []) ⟨hx, hb, hml, hown, hG⟩ (c_Yinit l X K t h i kk k ma 2 hi hk (by decide)) kw_145 kw_92 kw_22 kw_93 rfl (by decide +kernel) (rl_ok (by omega) (by decide)) hF hz hS rfl hl.1 rfl (Nat.le_of_ble_eq_true rfl) dX4_init_4 ⟨Nat.le_refl 0, Nat.le_refl 0⟩) hS (fun w1 H locs hw1 hS => ?_)
  subst hw1
  exact m_vret hx hb hr hlk hS rfl (Nat.le_refl 0) (Nat.le_refl 0) dX4_init_7
set_option maxHeartbeats 4000000 in
set_option maxRecDepth 100000 in
theorem c_Uinit (l : Launch) (X : Cx) (K : KT) (t : Tr) (h i kk : Nat) (k ma : Int32) (f : Nat) (hi : (kP K)[i]? = some (h, dN kk)) (hk : kk < 7) (hf : 3 ≤ f) : cV l yX1_init cX1_init 4 (rl f) X [.ref h, .int k, .int ma, .ref (kA K 3)] (wT X K false t) (fun w' => w' = wT X (kset K i (h, dM kk (kA K 3) k ma)) false t) := by
  refine met_start (by decide) (Nat.le_of_ble_eq_true rfl) ?_
  intro p e s m below meth c ls fx hS hl
  obtain ⟨hx, hb, hr, hml, hown, hG, hlk, hF, hz, hnm⟩ := fx
  have hown : s.vm.findClass RX1 = some m.cls := hown
  have hl : lv_has ls 4 [(0, .ref h), (1, .int k), (2, .int ma), (3, .ref (kA K 3))] := hl
  refine lv_aload_n hx hb dX1_init_0 rfl (lv_at hl 0 rfl) ?_
  refine lv_iload_n hx hb dX1_init_1 rfl (lv_at hl 1 rfl) ?_
  refine lv_iload_n hx hb dX1_init_2 rfl (lv_at hl 2 rfl) ?_
  refine lv_aload_n hx hb dX1_init_3 rfl (lv_at hl 3 rfl) ?_
  refine m_cv (m_runI (n := 3) (rest := []) ⟨hx, hb, hml, hown, hG⟩ (c_Winit l X K t h i kk k ma 2 hi hk (by decide)) kw_205 kw_188 kw_26 kw_189 rfl (by decide +kernel) (rl_ok (by omega) (by decide)) hF hz hS rfl hl.1 rfl (Nat.le_of_ble_eq_true rfl) dX1_init_4 ⟨Nat.le_refl 0, Nat.le_refl 0⟩) hS (fun w1 H locs hw1 hS => ?_)
  subst hw1
  exact m_vret hx hb hr hlk hS rfl (Nat.le_refl 0) (Nat.le_refl 0) dX1_init_7
set_option maxHeartbeats 4000000 in
set_option maxRecDepth 100000 in
theorem c_Rinit (l : Launch) (X : Cx) (K : KT) (t : Tr) (h i kk : Nat) (k ma : Int32) (f : Nat) (hi : (kP K)[i]? = some (h, dN kk)) (hk : kk < 7) (hf : 4 ≤ f) : cV l yX3_init cX3_init 4 (rl f) X [.ref h, .int k, .int ma, .ref (kA K 3)] (wT X K false t) (fun w' => w' = wT X (kset K i (h, dM kk (kA K 3) k ma)) false t) := by
  refine met_start (by decide) (Nat.le_of_ble_eq_true rfl) ?_
  intro p e s m below meth c ls fx hS hl
  obtain ⟨hx, hb, hr, hml, hown, hG, hlk, hF, hz, hnm⟩ := fx
  have hown : s.vm.findClass RX3 = some m.cls := hown
  have hl : lv_has ls 4 [(0, .ref h), (1, .int k), (2, .int ma), (3, .ref (kA K 3))] := hl
  refine lv_aload_n hx hb dX3_init_0 rfl (lv_at hl 0 rfl) ?_
  refine lv_iload_n hx hb dX3_init_1 rfl (lv_at hl 1 rfl) ?_
  refine lv_iload_n hx hb dX3_init_2 rfl (lv_at hl 2 rfl) ?_
  refine lv_aload_n hx hb dX3_init_3 rfl (lv_at hl 3 rfl) ?_
  refine m_cv (m_runI (n := 3) (rest := []) ⟨hx, hb, hml, hown, hG⟩ (c_Sinit l X K t h i kk k ma 3 hi hk (by decide)) kw_160 kw_143 kw_23 kw_144 rfl (by decide +kernel) (rl_ok (by omega) (by decide)) hF hz hS rfl hl.1 rfl (Nat.le_of_ble_eq_true rfl) dX3_init_4 ⟨Nat.le_refl 0, Nat.le_refl 0⟩) hS (fun w1 H locs hw1 hS => ?_)
  subst hw1
  exact m_vret hx hb hr hlk hS rfl (Nat.le_refl 0) (Nat.le_refl 0) dX3_init_7
set_option maxHeartbeats 4000000 in
set_option maxRecDepth 100000 in
theorem c_Binit (l : Launch) (X : Cx) (K : KT) (t : Tr) (h i kk : Nat) (k ma : Int32) (f : Nat) (hi : (kP K)[i]? = some (h, dN kk)) (hk : kk < 7) (hf : 5 ≤ f) : cV l yX0_init cX0_init 4 (rl f) X [.ref h, .int k, .int ma, .ref (kA K 3)] (wT X K false t) (fun w' => w' = wT X (kset K i (h, dM kk (kA K 3) k ma)) false t) := by
  refine met_start (by decide) (Nat.le_of_ble_eq_true rfl) ?_
  intro p e s m below meth c ls fx hS hl
  obtain ⟨hx, hb, hr, hml, hown, hG, hlk, hF, hz, hnm⟩ := fx
  have hown : s.vm.findClass RX0 = some m.cls := hown
  have hl : lv_has ls 4 [(0, .ref h), (1, .int k), (2, .int ma), (3, .ref (kA K 3))] := hl
  refine lv_aload_n hx hb dX0_init_0 rfl (lv_at hl 0 rfl) ?_
  refine lv_iload_n hx hb dX0_init_1 rfl (lv_at hl 1 rfl) ?_
  refine lv_iload_n hx hb dX0_init_2 rfl (lv_at hl 2 rfl) ?_
  refine lv_aload_n hx hb dX0_init_3 rfl (lv_at hl 3 rfl) ?_
  refine m_cv (m_runI (n := 3) (rest := []) ⟨hx, hb, hml, hown, hG⟩ (c_Rinit l X K t h i kk k ma 4 hi hk (by decide)) kw_175 kw_158 kw_24 kw_159 rfl (by decide +kernel) (rl_ok (by omega) (by decide)) hF hz hS rfl hl.1 rfl (Nat.le_of_ble_eq_true rfl) dX0_init_4 ⟨Nat.le_refl 0, Nat.le_refl 0⟩) hS (fun w1 H locs hw1 hS => ?_)
  subst hw1
  exact m_vret hx hb hr hlk hS rfl (Nat.le_refl 0) (Nat.le_refl 0) dX0_init_7
end
section
/-! more rows: arrays of batches by what they hold, making objects and arrays, casts -/
section MR2
variable {p : Program} {l : Launch} {e : Env} {R : Room} {s : State} {m : MethodId} {args : Array Value} {below : List Frame} {meth : Method} {c : Code} {H : Heap} {locs : List Loc} {cells slots : Nat} {Q : State → Prop}
variable {cc bytes : ByteArray} {pc nL mL n index : Nat} {ls : Array Slot} {rest st As : List Value} {X : Cx} {a ci q0 : Nat} {fs : List Value} {ws : va_W} {own C : String} {T : u_T} {N : Nat}
theorem m_aaldS (hx : p.tables.exec = Jvm.exec) (hb : c.code = cc) (hF : mF X s) (hS : mS X s ws H locs) (q0 : Nat) {n : Nat} {f : Nat → Option Nat} (he : ws[q0]? = some (a, .inl (X.2.2.1, n, .inr (.inr (.inr (.inr f)))))) {i : Int32} (j : Nat) (hi : i = nI j) (hj : j < n) (hn : n < 2 ^ 31) {v : Nat} (ho : f j = some v) (hdg : decode cc pc = .ok (.aaload, 1))
    (kk : W p l e R s m args below meth c H locs cells slots Q (F0 m (pc + 1) ls (.ref v :: rest))) : W p l e R s m args below meth c H locs cells slots Q (F0 m pc ls (.int i :: .ref a :: rest)) :=
  m_aald hx hb hF hS q0 he j hi hj hn hdg (by rw [ho]; exact kk)
theorem m_aaldN (hx : p.tables.exec = Jvm.exec) (hb : c.code = cc) (hF : mF X s) (hS : mS X s ws H locs) (q0 : Nat) {n : Nat} {f : Nat → Option Nat} (he : ws[q0]? = some (a, .inl (X.2.2.1, n, .inr (.inr (.inr (.inr f)))))) {i : Int32} (j : Nat) (hi : i = nI j) (hj : j < n) (hn : n < 2 ^ 31) (ho : f j = none) (hdg : decode cc pc = .ok (.aaload, 1))
    (kk : W p l e R s m args below meth c H locs cells slots Q (F0 m (pc + 1) ls (.null :: rest))) : W p l e R s m args below meth c H locs cells slots Q (F0 m pc ls (.int i :: .ref a :: rest)) :=
  m_aald hx hb hF hS q0 he j hi hj hn hdg (by rw [ho]; exact kk)
theorem m_new (hx : p.tables.exec = Jvm.exec) (hb : c.code = cc) (hG : ∀ w ∈ G, w.before args s = true) (hown : s.vm.findClass own = some m.cls) (hF : mF X s) (hz : X.2.2.2 ≤ s.heap.size) (hS : mS X s ws H locs) (hc : classes[ci]? = some (C, T, N)) (hin : ∀ w ∈ u_ws C T N, w ∈ G) {ty : Nat → FieldType} (hty : ∀ k, k < N → parseFieldDescriptor (T k).2.2.1 = some (ty k))
    (kcl : Cond.classLink own index C ∈ G) (kin : Cond.instantiable C N ∈ G) (kii : Cond.initialized C ∈ G) (fs : List Value) (hfs : ∀ j, j < N → defaultValue (ty j) = vp_V fs j) (hcells : cells + 1 ≤ R.cells) (hslots : slots + N ≤ R.slots) (hdg : decode cc pc = .ok (.new index, 3))
    (kk : ∀ (q : Nat) (H1 : Heap), mS X s (ws ++ [(q, .inr (ci, fs))]) H1 locs → W p l e R s m args below meth c H1 locs (cells + 1) (slots + N) Q (F0 m (pc + 3) ls (.ref q :: rest))) : W p l e R s m args below meth c H locs cells slots Q (F0 m pc ls rest) :=
  va_new hx hb hG hin ty hty hown (hG _ kcl) (hG _ kin) (hG _ kii) hF.1 hS.1.1 hS.1.2 hS.2 (fun q h => Nat.le_trans hz h) hc hfs hcells hslots hdg (fun q H1 h1 h2 h3 => kk q H1 ⟨⟨h1, h2⟩, h3⟩)
theorem m_newa (hx : p.tables.exec = Jvm.exec) (hb : c.code = cc) (hG : ∀ w ∈ G, w.before args s = true) (hF : mF X s) (hz : X.2.2.2 ≤ s.heap.size) (hS : mS X s ws H locs) (ka : Cond.arrayClass .int ∈ G) {n : Int32} (N : Nat) (hn : n = nI N) (hN : N < 1000) (hcells : cells + 1 ≤ R.cells) (hslots : slots + N ≤ R.slots) {at_ : ArrayType} (hat : newarray.typeOf at_ = .int) (hdg : decode cc pc = .ok (.newarray at_, 2))
    (kk : ∀ (q : Nat) (H1 : Heap), mS X s (ws ++ [(q, .inl (X.2.1, N, .inl (fun _ => 0)))]) H1 locs → W p l e R s m args below meth c H1 locs (cells + 1) (slots + N) Q (F0 m (pc + 2) ls (.ref q :: rest))) : W p l e R s m args below meth c H locs cells slots Q (F0 m pc ls (.int n :: rest)) := by
  subst hn
  refine va_newa (a0 := (N, .inl (fun _ => 0))) hx hb (by rw [hat]; exact hG _ ka) hat hF.1 hS.1.1 hS.1.2 hS.2 (fun q h => Nat.le_trans hz h) (fun cA => rfl) (nI_pos (by omega)) (nI_clamp (by omega)) (by show N * 4 ≤ _; omega) hcells hslots hdg (fun q cA H1 h0 h1 h2 h3 => ?_)
  have e1 : s.vm.findClass ("[" ++ FieldType.int.toString) = some cA := (h0.2 2 (cA, .int) rfl).2
  have e2 : s.vm.findClass ("[" ++ FieldType.int.toString) = some X.2.1 := (hF.1.2 0 (X.2.1, .int) rfl).2
  cases e1.symm.trans e2
  exact kk q H1 ⟨⟨h1, h2⟩, h3⟩
theorem m_newq (hx : p.tables.exec = Jvm.exec) (hb : c.code = cc) (hG : ∀ w ∈ G, w.before args s = true) (hown : s.vm.findClass own = some m.cls) (hF : mF X s) (hz : X.2.2.2 ≤ s.heap.size) (hS : mS X s ws H locs) (kcl : Cond.classLink own index RX2 ∈ G) {n : Int32} (N : Nat) (hn : n = nI N) (hN : N < 1000) (hcells : cells + 1 ≤ R.cells) (hslots : slots + N ≤ R.slots) (hdg : decode cc pc = .ok (.anewarray index, 3))
    (kk : ∀ (q : Nat) (H1 : Heap), mS X s (ws ++ [(q, .inl (X.2.2.1, N, .inr (.inr (.inr (.inr (fun _ => none))))))]) H1 locs → W p l e R s m args below meth c H1 locs (cells + 1) (slots + N) Q (F0 m (pc + 3) ls (.ref q :: rest))) : W p l e R s m args below meth c H locs cells slots Q (F0 m pc ls (.int n :: rest)) := by
  subst hn
  refine va_newq hx hb hown (hG _ kcl) hF.2.1 hF.1 hS.1.1 hS.1.2 hS.2 (fun q h => Nat.le_trans hz h) (nI_pos (by omega)) (nI_clamp (by omega)) (by omega) hcells hslots hdg (fun q cA H1 h0 h1 h2 h3 => ?_)
  obtain ⟨kA, comp, -, -, -, e1⟩ := (h0.2 2 (cA, .object RX2) rfl).2
  obtain ⟨kB, comp', -, -, -, e2⟩ := (hF.1.2 1 (X.2.2.1, .object RX2) rfl).2
  cases e1.symm.trans e2
  exact kk q H1 ⟨⟨h1, h2⟩, h3⟩
theorem m_astq (hx : p.tables.exec = Jvm.exec) (hb : c.code = cc) (hF : mF X s) (hS : mS X s ws H locs) (q0 qv : Nat) {n : Nat} {f : Nat → Option Nat} (he : ws[q0]? = some (a, .inl (X.2.2.1, n, .inr (.inr (.inr (.inr f)))))) {v k : Nat} {fs : List Value} (hv : ws[qv]? = some (v, .inr (k, fs))) (hk : k < 7) {i : Int32} (j : Nat) (hi : i = nI j) (hj : j < n) (hn : n < 2 ^ 31) (ws' : va_W) (hw : ws.set q0 (a, .inl (X.2.2.1, n, .inr (.inr (.inr (.inr (va_up f j (some v))))))) = ws') (hdg : decode cc pc = .ok (.aastore, 1))
    (kk : ∀ (H1 : Heap) (locs1 : List Loc), mS X s ws' H1 locs1 → W p l e R s m args below meth c H1 locs1 cells slots Q (F0 m (pc + 1) ls rest)) : W p l e R s m args below meth c H locs cells slots Q (F0 m pc ls (.ref v :: .int i :: .ref a :: rest)) := by
  subst hi
  have hc := (k_cls hk).1
  have hany : va_Any RX2 s H v := va_rAny hF.1 hS.1.1 hv hc (fun comp c0 h1 h2 => by
    by_cases h0 : k = 0
    · subst h0
      cases h1.symm.trans h2
      exact va_asg _ _
    · obtain ⟨c1, t1, f1, f2, f3⟩ := Cond.castable_spec (va_Nw.use (A := args) rfl (hF.2.2.1 k hk (by omega)))
      cases h2.symm.trans f1
      cases h1.symm.trans f2
      exact f3)
  refine va_astqM (E := RX2) hx hb hF.1 hS.1.1 hS.1.2 hS.2 q0 1 he rfl hany (vp_in_nI hj hn) hdg (fun H1 locs1 h1 h2 h3 => kk H1 locs1 ⟨⟨?_, ?_⟩, h3⟩)
  · rw [← hw]; rw [nI_clamp (Nat.lt_trans hj hn)] at h1; exact h1
  · rw [← hw]; rw [nI_clamp (Nat.lt_trans hj hn)] at h2; exact h2
/-- instanceof and checkcast of a batch of a known kind -/
theorem m_instY (hx : p.tables.exec = Jvm.exec) (hb : c.code = cc) (hG : ∀ w ∈ G, w.before args s = true) (hown : s.vm.findClass own = some m.cls) (hF : mF X s) (hS : mS X s ws H locs) (q0 : Nat) {k : Nat} {nm : String} (he : ws[q0]? = some (a, .inr (k, fs))) (hk : k < 7) (kcl : Cond.classLink own index nm ∈ G) (hy : va_Nw (.castable (RD k) nm) s) (hdg : decode cc pc = .ok (.instanceof index, 3))
    (kk : W p l e R s m args below meth c H locs cells slots Q (F0 m (pc + 3) ls (.int 1 :: rest))) : W p l e R s m args below meth c H locs cells slots Q (F0 m pc ls (.ref a :: rest)) :=
  va_instY hx hb hown (hG _ kcl) hy (va_recv hF.1 hS.1.1 (k_cls hk).1 he) hdg kk
theorem m_castY (hx : p.tables.exec = Jvm.exec) (hb : c.code = cc) (hG : ∀ w ∈ G, w.before args s = true) (hown : s.vm.findClass own = some m.cls) (hF : mF X s) (hS : mS X s ws H locs) (q0 : Nat) {k : Nat} {nm : String} (he : ws[q0]? = some (a, .inr (k, fs))) (hk : k < 7) (kcl : Cond.classLink own index nm ∈ G) (hy : va_Nw (.castable (RD k) nm) s) (hdg : decode cc pc = .ok (.checkcast index, 3))
    (kk : W p l e R s m args below meth c H locs cells slots Q (F0 m (pc + 3) ls (.ref a :: rest))) : W p l e R s m args below meth c H locs cells slots Q (F0 m pc ls (.ref a :: rest)) :=
  va_castY hx hb hown (hG _ kcl) hy (va_recv hF.1 hS.1.1 (k_cls hk).1 he) hdg kk
theorem m_instN (hx : p.tables.exec = Jvm.exec) (hb : c.code = cc) (hG : ∀ w ∈ G, w.before args s = true) (hown : s.vm.findClass own = some m.cls) (hF : mF X s) (hS : mS X s ws H locs) (q0 : Nat) {k : Nat} {nm : String} (he : ws[q0]? = some (a, .inr (k, fs))) (hk : k < 7) (kcl : Cond.classLink own index nm ∈ G) (hy : va_Nc (RD k) nm s) (hdg : decode cc pc = .ok (.instanceof index, 3))
    (kk : W p l e R s m args below meth c H locs cells slots Q (F0 m (pc + 3) ls (.int 0 :: rest))) : W p l e R s m args below meth c H locs cells slots Q (F0 m pc ls (.ref a :: rest)) :=
  va_instNo hx hb hown (hG _ kcl) hy (va_recv hF.1 hS.1.1 (k_cls hk).1 he) hdg kk
end MR2
/-! ===== the room's state ===== -/
def pool (T : Nat) (n : Nat) (ad : Nat → Nat) (g : Nat → Rc) : va_W := (List.range n).map (fun i => (ad i, dE T (g i)))
def bfn (n : Nat) (ad : Nat → Nat) : Nat → Option Nat := fun j => if j < n then some (ad j) else none
def kC (q : Nat → Nat × va_E) (A : Nat → Nat) (n : Nat) (ad : Nat → Nat) (g : Nat → Rc) (wm dy tl : Int32) (hs : Nat → Int32) : KT := (q, A, nI n, wm, dy, tl, bfn n ad, hs, pool (A 3) n ad g)
theorem pool_at {T n i : Nat} {ad : Nat → Nat} {g : Nat → Rc} (h : i < n) : (pool T n ad g)[i]? = some (ad i, dE T (g i)) := by
  simp [pool, h]
theorem pool_len {T n : Nat} {ad : Nat → Nat} {g : Nat → Rc} : (pool T n ad g).length = n := by simp [pool]
theorem pool_set {T n i : Nat} {ad : Nat → Nat} {g : Nat → Rc} {rc : Rc} (h : i < n) : (pool T n ad g).set i (ad i, dE T rc) = pool T n ad (va_up g i rc) := by
  apply List.ext_getElem?
  intro j
  by_cases hj : j = i
  · subst hj
    rw [List.getElem?_set_self (by rw [pool_len]; exact h), pool_at h, va_up_self]
  · rw [List.getElem?_set_ne (Ne.symm hj)]
    by_cases hn : j < n
    · rw [pool_at hn, pool_at hn, va_up_ne _ _ hj]
    · rw [List.getElem?_eq_none (by rw [pool_len]; omega), List.getElem?_eq_none (by rw [pool_len]; omega)]
theorem bfn_in {n j : Nat} {ad : Nat → Nat} (h : j < n) : bfn n ad j = some (ad j) := by simp [bfn, h]
theorem bfn_out {n j : Nat} {ad : Nat → Nat} (h : n ≤ j) : bfn n ad j = none := by simp [bfn, Nat.not_lt.mpr h]
section KC
variable {X : Cx} {q : Nat → Nat × va_E} {A : Nat → Nat} {n : Nat} {ad : Nat → Nat} {g : Nat → Rc} {wm dy tl : Int32} {hs : Nat → Int32} {r : Bool} {t : Tr} {j : Nat} {rc : Rc}
theorem kC_hi (h : j < n) : (kP (kC q A n ad g wm dy tl hs))[j]? = some (ad j, dE (kA (kC q A n ad g wm dy tl hs) 3) (g j)) := pool_at h
theorem kC_at (h : j < n) : (wT X (kC q A n ad g wm dy tl hs) r t)[j + 15]? = some (ad j, dE (A 3) (g j)) := pool_at h
theorem kC_set (h : j < n) : kset (kC q A n ad g wm dy tl hs) j (ad j, dE (A 3) rc) = kC q A n ad (va_up g j rc) wm dy tl hs := by
  show (q, A, nI n, wm, dy, tl, bfn n ad, hs, (pool (A 3) n ad g).set j (ad j, dE (A 3) rc)) = _
  rw [pool_set h]; rfl
theorem wC_set (h : j < n) : (wT X (kC q A n ad g wm dy tl hs) r t).set (j + 15) (ad j, dE (A 3) rc) = wT X (kC q A n ad (va_up g j rc) wm dy tl hs) r t := by
  rw [wT_set, kC_set h]
end KC
theorem va_up_same {α : Type} (f : Nat → α) (k : Nat) : va_up f k (f k) = f := by
  funext j
  by_cases h : j = k
  · subst h; rw [va_up_self]
  · rw [va_up_ne _ _ h]
theorem va_up_up {α : Type} (f : Nat → α) (k : Nat) (v w : α) : va_up (va_up f k v) k w = va_up f k w := bx_uu f k v w
/-- least ≤ v ≤ most, as both programs ask it -/
def inB (v a b : Int32) : Int32 := if v < a then 0 else if b < v then 0 else 1
theorem inB_no {v a b : Int32} (h : v < a ∨ b < v) : inB v a b = 0 := by
  unfold inB
  rcases h with h | h
  · rw [if_pos h]
  · by_cases h2 : v < a
    · rw [if_pos h2]
    · rw [if_neg h2, if_pos h]
theorem inB_yes {v a b : Int32} (h1 : ¬ v < a) (h2 : ¬ b < v) : inB v a b = 1 := by
  unfold inB
  rw [if_neg h1, if_neg h2]
theorem inB_of {v a b : Int32} (h : ¬ inB v a b = 0) : ¬ v < a ∧ ¬ b < v := by
  constructor
  · exact fun q => h (inB_no (Or.inl q))
  · exact fun q => h (inB_no (Or.inr q))
end
section
set_option maxHeartbeats 4000000 in
set_option maxRecDepth 100000 in
theorem c_within (l : Launch) (X : Cx) (ws : va_W) (v a b : Int32) (f : Nat) : cI l yX8_within cX8_within 3 (some .boolean) (rl f) X [.int v, .int a, .int b] ws (fun r w => r = inB v a b ∧ w = ws) := by
  refine met_start (by decide) (Nat.le_of_ble_eq_true rfl) ?_
  intro p e s m below meth c ls fx hS hl
  obtain ⟨hx, hb, hr, hml, hown, hG, hlk, hF, hz, hnm⟩ := fx
  have hown : s.vm.findClass RX8 = some m.cls := hown
  have hl : lv_has ls 3 [(0, .int v), (1, .int a), (2, .int b)] := hl
  refine lv_iload_n hx hb dX8_within_0 rfl (lv_at hl 0 rfl) ?_
  refine lv_iload_n hx hb dX8_within_1 rfl (lv_at hl 1 rfl) ?_
  refine lv_icmp_lt (tgt := 14) hx hb dX8_within_2 (by decide) (fun c_1 => ?_) (fun c_1 => ?_)
  · refine lv_iconst (v := 0) hx hb dX8_within_14 (by decide) ?_
    exact m_zret hx hb hr (by decide) hlk hS (⟨(inB_no (Or.inl c_1)).symm, rfl⟩) (Nat.le_refl 0) (Nat.le_refl 0) dX8_within_15
  · refine lv_iload_n hx hb dX8_within_5 rfl (lv_at hl 0 rfl) ?_
    refine lv_iload_n hx hb dX8_within_6 rfl (lv_at hl 2 rfl) ?_
    refine lv_icmp_gt (tgt := 14) hx hb dX8_within_7 (by decide) (fun c_2 => ?_) (fun c_2 => ?_)
    · refine lv_iconst (v := 0) hx hb dX8_within_14 (by decide) ?_
      exact m_zret hx hb hr (by decide) hlk hS (⟨(inB_no (Or.inr c_2)).symm, rfl⟩) (Nat.le_refl 0) (Nat.le_refl 0) dX8_within_15
    · refine lv_iconst (v := 1) hx hb dX8_within_10 (by decide) ?_
      refine lv_goto (tgt := 15) hx hb dX8_within_11 (by decide) ?_
      exact m_zret hx hb hr (by decide) hlk hS (⟨(inB_yes c_1 c_2).symm, rfl⟩) (Nat.le_refl 0) (Nat.le_refl 0) dX8_within_15
def ovB (o : Int32) : Int32 := if o < 0 then 0 else if nI 3 ≤ o then 0 else 1
set_option maxHeartbeats 4000000 in
set_option maxRecDepth 100000 in
theorem c_isOven (l : Launch) (X : Cx) (q : Nat → Nat × va_E) (A : Nat → Nat) (n : Nat) (ad : Nat → Nat) (g : Nat → Rc) (wm dy tl : Int32) (hs : Nat → Int32) (t : Tr) (o : Int32) (f : Nat) : cI l yX8_isOven cX8_isOven 2 (some .boolean) (rl f) X [.ref (A 0), .int o] (wT X (kC q A n ad g wm dy tl hs) false t) (fun r w => r = ovB o ∧ w = wT X (kC q A n ad g wm dy tl hs) false t) := by
  refine met_start (by decide) (Nat.le_of_ble_eq_true rfl) ?_
  intro p e s m below meth c ls fx hS hl
  obtain ⟨hx, hb, hr, hml, hown, hG, hlk, hF, hz, hnm⟩ := fx
  have hown : s.vm.findClass RX8 = some m.cls := hown
  have hl : lv_has ls 2 [(0, .ref (A 0)), (1, .int o)] := hl
  refine lv_iload_n hx hb dX8_isOven_0 rfl (lv_at hl 1 rfl) ?_
  refine lv_if_lt (tgt := 17) hx hb dX8_isOven_1 (by decide) (fun c_1 => ?_) (fun c_1 => ?_)
  · refine lv_iconst (v := 0) hx hb dX8_isOven_17 (by decide) ?_
    exact m_zret hx hb hr (by decide) hlk hS (⟨by unfold ovB; rw [if_pos c_1], rfl⟩) (Nat.le_refl 0) (Nat.le_refl 0) dX8_isOven_18
  · refine lv_iload_n hx hb dX8_isOven_4 rfl (lv_at hl 1 rfl) ?_
    refine lv_aload_n hx hb dX8_isOven_5 rfl (lv_at hl 0 rfl) ?_
    refine m_get (v := .ref (A 2)) hx hb hG hown hF hS (10) rfl rfl iG_8 1 (by decide) kw_57 (fun _ h9 => h9) rfl dX8_isOven_6 ?_
    refine m_alenI hx hb hF hS (12) rfl dX8_isOven_9 ?_
    refine lv_icmp_ge (tgt := 17) hx hb dX8_isOven_10 (by decide) (fun c_2 => ?_) (fun c_2 => ?_)
    · refine lv_iconst (v := 0) hx hb dX8_isOven_17 (by decide) ?_
      exact m_zret hx hb hr (by decide) hlk hS (⟨by unfold ovB; rw [if_neg c_1, if_pos c_2], rfl⟩) (Nat.le_refl 0) (Nat.le_refl 0) dX8_isOven_18
    · refine lv_iconst (v := 1) hx hb dX8_isOven_13 (by decide) ?_
      refine lv_goto (tgt := 18) hx hb dX8_isOven_14 (by decide) ?_
      exact m_zret hx hb hr (by decide) hlk hS (⟨by unfold ovB; rw [if_neg c_1, if_neg c_2], rfl⟩) (Nat.le_refl 0) (Nat.le_refl 0) dX8_isOven_18
theorem ovB_no {o : Int32} (h : o < 0 ∨ nI 3 ≤ o) : ovB o = 0 := by
  unfold ovB
  rcases h with h | h
  · rw [if_pos h]
  · by_cases h2 : o < 0
    · rw [if_pos h2]
    · rw [if_neg h2, if_pos h]
theorem ovB_yes {o : Nat} (h : o < 3) : ovB (nI o) = 1 := by
  unfold ovB
  rw [if_neg (nI_pos (by omega)), if_neg (nI_ge h (by decide))]
def qOk (what w : Int32) : Int32 := if what = 0 then inB w 0 60 else if what = 2 then inB w 0 400 else inB what 0 5
theorem inB_nar (v a b : Int32) : narrow .boolean (.int (inB v a b)) = .int (inB v a b) := by
  unfold inB
  by_cases h : v < a
  · rw [if_pos h]; decide
  · rw [if_neg h]
    by_cases h2 : b < v
    · rw [if_pos h2]; decide
    · rw [if_neg h2]; decide
set_option maxHeartbeats 4000000 in
set_option maxRecDepth 100000 in
theorem c_isQuestion (l : Launch) (X : Cx) (ws : va_W) (wh w : Int32) (f : Nat) (hf : 1 ≤ f) : cI l yX8_isQuestion cX8_isQuestion 2 (some .boolean) (rl f) X [.int wh, .int w] ws (fun r w' => r = qOk wh w ∧ w' = ws) := by
  refine met_start (by decide) (Nat.le_of_ble_eq_true rfl) ?_
  intro p e s m below meth c ls fx hS hl
  obtain ⟨hx, hb, hr, hml, hown, hG, hlk, hF, hz, hnm⟩ := fx
  have hown : s.vm.findClass RX8 = some m.cls := hown
  have hl : lv_has ls 2 [(0, .int wh), (1, .int w)] := hl
  refine lv_iload_n hx hb dX8_isQuestion_0 rfl (lv_at hl 0 rfl) ?_
  by_cases h0 : wh = 0
  · subst h0
    refine lv_lookup (off := 27) (tgt := 28) hx hb dX8_isQuestion_1 (by decide) (by decide) (by decide) ?_
    refine lv_iload_n hx hb dX8_isQuestion_28 rfl (lv_at hl 1 rfl) ?_
    refine lv_iconst (v := 0) hx hb dX8_isQuestion_29 (by decide) ?_
    refine lv_bipush (v := 60) hx hb dX8_isQuestion_30 (by decide) ?_
    refine m_ci (m_runS (n := 3) (rest := []) ⟨hx, hb, hml, hown, hG⟩ (c_within l X ws w 0 60 0) kw_82 kw_83 kw_18 kw_84 (by decide +kernel) (rl_ok (by omega) (by decide)) hF hz hS rfl hl.1 rfl (Nat.le_of_ble_eq_true rfl) dX8_isQuestion_32 ⟨Nat.le_refl 0, Nat.le_refl 0⟩) hS (fun r_1 w1 H locs hw1 hS => ?_)
    obtain ⟨rfl, e2⟩ := hw1
    rw [e2] at hS
    exact m_zret hx hb hr (inB_nar _ _ _) hlk hS ⟨by unfold qOk; rw [if_pos rfl], rfl⟩ (Nat.le_refl 0) (Nat.le_refl 0) dX8_isQuestion_35
  · by_cases h2 : wh = 2
    · subst h2
      refine lv_lookup (off := 35) (tgt := 36) hx hb dX8_isQuestion_1 (by decide) (by decide) (by decide) ?_
      refine lv_iload_n hx hb dX8_isQuestion_36 rfl (lv_at hl 1 rfl) ?_
      refine lv_iconst (v := 0) hx hb dX8_isQuestion_37 (by decide) ?_
      refine lv_sipush (v := 400) hx hb dX8_isQuestion_38 (by decide) ?_
      refine m_ci (m_runS (n := 3) (rest := []) ⟨hx, hb, hml, hown, hG⟩ (c_within l X ws w 0 400 0) kw_82 kw_83 kw_18 kw_84 (by decide +kernel) (rl_ok (by omega) (by decide)) hF hz hS rfl hl.1 rfl (Nat.le_of_ble_eq_true rfl) dX8_isQuestion_41 ⟨Nat.le_refl 0, Nat.le_refl 0⟩) hS (fun r_1 w1 H locs hw1 hS => ?_)
      obtain ⟨rfl, e2⟩ := hw1
      rw [e2] at hS
      exact m_zret hx hb hr (inB_nar _ _ _) hlk hS ⟨by unfold qOk; rw [if_neg h0, if_pos rfl], rfl⟩ (Nat.le_refl 0) (Nat.le_refl 0) dX8_isQuestion_44
    · refine lv_lookup (off := 44) (tgt := 45) hx hb dX8_isQuestion_1 (by decide) (by show Op.lookupswitch.offset [(0, 27), (2, 35)] 44 wh.toInt = 44; rw [lv_osw h0 (by decide), lv_osw h2 (by decide)]; rfl) (by decide) ?_
      refine lv_iload_n hx hb dX8_isQuestion_45 rfl (lv_at hl 0 rfl) ?_
      refine lv_iconst (v := 0) hx hb dX8_isQuestion_46 (by decide) ?_
      refine lv_iconst (v := 5) hx hb dX8_isQuestion_47 (by decide) ?_
      refine m_ci (m_runS (n := 3) (rest := []) ⟨hx, hb, hml, hown, hG⟩ (c_within l X ws wh 0 5 0) kw_82 kw_83 kw_18 kw_84 (by decide +kernel) (rl_ok (by omega) (by decide)) hF hz hS rfl hl.1 rfl (Nat.le_of_ble_eq_true rfl) dX8_isQuestion_48 ⟨Nat.le_refl 0, Nat.le_refl 0⟩) hS (fun r_1 w1 H locs hw1 hS => ?_)
      obtain ⟨rfl, e2⟩ := hw1
      rw [e2] at hS
      exact m_zret hx hb hr (inB_nar _ _ _) hlk hS ⟨by unfold qOk; rw [if_neg h0, if_neg h2], rfl⟩ (Nat.le_refl 0) (Nat.le_refl 0) dX8_isQuestion_51
set_option maxHeartbeats 4000000 in
set_option maxRecDepth 100000 in
theorem c_heatOf (l : Launch) (X : Cx) (q : Nat → Nat × va_E) (A : Nat → Nat) (n : Nat) (ad : Nat → Nat) (g : Nat → Rc) (wm dy tl : Int32) (hs : Nat → Int32) (t : Tr) (o f : Nat) (ho : o < 3) (hf : 1 ≤ f) : cI l yX8_heatOf cX8_heatOf 2 (some .int) (rl f) X [.ref (A 0), .int (nI o)] (wT X (kC q A n ad g wm dy tl hs) false t) (fun r w => r = hs o ∧ w = wT X (kC q A n ad g wm dy tl hs) false t) := by
  refine met_start (by decide) (Nat.le_of_ble_eq_true rfl) ?_
  intro p e s m below meth c ls fx hS hl
  obtain ⟨hx, hb, hr, hml, hown, hG, hlk, hF, hz, hnm⟩ := fx
  have hown : s.vm.findClass RX8 = some m.cls := hown
  have hl : lv_has ls 2 [(0, .ref (A 0)), (1, .int (nI o))] := hl
  refine lv_aload_n hx hb dX8_heatOf_0 rfl (lv_at hl 0 rfl) ?_
  refine lv_iload_n hx hb dX8_heatOf_1 rfl (lv_at hl 1 rfl) ?_
  refine m_ci (m_runV (n := 1) (rest := []) ⟨hx, hb, hml, hown, hG⟩ (c_isOven l X q A n ad g wm dy tl hs t (nI o) 0) kw_393 kw_395 kw_2 kw_18 kw_396 (by decide +kernel) (rl_ok (by omega) (by decide)) hF hz hS (q0 := 10) rfl rfl rfl hl.1 rfl (Nat.le_of_ble_eq_true rfl) dX8_heatOf_2 ⟨Nat.le_refl 0, Nat.le_refl 0⟩) hS (fun r_1 w1 H locs hw1 hS => ?_)
  obtain ⟨rfl, rfl⟩ := hw1
  refine lv_if_eq (tgt := 17) hx hb dX8_heatOf_5 (by decide) (fun c_2 => absurd c_2 (by rw [ovB_yes ho]; decide)) (fun c_2 => ?_)
  refine lv_aload_n hx hb dX8_heatOf_8 rfl (lv_at hl 0 rfl) ?_
  refine m_get (v := .ref (A 2)) hx hb hG hown hF hS (10) rfl rfl iG_8 1 (by decide) kw_57 (fun _ h9 => h9) rfl dX8_heatOf_9 ?_
  refine lv_iload_n hx hb dX8_heatOf_12 rfl (lv_at hl 1 rfl) ?_
  refine m_iald hx hb hF hS (12) rfl (o) rfl (ho) (by decide) dX8_heatOf_13 ?_
  refine lv_goto (tgt := 18) hx hb dX8_heatOf_14 (by decide) ?_
  exact m_iret hx hb hr hlk hS (⟨rfl, rfl⟩) (Nat.le_refl 0) (Nat.le_refl 0) dX8_heatOf_18
set_option maxHeartbeats 4000000 in
set_option maxRecDepth 100000 in
theorem c_find_no (l : Launch) (X : Cx) (q : Nat → Nat × va_E) (A : Nat → Nat) (n : Nat) (ad : Nat → Nat) (g : Nat → Rc) (wm dy tl : Int32) (hs : Nat → Int32) (t : Tr) (b : Int32) (f : Nat) (hn : n ≤ 40) (hb0 : b < 0 ∨ nI n ≤ b) : cQ l yX8_find cX8_find 2 (some (.object "DoughRoom$Dough")) (rl f) X [.ref (A 0), .int b] (wT X (kC q A n ad g wm dy tl hs) false t) (fun o w => o = none ∧ w = wT X (kC q A n ad g wm dy tl hs) false t) := by
  refine met_start (by decide) (Nat.le_of_ble_eq_true rfl) ?_
  intro p e s m below meth c ls fx hS hl
  obtain ⟨hx, hb, hr, hml, hown, hG, hlk, hF, hz, hnm⟩ := fx
  have hown : s.vm.findClass RX8 = some m.cls := hown
  have hl : lv_has ls 2 [(0, .ref (A 0)), (1, .int b)] := hl
  refine lv_iload_n hx hb dX8_find_0 rfl (lv_at hl 1 rfl) ?_
  refine lv_if_lt (tgt := 22) hx hb dX8_find_1 (by decide) (fun c_1 => ?_) (fun c_1 => ?_)
  · refine lv_null hx hb dX8_find_22 ?_
    exact m_qret (r := none) hx hb hr hlk hS ⟨rfl, rfl⟩ (Nat.le_refl 0) (Nat.le_refl 0) dX8_find_23
  · refine lv_iload_n hx hb dX8_find_4 rfl (lv_at hl 1 rfl) ?_
    refine lv_aload_n hx hb dX8_find_5 rfl (lv_at hl 0 rfl) ?_
    refine m_get (v := .ref (A 1)) hx hb hG hown hF hS (10) rfl rfl iG_8 0 (by decide) kw_56 (fun _ h9 => h9) rfl dX8_find_6 ?_
    refine m_alenQ hx hb hF hS (11) rfl dX8_find_9 ?_
    refine lv_icmp_ge (tgt := 22) hx hb dX8_find_10 (by decide) (fun c_2 => ?_) (fun c_2 => ?_)
    · refine lv_null hx hb dX8_find_22 ?_
      exact m_qret (r := none) hx hb hr hlk hS ⟨rfl, rfl⟩ (Nat.le_refl 0) (Nat.le_refl 0) dX8_find_23
    · obtain ⟨j, hj, rfl⟩ : ∃ j, j < 40 ∧ b = nI j := by
        obtain ⟨j, h3, rfl⟩ := nI_of c_1
        exact ⟨j, Nat.lt_of_not_le (fun q => c_2 (nI_le q h3)), rfl⟩
      have hn : n ≤ j := by
        rcases hb0 with h3 | h3
        · exact absurd h3 (nI_pos (by omega))
        · exact Nat.le_of_not_lt (fun q => absurd h3 (nI_ge q (by omega)))
      refine lv_aload_n hx hb dX8_find_13 rfl (lv_at hl 0 rfl) ?_
      refine m_get (v := .ref (A 1)) hx hb hG hown hF hS (10) rfl rfl iG_8 0 (by decide) kw_56 (fun _ h9 => h9) rfl dX8_find_14 ?_
      refine lv_iload_n hx hb dX8_find_17 rfl (lv_at hl 1 rfl) ?_
      refine m_aaldN hx hb hF hS (11) rfl (j) rfl (hj) (by decide) (bfn_out hn) dX8_find_18 ?_
      refine lv_goto (tgt := 23) hx hb dX8_find_19 (by decide) ?_
      exact m_qret (r := none) hx hb hr hlk hS ⟨rfl, rfl⟩ (Nat.le_refl 0) (Nat.le_refl 0) dX8_find_23
set_option maxHeartbeats 4000000 in
set_option maxRecDepth 100000 in
theorem c_find (l : Launch) (X : Cx) (q : Nat → Nat × va_E) (A : Nat → Nat) (n : Nat) (ad : Nat → Nat) (g : Nat → Rc) (wm dy tl : Int32) (hs : Nat → Int32) (t : Tr) (j f : Nat) (hn : n ≤ 40) (hj : j < n) : cQ l yX8_find cX8_find 2 (some (.object "DoughRoom$Dough")) (rl f) X [.ref (A 0), .int (nI j)] (wT X (kC q A n ad g wm dy tl hs) false t) (fun o w => o = some (ad j) ∧ w = wT X (kC q A n ad g wm dy tl hs) false t) := by
  refine met_start (by decide) (Nat.le_of_ble_eq_true rfl) ?_
  intro p e s m below meth c ls fx hS hl
  obtain ⟨hx, hb, hr, hml, hown, hG, hlk, hF, hz, hnm⟩ := fx
  have hown : s.vm.findClass RX8 = some m.cls := hown
  have hl : lv_has ls 2 [(0, .ref (A 0)), (1, .int (nI j))] := hl
  refine lv_iload_n hx hb dX8_find_0 rfl (lv_at hl 1 rfl) ?_
  refine lv_if_lt (tgt := 22) hx hb dX8_find_1 (by decide) (fun c_1 => absurd c_1 (nI_pos (by omega))) (fun c_1 => ?_)
  refine lv_iload_n hx hb dX8_find_4 rfl (lv_at hl 1 rfl) ?_
  refine lv_aload_n hx hb dX8_find_5 rfl (lv_at hl 0 rfl) ?_
  refine m_get (v := .ref (A 1)) hx hb hG hown hF hS (10) rfl rfl iG_8 0 (by decide) kw_56 (fun _ h9 => h9) rfl dX8_find_6 ?_
  refine m_alenQ hx hb hF hS (11) rfl dX8_find_9 ?_
  refine lv_icmp_ge (tgt := 22) hx hb dX8_find_10 (by decide) (fun c_2 => absurd c_2 (nI_ge (by omega) (by decide))) (fun c_2 => ?_)
  refine lv_aload_n hx hb dX8_find_13 rfl (lv_at hl 0 rfl) ?_
  refine m_get (v := .ref (A 1)) hx hb hG hown hF hS (10) rfl rfl iG_8 0 (by decide) kw_56 (fun _ h9 => h9) rfl dX8_find_14 ?_
  refine lv_iload_n hx hb dX8_find_17 rfl (lv_at hl 1 rfl) ?_
  refine m_aaldS hx hb hF hS (11) rfl (j) rfl (by omega) (by decide) (bfn_in hj) dX8_find_18 ?_
  refine lv_goto (tgt := 23) hx hb dX8_find_19 (by decide) ?_
  exact m_qret (r := some (ad j)) hx hb hr hlk hS ⟨rfl, rfl⟩ (Nat.le_refl 0) (Nat.le_refl 0) dX8_find_23
set_option maxHeartbeats 4000000 in
set_option maxRecDepth 100000 in
theorem c_at_no (l : Launch) (X : Cx) (q : Nat → Nat × va_E) (A : Nat → Nat) (n : Nat) (ad : Nat → Nat) (g : Nat → Rc) (wm dy tl : Int32) (hs : Nat → Int32) (t : Tr) (i : Int32) (f : Nat) (h0 : i < 0 ∨ nI t.1 ≤ i) : cI l yX6_at cX6_at 2 (some .int) (rl f) X [.ref (A 3), .int i] (wT X (kC q A n ad g wm dy tl hs) false t) (fun r w => r = -1 ∧ w = wT X (kC q A n ad g wm dy tl hs) false t) := by
  refine met_start (by decide) (Nat.le_of_ble_eq_true rfl) ?_
  intro p e s m below meth c ls fx hS hl
  obtain ⟨hx, hb, hr, hml, hown, hG, hlk, hF, hz, hnm⟩ := fx
  have hown : s.vm.findClass RX6 = some m.cls := hown
  have hl : lv_has ls 2 [(0, .ref (A 3)), (1, .int i)] := hl
  refine lv_iload_n hx hb dX6_at_0 rfl (lv_at hl 1 rfl) ?_
  refine lv_if_lt (tgt := 30) hx hb dX6_at_1 (by decide) (fun c_1 => ?_) (fun c_1 => ?_)
  · refine lv_iconst (v := -1) hx hb dX6_at_30 (by decide) ?_
    exact m_iret hx hb hr hlk hS (⟨rfl, rfl⟩) (Nat.le_refl 0) (Nat.le_refl 0) dX6_at_31
  · refine lv_iload_n hx hb dX6_at_4 rfl (lv_at hl 1 rfl) ?_
    refine lv_aload_n hx hb dX6_at_5 rfl (lv_at hl 0 rfl) ?_
    refine m_get (v := .int (nI t.1)) hx hb hG hown hF hS (13) rfl rfl iG_7 1 (by decide) kw_46 (fun _ h9 => h9) rfl dX6_at_6 ?_
    refine lv_icmp_ge (tgt := 30) hx hb dX6_at_9 (by decide) (fun c_2 => ?_) (fun c_2 => absurd (h0.resolve_left c_1) c_2)
    refine lv_iconst (v := -1) hx hb dX6_at_30 (by decide) ?_
    exact m_iret hx hb hr hlk hS (⟨rfl, rfl⟩) (Nat.le_refl 0) (Nat.le_refl 0) dX6_at_31
set_option maxHeartbeats 4000000 in
set_option maxRecDepth 100000 in
theorem c_at (l : Launch) (X : Cx) (q : Nat → Nat × va_E) (A : Nat → Nat) (n : Nat) (ad : Nat → Nat) (g : Nat → Rc) (wm dy tl : Int32) (hs : Nat → Int32) (t : Tr) (j f : Nat) (ht : t.1 ≤ 10) (hj : j < t.1) : cI l yX6_at cX6_at 2 (some .int) (rl f) X [.ref (A 3), .int (nI j)] (wT X (kC q A n ad g wm dy tl hs) false t) (fun r w => r = t.2 j ∧ w = wT X (kC q A n ad g wm dy tl hs) false t) := by
  refine met_start (by decide) (Nat.le_of_ble_eq_true rfl) ?_
  intro p e s m below meth c ls fx hS hl
  obtain ⟨hx, hb, hr, hml, hown, hG, hlk, hF, hz, hnm⟩ := fx
  have hown : s.vm.findClass RX6 = some m.cls := hown
  have hl : lv_has ls 2 [(0, .ref (A 3)), (1, .int (nI j))] := hl
  refine lv_iload_n hx hb dX6_at_0 rfl (lv_at hl 1 rfl) ?_
  refine lv_if_lt (tgt := 30) hx hb dX6_at_1 (by decide) (fun c_1 => absurd c_1 (nI_pos (by omega))) (fun c_1 => ?_)
  refine lv_iload_n hx hb dX6_at_4 rfl (lv_at hl 1 rfl) ?_
  refine lv_aload_n hx hb dX6_at_5 rfl (lv_at hl 0 rfl) ?_
  refine m_get (v := .int (nI t.1)) hx hb hG hown hF hS (13) rfl rfl iG_7 1 (by decide) kw_46 (fun _ h9 => h9) rfl dX6_at_6 ?_
  refine lv_icmp_ge (tgt := 30) hx hb dX6_at_9 (by decide) (fun c_2 => absurd c_2 (nI_ge hj (by omega))) (fun c_2 => ?_)
  refine lv_iload_n hx hb dX6_at_12 rfl (lv_at hl 1 rfl) ?_
  refine lv_aload_n hx hb dX6_at_13 rfl (lv_at hl 0 rfl) ?_
  refine m_get (v := .ref (A 4)) hx hb hG hown hF hS (13) rfl rfl iG_7 0 (by decide) kw_45 (fun _ h9 => h9) rfl dX6_at_14 ?_
  refine m_alenI hx hb hF hS (14) rfl dX6_at_17 ?_
  refine lv_icmp_ge (tgt := 30) hx hb dX6_at_18 (by decide) (fun c_3 => absurd c_3 (nI_ge (by omega) (by decide))) (fun c_3 => ?_)
  refine lv_aload_n hx hb dX6_at_21 rfl (lv_at hl 0 rfl) ?_
  refine m_get (v := .ref (A 4)) hx hb hG hown hF hS (13) rfl rfl iG_7 0 (by decide) kw_45 (fun _ h9 => h9) rfl dX6_at_22 ?_
  refine lv_iload_n hx hb dX6_at_25 rfl (lv_at hl 1 rfl) ?_
  refine m_iald hx hb hF hS (14) rfl (j) rfl (by omega) (by decide) dX6_at_26 ?_
  refine lv_goto (tgt := 31) hx hb dX6_at_27 (by decide) ?_
  exact m_iret hx hb hr hlk hS (⟨rfl, rfl⟩) (Nat.le_refl 0) (Nat.le_refl 0) dX6_at_31
set_option maxHeartbeats 4000000 in
set_option maxRecDepth 100000 in
theorem c_trace_no (l : Launch) (X : Cx) (q : Nat → Nat × va_E) (A : Nat → Nat) (n : Nat) (ad : Nat → Nat) (g : Nat → Rc) (wm dy tl : Int32) (hs : Nat → Int32) (t : Tr) (i : Int32) (f : Nat) (h0 : i < 0 ∨ nI t.1 ≤ i) (hf : 1 ≤ f) : cI l yX8_trace cX8_trace 2 (some .int) (rl f) X [.ref (A 0), .int (i)] (wT X (kC q A n ad g wm dy tl hs) false t) (fun r w => r = -1 ∧ w = wT X (kC q A n ad g wm dy tl hs) false t) := by
  refine met_start (by decide) (Nat.le_of_ble_eq_true rfl) ?_
  intro p e s m below meth c ls fx hS hl
  obtain ⟨hx, hb, hr, hml, hown, hG, hlk, hF, hz, hnm⟩ := fx
  have hown : s.vm.findClass RX8 = some m.cls := hown
  have hl : lv_has ls 2 [(0, .ref (A 0)), (1, .int i)] := hl
  refine lv_aload_n hx hb dX8_trace_0 rfl (lv_at hl 0 rfl) ?_
  refine m_get (v := .ref (A 3)) hx hb hG hown hF hS (10) rfl rfl iG_8 2 (by decide) kw_58 (fun _ h9 => h9) rfl dX8_trace_1 ?_
  refine lv_iload_n hx hb dX8_trace_4 rfl (lv_at hl 1 rfl) ?_
  refine m_ci (m_runV (n := 1) (rest := []) ⟨hx, hb, hml, hown, hG⟩ (c_at_no l X q A n ad g wm dy tl hs t i 0 h0) kw_381 kw_382 kw_383 kw_19 kw_384 (by decide +kernel) (rl_ok (by omega) (by decide)) hF hz hS (q0 := 13) rfl rfl rfl hl.1 rfl (Nat.le_of_ble_eq_true rfl) dX8_trace_5 ⟨Nat.le_refl 0, Nat.le_refl 0⟩) hS (fun r_1 w1 H locs hw1 hS => ?_)
  obtain ⟨rfl, rfl⟩ := hw1
  exact m_iret hx hb hr hlk hS (⟨rfl, rfl⟩) (Nat.le_refl 0) (Nat.le_refl 0) dX8_trace_8
set_option maxHeartbeats 4000000 in
set_option maxRecDepth 100000 in
theorem c_trace (l : Launch) (X : Cx) (q : Nat → Nat × va_E) (A : Nat → Nat) (n : Nat) (ad : Nat → Nat) (g : Nat → Rc) (wm dy tl : Int32) (hs : Nat → Int32) (t : Tr) (j f : Nat) (ht : t.1 ≤ 10) (hj : j < t.1) (hf : 1 ≤ f) : cI l yX8_trace cX8_trace 2 (some .int) (rl f) X [.ref (A 0), .int (nI j)] (wT X (kC q A n ad g wm dy tl hs) false t) (fun r w => r = t.2 j ∧ w = wT X (kC q A n ad g wm dy tl hs) false t) := by
  refine met_start (by decide) (Nat.le_of_ble_eq_true rfl) ?_
  intro p e s m below meth c ls fx hS hl
  obtain ⟨hx, hb, hr, hml, hown, hG, hlk, hF, hz, hnm⟩ := fx
  have hown : s.vm.findClass RX8 = some m.cls := hown
  have hl : lv_has ls 2 [(0, .ref (A 0)), (1, .int (nI j))] := hl
  refine lv_aload_n hx hb dX8_trace_0 rfl (lv_at hl 0 rfl) ?_
  refine m_get (v := .ref (A 3)) hx hb hG hown hF hS (10) rfl rfl iG_8 2 (by decide) kw_58 (fun _ h9 => h9) rfl dX8_trace_1 ?_
  refine lv_iload_n hx hb dX8_trace_4 rfl (lv_at hl 1 rfl) ?_
  refine m_ci (m_runV (n := 1) (rest := []) ⟨hx, hb, hml, hown, hG⟩ (c_at l X q A n ad g wm dy tl hs t j 0 ht hj) kw_381 kw_382 kw_383 kw_19 kw_384 (by decide +kernel) (rl_ok (by omega) (by decide)) hF hz hS (q0 := 13) rfl rfl rfl hl.1 rfl (Nat.le_of_ble_eq_true rfl) dX8_trace_5 ⟨Nat.le_refl 0, Nat.le_refl 0⟩) hS (fun r_1 w1 H locs hw1 hS => ?_)
  obtain ⟨rfl, rfl⟩ := hw1
  exact m_iret hx hb hr hlk hS (⟨rfl, rfl⟩) (Nat.le_refl 0) (Nat.le_refl 0) dX8_trace_8
set_option maxHeartbeats 4000000 in
set_option maxRecDepth 100000 in
theorem c_room_bad (l : Launch) (X : Cx) (q : Nat → Nat × va_E) (A : Nat → Nat) (n : Nat) (ad : Nat → Nat) (g : Nat → Rc) (wm dy tl : Int32) (hs : Nat → Int32) (t : Tr) (w : Int32) (f : Nat) (hf : 1 ≤ f) (h0 : inB w 0 60 = 0) : cI l yX8_room cX8_room 3 (some .int) (rl f) X [.ref (A 0), .int w] (wT X (kC q A n ad g wm dy tl hs) false t) (fun r w' => r = -2 ∧ w' = wT X (kC q A n ad g wm dy tl hs) false t) := by
  refine met_start (by decide) (Nat.le_of_ble_eq_true rfl) ?_
  intro p e s m below meth c ls fx hS hl
  obtain ⟨hx, hb, hr, hml, hown, hG, hlk, hF, hz, hnm⟩ := fx
  have hown : s.vm.findClass RX8 = some m.cls := hown
  have hl : lv_has ls 3 [(0, .ref (A 0)), (1, .int w)] := hl
  refine lv_iload_n hx hb dX8_room_0 rfl (lv_at hl 1 rfl) ?_
  refine lv_iconst (v := 0) hx hb dX8_room_1 (by decide) ?_
  refine lv_bipush (v := 60) hx hb dX8_room_2 (by decide) ?_
  refine m_ci (m_runS (n := 3) (rest := []) ⟨hx, hb, hml, hown, hG⟩ (c_within l X (wT X (kC q A n ad g wm dy tl hs) false t) w 0 60 0) kw_82 kw_83 kw_18 kw_84 (by decide +kernel) (rl_ok (by omega) (by decide)) hF hz hS rfl hl.1 rfl (Nat.le_of_ble_eq_true rfl) dX8_room_4 ⟨Nat.le_refl 0, Nat.le_refl 0⟩) hS (fun r_21 w1 H locs hw1 hS => ?_)
  obtain ⟨rfl, rfl⟩ := hw1
  refine lv_if_ne (tgt := 13) hx hb dX8_room_7 (by decide) (fun c_22 => absurd (h0) c_22) (fun c_22 => ?_)
  refine lv_bipush (v := -2) hx hb dX8_room_10 (by decide) ?_
  exact m_iret hx hb hr hlk hS (⟨rfl, rfl⟩) (Nat.le_refl 0) (Nat.le_refl 0) dX8_room_12
set_option maxHeartbeats 4000000 in
set_option maxRecDepth 100000 in
theorem c_room (l : Launch) (X : Cx) (q : Nat → Nat × va_E) (A : Nat → Nat) (n : Nat) (ad : Nat → Nat) (g : Nat → Rc) (wm dy tl : Int32) (hs : Nat → Int32) (t : Tr) (w : Int32) (f : Nat) (hf : 1 ≤ f) (h0 : ¬ inB w 0 60 = 0) : cI l yX8_room cX8_room 3 (some .int) (rl f) X [.ref (A 0), .int w] (wT X (kC q A n ad g wm dy tl hs) false t) (fun r w' => r = wm ∧ w' = wT X (kC q A n ad g w dy tl hs) false t) := by
  refine met_start (by decide) (Nat.le_of_ble_eq_true rfl) ?_
  intro p e s m below meth c ls fx hS hl
  obtain ⟨hx, hb, hr, hml, hown, hG, hlk, hF, hz, hnm⟩ := fx
  have hown : s.vm.findClass RX8 = some m.cls := hown
  have hl : lv_has ls 3 [(0, .ref (A 0)), (1, .int w)] := hl
  refine lv_iload_n hx hb dX8_room_0 rfl (lv_at hl 1 rfl) ?_
  refine lv_iconst (v := 0) hx hb dX8_room_1 (by decide) ?_
  refine lv_bipush (v := 60) hx hb dX8_room_2 (by decide) ?_
  refine m_ci (m_runS (n := 3) (rest := []) ⟨hx, hb, hml, hown, hG⟩ (c_within l X (wT X (kC q A n ad g wm dy tl hs) false t) w 0 60 0) kw_82 kw_83 kw_18 kw_84 (by decide +kernel) (rl_ok (by omega) (by decide)) hF hz hS rfl hl.1 rfl (Nat.le_of_ble_eq_true rfl) dX8_room_4 ⟨Nat.le_refl 0, Nat.le_refl 0⟩) hS (fun r_1 w1 H locs hw1 hS => ?_)
  obtain ⟨rfl, rfl⟩ := hw1
  refine lv_if_ne (tgt := 13) hx hb dX8_room_7 (by decide) (fun c_2 => ?_) (fun c_2 => absurd c_2 (h0))
  refine lv_aload_n hx hb dX8_room_13 rfl (lv_at hl 0 rfl) ?_
  refine m_get (v := .int wm) hx hb hG hown hF hS (10) rfl rfl iG_8 4 (by decide) kw_60 (fun _ h9 => h9) rfl dX8_room_14 ?_
  refine lv_istore_n (lv' := [(2, .int wm), (0, .ref (A 0)), (1, .int w)]) hx hb dX8_room_17 rfl hl (by decide) rfl (fun ls hl => ?_)
  refine lv_aload_n hx hb dX8_room_18 rfl (lv_at hl 1 rfl) ?_
  refine lv_iload_n hx hb dX8_room_19 rfl (lv_at hl 2 rfl) ?_
  refine m_put hx hb hG hown hF hS (10) rfl rfl iG_8 tyX8_ok nmX8 4 (by decide) kw_60 (fun _ h9 => h9) rfl rfl rfl (Nat.le_of_ble_eq_true rfl) (wT X (kC q A n ad g w dy tl hs) false t) rfl dX8_room_20 (fun H locs hS => ?_)
  refine lv_iload_n hx hb dX8_room_23 rfl (lv_at hl 0 rfl) ?_
  exact m_iret hx hb hr hlk hS (⟨rfl, rfl⟩) (Nat.le_refl 0) (Nat.le_refl 0) dX8_room_24
set_option maxHeartbeats 4000000 in
set_option maxRecDepth 100000 in
theorem c_heat_bad (l : Launch) (X : Cx) (q : Nat → Nat × va_E) (A : Nat → Nat) (n : Nat) (ad : Nat → Nat) (g : Nat → Rc) (wm dy tl : Int32) (hs : Nat → Int32) (t : Tr) (o h : Int32) (f : Nat) (hf : 1 ≤ f) (h0 : ovB o = 0 ∨ inB h 0 400 = 0) : cI l yX8_heat cX8_heat 4 (some .int) (rl f) X [.ref (A 0), .int o, .int h] (wT X (kC q A n ad g wm dy tl hs) false t) (fun r w' => r = -2 ∧ w' = wT X (kC q A n ad g wm dy tl hs) false t) := by
  refine met_start (by decide) (Nat.le_of_ble_eq_true rfl) ?_
  intro p e s m below meth c ls fx hS hl
  obtain ⟨hx, hb, hr, hml, hown, hG, hlk, hF, hz, hnm⟩ := fx
  have hown : s.vm.findClass RX8 = some m.cls := hown
  have hl : lv_has ls 4 [(0, .ref (A 0)), (1, .int o), (2, .int h)] := hl
  refine lv_aload_n hx hb dX8_heat_0 rfl (lv_at hl 0 rfl) ?_
  refine lv_iload_n hx hb dX8_heat_1 rfl (lv_at hl 1 rfl) ?_
  refine m_ci (m_runV (n := 1) (rest := []) ⟨hx, hb, hml, hown, hG⟩ (c_isOven l X q A n ad g wm dy tl hs t o 0) kw_393 kw_395 kw_2 kw_18 kw_396 (by decide +kernel) (rl_ok (by omega) (by decide)) hF hz hS (q0 := 10) rfl rfl rfl hl.1 rfl (Nat.le_of_ble_eq_true rfl) dX8_heat_2 ⟨Nat.le_refl 0, Nat.le_refl 0⟩) hS (fun r_1 w1 H locs hw1 hS => ?_)
  obtain ⟨rfl, rfl⟩ := hw1
  refine lv_if_eq (tgt := 19) hx hb dX8_heat_5 (by decide) (fun c_2 => ?_) (fun c_2 => ?_)
  · refine lv_bipush (v := -2) hx hb dX8_heat_19 (by decide) ?_
    exact m_iret hx hb hr hlk hS (⟨rfl, rfl⟩) (Nat.le_refl 0) (Nat.le_refl 0) dX8_heat_21
  · refine lv_iload_n hx hb dX8_heat_8 rfl (lv_at hl 2 rfl) ?_
    refine lv_iconst (v := 0) hx hb dX8_heat_9 (by decide) ?_
    refine lv_sipush (v := 400) hx hb dX8_heat_10 (by decide) ?_
    refine m_ci (m_runS (n := 3) (rest := []) ⟨hx, hb, hml, hown, hG⟩ (c_within l X (wT X (kC q A n ad g wm dy tl hs) false t) h 0 400 0) kw_82 kw_83 kw_18 kw_84 (by decide +kernel) (rl_ok (by omega) (by decide)) hF hz hS rfl hl.1 rfl (Nat.le_of_ble_eq_true rfl) dX8_heat_13 ⟨Nat.le_refl 0, Nat.le_refl 0⟩) hS (fun r_3 w2 H locs hw2 hS => ?_)
    obtain ⟨rfl, rfl⟩ := hw2
    refine lv_if_ne (tgt := 22) hx hb dX8_heat_16 (by decide) (fun c_4 => absurd (h0.resolve_left c_2) c_4) (fun c_4 => ?_)
    refine lv_bipush (v := -2) hx hb dX8_heat_19 (by decide) ?_
    exact m_iret hx hb hr hlk hS (⟨rfl, rfl⟩) (Nat.le_refl 0) (Nat.le_refl 0) dX8_heat_21
set_option maxHeartbeats 4000000 in
set_option maxRecDepth 100000 in
theorem c_heat (l : Launch) (X : Cx) (q : Nat → Nat × va_E) (A : Nat → Nat) (n : Nat) (ad : Nat → Nat) (g : Nat → Rc) (wm dy tl : Int32) (hs : Nat → Int32) (t : Tr) (o : Nat) (h : Int32) (f : Nat) (hf : 1 ≤ f) (ho : o < 3) (h0 : ¬ inB h 0 400 = 0) : cI l yX8_heat cX8_heat 4 (some .int) (rl f) X [.ref (A 0), .int (nI o), .int h] (wT X (kC q A n ad g wm dy tl hs) false t) (fun r w' => r = hs o ∧ w' = wT X (kC q A n ad g wm dy tl (upd hs o h)) false t) := by
  refine met_start (by decide) (Nat.le_of_ble_eq_true rfl) ?_
  intro p e s m below meth c ls fx hS hl
  obtain ⟨hx, hb, hr, hml, hown, hG, hlk, hF, hz, hnm⟩ := fx
  have hown : s.vm.findClass RX8 = some m.cls := hown
  have hl : lv_has ls 4 [(0, .ref (A 0)), (1, .int (nI o)), (2, .int h)] := hl
  refine lv_aload_n hx hb dX8_heat_0 rfl (lv_at hl 0 rfl) ?_
  refine lv_iload_n hx hb dX8_heat_1 rfl (lv_at hl 1 rfl) ?_
  refine m_ci (m_runV (n := 1) (rest := []) ⟨hx, hb, hml, hown, hG⟩ (c_isOven l X q A n ad g wm dy tl hs t (nI o) 0) kw_393 kw_395 kw_2 kw_18 kw_396 (by decide +kernel) (rl_ok (by omega) (by decide)) hF hz hS (q0 := 10) rfl rfl rfl hl.1 rfl (Nat.le_of_ble_eq_true rfl) dX8_heat_2 ⟨Nat.le_refl 0, Nat.le_refl 0⟩) hS (fun r_1 w1 H locs hw1 hS => ?_)
  obtain ⟨rfl, rfl⟩ := hw1
  refine lv_if_eq (tgt := 19) hx hb dX8_heat_5 (by decide) (fun c_2 => absurd c_2 (by rw [ovB_yes ho]; decide)) (fun c_2 => ?_)
  refine lv_iload_n hx hb dX8_heat_8 rfl (lv_at hl 2 rfl) ?_
  refine lv_iconst (v := 0) hx hb dX8_heat_9 (by decide) ?_
  refine lv_sipush (v := 400) hx hb dX8_heat_10 (by decide) ?_
  refine m_ci (m_runS (n := 3) (rest := []) ⟨hx, hb, hml, hown, hG⟩ (c_within l X (wT X (kC q A n ad g wm dy tl hs) false t) h 0 400 0) kw_82 kw_83 kw_18 kw_84 (by decide +kernel) (rl_ok (by omega) (by decide)) hF hz hS rfl hl.1 rfl (Nat.le_of_ble_eq_true rfl) dX8_heat_13 ⟨Nat.le_refl 0, Nat.le_refl 0⟩) hS (fun r_3 w2 H locs hw2 hS => ?_)
  obtain ⟨rfl, rfl⟩ := hw2
  refine lv_if_ne (tgt := 22) hx hb dX8_heat_16 (by decide) (fun c_4 => ?_) (fun c_4 => absurd c_4 (h0))
  refine lv_aload_n hx hb dX8_heat_22 rfl (lv_at hl 0 rfl) ?_
  refine m_get (v := .ref (A 2)) hx hb hG hown hF hS (10) rfl rfl iG_8 1 (by decide) kw_57 (fun _ h9 => h9) rfl dX8_heat_23 ?_
  refine lv_iload_n hx hb dX8_heat_26 rfl (lv_at hl 1 rfl) ?_
  refine m_iald hx hb hF hS (12) rfl (o) rfl (ho) (by decide) dX8_heat_27 ?_
  refine lv_istore_n (lv' := [(3, .int (hs o)), (0, .ref (A 0)), (1, .int (nI o)), (2, .int h)]) hx hb dX8_heat_28 rfl hl (by decide) rfl (fun ls hl => ?_)
  refine lv_aload_n hx hb dX8_heat_29 rfl (lv_at hl 1 rfl) ?_
  refine m_get (v := .ref (A 2)) hx hb hG hown hF hS (10) rfl rfl iG_8 1 (by decide) kw_57 (fun _ h9 => h9) rfl dX8_heat_30 ?_
  refine lv_iload_n hx hb dX8_heat_33 rfl (lv_at hl 2 rfl) ?_
  refine lv_iload_n hx hb dX8_heat_34 rfl (lv_at hl 3 rfl) ?_
  refine m_iast hx hb hF hS (12) rfl (o) rfl (ho) (by decide) (wT X (kC q A n ad g wm dy tl (upd hs o h)) false t) rfl dX8_heat_35 (fun H locs hS => ?_)
  refine lv_iload_n hx hb dX8_heat_36 rfl (lv_at hl 0 rfl) ?_
  exact m_iret hx hb hr hlk hS (⟨rfl, rfl⟩) (Nat.le_refl 0) (Nat.le_refl 0) dX8_heat_37
end
section
/-- how many of the first n are so -/
def cnt (g : Nat → Rc) (v : Int32) : Nat → Int32
  | 0 => 0
  | n + 1 => if g n 3 = v then cnt g v n + 1 else cnt g v n
/-- the mass in an oven, among the first n -/
def masm (g : Nat → Rc) (o : Int32) : Nat → Int32
  | 0 => 0
  | n + 1 => if g n 3 = 1 then if g n 6 = o then masm g o n + g n 1 else masm g o n else masm g o n
set_option maxHeartbeats 4000000 in
set_option maxRecDepth 100000 in
theorem hm_loop {p : Program} {l : Launch} {e : Env} {R : Room} {s : State} {m : MethodId} {args : Array Value} {below : List Frame} {meth : Method} {c : Code} {X : Cx} {q : Nat → Nat × va_E} {A : Nat → Nat} {n : Nat} {ad : Nat → Nat} {g : Nat → Rc} {wm dy tl : Int32} {hs : Nat → Int32} {t : Tr} {H : Heap} {locs : List Loc} {v : Int32} {P : Int32 → va_W → Prop} (hn : n ≤ 40) (hkd : ∀ i, i < n → kd (g i) < 7) (hx : p.tables.exec = Jvm.exec) (hb : c.code = cX8_howMany) (hr : meth.sig.returnType = some .int) (hml : c.maxLocals = 7) (hown : s.vm.findClass RX8 = some m.cls) (hG : ∀ w ∈ G, w.before args s = true) (hlk : meth.locks = false) (hF : mF X s) (hz : X.2.2.2 ≤ s.heap.size) (hS : mS X s (wT X (kC q A n ad g wm dy tl hs) false t) H locs) (hP : P (cnt g v n) (wT X (kC q A n ad g wm dy tl hs) false t)) : ∀ (d j : Nat) (x5 x2 : Int32) (ls : Array Slot), x5 = nI j → j + d = 40 → x2 = cnt g v (min j n) → lv_has ls 7 [(5, .int x5), (2, .int x2), (0, .ref (A 0)), (1, .int v), (3, .ref (A 1)), (4, .int (nI 40))] → W p l e R s m args below meth c H locs 0 0 (MQ below (va_Qi P (fun w t => mH X w t.heap) (xA X)) args s 0 0 (xA X)) (F0 m 14 ls []) := by
  intro d
  induction d with
  | zero =>
    intro j x5 x2 ls ex hd e2 hl
    have hj : j = 40 := by omega
    subst hj
    refine lv_iload hx hb dX8_howMany_14 (lv_at hl 0 rfl) ?_
    refine lv_iload hx hb dX8_howMany_16 (lv_at hl 5 rfl) ?_
    refine lv_icmp_ge (tgt := 50) hx hb dX8_howMany_18 (by decide) (fun c_1 => ?_) (fun c_1 => absurd (by rw [ex]; exact Int32.le_refl _) c_1)
    refine lv_iload_n hx hb dX8_howMany_50 rfl (lv_at hl 1 rfl) ?_
    exact m_iret hx hb hr hlk hS (by rw [e2, Nat.min_eq_right hn]; exact hP) (Nat.le_refl 0) (Nat.le_refl 0) dX8_howMany_51
  | succ d ih =>
    intro j x5 x2 ls ex hd e2 hl
    subst ex
    refine lv_iload hx hb dX8_howMany_14 (lv_at hl 0 rfl) ?_
    refine lv_iload hx hb dX8_howMany_16 (lv_at hl 5 rfl) ?_
    refine lv_icmp_ge (tgt := 50) hx hb dX8_howMany_18 (by decide) (fun c_2 => absurd c_2 (nI_ge (by omega) (by decide))) (fun c_2 => ?_)
    refine lv_aload_n hx hb dX8_howMany_21 rfl (lv_at hl 4 rfl) ?_
    refine lv_iload hx hb dX8_howMany_22 (lv_at hl 0 rfl) ?_
    by_cases hj : j < n
    · refine m_aaldS hx hb hF hS (11) rfl (j) rfl (by omega) (by decide) (bfn_in hj) dX8_howMany_24 ?_
      refine lv_astore (lv' := [(6, .ref (ad j)), (5, .int (nI j)), (2, .int x2), (0, .ref (A 0)), (1, .int v), (3, .ref (A 1)), (4, .int (nI 40))]) hx hb dX8_howMany_25 hl (by decide) rfl (fun ls hl => ?_)
      refine lv_aload hx hb dX8_howMany_27 (lv_at hl 0 rfl) ?_
      refine lv_ifnull hx hb dX8_howMany_29 ?_
      refine lv_aload hx hb dX8_howMany_32 (lv_at hl 0 rfl) ?_
      refine m_get (v := .int (g j 3)) hx hb hG hown hF hS (j + 15) (kC_at hj) (kd_cls (hkd j hj)).1 (kd_cls (hkd j hj)).2 3 (by decide) kw_116 (fun _ h9 => h9) rfl dX8_howMany_34 ?_
      refine lv_iload_n hx hb dX8_howMany_37 rfl (lv_at hl 4 rfl) ?_
      refine lv_icmp_ne (tgt := 44) hx hb dX8_howMany_38 (by decide) (fun c_3 => ?_) (fun c_3 => ?_)
      · obtain ⟨x_4, ex_4⟩ : ∃ y : Int32, y = (nI j) + 1 := ⟨_, rfl⟩
        refine lv_iinc (v := x_4) (lv' := [(5, .int x_4), (6, .ref (ad j)), (2, .int x2), (0, .ref (A 0)), (1, .int v), (3, .ref (A 1)), (4, .int (nI 40))]) hx hb dX8_howMany_44 hl (k := 1) rfl (by rw [ex_4]; rfl) (by decide) rfl (fun ls hl => ?_)
        refine lv_goto (tgt := 14) hx hb dX8_howMany_47 (by decide) ?_
        exact ih (j + 1) x_4 x2 ls (by rw [ex_4]; exact nI_1 j) (by omega) (by rw [show min (j + 1) n = j + 1 from Nat.min_eq_left hj, cnt, if_neg c_3, e2, Nat.min_eq_left (Nat.le_of_lt hj)]) (lv_sub hl [0, 2, 3, 4, 5, 6] rfl)
      · obtain ⟨x_4, ex_4⟩ : ∃ y : Int32, y = x2 + 1 := ⟨_, rfl⟩
        refine lv_iinc (v := x_4) (lv' := [(2, .int x_4), (6, .ref (ad j)), (5, .int (nI j)), (0, .ref (A 0)), (1, .int v), (3, .ref (A 1)), (4, .int (nI 40))]) hx hb dX8_howMany_41 hl (k := 2) rfl (by rw [ex_4]; rfl) (by decide) rfl (fun ls hl => ?_)
        obtain ⟨x_5, ex_5⟩ : ∃ y : Int32, y = (nI j) + 1 := ⟨_, rfl⟩
        refine lv_iinc (v := x_5) (lv' := [(5, .int x_5), (2, .int x_4), (6, .ref (ad j)), (0, .ref (A 0)), (1, .int v), (3, .ref (A 1)), (4, .int (nI 40))]) hx hb dX8_howMany_44 hl (k := 2) rfl (by rw [ex_5]; rfl) (by decide) rfl (fun ls hl => ?_)
        refine lv_goto (tgt := 14) hx hb dX8_howMany_47 (by decide) ?_
        exact ih (j + 1) x_5 x_4 ls (by rw [ex_5]; exact nI_1 j) (by omega) (by rw [show min (j + 1) n = j + 1 from Nat.min_eq_left hj, cnt, if_pos c_3, ex_4, e2, Nat.min_eq_left (Nat.le_of_lt hj)]) (lv_sub hl [0, 1, 3, 4, 5, 6] rfl)
    · refine m_aaldN hx hb hF hS (11) rfl (j) rfl (by omega) (by decide) (bfn_out (by omega)) dX8_howMany_24 ?_
      refine lv_astoreN (lv' := [(6, .null), (5, .int (nI j)), (2, .int x2), (0, .ref (A 0)), (1, .int v), (3, .ref (A 1)), (4, .int (nI 40))]) hx hb dX8_howMany_25 hl (by decide) rfl (fun ls hl => ?_)
      refine lv_aloadN hx hb dX8_howMany_27 (lv_at hl 0 rfl) ?_
      refine lv_ifnullN (tgt := 44) hx hb dX8_howMany_29 (by decide) ?_
      obtain ⟨x_51, ex_51⟩ : ∃ y : Int32, y = (nI j) + 1 := ⟨_, rfl⟩
      refine lv_iinc (v := x_51) (lv' := [(5, .int x_51), (6, .null), (2, .int x2), (0, .ref (A 0)), (1, .int v), (3, .ref (A 1)), (4, .int (nI 40))]) hx hb dX8_howMany_44 hl (k := 1) rfl (by rw [ex_51]; rfl) (by decide) rfl (fun ls hl => ?_)
      refine lv_goto (tgt := 14) hx hb dX8_howMany_47 (by decide) ?_
      exact ih (j + 1) x_51 x2 ls (by rw [ex_51]; exact nI_1 j) (by omega) (by rw [e2, Nat.min_eq_right (by omega), Nat.min_eq_right (by omega)]) (lv_sub hl [0, 2, 3, 4, 5, 6] rfl)
set_option maxHeartbeats 4000000 in
set_option maxRecDepth 100000 in
theorem c_howMany (l : Launch) (X : Cx) (q : Nat → Nat × va_E) (A : Nat → Nat) (n : Nat) (ad : Nat → Nat) (g : Nat → Rc) (wm dy tl : Int32) (hs : Nat → Int32) (t : Tr) (v : Int32) (f : Nat) (hn : n ≤ 40) (hkd : ∀ i, i < n → kd (g i) < 7) : cI l yX8_howMany cX8_howMany 7 (some .int) (rl f) X [.ref (A 0), .int v] (wT X (kC q A n ad g wm dy tl hs) false t) (fun r w => r = cnt g v n ∧ w = wT X (kC q A n ad g wm dy tl hs) false t) := by
  refine met_start (by decide) (Nat.le_of_ble_eq_true rfl) ?_
  intro p e s m below meth c ls fx hS hl
  obtain ⟨hx, hb, hr, hml, hown, hG, hlk, hF, hz, hnm⟩ := fx
  have hown : s.vm.findClass RX8 = some m.cls := hown
  have hl : lv_has ls 7 [(0, .ref (A 0)), (1, .int v)] := hl
  refine lv_iconst (v := 0) hx hb dX8_howMany_0 (by decide) ?_
  refine lv_istore_n (lv' := [(2, .int 0), (0, .ref (A 0)), (1, .int v)]) hx hb dX8_howMany_1 rfl hl (by decide) rfl (fun ls hl => ?_)
  refine lv_aload_n hx hb dX8_howMany_2 rfl (lv_at hl 1 rfl) ?_
  refine m_get (v := .ref (A 1)) hx hb hG hown hF hS (10) rfl rfl iG_8 0 (by decide) kw_56 (fun _ h9 => h9) rfl dX8_howMany_3 ?_
  refine lv_astore_n (lv' := [(3, .ref (A 1)), (2, .int 0), (0, .ref (A 0)), (1, .int v)]) hx hb dX8_howMany_6 rfl hl (by decide) rfl (fun ls hl => ?_)
  refine lv_aload_n hx hb dX8_howMany_7 rfl (lv_at hl 0 rfl) ?_
  refine m_alenQ hx hb hF hS (11) rfl dX8_howMany_8 ?_
  refine lv_istore (lv' := [(4, .int (nI 40)), (3, .ref (A 1)), (2, .int 0), (0, .ref (A 0)), (1, .int v)]) hx hb dX8_howMany_9 hl (by decide) rfl (fun ls hl => ?_)
  refine lv_iconst (v := 0) hx hb dX8_howMany_11 (by decide) ?_
  refine lv_istore (lv' := [(5, .int 0), (4, .int (nI 40)), (3, .ref (A 1)), (2, .int 0), (0, .ref (A 0)), (1, .int v)]) hx hb dX8_howMany_12 hl (by decide) rfl (fun ls hl => ?_)
  exact hm_loop hn hkd hx hb hr hml hown hG hlk hF hz hS ⟨rfl, rfl⟩ 40 0 0 0 ls nI_0.symm (by omega) (by rw [Nat.zero_min]; rfl) (lv_sub hl [0, 3, 4, 5, 2, 1] rfl)
set_option maxHeartbeats 4000000 in
set_option maxRecDepth 100000 in
theorem mi_loop {p : Program} {l : Launch} {e : Env} {R : Room} {s : State} {m : MethodId} {args : Array Value} {below : List Frame} {meth : Method} {c : Code} {X : Cx} {q : Nat → Nat × va_E} {A : Nat → Nat} {n : Nat} {ad : Nat → Nat} {g : Nat → Rc} {wm dy tl : Int32} {hs : Nat → Int32} {t : Tr} {H : Heap} {locs : List Loc} {o : Int32} {P : Int32 → va_W → Prop} (hn : n ≤ 40) (hkd : ∀ i, i < n → kd (g i) < 7) (hx : p.tables.exec = Jvm.exec) (hb : c.code = cX8_massIn) (hr : meth.sig.returnType = some .int) (hml : c.maxLocals = 7) (hown : s.vm.findClass RX8 = some m.cls) (hG : ∀ w ∈ G, w.before args s = true) (hlk : meth.locks = false) (hF : mF X s) (hz : X.2.2.2 ≤ s.heap.size) (hS : mS X s (wT X (kC q A n ad g wm dy tl hs) false t) H locs) (hP : P (masm g o n) (wT X (kC q A n ad g wm dy tl hs) false t)) : ∀ (d j : Nat) (x5 x2 : Int32) (ls : Array Slot), x5 = nI j → j + d = 40 → x2 = masm g o (min j n) → lv_has ls 7 [(5, .int x5), (2, .int x2), (0, .ref (A 0)), (1, .int o), (3, .ref (A 1)), (4, .int (nI 40))] → W p l e R s m args below meth c H locs 0 0 (MQ below (va_Qi P (fun w t => mH X w t.heap) (xA X)) args s 0 0 (xA X)) (F0 m 14 ls []) := by
  intro d
  induction d with
  | zero =>
    intro j x5 x2 ls ex hd e2 hl
    have hj : j = 40 := by omega
    subst hj
    refine lv_iload hx hb dX8_massIn_14 (lv_at hl 0 rfl) ?_
    refine lv_iload hx hb dX8_massIn_16 (lv_at hl 5 rfl) ?_
    refine lv_icmp_ge (tgt := 64) hx hb dX8_massIn_18 (by decide) (fun c_1 => ?_) (fun c_1 => absurd (by rw [ex]; exact Int32.le_refl _) c_1)
    refine lv_iload_n hx hb dX8_massIn_64 rfl (lv_at hl 1 rfl) ?_
    exact m_iret hx hb hr hlk hS (by rw [e2, Nat.min_eq_right hn]; exact hP) (Nat.le_refl 0) (Nat.le_refl 0) dX8_massIn_65
  | succ d ih =>
    intro j x5 x2 ls ex hd e2 hl
    subst ex
    refine lv_iload hx hb dX8_massIn_14 (lv_at hl 0 rfl) ?_
    refine lv_iload hx hb dX8_massIn_16 (lv_at hl 5 rfl) ?_
    refine lv_icmp_ge (tgt := 64) hx hb dX8_massIn_18 (by decide) (fun c_2 => absurd c_2 (nI_ge (by omega) (by decide))) (fun c_2 => ?_)
    refine lv_aload_n hx hb dX8_massIn_21 rfl (lv_at hl 4 rfl) ?_
    refine lv_iload hx hb dX8_massIn_22 (lv_at hl 0 rfl) ?_
    by_cases hj : j < n
    · refine m_aaldS hx hb hF hS (11) rfl (j) rfl (by omega) (by decide) (bfn_in hj) dX8_massIn_24 ?_
      refine lv_astore (lv' := [(6, .ref (ad j)), (5, .int (nI j)), (2, .int x2), (0, .ref (A 0)), (1, .int o), (3, .ref (A 1)), (4, .int (nI 40))]) hx hb dX8_massIn_25 hl (by decide) rfl (fun ls hl => ?_)
      refine lv_aload hx hb dX8_massIn_27 (lv_at hl 0 rfl) ?_
      refine lv_ifnull hx hb dX8_massIn_29 ?_
      refine lv_aload hx hb dX8_massIn_32 (lv_at hl 0 rfl) ?_
      refine m_get (v := .int (g j 3)) hx hb hG hown hF hS (j + 15) (kC_at hj) (kd_cls (hkd j hj)).1 (kd_cls (hkd j hj)).2 3 (by decide) kw_116 (fun _ h9 => h9) rfl dX8_massIn_34 ?_
      refine lv_iconst (v := 1) hx hb dX8_massIn_37 (by decide) ?_
      refine lv_icmp_ne (tgt := 58) hx hb dX8_massIn_38 (by decide) (fun c_3 => ?_) (fun c_3 => ?_)
      · obtain ⟨x_4, ex_4⟩ : ∃ y : Int32, y = (nI j) + 1 := ⟨_, rfl⟩
        refine lv_iinc (v := x_4) (lv' := [(5, .int x_4), (6, .ref (ad j)), (2, .int x2), (0, .ref (A 0)), (1, .int o), (3, .ref (A 1)), (4, .int (nI 40))]) hx hb dX8_massIn_58 hl (k := 1) rfl (by rw [ex_4]; rfl) (by decide) rfl (fun ls hl => ?_)
        refine lv_goto (tgt := 14) hx hb dX8_massIn_61 (by decide) ?_
        exact ih (j + 1) x_4 x2 ls (by rw [ex_4]; exact nI_1 j) (by omega) (by rw [show min (j + 1) n = j + 1 from Nat.min_eq_left hj, masm, if_neg c_3, e2, Nat.min_eq_left (Nat.le_of_lt hj)]) (lv_sub hl [0, 2, 3, 4, 5, 6] rfl)
      · refine lv_aload hx hb dX8_massIn_41 (lv_at hl 0 rfl) ?_
        refine m_get (v := .int (g j 6)) hx hb hG hown hF hS (j + 15) (kC_at hj) (kd_cls (hkd j hj)).1 (kd_cls (hkd j hj)).2 6 (by decide) kw_121 (fun _ h9 => h9) rfl dX8_massIn_43 ?_
        refine lv_iload_n hx hb dX8_massIn_46 rfl (lv_at hl 4 rfl) ?_
        refine lv_icmp_ne (tgt := 58) hx hb dX8_massIn_47 (by decide) (fun c_4 => ?_) (fun c_4 => ?_)
        · obtain ⟨x_5, ex_5⟩ : ∃ y : Int32, y = (nI j) + 1 := ⟨_, rfl⟩
          refine lv_iinc (v := x_5) (lv' := [(5, .int x_5), (6, .ref (ad j)), (2, .int x2), (0, .ref (A 0)), (1, .int o), (3, .ref (A 1)), (4, .int (nI 40))]) hx hb dX8_massIn_58 hl (k := 1) rfl (by rw [ex_5]; rfl) (by decide) rfl (fun ls hl => ?_)
          refine lv_goto (tgt := 14) hx hb dX8_massIn_61 (by decide) ?_
          exact ih (j + 1) x_5 x2 ls (by rw [ex_5]; exact nI_1 j) (by omega) (by rw [show min (j + 1) n = j + 1 from Nat.min_eq_left hj, masm, if_pos c_3, if_neg c_4, e2, Nat.min_eq_left (Nat.le_of_lt hj)]) (lv_sub hl [0, 2, 3, 4, 5, 6] rfl)
        · refine lv_iload_n hx hb dX8_massIn_50 rfl (lv_at hl 2 rfl) ?_
          refine lv_aload hx hb dX8_massIn_51 (lv_at hl 0 rfl) ?_
          refine m_get (v := .int (g j 1)) hx hb hG hown hF hS (j + 15) (kC_at hj) (kd_cls (hkd j hj)).1 (kd_cls (hkd j hj)).2 1 (by decide) kw_101 (fun _ h9 => h9) rfl dX8_massIn_53 ?_
          refine lv_iadd hx hb dX8_massIn_56 ?_
          refine lv_topi (fun x_5 ex_5 => ?_)
          refine lv_istore_n (lv' := [(2, .int x_5), (6, .ref (ad j)), (5, .int (nI j)), (0, .ref (A 0)), (1, .int o), (3, .ref (A 1)), (4, .int (nI 40))]) hx hb dX8_massIn_57 rfl hl (by decide) rfl (fun ls hl => ?_)
          obtain ⟨x_6, ex_6⟩ : ∃ y : Int32, y = (nI j) + 1 := ⟨_, rfl⟩
          refine lv_iinc (v := x_6) (lv' := [(5, .int x_6), (2, .int x_5), (6, .ref (ad j)), (0, .ref (A 0)), (1, .int o), (3, .ref (A 1)), (4, .int (nI 40))]) hx hb dX8_massIn_58 hl (k := 2) rfl (by rw [ex_6]; rfl) (by decide) rfl (fun ls hl => ?_)
          refine lv_goto (tgt := 14) hx hb dX8_massIn_61 (by decide) ?_
          exact ih (j + 1) x_6 x_5 ls (by rw [ex_6]; exact nI_1 j) (by omega) (by rw [show min (j + 1) n = j + 1 from Nat.min_eq_left hj, masm, if_pos c_3, if_pos c_4, ex_5, e2, Nat.min_eq_left (Nat.le_of_lt hj)]) (lv_sub hl [0, 1, 3, 4, 5, 6] rfl)
    · refine m_aaldN hx hb hF hS (11) rfl (j) rfl (by omega) (by decide) (bfn_out (by omega)) dX8_massIn_24 ?_
      refine lv_astoreN (lv' := [(6, .null), (5, .int (nI j)), (2, .int x2), (0, .ref (A 0)), (1, .int o), (3, .ref (A 1)), (4, .int (nI 40))]) hx hb dX8_massIn_25 hl (by decide) rfl (fun ls hl => ?_)
      refine lv_aloadN hx hb dX8_massIn_27 (lv_at hl 0 rfl) ?_
      refine lv_ifnullN (tgt := 58) hx hb dX8_massIn_29 (by decide) ?_
      obtain ⟨x_51, ex_51⟩ : ∃ y : Int32, y = (nI j) + 1 := ⟨_, rfl⟩
      refine lv_iinc (v := x_51) (lv' := [(5, .int x_51), (6, .null), (2, .int x2), (0, .ref (A 0)), (1, .int o), (3, .ref (A 1)), (4, .int (nI 40))]) hx hb dX8_massIn_58 hl (k := 1) rfl (by rw [ex_51]; rfl) (by decide) rfl (fun ls hl => ?_)
      refine lv_goto (tgt := 14) hx hb dX8_massIn_61 (by decide) ?_
      exact ih (j + 1) x_51 x2 ls (by rw [ex_51]; exact nI_1 j) (by omega) (by rw [e2, Nat.min_eq_right (by omega), Nat.min_eq_right (by omega)]) (lv_sub hl [0, 2, 3, 4, 5, 6] rfl)
set_option maxHeartbeats 4000000 in
set_option maxRecDepth 100000 in
theorem c_massIn (l : Launch) (X : Cx) (q : Nat → Nat × va_E) (A : Nat → Nat) (n : Nat) (ad : Nat → Nat) (g : Nat → Rc) (wm dy tl : Int32) (hs : Nat → Int32) (t : Tr) (o : Int32) (f : Nat) (hn : n ≤ 40) (hkd : ∀ i, i < n → kd (g i) < 7) : cI l yX8_massIn cX8_massIn 7 (some .int) (rl f) X [.ref (A 0), .int o] (wT X (kC q A n ad g wm dy tl hs) false t) (fun r w => r = masm g o n ∧ w = wT X (kC q A n ad g wm dy tl hs) false t) := by
  refine met_start (by decide) (Nat.le_of_ble_eq_true rfl) ?_
  intro p e s m below meth c ls fx hS hl
  obtain ⟨hx, hb, hr, hml, hown, hG, hlk, hF, hz, hnm⟩ := fx
  have hown : s.vm.findClass RX8 = some m.cls := hown
  have hl : lv_has ls 7 [(0, .ref (A 0)), (1, .int o)] := hl
  refine lv_iconst (v := 0) hx hb dX8_massIn_0 (by decide) ?_
  refine lv_istore_n (lv' := [(2, .int 0), (0, .ref (A 0)), (1, .int o)]) hx hb dX8_massIn_1 rfl hl (by decide) rfl (fun ls hl => ?_)
  refine lv_aload_n hx hb dX8_massIn_2 rfl (lv_at hl 1 rfl) ?_
  refine m_get (v := .ref (A 1)) hx hb hG hown hF hS (10) rfl rfl iG_8 0 (by decide) kw_56 (fun _ h9 => h9) rfl dX8_massIn_3 ?_
  refine lv_astore_n (lv' := [(3, .ref (A 1)), (2, .int 0), (0, .ref (A 0)), (1, .int o)]) hx hb dX8_massIn_6 rfl hl (by decide) rfl (fun ls hl => ?_)
  refine lv_aload_n hx hb dX8_massIn_7 rfl (lv_at hl 0 rfl) ?_
  refine m_alenQ hx hb hF hS (11) rfl dX8_massIn_8 ?_
  refine lv_istore (lv' := [(4, .int (nI 40)), (3, .ref (A 1)), (2, .int 0), (0, .ref (A 0)), (1, .int o)]) hx hb dX8_massIn_9 hl (by decide) rfl (fun ls hl => ?_)
  refine lv_iconst (v := 0) hx hb dX8_massIn_11 (by decide) ?_
  refine lv_istore (lv' := [(5, .int 0), (4, .int (nI 40)), (3, .ref (A 1)), (2, .int 0), (0, .ref (A 0)), (1, .int o)]) hx hb dX8_massIn_12 hl (by decide) rfl (fun ls hl => ?_)
  exact mi_loop hn hkd hx hb hr hml hown hG hlk hF hz hS ⟨rfl, rfl⟩ 40 0 0 0 ls nI_0.symm (by omega) (by rw [Nat.zero_min]; rfl) (lv_sub hl [0, 3, 4, 5, 2, 1] rfl)
set_option maxHeartbeats 4000000 in
set_option maxRecDepth 100000 in
theorem c_ask_nob (l : Launch) (X : Cx) (q : Nat → Nat × va_E) (A : Nat → Nat) (n : Nat) (ad : Nat → Nat) (g : Nat → Rc) (wm dy tl : Int32) (hs : Nat → Int32) (t : Tr) (b : Int32) (x0 : Int32) (x1 : Int32) (f : Nat) (hf : 1 ≤ f) (hn : n ≤ 40) (hb0 : b < 0 ∨ nI n ≤ b) : cI l yX8_ask cX8_ask 7 (some .int) (rl f) X [.ref (A 0), .int b, .int x0, .int x1] (wT X (kC q A n ad g wm dy tl hs) false t) (fun r w => r = -2 ∧ w = wT X (kC q A n ad g wm dy tl hs) false t) := by
  refine met_start (by decide) (Nat.le_of_ble_eq_true rfl) ?_
  intro p e s m below meth c ls fx hS hl
  obtain ⟨hx, hb, hr, hml, hown, hG, hlk, hF, hz, hnm⟩ := fx
  have hown : s.vm.findClass RX8 = some m.cls := hown
  have hl : lv_has ls 7 [(0, .ref (A 0)), (1, .int b), (2, .int x0), (3, .int x1)] := hl
  refine lv_aload_n hx hb dX8_ask_0 rfl (lv_at hl 0 rfl) ?_
  refine lv_iload_n hx hb dX8_ask_1 rfl (lv_at hl 1 rfl) ?_
  refine m_cq (m_runV (n := 1) (rest := []) ⟨hx, hb, hml, hown, hG⟩ (c_find_no l X q A n ad g wm dy tl hs t b 0 hn hb0) kw_230 kw_232 kw_1 kw_18 kw_233 (by decide +kernel) (rl_ok (by omega) (by decide)) hF hz hS (q0 := 10) rfl rfl rfl hl.1 rfl (Nat.le_of_ble_eq_true rfl) dX8_ask_2 ⟨Nat.le_refl 0, Nat.le_refl 0⟩) hS (fun o_1 w1 H locs hw1 hS => ?_)
  obtain ⟨rfl, rfl⟩ := hw1
  refine lv_astoreN (lv' := [(4, .null), (0, .ref (A 0)), (1, .int b), (2, .int x0), (3, .int x1)]) hx hb dX8_ask_5 hl (by decide) rfl (fun ls hl => ?_)
  refine lv_aloadN hx hb dX8_ask_7 (lv_at hl 0 rfl) ?_
  refine lv_ifnullN (tgt := 20) hx hb dX8_ask_9 (by decide) ?_
  refine lv_bipush (v := -2) hx hb dX8_ask_20 (by decide) ?_
  exact m_iret hx hb hr hlk hS (⟨rfl, rfl⟩) (Nat.le_refl 0) (Nat.le_refl 0) dX8_ask_22
set_option maxHeartbeats 4000000 in
set_option maxRecDepth 100000 in
theorem c_bake_nob (l : Launch) (X : Cx) (q : Nat → Nat × va_E) (A : Nat → Nat) (n : Nat) (ad : Nat → Nat) (g : Nat → Rc) (wm dy tl : Int32) (hs : Nat → Int32) (t : Tr) (b : Int32) (x0 : Int32) (f : Nat) (hf : 1 ≤ f) (hn : n ≤ 40) (hb0 : b < 0 ∨ nI n ≤ b) : cI l yX8_bake cX8_bake 5 (some .int) (rl f) X [.ref (A 0), .int b, .int x0] (wT X (kC q A n ad g wm dy tl hs) false t) (fun r w => r = -2 ∧ w = wT X (kC q A n ad g wm dy tl hs) false t) := by
  refine met_start (by decide) (Nat.le_of_ble_eq_true rfl) ?_
  intro p e s m below meth c ls fx hS hl
  obtain ⟨hx, hb, hr, hml, hown, hG, hlk, hF, hz, hnm⟩ := fx
  have hown : s.vm.findClass RX8 = some m.cls := hown
  have hl : lv_has ls 5 [(0, .ref (A 0)), (1, .int b), (2, .int x0)] := hl
  refine lv_aload_n hx hb dX8_bake_0 rfl (lv_at hl 0 rfl) ?_
  refine lv_iload_n hx hb dX8_bake_1 rfl (lv_at hl 1 rfl) ?_
  refine m_cq (m_runV (n := 1) (rest := []) ⟨hx, hb, hml, hown, hG⟩ (c_find_no l X q A n ad g wm dy tl hs t b 0 hn hb0) kw_230 kw_232 kw_1 kw_18 kw_233 (by decide +kernel) (rl_ok (by omega) (by decide)) hF hz hS (q0 := 10) rfl rfl rfl hl.1 rfl (Nat.le_of_ble_eq_true rfl) dX8_bake_2 ⟨Nat.le_refl 0, Nat.le_refl 0⟩) hS (fun o_1 w1 H locs hw1 hS => ?_)
  obtain ⟨rfl, rfl⟩ := hw1
  refine lv_astore_nN (lv' := [(3, .null), (0, .ref (A 0)), (1, .int b), (2, .int x0)]) hx hb dX8_bake_5 rfl hl (by decide) rfl (fun ls hl => ?_)
  refine lv_aload_nN hx hb dX8_bake_6 rfl (lv_at hl 0 rfl) ?_
  refine lv_ifnullN (tgt := 18) hx hb dX8_bake_7 (by decide) ?_
  refine lv_bipush (v := -2) hx hb dX8_bake_18 (by decide) ?_
  exact m_iret hx hb hr hlk hS (⟨rfl, rfl⟩) (Nat.le_refl 0) (Nat.le_refl 0) dX8_bake_20
set_option maxHeartbeats 4000000 in
set_option maxRecDepth 100000 in
theorem c_out_nob (l : Launch) (X : Cx) (q : Nat → Nat × va_E) (A : Nat → Nat) (n : Nat) (ad : Nat → Nat) (g : Nat → Rc) (wm dy tl : Int32) (hs : Nat → Int32) (t : Tr) (b : Int32) (f : Nat) (hf : 1 ≤ f) (hn : n ≤ 40) (hb0 : b < 0 ∨ nI n ≤ b) : cI l yX8_out cX8_out 3 (some .int) (rl f) X [.ref (A 0), .int b] (wT X (kC q A n ad g wm dy tl hs) false t) (fun r w => r = -2 ∧ w = wT X (kC q A n ad g wm dy tl hs) false t) := by
  refine met_start (by decide) (Nat.le_of_ble_eq_true rfl) ?_
  intro p e s m below meth c ls fx hS hl
  obtain ⟨hx, hb, hr, hml, hown, hG, hlk, hF, hz, hnm⟩ := fx
  have hown : s.vm.findClass RX8 = some m.cls := hown
  have hl : lv_has ls 3 [(0, .ref (A 0)), (1, .int b)] := hl
  refine lv_aload_n hx hb dX8_out_0 rfl (lv_at hl 0 rfl) ?_
  refine lv_iload_n hx hb dX8_out_1 rfl (lv_at hl 1 rfl) ?_
  refine m_cq (m_runV (n := 1) (rest := []) ⟨hx, hb, hml, hown, hG⟩ (c_find_no l X q A n ad g wm dy tl hs t b 0 hn hb0) kw_230 kw_232 kw_1 kw_18 kw_233 (by decide +kernel) (rl_ok (by omega) (by decide)) hF hz hS (q0 := 10) rfl rfl rfl hl.1 rfl (Nat.le_of_ble_eq_true rfl) dX8_out_2 ⟨Nat.le_refl 0, Nat.le_refl 0⟩) hS (fun o_1 w1 H locs hw1 hS => ?_)
  obtain ⟨rfl, rfl⟩ := hw1
  refine lv_astore_nN (lv' := [(2, .null), (0, .ref (A 0)), (1, .int b)]) hx hb dX8_out_5 rfl hl (by decide) rfl (fun ls hl => ?_)
  refine lv_aload_nN hx hb dX8_out_6 rfl (lv_at hl 0 rfl) ?_
  refine lv_ifnonnullN hx hb dX8_out_7 ?_
  refine lv_bipush (v := -2) hx hb dX8_out_10 (by decide) ?_
  exact m_iret hx hb hr hlk hS (⟨rfl, rfl⟩) (Nat.le_refl 0) (Nat.le_refl 0) dX8_out_12
set_option maxHeartbeats 4000000 in
set_option maxRecDepth 100000 in
theorem c_sell_nob (l : Launch) (X : Cx) (q : Nat → Nat × va_E) (A : Nat → Nat) (n : Nat) (ad : Nat → Nat) (g : Nat → Rc) (wm dy tl : Int32) (hs : Nat → Int32) (t : Tr) (b : Int32) (f : Nat) (hf : 1 ≤ f) (hn : n ≤ 40) (hb0 : b < 0 ∨ nI n ≤ b) : cI l yX8_sell cX8_sell 5 (some .int) (rl f) X [.ref (A 0), .int b] (wT X (kC q A n ad g wm dy tl hs) false t) (fun r w => r = -2 ∧ w = wT X (kC q A n ad g wm dy tl hs) false t) := by
  refine met_start (by decide) (Nat.le_of_ble_eq_true rfl) ?_
  intro p e s m below meth c ls fx hS hl
  obtain ⟨hx, hb, hr, hml, hown, hG, hlk, hF, hz, hnm⟩ := fx
  have hown : s.vm.findClass RX8 = some m.cls := hown
  have hl : lv_has ls 5 [(0, .ref (A 0)), (1, .int b)] := hl
  refine lv_aload_n hx hb dX8_sell_0 rfl (lv_at hl 0 rfl) ?_
  refine lv_iload_n hx hb dX8_sell_1 rfl (lv_at hl 1 rfl) ?_
  refine m_cq (m_runV (n := 1) (rest := []) ⟨hx, hb, hml, hown, hG⟩ (c_find_no l X q A n ad g wm dy tl hs t b 0 hn hb0) kw_230 kw_232 kw_1 kw_18 kw_233 (by decide +kernel) (rl_ok (by omega) (by decide)) hF hz hS (q0 := 10) rfl rfl rfl hl.1 rfl (Nat.le_of_ble_eq_true rfl) dX8_sell_2 ⟨Nat.le_refl 0, Nat.le_refl 0⟩) hS (fun o_1 w1 H locs hw1 hS => ?_)
  obtain ⟨rfl, rfl⟩ := hw1
  refine lv_astore_nN (lv' := [(2, .null), (0, .ref (A 0)), (1, .int b)]) hx hb dX8_sell_5 rfl hl (by decide) rfl (fun ls hl => ?_)
  refine lv_aload_nN hx hb dX8_sell_6 rfl (lv_at hl 0 rfl) ?_
  refine lv_ifnonnullN hx hb dX8_sell_7 ?_
  refine lv_bipush (v := -2) hx hb dX8_sell_10 (by decide) ?_
  exact m_iret hx hb hr hlk hS (⟨rfl, rfl⟩) (Nat.le_refl 0) (Nat.le_refl 0) dX8_sell_12
set_option maxHeartbeats 4000000 in
set_option maxRecDepth 100000 in
theorem c_told_nob (l : Launch) (X : Cx) (q : Nat → Nat × va_E) (A : Nat → Nat) (n : Nat) (ad : Nat → Nat) (g : Nat → Rc) (wm dy tl : Int32) (hs : Nat → Int32) (t : Tr) (b : Int32) (x0 : Int32) (f : Nat) (hf : 1 ≤ f) (hn : n ≤ 40) (hb0 : b < 0 ∨ nI n ≤ b) : cI l yX8_told cX8_told 4 (some .int) (rl f) X [.ref (A 0), .int b, .int x0] (wT X (kC q A n ad g wm dy tl hs) false t) (fun r w => r = -2 ∧ w = wT X (kC q A n ad g wm dy tl hs) false t) := by
  refine met_start (by decide) (Nat.le_of_ble_eq_true rfl) ?_
  intro p e s m below meth c ls fx hS hl
  obtain ⟨hx, hb, hr, hml, hown, hG, hlk, hF, hz, hnm⟩ := fx
  have hown : s.vm.findClass RX8 = some m.cls := hown
  have hl : lv_has ls 4 [(0, .ref (A 0)), (1, .int b), (2, .int x0)] := hl
  refine lv_aload_n hx hb dX8_told_0 rfl (lv_at hl 0 rfl) ?_
  refine lv_iload_n hx hb dX8_told_1 rfl (lv_at hl 1 rfl) ?_
  refine m_cq (m_runV (n := 1) (rest := []) ⟨hx, hb, hml, hown, hG⟩ (c_find_no l X q A n ad g wm dy tl hs t b 0 hn hb0) kw_230 kw_232 kw_1 kw_18 kw_233 (by decide +kernel) (rl_ok (by omega) (by decide)) hF hz hS (q0 := 10) rfl rfl rfl hl.1 rfl (Nat.le_of_ble_eq_true rfl) dX8_told_2 ⟨Nat.le_refl 0, Nat.le_refl 0⟩) hS (fun o_1 w1 H locs hw1 hS => ?_)
  obtain ⟨rfl, rfl⟩ := hw1
  refine lv_astore_nN (lv' := [(3, .null), (0, .ref (A 0)), (1, .int b), (2, .int x0)]) hx hb dX8_told_5 rfl hl (by decide) rfl (fun ls hl => ?_)
  refine lv_aload_nN hx hb dX8_told_6 rfl (lv_at hl 0 rfl) ?_
  refine lv_ifnonnullN hx hb dX8_told_7 ?_
  refine lv_bipush (v := -2) hx hb dX8_told_10 (by decide) ?_
  exact m_iret hx hb hr hlk hS (⟨rfl, rfl⟩) (Nat.le_refl 0) (Nat.le_refl 0) dX8_told_12
set_option maxHeartbeats 4000000 in
set_option maxRecDepth 100000 in
theorem c_out_no (l : Launch) (X : Cx) (q : Nat → Nat × va_E) (A : Nat → Nat) (n : Nat) (ad : Nat → Nat) (g : Nat → Rc) (wm dy tl : Int32) (hs : Nat → Int32) (t : Tr) (j f : Nat) (hn : n ≤ 40) (hkd : ∀ i, i < n → kd (g i) < 7) (hj : j < n) (hf : 1 ≤ f) (h0 : ¬ g j 3 = 1) : cI l yX8_out cX8_out 3 (some .int) (rl f) X [.ref (A 0), .int (nI j)] (wT X (kC q A n ad g wm dy tl hs) false t) (fun r w' => r = -3 ∧ w' = wT X (kC q A n ad g wm dy tl hs) false t) := by
  refine met_start (by decide) (Nat.le_of_ble_eq_true rfl) ?_
  intro p e s m below meth c ls fx hS hl
  obtain ⟨hx, hb, hr, hml, hown, hG, hlk, hF, hz, hnm⟩ := fx
  have hown : s.vm.findClass RX8 = some m.cls := hown
  have hl : lv_has ls 3 [(0, .ref (A 0)), (1, .int (nI j))] := hl
  refine lv_aload_n hx hb dX8_out_0 rfl (lv_at hl 0 rfl) ?_
  refine lv_iload_n hx hb dX8_out_1 rfl (lv_at hl 1 rfl) ?_
  refine m_cq (m_runV (n := 1) (rest := []) ⟨hx, hb, hml, hown, hG⟩ (c_find l X q A n ad g wm dy tl hs t j 0 hn hj) kw_230 kw_232 kw_1 kw_18 kw_233 (by decide +kernel) (rl_ok (by omega) (by decide)) hF hz hS (q0 := 10) rfl rfl rfl hl.1 rfl (Nat.le_of_ble_eq_true rfl) dX8_out_2 ⟨Nat.le_refl 0, Nat.le_refl 0⟩) hS (fun o_1 w1 H locs hw1 hS => ?_)
  obtain ⟨rfl, rfl⟩ := hw1
  refine lv_astore_n (lv' := [(2, .ref (ad j)), (0, .ref (A 0)), (1, .int (nI j))]) hx hb dX8_out_5 rfl hl (by decide) rfl (fun ls hl => ?_)
  refine lv_aload_n hx hb dX8_out_6 rfl (lv_at hl 0 rfl) ?_
  refine lv_ifnonnull (tgt := 13) hx hb dX8_out_7 (by decide) ?_
  refine lv_aload_n hx hb dX8_out_13 rfl (lv_at hl 0 rfl) ?_
  refine m_get (v := .int (g j 3)) hx hb hG hown hF hS (j + 15) (kC_at hj) (kd_cls (hkd j hj)).1 (kd_cls (hkd j hj)).2 3 (by decide) kw_116 (fun _ h9 => h9) rfl dX8_out_14 ?_
  refine lv_iconst (v := 1) hx hb dX8_out_17 (by decide) ?_
  refine lv_icmp_eq (tgt := 24) hx hb dX8_out_18 (by decide) (fun c_2 => absurd c_2 (h0)) (fun c_2 => ?_)
  refine lv_bipush (v := -3) hx hb dX8_out_21 (by decide) ?_
  exact m_iret hx hb hr hlk hS (⟨rfl, rfl⟩) (Nat.le_refl 0) (Nat.le_refl 0) dX8_out_23
theorem kC_at2 {X : Cx} {q : Nat → Nat × va_E} {A : Nat → Nat} {n : Nat} {ad : Nat → Nat} {g : Nat → Rc} {wm dy tl : Int32} {hs : Nat → Int32} {r : Bool} {t : Tr} {j : Nat} {rc : Rc} (h : j < n) : (wT X (kC q A n ad (va_up g j rc) wm dy tl hs) r t)[j + 15]? = some (ad j, dE (A 3) rc) := by
  rw [kC_at h, va_up_self]
theorem wC_set2 {X : Cx} {q : Nat → Nat × va_E} {A : Nat → Nat} {n : Nat} {ad : Nat → Nat} {g : Nat → Rc} {wm dy tl : Int32} {hs : Nat → Int32} {r : Bool} {t : Tr} {j : Nat} {r0 rc : Rc} (h : j < n) : (wT X (kC q A n ad (va_up g j r0) wm dy tl hs) r t).set (j + 15) (ad j, dE (A 3) rc) = wT X (kC q A n ad (va_up g j rc) wm dy tl hs) r t := by
  rw [wC_set h, va_up_up]
set_option maxHeartbeats 4000000 in
set_option maxRecDepth 100000 in
theorem c_out_lost (l : Launch) (X : Cx) (q : Nat → Nat × va_E) (A : Nat → Nat) (n : Nat) (ad : Nat → Nat) (g : Nat → Rc) (wm dy tl : Int32) (hs : Nat → Int32) (t : Tr) (j f : Nat) (hn : n ≤ 40) (hkd : ∀ i, i < n → kd (g i) < 7) (hj : j < n) (hf : 1 ≤ f) (h0 : g j 3 = 1) (h1 : g j 5 < 40) : cI l yX8_out cX8_out 3 (some .int) (rl f) X [.ref (A 0), .int (nI j)] (wT X (kC q A n ad g wm dy tl hs) false t) (fun r w' => r = g j 5 ∧ w' = wT X (kC q A n ad (va_up g j (va_up (g j) 3 4)) wm dy tl hs) false t) := by
  refine met_start (by decide) (Nat.le_of_ble_eq_true rfl) ?_
  intro p e s m below meth c ls fx hS hl
  obtain ⟨hx, hb, hr, hml, hown, hG, hlk, hF, hz, hnm⟩ := fx
  have hown : s.vm.findClass RX8 = some m.cls := hown
  have hl : lv_has ls 3 [(0, .ref (A 0)), (1, .int (nI j))] := hl
  refine lv_aload_n hx hb dX8_out_0 rfl (lv_at hl 0 rfl) ?_
  refine lv_iload_n hx hb dX8_out_1 rfl (lv_at hl 1 rfl) ?_
  refine m_cq (m_runV (n := 1) (rest := []) ⟨hx, hb, hml, hown, hG⟩ (c_find l X q A n ad g wm dy tl hs t j 0 hn hj) kw_230 kw_232 kw_1 kw_18 kw_233 (by decide +kernel) (rl_ok (by omega) (by decide)) hF hz hS (q0 := 10) rfl rfl rfl hl.1 rfl (Nat.le_of_ble_eq_true rfl) dX8_out_2 ⟨Nat.le_refl 0, Nat.le_refl 0⟩) hS (fun o_1 w1 H locs hw1 hS => ?_)
  obtain ⟨rfl, rfl⟩ := hw1
  refine lv_astore_n (lv' := [(2, .ref (ad j)), (0, .ref (A 0)), (1, .int (nI j))]) hx hb dX8_out_5 rfl hl (by decide) rfl (fun ls hl => ?_)
  refine lv_aload_n hx hb dX8_out_6 rfl (lv_at hl 0 rfl) ?_
  refine lv_ifnonnull (tgt := 13) hx hb dX8_out_7 (by decide) ?_
  refine lv_aload_n hx hb dX8_out_13 rfl (lv_at hl 0 rfl) ?_
  refine m_get (v := .int (g j 3)) hx hb hG hown hF hS (j + 15) (kC_at hj) (kd_cls (hkd j hj)).1 (kd_cls (hkd j hj)).2 3 (by decide) kw_116 (fun _ h9 => h9) rfl dX8_out_14 ?_
  refine lv_iconst (v := 1) hx hb dX8_out_17 (by decide) ?_
  refine lv_icmp_eq (tgt := 24) hx hb dX8_out_18 (by decide) (fun c_2 => ?_) (fun c_2 => absurd (h0) c_2)
  refine lv_aload_n hx hb dX8_out_24 rfl (lv_at hl 0 rfl) ?_
  refine m_get (v := .int (g j 5)) hx hb hG hown hF hS (j + 15) (kC_at hj) (kd_cls (hkd j hj)).1 (kd_cls (hkd j hj)).2 5 (by decide) kw_120 (fun _ h9 => h9) rfl dX8_out_25 ?_
  refine lv_bipush (v := 40) hx hb dX8_out_28 (by decide) ?_
  refine lv_icmp_lt (tgt := 49) hx hb dX8_out_30 (by decide) (fun c_3 => ?_) (fun c_3 => absurd (h1) c_3)
  refine lv_aload_n hx hb dX8_out_49 rfl (lv_at hl 0 rfl) ?_
  refine lv_iconst (v := 4) hx hb dX8_out_50 (by decide) ?_
  refine m_put hx hb hG hown hF hS (j + 15) (kC_at hj) (kd_cls (hkd j hj)).1 (kd_cls (hkd j hj)).2 tyX2_ok nmX2 3 (by decide) kw_116 (fun _ h9 => h9) rfl rfl rfl (Nat.le_of_ble_eq_true rfl) (wT X (kC q A n ad (va_up g j (va_up (g j) 3 4)) wm dy tl hs) false t) (wC_set (rc := va_up (g j) 3 4) hj) dX8_out_51 (fun H locs hS => ?_)
  refine lv_aload_n hx hb dX8_out_54 rfl (lv_at hl 0 rfl) ?_
  refine m_get (v := .int ((va_up (g j) 3 4) 5)) hx hb hG hown hF hS (j + 15) (kC_at2 hj) (kd_cls (hkd j hj)).1 (kd_cls (hkd j hj)).2 5 (by decide) kw_120 (fun _ h9 => h9) rfl dX8_out_55 ?_
  exact m_iret hx hb hr hlk hS (⟨rfl, rfl⟩) (Nat.le_refl 0) (Nat.le_refl 0) dX8_out_58
set_option maxHeartbeats 4000000 in
set_option maxRecDepth 100000 in
theorem c_out_done (l : Launch) (X : Cx) (q : Nat → Nat × va_E) (A : Nat → Nat) (n : Nat) (ad : Nat → Nat) (g : Nat → Rc) (wm dy tl : Int32) (hs : Nat → Int32) (t : Tr) (j f : Nat) (hn : n ≤ 40) (hkd : ∀ i, i < n → kd (g i) < 7) (hj : j < n) (hf : 1 ≤ f) (h0 : g j 3 = 1) (h1 : ¬ g j 5 < 40) : cI l yX8_out cX8_out 3 (some .int) (rl f) X [.ref (A 0), .int (nI j)] (wT X (kC q A n ad g wm dy tl hs) false t) (fun r w' => r = g j 5 ∧ w' = wT X (kC q A n ad (va_up g j (va_up (va_up (g j) 3 2) 7 dy)) wm dy tl hs) false t) := by
  refine met_start (by decide) (Nat.le_of_ble_eq_true rfl) ?_
  intro p e s m below meth c ls fx hS hl
  obtain ⟨hx, hb, hr, hml, hown, hG, hlk, hF, hz, hnm⟩ := fx
  have hown : s.vm.findClass RX8 = some m.cls := hown
  have hl : lv_has ls 3 [(0, .ref (A 0)), (1, .int (nI j))] := hl
  refine lv_aload_n hx hb dX8_out_0 rfl (lv_at hl 0 rfl) ?_
  refine lv_iload_n hx hb dX8_out_1 rfl (lv_at hl 1 rfl) ?_
  refine m_cq (m_runV (n := 1) (rest := []) ⟨hx, hb, hml, hown, hG⟩ (c_find l X q A n ad g wm dy tl hs t j 0 hn hj) kw_230 kw_232 kw_1 kw_18 kw_233 (by decide +kernel) (rl_ok (by omega) (by decide)) hF hz hS (q0 := 10) rfl rfl rfl hl.1 rfl (Nat.le_of_ble_eq_true rfl) dX8_out_2 ⟨Nat.le_refl 0, Nat.le_refl 0⟩) hS (fun o_1 w1 H locs hw1 hS => ?_)
  obtain ⟨rfl, rfl⟩ := hw1
  refine lv_astore_n (lv' := [(2, .ref (ad j)), (0, .ref (A 0)), (1, .int (nI j))]) hx hb dX8_out_5 rfl hl (by decide) rfl (fun ls hl => ?_)
  refine lv_aload_n hx hb dX8_out_6 rfl (lv_at hl 0 rfl) ?_
  refine lv_ifnonnull (tgt := 13) hx hb dX8_out_7 (by decide) ?_
  refine lv_aload_n hx hb dX8_out_13 rfl (lv_at hl 0 rfl) ?_
  refine m_get (v := .int (g j 3)) hx hb hG hown hF hS (j + 15) (kC_at hj) (kd_cls (hkd j hj)).1 (kd_cls (hkd j hj)).2 3 (by decide) kw_116 (fun _ h9 => h9) rfl dX8_out_14 ?_
  refine lv_iconst (v := 1) hx hb dX8_out_17 (by decide) ?_
  refine lv_icmp_eq (tgt := 24) hx hb dX8_out_18 (by decide) (fun c_2 => ?_) (fun c_2 => absurd (h0) c_2)
  refine lv_aload_n hx hb dX8_out_24 rfl (lv_at hl 0 rfl) ?_
  refine m_get (v := .int (g j 5)) hx hb hG hown hF hS (j + 15) (kC_at hj) (kd_cls (hkd j hj)).1 (kd_cls (hkd j hj)).2 5 (by decide) kw_120 (fun _ h9 => h9) rfl dX8_out_25 ?_
  refine lv_bipush (v := 40) hx hb dX8_out_28 (by decide) ?_
  refine lv_icmp_lt (tgt := 49) hx hb dX8_out_30 (by decide) (fun c_3 => absurd c_3 (h1)) (fun c_3 => ?_)
  refine lv_aload_n hx hb dX8_out_33 rfl (lv_at hl 0 rfl) ?_
  refine lv_iconst (v := 2) hx hb dX8_out_34 (by decide) ?_
  refine m_put hx hb hG hown hF hS (j + 15) (kC_at hj) (kd_cls (hkd j hj)).1 (kd_cls (hkd j hj)).2 tyX2_ok nmX2 3 (by decide) kw_116 (fun _ h9 => h9) rfl rfl rfl (Nat.le_of_ble_eq_true rfl) (wT X (kC q A n ad (va_up g j (va_up (g j) 3 2)) wm dy tl hs) false t) (wC_set (rc := va_up (g j) 3 2) hj) dX8_out_35 (fun H locs hS => ?_)
  refine lv_aload_n hx hb dX8_out_38 rfl (lv_at hl 0 rfl) ?_
  refine lv_aload_n hx hb dX8_out_39 rfl (lv_at hl 1 rfl) ?_
  refine m_get (v := .int dy) hx hb hG hown hF hS (10) rfl rfl iG_8 5 (by decide) kw_61 (fun _ h9 => h9) rfl dX8_out_40 ?_
  refine m_put hx hb hG hown hF hS (j + 15) (kC_at2 hj) (kd_cls (hkd j hj)).1 (kd_cls (hkd j hj)).2 tyX2_ok nmX2 7 (by decide) kw_122 (fun _ h9 => h9) rfl rfl rfl (Nat.le_of_ble_eq_true rfl) (wT X (kC q A n ad (va_up g j (va_up (va_up (g j) 3 2) 7 dy)) wm dy tl hs) false t) (wC_set2 (rc := va_up (va_up (g j) 3 2) 7 dy) hj) dX8_out_43 (fun H locs hS => ?_)
  refine lv_goto (tgt := 54) hx hb dX8_out_46 (by decide) ?_
  refine lv_aload_n hx hb dX8_out_54 rfl (lv_at hl 0 rfl) ?_
  refine m_get (v := .int ((va_up (va_up (g j) 3 2) 7 dy) 5)) hx hb hG hown hF hS (j + 15) (kC_at2 hj) (kd_cls (hkd j hj)).1 (kd_cls (hkd j hj)).2 5 (by decide) kw_120 (fun _ h9 => h9) rfl dX8_out_55 ?_
  exact m_iret hx hb hr hlk hS (⟨rfl, rfl⟩) (Nat.le_refl 0) (Nat.le_refl 0) dX8_out_58
def toldV (rc : Rc) (k : Nat) : Int32 := match k with
  | 0 => rc 0
  | 1 => rc 3
  | 2 => rc 4
  | 3 => rc 5
  | 4 => if rc 3 = 1 then rc 6 else -1
  | 5 => if rc 3 = 2 then rc 7 else -1
  | 6 => if 2 ≤ kd rc ∧ kd rc < 5 then 1 else 0
  | _ => if 5 ≤ kd rc then 1 else 0
set_option maxHeartbeats 4000000 in
set_option maxRecDepth 100000 in
theorem c_told (l : Launch) (X : Cx) (q : Nat → Nat × va_E) (A : Nat → Nat) (n : Nat) (ad : Nat → Nat) (g : Nat → Rc) (wm dy tl : Int32) (hs : Nat → Int32) (t : Tr) (j f : Nat) (hn : n ≤ 40) (hkd : ∀ i, i < n → kd (g i) < 7) (hj : j < n) (k : Nat) (hk : k < 8) (hf : 1 ≤ f)  : cI l yX8_told cX8_told 4 (some .int) (rl f) X [.ref (A 0), .int (nI j), .int (nI k)] (wT X (kC q A n ad g wm dy tl hs) false t) (fun r w' => r = toldV (g j) k ∧ w' = wT X (kC q A n ad g wm dy tl hs) false t) := by
  refine met_start (by decide) (Nat.le_of_ble_eq_true rfl) ?_
  intro p e s m below meth c ls fx hS hl
  obtain ⟨hx, hb, hr, hml, hown, hG, hlk, hF, hz, hnm⟩ := fx
  have hown : s.vm.findClass RX8 = some m.cls := hown
  have hl : lv_has ls 4 [(0, .ref (A 0)), (1, .int (nI j)), (2, .int (nI k))] := hl
  refine lv_aload_n hx hb dX8_told_0 rfl (lv_at hl 0 rfl) ?_
  refine lv_iload_n hx hb dX8_told_1 rfl (lv_at hl 1 rfl) ?_
  refine m_cq (m_runV (n := 1) (rest := []) ⟨hx, hb, hml, hown, hG⟩ (c_find l X q A n ad g wm dy tl hs t j 0 hn hj) kw_230 kw_232 kw_1 kw_18 kw_233 (by decide +kernel) (rl_ok (by omega) (by decide)) hF hz hS (q0 := 10) rfl rfl rfl hl.1 rfl (Nat.le_of_ble_eq_true rfl) dX8_told_2 ⟨Nat.le_refl 0, Nat.le_refl 0⟩) hS (fun o_1 w1 H locs hw1 hS => ?_)
  obtain ⟨rfl, rfl⟩ := hw1
  refine lv_astore_n (lv' := [(3, .ref (ad j)), (0, .ref (A 0)), (1, .int (nI j)), (2, .int (nI k))]) hx hb dX8_told_5 rfl hl (by decide) rfl (fun ls hl => ?_)
  refine lv_aload_n hx hb dX8_told_6 rfl (lv_at hl 0 rfl) ?_
  refine lv_ifnonnull (tgt := 13) hx hb dX8_told_7 (by decide) ?_
  refine lv_iload_n hx hb dX8_told_13 rfl (lv_at hl 3 rfl) ?_
  match k, hk with
  | 0, _ =>
    refine lv_tableIn (off := 46) (tgt := 60) hx hb dX8_told_14 (by decide) (by decide) (by decide) (by decide) ?_
    refine lv_aload_n hx hb dX8_told_60 rfl (lv_at hl 0 rfl) ?_
    refine m_get (v := .int (g j 0)) hx hb hG hown hF hS (j + 15) (kC_at hj) (kd_cls (hkd j hj)).1 (kd_cls (hkd j hj)).2 0 (by decide) kw_99 (fun _ h9 => h9) rfl dX8_told_61 ?_
    exact m_iret hx hb hr hlk hS (⟨rfl, rfl⟩) (Nat.le_refl 0) (Nat.le_refl 0) dX8_told_64
  | 1, _ =>
    refine lv_tableIn (off := 51) (tgt := 65) hx hb dX8_told_14 (by decide) (by decide) (by decide) (by decide) ?_
    refine lv_aload_n hx hb dX8_told_65 rfl (lv_at hl 0 rfl) ?_
    refine m_get (v := .int (g j 3)) hx hb hG hown hF hS (j + 15) (kC_at hj) (kd_cls (hkd j hj)).1 (kd_cls (hkd j hj)).2 3 (by decide) kw_116 (fun _ h9 => h9) rfl dX8_told_66 ?_
    exact m_iret hx hb hr hlk hS (⟨rfl, rfl⟩) (Nat.le_refl 0) (Nat.le_refl 0) dX8_told_69
  | 2, _ =>
    refine lv_tableIn (off := 56) (tgt := 70) hx hb dX8_told_14 (by decide) (by decide) (by decide) (by decide) ?_
    refine lv_aload_n hx hb dX8_told_70 rfl (lv_at hl 0 rfl) ?_
    refine m_get (v := .int (g j 4)) hx hb hG hown hF hS (j + 15) (kC_at hj) (kd_cls (hkd j hj)).1 (kd_cls (hkd j hj)).2 4 (by decide) kw_118 (fun _ h9 => h9) rfl dX8_told_71 ?_
    exact m_iret hx hb hr hlk hS (⟨rfl, rfl⟩) (Nat.le_refl 0) (Nat.le_refl 0) dX8_told_74
  | 3, _ =>
    refine lv_tableIn (off := 61) (tgt := 75) hx hb dX8_told_14 (by decide) (by decide) (by decide) (by decide) ?_
    refine lv_aload_n hx hb dX8_told_75 rfl (lv_at hl 0 rfl) ?_
    refine m_get (v := .int (g j 5)) hx hb hG hown hF hS (j + 15) (kC_at hj) (kd_cls (hkd j hj)).1 (kd_cls (hkd j hj)).2 5 (by decide) kw_120 (fun _ h9 => h9) rfl dX8_told_76 ?_
    exact m_iret hx hb hr hlk hS (⟨rfl, rfl⟩) (Nat.le_refl 0) (Nat.le_refl 0) dX8_told_79
  | 4, _ =>
    refine lv_tableIn (off := 66) (tgt := 80) hx hb dX8_told_14 (by decide) (by decide) (by decide) (by decide) ?_
    refine lv_aload_n hx hb dX8_told_80 rfl (lv_at hl 0 rfl) ?_
    refine m_get (v := .int (g j 3)) hx hb hG hown hF hS (j + 15) (kC_at hj) (kd_cls (hkd j hj)).1 (kd_cls (hkd j hj)).2 3 (by decide) kw_116 (fun _ h9 => h9) rfl dX8_told_81 ?_
    refine lv_iconst (v := 1) hx hb dX8_told_84 (by decide) ?_
    refine lv_icmp_ne (tgt := 95) hx hb dX8_told_85 (by decide) (fun c_2 => ?_) (fun c_2 => ?_)
    · refine lv_iconst (v := -1) hx hb dX8_told_95 (by decide) ?_
      exact m_iret hx hb hr hlk hS (⟨by rw [toldV, if_neg c_2], rfl⟩) (Nat.le_refl 0) (Nat.le_refl 0) dX8_told_96
    · refine lv_aload_n hx hb dX8_told_88 rfl (lv_at hl 0 rfl) ?_
      refine m_get (v := .int (g j 6)) hx hb hG hown hF hS (j + 15) (kC_at hj) (kd_cls (hkd j hj)).1 (kd_cls (hkd j hj)).2 6 (by decide) kw_121 (fun _ h9 => h9) rfl dX8_told_89 ?_
      refine lv_goto (tgt := 96) hx hb dX8_told_92 (by decide) ?_
      exact m_iret hx hb hr hlk hS (⟨by rw [toldV, if_pos c_2], rfl⟩) (Nat.le_refl 0) (Nat.le_refl 0) dX8_told_96
  | 5, _ =>
    refine lv_tableIn (off := 83) (tgt := 97) hx hb dX8_told_14 (by decide) (by decide) (by decide) (by decide) ?_
    refine lv_aload_n hx hb dX8_told_97 rfl (lv_at hl 0 rfl) ?_
    refine m_get (v := .int (g j 3)) hx hb hG hown hF hS (j + 15) (kC_at hj) (kd_cls (hkd j hj)).1 (kd_cls (hkd j hj)).2 3 (by decide) kw_116 (fun _ h9 => h9) rfl dX8_told_98 ?_
    refine lv_iconst (v := 2) hx hb dX8_told_101 (by decide) ?_
    refine lv_icmp_ne (tgt := 112) hx hb dX8_told_102 (by decide) (fun c_2 => ?_) (fun c_2 => ?_)
    · refine lv_iconst (v := -1) hx hb dX8_told_112 (by decide) ?_
      exact m_iret hx hb hr hlk hS (⟨by rw [toldV, if_neg c_2], rfl⟩) (Nat.le_refl 0) (Nat.le_refl 0) dX8_told_113
    · refine lv_aload_n hx hb dX8_told_105 rfl (lv_at hl 0 rfl) ?_
      refine m_get (v := .int (g j 7)) hx hb hG hown hF hS (j + 15) (kC_at hj) (kd_cls (hkd j hj)).1 (kd_cls (hkd j hj)).2 7 (by decide) kw_122 (fun _ h9 => h9) rfl dX8_told_106 ?_
      refine lv_goto (tgt := 113) hx hb dX8_told_109 (by decide) ?_
      exact m_iret hx hb hr hlk hS (⟨by rw [toldV, if_pos c_2], rfl⟩) (Nat.le_refl 0) (Nat.le_refl 0) dX8_told_113
  | 6, _ =>
    refine lv_tableIn (off := 100) (tgt := 114) hx hb dX8_told_14 (by decide) (by decide) (by decide) (by decide) ?_
    refine lv_aload_n hx hb dX8_told_114 rfl (lv_at hl 0 rfl) ?_
    by_cases h5 : 2 ≤ kd (g j) ∧ kd (g j) < 5
    · refine m_instY hx hb hG hown hF hS (j + 15) (kC_at hj) (hkd j hj) kw_140 (hF.2.2.2.1 _ h5.1 h5.2) dX8_told_115 ?_
      refine lv_if_eq (tgt := 125) hx hb dX8_told_118 (by decide) (fun c_2 => absurd c_2 (by decide)) (fun c_2 => ?_)
      refine lv_iconst (v := 1) hx hb dX8_told_121 (by decide) ?_
      refine lv_goto (tgt := 126) hx hb dX8_told_122 (by decide) ?_
      exact m_iret hx hb hr hlk hS (⟨by rw [toldV, if_pos h5], rfl⟩) (Nat.le_refl 0) (Nat.le_refl 0) dX8_told_126
    · rcases Nat.lt_or_ge (kd (g j)) 2 with h6 | h6
      · refine m_instN hx hb hG hown hF hS (j + 15) (kC_at hj) (hkd j hj) kw_140 (hF.2.2.2.2.2.1 _ h6) dX8_told_115 ?_
        refine lv_if_eq (tgt := 125) hx hb dX8_told_118 (by decide) (fun c_2 => ?_) (fun c_2 => absurd (rfl) c_2)
        refine lv_iconst (v := 0) hx hb dX8_told_125 (by decide) ?_
        exact m_iret hx hb hr hlk hS (⟨by rw [toldV, if_neg h5], rfl⟩) (Nat.le_refl 0) (Nat.le_refl 0) dX8_told_126
      · have h6 : 5 ≤ kd (g j) := Nat.le_of_not_lt (fun q => h5 ⟨h6, q⟩)
        refine m_instN hx hb hG hown hF hS (j + 15) (kC_at hj) (hkd j hj) kw_140 (hF.2.2.2.2.2.2.1 _ h6 (hkd j hj)) dX8_told_115 ?_
        refine lv_if_eq (tgt := 125) hx hb dX8_told_118 (by decide) (fun c_2 => ?_) (fun c_2 => absurd (rfl) c_2)
        refine lv_iconst (v := 0) hx hb dX8_told_125 (by decide) ?_
        exact m_iret hx hb hr hlk hS (⟨by rw [toldV, if_neg h5], rfl⟩) (Nat.le_refl 0) (Nat.le_refl 0) dX8_told_126
  | 7, _ =>
    refine lv_tableIn (off := 113) (tgt := 127) hx hb dX8_told_14 (by decide) (by decide) (by decide) (by decide) ?_
    refine lv_aload_n hx hb dX8_told_127 rfl (lv_at hl 0 rfl) ?_
    by_cases h5 : 5 ≤ kd (g j)
    · refine m_instY hx hb hG hown hF hS (j + 15) (kC_at hj) (hkd j hj) kw_185 (hF.2.2.2.2.1 _ h5 (hkd j hj)) dX8_told_128 ?_
      refine lv_if_eq (tgt := 138) hx hb dX8_told_131 (by decide) (fun c_2 => absurd c_2 (by decide)) (fun c_2 => ?_)
      refine lv_iconst (v := 1) hx hb dX8_told_134 (by decide) ?_
      refine lv_goto (tgt := 139) hx hb dX8_told_135 (by decide) ?_
      exact m_iret hx hb hr hlk hS (⟨by show (1 : Int32) = if 5 ≤ kd (g j) then 1 else 0; rw [if_pos h5], rfl⟩) (Nat.le_refl 0) (Nat.le_refl 0) dX8_told_139
    · refine m_instN hx hb hG hown hF hS (j + 15) (kC_at hj) (hkd j hj) kw_185 (hF.2.2.2.2.2.2.2 _ (Nat.lt_of_not_le h5)) dX8_told_128 ?_
      refine lv_if_eq (tgt := 138) hx hb dX8_told_131 (by decide) (fun c_2 => ?_) (fun c_2 => absurd (rfl) c_2)
      refine lv_iconst (v := 0) hx hb dX8_told_138 (by decide) ?_
      exact m_iret hx hb hr hlk hS (⟨by show (0 : Int32) = if 5 ≤ kd (g j) then 1 else 0; rw [if_neg h5], rfl⟩) (Nat.le_refl 0) (Nat.le_refl 0) dX8_told_139
set_option maxHeartbeats 4000000 in
set_option maxRecDepth 100000 in
theorem c_told_bad (l : Launch) (X : Cx) (q : Nat → Nat × va_E) (A : Nat → Nat) (n : Nat) (ad : Nat → Nat) (g : Nat → Rc) (wm dy tl : Int32) (hs : Nat → Int32) (t : Tr) (j f : Nat) (hn : n ≤ 40) (hkd : ∀ i, i < n → kd (g i) < 7) (hj : j < n) (k : Int32) (hf : 1 ≤ f) (h0 : k.toInt < 0 ∨ 7 < k.toInt) : cI l yX8_told cX8_told 4 (some .int) (rl f) X [.ref (A 0), .int (nI j), .int k] (wT X (kC q A n ad g wm dy tl hs) false t) (fun r w' => r = -2 ∧ w' = wT X (kC q A n ad g wm dy tl hs) false t) := by
  refine met_start (by decide) (Nat.le_of_ble_eq_true rfl) ?_
  intro p e s m below meth c ls fx hS hl
  obtain ⟨hx, hb, hr, hml, hown, hG, hlk, hF, hz, hnm⟩ := fx
  have hown : s.vm.findClass RX8 = some m.cls := hown
  have hl : lv_has ls 4 [(0, .ref (A 0)), (1, .int (nI j)), (2, .int k)] := hl
  refine lv_aload_n hx hb dX8_told_0 rfl (lv_at hl 0 rfl) ?_
  refine lv_iload_n hx hb dX8_told_1 rfl (lv_at hl 1 rfl) ?_
  refine m_cq (m_runV (n := 1) (rest := []) ⟨hx, hb, hml, hown, hG⟩ (c_find l X q A n ad g wm dy tl hs t j 0 hn hj) kw_230 kw_232 kw_1 kw_18 kw_233 (by decide +kernel) (rl_ok (by omega) (by decide)) hF hz hS (q0 := 10) rfl rfl rfl hl.1 rfl (Nat.le_of_ble_eq_true rfl) dX8_told_2 ⟨Nat.le_refl 0, Nat.le_refl 0⟩) hS (fun o_1 w1 H locs hw1 hS => ?_)
  obtain ⟨rfl, rfl⟩ := hw1
  refine lv_astore_n (lv' := [(3, .ref (ad j)), (0, .ref (A 0)), (1, .int (nI j)), (2, .int k)]) hx hb dX8_told_5 rfl hl (by decide) rfl (fun ls hl => ?_)
  refine lv_aload_n hx hb dX8_told_6 rfl (lv_at hl 0 rfl) ?_
  refine lv_ifnonnull (tgt := 13) hx hb dX8_told_7 (by decide) ?_
  refine lv_iload_n hx hb dX8_told_13 rfl (lv_at hl 3 rfl) ?_
  refine lv_tableOut (tgt := 140) hx hb dX8_told_14 h0 (by decide) ?_
  refine lv_bipush (v := -2) hx hb dX8_told_140 (by decide) ?_
  exact m_iret hx hb hr hlk hS (⟨rfl, rfl⟩) (Nat.le_refl 0) (Nat.le_refl 0) dX8_told_142
def countV (n : Nat) (g : Nat → Rc) (dy tl : Int32) (k : Nat) : Int32 := match k with
  | 0 => nI n
  | 6 => dy
  | 7 => tl
  | k => cnt g (nI k - 1) n
set_option maxHeartbeats 4000000 in
set_option maxRecDepth 100000 in
theorem c_count (l : Launch) (X : Cx) (q : Nat → Nat × va_E) (A : Nat → Nat) (n : Nat) (ad : Nat → Nat) (g : Nat → Rc) (wm dy tl : Int32) (hs : Nat → Int32) (t : Tr) (k f : Nat) (hk : k < 8) (hf : 1 ≤ f) (hn : n ≤ 40) (hkd : ∀ i, i < n → kd (g i) < 7) : cI l yX8_count cX8_count 2 (some .int) (rl f) X [.ref (A 0), .int (nI k)] (wT X (kC q A n ad g wm dy tl hs) false t) (fun r w => r = countV n g dy tl k ∧ w = wT X (kC q A n ad g wm dy tl hs) false t) := by
  refine met_start (by decide) (Nat.le_of_ble_eq_true rfl) ?_
  intro p e s m below meth c ls fx hS hl
  obtain ⟨hx, hb, hr, hml, hown, hG, hlk, hF, hz, hnm⟩ := fx
  have hown : s.vm.findClass RX8 = some m.cls := hown
  have hl : lv_has ls 2 [(0, .ref (A 0)), (1, .int (nI k))] := hl
  refine lv_iload_n hx hb dX8_count_0 rfl (lv_at hl 1 rfl) ?_
  match k, hk with
  | 0, _ =>
    refine lv_tableIn (off := 47) (tgt := 48) hx hb dX8_count_1 (by decide) (by decide) (by decide) (by decide) ?_
    refine lv_aload_n hx hb dX8_count_48 rfl (lv_at hl 0 rfl) ?_
    refine m_get (v := .int (nI n)) hx hb hG hown hF hS (10) rfl rfl iG_8 3 (by decide) kw_59 (fun _ h9 => h9) rfl dX8_count_49 ?_
    exact m_iret hx hb hr hlk hS (⟨rfl, rfl⟩) (Nat.le_refl 0) (Nat.le_refl 0) dX8_count_52
  | 1, _ =>
    refine lv_tableIn (off := 52) (tgt := 53) hx hb dX8_count_1 (by decide) (by decide) (by decide) (by decide) ?_
    refine lv_aload_n hx hb dX8_count_53 rfl (lv_at hl 0 rfl) ?_
    refine lv_iload_n hx hb dX8_count_54 rfl (lv_at hl 1 rfl) ?_
    refine lv_iconst (v := 1) hx hb dX8_count_55 (by decide) ?_
    refine lv_isub hx hb dX8_count_56 ?_
    refine m_ci (m_runV (n := 1) (rest := []) ⟨hx, hb, hml, hown, hG⟩ (c_howMany l X q A n ad g wm dy tl hs t (nI 1 - 1) 0 hn hkd) kw_401 kw_403 kw_3 kw_18 kw_404 (by decide +kernel) (rl_ok (by omega) (by decide)) hF hz hS (q0 := 10) rfl rfl rfl hl.1 rfl (Nat.le_of_ble_eq_true rfl) dX8_count_57 ⟨Nat.le_refl 0, Nat.le_refl 0⟩) hS (fun r_1 w1 H locs hw1 hS => ?_)
    obtain ⟨rfl, rfl⟩ := hw1
    exact m_iret hx hb hr hlk hS (⟨rfl, rfl⟩) (Nat.le_refl 0) (Nat.le_refl 0) dX8_count_60
  | 2, _ =>
    refine lv_tableIn (off := 52) (tgt := 53) hx hb dX8_count_1 (by decide) (by decide) (by decide) (by decide) ?_
    refine lv_aload_n hx hb dX8_count_53 rfl (lv_at hl 0 rfl) ?_
    refine lv_iload_n hx hb dX8_count_54 rfl (lv_at hl 1 rfl) ?_
    refine lv_iconst (v := 1) hx hb dX8_count_55 (by decide) ?_
    refine lv_isub hx hb dX8_count_56 ?_
    refine m_ci (m_runV (n := 1) (rest := []) ⟨hx, hb, hml, hown, hG⟩ (c_howMany l X q A n ad g wm dy tl hs t (nI 2 - 1) 0 hn hkd) kw_401 kw_403 kw_3 kw_18 kw_404 (by decide +kernel) (rl_ok (by omega) (by decide)) hF hz hS (q0 := 10) rfl rfl rfl hl.1 rfl (Nat.le_of_ble_eq_true rfl) dX8_count_57 ⟨Nat.le_refl 0, Nat.le_refl 0⟩) hS (fun r_1 w1 H locs hw1 hS => ?_)
    obtain ⟨rfl, rfl⟩ := hw1
    exact m_iret hx hb hr hlk hS (⟨rfl, rfl⟩) (Nat.le_refl 0) (Nat.le_refl 0) dX8_count_60
  | 3, _ =>
    refine lv_tableIn (off := 52) (tgt := 53) hx hb dX8_count_1 (by decide) (by decide) (by decide) (by decide) ?_
    refine lv_aload_n hx hb dX8_count_53 rfl (lv_at hl 0 rfl) ?_
    refine lv_iload_n hx hb dX8_count_54 rfl (lv_at hl 1 rfl) ?_
    refine lv_iconst (v := 1) hx hb dX8_count_55 (by decide) ?_
    refine lv_isub hx hb dX8_count_56 ?_
    refine m_ci (m_runV (n := 1) (rest := []) ⟨hx, hb, hml, hown, hG⟩ (c_howMany l X q A n ad g wm dy tl hs t (nI 3 - 1) 0 hn hkd) kw_401 kw_403 kw_3 kw_18 kw_404 (by decide +kernel) (rl_ok (by omega) (by decide)) hF hz hS (q0 := 10) rfl rfl rfl hl.1 rfl (Nat.le_of_ble_eq_true rfl) dX8_count_57 ⟨Nat.le_refl 0, Nat.le_refl 0⟩) hS (fun r_1 w1 H locs hw1 hS => ?_)
    obtain ⟨rfl, rfl⟩ := hw1
    exact m_iret hx hb hr hlk hS (⟨rfl, rfl⟩) (Nat.le_refl 0) (Nat.le_refl 0) dX8_count_60
  | 4, _ =>
    refine lv_tableIn (off := 52) (tgt := 53) hx hb dX8_count_1 (by decide) (by decide) (by decide) (by decide) ?_
    refine lv_aload_n hx hb dX8_count_53 rfl (lv_at hl 0 rfl) ?_
    refine lv_iload_n hx hb dX8_count_54 rfl (lv_at hl 1 rfl) ?_
    refine lv_iconst (v := 1) hx hb dX8_count_55 (by decide) ?_
    refine lv_isub hx hb dX8_count_56 ?_
    refine m_ci (m_runV (n := 1) (rest := []) ⟨hx, hb, hml, hown, hG⟩ (c_howMany l X q A n ad g wm dy tl hs t (nI 4 - 1) 0 hn hkd) kw_401 kw_403 kw_3 kw_18 kw_404 (by decide +kernel) (rl_ok (by omega) (by decide)) hF hz hS (q0 := 10) rfl rfl rfl hl.1 rfl (Nat.le_of_ble_eq_true rfl) dX8_count_57 ⟨Nat.le_refl 0, Nat.le_refl 0⟩) hS (fun r_1 w1 H locs hw1 hS => ?_)
    obtain ⟨rfl, rfl⟩ := hw1
    exact m_iret hx hb hr hlk hS (⟨rfl, rfl⟩) (Nat.le_refl 0) (Nat.le_refl 0) dX8_count_60
  | 5, _ =>
    refine lv_tableIn (off := 52) (tgt := 53) hx hb dX8_count_1 (by decide) (by decide) (by decide) (by decide) ?_
    refine lv_aload_n hx hb dX8_count_53 rfl (lv_at hl 0 rfl) ?_
    refine lv_iload_n hx hb dX8_count_54 rfl (lv_at hl 1 rfl) ?_
    refine lv_iconst (v := 1) hx hb dX8_count_55 (by decide) ?_
    refine lv_isub hx hb dX8_count_56 ?_
    refine m_ci (m_runV (n := 1) (rest := []) ⟨hx, hb, hml, hown, hG⟩ (c_howMany l X q A n ad g wm dy tl hs t (nI 5 - 1) 0 hn hkd) kw_401 kw_403 kw_3 kw_18 kw_404 (by decide +kernel) (rl_ok (by omega) (by decide)) hF hz hS (q0 := 10) rfl rfl rfl hl.1 rfl (Nat.le_of_ble_eq_true rfl) dX8_count_57 ⟨Nat.le_refl 0, Nat.le_refl 0⟩) hS (fun r_1 w1 H locs hw1 hS => ?_)
    obtain ⟨rfl, rfl⟩ := hw1
    exact m_iret hx hb hr hlk hS (⟨rfl, rfl⟩) (Nat.le_refl 0) (Nat.le_refl 0) dX8_count_60
  | 6, _ =>
    refine lv_tableIn (off := 60) (tgt := 61) hx hb dX8_count_1 (by decide) (by decide) (by decide) (by decide) ?_
    refine lv_aload_n hx hb dX8_count_61 rfl (lv_at hl 0 rfl) ?_
    refine m_get (v := .int dy) hx hb hG hown hF hS (10) rfl rfl iG_8 5 (by decide) kw_61 (fun _ h9 => h9) rfl dX8_count_62 ?_
    exact m_iret hx hb hr hlk hS (⟨rfl, rfl⟩) (Nat.le_refl 0) (Nat.le_refl 0) dX8_count_65
  | 7, _ =>
    refine lv_tableIn (off := 65) (tgt := 66) hx hb dX8_count_1 (by decide) (by decide) (by decide) (by decide) ?_
    refine lv_aload_n hx hb dX8_count_66 rfl (lv_at hl 0 rfl) ?_
    refine m_get (v := .int tl) hx hb hG hown hF hS (10) rfl rfl iG_8 6 (by decide) kw_62 (fun _ h9 => h9) rfl dX8_count_67 ?_
    exact m_iret hx hb hr hlk hS (⟨rfl, rfl⟩) (Nat.le_refl 0) (Nat.le_refl 0) dX8_count_70
set_option maxHeartbeats 4000000 in
set_option maxRecDepth 100000 in
theorem c_count_bad (l : Launch) (X : Cx) (q : Nat → Nat × va_E) (A : Nat → Nat) (n : Nat) (ad : Nat → Nat) (g : Nat → Rc) (wm dy tl : Int32) (hs : Nat → Int32) (t : Tr) (k : Int32) (f : Nat) (h0 : k.toInt < 0 ∨ 7 < k.toInt) : cI l yX8_count cX8_count 2 (some .int) (rl f) X [.ref (A 0), .int k] (wT X (kC q A n ad g wm dy tl hs) false t) (fun r w => r = -2 ∧ w = wT X (kC q A n ad g wm dy tl hs) false t) := by
  refine met_start (by decide) (Nat.le_of_ble_eq_true rfl) ?_
  intro p e s m below meth c ls fx hS hl
  obtain ⟨hx, hb, hr, hml, hown, hG, hlk, hF, hz, hnm⟩ := fx
  have hown : s.vm.findClass RX8 = some m.cls := hown
  have hl : lv_has ls 2 [(0, .ref (A 0)), (1, .int k)] := hl
  refine lv_iload_n hx hb dX8_count_0 rfl (lv_at hl 1 rfl) ?_
  refine lv_tableOut (tgt := 71) hx hb dX8_count_1 h0 (by decide) ?_
  refine lv_bipush (v := -2) hx hb dX8_count_71 (by decide) ?_
  exact m_iret hx hb hr hlk hS (⟨rfl, rfl⟩) (Nat.le_refl 0) (Nat.le_refl 0) dX8_count_73
end
section
set_option maxHeartbeats 4000000 in
set_option maxRecDepth 100000 in
theorem c_bake_bad (l : Launch) (X : Cx) (q : Nat → Nat × va_E) (A : Nat → Nat) (n : Nat) (ad : Nat → Nat) (g : Nat → Rc) (wm dy tl : Int32) (hs : Nat → Int32) (t : Tr) (j f : Nat) (hn : n ≤ 40) (hkd : ∀ i, i < n → kd (g i) < 7) (hj : j < n) (o : Int32) (hf : 5 ≤ f) (h0 : ovB o = 0) : cI l yX8_bake cX8_bake 5 (some .int) (rl f) X [.ref (A 0), .int (nI j), .int o] (wT X (kC q A n ad g wm dy tl hs) false t) (fun r w' => r = -2 ∧ w' = wT X (kC q A n ad g wm dy tl hs) false t) := by
  refine met_start (by decide) (Nat.le_of_ble_eq_true rfl) ?_
  intro p e s m below meth c ls fx hS hl
  obtain ⟨hx, hb, hr, hml, hown, hG, hlk, hF, hz, hnm⟩ := fx
  have hown : s.vm.findClass RX8 = some m.cls := hown
  have hl : lv_has ls 5 [(0, .ref (A 0)), (1, .int (nI j)), (2, .int o)] := hl
  refine lv_aload_n hx hb dX8_bake_0 rfl (lv_at hl 0 rfl) ?_
  refine lv_iload_n hx hb dX8_bake_1 rfl (lv_at hl 1 rfl) ?_
  refine m_cq (m_runV (n := 1) (rest := []) ⟨hx, hb, hml, hown, hG⟩ (c_find l X q A n ad g wm dy tl hs t j 0 hn hj) kw_230 kw_232 kw_1 kw_18 kw_233 (by decide +kernel) (rl_ok (by omega) (by decide)) hF hz hS (q0 := 10) rfl rfl rfl hl.1 rfl (Nat.le_of_ble_eq_true rfl) dX8_bake_2 ⟨Nat.le_refl 0, Nat.le_refl 0⟩) hS (fun o_1 w1 H locs hw1 hS => ?_)
  obtain ⟨rfl, rfl⟩ := hw1
  refine lv_astore_n (lv' := [(3, .ref (ad j)), (0, .ref (A 0)), (1, .int (nI j)), (2, .int o)]) hx hb dX8_bake_5 rfl hl (by decide) rfl (fun ls hl => ?_)
  refine lv_aload_n hx hb dX8_bake_6 rfl (lv_at hl 0 rfl) ?_
  refine lv_ifnull hx hb dX8_bake_7 ?_
  refine lv_aload_n hx hb dX8_bake_10 rfl (lv_at hl 1 rfl) ?_
  refine lv_iload_n hx hb dX8_bake_11 rfl (lv_at hl 3 rfl) ?_
  refine m_ci (m_runV (n := 1) (rest := []) ⟨hx, hb, hml, hown, hG⟩ (c_isOven l X q A n ad g wm dy tl hs t o 0) kw_393 kw_395 kw_2 kw_18 kw_396 (by decide +kernel) (rl_ok (by omega) (by decide)) hF hz hS (q0 := 10) rfl rfl rfl hl.1 rfl (Nat.le_of_ble_eq_true rfl) dX8_bake_12 ⟨Nat.le_refl 0, Nat.le_refl 0⟩) hS (fun r_2 w2 H locs hw2 hS => ?_)
  obtain ⟨rfl, rfl⟩ := hw2
  refine lv_if_ne (tgt := 21) hx hb dX8_bake_15 (by decide) (fun c_3 => absurd (h0) c_3) (fun c_3 => ?_)
  refine lv_bipush (v := -2) hx hb dX8_bake_18 (by decide) ?_
  exact m_iret hx hb hr hlk hS (⟨rfl, rfl⟩) (Nat.le_refl 0) (Nat.le_refl 0) dX8_bake_20
set_option maxHeartbeats 4000000 in
set_option maxRecDepth 100000 in
theorem c_bake_no (l : Launch) (X : Cx) (q : Nat → Nat × va_E) (A : Nat → Nat) (n : Nat) (ad : Nat → Nat) (g : Nat → Rc) (wm dy tl : Int32) (hs : Nat → Int32) (t : Tr) (j f : Nat) (hn : n ≤ 40) (hkd : ∀ i, i < n → kd (g i) < 7) (hj : j < n) (o : Nat) (ho : o < 3) (hf : 5 ≤ f) (h0 : ¬ g j 3 = 0 ∨ ¬ needV (kd (g j)) (g j 1) ≤ g j 4) : cI l yX8_bake cX8_bake 5 (some .int) (rl f) X [.ref (A 0), .int (nI j), .int (nI o)] (wT X (kC q A n ad g wm dy tl hs) false t) (fun r w' => r = -3 ∧ w' = wT X (kC q A n ad g wm dy tl hs) false t) := by
  refine met_start (by decide) (Nat.le_of_ble_eq_true rfl) ?_
  intro p e s m below meth c ls fx hS hl
  obtain ⟨hx, hb, hr, hml, hown, hG, hlk, hF, hz, hnm⟩ := fx
  have hown : s.vm.findClass RX8 = some m.cls := hown
  have hl : lv_has ls 5 [(0, .ref (A 0)), (1, .int (nI j)), (2, .int (nI o))] := hl
  refine lv_aload_n hx hb dX8_bake_0 rfl (lv_at hl 0 rfl) ?_
  refine lv_iload_n hx hb dX8_bake_1 rfl (lv_at hl 1 rfl) ?_
  refine m_cq (m_runV (n := 1) (rest := []) ⟨hx, hb, hml, hown, hG⟩ (c_find l X q A n ad g wm dy tl hs t j 0 hn hj) kw_230 kw_232 kw_1 kw_18 kw_233 (by decide +kernel) (rl_ok (by omega) (by decide)) hF hz hS (q0 := 10) rfl rfl rfl hl.1 rfl (Nat.le_of_ble_eq_true rfl) dX8_bake_2 ⟨Nat.le_refl 0, Nat.le_refl 0⟩) hS (fun o_1 w1 H locs hw1 hS => ?_)
  obtain ⟨rfl, rfl⟩ := hw1
  refine lv_astore_n (lv' := [(3, .ref (ad j)), (0, .ref (A 0)), (1, .int (nI j)), (2, .int (nI o))]) hx hb dX8_bake_5 rfl hl (by decide) rfl (fun ls hl => ?_)
  refine lv_aload_n hx hb dX8_bake_6 rfl (lv_at hl 0 rfl) ?_
  refine lv_ifnull hx hb dX8_bake_7 ?_
  refine lv_aload_n hx hb dX8_bake_10 rfl (lv_at hl 1 rfl) ?_
  refine lv_iload_n hx hb dX8_bake_11 rfl (lv_at hl 3 rfl) ?_
  refine m_ci (m_runV (n := 1) (rest := []) ⟨hx, hb, hml, hown, hG⟩ (c_isOven l X q A n ad g wm dy tl hs t (nI o) 0) kw_393 kw_395 kw_2 kw_18 kw_396 (by decide +kernel) (rl_ok (by omega) (by decide)) hF hz hS (q0 := 10) rfl rfl rfl hl.1 rfl (Nat.le_of_ble_eq_true rfl) dX8_bake_12 ⟨Nat.le_refl 0, Nat.le_refl 0⟩) hS (fun r_2 w2 H locs hw2 hS => ?_)
  obtain ⟨rfl, rfl⟩ := hw2
  refine lv_if_ne (tgt := 21) hx hb dX8_bake_15 (by decide) (fun c_3 => ?_) (fun c_3 => absurd c_3 (by rw [ovB_yes ho]; decide))
  refine lv_aload_n hx hb dX8_bake_21 rfl (lv_at hl 0 rfl) ?_
  refine m_get (v := .int (g j 3)) hx hb hG hown hF hS (j + 15) (kC_at hj) (kd_cls (hkd j hj)).1 (kd_cls (hkd j hj)).2 3 (by decide) kw_116 (fun _ h9 => h9) rfl dX8_bake_22 ?_
  refine lv_if_ne (tgt := 39) hx hb dX8_bake_25 (by decide) (fun c_4 => ?_) (fun c_4 => ?_)
  · refine lv_bipush (v := -3) hx hb dX8_bake_39 (by decide) ?_
    exact m_iret hx hb hr hlk hS (⟨rfl, rfl⟩) (Nat.le_refl 0) (Nat.le_refl 0) dX8_bake_41
  · refine lv_aload_n hx hb dX8_bake_28 rfl (lv_at hl 0 rfl) ?_
    refine m_get (v := .int (g j 4)) hx hb hG hown hF hS (j + 15) (kC_at hj) (kd_cls (hkd j hj)).1 (kd_cls (hkd j hj)).2 4 (by decide) kw_118 (fun _ h9 => h9) rfl dX8_bake_29 ?_
    refine lv_aload_n hx hb dX8_bake_32 rfl (lv_at hl 0 rfl) ?_
    refine m_ci (m_runU (x := yX2_need) (owner := "DoughRoom$Dough") (n := 0) (rest := [.int (g j 4)]) ⟨hx, hb, hml, hown, hG⟩ (f_need l X (kC q A n ad g wm dy tl hs) false t (ad j) j (g j) (kd (g j)) 4 (kC_hi hj) rfl (Nat.zero_le _) (hkd j hj) (by decide) tR.f) kw_273 kw_276 kw_274 kw_296 (fam_need (kd (g j)) (Nat.zero_le _) (hkd j hj)).2.1 (fam_need (kd (g j)) (Nat.zero_le _) (hkd j hj)).1 (fam_need (kd (g j)) (Nat.zero_le _) (hkd j hj)).2.2.1 (fam_need (kd (g j)) (Nat.zero_le _) (hkd j hj)).2.2.2.1 (by decide +kernel) (rl_ok (by omega) (fam_need (kd (g j)) (Nat.zero_le _) (hkd j hj)).2.2.2.2) hF hz hS (q0 := j + 15) (kC_at hj) (kd_cls (hkd j hj)).1 rfl hl.1 rfl (Nat.le_of_ble_eq_true rfl) dX8_bake_33 ⟨Nat.le_refl 0, Nat.le_refl 0⟩) hS (fun r_5 w3 H locs hw3 hS => ?_)
    obtain ⟨rfl, rfl⟩ := hw3
    refine lv_icmp_ge (tgt := 42) hx hb dX8_bake_36 (by decide) (fun c_6 => absurd c_6 (h0.resolve_left (fun q => q c_4))) (fun c_6 => ?_)
    refine lv_bipush (v := -3) hx hb dX8_bake_39 (by decide) ?_
    exact m_iret hx hb hr hlk hS (⟨rfl, rfl⟩) (Nat.le_refl 0) (Nat.le_refl 0) dX8_bake_41
set_option maxHeartbeats 4000000 in
set_option maxRecDepth 100000 in
theorem c_bake_full (l : Launch) (X : Cx) (q : Nat → Nat × va_E) (A : Nat → Nat) (n : Nat) (ad : Nat → Nat) (g : Nat → Rc) (wm dy tl : Int32) (hs : Nat → Int32) (t : Tr) (j f : Nat) (hn : n ≤ 40) (hkd : ∀ i, i < n → kd (g i) < 7) (hj : j < n) (o : Nat) (ho : o < 3) (hf : 5 ≤ f) (h0 : g j 3 = 0) (h1 : needV (kd (g j)) (g j 1) ≤ g j 4) (h2 : ¬ masm g (nI o) n + g j 1 ≤ 800) : cI l yX8_bake cX8_bake 5 (some .int) (rl f) X [.ref (A 0), .int (nI j), .int (nI o)] (wT X (kC q A n ad g wm dy tl hs) false t) (fun r w' => r = -4 ∧ w' = wT X (kC q A n ad g wm dy tl hs) false t) := by
  refine met_start (by decide) (Nat.le_of_ble_eq_true rfl) ?_
  intro p e s m below meth c ls fx hS hl
  obtain ⟨hx, hb, hr, hml, hown, hG, hlk, hF, hz, hnm⟩ := fx
  have hown : s.vm.findClass RX8 = some m.cls := hown
  have hl : lv_has ls 5 [(0, .ref (A 0)), (1, .int (nI j)), (2, .int (nI o))] := hl
  refine lv_aload_n hx hb dX8_bake_0 rfl (lv_at hl 0 rfl) ?_
  refine lv_iload_n hx hb dX8_bake_1 rfl (lv_at hl 1 rfl) ?_
  refine m_cq (m_runV (n := 1) (rest := []) ⟨hx, hb, hml, hown, hG⟩ (c_find l X q A n ad g wm dy tl hs t j 0 hn hj) kw_230 kw_232 kw_1 kw_18 kw_233 (by decide +kernel) (rl_ok (by omega) (by decide)) hF hz hS (q0 := 10) rfl rfl rfl hl.1 rfl (Nat.le_of_ble_eq_true rfl) dX8_bake_2 ⟨Nat.le_refl 0, Nat.le_refl 0⟩) hS (fun o_1 w1 H locs hw1 hS => ?_)
  obtain ⟨rfl, rfl⟩ := hw1
  refine lv_astore_n (lv' := [(3, .ref (ad j)), (0, .ref (A 0)), (1, .int (nI j)), (2, .int (nI o))]) hx hb dX8_bake_5 rfl hl (by decide) rfl (fun ls hl => ?_)
  refine lv_aload_n hx hb dX8_bake_6 rfl (lv_at hl 0 rfl) ?_
  refine lv_ifnull hx hb dX8_bake_7 ?_
  refine lv_aload_n hx hb dX8_bake_10 rfl (lv_at hl 1 rfl) ?_
  refine lv_iload_n hx hb dX8_bake_11 rfl (lv_at hl 3 rfl) ?_
  refine m_ci (m_runV (n := 1) (rest := []) ⟨hx, hb, hml, hown, hG⟩ (c_isOven l X q A n ad g wm dy tl hs t (nI o) 0) kw_393 kw_395 kw_2 kw_18 kw_396 (by decide +kernel) (rl_ok (by omega) (by decide)) hF hz hS (q0 := 10) rfl rfl rfl hl.1 rfl (Nat.le_of_ble_eq_true rfl) dX8_bake_12 ⟨Nat.le_refl 0, Nat.le_refl 0⟩) hS (fun r_2 w2 H locs hw2 hS => ?_)
  obtain ⟨rfl, rfl⟩ := hw2
  refine lv_if_ne (tgt := 21) hx hb dX8_bake_15 (by decide) (fun c_3 => ?_) (fun c_3 => absurd c_3 (by rw [ovB_yes ho]; decide))
  refine lv_aload_n hx hb dX8_bake_21 rfl (lv_at hl 0 rfl) ?_
  refine m_get (v := .int (g j 3)) hx hb hG hown hF hS (j + 15) (kC_at hj) (kd_cls (hkd j hj)).1 (kd_cls (hkd j hj)).2 3 (by decide) kw_116 (fun _ h9 => h9) rfl dX8_bake_22 ?_
  refine lv_if_ne (tgt := 39) hx hb dX8_bake_25 (by decide) (fun c_4 => absurd (h0) c_4) (fun c_4 => ?_)
  refine lv_aload_n hx hb dX8_bake_28 rfl (lv_at hl 0 rfl) ?_
  refine m_get (v := .int (g j 4)) hx hb hG hown hF hS (j + 15) (kC_at hj) (kd_cls (hkd j hj)).1 (kd_cls (hkd j hj)).2 4 (by decide) kw_118 (fun _ h9 => h9) rfl dX8_bake_29 ?_
  refine lv_aload_n hx hb dX8_bake_32 rfl (lv_at hl 0 rfl) ?_
  refine m_ci (m_runU (x := yX2_need) (owner := "DoughRoom$Dough") (n := 0) (rest := [.int (g j 4)]) ⟨hx, hb, hml, hown, hG⟩ (f_need l X (kC q A n ad g wm dy tl hs) false t (ad j) j (g j) (kd (g j)) 4 (kC_hi hj) rfl (Nat.zero_le _) (hkd j hj) (by decide) tR.f) kw_273 kw_276 kw_274 kw_296 (fam_need (kd (g j)) (Nat.zero_le _) (hkd j hj)).2.1 (fam_need (kd (g j)) (Nat.zero_le _) (hkd j hj)).1 (fam_need (kd (g j)) (Nat.zero_le _) (hkd j hj)).2.2.1 (fam_need (kd (g j)) (Nat.zero_le _) (hkd j hj)).2.2.2.1 (by decide +kernel) (rl_ok (by omega) (fam_need (kd (g j)) (Nat.zero_le _) (hkd j hj)).2.2.2.2) hF hz hS (q0 := j + 15) (kC_at hj) (kd_cls (hkd j hj)).1 rfl hl.1 rfl (Nat.le_of_ble_eq_true rfl) dX8_bake_33 ⟨Nat.le_refl 0, Nat.le_refl 0⟩) hS (fun r_5 w3 H locs hw3 hS => ?_)
  obtain ⟨rfl, rfl⟩ := hw3
  refine lv_icmp_ge (tgt := 42) hx hb dX8_bake_36 (by decide) (fun c_6 => ?_) (fun c_6 => absurd (h1) c_6)
  refine lv_aload_n hx hb dX8_bake_42 rfl (lv_at hl 1 rfl) ?_
  refine lv_iload_n hx hb dX8_bake_43 rfl (lv_at hl 3 rfl) ?_
  refine m_ci (m_runV (n := 1) (rest := []) ⟨hx, hb, hml, hown, hG⟩ (c_massIn l X q A n ad g wm dy tl hs t (nI o) 0 hn hkd) kw_438 kw_440 kw_5 kw_18 kw_441 (by decide +kernel) (rl_ok (by omega) (by decide)) hF hz hS (q0 := 10) rfl rfl rfl hl.1 rfl (Nat.le_of_ble_eq_true rfl) dX8_bake_44 ⟨Nat.le_refl 0, Nat.le_refl 0⟩) hS (fun r_7 w4 H locs hw4 hS => ?_)
  obtain ⟨rfl, rfl⟩ := hw4
  refine lv_aload_n hx hb dX8_bake_47 rfl (lv_at hl 0 rfl) ?_
  refine m_get (v := .int (g j 1)) hx hb hG hown hF hS (j + 15) (kC_at hj) (kd_cls (hkd j hj)).1 (kd_cls (hkd j hj)).2 1 (by decide) kw_101 (fun _ h9 => h9) rfl dX8_bake_48 ?_
  refine lv_iadd hx hb dX8_bake_51 ?_
  refine lv_istore (lv' := [(4, .int ((masm g (nI o) n) + (g j 1))), (3, .ref (ad j)), (0, .ref (A 0)), (1, .int (nI j)), (2, .int (nI o))]) hx hb dX8_bake_52 hl (by decide) rfl (fun ls hl => ?_)
  refine lv_iload hx hb dX8_bake_54 (lv_at hl 0 rfl) ?_
  refine lv_sipush (v := 800) hx hb dX8_bake_56 (by decide) ?_
  refine lv_icmp_le (tgt := 65) hx hb dX8_bake_59 (by decide) (fun c_8 => absurd c_8 (h2)) (fun c_8 => ?_)
  refine lv_bipush (v := -4) hx hb dX8_bake_62 (by decide) ?_
  exact m_iret hx hb hr hlk hS (⟨rfl, rfl⟩) (Nat.le_refl 0) (Nat.le_refl 0) dX8_bake_64
set_option maxHeartbeats 4000000 in
set_option maxRecDepth 100000 in
theorem c_bake (l : Launch) (X : Cx) (q : Nat → Nat × va_E) (A : Nat → Nat) (n : Nat) (ad : Nat → Nat) (g : Nat → Rc) (wm dy tl : Int32) (hs : Nat → Int32) (t : Tr) (j f : Nat) (hn : n ≤ 40) (hkd : ∀ i, i < n → kd (g i) < 7) (hj : j < n) (o : Nat) (ho : o < 3) (hf : 5 ≤ f) (h0 : g j 3 = 0) (h1 : needV (kd (g j)) (g j 1) ≤ g j 4) (h2 : masm g (nI o) n + g j 1 ≤ 800) : cI l yX8_bake cX8_bake 5 (some .int) (rl f) X [.ref (A 0), .int (nI j), .int (nI o)] (wT X (kC q A n ad g wm dy tl hs) false t) (fun r w' => r = masm g (nI o) n + g j 1 ∧ w' = wT X (kC q A n ad (va_up g j (va_up (va_up (g j) 3 1) 6 (nI o))) wm dy tl hs) false t) := by
  refine met_start (by decide) (Nat.le_of_ble_eq_true rfl) ?_
  intro p e s m below meth c ls fx hS hl
  obtain ⟨hx, hb, hr, hml, hown, hG, hlk, hF, hz, hnm⟩ := fx
  have hown : s.vm.findClass RX8 = some m.cls := hown
  have hl : lv_has ls 5 [(0, .ref (A 0)), (1, .int (nI j)), (2, .int (nI o))] := hl
  refine lv_aload_n hx hb dX8_bake_0 rfl (lv_at hl 0 rfl) ?_
  refine lv_iload_n hx hb dX8_bake_1 rfl (lv_at hl 1 rfl) ?_
  refine m_cq (m_runV (n := 1) (rest := []) ⟨hx, hb, hml, hown, hG⟩ (c_find l X q A n ad g wm dy tl hs t j 0 hn hj) kw_230 kw_232 kw_1 kw_18 kw_233 (by decide +kernel) (rl_ok (by omega) (by decide)) hF hz hS (q0 := 10) rfl rfl rfl hl.1 rfl (Nat.le_of_ble_eq_true rfl) dX8_bake_2 ⟨Nat.le_refl 0, Nat.le_refl 0⟩) hS (fun o_1 w1 H locs hw1 hS => ?_)
  obtain ⟨rfl, rfl⟩ := hw1
  refine lv_astore_n (lv' := [(3, .ref (ad j)), (0, .ref (A 0)), (1, .int (nI j)), (2, .int (nI o))]) hx hb dX8_bake_5 rfl hl (by decide) rfl (fun ls hl => ?_)
  refine lv_aload_n hx hb dX8_bake_6 rfl (lv_at hl 0 rfl) ?_
  refine lv_ifnull hx hb dX8_bake_7 ?_
  refine lv_aload_n hx hb dX8_bake_10 rfl (lv_at hl 1 rfl) ?_
  refine lv_iload_n hx hb dX8_bake_11 rfl (lv_at hl 3 rfl) ?_
  refine m_ci (m_runV (n := 1) (rest := []) ⟨hx, hb, hml, hown, hG⟩ (c_isOven l X q A n ad g wm dy tl hs t (nI o) 0) kw_393 kw_395 kw_2 kw_18 kw_396 (by decide +kernel) (rl_ok (by omega) (by decide)) hF hz hS (q0 := 10) rfl rfl rfl hl.1 rfl (Nat.le_of_ble_eq_true rfl) dX8_bake_12 ⟨Nat.le_refl 0, Nat.le_refl 0⟩) hS (fun r_2 w2 H locs hw2 hS => ?_)
  obtain ⟨rfl, rfl⟩ := hw2
  refine lv_if_ne (tgt := 21) hx hb dX8_bake_15 (by decide) (fun c_3 => ?_) (fun c_3 => absurd c_3 (by rw [ovB_yes ho]; decide))
  refine lv_aload_n hx hb dX8_bake_21 rfl (lv_at hl 0 rfl) ?_
  refine m_get (v := .int (g j 3)) hx hb hG hown hF hS (j + 15) (kC_at hj) (kd_cls (hkd j hj)).1 (kd_cls (hkd j hj)).2 3 (by decide) kw_116 (fun _ h9 => h9) rfl dX8_bake_22 ?_
  refine lv_if_ne (tgt := 39) hx hb dX8_bake_25 (by decide) (fun c_4 => absurd (h0) c_4) (fun c_4 => ?_)
  refine lv_aload_n hx hb dX8_bake_28 rfl (lv_at hl 0 rfl) ?_
  refine m_get (v := .int (g j 4)) hx hb hG hown hF hS (j + 15) (kC_at hj) (kd_cls (hkd j hj)).1 (kd_cls (hkd j hj)).2 4 (by decide) kw_118 (fun _ h9 => h9) rfl dX8_bake_29 ?_
  refine lv_aload_n hx hb dX8_bake_32 rfl (lv_at hl 0 rfl) ?_
  refine m_ci (m_runU (x := yX2_need) (owner := "DoughRoom$Dough") (n := 0) (rest := [.int (g j 4)]) ⟨hx, hb, hml, hown, hG⟩ (f_need l X (kC q A n ad g wm dy tl hs) false t (ad j) j (g j) (kd (g j)) 4 (kC_hi hj) rfl (Nat.zero_le _) (hkd j hj) (by decide) tR.f) kw_273 kw_276 kw_274 kw_296 (fam_need (kd (g j)) (Nat.zero_le _) (hkd j hj)).2.1 (fam_need (kd (g j)) (Nat.zero_le _) (hkd j hj)).1 (fam_need (kd (g j)) (Nat.zero_le _) (hkd j hj)).2.2.1 (fam_need (kd (g j)) (Nat.zero_le _) (hkd j hj)).2.2.2.1 (by decide +kernel) (rl_ok (by omega) (fam_need (kd (g j)) (Nat.zero_le _) (hkd j hj)).2.2.2.2) hF hz hS (q0 := j + 15) (kC_at hj) (kd_cls (hkd j hj)).1 rfl hl.1 rfl (Nat.le_of_ble_eq_true rfl) dX8_bake_33 ⟨Nat.le_refl 0, Nat.le_refl 0⟩) hS (fun r_5 w3 H locs hw3 hS => ?_)
  obtain ⟨rfl, rfl⟩ := hw3
  refine lv_icmp_ge (tgt := 42) hx hb dX8_bake_36 (by decide) (fun c_6 => ?_) (fun c_6 => absurd (h1) c_6)
  refine lv_aload_n hx hb dX8_bake_42 rfl (lv_at hl 1 rfl) ?_
  refine lv_iload_n hx hb dX8_bake_43 rfl (lv_at hl 3 rfl) ?_
  refine m_ci (m_runV (n := 1) (rest := []) ⟨hx, hb, hml, hown, hG⟩ (c_massIn l X q A n ad g wm dy tl hs t (nI o) 0 hn hkd) kw_438 kw_440 kw_5 kw_18 kw_441 (by decide +kernel) (rl_ok (by omega) (by decide)) hF hz hS (q0 := 10) rfl rfl rfl hl.1 rfl (Nat.le_of_ble_eq_true rfl) dX8_bake_44 ⟨Nat.le_refl 0, Nat.le_refl 0⟩) hS (fun r_7 w4 H locs hw4 hS => ?_)
  obtain ⟨rfl, rfl⟩ := hw4
  refine lv_aload_n hx hb dX8_bake_47 rfl (lv_at hl 0 rfl) ?_
  refine m_get (v := .int (g j 1)) hx hb hG hown hF hS (j + 15) (kC_at hj) (kd_cls (hkd j hj)).1 (kd_cls (hkd j hj)).2 1 (by decide) kw_101 (fun _ h9 => h9) rfl dX8_bake_48 ?_
  refine lv_iadd hx hb dX8_bake_51 ?_
  refine lv_istore (lv' := [(4, .int ((masm g (nI o) n) + (g j 1))), (3, .ref (ad j)), (0, .ref (A 0)), (1, .int (nI j)), (2, .int (nI o))]) hx hb dX8_bake_52 hl (by decide) rfl (fun ls hl => ?_)
  refine lv_iload hx hb dX8_bake_54 (lv_at hl 0 rfl) ?_
  refine lv_sipush (v := 800) hx hb dX8_bake_56 (by decide) ?_
  refine lv_icmp_le (tgt := 65) hx hb dX8_bake_59 (by decide) (fun c_8 => ?_) (fun c_8 => absurd (h2) c_8)
  refine lv_aload_n hx hb dX8_bake_65 rfl (lv_at hl 1 rfl) ?_
  refine lv_iconst (v := 1) hx hb dX8_bake_66 (by decide) ?_
  refine m_put hx hb hG hown hF hS (j + 15) (kC_at hj) (kd_cls (hkd j hj)).1 (kd_cls (hkd j hj)).2 tyX2_ok nmX2 3 (by decide) kw_116 (fun _ h9 => h9) rfl rfl rfl (Nat.le_of_ble_eq_true rfl) (wT X (kC q A n ad (va_up g j (va_up (g j) 3 1)) wm dy tl hs) false t) (wC_set (rc := va_up (g j) 3 1) hj) dX8_bake_67 (fun H locs hS => ?_)
  refine lv_aload_n hx hb dX8_bake_70 rfl (lv_at hl 1 rfl) ?_
  refine lv_iload_n hx hb dX8_bake_71 rfl (lv_at hl 4 rfl) ?_
  refine m_put hx hb hG hown hF hS (j + 15) (kC_at2 hj) (kd_cls (hkd j hj)).1 (kd_cls (hkd j hj)).2 tyX2_ok nmX2 6 (by decide) kw_121 (fun _ h9 => h9) rfl rfl rfl (Nat.le_of_ble_eq_true rfl) (wT X (kC q A n ad (va_up g j (va_up (va_up (g j) 3 1) 6 (nI o))) wm dy tl hs) false t) (wC_set2 (rc := va_up (va_up (g j) 3 1) 6 (nI o)) hj) dX8_bake_72 (fun H locs hS => ?_)
  refine lv_iload hx hb dX8_bake_75 (lv_at hl 0 rfl) ?_
  exact m_iret hx hb hr hlk hS (⟨rfl, rfl⟩) (Nat.le_refl 0) (Nat.le_refl 0) dX8_bake_77
set_option maxHeartbeats 4000000 in
set_option maxRecDepth 100000 in
theorem c_sell_no (l : Launch) (X : Cx) (q : Nat → Nat × va_E) (A : Nat → Nat) (n : Nat) (ad : Nat → Nat) (g : Nat → Rc) (wm dy tl : Int32) (hs : Nat → Int32) (t : Tr) (j f : Nat) (hn : n ≤ 40) (hkd : ∀ i, i < n → kd (g i) < 7) (hj : j < n) (hf : 1 ≤ f) (h0 : ¬ g j 3 = 2) : cI l yX8_sell cX8_sell 5 (some .int) (rl f) X [.ref (A 0), .int (nI j)] (wT X (kC q A n ad g wm dy tl hs) false t) (fun r w' => r = -3 ∧ w' = wT X (kC q A n ad g wm dy tl hs) false t) := by
  refine met_start (by decide) (Nat.le_of_ble_eq_true rfl) ?_
  intro p e s m below meth c ls fx hS hl
  obtain ⟨hx, hb, hr, hml, hown, hG, hlk, hF, hz, hnm⟩ := fx
  have hown : s.vm.findClass RX8 = some m.cls := hown
  have hl : lv_has ls 5 [(0, .ref (A 0)), (1, .int (nI j))] := hl
  refine lv_aload_n hx hb dX8_sell_0 rfl (lv_at hl 0 rfl) ?_
  refine lv_iload_n hx hb dX8_sell_1 rfl (lv_at hl 1 rfl) ?_
  refine m_cq (m_runV (n := 1) (rest := []) ⟨hx, hb, hml, hown, hG⟩ (c_find l X q A n ad g wm dy tl hs t j 0 hn hj) kw_230 kw_232 kw_1 kw_18 kw_233 (by decide +kernel) (rl_ok (by omega) (by decide)) hF hz hS (q0 := 10) rfl rfl rfl hl.1 rfl (Nat.le_of_ble_eq_true rfl) dX8_sell_2 ⟨Nat.le_refl 0, Nat.le_refl 0⟩) hS (fun o_1 w1 H locs hw1 hS => ?_)
  obtain ⟨rfl, rfl⟩ := hw1
  refine lv_astore_n (lv' := [(2, .ref (ad j)), (0, .ref (A 0)), (1, .int (nI j))]) hx hb dX8_sell_5 rfl hl (by decide) rfl (fun ls hl => ?_)
  refine lv_aload_n hx hb dX8_sell_6 rfl (lv_at hl 0 rfl) ?_
  refine lv_ifnonnull (tgt := 13) hx hb dX8_sell_7 (by decide) ?_
  refine lv_aload_n hx hb dX8_sell_13 rfl (lv_at hl 0 rfl) ?_
  refine m_get (v := .int (g j 3)) hx hb hG hown hF hS (j + 15) (kC_at hj) (kd_cls (hkd j hj)).1 (kd_cls (hkd j hj)).2 3 (by decide) kw_116 (fun _ h9 => h9) rfl dX8_sell_14 ?_
  refine lv_iconst (v := 2) hx hb dX8_sell_17 (by decide) ?_
  refine lv_icmp_eq (tgt := 24) hx hb dX8_sell_18 (by decide) (fun c_2 => absurd c_2 (h0)) (fun c_2 => ?_)
  refine lv_bipush (v := -3) hx hb dX8_sell_21 (by decide) ?_
  exact m_iret hx hb hr hlk hS (⟨rfl, rfl⟩) (Nat.le_refl 0) (Nat.le_refl 0) dX8_sell_23
/-- what one that is done is worth, before the days are taken off -/
def worth (rc : Rc) : Int32 := if 5 ≤ kd rc then priceV (kd rc) (rc 1) + glazeV (kd rc) (rc 1) else priceV (kd rc) (rc 1)
def sellV (dy : Int32) (rc : Rc) : Int32 := if 1 < worth rc - (dy - rc 7) then worth rc - (dy - rc 7) else 1
set_option maxHeartbeats 4000000 in
set_option maxRecDepth 100000 in
theorem c_sell (l : Launch) (X : Cx) (q : Nat → Nat × va_E) (A : Nat → Nat) (n : Nat) (ad : Nat → Nat) (g : Nat → Rc) (wm dy tl : Int32) (hs : Nat → Int32) (t : Tr) (j f : Nat) (hn : n ≤ 40) (hkd : ∀ i, i < n → kd (g i) < 7) (hj : j < n) (hf : 7 ≤ f) (h0 : g j 3 = 2) : cI l yX8_sell cX8_sell 5 (some .int) (rl f) X [.ref (A 0), .int (nI j)] (wT X (kC q A n ad g wm dy tl hs) false t) (fun r w' => r = sellV dy (g j) ∧ w' = wT X (kC q A n ad (va_up g j (va_up (g j) 3 3)) wm dy (tl + sellV dy (g j)) hs) false t) := by
  refine met_start (by decide) (Nat.le_of_ble_eq_true rfl) ?_
  intro p e s m below meth c ls fx hS hl
  obtain ⟨hx, hb, hr, hml, hown, hG, hlk, hF, hz, hnm⟩ := fx
  have hown : s.vm.findClass RX8 = some m.cls := hown
  have hl : lv_has ls 5 [(0, .ref (A 0)), (1, .int (nI j))] := hl
  refine lv_aload_n hx hb dX8_sell_0 rfl (lv_at hl 0 rfl) ?_
  refine lv_iload_n hx hb dX8_sell_1 rfl (lv_at hl 1 rfl) ?_
  refine m_cq (m_runV (n := 1) (rest := []) ⟨hx, hb, hml, hown, hG⟩ (c_find l X q A n ad g wm dy tl hs t j 0 hn hj) kw_230 kw_232 kw_1 kw_18 kw_233 (by decide +kernel) (rl_ok (by omega) (by decide)) hF hz hS (q0 := 10) rfl rfl rfl hl.1 rfl (Nat.le_of_ble_eq_true rfl) dX8_sell_2 ⟨Nat.le_refl 0, Nat.le_refl 0⟩) hS (fun o_1 w1 H locs hw1 hS => ?_)
  obtain ⟨rfl, rfl⟩ := hw1
  refine lv_astore_n (lv' := [(2, .ref (ad j)), (0, .ref (A 0)), (1, .int (nI j))]) hx hb dX8_sell_5 rfl hl (by decide) rfl (fun ls hl => ?_)
  refine lv_aload_n hx hb dX8_sell_6 rfl (lv_at hl 0 rfl) ?_
  refine lv_ifnonnull (tgt := 13) hx hb dX8_sell_7 (by decide) ?_
  refine lv_aload_n hx hb dX8_sell_13 rfl (lv_at hl 0 rfl) ?_
  refine m_get (v := .int (g j 3)) hx hb hG hown hF hS (j + 15) (kC_at hj) (kd_cls (hkd j hj)).1 (kd_cls (hkd j hj)).2 3 (by decide) kw_116 (fun _ h9 => h9) rfl dX8_sell_14 ?_
  refine lv_iconst (v := 2) hx hb dX8_sell_17 (by decide) ?_
  refine lv_icmp_eq (tgt := 24) hx hb dX8_sell_18 (by decide) (fun c_2 => ?_) (fun c_2 => absurd (h0) c_2)
  refine lv_aload_n hx hb dX8_sell_24 rfl (lv_at hl 0 rfl) ?_
  refine m_ci (m_runU (x := yX2_price) (owner := "DoughRoom$Dough") (n := 0) (rest := []) ⟨hx, hb, hml, hown, hG⟩ (f_price l X (kC q A n ad g wm dy tl hs) false t (ad j) j (g j) (kd (g j)) 5 (kC_hi hj) rfl (Nat.zero_le _) (hkd j hj) (by decide) tR.f) kw_317 kw_320 kw_318 kw_343 (fam_price (kd (g j)) (Nat.zero_le _) (hkd j hj)).2.1 (fam_price (kd (g j)) (Nat.zero_le _) (hkd j hj)).1 (fam_price (kd (g j)) (Nat.zero_le _) (hkd j hj)).2.2.1 (fam_price (kd (g j)) (Nat.zero_le _) (hkd j hj)).2.2.2.1 (by decide +kernel) (rl_ok (by omega) (fam_price (kd (g j)) (Nat.zero_le _) (hkd j hj)).2.2.2.2) hF hz hS (q0 := j + 15) (kC_at hj) (kd_cls (hkd j hj)).1 rfl hl.1 rfl (Nat.le_of_ble_eq_true rfl) dX8_sell_25 ⟨Nat.le_refl 0, Nat.le_refl 0⟩) hS (fun r_3 w2 H locs hw2 hS => ?_)
  obtain ⟨rfl, rfl⟩ := hw2
  refine lv_istore_n (lv' := [(3, .int (priceV (kd (g j)) (g j 1))), (2, .ref (ad j)), (0, .ref (A 0)), (1, .int (nI j))]) hx hb dX8_sell_28 rfl hl (by decide) rfl (fun ls hl => ?_)
  refine lv_aload_n hx hb dX8_sell_29 rfl (lv_at hl 1 rfl) ?_
  by_cases h5 : 5 ≤ kd (g j)
  · refine m_instY hx hb hG hown hF hS (j + 15) (kC_at hj) (hkd j hj) kw_185 (hF.2.2.2.2.1 _ h5 (hkd j hj)) dX8_sell_30 ?_
    refine lv_if_eq (tgt := 50) hx hb dX8_sell_33 (by decide) (fun c_4 => absurd c_4 (by decide)) (fun c_4 => ?_)
    refine lv_aload_n hx hb dX8_sell_36 rfl (lv_at hl 1 rfl) ?_
    refine m_castY hx hb hG hown hF hS (j + 15) (kC_at hj) (hkd j hj) kw_185 (hF.2.2.2.2.1 _ h5 (hkd j hj)) dX8_sell_37 ?_
    refine lv_astore (lv' := [(4, .ref (ad j)), (3, .int (priceV (kd (g j)) (g j 1))), (2, .ref (ad j)), (0, .ref (A 0)), (1, .int (nI j))]) hx hb dX8_sell_40 hl (by decide) rfl (fun ls hl => ?_)
    refine lv_iload_n hx hb dX8_sell_42 rfl (lv_at hl 1 rfl) ?_
    refine lv_aload hx hb dX8_sell_43 (lv_at hl 0 rfl) ?_
    refine m_ci (m_runU (x := yX5_glaze) (owner := "DoughRoom$Sweet") (n := 0) (rest := [.int (priceV (kd (g j)) (g j 1))]) ⟨hx, hb, hml, hown, hG⟩ (f_glaze l X (kC q A n ad g wm dy tl hs) false t (ad j) j (g j) (kd (g j)) 6 (kC_hi hj) rfl h5 (hkd j hj) (by decide) tR.f) kw_358 kw_361 kw_359 kw_369 (fam_glaze (kd (g j)) h5 (hkd j hj)).2.1 (fam_glaze (kd (g j)) h5 (hkd j hj)).1 (fam_glaze (kd (g j)) h5 (hkd j hj)).2.2.1 (fam_glaze (kd (g j)) h5 (hkd j hj)).2.2.2.1 (by decide +kernel) (rl_ok (by omega) (fam_glaze (kd (g j)) h5 (hkd j hj)).2.2.2.2) hF hz hS (q0 := j + 15) (kC_at hj) (kd_cls (hkd j hj)).1 rfl hl.1 rfl (Nat.le_of_ble_eq_true rfl) dX8_sell_45 ⟨Nat.le_refl 0, Nat.le_refl 0⟩) hS (fun r_5 w3 H locs hw3 hS => ?_)
    obtain ⟨rfl, rfl⟩ := hw3
    refine lv_iadd hx hb dX8_sell_48 ?_
    refine lv_istore_n (lv' := [(3, .int ((priceV (kd (g j)) (g j 1)) + (glazeV (kd (g j)) (g j 1)))), (4, .ref (ad j)), (2, .ref (ad j)), (0, .ref (A 0)), (1, .int (nI j))]) hx hb dX8_sell_49 rfl hl (by decide) rfl (fun ls hl => ?_)
    refine lv_iconst (v := 1) hx hb dX8_sell_50 (by decide) ?_
    refine lv_iload_n hx hb dX8_sell_51 rfl (lv_at hl 0 rfl) ?_
    refine lv_aload_n hx hb dX8_sell_52 rfl (lv_at hl 3 rfl) ?_
    refine m_get (v := .int dy) hx hb hG hown hF hS (10) rfl rfl iG_8 5 (by decide) kw_61 (fun _ h9 => h9) rfl dX8_sell_53 ?_
    refine lv_aload_n hx hb dX8_sell_56 rfl (lv_at hl 2 rfl) ?_
    refine m_get (v := .int (g j 7)) hx hb hG hown hF hS (j + 15) (kC_at hj) (kd_cls (hkd j hj)).1 (kd_cls (hkd j hj)).2 7 (by decide) kw_122 (fun _ h9 => h9) rfl dX8_sell_57 ?_
    refine lv_isub hx hb dX8_sell_60 ?_
    refine lv_isub hx hb dX8_sell_61 ?_
    refine va_mmax hx hb (hml.trans hl.1.symm) hown (hG _ kw_450) (hG _ kw_451) (hG _ kw_28) (hG _ kw_452) (by show 1 ≤ f; omega) (by show 0 + 13 ≤ 27 * f; omega) (Nat.le_refl 0) (Nat.le_refl 0) dX8_sell_62 ?_
    rw [show priceV (kd (g j)) (g j 1) + glazeV (kd (g j)) (g j 1) = worth (g j) from by rw [worth, if_pos h5]]
    refine lv_topi (fun v9 ev9 => ?_)
    refine lv_istore (lv' := [(4, .int v9), (3, .int ((priceV (kd (g j)) (g j 1)) + (glazeV (kd (g j)) (g j 1)))), (2, .ref (ad j)), (0, .ref (A 0)), (1, .int (nI j))]) hx hb dX8_sell_65 hl (by decide) rfl (fun ls hl => ?_)
    refine lv_aload_n hx hb dX8_sell_67 rfl (lv_at hl 2 rfl) ?_
    refine lv_iconst (v := 3) hx hb dX8_sell_68 (by decide) ?_
    refine m_put hx hb hG hown hF hS (j + 15) (kC_at hj) (kd_cls (hkd j hj)).1 (kd_cls (hkd j hj)).2 tyX2_ok nmX2 3 (by decide) kw_116 (fun _ h9 => h9) rfl rfl rfl (Nat.le_of_ble_eq_true rfl) (wT X (kC q A n ad (va_up g j (va_up (g j) 3 3)) wm dy tl hs) false t) (wC_set (rc := va_up (g j) 3 3) hj) dX8_sell_69 (fun H locs hS => ?_)
    refine lv_aload_n hx hb dX8_sell_72 rfl (lv_at hl 3 rfl) ?_
    refine lv_dup hx hb dX8_sell_73 rfl ?_
    refine m_get (v := .int tl) hx hb hG hown hF hS (10) rfl rfl iG_8 6 (by decide) kw_62 (fun _ h9 => h9) rfl dX8_sell_74 ?_
    refine lv_iload hx hb dX8_sell_77 (lv_at hl 0 rfl) ?_
    refine lv_iadd hx hb dX8_sell_79 ?_
    refine m_put hx hb hG hown hF hS (10) rfl rfl iG_8 tyX8_ok nmX8 6 (by decide) kw_62 (fun _ h9 => h9) rfl rfl rfl (Nat.le_of_ble_eq_true rfl) (wT X (kC q A n ad (va_up g j (va_up (g j) 3 3)) wm dy (tl + v9) hs) false t) rfl dX8_sell_80 (fun H locs hS => ?_)
    refine lv_iload hx hb dX8_sell_83 (lv_at hl 0 rfl) ?_
    have ev9 : v9 = sellV dy (g j) := ev9
    exact m_iret hx hb hr hlk hS (⟨ev9, by rw [ev9]⟩) (Nat.le_refl 0) (Nat.le_refl 0) dX8_sell_85
  · refine m_instN hx hb hG hown hF hS (j + 15) (kC_at hj) (hkd j hj) kw_185 (hF.2.2.2.2.2.2.2 _ (Nat.lt_of_not_le h5)) dX8_sell_30 ?_
    refine lv_if_eq (tgt := 50) hx hb dX8_sell_33 (by decide) (fun c_4 => ?_) (fun c_4 => absurd (rfl) c_4)
    refine lv_iconst (v := 1) hx hb dX8_sell_50 (by decide) ?_
    refine lv_iload_n hx hb dX8_sell_51 rfl (lv_at hl 0 rfl) ?_
    refine lv_aload_n hx hb dX8_sell_52 rfl (lv_at hl 2 rfl) ?_
    refine m_get (v := .int dy) hx hb hG hown hF hS (10) rfl rfl iG_8 5 (by decide) kw_61 (fun _ h9 => h9) rfl dX8_sell_53 ?_
    refine lv_aload_n hx hb dX8_sell_56 rfl (lv_at hl 1 rfl) ?_
    refine m_get (v := .int (g j 7)) hx hb hG hown hF hS (j + 15) (kC_at hj) (kd_cls (hkd j hj)).1 (kd_cls (hkd j hj)).2 7 (by decide) kw_122 (fun _ h9 => h9) rfl dX8_sell_57 ?_
    refine lv_isub hx hb dX8_sell_60 ?_
    refine lv_isub hx hb dX8_sell_61 ?_
    refine va_mmax hx hb (hml.trans hl.1.symm) hown (hG _ kw_450) (hG _ kw_451) (hG _ kw_28) (hG _ kw_452) (by show 1 ≤ f; omega) (by show 0 + 13 ≤ 27 * f; omega) (Nat.le_refl 0) (Nat.le_refl 0) dX8_sell_62 ?_
    rw [show priceV (kd (g j)) (g j 1) = worth (g j) from by rw [worth, if_neg h5]]
    refine lv_topi (fun v9 ev9 => ?_)
    refine lv_istore (lv' := [(4, .int v9), (3, .int (priceV (kd (g j)) (g j 1))), (2, .ref (ad j)), (0, .ref (A 0)), (1, .int (nI j))]) hx hb dX8_sell_65 hl (by decide) rfl (fun ls hl => ?_)
    refine lv_aload_n hx hb dX8_sell_67 rfl (lv_at hl 2 rfl) ?_
    refine lv_iconst (v := 3) hx hb dX8_sell_68 (by decide) ?_
    refine m_put hx hb hG hown hF hS (j + 15) (kC_at hj) (kd_cls (hkd j hj)).1 (kd_cls (hkd j hj)).2 tyX2_ok nmX2 3 (by decide) kw_116 (fun _ h9 => h9) rfl rfl rfl (Nat.le_of_ble_eq_true rfl) (wT X (kC q A n ad (va_up g j (va_up (g j) 3 3)) wm dy tl hs) false t) (wC_set (rc := va_up (g j) 3 3) hj) dX8_sell_69 (fun H locs hS => ?_)
    refine lv_aload_n hx hb dX8_sell_72 rfl (lv_at hl 3 rfl) ?_
    refine lv_dup hx hb dX8_sell_73 rfl ?_
    refine m_get (v := .int tl) hx hb hG hown hF hS (10) rfl rfl iG_8 6 (by decide) kw_62 (fun _ h9 => h9) rfl dX8_sell_74 ?_
    refine lv_iload hx hb dX8_sell_77 (lv_at hl 0 rfl) ?_
    refine lv_iadd hx hb dX8_sell_79 ?_
    refine m_put hx hb hG hown hF hS (10) rfl rfl iG_8 tyX8_ok nmX8 6 (by decide) kw_62 (fun _ h9 => h9) rfl rfl rfl (Nat.le_of_ble_eq_true rfl) (wT X (kC q A n ad (va_up g j (va_up (g j) 3 3)) wm dy (tl + v9) hs) false t) rfl dX8_sell_80 (fun H locs hS => ?_)
    refine lv_iload hx hb dX8_sell_83 (lv_at hl 0 rfl) ?_
    have ev9 : v9 = sellV dy (g j) := ev9
    exact m_iret hx hb hr hlk hS (⟨ev9, by rw [ev9]⟩) (Nat.le_refl 0) (Nat.le_refl 0) dX8_sell_85
set_option maxHeartbeats 4000000 in
set_option maxRecDepth 100000 in
theorem c_ask_bad (l : Launch) (X : Cx) (q : Nat → Nat × va_E) (A : Nat → Nat) (n : Nat) (ad : Nat → Nat) (g : Nat → Rc) (wm dy tl : Int32) (hs : Nat → Int32) (t : Tr) (j f : Nat) (hn : n ≤ 40) (hkd : ∀ i, i < n → kd (g i) < 7) (hj : j < n) (wh w : Int32) (hf : 7 ≤ f) (h0 : qOk wh w = 0) : cI l yX8_ask cX8_ask 7 (some .int) (rl f) X [.ref (A 0), .int (nI j), .int wh, .int w] (wT X (kC q A n ad g wm dy tl hs) false t) (fun r w' => r = -2 ∧ w' = wT X (kC q A n ad g wm dy tl hs) false t) := by
  refine met_start (by decide) (Nat.le_of_ble_eq_true rfl) ?_
  intro p e s m below meth c ls fx hS hl
  obtain ⟨hx, hb, hr, hml, hown, hG, hlk, hF, hz, hnm⟩ := fx
  have hown : s.vm.findClass RX8 = some m.cls := hown
  have hl : lv_has ls 7 [(0, .ref (A 0)), (1, .int (nI j)), (2, .int wh), (3, .int w)] := hl
  refine lv_aload_n hx hb dX8_ask_0 rfl (lv_at hl 0 rfl) ?_
  refine lv_iload_n hx hb dX8_ask_1 rfl (lv_at hl 1 rfl) ?_
  refine m_cq (m_runV (n := 1) (rest := []) ⟨hx, hb, hml, hown, hG⟩ (c_find l X q A n ad g wm dy tl hs t j 0 hn hj) kw_230 kw_232 kw_1 kw_18 kw_233 (by decide +kernel) (rl_ok (by omega) (by decide)) hF hz hS (q0 := 10) rfl rfl rfl hl.1 rfl (Nat.le_of_ble_eq_true rfl) dX8_ask_2 ⟨Nat.le_refl 0, Nat.le_refl 0⟩) hS (fun o_1 w1 H locs hw1 hS => ?_)
  obtain ⟨rfl, rfl⟩ := hw1
  refine lv_astore (lv' := [(4, .ref (ad j)), (0, .ref (A 0)), (1, .int (nI j)), (2, .int wh), (3, .int w)]) hx hb dX8_ask_5 hl (by decide) rfl (fun ls hl => ?_)
  refine lv_aload hx hb dX8_ask_7 (lv_at hl 0 rfl) ?_
  refine lv_ifnull hx hb dX8_ask_9 ?_
  refine lv_iload_n hx hb dX8_ask_12 rfl (lv_at hl 3 rfl) ?_
  refine lv_iload_n hx hb dX8_ask_13 rfl (lv_at hl 4 rfl) ?_
  refine m_ci (m_runS (n := 2) (rest := []) ⟨hx, hb, hml, hown, hG⟩ (c_isQuestion l X (wT X (kC q A n ad g wm dy tl hs) false t) wh w 1 (by decide)) kw_234 kw_235 kw_18 kw_236 (by decide +kernel) (rl_ok (by omega) (by decide)) hF hz hS rfl hl.1 rfl (Nat.le_of_ble_eq_true rfl) dX8_ask_14 ⟨Nat.le_refl 0, Nat.le_refl 0⟩) hS (fun r_2 w2 H locs hw2 hS => ?_)
  obtain ⟨rfl, rfl⟩ := hw2
  refine lv_if_ne (tgt := 23) hx hb dX8_ask_17 (by decide) (fun c_3 => absurd (h0) c_3) (fun c_3 => ?_)
  refine lv_bipush (v := -2) hx hb dX8_ask_20 (by decide) ?_
  exact m_iret hx hb hr hlk hS (⟨rfl, rfl⟩) (Nat.le_refl 0) (Nat.le_refl 0) dX8_ask_22
def askV (rc : Rc) (k : Nat) (w : Int32) : Int32 := match k with
  | 0 => riseV (kd rc) w
  | 1 => needV (kd rc) (rc 1)
  | 2 => brownV (kd rc) w
  | 3 => priceV (kd rc) (rc 1)
  | 4 => if 2 ≤ kd rc ∧ kd rc < 5 then keepsV (kd rc) (rc 1) else -3
  | _ => if 5 ≤ kd rc then glazeV (kd rc) (rc 1) else -3
def askT (rc : Rc) (k : Nat) : List Int32 := match k with
  | 0 => riseT (kd rc)
  | 1 => needT (kd rc)
  | 2 => brownT (kd rc)
  | 3 => priceT (kd rc)
  | 4 => if 2 ≤ kd rc ∧ kd rc < 5 then keepsT (kd rc) else []
  | _ => if 5 ≤ kd rc then glazeT (kd rc) else []
set_option maxHeartbeats 4000000 in
set_option maxRecDepth 100000 in
theorem c_ask (l : Launch) (X : Cx) (q : Nat → Nat × va_E) (A : Nat → Nat) (n : Nat) (ad : Nat → Nat) (g : Nat → Rc) (wm dy tl : Int32) (hs : Nat → Int32) (t : Tr) (j f : Nat) (hn : n ≤ 40) (hkd : ∀ i, i < n → kd (g i) < 7) (hj : j < n) (k : Nat) (w : Int32) (hk : k < 6) (hf : 7 ≤ f) (h0 : ¬ qOk (nI k) w = 0) : cI l yX8_ask cX8_ask 7 (some .int) (rl f) X [.ref (A 0), .int (nI j), .int (nI k), .int w] (wT X (kC q A n ad g wm dy tl hs) false t) (fun r w' => r = askV (g j) k w ∧ w' = wT X (kC q A n ad g wm dy tl hs) false (te true (askT (g j) k) (0, t.2))) := by
  refine met_start (by decide) (Nat.le_of_ble_eq_true rfl) ?_
  intro p e s m below meth c ls fx hS hl
  obtain ⟨hx, hb, hr, hml, hown, hG, hlk, hF, hz, hnm⟩ := fx
  have hown : s.vm.findClass RX8 = some m.cls := hown
  have hl : lv_has ls 7 [(0, .ref (A 0)), (1, .int (nI j)), (2, .int (nI k)), (3, .int w)] := hl
  refine lv_aload_n hx hb dX8_ask_0 rfl (lv_at hl 0 rfl) ?_
  refine lv_iload_n hx hb dX8_ask_1 rfl (lv_at hl 1 rfl) ?_
  refine m_cq (m_runV (n := 1) (rest := []) ⟨hx, hb, hml, hown, hG⟩ (c_find l X q A n ad g wm dy tl hs t j 0 hn hj) kw_230 kw_232 kw_1 kw_18 kw_233 (by decide +kernel) (rl_ok (by omega) (by decide)) hF hz hS (q0 := 10) rfl rfl rfl hl.1 rfl (Nat.le_of_ble_eq_true rfl) dX8_ask_2 ⟨Nat.le_refl 0, Nat.le_refl 0⟩) hS (fun o_1 w1 H locs hw1 hS => ?_)
  obtain ⟨rfl, rfl⟩ := hw1
  refine lv_astore (lv' := [(4, .ref (ad j)), (0, .ref (A 0)), (1, .int (nI j)), (2, .int (nI k)), (3, .int w)]) hx hb dX8_ask_5 hl (by decide) rfl (fun ls hl => ?_)
  refine lv_aload hx hb dX8_ask_7 (lv_at hl 0 rfl) ?_
  refine lv_ifnull hx hb dX8_ask_9 ?_
  refine lv_iload_n hx hb dX8_ask_12 rfl (lv_at hl 3 rfl) ?_
  refine lv_iload_n hx hb dX8_ask_13 rfl (lv_at hl 4 rfl) ?_
  refine m_ci (m_runS (n := 2) (rest := []) ⟨hx, hb, hml, hown, hG⟩ (c_isQuestion l X (wT X (kC q A n ad g wm dy tl hs) false t) (nI k) w 1 (by decide)) kw_234 kw_235 kw_18 kw_236 (by decide +kernel) (rl_ok (by omega) (by decide)) hF hz hS rfl hl.1 rfl (Nat.le_of_ble_eq_true rfl) dX8_ask_14 ⟨Nat.le_refl 0, Nat.le_refl 0⟩) hS (fun r_2 w2 H locs hw2 hS => ?_)
  obtain ⟨rfl, rfl⟩ := hw2
  refine lv_if_ne (tgt := 23) hx hb dX8_ask_17 (by decide) (fun c_3 => ?_) (fun c_3 => absurd c_3 (h0))
  refine lv_bipush (v := -3) hx hb dX8_ask_23 (by decide) ?_
  refine lv_istore (lv' := [(5, .int (-3)), (4, .ref (ad j)), (0, .ref (A 0)), (1, .int (nI j)), (2, .int (nI k)), (3, .int w)]) hx hb dX8_ask_25 hl (by decide) rfl (fun ls hl => ?_)
  refine lv_aload_n hx hb dX8_ask_27 rfl (lv_at hl 2 rfl) ?_
  refine m_get (v := .ref (A 3)) hx hb hG hown hF hS (10) rfl rfl iG_8 2 (by decide) kw_58 (fun _ h9 => h9) rfl dX8_ask_28 ?_
  refine m_cv (m_runV (n := 0) (rest := []) ⟨hx, hb, hml, hown, hG⟩ (c_start l X (kC q A n ad g wm dy tl hs) false t 0) kw_237 kw_238 kw_239 kw_19 kw_240 (by decide +kernel) (rl_ok (by omega) (by decide)) hF hz hS (q0 := 13) rfl rfl rfl hl.1 rfl (Nat.le_of_ble_eq_true rfl) dX8_ask_31 ⟨Nat.le_refl 0, Nat.le_refl 0⟩) hS (fun w3 H locs hw3 hS => ?_)
  subst hw3
  have hR : tR true 10 ((0, t.2) : Tr) := fun _ => Nat.le_refl 10
  refine lv_iload_n hx hb dX8_ask_34 rfl (lv_at hl 4 rfl) ?_
  match k, hk with
  | 0, _ =>
    refine lv_tableIn (off := 33) (tgt := 68) hx hb dX8_ask_35 (by decide) (by decide) (by decide) (by decide) ?_
    refine lv_aload hx hb dX8_ask_68 (lv_at hl 1 rfl) ?_
    refine lv_iload_n hx hb dX8_ask_70 rfl (lv_at hl 5 rfl) ?_
    refine m_ci (m_runU (x := yX2_rise) (owner := "DoughRoom$Dough") (n := 1) (rest := []) ⟨hx, hb, hml, hown, hG⟩ (f_rise l X (kC q A n ad g wm dy tl hs) true (0, t.2) (ad j) j (g j) (kd (g j)) w 3 (kC_hi hj) rfl (Nat.zero_le _) (hkd j hj) (by decide) (hR.le (by decide))) kw_241 kw_244 kw_242 kw_271 (fam_rise (kd (g j)) (Nat.zero_le _) (hkd j hj)).2.1 (fam_rise (kd (g j)) (Nat.zero_le _) (hkd j hj)).1 (fam_rise (kd (g j)) (Nat.zero_le _) (hkd j hj)).2.2.1 (fam_rise (kd (g j)) (Nat.zero_le _) (hkd j hj)).2.2.2.1 (by decide +kernel) (rl_ok (by omega) (fam_rise (kd (g j)) (Nat.zero_le _) (hkd j hj)).2.2.2.2) hF hz hS (q0 := j + 15) (kC_at hj) (kd_cls (hkd j hj)).1 rfl hl.1 rfl (Nat.le_of_ble_eq_true rfl) dX8_ask_71 ⟨Nat.le_refl 0, Nat.le_refl 0⟩) hS (fun r_4 w4 H locs hw4 hS => ?_)
    obtain ⟨rfl, rfl⟩ := hw4
    refine lv_istore (lv' := [(5, .int (riseV (kd (g j)) w)), (4, .ref (ad j)), (0, .ref (A 0)), (1, .int (nI j)), (2, .int (nI 0)), (3, .int w)]) hx hb dX8_ask_74 hl (by decide) rfl (fun ls hl => ?_)
    refine lv_goto (tgt := 157) hx hb dX8_ask_76 (by decide) ?_
    refine lv_aload_n hx hb dX8_ask_157 rfl (lv_at hl 2 rfl) ?_
    refine m_get (v := .ref (A 3)) hx hb hG hown hF hS (10) rfl rfl iG_8 2 (by decide) kw_58 (fun _ h9 => h9) rfl dX8_ask_158 ?_
    refine m_cv (m_runV (n := 0) (rest := []) ⟨hx, hb, hml, hown, hG⟩ (c_stop l X (kC q A n ad g wm dy tl hs) true (te true (riseT (kd (g j))) (0, t.2)) 0) kw_373 kw_374 kw_375 kw_19 kw_376 (by decide +kernel) (rl_ok (by omega) (by decide)) hF hz hS (q0 := 13) rfl rfl rfl hl.1 rfl (Nat.le_of_ble_eq_true rfl) dX8_ask_161 ⟨Nat.le_refl 0, Nat.le_refl 0⟩) hS (fun w8 H locs hw8 hS => ?_)
    subst hw8
    refine lv_iload hx hb dX8_ask_164 (lv_at hl 0 rfl) ?_
    exact m_iret hx hb hr hlk hS (⟨rfl, rfl⟩) (Nat.le_refl 0) (Nat.le_refl 0) dX8_ask_166
  | 1, _ =>
    refine lv_tableIn (off := 44) (tgt := 79) hx hb dX8_ask_35 (by decide) (by decide) (by decide) (by decide) ?_
    refine lv_aload hx hb dX8_ask_79 (lv_at hl 1 rfl) ?_
    refine m_ci (m_runU (x := yX2_need) (owner := "DoughRoom$Dough") (n := 0) (rest := []) ⟨hx, hb, hml, hown, hG⟩ (f_need l X (kC q A n ad g wm dy tl hs) true (0, t.2) (ad j) j (g j) (kd (g j)) 4 (kC_hi hj) rfl (Nat.zero_le _) (hkd j hj) (by decide) (hR.le (by decide))) kw_273 kw_276 kw_274 kw_296 (fam_need (kd (g j)) (Nat.zero_le _) (hkd j hj)).2.1 (fam_need (kd (g j)) (Nat.zero_le _) (hkd j hj)).1 (fam_need (kd (g j)) (Nat.zero_le _) (hkd j hj)).2.2.1 (fam_need (kd (g j)) (Nat.zero_le _) (hkd j hj)).2.2.2.1 (by decide +kernel) (rl_ok (by omega) (fam_need (kd (g j)) (Nat.zero_le _) (hkd j hj)).2.2.2.2) hF hz hS (q0 := j + 15) (kC_at hj) (kd_cls (hkd j hj)).1 rfl hl.1 rfl (Nat.le_of_ble_eq_true rfl) dX8_ask_81 ⟨Nat.le_refl 0, Nat.le_refl 0⟩) hS (fun r_4 w4 H locs hw4 hS => ?_)
    obtain ⟨rfl, rfl⟩ := hw4
    refine lv_istore (lv' := [(5, .int (needV (kd (g j)) (g j 1))), (4, .ref (ad j)), (0, .ref (A 0)), (1, .int (nI j)), (2, .int (nI 1)), (3, .int w)]) hx hb dX8_ask_84 hl (by decide) rfl (fun ls hl => ?_)
    refine lv_goto (tgt := 157) hx hb dX8_ask_86 (by decide) ?_
    refine lv_aload_n hx hb dX8_ask_157 rfl (lv_at hl 2 rfl) ?_
    refine m_get (v := .ref (A 3)) hx hb hG hown hF hS (10) rfl rfl iG_8 2 (by decide) kw_58 (fun _ h9 => h9) rfl dX8_ask_158 ?_
    refine m_cv (m_runV (n := 0) (rest := []) ⟨hx, hb, hml, hown, hG⟩ (c_stop l X (kC q A n ad g wm dy tl hs) true (te true (needT (kd (g j))) (0, t.2)) 0) kw_373 kw_374 kw_375 kw_19 kw_376 (by decide +kernel) (rl_ok (by omega) (by decide)) hF hz hS (q0 := 13) rfl rfl rfl hl.1 rfl (Nat.le_of_ble_eq_true rfl) dX8_ask_161 ⟨Nat.le_refl 0, Nat.le_refl 0⟩) hS (fun w8 H locs hw8 hS => ?_)
    subst hw8
    refine lv_iload hx hb dX8_ask_164 (lv_at hl 0 rfl) ?_
    exact m_iret hx hb hr hlk hS (⟨rfl, rfl⟩) (Nat.le_refl 0) (Nat.le_refl 0) dX8_ask_166
  | 2, _ =>
    refine lv_tableIn (off := 54) (tgt := 89) hx hb dX8_ask_35 (by decide) (by decide) (by decide) (by decide) ?_
    refine lv_aload hx hb dX8_ask_89 (lv_at hl 1 rfl) ?_
    refine lv_iload_n hx hb dX8_ask_91 rfl (lv_at hl 5 rfl) ?_
    refine m_ci (m_runU (x := yX2_brown) (owner := "DoughRoom$Dough") (n := 1) (rest := []) ⟨hx, hb, hml, hown, hG⟩ (f_brown l X (kC q A n ad g wm dy tl hs) true (0, t.2) (ad j) j (g j) (kd (g j)) w 2 (kC_hi hj) rfl (Nat.zero_le _) (hkd j hj) (by decide) (hR.le (by decide))) kw_297 kw_300 kw_298 kw_316 (fam_brown (kd (g j)) (Nat.zero_le _) (hkd j hj)).2.1 (fam_brown (kd (g j)) (Nat.zero_le _) (hkd j hj)).1 (fam_brown (kd (g j)) (Nat.zero_le _) (hkd j hj)).2.2.1 (fam_brown (kd (g j)) (Nat.zero_le _) (hkd j hj)).2.2.2.1 (by decide +kernel) (rl_ok (by omega) (fam_brown (kd (g j)) (Nat.zero_le _) (hkd j hj)).2.2.2.2) hF hz hS (q0 := j + 15) (kC_at hj) (kd_cls (hkd j hj)).1 rfl hl.1 rfl (Nat.le_of_ble_eq_true rfl) dX8_ask_92 ⟨Nat.le_refl 0, Nat.le_refl 0⟩) hS (fun r_4 w4 H locs hw4 hS => ?_)
    obtain ⟨rfl, rfl⟩ := hw4
    refine lv_istore (lv' := [(5, .int (brownV (kd (g j)) w)), (4, .ref (ad j)), (0, .ref (A 0)), (1, .int (nI j)), (2, .int (nI 2)), (3, .int w)]) hx hb dX8_ask_95 hl (by decide) rfl (fun ls hl => ?_)
    refine lv_goto (tgt := 157) hx hb dX8_ask_97 (by decide) ?_
    refine lv_aload_n hx hb dX8_ask_157 rfl (lv_at hl 2 rfl) ?_
    refine m_get (v := .ref (A 3)) hx hb hG hown hF hS (10) rfl rfl iG_8 2 (by decide) kw_58 (fun _ h9 => h9) rfl dX8_ask_158 ?_
    refine m_cv (m_runV (n := 0) (rest := []) ⟨hx, hb, hml, hown, hG⟩ (c_stop l X (kC q A n ad g wm dy tl hs) true (te true (brownT (kd (g j))) (0, t.2)) 0) kw_373 kw_374 kw_375 kw_19 kw_376 (by decide +kernel) (rl_ok (by omega) (by decide)) hF hz hS (q0 := 13) rfl rfl rfl hl.1 rfl (Nat.le_of_ble_eq_true rfl) dX8_ask_161 ⟨Nat.le_refl 0, Nat.le_refl 0⟩) hS (fun w8 H locs hw8 hS => ?_)
    subst hw8
    refine lv_iload hx hb dX8_ask_164 (lv_at hl 0 rfl) ?_
    exact m_iret hx hb hr hlk hS (⟨rfl, rfl⟩) (Nat.le_refl 0) (Nat.le_refl 0) dX8_ask_166
  | 3, _ =>
    refine lv_tableIn (off := 65) (tgt := 100) hx hb dX8_ask_35 (by decide) (by decide) (by decide) (by decide) ?_
    refine lv_aload hx hb dX8_ask_100 (lv_at hl 1 rfl) ?_
    refine m_ci (m_runU (x := yX2_price) (owner := "DoughRoom$Dough") (n := 0) (rest := []) ⟨hx, hb, hml, hown, hG⟩ (f_price l X (kC q A n ad g wm dy tl hs) true (0, t.2) (ad j) j (g j) (kd (g j)) 5 (kC_hi hj) rfl (Nat.zero_le _) (hkd j hj) (by decide) (hR.le (by decide))) kw_317 kw_320 kw_318 kw_343 (fam_price (kd (g j)) (Nat.zero_le _) (hkd j hj)).2.1 (fam_price (kd (g j)) (Nat.zero_le _) (hkd j hj)).1 (fam_price (kd (g j)) (Nat.zero_le _) (hkd j hj)).2.2.1 (fam_price (kd (g j)) (Nat.zero_le _) (hkd j hj)).2.2.2.1 (by decide +kernel) (rl_ok (by omega) (fam_price (kd (g j)) (Nat.zero_le _) (hkd j hj)).2.2.2.2) hF hz hS (q0 := j + 15) (kC_at hj) (kd_cls (hkd j hj)).1 rfl hl.1 rfl (Nat.le_of_ble_eq_true rfl) dX8_ask_102 ⟨Nat.le_refl 0, Nat.le_refl 0⟩) hS (fun r_4 w4 H locs hw4 hS => ?_)
    obtain ⟨rfl, rfl⟩ := hw4
    refine lv_istore (lv' := [(5, .int (priceV (kd (g j)) (g j 1))), (4, .ref (ad j)), (0, .ref (A 0)), (1, .int (nI j)), (2, .int (nI 3)), (3, .int w)]) hx hb dX8_ask_105 hl (by decide) rfl (fun ls hl => ?_)
    refine lv_goto (tgt := 157) hx hb dX8_ask_107 (by decide) ?_
    refine lv_aload_n hx hb dX8_ask_157 rfl (lv_at hl 2 rfl) ?_
    refine m_get (v := .ref (A 3)) hx hb hG hown hF hS (10) rfl rfl iG_8 2 (by decide) kw_58 (fun _ h9 => h9) rfl dX8_ask_158 ?_
    refine m_cv (m_runV (n := 0) (rest := []) ⟨hx, hb, hml, hown, hG⟩ (c_stop l X (kC q A n ad g wm dy tl hs) true (te true (priceT (kd (g j))) (0, t.2)) 0) kw_373 kw_374 kw_375 kw_19 kw_376 (by decide +kernel) (rl_ok (by omega) (by decide)) hF hz hS (q0 := 13) rfl rfl rfl hl.1 rfl (Nat.le_of_ble_eq_true rfl) dX8_ask_161 ⟨Nat.le_refl 0, Nat.le_refl 0⟩) hS (fun w8 H locs hw8 hS => ?_)
    subst hw8
    refine lv_iload hx hb dX8_ask_164 (lv_at hl 0 rfl) ?_
    exact m_iret hx hb hr hlk hS (⟨rfl, rfl⟩) (Nat.le_refl 0) (Nat.le_refl 0) dX8_ask_166
  | 4, _ =>
    refine lv_tableIn (off := 75) (tgt := 110) hx hb dX8_ask_35 (by decide) (by decide) (by decide) (by decide) ?_
    refine lv_aload hx hb dX8_ask_110 (lv_at hl 1 rfl) ?_
    by_cases h5 : 2 ≤ kd (g j) ∧ kd (g j) < 5
    · refine m_instY hx hb hG hown hF hS (j + 15) (kC_at hj) (hkd j hj) kw_140 (hF.2.2.2.1 _ h5.1 h5.2) dX8_ask_112 ?_
      refine lv_if_eq (tgt := 132) hx hb dX8_ask_115 (by decide) (fun c_4 => absurd c_4 (by decide)) (fun c_4 => ?_)
      refine lv_aload hx hb dX8_ask_118 (lv_at hl 1 rfl) ?_
      refine m_castY hx hb hG hown hF hS (j + 15) (kC_at hj) (hkd j hj) kw_140 (hF.2.2.2.1 _ h5.1 h5.2) dX8_ask_120 ?_
      refine lv_astore (lv' := [(6, .ref (ad j)), (5, .int (-3)), (4, .ref (ad j)), (0, .ref (A 0)), (1, .int (nI j)), (2, .int (nI 4)), (3, .int w)]) hx hb dX8_ask_123 hl (by decide) rfl (fun ls hl => ?_)
      refine lv_aload hx hb dX8_ask_125 (lv_at hl 0 rfl) ?_
      refine m_ci (m_runU (x := yX4_keeps) (owner := "DoughRoom$Sour") (n := 0) (rest := []) ⟨hx, hb, hml, hown, hG⟩ (f_keeps l X (kC q A n ad g wm dy tl hs) true (0, t.2) (ad j) j (g j) (kd (g j)) 6 (kC_hi hj) rfl h5.1 h5.2 (by decide) (hR.le (by decide))) kw_344 kw_347 kw_345 kw_353 (fam_keeps (kd (g j)) h5.1 h5.2).2.1 (fam_keeps (kd (g j)) h5.1 h5.2).1 (fam_keeps (kd (g j)) h5.1 h5.2).2.2.1 (fam_keeps (kd (g j)) h5.1 h5.2).2.2.2.1 (by decide +kernel) (rl_ok (by omega) (fam_keeps (kd (g j)) h5.1 h5.2).2.2.2.2) hF hz hS (q0 := j + 15) (kC_at hj) (kd_cls (hkd j hj)).1 rfl hl.1 rfl (Nat.le_of_ble_eq_true rfl) dX8_ask_127 ⟨Nat.le_refl 0, Nat.le_refl 0⟩) hS (fun r_5 w4 H locs hw4 hS => ?_)
      obtain ⟨rfl, rfl⟩ := hw4
      refine lv_istore (lv' := [(5, .int (keepsV (kd (g j)) (g j 1))), (6, .ref (ad j)), (4, .ref (ad j)), (0, .ref (A 0)), (1, .int (nI j)), (2, .int (nI 4)), (3, .int w)]) hx hb dX8_ask_130 hl (by decide) rfl (fun ls hl => ?_)
      refine lv_goto (tgt := 157) hx hb dX8_ask_132 (by decide) ?_
      refine lv_aload_n hx hb dX8_ask_157 rfl (lv_at hl 3 rfl) ?_
      refine m_get (v := .ref (A 3)) hx hb hG hown hF hS (10) rfl rfl iG_8 2 (by decide) kw_58 (fun _ h9 => h9) rfl dX8_ask_158 ?_
      refine m_cv (m_runV (n := 0) (rest := []) ⟨hx, hb, hml, hown, hG⟩ (c_stop l X (kC q A n ad g wm dy tl hs) true (te true (keepsT (kd (g j))) (0, t.2)) 0) kw_373 kw_374 kw_375 kw_19 kw_376 (by decide +kernel) (rl_ok (by omega) (by decide)) hF hz hS (q0 := 13) rfl rfl rfl hl.1 rfl (Nat.le_of_ble_eq_true rfl) dX8_ask_161 ⟨Nat.le_refl 0, Nat.le_refl 0⟩) hS (fun w8 H locs hw8 hS => ?_)
      subst hw8
      refine lv_iload hx hb dX8_ask_164 (lv_at hl 0 rfl) ?_
      exact m_iret hx hb hr hlk hS (⟨by show _ = if 2 ≤ kd (g j) ∧ kd (g j) < 5 then _ else _; rw [if_pos h5], by show _ = wT X (kC q A n ad g wm dy tl hs) false (te true (if 2 ≤ kd (g j) ∧ kd (g j) < 5 then _ else _) _); rw [if_pos h5]⟩) (Nat.le_refl 0) (Nat.le_refl 0) dX8_ask_166
    · rcases Nat.lt_or_ge (kd (g j)) 2 with h6 | h6
      · refine m_instN hx hb hG hown hF hS (j + 15) (kC_at hj) (hkd j hj) kw_140 (hF.2.2.2.2.2.1 _ h6) dX8_ask_112 ?_
        refine lv_if_eq (tgt := 132) hx hb dX8_ask_115 (by decide) (fun c_4 => ?_) (fun c_4 => absurd (rfl) c_4)
        refine lv_goto (tgt := 157) hx hb dX8_ask_132 (by decide) ?_
        refine lv_aload_n hx hb dX8_ask_157 rfl (lv_at hl 2 rfl) ?_
        refine m_get (v := .ref (A 3)) hx hb hG hown hF hS (10) rfl rfl iG_8 2 (by decide) kw_58 (fun _ h9 => h9) rfl dX8_ask_158 ?_
        refine m_cv (m_runV (n := 0) (rest := []) ⟨hx, hb, hml, hown, hG⟩ (c_stop l X (kC q A n ad g wm dy tl hs) true ((0, t.2)) 0) kw_373 kw_374 kw_375 kw_19 kw_376 (by decide +kernel) (rl_ok (by omega) (by decide)) hF hz hS (q0 := 13) rfl rfl rfl hl.1 rfl (Nat.le_of_ble_eq_true rfl) dX8_ask_161 ⟨Nat.le_refl 0, Nat.le_refl 0⟩) hS (fun w8 H locs hw8 hS => ?_)
        subst hw8
        refine lv_iload hx hb dX8_ask_164 (lv_at hl 0 rfl) ?_
        exact m_iret hx hb hr hlk hS (⟨by show _ = if 2 ≤ kd (g j) ∧ kd (g j) < 5 then _ else _; rw [if_neg h5], by show _ = wT X (kC q A n ad g wm dy tl hs) false (te true (if 2 ≤ kd (g j) ∧ kd (g j) < 5 then _ else _) _); rw [if_neg h5]; rfl⟩) (Nat.le_refl 0) (Nat.le_refl 0) dX8_ask_166
      · have h6 : 5 ≤ kd (g j) := Nat.le_of_not_lt (fun q => h5 ⟨h6, q⟩)
        refine m_instN hx hb hG hown hF hS (j + 15) (kC_at hj) (hkd j hj) kw_140 (hF.2.2.2.2.2.2.1 _ h6 (hkd j hj)) dX8_ask_112 ?_
        refine lv_if_eq (tgt := 132) hx hb dX8_ask_115 (by decide) (fun c_4 => ?_) (fun c_4 => absurd (rfl) c_4)
        refine lv_goto (tgt := 157) hx hb dX8_ask_132 (by decide) ?_
        refine lv_aload_n hx hb dX8_ask_157 rfl (lv_at hl 2 rfl) ?_
        refine m_get (v := .ref (A 3)) hx hb hG hown hF hS (10) rfl rfl iG_8 2 (by decide) kw_58 (fun _ h9 => h9) rfl dX8_ask_158 ?_
        refine m_cv (m_runV (n := 0) (rest := []) ⟨hx, hb, hml, hown, hG⟩ (c_stop l X (kC q A n ad g wm dy tl hs) true ((0, t.2)) 0) kw_373 kw_374 kw_375 kw_19 kw_376 (by decide +kernel) (rl_ok (by omega) (by decide)) hF hz hS (q0 := 13) rfl rfl rfl hl.1 rfl (Nat.le_of_ble_eq_true rfl) dX8_ask_161 ⟨Nat.le_refl 0, Nat.le_refl 0⟩) hS (fun w8 H locs hw8 hS => ?_)
        subst hw8
        refine lv_iload hx hb dX8_ask_164 (lv_at hl 0 rfl) ?_
        exact m_iret hx hb hr hlk hS (⟨by show _ = if 2 ≤ kd (g j) ∧ kd (g j) < 5 then _ else _; rw [if_neg h5], by show _ = wT X (kC q A n ad g wm dy tl hs) false (te true (if 2 ≤ kd (g j) ∧ kd (g j) < 5 then _ else _) _); rw [if_neg h5]; rfl⟩) (Nat.le_refl 0) (Nat.le_refl 0) dX8_ask_166
  | 5, _ =>
    refine lv_tableOut (tgt := 135) hx hb dX8_ask_35 (by decide) (by decide) ?_
    refine lv_aload hx hb dX8_ask_135 (lv_at hl 1 rfl) ?_
    by_cases h5 : 5 ≤ kd (g j)
    · refine m_instY hx hb hG hown hF hS (j + 15) (kC_at hj) (hkd j hj) kw_185 (hF.2.2.2.2.1 _ h5 (hkd j hj)) dX8_ask_137 ?_
      refine lv_if_eq (tgt := 157) hx hb dX8_ask_140 (by decide) (fun c_4 => absurd c_4 (by decide)) (fun c_4 => ?_)
      refine lv_aload hx hb dX8_ask_143 (lv_at hl 1 rfl) ?_
      refine m_castY hx hb hG hown hF hS (j + 15) (kC_at hj) (hkd j hj) kw_185 (hF.2.2.2.2.1 _ h5 (hkd j hj)) dX8_ask_145 ?_
      refine lv_astore (lv' := [(6, .ref (ad j)), (5, .int (-3)), (4, .ref (ad j)), (0, .ref (A 0)), (1, .int (nI j)), (2, .int (nI 5)), (3, .int w)]) hx hb dX8_ask_148 hl (by decide) rfl (fun ls hl => ?_)
      refine lv_aload hx hb dX8_ask_150 (lv_at hl 0 rfl) ?_
      refine m_ci (m_runU (x := yX5_glaze) (owner := "DoughRoom$Sweet") (n := 0) (rest := []) ⟨hx, hb, hml, hown, hG⟩ (f_glaze l X (kC q A n ad g wm dy tl hs) true (0, t.2) (ad j) j (g j) (kd (g j)) 6 (kC_hi hj) rfl h5 (hkd j hj) (by decide) (hR.le (by decide))) kw_358 kw_361 kw_359 kw_369 (fam_glaze (kd (g j)) h5 (hkd j hj)).2.1 (fam_glaze (kd (g j)) h5 (hkd j hj)).1 (fam_glaze (kd (g j)) h5 (hkd j hj)).2.2.1 (fam_glaze (kd (g j)) h5 (hkd j hj)).2.2.2.1 (by decide +kernel) (rl_ok (by omega) (fam_glaze (kd (g j)) h5 (hkd j hj)).2.2.2.2) hF hz hS (q0 := j + 15) (kC_at hj) (kd_cls (hkd j hj)).1 rfl hl.1 rfl (Nat.le_of_ble_eq_true rfl) dX8_ask_152 ⟨Nat.le_refl 0, Nat.le_refl 0⟩) hS (fun r_5 w4 H locs hw4 hS => ?_)
      obtain ⟨rfl, rfl⟩ := hw4
      refine lv_istore (lv' := [(5, .int (glazeV (kd (g j)) (g j 1))), (6, .ref (ad j)), (4, .ref (ad j)), (0, .ref (A 0)), (1, .int (nI j)), (2, .int (nI 5)), (3, .int w)]) hx hb dX8_ask_155 hl (by decide) rfl (fun ls hl => ?_)
      refine lv_aload_n hx hb dX8_ask_157 rfl (lv_at hl 3 rfl) ?_
      refine m_get (v := .ref (A 3)) hx hb hG hown hF hS (10) rfl rfl iG_8 2 (by decide) kw_58 (fun _ h9 => h9) rfl dX8_ask_158 ?_
      refine m_cv (m_runV (n := 0) (rest := []) ⟨hx, hb, hml, hown, hG⟩ (c_stop l X (kC q A n ad g wm dy tl hs) true (te true (glazeT (kd (g j))) (0, t.2)) 0) kw_373 kw_374 kw_375 kw_19 kw_376 (by decide +kernel) (rl_ok (by omega) (by decide)) hF hz hS (q0 := 13) rfl rfl rfl hl.1 rfl (Nat.le_of_ble_eq_true rfl) dX8_ask_161 ⟨Nat.le_refl 0, Nat.le_refl 0⟩) hS (fun w8 H locs hw8 hS => ?_)
      subst hw8
      refine lv_iload hx hb dX8_ask_164 (lv_at hl 0 rfl) ?_
      exact m_iret hx hb hr hlk hS (⟨by show _ = if 5 ≤ kd (g j) then _ else _; rw [if_pos h5], by show _ = wT X (kC q A n ad g wm dy tl hs) false (te true (if 5 ≤ kd (g j) then _ else _) _); rw [if_pos h5]⟩) (Nat.le_refl 0) (Nat.le_refl 0) dX8_ask_166
    · refine m_instN hx hb hG hown hF hS (j + 15) (kC_at hj) (hkd j hj) kw_185 (hF.2.2.2.2.2.2.2 _ (Nat.lt_of_not_le h5)) dX8_ask_137 ?_
      refine lv_if_eq (tgt := 157) hx hb dX8_ask_140 (by decide) (fun c_4 => ?_) (fun c_4 => absurd (rfl) c_4)
      refine lv_aload_n hx hb dX8_ask_157 rfl (lv_at hl 2 rfl) ?_
      refine m_get (v := .ref (A 3)) hx hb hG hown hF hS (10) rfl rfl iG_8 2 (by decide) kw_58 (fun _ h9 => h9) rfl dX8_ask_158 ?_
      refine m_cv (m_runV (n := 0) (rest := []) ⟨hx, hb, hml, hown, hG⟩ (c_stop l X (kC q A n ad g wm dy tl hs) true ((0, t.2)) 0) kw_373 kw_374 kw_375 kw_19 kw_376 (by decide +kernel) (rl_ok (by omega) (by decide)) hF hz hS (q0 := 13) rfl rfl rfl hl.1 rfl (Nat.le_of_ble_eq_true rfl) dX8_ask_161 ⟨Nat.le_refl 0, Nat.le_refl 0⟩) hS (fun w8 H locs hw8 hS => ?_)
      subst hw8
      refine lv_iload hx hb dX8_ask_164 (lv_at hl 0 rfl) ?_
      exact m_iret hx hb hr hlk hS (⟨by show _ = if 5 ≤ kd (g j) then _ else _; rw [if_neg h5], by show _ = wT X (kC q A n ad g wm dy tl hs) false (te true (if 5 ≤ kd (g j) then _ else _) _); rw [if_neg h5]; rfl⟩) (Nat.le_refl 0) (Nat.le_refl 0) dX8_ask_166
end
section
/-- the first j batches changed by F -/
def gup (F : Rc → Rc) (g : Nat → Rc) (j : Nat) : Nat → Rc := fun i => if i < j then F (g i) else g i
theorem gup_0 (F : Rc → Rc) (g : Nat → Rc) : gup F g 0 = g := by funext i; simp [gup]
theorem gup_at (F : Rc → Rc) (g : Nat → Rc) (j : Nat) : gup F g j j = g j := by simp [gup]
theorem gup_lt {F : Rc → Rc} {g : Nat → Rc} {i j : Nat} (h : i < j) : gup F g j i = F (g i) := by simp [gup, h]
theorem gup_ge {F : Rc → Rc} {g : Nat → Rc} {i j : Nat} (h : j ≤ i) : gup F g j i = g i := by simp [gup, Nat.not_lt.mpr h]
theorem gup_s (F : Rc → Rc) (g : Nat → Rc) (j : Nat) : va_up (gup F g j) j (F (g j)) = gup F g (j + 1) := by
  funext i
  by_cases h : i = j
  · subst h; rw [va_up_self, gup_lt (Nat.lt_succ_self i)]
  · rw [va_up_ne _ _ h]
    by_cases h2 : i < j
    · rw [gup_lt h2, gup_lt (by omega)]
    · rw [gup_ge (by omega), gup_ge (by omega)]
theorem gup_skip {F : Rc → Rc} {g : Nat → Rc} {j : Nat} (h : F (g j) = g j) : gup F g (j + 1) = gup F g j := by
  rw [← gup_s, h]
  conv => lhs; rw [← gup_at F g j]
  rw [va_up_same]
theorem stepR_f {w : Int32} {rc : Rc} {f : Nat} (h3 : f ≠ 3) (h4 : f ≠ 4) : stepR w rc f = rc f := by
  unfold stepR
  by_cases h : rc 4 + riseV (kd rc) w ≤ 2 * needV (kd rc) (rc 1)
  · rw [if_pos h, va_up_ne _ _ h4]
  · rw [if_neg h, va_up_ne _ _ h3, va_up_ne _ _ h4]
theorem stepB_f {w : Int32} {rc : Rc} {f : Nat} (h3 : f ≠ 3) (h4 : f ≠ 5) : stepB w rc f = rc f := by
  unfold stepB
  by_cases h : rc 5 + brownV (kd rc) w ≤ 100
  · rw [if_pos h, va_up_ne _ _ h4]
  · rw [if_neg h, va_up_ne _ _ h3, va_up_ne _ _ h4]
theorem riseN_f {w : Int32} {f : Nat} (h3 : f ≠ 3) (h4 : f ≠ 4) : ∀ (n : Nat) (rc : Rc), riseN w n rc f = rc f
  | 0, _ => rfl
  | n + 1, rc => by
    by_cases h : rc 3 = 0
    · rw [riseN, if_pos h, riseN_f h3 h4 n, stepR_f h3 h4]
    · rw [riseN_0 h]
theorem brownN_f {w : Int32} {f : Nat} (h3 : f ≠ 3) (h4 : f ≠ 5) : ∀ (n : Nat) (rc : Rc), brownN w n rc f = rc f
  | 0, _ => rfl
  | n + 1, rc => by
    by_cases h : rc 3 = 1
    · rw [brownN, if_pos h, brownN_f h3 h4 n, stepB_f h3 h4]
    · rw [brownN_0 h]
/-- N minutes of one batch -/
def minR (w : Int32) (hs : Nat → Int32) (N : Nat) (rc : Rc) : Rc := if rc 3 = 0 then riseN w N rc else if rc 3 = 1 then brownN (hs (rc 6).toNatClampNeg) N rc else rc
theorem minR_f {w : Int32} {hs : Nat → Int32} {N f : Nat} {rc : Rc} (h3 : f ≠ 3) (h4 : f ≠ 4) (h5 : f ≠ 5) : minR w hs N rc f = rc f := by
  unfold minR
  by_cases h : rc 3 = 0
  · rw [if_pos h, riseN_f h3 h4]
  · rw [if_neg h]
    by_cases h1 : rc 3 = 1
    · rw [if_pos h1, brownN_f h3 h5]
    · rw [if_neg h1]
theorem minR_kd {w : Int32} {hs : Nat → Int32} {N : Nat} {rc : Rc} : kd (minR w hs N rc) = kd rc := by
  unfold kd; rw [minR_f (by decide) (by decide) (by decide)]
/-- for how many days one keeps -/
def keepK (rc : Rc) : Int32 := if 2 ≤ kd rc ∧ kd rc < 5 then keepsV (kd rc) (rc 1) else 1
def dayR (dy : Int32) (rc : Rc) : Rc := if rc 3 = 2 then if dy - rc 7 < keepK rc then rc else va_up rc 3 4 else rc
def dayC (dy : Int32) (g : Nat → Rc) : Nat → Int32
  | 0 => 0
  | n + 1 => if g n 3 = 2 then if dy - g n 7 < keepK (g n) then dayC dy g n else dayC dy g n + 1 else dayC dy g n
theorem dayR_f {dy : Int32} {rc : Rc} {f : Nat} (h3 : f ≠ 3) : dayR dy rc f = rc f := by
  unfold dayR
  by_cases h : rc 3 = 2
  · rw [if_pos h]
    by_cases h2 : dy - rc 7 < keepK rc
    · rw [if_pos h2]
    · rw [if_neg h2, va_up_ne _ _ h3]
  · rw [if_neg h]
theorem dayR_kd {dy : Int32} {rc : Rc} : kd (dayR dy rc) = kd rc := by
  unfold kd; rw [dayR_f (by decide)]
theorem gup_kd {F : Rc → Rc} {g : Nat → Rc} {n k : Nat} (hF : ∀ rc, kd (F rc) = kd rc) (h : ∀ i, i < n → kd (g i) < 7) : ∀ i, i < n → kd (gup F g k i) < 7 := fun i hi => by
  by_cases h2 : i < k
  · rw [gup_lt h2, hF]; exact h i hi
  · rw [gup_ge (by omega)]; exact h i hi
theorem fam_riseFor (k : Nat) (h2 : k < 7) : Cond.selects (RD k) yX2_riseFor yX2_riseFor ∈ G ∧ Cond.instanceMethod yX2_riseFor ∈ G ∧ Cond.initialized (yX2_riseFor).cls ∈ G ∧ Cond.code yX2_riseFor cX2_riseFor 6 none ∈ G ∧ 6 ≤ 8 :=
  match k, h2 with
  | 0, _ => ⟨kw_407, kw_406, kw_21, kw_415, by decide⟩
  | 1, _ => ⟨kw_414, kw_406, kw_21, kw_415, by decide⟩
  | 2, _ => ⟨kw_412, kw_406, kw_21, kw_415, by decide⟩
  | 3, _ => ⟨kw_411, kw_406, kw_21, kw_415, by decide⟩
  | 4, _ => ⟨kw_409, kw_406, kw_21, kw_415, by decide⟩
  | 5, _ => ⟨kw_413, kw_406, kw_21, kw_415, by decide⟩
  | 6, _ => ⟨kw_410, kw_406, kw_21, kw_415, by decide⟩
theorem fam_brownFor (k : Nat) (h2 : k < 7) : Cond.selects (RD k) yX2_brownFor yX2_brownFor ∈ G ∧ Cond.instanceMethod yX2_brownFor ∈ G ∧ Cond.initialized (yX2_brownFor).cls ∈ G ∧ Cond.code yX2_brownFor cX2_brownFor 5 none ∈ G ∧ 5 ≤ 8 :=
  match k, h2 with
  | 0, _ => ⟨kw_424, kw_423, kw_21, kw_432, by decide⟩
  | 1, _ => ⟨kw_431, kw_423, kw_21, kw_432, by decide⟩
  | 2, _ => ⟨kw_429, kw_423, kw_21, kw_432, by decide⟩
  | 3, _ => ⟨kw_428, kw_423, kw_21, kw_432, by decide⟩
  | 4, _ => ⟨kw_426, kw_423, kw_21, kw_432, by decide⟩
  | 5, _ => ⟨kw_430, kw_423, kw_21, kw_432, by decide⟩
  | 6, _ => ⟨kw_427, kw_423, kw_21, kw_432, by decide⟩
set_option maxHeartbeats 4000000 in
set_option maxRecDepth 100000 in
theorem mt_end {p : Program} {l : Launch} {e : Env} {R : Room} {s : State} {m : MethodId} {args : Array Value} {below : List Frame} {meth : Method} {c : Code} {X : Cx} {q : Nat → Nat × va_E} {A : Nat → Nat} {n : Nat} {ad : Nat → Nat} {g : Nat → Rc} {wm dy tl : Int32} {hs : Nat → Int32} {t : Tr} {H : Heap} {locs : List Loc} {x2 : Int32} {P : Int32 → va_W → Prop} {ls : Array Slot} (hn : n ≤ 40) (hkd : ∀ i, i < n → kd (g i) < 7) (hx : p.tables.exec = Jvm.exec) (hb : c.code = cX8_minutes) (hr : meth.sig.returnType = some .int) (hml : c.maxLocals = 7) (hown : s.vm.findClass RX8 = some m.cls) (hG : ∀ w ∈ G, w.before args s = true) (hlk : meth.locks = false) (hF : mF X s) (hz : X.2.2.2 ≤ s.heap.size) (hR : (rl 0).frames + 1 ≤ R.frames ∧ 8 + (7 + 11) + (rl 0).locals ≤ R.locals) (hS : mS X s (wT X (kC q A n ad g wm dy tl hs) false t) H locs) (hl : lv_has ls 7 [(0, .ref (A 0)), (2, .int x2)]) (hP : P (cnt g 4 n - x2) (wT X (kC q A n ad g wm dy tl hs) false t)) : W p l e R s m args below meth c H locs 0 0 (MQ below (va_Qi P (fun w t => mH X w t.heap) (xA X)) args s 0 0 (xA X)) (F0 m 104 ls []) := by
  refine lv_aload_n hx hb dX8_minutes_104 rfl (lv_at hl 0 rfl) ?_
  refine lv_iconst (v := 4) hx hb dX8_minutes_105 (by decide) ?_
  refine m_ci (m_runV (n := 1) (rest := []) ⟨hx, hb, hml, hown, hG⟩ (c_howMany l X q A n ad g wm dy tl hs t 4 0 hn hkd) kw_401 kw_403 kw_3 kw_18 kw_404 (by decide +kernel) hR hF hz hS (q0 := 10) rfl rfl rfl hl.1 rfl (Nat.le_of_ble_eq_true rfl) dX8_minutes_106 ⟨Nat.zero_le _, Nat.zero_le _⟩) hS (fun r_1 w1 H locs hw1 hS => ?_)
  obtain ⟨rfl, rfl⟩ := hw1
  refine lv_iload_n hx hb dX8_minutes_109 rfl (lv_at hl 1 rfl) ?_
  refine lv_isub hx hb dX8_minutes_110 ?_
  exact m_iret hx hb hr hlk hS (hP) (Nat.le_refl 0) (Nat.le_refl 0) dX8_minutes_111
theorem kC_atg {X : Cx} {q : Nat → Nat × va_E} {A : Nat → Nat} {n : Nat} {ad : Nat → Nat} {g : Nat → Rc} {wm dy tl : Int32} {hs : Nat → Int32} {r : Bool} {t : Tr} {j : Nat} {F : Rc → Rc} (h : j < n) : (wT X (kC q A n ad (gup F g j) wm dy tl hs) r t)[j + 15]? = some (ad j, dE (A 3) (g j)) := by
  rw [kC_at h, gup_at]
theorem kC_hig {q : Nat → Nat × va_E} {A : Nat → Nat} {n : Nat} {ad : Nat → Nat} {g : Nat → Rc} {wm dy tl : Int32} {hs : Nat → Int32} {j : Nat} {F : Rc → Rc} (h : j < n) : (kP (kC q A n ad (gup F g j) wm dy tl hs))[j]? = some (ad j, dE (kA (kC q A n ad (gup F g j) wm dy tl hs) 3) (g j)) := by
  rw [kC_hi h, gup_at]
theorem kC_setg {q : Nat → Nat × va_E} {A : Nat → Nat} {n : Nat} {ad : Nat → Nat} {g : Nat → Rc} {wm dy tl : Int32} {hs : Nat → Int32} {j : Nat} {F : Rc → Rc} {rc : Rc} (h : j < n) (e : F (g j) = rc) : kset (kC q A n ad (gup F g j) wm dy tl hs) j (ad j, dE (A 3) rc) = kC q A n ad (gup F g (j + 1)) wm dy tl hs := by
  rw [kC_set h, ← e, gup_s]
theorem wC_setg {X : Cx} {q : Nat → Nat × va_E} {A : Nat → Nat} {n : Nat} {ad : Nat → Nat} {g : Nat → Rc} {wm dy tl : Int32} {hs : Nat → Int32} {r : Bool} {t : Tr} {j : Nat} {F : Rc → Rc} {rc : Rc} (h : j < n) (e : F (g j) = rc) : (wT X (kC q A n ad (gup F g j) wm dy tl hs) r t).set (j + 15) (ad j, dE (A 3) rc) = wT X (kC q A n ad (gup F g (j + 1)) wm dy tl hs) r t := by
  rw [wT_set, kC_setg h e]
set_option maxHeartbeats 4000000 in
set_option maxRecDepth 100000 in
theorem mt_loop {p : Program} {l : Launch} {e : Env} {R : Room} {s : State} {m : MethodId} {args : Array Value} {below : List Frame} {meth : Method} {c : Code} {X : Cx} {q : Nat → Nat × va_E} {A : Nat → Nat} {n : Nat} {ad : Nat → Nat} {g : Nat → Rc} {wm dy tl : Int32} {hs : Nat → Int32} {t : Tr} {x2 : Int32} {N : Nat} {P : Int32 → va_W → Prop} (hN : N < 1000) (hn : n ≤ 40) (hkd : ∀ i, i < n → kd (g i) < 7) (hov : ∀ i, i < n → ∃ o, o < 3 ∧ g i 6 = nI o) (hx : p.tables.exec = Jvm.exec) (hb : c.code = cX8_minutes) (hr : meth.sig.returnType = some .int) (hml : c.maxLocals = 7) (hown : s.vm.findClass RX8 = some m.cls) (hG : ∀ w ∈ G, w.before args s = true) (hlk : meth.locks = false) (hF : mF X s) (hz : X.2.2.2 ≤ s.heap.size) (hR : (rl 0).frames + 1 ≤ R.frames ∧ 8 + (7 + 11) + (rl 0).locals ≤ R.locals) (hR2 : (rl 5).frames + 1 ≤ R.frames ∧ ∀ k, k ≤ 8 → 8 + (k + 11) + (rl 5).locals ≤ R.locals) (hP : P (cnt (gup (minR wm hs N) g n) 4 n - x2) (wT X (kC q A n ad (gup (minR wm hs N) g n) wm dy tl hs) false t)) : ∀ (d j : Nat) (x5 : Int32) (ls : Array Slot) (H : Heap) (locs : List Loc), x5 = nI j → j + d = 40 → mS X s (wT X (kC q A n ad (gup (minR wm hs N) g (min j n)) wm dy tl hs) false t) H locs → lv_has ls 7 [(5, .int x5), (0, .ref (A 0)), (1, .int (nI N)), (2, .int x2), (3, .ref (A 1)), (4, .int (nI 40))] → W p l e R s m args below meth c H locs 0 0 (MQ below (va_Qi P (fun w t => mH X w t.heap) (xA X)) args s 0 0 (xA X)) (F0 m 32 ls []) := by
  intro d
  induction d with
  | zero =>
    intro j x5 ls H locs ex hd hS hl
    have hj : j = 40 := by omega
    subst hj
    rw [Nat.min_eq_right hn] at hS
    refine lv_iload hx hb dX8_minutes_32 (lv_at hl 0 rfl) ?_
    refine lv_iload hx hb dX8_minutes_34 (lv_at hl 5 rfl) ?_
    refine lv_icmp_ge (tgt := 104) hx hb dX8_minutes_36 (by decide) (fun c_1 => ?_) (fun c_1 => absurd (by rw [ex]; exact Int32.le_refl _) c_1)
    exact mt_end hn (gup_kd (fun _ => minR_kd) hkd) hx hb hr hml hown hG hlk hF hz hR hS (lv_sub hl [1, 3] rfl) hP
  | succ d ih =>
    intro j x5 ls H locs ex hd hS hl
    subst ex
    refine lv_iload hx hb dX8_minutes_32 (lv_at hl 0 rfl) ?_
    refine lv_iload hx hb dX8_minutes_34 (lv_at hl 5 rfl) ?_
    refine lv_icmp_ge (tgt := 104) hx hb dX8_minutes_36 (by decide) (fun c_2 => absurd c_2 (nI_ge (by omega) (by decide))) (fun c_2 => ?_)
    refine lv_aload_n hx hb dX8_minutes_39 rfl (lv_at hl 4 rfl) ?_
    refine lv_iload hx hb dX8_minutes_40 (lv_at hl 0 rfl) ?_
    by_cases hj : j < n
    · rw [Nat.min_eq_left (Nat.le_of_lt hj)] at hS
      refine m_aaldS hx hb hF hS (11) rfl (j) rfl (by omega) (by decide) (bfn_in hj) dX8_minutes_42 ?_
      refine lv_astore (lv' := [(6, .ref (ad j)), (5, .int (nI j)), (0, .ref (A 0)), (1, .int (nI N)), (2, .int x2), (3, .ref (A 1)), (4, .int (nI 40))]) hx hb dX8_minutes_43 hl (by decide) rfl (fun ls hl => ?_)
      refine lv_aload hx hb dX8_minutes_45 (lv_at hl 0 rfl) ?_
      refine lv_ifnonnull (tgt := 53) hx hb dX8_minutes_47 (by decide) ?_
      refine lv_aload hx hb dX8_minutes_53 (lv_at hl 0 rfl) ?_
      refine m_get (v := .int (g j 3)) hx hb hG hown hF hS (j + 15) (kC_atg hj) (kd_cls (hkd j hj)).1 (kd_cls (hkd j hj)).2 3 (by decide) kw_116 (fun _ h9 => h9) rfl dX8_minutes_55 ?_
      refine lv_if_ne (tgt := 74) hx hb dX8_minutes_58 (by decide) (fun c_3 => ?_) (fun c_3 => ?_)
      · refine lv_aload hx hb dX8_minutes_74 (lv_at hl 0 rfl) ?_
        refine m_get (v := .int (g j 3)) hx hb hG hown hF hS (j + 15) (kC_atg hj) (kd_cls (hkd j hj)).1 (kd_cls (hkd j hj)).2 3 (by decide) kw_116 (fun _ h9 => h9) rfl dX8_minutes_76 ?_
        refine lv_iconst (v := 1) hx hb dX8_minutes_79 (by decide) ?_
        refine lv_icmp_ne (tgt := 98) hx hb dX8_minutes_80 (by decide) (fun c_4 => ?_) (fun c_4 => ?_)
        · obtain ⟨x_5, ex_5⟩ : ∃ y : Int32, y = (nI j) + 1 := ⟨_, rfl⟩
          refine lv_iinc (v := x_5) (lv' := [(5, .int x_5), (6, .ref (ad j)), (0, .ref (A 0)), (1, .int (nI N)), (2, .int x2), (3, .ref (A 1)), (4, .int (nI 40))]) hx hb dX8_minutes_98 hl (k := 1) rfl (by rw [ex_5]; rfl) (by decide) rfl (fun ls hl => ?_)
          refine lv_goto (tgt := 32) hx hb dX8_minutes_101 (by decide) ?_
          exact ih (j + 1) x_5 ls _ _ (by rw [ex_5]; exact nI_1 j) (by omega) (by rw [Nat.min_eq_left hj]; rw [gup_skip (by unfold minR; rw [if_neg c_3, if_neg c_4])]; exact hS) (lv_sub hl [0, 2, 3, 4, 5, 6] rfl)
        · obtain ⟨o, ho, eo⟩ := hov j hj
          refine lv_aload hx hb dX8_minutes_83 (lv_at hl 0 rfl) ?_
          refine lv_iload_n hx hb dX8_minutes_85 rfl (lv_at hl 3 rfl) ?_
          refine lv_aload_n hx hb dX8_minutes_86 rfl (lv_at hl 2 rfl) ?_
          refine lv_aload hx hb dX8_minutes_87 (lv_at hl 0 rfl) ?_
          refine m_get (v := .int (g j 6)) hx hb hG hown hF hS (j + 15) (kC_atg hj) (kd_cls (hkd j hj)).1 (kd_cls (hkd j hj)).2 6 (by decide) kw_121 (fun _ h9 => h9) rfl dX8_minutes_89 ?_
          rw [eo]
          refine m_ci (m_runV (n := 1) (rest := [.int (nI N), .ref (ad j)]) ⟨hx, hb, hml, hown, hG⟩ (c_heatOf l X q A n ad (gup (minR wm hs N) g j) wm dy tl hs t o 1 ho (by decide)) kw_418 kw_420 kw_4 kw_18 kw_421 (by decide +kernel) ⟨Nat.le_trans (by decide) hR2.1, Nat.le_trans (by decide) (hR2.2 2 (by decide))⟩ hF hz hS (q0 := 10) rfl rfl rfl hl.1 rfl (Nat.le_of_ble_eq_true rfl) dX8_minutes_92 ⟨Nat.zero_le _, Nat.zero_le _⟩) hS (fun r_5 w2 H locs hw2 hS => ?_)
          obtain ⟨rfl, rfl⟩ := hw2
          refine m_cv (m_runU (x := yX2_brownFor) (owner := "DoughRoom$Dough") (n := 2) (rest := []) ⟨hx, hb, hml, hown, hG⟩ (c_brownFor l X (kC q A n ad (gup (minR wm hs N) g j) wm dy tl hs) t (ad j) j N (g j) (hs o) 5 (kC_hig hj) (hkd j hj) hN (by decide)) kw_422 kw_425 kw_423 kw_432 (fam_brownFor (kd (g j)) (hkd j hj)).2.1 (fam_brownFor (kd (g j)) (hkd j hj)).1 (fam_brownFor (kd (g j)) (hkd j hj)).2.2.1 (fam_brownFor (kd (g j)) (hkd j hj)).2.2.2.1 (by decide +kernel) ⟨hR2.1, hR2.2 _ (by decide)⟩ hF hz hS (q0 := j + 15) (kC_atg hj) (kd_cls (hkd j hj)).1 rfl hl.1 rfl (Nat.le_of_ble_eq_true rfl) dX8_minutes_95 ⟨Nat.zero_le _, Nat.zero_le _⟩) hS (fun w3 H locs hw3 hS => ?_)
          subst hw3
          have hS := hS
          obtain ⟨x_6, ex_6⟩ : ∃ y : Int32, y = (nI j) + 1 := ⟨_, rfl⟩
          refine lv_iinc (v := x_6) (lv' := [(5, .int x_6), (6, .ref (ad j)), (0, .ref (A 0)), (1, .int (nI N)), (2, .int x2), (3, .ref (A 1)), (4, .int (nI 40))]) hx hb dX8_minutes_98 hl (k := 1) rfl (by rw [ex_6]; rfl) (by decide) rfl (fun ls hl => ?_)
          refine lv_goto (tgt := 32) hx hb dX8_minutes_101 (by decide) ?_
          exact ih (j + 1) x_6 ls _ _ (by rw [ex_6]; exact nI_1 j) (by omega) (by rw [Nat.min_eq_left hj]; rw [← kC_setg (rc := brownN (hs o) N (g j)) hj (by unfold minR; rw [if_neg c_3, if_pos c_4, eo, nI_clamp (by omega)])]; exact hS) (lv_sub hl [0, 2, 3, 4, 5, 6] rfl)
      · refine lv_aload hx hb dX8_minutes_61 (lv_at hl 0 rfl) ?_
        refine lv_iload_n hx hb dX8_minutes_63 rfl (lv_at hl 3 rfl) ?_
        refine lv_aload_n hx hb dX8_minutes_64 rfl (lv_at hl 2 rfl) ?_
        refine m_get (v := .int wm) hx hb hG hown hF hS (10) rfl rfl iG_8 4 (by decide) kw_60 (fun _ h9 => h9) rfl dX8_minutes_65 ?_
        refine m_cv (m_runU (x := yX2_riseFor) (owner := "DoughRoom$Dough") (n := 2) (rest := []) ⟨hx, hb, hml, hown, hG⟩ (c_riseFor l X (kC q A n ad (gup (minR wm hs N) g j) wm dy tl hs) t (ad j) j N (g j) wm 5 (kC_hig hj) (hkd j hj) hN (by decide)) kw_405 kw_408 kw_406 kw_415 (fam_riseFor (kd (g j)) (hkd j hj)).2.1 (fam_riseFor (kd (g j)) (hkd j hj)).1 (fam_riseFor (kd (g j)) (hkd j hj)).2.2.1 (fam_riseFor (kd (g j)) (hkd j hj)).2.2.2.1 (by decide +kernel) ⟨hR2.1, hR2.2 _ (by decide)⟩ hF hz hS (q0 := j + 15) (kC_atg hj) (kd_cls (hkd j hj)).1 rfl hl.1 rfl (Nat.le_of_ble_eq_true rfl) dX8_minutes_68 ⟨Nat.zero_le _, Nat.zero_le _⟩) hS (fun w3 H locs hw3 hS => ?_)
        subst hw3
        refine lv_goto (tgt := 98) hx hb dX8_minutes_71 (by decide) ?_
        obtain ⟨x_4, ex_4⟩ : ∃ y : Int32, y = (nI j) + 1 := ⟨_, rfl⟩
        refine lv_iinc (v := x_4) (lv' := [(5, .int x_4), (6, .ref (ad j)), (0, .ref (A 0)), (1, .int (nI N)), (2, .int x2), (3, .ref (A 1)), (4, .int (nI 40))]) hx hb dX8_minutes_98 hl (k := 1) rfl (by rw [ex_4]; rfl) (by decide) rfl (fun ls hl => ?_)
        refine lv_goto (tgt := 32) hx hb dX8_minutes_101 (by decide) ?_
        exact ih (j + 1) x_4 ls _ _ (by rw [ex_4]; exact nI_1 j) (by omega) (by rw [Nat.min_eq_left hj]; rw [← kC_setg (rc := riseN wm N (g j)) hj (by unfold minR; rw [if_pos c_3])]; exact hS) (lv_sub hl [0, 2, 3, 4, 5, 6] rfl)
    · rw [Nat.min_eq_right (by omega)] at hS
      refine m_aaldN hx hb hF hS (11) rfl (j) rfl (by omega) (by decide) (bfn_out (by omega)) dX8_minutes_42 ?_
      refine lv_astoreN (lv' := [(6, .null), (5, .int (nI j)), (0, .ref (A 0)), (1, .int (nI N)), (2, .int x2), (3, .ref (A 1)), (4, .int (nI 40))]) hx hb dX8_minutes_43 hl (by decide) rfl (fun ls hl => ?_)
      refine lv_aloadN hx hb dX8_minutes_45 (lv_at hl 0 rfl) ?_
      refine lv_ifnonnullN hx hb dX8_minutes_47 ?_
      refine lv_goto (tgt := 104) hx hb dX8_minutes_50 (by decide) ?_
      exact mt_end hn (gup_kd (fun _ => minR_kd) hkd) hx hb hr hml hown hG hlk hF hz hR hS (lv_sub hl [2, 4] rfl) hP
set_option maxHeartbeats 4000000 in
set_option maxRecDepth 100000 in
theorem c_minutes_bad (l : Launch) (X : Cx) (q : Nat → Nat × va_E) (A : Nat → Nat) (n : Nat) (ad : Nat → Nat) (g : Nat → Rc) (wm dy tl : Int32) (hs : Nat → Int32) (t : Tr) (N : Int32) (f : Nat) (hf : 1 ≤ f) (h0 : inB N 1 200 = 0) : cI l yX8_minutes cX8_minutes 7 (some .int) (rl f) X [.ref (A 0), .int N] (wT X (kC q A n ad g wm dy tl hs) false t) (fun r w => r = -2 ∧ w = wT X (kC q A n ad g wm dy tl hs) false t) := by
  refine met_start (by decide) (Nat.le_of_ble_eq_true rfl) ?_
  intro p e s m below meth c ls fx hS hl
  obtain ⟨hx, hb, hr, hml, hown, hG, hlk, hF, hz, hnm⟩ := fx
  have hown : s.vm.findClass RX8 = some m.cls := hown
  have hl : lv_has ls 7 [(0, .ref (A 0)), (1, .int N)] := hl
  refine lv_iload_n hx hb dX8_minutes_0 rfl (lv_at hl 1 rfl) ?_
  refine lv_iconst (v := 1) hx hb dX8_minutes_1 (by decide) ?_
  refine lv_sipush (v := 200) hx hb dX8_minutes_2 (by decide) ?_
  refine m_ci (m_runS (n := 3) (rest := []) ⟨hx, hb, hml, hown, hG⟩ (c_within l X (wT X (kC q A n ad g wm dy tl hs) false t) N 1 200 0) kw_82 kw_83 kw_18 kw_84 (by decide +kernel) (rl_ok (by omega) (by decide)) hF hz hS rfl hl.1 rfl (Nat.le_of_ble_eq_true rfl) dX8_minutes_5 ⟨Nat.zero_le _, Nat.zero_le _⟩) hS (fun r_1 w1 H locs hw1 hS => ?_)
  obtain ⟨rfl, rfl⟩ := hw1
  refine lv_if_ne (tgt := 14) hx hb dX8_minutes_8 (by decide) (fun c_2 => absurd (h0) c_2) (fun c_2 => ?_)
  refine lv_bipush (v := -2) hx hb dX8_minutes_11 (by decide) ?_
  exact m_iret hx hb hr hlk hS (⟨rfl, rfl⟩) (Nat.le_refl 0) (Nat.le_refl 0) dX8_minutes_13
set_option maxHeartbeats 4000000 in
set_option maxRecDepth 100000 in
theorem c_minutes (l : Launch) (X : Cx) (q : Nat → Nat × va_E) (A : Nat → Nat) (n : Nat) (ad : Nat → Nat) (g : Nat → Rc) (wm dy tl : Int32) (hs : Nat → Int32) (t : Tr) (N f : Nat) (hf : 6 ≤ f) (hN : N < 1000) (h0 : ¬ inB (nI N) 1 200 = 0) (hn : n ≤ 40) (hkd : ∀ i, i < n → kd (g i) < 7) (hov : ∀ i, i < n → ∃ o, o < 3 ∧ g i 6 = nI o) : cI l yX8_minutes cX8_minutes 7 (some .int) (rl f) X [.ref (A 0), .int (nI N)] (wT X (kC q A n ad g wm dy tl hs) false t) (fun r w => r = cnt (gup (minR wm hs N) g n) 4 n - cnt g 4 n ∧ w = wT X (kC q A n ad (gup (minR wm hs N) g n) wm dy tl hs) false t) := by
  refine met_start (by decide) (Nat.le_of_ble_eq_true rfl) ?_
  intro p e s m below meth c ls fx hS hl
  obtain ⟨hx, hb, hr, hml, hown, hG, hlk, hF, hz, hnm⟩ := fx
  have hown : s.vm.findClass RX8 = some m.cls := hown
  have hl : lv_has ls 7 [(0, .ref (A 0)), (1, .int (nI N))] := hl
  refine lv_iload_n hx hb dX8_minutes_0 rfl (lv_at hl 1 rfl) ?_
  refine lv_iconst (v := 1) hx hb dX8_minutes_1 (by decide) ?_
  refine lv_sipush (v := 200) hx hb dX8_minutes_2 (by decide) ?_
  refine m_ci (m_runS (n := 3) (rest := []) ⟨hx, hb, hml, hown, hG⟩ (c_within l X (wT X (kC q A n ad g wm dy tl hs) false t) (nI N) 1 200 0) kw_82 kw_83 kw_18 kw_84 (by decide +kernel) (rl_ok (by omega) (by decide)) hF hz hS rfl hl.1 rfl (Nat.le_of_ble_eq_true rfl) dX8_minutes_5 ⟨Nat.zero_le _, Nat.zero_le _⟩) hS (fun r_1 w1 H locs hw1 hS => ?_)
  obtain ⟨rfl, rfl⟩ := hw1
  refine lv_if_ne (tgt := 14) hx hb dX8_minutes_8 (by decide) (fun c_2 => ?_) (fun c_2 => absurd c_2 (h0))
  refine lv_aload_n hx hb dX8_minutes_14 rfl (lv_at hl 0 rfl) ?_
  refine lv_iconst (v := 4) hx hb dX8_minutes_15 (by decide) ?_
  refine m_ci (m_runV (n := 1) (rest := []) ⟨hx, hb, hml, hown, hG⟩ (c_howMany l X q A n ad g wm dy tl hs t 4 0 hn hkd) kw_401 kw_403 kw_3 kw_18 kw_404 (by decide +kernel) (rl_ok (by omega) (by decide)) hF hz hS (q0 := 10) rfl rfl rfl hl.1 rfl (Nat.le_of_ble_eq_true rfl) dX8_minutes_16 ⟨Nat.zero_le _, Nat.zero_le _⟩) hS (fun r_3 w2 H locs hw2 hS => ?_)
  obtain ⟨rfl, rfl⟩ := hw2
  refine lv_istore_n (lv' := [(2, .int (cnt g 4 n)), (0, .ref (A 0)), (1, .int (nI N))]) hx hb dX8_minutes_19 rfl hl (by decide) rfl (fun ls hl => ?_)
  refine lv_aload_n hx hb dX8_minutes_20 rfl (lv_at hl 1 rfl) ?_
  refine m_get (v := .ref (A 1)) hx hb hG hown hF hS (10) rfl rfl iG_8 0 (by decide) kw_56 (fun _ h9 => h9) rfl dX8_minutes_21 ?_
  refine lv_astore_n (lv' := [(3, .ref (A 1)), (2, .int (cnt g 4 n)), (0, .ref (A 0)), (1, .int (nI N))]) hx hb dX8_minutes_24 rfl hl (by decide) rfl (fun ls hl => ?_)
  refine lv_aload_n hx hb dX8_minutes_25 rfl (lv_at hl 0 rfl) ?_
  refine m_alenQ hx hb hF hS (11) rfl dX8_minutes_26 ?_
  refine lv_istore (lv' := [(4, .int (nI 40)), (3, .ref (A 1)), (2, .int (cnt g 4 n)), (0, .ref (A 0)), (1, .int (nI N))]) hx hb dX8_minutes_27 hl (by decide) rfl (fun ls hl => ?_)
  refine lv_iconst (v := 0) hx hb dX8_minutes_29 (by decide) ?_
  refine lv_istore (lv' := [(5, .int 0), (4, .int (nI 40)), (3, .ref (A 1)), (2, .int (cnt g 4 n)), (0, .ref (A 0)), (1, .int (nI N))]) hx hb dX8_minutes_30 hl (by decide) rfl (fun ls hl => ?_)
  refine mt_loop (N := N) hN hn hkd hov hx hb hr hml hown hG hlk hF hz (rl_ok (by omega) (by decide)) ⟨by show 5 + 1 ≤ f; omega, fun k hk => by show 8 + (k + 11) + 27 * 5 ≤ 27 * f; omega⟩ ⟨rfl, rfl⟩ 40 0 0 ls _ _ nI_0.symm (by omega) (by rw [Nat.zero_min, gup_0]; exact hS) (lv_sub hl [0, 4, 5, 3, 2, 1] rfl)
set_option maxHeartbeats 4000000 in
set_option maxRecDepth 100000 in
theorem dt_end {p : Program} {l : Launch} {e : Env} {R : Room} {s : State} {m : MethodId} {args : Array Value} {below : List Frame} {meth : Method} {c : Code} {X : Cx} {q : Nat → Nat × va_E} {A : Nat → Nat} {n : Nat} {ad : Nat → Nat} {g : Nat → Rc} {wm dy tl : Int32} {hs : Nat → Int32} {t : Tr} {H : Heap} {locs : List Loc} {x1 : Int32} {P : Int32 → va_W → Prop} {ls : Array Slot} (hx : p.tables.exec = Jvm.exec) (hb : c.code = cX8_day) (hr : meth.sig.returnType = some .int) (hml : c.maxLocals = 8) (hown : s.vm.findClass RX8 = some m.cls) (hG : ∀ w ∈ G, w.before args s = true) (hlk : meth.locks = false) (hF : mF X s) (hz : X.2.2.2 ≤ s.heap.size) (hS : mS X s (wT X (kC q A n ad g wm dy tl hs) false t) H locs) (hl : lv_has ls 8 [(0, .ref (A 0)), (1, .int x1)]) (hP : P x1 (wT X (kC q A n ad g wm (dy + 1) tl hs) false t)) : W p l e R s m args below meth c H locs 0 0 (MQ below (va_Qi P (fun w t => mH X w t.heap) (xA X)) args s 0 0 (xA X)) (F0 m 111 ls []) := by
  refine lv_aload_n hx hb dX8_day_111 rfl (lv_at hl 0 rfl) ?_
  refine lv_dup hx hb dX8_day_112 rfl ?_
  refine m_get (v := .int dy) hx hb hG hown hF hS (10) rfl rfl iG_8 5 (by decide) kw_61 (fun _ h9 => h9) rfl dX8_day_113 ?_
  refine lv_iconst (v := 1) hx hb dX8_day_116 (by decide) ?_
  refine lv_iadd hx hb dX8_day_117 ?_
  refine m_put hx hb hG hown hF hS (10) rfl rfl iG_8 tyX8_ok nmX8 5 (by decide) kw_61 (fun _ h9 => h9) rfl rfl rfl (Nat.le_of_ble_eq_true rfl) (wT X (kC q A n ad g wm (dy + 1) tl hs) false t) rfl dX8_day_118 (fun H locs hS => ?_)
  refine lv_iload_n hx hb dX8_day_121 rfl (lv_at hl 1 rfl) ?_
  exact m_iret hx hb hr hlk hS (hP) (Nat.le_refl 0) (Nat.le_refl 0) dX8_day_122
set_option maxHeartbeats 4000000 in
set_option maxRecDepth 100000 in
theorem dt_loop {p : Program} {l : Launch} {e : Env} {R : Room} {s : State} {m : MethodId} {args : Array Value} {below : List Frame} {meth : Method} {c : Code} {X : Cx} {q : Nat → Nat × va_E} {A : Nat → Nat} {n : Nat} {ad : Nat → Nat} {g : Nat → Rc} {wm dy tl : Int32} {hs : Nat → Int32} {t : Tr} {P : Int32 → va_W → Prop} (hn : n ≤ 40) (hkd : ∀ i, i < n → kd (g i) < 7) (hx : p.tables.exec = Jvm.exec) (hb : c.code = cX8_day) (hr : meth.sig.returnType = some .int) (hml : c.maxLocals = 8) (hown : s.vm.findClass RX8 = some m.cls) (hG : ∀ w ∈ G, w.before args s = true) (hlk : meth.locks = false) (hF : mF X s) (hz : X.2.2.2 ≤ s.heap.size) (hR2 : (rl 6).frames + 1 ≤ R.frames ∧ ∀ k, k ≤ 8 → 8 + (k + 11) + (rl 6).locals ≤ R.locals) (hP : P (dayC dy g n) (wT X (kC q A n ad (gup (dayR dy) g n) wm (dy + 1) tl hs) false t)) : ∀ (d j : Nat) (x4 x1 : Int32) (ls : Array Slot) (H : Heap) (locs : List Loc), x4 = nI j → j + d = 40 → x1 = dayC dy g (min j n) → mS X s (wT X (kC q A n ad (gup (dayR dy) g (min j n)) wm dy tl hs) false t) H locs → lv_has ls 8 [(4, .int x4), (1, .int x1), (0, .ref (A 0)), (2, .ref (A 1)), (3, .int (nI 40))] → W p l e R s m args below meth c H locs 0 0 (MQ below (va_Qi P (fun w t => mH X w t.heap) (xA X)) args s 0 0 (xA X)) (F0 m 26 ls []) := by
  intro d
  induction d with
  | zero =>
    intro j x4 x1 ls H locs ex hd e1 hS hl
    have hj : j = 40 := by omega
    subst hj
    rw [Nat.min_eq_right hn] at hS e1
    subst e1
    refine lv_iload hx hb dX8_day_26 (lv_at hl 0 rfl) ?_
    refine lv_iload_n hx hb dX8_day_28 rfl (lv_at hl 4 rfl) ?_
    refine lv_icmp_ge (tgt := 111) hx hb dX8_day_29 (by decide) (fun c_1 => ?_) (fun c_1 => absurd (by rw [ex]; exact Int32.le_refl _) c_1)
    exact dt_end hx hb hr hml hown hG hlk hF hz hS (lv_sub hl [2, 1] rfl) hP
  | succ d ih =>
    intro j x4 x1 ls H locs ex hd e1 hS hl
    subst ex
    refine lv_iload hx hb dX8_day_26 (lv_at hl 0 rfl) ?_
    refine lv_iload_n hx hb dX8_day_28 rfl (lv_at hl 4 rfl) ?_
    refine lv_icmp_ge (tgt := 111) hx hb dX8_day_29 (by decide) (fun c_2 => absurd c_2 (nI_ge (by omega) (by decide))) (fun c_2 => ?_)
    refine lv_aload_n hx hb dX8_day_32 rfl (lv_at hl 3 rfl) ?_
    refine lv_iload hx hb dX8_day_33 (lv_at hl 0 rfl) ?_
    by_cases hj : j < n
    · rw [Nat.min_eq_left (Nat.le_of_lt hj)] at hS e1
      refine m_aaldS hx hb hF hS (11) rfl (j) rfl (by omega) (by decide) (bfn_in hj) dX8_day_35 ?_
      refine lv_astore (lv' := [(5, .ref (ad j)), (4, .int (nI j)), (1, .int x1), (0, .ref (A 0)), (2, .ref (A 1)), (3, .int (nI 40))]) hx hb dX8_day_36 hl (by decide) rfl (fun ls hl => ?_)
      refine lv_aload hx hb dX8_day_38 (lv_at hl 0 rfl) ?_
      refine lv_ifnonnull (tgt := 46) hx hb dX8_day_40 (by decide) ?_
      refine lv_aload hx hb dX8_day_46 (lv_at hl 0 rfl) ?_
      refine m_get (v := .int (g j 3)) hx hb hG hown hF hS (j + 15) (kC_atg hj) (kd_cls (hkd j hj)).1 (kd_cls (hkd j hj)).2 3 (by decide) kw_116 (fun _ h9 => h9) rfl dX8_day_48 ?_
      refine lv_iconst (v := 2) hx hb dX8_day_51 (by decide) ?_
      refine lv_icmp_ne (tgt := 105) hx hb dX8_day_52 (by decide) (fun c_3 => ?_) (fun c_3 => ?_)
      · obtain ⟨x_4, ex_4⟩ : ∃ y : Int32, y = (nI j) + 1 := ⟨_, rfl⟩
        refine lv_iinc (v := x_4) (lv' := [(4, .int x_4), (5, .ref (ad j)), (1, .int x1), (0, .ref (A 0)), (2, .ref (A 1)), (3, .int (nI 40))]) hx hb dX8_day_105 hl (k := 1) rfl (by rw [ex_4]; rfl) (by decide) rfl (fun ls hl => ?_)
        refine lv_goto (tgt := 26) hx hb dX8_day_108 (by decide) ?_
        exact ih (j + 1) x_4 x1 ls _ _ (by rw [ex_4]; exact nI_1 j) (by omega) (by rw [Nat.min_eq_left hj, dayC]; rw [if_neg c_3, e1]) (by rw [Nat.min_eq_left hj]; rw [gup_skip (by unfold dayR; rw [if_neg c_3])]; exact hS) (lv_sub hl [0, 2, 3, 4, 5] rfl)
      · refine lv_aload hx hb dX8_day_55 (lv_at hl 0 rfl) ?_
        by_cases h5 : 2 ≤ kd (g j) ∧ kd (g j) < 5
        · refine m_instY hx hb hG hown hF hS (j + 15) (kC_atg hj) (hkd j hj) kw_140 (hF.2.2.2.1 _ h5.1 h5.2) dX8_day_57 ?_
          refine lv_if_eq (tgt := 78) hx hb dX8_day_60 (by decide) (fun c_4 => absurd c_4 (by decide)) (fun c_4 => ?_)
          refine lv_aload hx hb dX8_day_63 (lv_at hl 0 rfl) ?_
          refine m_castY hx hb hG hown hF hS (j + 15) (kC_atg hj) (hkd j hj) kw_140 (hF.2.2.2.1 _ h5.1 h5.2) dX8_day_65 ?_
          refine lv_astore (lv' := [(7, .ref (ad j)), (5, .ref (ad j)), (4, .int (nI j)), (1, .int x1), (0, .ref (A 0)), (2, .ref (A 1)), (3, .int (nI 40))]) hx hb dX8_day_68 hl (by decide) rfl (fun ls hl => ?_)
          refine lv_aload hx hb dX8_day_70 (lv_at hl 0 rfl) ?_
          refine m_ci (m_runU (x := yX4_keeps) (owner := "DoughRoom$Sour") (n := 0) (rest := []) ⟨hx, hb, hml, hown, hG⟩ (f_keeps l X (kC q A n ad (gup (dayR dy) g j) wm dy tl hs) false t (ad j) j (g j) (kd (g j)) 6 (kC_hig hj) rfl h5.1 h5.2 (by decide) tR.f) kw_344 kw_347 kw_345 kw_353 (fam_keeps (kd (g j)) h5.1 h5.2).2.1 (fam_keeps (kd (g j)) h5.1 h5.2).1 (fam_keeps (kd (g j)) h5.1 h5.2).2.2.1 (fam_keeps (kd (g j)) h5.1 h5.2).2.2.2.1 (by decide +kernel) ⟨hR2.1, hR2.2 _ (fam_keeps (kd (g j)) h5.1 h5.2).2.2.2.2⟩ hF hz hS (q0 := j + 15) (kC_atg hj) (kd_cls (hkd j hj)).1 rfl hl.1 rfl (Nat.le_of_ble_eq_true rfl) dX8_day_72 ⟨Nat.zero_le _, Nat.zero_le _⟩) hS (fun r_5 w3 H locs hw3 hS => ?_)
          obtain ⟨rfl, rfl⟩ := hw3
          refine lv_goto (tgt := 79) hx hb dX8_day_75 (by decide) ?_
          refine lv_istore (lv' := [(6, .int (keepsV (kd (g j)) (g j 1))), (7, .ref (ad j)), (5, .ref (ad j)), (4, .int (nI j)), (1, .int x1), (0, .ref (A 0)), (2, .ref (A 1)), (3, .int (nI 40))]) hx hb dX8_day_79 hl (by decide) rfl (fun ls hl => ?_)
          refine lv_aload_n hx hb dX8_day_81 rfl (lv_at hl 5 rfl) ?_
          refine m_get (v := .int dy) hx hb hG hown hF hS (10) rfl rfl iG_8 5 (by decide) kw_61 (fun _ h9 => h9) rfl dX8_day_82 ?_
          refine lv_aload hx hb dX8_day_85 (lv_at hl 2 rfl) ?_
          refine m_get (v := .int (g j 7)) hx hb hG hown hF hS (j + 15) (kC_atg hj) (kd_cls (hkd j hj)).1 (kd_cls (hkd j hj)).2 7 (by decide) kw_122 (fun _ h9 => h9) rfl dX8_day_87 ?_
          refine lv_isub hx hb dX8_day_90 ?_
          refine lv_iload hx hb dX8_day_91 (lv_at hl 0 rfl) ?_
          refine lv_icmp_lt (tgt := 105) hx hb dX8_day_93 (by decide) (fun c_6 => ?_) (fun c_6 => ?_)
          · obtain ⟨x_7, ex_7⟩ : ∃ y : Int32, y = (nI j) + 1 := ⟨_, rfl⟩
            refine lv_iinc (v := x_7) (lv' := [(4, .int x_7), (6, .int (keepsV (kd (g j)) (g j 1))), (7, .ref (ad j)), (5, .ref (ad j)), (1, .int x1), (0, .ref (A 0)), (2, .ref (A 1)), (3, .int (nI 40))]) hx hb dX8_day_105 hl (k := 3) rfl (by rw [ex_7]; rfl) (by decide) rfl (fun ls hl => ?_)
            refine lv_goto (tgt := 26) hx hb dX8_day_108 (by decide) ?_
            exact ih (j + 1) x_7 x1 ls _ _ (by rw [ex_7]; exact nI_1 j) (by omega) (by rw [Nat.min_eq_left hj, dayC]; rw [if_pos c_3, if_pos (by rw [keepK, if_pos h5]; exact c_6), e1]) (by rw [Nat.min_eq_left hj]; rw [gup_skip (by unfold dayR; rw [if_pos c_3, if_pos (by rw [keepK, if_pos h5]; exact c_6)])]; exact hS) (lv_sub hl [0, 4, 5, 6, 7] rfl)
          · refine lv_aload hx hb dX8_day_96 (lv_at hl 2 rfl) ?_
            refine lv_iconst (v := 4) hx hb dX8_day_98 (by decide) ?_
            refine m_put hx hb hG hown hF hS (j + 15) (kC_atg hj) (kd_cls (hkd j hj)).1 (kd_cls (hkd j hj)).2 tyX2_ok nmX2 3 (by decide) kw_116 (fun _ h9 => h9) rfl rfl rfl (Nat.le_of_ble_eq_true rfl) (wT X (kC q A n ad (gup (dayR dy) g (j + 1)) wm dy tl hs) false t) (wC_setg (rc := va_up (g j) 3 4) hj (by unfold dayR; rw [if_pos c_3, if_neg (by rw [keepK, if_pos h5]; exact c_6)])) dX8_day_99 (fun H locs hS => ?_)
            obtain ⟨x_7, ex_7⟩ : ∃ y : Int32, y = x1 + 1 := ⟨_, rfl⟩
            refine lv_iinc (v := x_7) (lv' := [(1, .int x_7), (6, .int (keepsV (kd (g j)) (g j 1))), (7, .ref (ad j)), (5, .ref (ad j)), (4, .int (nI j)), (0, .ref (A 0)), (2, .ref (A 1)), (3, .int (nI 40))]) hx hb dX8_day_102 hl (k := 4) rfl (by rw [ex_7]; rfl) (by decide) rfl (fun ls hl => ?_)
            obtain ⟨x_8, ex_8⟩ : ∃ y : Int32, y = (nI j) + 1 := ⟨_, rfl⟩
            refine lv_iinc (v := x_8) (lv' := [(4, .int x_8), (1, .int x_7), (6, .int (keepsV (kd (g j)) (g j 1))), (7, .ref (ad j)), (5, .ref (ad j)), (0, .ref (A 0)), (2, .ref (A 1)), (3, .int (nI 40))]) hx hb dX8_day_105 hl (k := 4) rfl (by rw [ex_8]; rfl) (by decide) rfl (fun ls hl => ?_)
            refine lv_goto (tgt := 26) hx hb dX8_day_108 (by decide) ?_
            exact ih (j + 1) x_8 x_7 ls _ _ (by rw [ex_8]; exact nI_1 j) (by omega) (by rw [Nat.min_eq_left hj, dayC]; rw [if_pos c_3, if_neg (by rw [keepK, if_pos h5]; exact c_6), ex_7, e1]) (by rw [Nat.min_eq_left hj]; skip; exact hS) (lv_sub hl [0, 1, 5, 6, 7] rfl)
        · rcases Nat.lt_or_ge (kd (g j)) 2 with h6 | h6
          · refine m_instN hx hb hG hown hF hS (j + 15) (kC_atg hj) (hkd j hj) kw_140 (hF.2.2.2.2.2.1 _ h6) dX8_day_57 ?_
            refine lv_if_eq (tgt := 78) hx hb dX8_day_60 (by decide) (fun c_4 => ?_) (fun c_4 => absurd (rfl) c_4)
            refine lv_iconst (v := 1) hx hb dX8_day_78 (by decide) ?_
            refine lv_istore (lv' := [(6, .int 1), (5, .ref (ad j)), (4, .int (nI j)), (1, .int x1), (0, .ref (A 0)), (2, .ref (A 1)), (3, .int (nI 40))]) hx hb dX8_day_79 hl (by decide) rfl (fun ls hl => ?_)
            refine lv_aload_n hx hb dX8_day_81 rfl (lv_at hl 4 rfl) ?_
            refine m_get (v := .int dy) hx hb hG hown hF hS (10) rfl rfl iG_8 5 (by decide) kw_61 (fun _ h9 => h9) rfl dX8_day_82 ?_
            refine lv_aload hx hb dX8_day_85 (lv_at hl 1 rfl) ?_
            refine m_get (v := .int (g j 7)) hx hb hG hown hF hS (j + 15) (kC_atg hj) (kd_cls (hkd j hj)).1 (kd_cls (hkd j hj)).2 7 (by decide) kw_122 (fun _ h9 => h9) rfl dX8_day_87 ?_
            refine lv_isub hx hb dX8_day_90 ?_
            refine lv_iload hx hb dX8_day_91 (lv_at hl 0 rfl) ?_
            refine lv_icmp_lt (tgt := 105) hx hb dX8_day_93 (by decide) (fun c_5 => ?_) (fun c_5 => ?_)
            · obtain ⟨x_6, ex_6⟩ : ∃ y : Int32, y = (nI j) + 1 := ⟨_, rfl⟩
              refine lv_iinc (v := x_6) (lv' := [(4, .int x_6), (6, .int 1), (5, .ref (ad j)), (1, .int x1), (0, .ref (A 0)), (2, .ref (A 1)), (3, .int (nI 40))]) hx hb dX8_day_105 hl (k := 2) rfl (by rw [ex_6]; rfl) (by decide) rfl (fun ls hl => ?_)
              refine lv_goto (tgt := 26) hx hb dX8_day_108 (by decide) ?_
              exact ih (j + 1) x_6 x1 ls _ _ (by rw [ex_6]; exact nI_1 j) (by omega) (by rw [Nat.min_eq_left hj, dayC]; rw [if_pos c_3, if_pos (by rw [keepK, if_neg h5]; exact c_5), e1]) (by rw [Nat.min_eq_left hj]; rw [gup_skip (by unfold dayR; rw [if_pos c_3, if_pos (by rw [keepK, if_neg h5]; exact c_5)])]; exact hS) (lv_sub hl [0, 3, 4, 5, 6] rfl)
            · refine lv_aload hx hb dX8_day_96 (lv_at hl 1 rfl) ?_
              refine lv_iconst (v := 4) hx hb dX8_day_98 (by decide) ?_
              refine m_put hx hb hG hown hF hS (j + 15) (kC_atg hj) (kd_cls (hkd j hj)).1 (kd_cls (hkd j hj)).2 tyX2_ok nmX2 3 (by decide) kw_116 (fun _ h9 => h9) rfl rfl rfl (Nat.le_of_ble_eq_true rfl) (wT X (kC q A n ad (gup (dayR dy) g (j + 1)) wm dy tl hs) false t) (wC_setg (rc := va_up (g j) 3 4) hj (by unfold dayR; rw [if_pos c_3, if_neg (by rw [keepK, if_neg h5]; exact c_5)])) dX8_day_99 (fun H locs hS => ?_)
              obtain ⟨x_6, ex_6⟩ : ∃ y : Int32, y = x1 + 1 := ⟨_, rfl⟩
              refine lv_iinc (v := x_6) (lv' := [(1, .int x_6), (6, .int 1), (5, .ref (ad j)), (4, .int (nI j)), (0, .ref (A 0)), (2, .ref (A 1)), (3, .int (nI 40))]) hx hb dX8_day_102 hl (k := 3) rfl (by rw [ex_6]; rfl) (by decide) rfl (fun ls hl => ?_)
              obtain ⟨x_7, ex_7⟩ : ∃ y : Int32, y = (nI j) + 1 := ⟨_, rfl⟩
              refine lv_iinc (v := x_7) (lv' := [(4, .int x_7), (1, .int x_6), (6, .int 1), (5, .ref (ad j)), (0, .ref (A 0)), (2, .ref (A 1)), (3, .int (nI 40))]) hx hb dX8_day_105 hl (k := 3) rfl (by rw [ex_7]; rfl) (by decide) rfl (fun ls hl => ?_)
              refine lv_goto (tgt := 26) hx hb dX8_day_108 (by decide) ?_
              exact ih (j + 1) x_7 x_6 ls _ _ (by rw [ex_7]; exact nI_1 j) (by omega) (by rw [Nat.min_eq_left hj, dayC]; rw [if_pos c_3, if_neg (by rw [keepK, if_neg h5]; exact c_5), ex_6, e1]) (by rw [Nat.min_eq_left hj]; skip; exact hS) (lv_sub hl [0, 1, 4, 5, 6] rfl)
          · have h6 : 5 ≤ kd (g j) := Nat.le_of_not_lt (fun q => h5 ⟨h6, q⟩)
            refine m_instN hx hb hG hown hF hS (j + 15) (kC_atg hj) (hkd j hj) kw_140 (hF.2.2.2.2.2.2.1 _ h6 (hkd j hj)) dX8_day_57 ?_
            refine lv_if_eq (tgt := 78) hx hb dX8_day_60 (by decide) (fun c_4 => ?_) (fun c_4 => absurd (rfl) c_4)
            refine lv_iconst (v := 1) hx hb dX8_day_78 (by decide) ?_
            refine lv_istore (lv' := [(6, .int 1), (5, .ref (ad j)), (4, .int (nI j)), (1, .int x1), (0, .ref (A 0)), (2, .ref (A 1)), (3, .int (nI 40))]) hx hb dX8_day_79 hl (by decide) rfl (fun ls hl => ?_)
            refine lv_aload_n hx hb dX8_day_81 rfl (lv_at hl 4 rfl) ?_
            refine m_get (v := .int dy) hx hb hG hown hF hS (10) rfl rfl iG_8 5 (by decide) kw_61 (fun _ h9 => h9) rfl dX8_day_82 ?_
            refine lv_aload hx hb dX8_day_85 (lv_at hl 1 rfl) ?_
            refine m_get (v := .int (g j 7)) hx hb hG hown hF hS (j + 15) (kC_atg hj) (kd_cls (hkd j hj)).1 (kd_cls (hkd j hj)).2 7 (by decide) kw_122 (fun _ h9 => h9) rfl dX8_day_87 ?_
            refine lv_isub hx hb dX8_day_90 ?_
            refine lv_iload hx hb dX8_day_91 (lv_at hl 0 rfl) ?_
            refine lv_icmp_lt (tgt := 105) hx hb dX8_day_93 (by decide) (fun c_5 => ?_) (fun c_5 => ?_)
            · obtain ⟨x_6, ex_6⟩ : ∃ y : Int32, y = (nI j) + 1 := ⟨_, rfl⟩
              refine lv_iinc (v := x_6) (lv' := [(4, .int x_6), (6, .int 1), (5, .ref (ad j)), (1, .int x1), (0, .ref (A 0)), (2, .ref (A 1)), (3, .int (nI 40))]) hx hb dX8_day_105 hl (k := 2) rfl (by rw [ex_6]; rfl) (by decide) rfl (fun ls hl => ?_)
              refine lv_goto (tgt := 26) hx hb dX8_day_108 (by decide) ?_
              exact ih (j + 1) x_6 x1 ls _ _ (by rw [ex_6]; exact nI_1 j) (by omega) (by rw [Nat.min_eq_left hj, dayC]; rw [if_pos c_3, if_pos (by rw [keepK, if_neg h5]; exact c_5), e1]) (by rw [Nat.min_eq_left hj]; rw [gup_skip (by unfold dayR; rw [if_pos c_3, if_pos (by rw [keepK, if_neg h5]; exact c_5)])]; exact hS) (lv_sub hl [0, 3, 4, 5, 6] rfl)
            · refine lv_aload hx hb dX8_day_96 (lv_at hl 1 rfl) ?_
              refine lv_iconst (v := 4) hx hb dX8_day_98 (by decide) ?_
              refine m_put hx hb hG hown hF hS (j + 15) (kC_atg hj) (kd_cls (hkd j hj)).1 (kd_cls (hkd j hj)).2 tyX2_ok nmX2 3 (by decide) kw_116 (fun _ h9 => h9) rfl rfl rfl (Nat.le_of_ble_eq_true rfl) (wT X (kC q A n ad (gup (dayR dy) g (j + 1)) wm dy tl hs) false t) (wC_setg (rc := va_up (g j) 3 4) hj (by unfold dayR; rw [if_pos c_3, if_neg (by rw [keepK, if_neg h5]; exact c_5)])) dX8_day_99 (fun H locs hS => ?_)
              obtain ⟨x_6, ex_6⟩ : ∃ y : Int32, y = x1 + 1 := ⟨_, rfl⟩
              refine lv_iinc (v := x_6) (lv' := [(1, .int x_6), (6, .int 1), (5, .ref (ad j)), (4, .int (nI j)), (0, .ref (A 0)), (2, .ref (A 1)), (3, .int (nI 40))]) hx hb dX8_day_102 hl (k := 3) rfl (by rw [ex_6]; rfl) (by decide) rfl (fun ls hl => ?_)
              obtain ⟨x_7, ex_7⟩ : ∃ y : Int32, y = (nI j) + 1 := ⟨_, rfl⟩
              refine lv_iinc (v := x_7) (lv' := [(4, .int x_7), (1, .int x_6), (6, .int 1), (5, .ref (ad j)), (0, .ref (A 0)), (2, .ref (A 1)), (3, .int (nI 40))]) hx hb dX8_day_105 hl (k := 3) rfl (by rw [ex_7]; rfl) (by decide) rfl (fun ls hl => ?_)
              refine lv_goto (tgt := 26) hx hb dX8_day_108 (by decide) ?_
              exact ih (j + 1) x_7 x_6 ls _ _ (by rw [ex_7]; exact nI_1 j) (by omega) (by rw [Nat.min_eq_left hj, dayC]; rw [if_pos c_3, if_neg (by rw [keepK, if_neg h5]; exact c_5), ex_6, e1]) (by rw [Nat.min_eq_left hj]; skip; exact hS) (lv_sub hl [0, 1, 4, 5, 6] rfl)
    · rw [Nat.min_eq_right (by omega)] at hS e1
      subst e1
      refine m_aaldN hx hb hF hS (11) rfl (j) rfl (by omega) (by decide) (bfn_out (by omega)) dX8_day_35 ?_
      refine lv_astoreN (lv' := [(5, .null), (4, .int (nI j)), (1, .int (dayC dy g n)), (0, .ref (A 0)), (2, .ref (A 1)), (3, .int (nI 40))]) hx hb dX8_day_36 hl (by decide) rfl (fun ls hl => ?_)
      refine lv_aloadN hx hb dX8_day_38 (lv_at hl 0 rfl) ?_
      refine lv_ifnonnullN hx hb dX8_day_40 ?_
      refine lv_goto (tgt := 111) hx hb dX8_day_43 (by decide) ?_
      exact dt_end hx hb hr hml hown hG hlk hF hz hS (lv_sub hl [3, 2] rfl) hP
set_option maxHeartbeats 4000000 in
set_option maxRecDepth 100000 in
theorem c_day_full (l : Launch) (X : Cx) (q : Nat → Nat × va_E) (A : Nat → Nat) (n : Nat) (ad : Nat → Nat) (g : Nat → Rc) (wm dy tl : Int32) (hs : Nat → Int32) (t : Tr) (f : Nat) (h0 : ¬ dy < 10000) : cI l yX8_day cX8_day 8 (some .int) (rl f) X [.ref (A 0)] (wT X (kC q A n ad g wm dy tl hs) false t) (fun r w => r = -4 ∧ w = wT X (kC q A n ad g wm dy tl hs) false t) := by
  refine met_start (by decide) (Nat.le_of_ble_eq_true rfl) ?_
  intro p e s m below meth c ls fx hS hl
  obtain ⟨hx, hb, hr, hml, hown, hG, hlk, hF, hz, hnm⟩ := fx
  have hown : s.vm.findClass RX8 = some m.cls := hown
  have hl : lv_has ls 8 [(0, .ref (A 0))] := hl
  refine lv_aload_n hx hb dX8_day_0 rfl (lv_at hl 0 rfl) ?_
  refine m_get (v := .int dy) hx hb hG hown hF hS (10) rfl rfl iG_8 5 (by decide) kw_61 (fun _ h9 => h9) rfl dX8_day_1 ?_
  refine lv_sipush (v := 10000) hx hb dX8_day_4 (by decide) ?_
  refine lv_icmp_lt (tgt := 13) hx hb dX8_day_7 (by decide) (fun c_1 => absurd c_1 (h0)) (fun c_1 => ?_)
  refine lv_bipush (v := -4) hx hb dX8_day_10 (by decide) ?_
  exact m_iret hx hb hr hlk hS (⟨rfl, rfl⟩) (Nat.le_refl 0) (Nat.le_refl 0) dX8_day_12
set_option maxHeartbeats 4000000 in
set_option maxRecDepth 100000 in
theorem c_day (l : Launch) (X : Cx) (q : Nat → Nat × va_E) (A : Nat → Nat) (n : Nat) (ad : Nat → Nat) (g : Nat → Rc) (wm dy tl : Int32) (hs : Nat → Int32) (t : Tr) (f : Nat) (hf : 7 ≤ f) (h0 : dy < 10000) (hn : n ≤ 40) (hkd : ∀ i, i < n → kd (g i) < 7) : cI l yX8_day cX8_day 8 (some .int) (rl f) X [.ref (A 0)] (wT X (kC q A n ad g wm dy tl hs) false t) (fun r w => r = dayC dy g n ∧ w = wT X (kC q A n ad (gup (dayR dy) g n) wm (dy + 1) tl hs) false t) := by
  refine met_start (by decide) (Nat.le_of_ble_eq_true rfl) ?_
  intro p e s m below meth c ls fx hS hl
  obtain ⟨hx, hb, hr, hml, hown, hG, hlk, hF, hz, hnm⟩ := fx
  have hown : s.vm.findClass RX8 = some m.cls := hown
  have hl : lv_has ls 8 [(0, .ref (A 0))] := hl
  refine lv_aload_n hx hb dX8_day_0 rfl (lv_at hl 0 rfl) ?_
  refine m_get (v := .int dy) hx hb hG hown hF hS (10) rfl rfl iG_8 5 (by decide) kw_61 (fun _ h9 => h9) rfl dX8_day_1 ?_
  refine lv_sipush (v := 10000) hx hb dX8_day_4 (by decide) ?_
  refine lv_icmp_lt (tgt := 13) hx hb dX8_day_7 (by decide) (fun c_1 => ?_) (fun c_1 => absurd (h0) c_1)
  refine lv_iconst (v := 0) hx hb dX8_day_13 (by decide) ?_
  refine lv_istore_n (lv' := [(1, .int 0), (0, .ref (A 0))]) hx hb dX8_day_14 rfl hl (by decide) rfl (fun ls hl => ?_)
  refine lv_aload_n hx hb dX8_day_15 rfl (lv_at hl 1 rfl) ?_
  refine m_get (v := .ref (A 1)) hx hb hG hown hF hS (10) rfl rfl iG_8 0 (by decide) kw_56 (fun _ h9 => h9) rfl dX8_day_16 ?_
  refine lv_astore_n (lv' := [(2, .ref (A 1)), (1, .int 0), (0, .ref (A 0))]) hx hb dX8_day_19 rfl hl (by decide) rfl (fun ls hl => ?_)
  refine lv_aload_n hx hb dX8_day_20 rfl (lv_at hl 0 rfl) ?_
  refine m_alenQ hx hb hF hS (11) rfl dX8_day_21 ?_
  refine lv_istore_n (lv' := [(3, .int (nI 40)), (2, .ref (A 1)), (1, .int 0), (0, .ref (A 0))]) hx hb dX8_day_22 rfl hl (by decide) rfl (fun ls hl => ?_)
  refine lv_iconst (v := 0) hx hb dX8_day_23 (by decide) ?_
  refine lv_istore (lv' := [(4, .int 0), (3, .int (nI 40)), (2, .ref (A 1)), (1, .int 0), (0, .ref (A 0))]) hx hb dX8_day_24 hl (by decide) rfl (fun ls hl => ?_)
  refine dt_loop hn hkd hx hb hr hml hown hG hlk hF hz ⟨by show 6 + 1 ≤ f; omega, fun k hk => by show 8 + (k + 11) + 27 * 6 ≤ 27 * f; omega⟩ ⟨rfl, rfl⟩ 40 0 0 0 ls _ _ nI_0.symm (by omega) (by rw [Nat.zero_min]; rfl) (by rw [Nat.zero_min, gup_0]; exact hS) (lv_sub hl [0, 3, 4, 2, 1] rfl)
end
section
/-- room with cells -/
def rr (f c s : Nat) : Room := { frames := f, cells := c, slots := s, locals := 27 * f }
theorem rr_ok {f f' c s mL : Nat} (h : f < f') (h2 : mL ≤ 8) : (rl f).frames + 1 ≤ (rr f' c s).frames ∧ 8 + (mL + 11) + (rl f).locals ≤ (rr f' c s).locals := rl_ok h h2
theorem rr_ok2 {f f' c s c' s' mL : Nat} (h : f < f') (h2 : mL ≤ 8) : (rr f c s).frames + 1 ≤ (rr f' c' s').frames ∧ 8 + (mL + 11) + (rr f c s).locals ≤ (rr f' c' s').locals := rl_ok h h2
def kpush (K : KT) (x : Nat × va_E) : KT := (K.1, K.2.1, K.2.2.1, K.2.2.2.1, K.2.2.2.2.1, K.2.2.2.2.2.1, K.2.2.2.2.2.2.1, K.2.2.2.2.2.2.2.1, K.2.2.2.2.2.2.2.2 ++ [x])
theorem kpush_at {K : KT} {x : Nat × va_E} : (kP (kpush K x))[(kP K).length]? = some x := by
  show ((kP K) ++ [x])[(kP K).length]? = some x
  rw [List.getElem?_append_right (Nat.le_refl _), Nat.sub_self]; rfl
theorem kpush_set {K : KT} {x y : Nat × va_E} : kset (kpush K x) (kP K).length y = kpush K y := by
  show (K.1, K.2.1, K.2.2.1, K.2.2.2.1, K.2.2.2.2.1, K.2.2.2.2.2.1, K.2.2.2.2.2.2.1, K.2.2.2.2.2.2.2.1, ((kP K) ++ [x]).set (kP K).length y) = _
  rw [List.set_append_right _ _ (Nat.le_refl _), Nat.sub_self]; rfl
set_option maxHeartbeats 4000000 in
set_option maxRecDepth 100000 in
theorem c_knead (l : Launch) (X : Cx) (K : KT) (t : Tr) (kk : Nat) (ma : Int32) (f : Nat) (hk : kk < 7) (hf : 6 ≤ f) : cQ l yX8_knead cX8_knead 3 (some (.object "DoughRoom$Dough")) (rr f 1 8) X [.ref (kA K 0), .int (nI kk), .int ma] (wT X K false t) (fun o w => ∃ h, o = some h ∧ w = wT X (kpush K (h, dM kk (kA K 3) (nI kk) ma)) false t) := by
  refine met_start (by decide) (Nat.le_of_ble_eq_true rfl) ?_
  intro p e s m below meth c ls fx hS hl
  obtain ⟨hx, hb, hr, hml, hown, hG, hlk, hF, hz, hnm⟩ := fx
  have hown : s.vm.findClass RX8 = some m.cls := hown
  have hl : lv_has ls 3 [(0, .ref (kA K 0)), (1, .int (nI kk)), (2, .int ma)] := hl
  refine lv_iload_n hx hb dX8_knead_0 rfl (lv_at hl 1 rfl) ?_
  match kk, hk with
  | 0, _ =>
    refine lv_tableOut (tgt := 124) hx hb dX8_knead_1 (by decide) (by decide) ?_
    refine m_new hx hb hG hown hF hz hS (ci := 0) rfl iG_0 tyX2_ok kw_37 kw_215 kw_21 [.int 0, .int 0, .null, .int 0, .int 0, .int 0, .int 0, .int 0] (fun j hj => by rcases (show j = 0 ∨ j = 1 ∨ j = 2 ∨ j = 3 ∨ j = 4 ∨ j = 5 ∨ j = 6 ∨ j = 7 by omega) with rfl | rfl | rfl | rfl | rfl | rfl | rfl | rfl <;> rfl) (Nat.le_refl 1) (Nat.le_refl 8) dX8_knead_124 (fun h H hS => ?_)
    have hS : mS X s (wT X (kpush K (h, dN 0)) false t) H [] := hS
    refine lv_dup hx hb dX8_knead_127 rfl ?_
    refine lv_iload_n hx hb dX8_knead_128 rfl (lv_at hl 1 rfl) ?_
    refine lv_iload_n hx hb dX8_knead_129 rfl (lv_at hl 2 rfl) ?_
    refine lv_aload_n hx hb dX8_knead_130 rfl (lv_at hl 0 rfl) ?_
    refine m_get (v := .ref (kA K 3)) hx hb hG hown hF hS (10) rfl rfl iG_8 2 (by decide) kw_58 (fun _ h9 => h9) rfl dX8_knead_131 ?_
    refine m_cv (m_runI (n := 3) (rest := [.ref h]) ⟨hx, hb, hml, hown, hG⟩ (c_Dinit l X (kpush K (h, dN 0)) t h (kP K).length 0 (nI 0) ma 1 kpush_at (by decide) (by decide)) kw_216 kw_95 kw_21 kw_96 rfl (by decide +kernel) (rr_ok (by omega) (by decide)) hF hz hS rfl hl.1 rfl (Nat.le_of_ble_eq_true rfl) dX8_knead_134 ⟨Nat.le_refl 1, Nat.le_refl 8⟩) hS (fun w1 H locs hw1 hS => ?_)
    subst hw1
    rw [kpush_set] at hS
    exact m_qret (r := some h) hx hb hr hlk hS ⟨h, rfl, rfl⟩ (Nat.le_refl 1) (Nat.le_refl 8) dX8_knead_137
  | 1, _ =>
    refine lv_tableIn (off := 39) (tgt := 40) hx hb dX8_knead_1 (by decide) (by decide) (by decide) (by decide) ?_
    refine m_new hx hb hG hown hF hz hS (ci := 1) rfl iG_1 tyX2_ok kw_89 kw_90 kw_22 [.int 0, .int 0, .null, .int 0, .int 0, .int 0, .int 0, .int 0] (fun j hj => by rcases (show j = 0 ∨ j = 1 ∨ j = 2 ∨ j = 3 ∨ j = 4 ∨ j = 5 ∨ j = 6 ∨ j = 7 by omega) with rfl | rfl | rfl | rfl | rfl | rfl | rfl | rfl <;> rfl) (Nat.le_refl 1) (Nat.le_refl 8) dX8_knead_40 (fun h H hS => ?_)
    have hS : mS X s (wT X (kpush K (h, dN 1)) false t) H [] := hS
    refine lv_dup hx hb dX8_knead_43 rfl ?_
    refine lv_iload_n hx hb dX8_knead_44 rfl (lv_at hl 1 rfl) ?_
    refine lv_iload_n hx hb dX8_knead_45 rfl (lv_at hl 2 rfl) ?_
    refine lv_aload_n hx hb dX8_knead_46 rfl (lv_at hl 0 rfl) ?_
    refine m_get (v := .ref (kA K 3)) hx hb hG hown hF hS (10) rfl rfl iG_8 2 (by decide) kw_58 (fun _ h9 => h9) rfl dX8_knead_47 ?_
    refine m_cv (m_runI (n := 3) (rest := [.ref h]) ⟨hx, hb, hml, hown, hG⟩ (c_Yinit l X (kpush K (h, dN 1)) t h (kP K).length 1 (nI 1) ma 2 kpush_at (by decide) (by decide)) kw_91 kw_92 kw_22 kw_93 rfl (by decide +kernel) (rr_ok (by omega) (by decide)) hF hz hS rfl hl.1 rfl (Nat.le_of_ble_eq_true rfl) dX8_knead_50 ⟨Nat.le_refl 1, Nat.le_refl 8⟩) hS (fun w1 H locs hw1 hS => ?_)
    subst hw1
    rw [kpush_set] at hS
    exact m_qret (r := some h) hx hb hr hlk hS ⟨h, rfl, rfl⟩ (Nat.le_refl 1) (Nat.le_refl 8) dX8_knead_53
  | 2, _ =>
    refine lv_tableIn (off := 53) (tgt := 54) hx hb dX8_knead_1 (by decide) (by decide) (by decide) (by decide) ?_
    refine m_new hx hb hG hown hF hz hS (ci := 2) rfl iG_2 tyX2_ok kw_140 kw_141 kw_23 [.int 0, .int 0, .null, .int 0, .int 0, .int 0, .int 0, .int 0] (fun j hj => by rcases (show j = 0 ∨ j = 1 ∨ j = 2 ∨ j = 3 ∨ j = 4 ∨ j = 5 ∨ j = 6 ∨ j = 7 by omega) with rfl | rfl | rfl | rfl | rfl | rfl | rfl | rfl <;> rfl) (Nat.le_refl 1) (Nat.le_refl 8) dX8_knead_54 (fun h H hS => ?_)
    have hS : mS X s (wT X (kpush K (h, dN 2)) false t) H [] := hS
    refine lv_dup hx hb dX8_knead_57 rfl ?_
    refine lv_iload_n hx hb dX8_knead_58 rfl (lv_at hl 1 rfl) ?_
    refine lv_iload_n hx hb dX8_knead_59 rfl (lv_at hl 2 rfl) ?_
    refine lv_aload_n hx hb dX8_knead_60 rfl (lv_at hl 0 rfl) ?_
    refine m_get (v := .ref (kA K 3)) hx hb hG hown hF hS (10) rfl rfl iG_8 2 (by decide) kw_58 (fun _ h9 => h9) rfl dX8_knead_61 ?_
    refine m_cv (m_runI (n := 3) (rest := [.ref h]) ⟨hx, hb, hml, hown, hG⟩ (c_Sinit l X (kpush K (h, dN 2)) t h (kP K).length 2 (nI 2) ma 3 kpush_at (by decide) (by decide)) kw_142 kw_143 kw_23 kw_144 rfl (by decide +kernel) (rr_ok (by omega) (by decide)) hF hz hS rfl hl.1 rfl (Nat.le_of_ble_eq_true rfl) dX8_knead_64 ⟨Nat.le_refl 1, Nat.le_refl 8⟩) hS (fun w1 H locs hw1 hS => ?_)
    subst hw1
    rw [kpush_set] at hS
    exact m_qret (r := some h) hx hb hr hlk hS ⟨h, rfl, rfl⟩ (Nat.le_refl 1) (Nat.le_refl 8) dX8_knead_67
  | 3, _ =>
    refine lv_tableIn (off := 67) (tgt := 68) hx hb dX8_knead_1 (by decide) (by decide) (by decide) (by decide) ?_
    refine m_new hx hb hG hown hF hz hS (ci := 3) rfl iG_3 tyX2_ok kw_155 kw_156 kw_24 [.int 0, .int 0, .null, .int 0, .int 0, .int 0, .int 0, .int 0] (fun j hj => by rcases (show j = 0 ∨ j = 1 ∨ j = 2 ∨ j = 3 ∨ j = 4 ∨ j = 5 ∨ j = 6 ∨ j = 7 by omega) with rfl | rfl | rfl | rfl | rfl | rfl | rfl | rfl <;> rfl) (Nat.le_refl 1) (Nat.le_refl 8) dX8_knead_68 (fun h H hS => ?_)
    have hS : mS X s (wT X (kpush K (h, dN 3)) false t) H [] := hS
    refine lv_dup hx hb dX8_knead_71 rfl ?_
    refine lv_iload_n hx hb dX8_knead_72 rfl (lv_at hl 1 rfl) ?_
    refine lv_iload_n hx hb dX8_knead_73 rfl (lv_at hl 2 rfl) ?_
    refine lv_aload_n hx hb dX8_knead_74 rfl (lv_at hl 0 rfl) ?_
    refine m_get (v := .ref (kA K 3)) hx hb hG hown hF hS (10) rfl rfl iG_8 2 (by decide) kw_58 (fun _ h9 => h9) rfl dX8_knead_75 ?_
    refine m_cv (m_runI (n := 3) (rest := [.ref h]) ⟨hx, hb, hml, hown, hG⟩ (c_Rinit l X (kpush K (h, dN 3)) t h (kP K).length 3 (nI 3) ma 4 kpush_at (by decide) (by decide)) kw_157 kw_158 kw_24 kw_159 rfl (by decide +kernel) (rr_ok (by omega) (by decide)) hF hz hS rfl hl.1 rfl (Nat.le_of_ble_eq_true rfl) dX8_knead_78 ⟨Nat.le_refl 1, Nat.le_refl 8⟩) hS (fun w1 H locs hw1 hS => ?_)
    subst hw1
    rw [kpush_set] at hS
    exact m_qret (r := some h) hx hb hr hlk hS ⟨h, rfl, rfl⟩ (Nat.le_refl 1) (Nat.le_refl 8) dX8_knead_81
  | 4, _ =>
    refine lv_tableIn (off := 81) (tgt := 82) hx hb dX8_knead_1 (by decide) (by decide) (by decide) (by decide) ?_
    refine m_new hx hb hG hown hF hz hS (ci := 4) rfl iG_4 tyX2_ok kw_170 kw_171 kw_25 [.int 0, .int 0, .null, .int 0, .int 0, .int 0, .int 0, .int 0] (fun j hj => by rcases (show j = 0 ∨ j = 1 ∨ j = 2 ∨ j = 3 ∨ j = 4 ∨ j = 5 ∨ j = 6 ∨ j = 7 by omega) with rfl | rfl | rfl | rfl | rfl | rfl | rfl | rfl <;> rfl) (Nat.le_refl 1) (Nat.le_refl 8) dX8_knead_82 (fun h H hS => ?_)
    have hS : mS X s (wT X (kpush K (h, dN 4)) false t) H [] := hS
    refine lv_dup hx hb dX8_knead_85 rfl ?_
    refine lv_iload_n hx hb dX8_knead_86 rfl (lv_at hl 1 rfl) ?_
    refine lv_iload_n hx hb dX8_knead_87 rfl (lv_at hl 2 rfl) ?_
    refine lv_aload_n hx hb dX8_knead_88 rfl (lv_at hl 0 rfl) ?_
    refine m_get (v := .ref (kA K 3)) hx hb hG hown hF hS (10) rfl rfl iG_8 2 (by decide) kw_58 (fun _ h9 => h9) rfl dX8_knead_89 ?_
    refine m_cv (m_runI (n := 3) (rest := [.ref h]) ⟨hx, hb, hml, hown, hG⟩ (c_Binit l X (kpush K (h, dN 4)) t h (kP K).length 4 (nI 4) ma 5 kpush_at (by decide) (by decide)) kw_172 kw_173 kw_25 kw_174 rfl (by decide +kernel) (rr_ok (by omega) (by decide)) hF hz hS rfl hl.1 rfl (Nat.le_of_ble_eq_true rfl) dX8_knead_92 ⟨Nat.le_refl 1, Nat.le_refl 8⟩) hS (fun w1 H locs hw1 hS => ?_)
    subst hw1
    rw [kpush_set] at hS
    exact m_qret (r := some h) hx hb hr hlk hS ⟨h, rfl, rfl⟩ (Nat.le_refl 1) (Nat.le_refl 8) dX8_knead_95
  | 5, _ =>
    refine lv_tableIn (off := 95) (tgt := 96) hx hb dX8_knead_1 (by decide) (by decide) (by decide) (by decide) ?_
    refine m_new hx hb hG hown hF hz hS (ci := 5) rfl iG_5 tyX2_ok kw_185 kw_186 kw_26 [.int 0, .int 0, .null, .int 0, .int 0, .int 0, .int 0, .int 0] (fun j hj => by rcases (show j = 0 ∨ j = 1 ∨ j = 2 ∨ j = 3 ∨ j = 4 ∨ j = 5 ∨ j = 6 ∨ j = 7 by omega) with rfl | rfl | rfl | rfl | rfl | rfl | rfl | rfl <;> rfl) (Nat.le_refl 1) (Nat.le_refl 8) dX8_knead_96 (fun h H hS => ?_)
    have hS : mS X s (wT X (kpush K (h, dN 5)) false t) H [] := hS
    refine lv_dup hx hb dX8_knead_99 rfl ?_
    refine lv_iload_n hx hb dX8_knead_100 rfl (lv_at hl 1 rfl) ?_
    refine lv_iload_n hx hb dX8_knead_101 rfl (lv_at hl 2 rfl) ?_
    refine lv_aload_n hx hb dX8_knead_102 rfl (lv_at hl 0 rfl) ?_
    refine m_get (v := .ref (kA K 3)) hx hb hG hown hF hS (10) rfl rfl iG_8 2 (by decide) kw_58 (fun _ h9 => h9) rfl dX8_knead_103 ?_
    refine m_cv (m_runI (n := 3) (rest := [.ref h]) ⟨hx, hb, hml, hown, hG⟩ (c_Winit l X (kpush K (h, dN 5)) t h (kP K).length 5 (nI 5) ma 2 kpush_at (by decide) (by decide)) kw_187 kw_188 kw_26 kw_189 rfl (by decide +kernel) (rr_ok (by omega) (by decide)) hF hz hS rfl hl.1 rfl (Nat.le_of_ble_eq_true rfl) dX8_knead_106 ⟨Nat.le_refl 1, Nat.le_refl 8⟩) hS (fun w1 H locs hw1 hS => ?_)
    subst hw1
    rw [kpush_set] at hS
    exact m_qret (r := some h) hx hb hr hlk hS ⟨h, rfl, rfl⟩ (Nat.le_refl 1) (Nat.le_refl 8) dX8_knead_109
  | 6, _ =>
    refine lv_tableIn (off := 109) (tgt := 110) hx hb dX8_knead_1 (by decide) (by decide) (by decide) (by decide) ?_
    refine m_new hx hb hG hown hF hz hS (ci := 6) rfl iG_6 tyX2_ok kw_200 kw_201 kw_27 [.int 0, .int 0, .null, .int 0, .int 0, .int 0, .int 0, .int 0] (fun j hj => by rcases (show j = 0 ∨ j = 1 ∨ j = 2 ∨ j = 3 ∨ j = 4 ∨ j = 5 ∨ j = 6 ∨ j = 7 by omega) with rfl | rfl | rfl | rfl | rfl | rfl | rfl | rfl <;> rfl) (Nat.le_refl 1) (Nat.le_refl 8) dX8_knead_110 (fun h H hS => ?_)
    have hS : mS X s (wT X (kpush K (h, dN 6)) false t) H [] := hS
    refine lv_dup hx hb dX8_knead_113 rfl ?_
    refine lv_iload_n hx hb dX8_knead_114 rfl (lv_at hl 1 rfl) ?_
    refine lv_iload_n hx hb dX8_knead_115 rfl (lv_at hl 2 rfl) ?_
    refine lv_aload_n hx hb dX8_knead_116 rfl (lv_at hl 0 rfl) ?_
    refine m_get (v := .ref (kA K 3)) hx hb hG hown hF hS (10) rfl rfl iG_8 2 (by decide) kw_58 (fun _ h9 => h9) rfl dX8_knead_117 ?_
    refine m_cv (m_runI (n := 3) (rest := [.ref h]) ⟨hx, hb, hml, hown, hG⟩ (c_Uinit l X (kpush K (h, dN 6)) t h (kP K).length 6 (nI 6) ma 3 kpush_at (by decide) (by decide)) kw_202 kw_203 kw_27 kw_204 rfl (by decide +kernel) (rr_ok (by omega) (by decide)) hF hz hS rfl hl.1 rfl (Nat.le_of_ble_eq_true rfl) dX8_knead_120 ⟨Nat.le_refl 1, Nat.le_refl 8⟩) hS (fun w1 H locs hw1 hS => ?_)
    subst hw1
    rw [kpush_set] at hS
    exact m_qret (r := some h) hx hb hr hlk hS ⟨h, rfl, rfl⟩ (Nat.le_refl 1) (Nat.le_refl 8) dX8_knead_123
set_option maxHeartbeats 4000000 in
set_option maxRecDepth 100000 in
theorem c_batch_bad (l : Launch) (X : Cx) (q : Nat → Nat × va_E) (A : Nat → Nat) (n : Nat) (ad : Nat → Nat) (g : Nat → Rc) (wm dy tl : Int32) (hs : Nat → Int32) (t : Tr) (k ma : Int32) (f : Nat) (hf : 7 ≤ f) (h0 : inB k 0 6 = 0 ∨ inB ma 1 500 = 0) : cI l yX8_batch cX8_batch 3 (some .int) (rr f 1 8) X [.ref (A 0), .int k, .int ma] (wT X (kC q A n ad g wm dy tl hs) false t) (fun r w => r = -2 ∧ w = wT X (kC q A n ad g wm dy tl hs) false t) := by
  refine met_start (by decide) (Nat.le_of_ble_eq_true rfl) ?_
  intro p e s m below meth c ls fx hS hl
  obtain ⟨hx, hb, hr, hml, hown, hG, hlk, hF, hz, hnm⟩ := fx
  have hown : s.vm.findClass RX8 = some m.cls := hown
  have hl : lv_has ls 3 [(0, .ref (A 0)), (1, .int k), (2, .int ma)] := hl
  refine lv_iload_n hx hb dX8_batch_0 rfl (lv_at hl 1 rfl) ?_
  refine lv_iconst (v := 0) hx hb dX8_batch_1 (by decide) ?_
  refine lv_bipush (v := 6) hx hb dX8_batch_2 (by decide) ?_
  refine m_ci (m_runS (n := 3) (rest := []) ⟨hx, hb, hml, hown, hG⟩ (c_within l X (wT X (kC q A n ad g wm dy tl hs) false t) k 0 6 0) kw_82 kw_83 kw_18 kw_84 (by decide +kernel) (rr_ok (by omega) (by decide)) hF hz hS rfl hl.1 rfl (Nat.le_of_ble_eq_true rfl) dX8_batch_4 ⟨Nat.zero_le _, Nat.zero_le _⟩) hS (fun r_1 w1 H locs hw1 hS => ?_)
  obtain ⟨rfl, rfl⟩ := hw1
  refine lv_if_eq (tgt := 21) hx hb dX8_batch_7 (by decide) (fun c_2 => ?_) (fun c_2 => ?_)
  · refine lv_bipush (v := -2) hx hb dX8_batch_21 (by decide) ?_
    exact m_iret hx hb hr hlk hS ⟨rfl, rfl⟩ (Nat.zero_le _) (Nat.zero_le _) dX8_batch_23
  · refine lv_iload_n hx hb dX8_batch_10 rfl (lv_at hl 2 rfl) ?_
    refine lv_iconst (v := 1) hx hb dX8_batch_11 (by decide) ?_
    refine lv_sipush (v := 500) hx hb dX8_batch_12 (by decide) ?_
    refine m_ci (m_runS (n := 3) (rest := []) ⟨hx, hb, hml, hown, hG⟩ (c_within l X (wT X (kC q A n ad g wm dy tl hs) false t) ma 1 500 0) kw_82 kw_83 kw_18 kw_84 (by decide +kernel) (rr_ok (by omega) (by decide)) hF hz hS rfl hl.1 rfl (Nat.le_of_ble_eq_true rfl) dX8_batch_15 ⟨Nat.zero_le _, Nat.zero_le _⟩) hS (fun r_3 w2 H locs hw2 hS => ?_)
    obtain ⟨rfl, rfl⟩ := hw2
    refine lv_if_ne (tgt := 24) hx hb dX8_batch_18 (by decide) (fun c_4 => absurd (h0.resolve_left c_2) c_4) (fun c_4 => ?_)
    refine lv_bipush (v := -2) hx hb dX8_batch_21 (by decide) ?_
    exact m_iret hx hb hr hlk hS ⟨rfl, rfl⟩ (Nat.zero_le _) (Nat.zero_le _) dX8_batch_23
set_option maxHeartbeats 4000000 in
set_option maxRecDepth 100000 in
theorem c_batch_full (l : Launch) (X : Cx) (q : Nat → Nat × va_E) (A : Nat → Nat) (n : Nat) (ad : Nat → Nat) (g : Nat → Rc) (wm dy tl : Int32) (hs : Nat → Int32) (t : Tr) (k ma : Int32) (f : Nat) (hf : 7 ≤ f) (h0 : ¬ inB k 0 6 = 0) (h1 : ¬ inB ma 1 500 = 0) (h2 : n = 40) : cI l yX8_batch cX8_batch 3 (some .int) (rr f 1 8) X [.ref (A 0), .int k, .int ma] (wT X (kC q A n ad g wm dy tl hs) false t) (fun r w => r = -4 ∧ w = wT X (kC q A n ad g wm dy tl hs) false t) := by
  refine met_start (by decide) (Nat.le_of_ble_eq_true rfl) ?_
  intro p e s m below meth c ls fx hS hl
  obtain ⟨hx, hb, hr, hml, hown, hG, hlk, hF, hz, hnm⟩ := fx
  have hown : s.vm.findClass RX8 = some m.cls := hown
  have hl : lv_has ls 3 [(0, .ref (A 0)), (1, .int k), (2, .int ma)] := hl
  refine lv_iload_n hx hb dX8_batch_0 rfl (lv_at hl 1 rfl) ?_
  refine lv_iconst (v := 0) hx hb dX8_batch_1 (by decide) ?_
  refine lv_bipush (v := 6) hx hb dX8_batch_2 (by decide) ?_
  refine m_ci (m_runS (n := 3) (rest := []) ⟨hx, hb, hml, hown, hG⟩ (c_within l X (wT X (kC q A n ad g wm dy tl hs) false t) (k) 0 6 0) kw_82 kw_83 kw_18 kw_84 (by decide +kernel) (rr_ok (by omega) (by decide)) hF hz hS rfl hl.1 rfl (Nat.le_of_ble_eq_true rfl) dX8_batch_4 ⟨Nat.zero_le _, Nat.zero_le _⟩) hS (fun r_1 w1 H locs hw1 hS => ?_)
  obtain ⟨rfl, rfl⟩ := hw1
  refine lv_if_eq (tgt := 21) hx hb dX8_batch_7 (by decide) (fun c_2 => absurd c_2 (h0)) (fun c_2 => ?_)
  refine lv_iload_n hx hb dX8_batch_10 rfl (lv_at hl 2 rfl) ?_
  refine lv_iconst (v := 1) hx hb dX8_batch_11 (by decide) ?_
  refine lv_sipush (v := 500) hx hb dX8_batch_12 (by decide) ?_
  refine m_ci (m_runS (n := 3) (rest := []) ⟨hx, hb, hml, hown, hG⟩ (c_within l X (wT X (kC q A n ad g wm dy tl hs) false t) ma 1 500 0) kw_82 kw_83 kw_18 kw_84 (by decide +kernel) (rr_ok (by omega) (by decide)) hF hz hS rfl hl.1 rfl (Nat.le_of_ble_eq_true rfl) dX8_batch_15 ⟨Nat.zero_le _, Nat.zero_le _⟩) hS (fun r_3 w2 H locs hw2 hS => ?_)
  obtain ⟨rfl, rfl⟩ := hw2
  refine lv_if_ne (tgt := 24) hx hb dX8_batch_18 (by decide) (fun c_4 => ?_) (fun c_4 => absurd c_4 (h1))
  refine lv_aload_n hx hb dX8_batch_24 rfl (lv_at hl 0 rfl) ?_
  refine m_get (v := .int (nI n)) hx hb hG hown hF hS (10) rfl rfl iG_8 3 (by decide) kw_59 (fun _ h9 => h9) rfl dX8_batch_25 ?_
  refine lv_if_lt (tgt := 43) hx hb dX8_batch_28 (by decide) (fun c_5 => absurd c_5 (nI_pos (by omega))) (fun c_5 => ?_)
  refine lv_aload_n hx hb dX8_batch_31 rfl (lv_at hl 0 rfl) ?_
  refine m_get (v := .int (nI n)) hx hb hG hown hF hS (10) rfl rfl iG_8 3 (by decide) kw_59 (fun _ h9 => h9) rfl dX8_batch_32 ?_
  refine lv_aload_n hx hb dX8_batch_35 rfl (lv_at hl 0 rfl) ?_
  refine m_get (v := .ref (A 1)) hx hb hG hown hF hS (10) rfl rfl iG_8 0 (by decide) kw_56 (fun _ h9 => h9) rfl dX8_batch_36 ?_
  refine m_alenQ hx hb hF hS (11) rfl dX8_batch_39 ?_
  refine lv_icmp_lt (tgt := 46) hx hb dX8_batch_40 (by decide) (fun c_6 => absurd c_6 (by rw [h2]; decide)) (fun c_6 => ?_)
  refine lv_bipush (v := -4) hx hb dX8_batch_43 (by decide) ?_
  exact m_iret hx hb hr hlk hS ⟨rfl, rfl⟩ (Nat.zero_le _) (Nat.zero_le _) dX8_batch_45
/-- a batch at its beginning -/
def rec0 (k m : Int32) : Rc := fun f => if f = 0 then k else if f = 1 then m else 0
theorem rec0_E {T kk : Nat} {m : Int32} (h : kk < 7) : dE T (rec0 (nI kk) m) = dM kk T (nI kk) m := by
  show Sum.inr (kd (rec0 (nI kk) m), dfs T (rec0 (nI kk) m)) = _
  rw [show kd (rec0 (nI kk) m) = kk from nI_clamp (n := kk) (by omega)]
  rfl
theorem bfn_push {n a : Nat} {ad : Nat → Nat} : va_up (bfn n ad) n (some a) = bfn (n + 1) (va_up ad n a) := by
  funext j
  by_cases h : j = n
  · subst h; rw [va_up_self, bfn_in (Nat.lt_succ_self j), va_up_self]
  · rw [va_up_ne _ _ h]
    by_cases h2 : j < n
    · rw [bfn_in h2, bfn_in (by omega), va_up_ne _ _ h]
    · rw [bfn_out (by omega), bfn_out (by omega)]
theorem pool_push {T n a : Nat} {ad : Nat → Nat} {g : Nat → Rc} {rc : Rc} : pool T n ad g ++ [(a, dE T rc)] = pool T (n + 1) (va_up ad n a) (va_up g n rc) := by
  apply List.ext_getElem?
  intro j
  by_cases h : j = n
  · subst h
    rw [pool_at (Nat.lt_succ_self j), va_up_self, va_up_self, List.getElem?_append_right (by rw [pool_len]; exact Nat.le_refl _), pool_len, Nat.sub_self]; rfl
  · by_cases h2 : j < n
    · rw [pool_at (by omega), va_up_ne _ _ h, va_up_ne _ _ h, List.getElem?_append_left (by rw [pool_len]; exact h2), pool_at h2]
    · rw [List.getElem?_eq_none (by rw [List.length_append, pool_len]; simp; omega), List.getElem?_eq_none (by rw [pool_len]; omega)]
set_option maxHeartbeats 4000000 in
set_option maxRecDepth 100000 in
theorem c_batch (l : Launch) (X : Cx) (q : Nat → Nat × va_E) (A : Nat → Nat) (n : Nat) (ad : Nat → Nat) (g : Nat → Rc) (wm dy tl : Int32) (hs : Nat → Int32) (t : Tr) (kk : Nat) (ma : Int32) (f : Nat) (hf : 7 ≤ f) (hk : kk < 7) (h0 : ¬ inB (nI kk) 0 6 = 0) (h1 : ¬ inB ma 1 500 = 0) (h2 : n < 40) : cI l yX8_batch cX8_batch 3 (some .int) (rr f 1 8) X [.ref (A 0), .int (nI kk), .int ma] (wT X (kC q A n ad g wm dy tl hs) false t) (fun r w => ∃ h, r = nI n ∧ w = wT X (kC q A (n + 1) (va_up ad n h) (va_up g n (rec0 (nI kk) ma)) wm dy tl hs) false t) := by
  refine met_start (by decide) (Nat.le_of_ble_eq_true rfl) ?_
  intro p e s m below meth c ls fx hS hl
  obtain ⟨hx, hb, hr, hml, hown, hG, hlk, hF, hz, hnm⟩ := fx
  have hown : s.vm.findClass RX8 = some m.cls := hown
  have hl : lv_has ls 3 [(0, .ref (A 0)), (1, .int (nI kk)), (2, .int ma)] := hl
  refine lv_iload_n hx hb dX8_batch_0 rfl (lv_at hl 1 rfl) ?_
  refine lv_iconst (v := 0) hx hb dX8_batch_1 (by decide) ?_
  refine lv_bipush (v := 6) hx hb dX8_batch_2 (by decide) ?_
  refine m_ci (m_runS (n := 3) (rest := []) ⟨hx, hb, hml, hown, hG⟩ (c_within l X (wT X (kC q A n ad g wm dy tl hs) false t) (nI kk) 0 6 0) kw_82 kw_83 kw_18 kw_84 (by decide +kernel) (rr_ok (by omega) (by decide)) hF hz hS rfl hl.1 rfl (Nat.le_of_ble_eq_true rfl) dX8_batch_4 ⟨Nat.zero_le _, Nat.zero_le _⟩) hS (fun r_1 w1 H locs hw1 hS => ?_)
  obtain ⟨rfl, rfl⟩ := hw1
  refine lv_if_eq (tgt := 21) hx hb dX8_batch_7 (by decide) (fun c_2 => absurd c_2 (h0)) (fun c_2 => ?_)
  refine lv_iload_n hx hb dX8_batch_10 rfl (lv_at hl 2 rfl) ?_
  refine lv_iconst (v := 1) hx hb dX8_batch_11 (by decide) ?_
  refine lv_sipush (v := 500) hx hb dX8_batch_12 (by decide) ?_
  refine m_ci (m_runS (n := 3) (rest := []) ⟨hx, hb, hml, hown, hG⟩ (c_within l X (wT X (kC q A n ad g wm dy tl hs) false t) ma 1 500 0) kw_82 kw_83 kw_18 kw_84 (by decide +kernel) (rr_ok (by omega) (by decide)) hF hz hS rfl hl.1 rfl (Nat.le_of_ble_eq_true rfl) dX8_batch_15 ⟨Nat.zero_le _, Nat.zero_le _⟩) hS (fun r_3 w2 H locs hw2 hS => ?_)
  obtain ⟨rfl, rfl⟩ := hw2
  refine lv_if_ne (tgt := 24) hx hb dX8_batch_18 (by decide) (fun c_4 => ?_) (fun c_4 => absurd c_4 (h1))
  refine lv_aload_n hx hb dX8_batch_24 rfl (lv_at hl 0 rfl) ?_
  refine m_get (v := .int (nI n)) hx hb hG hown hF hS (10) rfl rfl iG_8 3 (by decide) kw_59 (fun _ h9 => h9) rfl dX8_batch_25 ?_
  refine lv_if_lt (tgt := 43) hx hb dX8_batch_28 (by decide) (fun c_5 => absurd c_5 (nI_pos (by omega))) (fun c_5 => ?_)
  refine lv_aload_n hx hb dX8_batch_31 rfl (lv_at hl 0 rfl) ?_
  refine m_get (v := .int (nI n)) hx hb hG hown hF hS (10) rfl rfl iG_8 3 (by decide) kw_59 (fun _ h9 => h9) rfl dX8_batch_32 ?_
  refine lv_aload_n hx hb dX8_batch_35 rfl (lv_at hl 0 rfl) ?_
  refine m_get (v := .ref (A 1)) hx hb hG hown hF hS (10) rfl rfl iG_8 0 (by decide) kw_56 (fun _ h9 => h9) rfl dX8_batch_36 ?_
  refine m_alenQ hx hb hF hS (11) rfl dX8_batch_39 ?_
  refine lv_icmp_lt (tgt := 46) hx hb dX8_batch_40 (by decide) (fun c_6 => ?_) (fun c_6 => absurd (nI_lt h2 (by decide)) c_6)
  refine lv_aload_n hx hb dX8_batch_46 rfl (lv_at hl 0 rfl) ?_
  refine m_get (v := .ref (A 1)) hx hb hG hown hF hS (10) rfl rfl iG_8 0 (by decide) kw_56 (fun _ h9 => h9) rfl dX8_batch_47 ?_
  refine lv_aload_n hx hb dX8_batch_50 rfl (lv_at hl 0 rfl) ?_
  refine m_get (v := .int (nI n)) hx hb hG hown hF hS (10) rfl rfl iG_8 3 (by decide) kw_59 (fun _ h9 => h9) rfl dX8_batch_51 ?_
  refine lv_aload_n hx hb dX8_batch_54 rfl (lv_at hl 0 rfl) ?_
  refine lv_iload_n hx hb dX8_batch_55 rfl (lv_at hl 1 rfl) ?_
  refine lv_iload_n hx hb dX8_batch_56 rfl (lv_at hl 2 rfl) ?_
  refine m_cq (m_runV (n := 2) (rest := [.int (nI n), .ref (A 1)]) ⟨hx, hb, hml, hown, hG⟩ (c_knead l X (kC q A n ad g wm dy tl hs) t kk ma 6 hk (by decide)) kw_85 kw_87 kw_0 kw_18 kw_88 (by decide +kernel) (rr_ok2 (by omega) (by decide)) hF hz hS (q0 := 10) rfl rfl rfl hl.1 rfl (Nat.le_of_ble_eq_true rfl) dX8_batch_57 ⟨Nat.le_refl 1, Nat.le_refl 8⟩) hS (fun o_7 w3 H locs hw3 hS => ?_)
  obtain ⟨h, rfl, rfl⟩ := hw3
  have hv : (wT X (kpush (kC q A n ad g wm dy tl hs) (h, dM kk (A 3) (nI kk) ma)) false t)[n + 15]? = some (h, dM kk (A 3) (nI kk) ma) := by
    have h9 := kpush_at (K := (kC q A n ad g wm dy tl hs)) (x := (h, dM kk (A 3) (nI kk) ma))
    rw [show (kP (kC q A n ad g wm dy tl hs)).length = n from pool_len] at h9
    exact h9
  refine m_astq hx hb hF hS 11 (n + 15) rfl hv hk n rfl h2 (by decide) (wT X (q, A, nI n, wm, dy, tl, va_up (bfn n ad) n (some h), hs, pool (A 3) n ad g ++ [(h, dM kk (A 3) (nI kk) ma)]) false t) rfl dX8_batch_60 (fun H locs hS => ?_)
  refine lv_aload_n hx hb dX8_batch_61 rfl (lv_at hl 0 rfl) ?_
  refine lv_dup hx hb dX8_batch_62 rfl ?_
  refine m_get (v := .int (nI n)) hx hb hG hown hF hS (10) rfl rfl iG_8 3 (by decide) kw_59 (fun _ h9 => h9) rfl dX8_batch_63 ?_
  refine lv_iconst (v := 1) hx hb dX8_batch_66 (by decide) ?_
  refine lv_iadd hx hb dX8_batch_67 ?_
  refine m_put hx hb hG hown hF hS (10) rfl rfl iG_8 tyX8_ok nmX8 3 (by decide) kw_59 (fun _ h9 => h9) rfl rfl rfl (Nat.le_of_ble_eq_true rfl) (wT X (q, A, nI (n + 1), wm, dy, tl, va_up (bfn n ad) n (some h), hs, pool (A 3) n ad g ++ [(h, dM kk (A 3) (nI kk) ma)]) false t) (by rw [nI_1]; rfl) dX8_batch_68 (fun H locs hS => ?_)
  refine lv_aload_n hx hb dX8_batch_71 rfl (lv_at hl 0 rfl) ?_
  refine m_get (v := .int (nI (n + 1))) hx hb hG hown hF hS (10) rfl rfl iG_8 3 (by decide) kw_59 (fun _ h9 => h9) rfl dX8_batch_72 ?_
  refine lv_iconst (v := 1) hx hb dX8_batch_75 (by decide) ?_
  refine lv_isub hx hb dX8_batch_76 ?_
  exact m_iret hx hb hr hlk hS ⟨h, nI_pred n, by rw [bfn_push, ← rec0_E hk, pool_push]; rfl⟩ (Nat.le_refl 1) (Nat.le_refl 8) dX8_batch_77
set_option maxHeartbeats 4000000 in
set_option maxRecDepth 100000 in
theorem c_Tinit (l : Launch) (X : Cx) (x0 x1 x2 : Nat × va_E) (T f : Nat) (hf : 1 ≤ f) : cV l yX6_init cX6_init 1 (rr f 1 10) X [.ref T] [x0, x1, x2, (T, .inr (7, [.null, .int 0, .int 0]))] (fun w => ∃ TA, w = [x0, x1, x2, (T, .inr (7, [.ref TA, .int 0, .int 0])), (TA, .inl (X.2.1, 10, .inl (fun _ => 0)))]) := by
  refine met_start (by decide) (Nat.le_of_ble_eq_true rfl) ?_
  intro p e s m below meth c ls fx hS hl
  obtain ⟨hx, hb, hr, hml, hown, hG, hlk, hF, hz, hnm⟩ := fx
  have hown : s.vm.findClass RX6 = some m.cls := hown
  have hl : lv_has ls 1 [(0, .ref T)] := hl
  refine lv_aload_n hx hb dX6_init_0 rfl (lv_at hl 0 rfl) ?_
  refine W.objInit hx hb hown (hG _ kw_44) (hG _ kw_35) (hG _ kw_36) rfl (by rw [hml]; exact hl.1) rfl dX6_init_1 (by show 1 ≤ f; omega) (by show _ ≤ 27 * f; first | omega | (simp; omega)) ?_
  refine W.eq (g2 := F0 m 4 ls []) rfl ?_
  refine lv_aload_n hx hb dX6_init_4 rfl (lv_at hl 0 rfl) ?_
  refine lv_bipush (v := 10) hx hb dX6_init_5 (by decide) ?_
  refine m_newa hx hb hG hF hz hS kw_55 10 rfl (by decide) (Nat.le_refl 1) (Nat.le_refl 10) rfl dX6_init_7 (fun TA H hS => ?_)
  have hS : mS X s [x0, x1, x2, (T, .inr (7, [.null, .int 0, .int 0])), (TA, .inl (X.2.1, 10, .inl (fun _ => 0)))] H [] := hS
  refine m_putF hx hb hG hown hF hS (3) rfl rfl iG_7 tyX6_ok nmX6 0 (by decide) kw_45 (fun _ h9 => h9) rfl hnm rfl rfl rfl (Nat.le_of_ble_eq_true rfl) ([x0, x1, x2, (T, .inr (7, [.ref TA, .int 0, .int 0])), (TA, .inl (X.2.1, 10, .inl (fun _ => 0)))]) rfl dX6_init_9 (fun H locs hS => ?_)
  exact m_vret hx hb hr hlk hS ⟨TA, rfl⟩ (Nat.le_refl 1) (Nat.le_refl 10) dX6_init_12
set_option maxHeartbeats 4000000 in
set_option maxRecDepth 100000 in
theorem c_Rminit (l : Launch) (X : Cx) (Ro f : Nat) (hf : 2 ≤ f) : cV l yX8_init cX8_init 1 (rr f 4 56) X [.ref Ro] [(Ro, .inr (8, [.null, .null, .null, .int 0, .int 0, .int 0, .int 0]))] (fun w => ∃ BA HA T TA, w = [(Ro, .inr (8, [.ref BA, .ref HA, .ref T, .int 0, .int 20, .int 0, .int 0])), (BA, .inl (X.2.2.1, 40, .inr (.inr (.inr (.inr (fun _ => none)))))), (HA, .inl (X.2.1, 3, .inl (fun _ => 0))), (T, .inr (7, [.ref TA, .int 0, .int 0])), (TA, .inl (X.2.1, 10, .inl (fun _ => 0)))]) := by
  refine met_start (by decide) (Nat.le_of_ble_eq_true rfl) ?_
  intro p e s m below meth c ls fx hS hl
  obtain ⟨hx, hb, hr, hml, hown, hG, hlk, hF, hz, hnm⟩ := fx
  have hown : s.vm.findClass RX8 = some m.cls := hown
  have hl : lv_has ls 1 [(0, .ref Ro)] := hl
  refine lv_aload_n hx hb dX8_init_0 rfl (lv_at hl 0 rfl) ?_
  refine W.objInit hx hb hown (hG _ kw_34) (hG _ kw_35) (hG _ kw_36) rfl (by rw [hml]; exact hl.1) rfl dX8_init_1 (by show 1 ≤ f; omega) (by show _ ≤ 27 * f; first | omega | (simp; omega)) ?_
  refine W.eq (g2 := F0 m 4 ls []) rfl ?_
  refine lv_aload_n hx hb dX8_init_4 rfl (lv_at hl 0 rfl) ?_
  refine lv_bipush (v := 40) hx hb dX8_init_5 (by decide) ?_
  refine m_newq hx hb hG hown hF hz hS kw_37 40 rfl (by decide) (by show 0 + 1 ≤ 4; decide) (by show 0 + 40 ≤ 56; decide) dX8_init_7 (fun BA H hS => ?_)
  have hS : mS X s [(Ro, .inr (8, [.null, .null, .null, .int 0, .int 0, .int 0, .int 0])), (BA, .inl (X.2.2.1, 40, .inr (.inr (.inr (.inr (fun _ => none))))))] H [] := hS
  refine m_putF hx hb hG hown hF hS (0) rfl rfl iG_8 tyX8_ok nmX8 0 (by decide) kw_56 (fun _ h9 => h9) rfl hnm rfl rfl rfl (Nat.le_of_ble_eq_true rfl) ([(Ro, .inr (8, [.ref BA, .null, .null, .int 0, .int 0, .int 0, .int 0])), (BA, .inl (X.2.2.1, 40, .inr (.inr (.inr (.inr (fun _ => none))))))]) rfl dX8_init_10 (fun H locs hS => ?_)
  refine lv_aload_n hx hb dX8_init_13 rfl (lv_at hl 0 rfl) ?_
  refine lv_iconst (v := 3) hx hb dX8_init_14 (by decide) ?_
  refine m_newa hx hb hG hF hz hS kw_55 3 rfl (by decide) (by show 0 + 1 + 1 ≤ 4; decide) (by show 0 + 40 + 3 ≤ 56; decide) rfl dX8_init_15 (fun HA H hS => ?_)
  have hS : mS X s [(Ro, .inr (8, [.ref BA, .null, .null, .int 0, .int 0, .int 0, .int 0])), (BA, .inl (X.2.2.1, 40, .inr (.inr (.inr (.inr (fun _ => none)))))), (HA, .inl (X.2.1, 3, .inl (fun _ => 0)))] H locs := hS
  refine m_putF hx hb hG hown hF hS (0) rfl rfl iG_8 tyX8_ok nmX8 1 (by decide) kw_57 (fun _ h9 => h9) rfl hnm rfl rfl rfl (Nat.le_of_ble_eq_true rfl) ([(Ro, .inr (8, [.ref BA, .ref HA, .null, .int 0, .int 0, .int 0, .int 0])), (BA, .inl (X.2.2.1, 40, .inr (.inr (.inr (.inr (fun _ => none)))))), (HA, .inl (X.2.1, 3, .inl (fun _ => 0)))]) rfl dX8_init_17 (fun H locs hS => ?_)
  refine lv_aload_n hx hb dX8_init_20 rfl (lv_at hl 0 rfl) ?_
  refine m_new hx hb hG hown hF hz hS (ci := 7) rfl iG_7 tyX6_ok kw_39 kw_40 kw_19 [.null, .int 0, .int 0] (fun j hj => by rcases (show j = 0 ∨ j = 1 ∨ j = 2 by omega) with rfl | rfl | rfl <;> rfl) (by show 0 + 1 + 1 + 1 ≤ 4; decide) (by show 0 + 40 + 3 + 3 ≤ 56; decide) dX8_init_21 (fun T H hS => ?_)
  have hS : mS X s [(Ro, .inr (8, [.ref BA, .ref HA, .null, .int 0, .int 0, .int 0, .int 0])), (BA, .inl (X.2.2.1, 40, .inr (.inr (.inr (.inr (fun _ => none)))))), (HA, .inl (X.2.1, 3, .inl (fun _ => 0))), (T, .inr (7, [.null, .int 0, .int 0]))] H locs := hS
  refine lv_dup hx hb dX8_init_24 rfl ?_
  refine m_cv (m_runI (n := 0) (rest := [.ref T, .ref Ro]) ⟨hx, hb, hml, hown, hG⟩ (c_Tinit l X _ _ _ T 1 (by decide)) kw_41 kw_42 kw_19 kw_43 rfl (by decide +kernel) (rr_ok2 (by omega) (by decide)) hF hz hS rfl hl.1 rfl (Nat.le_of_ble_eq_true rfl) dX8_init_25 ⟨by show 0 + 1 + 1 + 1 + 1 ≤ 4; decide, by show 0 + 40 + 3 + 3 + 10 ≤ 56; decide⟩) hS (fun w1 H locs hw1 hS => ?_)
  obtain ⟨TA, rfl⟩ := hw1
  refine m_putF hx hb hG hown hF hS (0) rfl rfl iG_8 tyX8_ok nmX8 2 (by decide) kw_58 (fun _ h9 => h9) rfl hnm rfl rfl rfl (Nat.le_of_ble_eq_true rfl) ([(Ro, .inr (8, [.ref BA, .ref HA, .ref T, .int 0, .int 0, .int 0, .int 0])), (BA, .inl (X.2.2.1, 40, .inr (.inr (.inr (.inr (fun _ => none)))))), (HA, .inl (X.2.1, 3, .inl (fun _ => 0))), (T, .inr (7, [.ref TA, .int 0, .int 0])), (TA, .inl (X.2.1, 10, .inl (fun _ => 0)))]) rfl dX8_init_28 (fun H locs hS => ?_)
  refine lv_aload_n hx hb dX8_init_31 rfl (lv_at hl 0 rfl) ?_
  refine lv_bipush (v := 20) hx hb dX8_init_32 (by decide) ?_
  refine m_put hx hb hG hown hF hS (0) rfl rfl iG_8 tyX8_ok nmX8 4 (by decide) kw_60 (fun _ h9 => h9) rfl rfl rfl (Nat.le_of_ble_eq_true rfl) ([(Ro, .inr (8, [.ref BA, .ref HA, .ref T, .int 0, .int 20, .int 0, .int 0])), (BA, .inl (X.2.2.1, 40, .inr (.inr (.inr (.inr (fun _ => none)))))), (HA, .inl (X.2.1, 3, .inl (fun _ => 0))), (T, .inr (7, [.ref TA, .int 0, .int 0])), (TA, .inl (X.2.1, 10, .inl (fun _ => 0)))]) rfl dX8_init_34 (fun H locs hS => ?_)
  exact m_vret hx hb hr hlk hS ⟨BA, HA, T, TA, rfl⟩ (by show 0 + 1 + 1 + 1 + 1 ≤ 4; decide) (by show 0 + 40 + 3 + 3 + 10 ≤ 56; decide) dX8_init_37
end
section
/-! ===== the reference's cells: it, its arrays by a record for each batch, heats, the trace ===== -/
def wM (X : Cx) (B : Nat → Nat) (n : Nat) (wm dy tl : Int32) (g : Nat → Rc) (hs : Nat → Int32) (rest : va_W) (r : Bool) (t : Tr) : va_W :=
  (B 0, .inr (9, [.int (nI n), .ref (B 1), .ref (B 2), .ref (B 3), .ref (B 4), .ref (B 5), .ref (B 6), .ref (B 7), .int wm, .ref (B 8), .int dy, .int tl, .ref (B 9), .int (nI t.1), .int (bI r)])) ::
  (B 1, .inl (X.2.1, 40, .inl (fun i => g i 0))) :: (B 2, .inl (X.2.1, 40, .inl (fun i => g i 1))) :: (B 3, .inl (X.2.1, 40, .inl (fun i => g i 3))) :: (B 4, .inl (X.2.1, 40, .inl (fun i => g i 4))) ::
  (B 5, .inl (X.2.1, 40, .inl (fun i => g i 5))) :: (B 6, .inl (X.2.1, 40, .inl (fun i => g i 6))) :: (B 7, .inl (X.2.1, 40, .inl (fun i => g i 7))) :: (B 8, .inl (X.2.1, 3, .inl hs)) :: (B 9, .inl (X.2.1, 40, .inl t.2)) :: rest
theorem m_ialdv {p : Program} {l : Launch} {e : Env} {R : Room} {s : State} {m : MethodId} {args : Array Value} {below : List Frame} {meth : Method} {c : Code} {H : Heap} {locs : List Loc} {cells slots : Nat} {Q : State → Prop} {cc : ByteArray} {pc : Nat} {ls : Array Slot} {rest : List Value} {X : Cx} {a : Nat} {ws : va_W} (hx : p.tables.exec = Jvm.exec) (hb : c.code = cc) (hF : mF X s) (hS : mS X s ws H locs) (q0 : Nat) {n : Nat} {f : Nat → Int32} (he : ws[q0]? = some (a, .inl (X.2.1, n, .inl f))) {i v : Int32} (j : Nat) (hi : i = nI j) (hj : j < n) (hn : n < 2 ^ 31) (hv : f j = v) (hdg : decode cc pc = .ok (.iaload, 1))
    (kk : W p l e R s m args below meth c H locs cells slots Q (F0 m (pc + 1) ls (.int v :: rest))) : W p l e R s m args below meth c H locs cells slots Q (F0 m pc ls (.int i :: .ref a :: rest)) :=
  m_iald hx hb hF hS q0 he j hi hj hn hdg (by rw [hv]; exact kk)
theorem upd_f {g : Nat → Rc} {j f : Nat} {v : Int32} : upd (fun i => g i f) j v = fun i => va_up g j (va_up (g j) f v) i f := by
  funext i
  by_cases h : i = j
  · subst h; rw [pk_us, va_up_self, va_up_self]
  · rw [pk_un h, va_up_ne _ _ h]
theorem oth_f {g : Nat → Rc} {j f f2 : Nat} {v : Int32} (h2 : f2 ≠ f) : (fun i => va_up g j (va_up (g j) f v) i f2) = fun i => g i f2 := by
  funext i
  by_cases h : i = j
  · subst h; rw [va_up_self, va_up_ne _ _ h2]
  · rw [va_up_ne _ _ h]
theorem wM_s0 {X : Cx} {B : Nat → Nat} {n : Nat} {wm dy tl : Int32} {g : Nat → Rc} {hs : Nat → Int32} {rest : va_W} {r : Bool} {t : Tr} {j : Nat} {v : Int32} : (wM X B n wm dy tl g hs rest r t).set 1 (B 1, .inl (X.2.1, 40, .inl (upd (fun i => g i 0) j v))) = wM X B n wm dy tl (va_up g j (va_up (g j) 0 v)) hs rest r t := by
  show _ = wM X B n wm dy tl (va_up g j (va_up (g j) 0 v)) hs rest r t
  unfold wM
  rw [upd_f, oth_f (f2 := 1) (f := 0) (by decide), oth_f (f2 := 3) (f := 0) (by decide), oth_f (f2 := 4) (f := 0) (by decide), oth_f (f2 := 5) (f := 0) (by decide), oth_f (f2 := 6) (f := 0) (by decide), oth_f (f2 := 7) (f := 0) (by decide)]
  rfl
theorem wM_s1 {X : Cx} {B : Nat → Nat} {n : Nat} {wm dy tl : Int32} {g : Nat → Rc} {hs : Nat → Int32} {rest : va_W} {r : Bool} {t : Tr} {j : Nat} {v : Int32} : (wM X B n wm dy tl g hs rest r t).set 2 (B 2, .inl (X.2.1, 40, .inl (upd (fun i => g i 1) j v))) = wM X B n wm dy tl (va_up g j (va_up (g j) 1 v)) hs rest r t := by
  show _ = wM X B n wm dy tl (va_up g j (va_up (g j) 1 v)) hs rest r t
  unfold wM
  rw [upd_f, oth_f (f2 := 0) (f := 1) (by decide), oth_f (f2 := 3) (f := 1) (by decide), oth_f (f2 := 4) (f := 1) (by decide), oth_f (f2 := 5) (f := 1) (by decide), oth_f (f2 := 6) (f := 1) (by decide), oth_f (f2 := 7) (f := 1) (by decide)]
  rfl
theorem wM_s3 {X : Cx} {B : Nat → Nat} {n : Nat} {wm dy tl : Int32} {g : Nat → Rc} {hs : Nat → Int32} {rest : va_W} {r : Bool} {t : Tr} {j : Nat} {v : Int32} : (wM X B n wm dy tl g hs rest r t).set 3 (B 3, .inl (X.2.1, 40, .inl (upd (fun i => g i 3) j v))) = wM X B n wm dy tl (va_up g j (va_up (g j) 3 v)) hs rest r t := by
  show _ = wM X B n wm dy tl (va_up g j (va_up (g j) 3 v)) hs rest r t
  unfold wM
  rw [upd_f, oth_f (f2 := 0) (f := 3) (by decide), oth_f (f2 := 1) (f := 3) (by decide), oth_f (f2 := 4) (f := 3) (by decide), oth_f (f2 := 5) (f := 3) (by decide), oth_f (f2 := 6) (f := 3) (by decide), oth_f (f2 := 7) (f := 3) (by decide)]
  rfl
theorem wM_s4 {X : Cx} {B : Nat → Nat} {n : Nat} {wm dy tl : Int32} {g : Nat → Rc} {hs : Nat → Int32} {rest : va_W} {r : Bool} {t : Tr} {j : Nat} {v : Int32} : (wM X B n wm dy tl g hs rest r t).set 4 (B 4, .inl (X.2.1, 40, .inl (upd (fun i => g i 4) j v))) = wM X B n wm dy tl (va_up g j (va_up (g j) 4 v)) hs rest r t := by
  show _ = wM X B n wm dy tl (va_up g j (va_up (g j) 4 v)) hs rest r t
  unfold wM
  rw [upd_f, oth_f (f2 := 0) (f := 4) (by decide), oth_f (f2 := 1) (f := 4) (by decide), oth_f (f2 := 3) (f := 4) (by decide), oth_f (f2 := 5) (f := 4) (by decide), oth_f (f2 := 6) (f := 4) (by decide), oth_f (f2 := 7) (f := 4) (by decide)]
  rfl
theorem wM_s5 {X : Cx} {B : Nat → Nat} {n : Nat} {wm dy tl : Int32} {g : Nat → Rc} {hs : Nat → Int32} {rest : va_W} {r : Bool} {t : Tr} {j : Nat} {v : Int32} : (wM X B n wm dy tl g hs rest r t).set 5 (B 5, .inl (X.2.1, 40, .inl (upd (fun i => g i 5) j v))) = wM X B n wm dy tl (va_up g j (va_up (g j) 5 v)) hs rest r t := by
  show _ = wM X B n wm dy tl (va_up g j (va_up (g j) 5 v)) hs rest r t
  unfold wM
  rw [upd_f, oth_f (f2 := 0) (f := 5) (by decide), oth_f (f2 := 1) (f := 5) (by decide), oth_f (f2 := 3) (f := 5) (by decide), oth_f (f2 := 4) (f := 5) (by decide), oth_f (f2 := 6) (f := 5) (by decide), oth_f (f2 := 7) (f := 5) (by decide)]
  rfl
theorem wM_s6 {X : Cx} {B : Nat → Nat} {n : Nat} {wm dy tl : Int32} {g : Nat → Rc} {hs : Nat → Int32} {rest : va_W} {r : Bool} {t : Tr} {j : Nat} {v : Int32} : (wM X B n wm dy tl g hs rest r t).set 6 (B 6, .inl (X.2.1, 40, .inl (upd (fun i => g i 6) j v))) = wM X B n wm dy tl (va_up g j (va_up (g j) 6 v)) hs rest r t := by
  show _ = wM X B n wm dy tl (va_up g j (va_up (g j) 6 v)) hs rest r t
  unfold wM
  rw [upd_f, oth_f (f2 := 0) (f := 6) (by decide), oth_f (f2 := 1) (f := 6) (by decide), oth_f (f2 := 3) (f := 6) (by decide), oth_f (f2 := 4) (f := 6) (by decide), oth_f (f2 := 5) (f := 6) (by decide), oth_f (f2 := 7) (f := 6) (by decide)]
  rfl
theorem wM_s7 {X : Cx} {B : Nat → Nat} {n : Nat} {wm dy tl : Int32} {g : Nat → Rc} {hs : Nat → Int32} {rest : va_W} {r : Bool} {t : Tr} {j : Nat} {v : Int32} : (wM X B n wm dy tl g hs rest r t).set 7 (B 7, .inl (X.2.1, 40, .inl (upd (fun i => g i 7) j v))) = wM X B n wm dy tl (va_up g j (va_up (g j) 7 v)) hs rest r t := by
  show _ = wM X B n wm dy tl (va_up g j (va_up (g j) 7 v)) hs rest r t
  unfold wM
  rw [upd_f, oth_f (f2 := 0) (f := 7) (by decide), oth_f (f2 := 1) (f := 7) (by decide), oth_f (f2 := 3) (f := 7) (by decide), oth_f (f2 := 4) (f := 7) (by decide), oth_f (f2 := 5) (f := 7) (by decide), oth_f (f2 := 6) (f := 7) (by decide)]
  rfl
set_option maxHeartbeats 4000000 in
set_option maxRecDepth 100000 in
theorem c_in (l : Launch) (X : Cx) (ws : va_W) (v a b : Int32) (f : Nat) : cI l yX9_in cX9_in 3 (some .boolean) (rl f) X [.int v, .int a, .int b] ws (fun r w => r = inB v a b ∧ w = ws) := by
  refine met_start (by decide) (Nat.le_of_ble_eq_true rfl) ?_
  intro p e s m below meth c ls fx hS hl
  obtain ⟨hx, hb, hr, hml, hown, hG, hlk, hF, hz, hnm⟩ := fx
  have hown : s.vm.findClass RX9 = some m.cls := hown
  have hl : lv_has ls 3 [(0, .int v), (1, .int a), (2, .int b)] := hl
  refine lv_iload_n hx hb dX9_in_0 rfl (lv_at hl 0 rfl) ?_
  refine lv_iload_n hx hb dX9_in_1 rfl (lv_at hl 1 rfl) ?_
  refine lv_icmp_lt (tgt := 14) hx hb dX9_in_2 (by decide) (fun c_1 => ?_) (fun c_1 => ?_)
  · refine lv_iconst (v := 0) hx hb dX9_in_14 (by decide) ?_
    exact m_zret hx hb hr (by decide) hlk hS (⟨(inB_no (Or.inl c_1)).symm, rfl⟩) (Nat.le_refl 0) (Nat.le_refl 0) dX9_in_15
  · refine lv_iload_n hx hb dX9_in_5 rfl (lv_at hl 0 rfl) ?_
    refine lv_iload_n hx hb dX9_in_6 rfl (lv_at hl 2 rfl) ?_
    refine lv_icmp_gt (tgt := 14) hx hb dX9_in_7 (by decide) (fun c_2 => ?_) (fun c_2 => ?_)
    · refine lv_iconst (v := 0) hx hb dX9_in_14 (by decide) ?_
      exact m_zret hx hb hr (by decide) hlk hS (⟨(inB_no (Or.inr c_2)).symm, rfl⟩) (Nat.le_refl 0) (Nat.le_refl 0) dX9_in_15
    · refine lv_iconst (v := 1) hx hb dX9_in_10 (by decide) ?_
      refine lv_goto (tgt := 15) hx hb dX9_in_11 (by decide) ?_
      exact m_zret hx hb hr (by decide) hlk hS (⟨(inB_yes c_1 c_2).symm, rfl⟩) (Nat.le_refl 0) (Nat.le_refl 0) dX9_in_15
set_option maxHeartbeats 4000000 in
set_option maxRecDepth 100000 in
theorem M_isBatch (l : Launch) (X : Cx) (B : Nat → Nat) (n : Nat) (wm dy tl : Int32) (g : Nat → Rc) (hs : Nat → Int32) (rest : va_W) (r : Bool) (t : Tr) (b : Int32) (f : Nat) (hf : 1 ≤ f) : cI l yX9_isBatch cX9_isBatch 2 (some .boolean) (rl f) X [.ref (B 0), .int b] (wM X B n wm dy tl g hs rest r t) (fun v w => v = inB b 0 (nI n - 1) ∧ w = wM X B n wm dy tl g hs rest r t) := by
  refine met_start (by decide) (Nat.le_of_ble_eq_true rfl) ?_
  intro p e s m below meth c ls fx hS hl
  obtain ⟨hx, hb, hr, hml, hown, hG, hlk, hF, hz, hnm⟩ := fx
  have hown : s.vm.findClass RX9 = some m.cls := hown
  have hl : lv_has ls 2 [(0, .ref (B 0)), (1, .int b)] := hl
  refine lv_iload_n hx hb dX9_isBatch_0 rfl (lv_at hl 1 rfl) ?_
  refine lv_iconst (v := 0) hx hb dX9_isBatch_1 (by decide) ?_
  refine lv_aload_n hx hb dX9_isBatch_2 rfl (lv_at hl 0 rfl) ?_
  refine m_get (v := .int (nI n)) hx hb hG hown hF hS (0) rfl rfl iG_9 0 (by decide) kw_471 (fun _ h9 => h9) rfl dX9_isBatch_3 ?_
  refine lv_iconst (v := 1) hx hb dX9_isBatch_6 (by decide) ?_
  refine lv_isub hx hb dX9_isBatch_7 ?_
  refine m_ci (m_runS (n := 3) (rest := []) ⟨hx, hb, hml, hown, hG⟩ (c_in l X _ b 0 ((nI n) - 1) 0) kw_521 kw_522 kw_20 kw_523 (by decide +kernel) (rl_ok (by omega) (by decide)) hF hz hS rfl hl.1 rfl (Nat.le_of_ble_eq_true rfl) dX9_isBatch_8 ⟨Nat.zero_le _, Nat.zero_le _⟩) hS (fun r_1 w1 H locs hw1 hS => ?_)
  obtain ⟨rfl, rfl⟩ := hw1
  exact m_zret hx hb hr (inB_nar _ _ _) hlk hS ⟨rfl, rfl⟩ (Nat.le_refl 0) (Nat.le_refl 0) dX9_isBatch_11
theorem isB_yes {n j : Nat} (hj : j < n) (hn : n ≤ 40) : inB (nI j) 0 (nI n - 1) = 1 := by
  obtain ⟨k, rfl⟩ : ∃ k, n = k + 1 := ⟨n - 1, by omega⟩
  rw [nI_pred]
  exact inB_yes (nI_pos (by omega)) (nI_nlt (by omega) (by omega))
theorem isB_no {n : Nat} {b : Int32} (hn : n ≤ 40) (h : b < 0 ∨ nI n ≤ b) : inB b 0 (nI n - 1) = 0 := by
  rcases h with h | h
  · exact inB_no (Or.inl h)
  · refine inB_no (Or.inr ?_)
    have e1 : (nI n).toInt = n := nI_toInt (by omega)
    have e2 : (nI n - 1).toInt = (n : Int) - 1 := by
      have := pk_sub_toInt (a := n) (b := 1) (by omega) (by omega)
      exact this
    rw [Int32.lt_iff_toInt_lt, e2]
    rw [Int32.le_iff_toInt_le, e1] at h
    omega
set_option maxHeartbeats 4000000 in
set_option maxRecDepth 100000 in
theorem M_began (l : Launch) (X : Cx) (B : Nat → Nat) (n : Nat) (wm dy tl : Int32) (g : Nat → Rc) (hs : Nat → Int32) (rest : va_W) (r : Bool) (t : Tr) (x : Int32) (f : Nat) (ht : tR r 1 t) : cV l yX9_began cX9_began 2 (rl f) X [.ref (B 0), .int x] (wM X B n wm dy tl g hs rest r t) (fun w => w = wM X B n wm dy tl g hs rest r (te r [x] t)) := by
  refine met_start (by decide) (Nat.le_of_ble_eq_true rfl) ?_
  intro p e s m below meth c ls fx hS hl
  obtain ⟨hx, hb, hr, hml, hown, hG, hlk, hF, hz, hnm⟩ := fx
  have hown : s.vm.findClass RX9 = some m.cls := hown
  have hl : lv_has ls 2 [(0, .ref (B 0)), (1, .int x)] := hl
  cases r with
  | false =>
    refine lv_aload_n hx hb dX9_began_0 rfl (lv_at hl 0 rfl) ?_
    refine m_get (v := .int (bI false)) hx hb hG hown hF hS (0) rfl rfl iG_9 14 (by decide) kw_485 (fun _ h9 => h9) rfl dX9_began_1 ?_
    refine lv_if_eq (tgt := 27) hx hb dX9_began_4 (by decide) (fun c_1 => ?_) (fun c_1 => absurd (rfl) c_1)
    exact m_vret hx hb hr hlk hS (rfl) (Nat.le_refl 0) (Nat.le_refl 0) dX9_began_27
  | true =>
    have h10 : t.1 + 1 ≤ 10 := ht rfl
    refine lv_aload_n hx hb dX9_began_0 rfl (lv_at hl 0 rfl) ?_
    refine m_get (v := .int (bI true)) hx hb hG hown hF hS (0) rfl rfl iG_9 14 (by decide) kw_485 (fun _ h9 => h9) rfl dX9_began_1 ?_
    refine lv_if_eq (tgt := 27) hx hb dX9_began_4 (by decide) (fun c_1 => absurd c_1 (by decide)) (fun c_1 => ?_)
    refine lv_aload_n hx hb dX9_began_7 rfl (lv_at hl 0 rfl) ?_
    refine m_get (v := .ref (B 9)) hx hb hG hown hF hS (0) rfl rfl iG_9 12 (by decide) kw_483 (fun _ h9 => h9) rfl dX9_began_8 ?_
    refine lv_aload_n hx hb dX9_began_11 rfl (lv_at hl 0 rfl) ?_
    refine m_get (v := .int (nI t.1)) hx hb hG hown hF hS (0) rfl rfl iG_9 13 (by decide) kw_484 (fun _ h9 => h9) rfl dX9_began_12 ?_
    refine lv_iload_n hx hb dX9_began_15 rfl (lv_at hl 1 rfl) ?_
    refine m_iast hx hb hF hS (9) rfl (t.1) rfl (by omega) (by decide) (wM X B n wm dy tl g hs rest true (t.1, upd t.2 t.1 x)) rfl dX9_began_16 (fun H locs hS => ?_)
    refine lv_aload_n hx hb dX9_began_17 rfl (lv_at hl 0 rfl) ?_
    refine lv_dup hx hb dX9_began_18 rfl ?_
    refine m_get (v := .int (nI t.1)) hx hb hG hown hF hS (0) rfl rfl iG_9 13 (by decide) kw_484 (fun _ h9 => h9) rfl dX9_began_19 ?_
    refine lv_iconst (v := 1) hx hb dX9_began_22 (by decide) ?_
    refine lv_iadd hx hb dX9_began_23 ?_
    refine m_put hx hb hG hown hF hS (0) rfl rfl iG_9 tyX9_ok nmX9 13 (by decide) kw_484 (fun _ h9 => h9) rfl rfl rfl (Nat.le_of_ble_eq_true rfl) (wM X B n wm dy tl g hs rest true (t.1 + 1, upd t.2 t.1 x)) (by rw [nI_1]; rfl) dX9_began_24 (fun H locs hS => ?_)
    exact m_vret hx hb hr hlk hS (rfl) (Nat.le_refl 0) (Nat.le_refl 0) dX9_began_27
set_option maxHeartbeats 4000000 in
set_option maxRecDepth 100000 in
theorem M_rise (l : Launch) (X : Cx) (B : Nat → Nat) (n : Nat) (wm dy tl : Int32) (g : Nat → Rc) (hs : Nat → Int32) (rest : va_W) (r : Bool) (t : Tr) (j k : Nat) (w : Int32) (f : Nat) (hj : j < 40) (ek : g j 0 = nI k) (hk : k < 7) (hf : 1 ≤ f) (ht : tR r 3 t) : cI l yX9_rise cX9_rise 5 (some .int) (rl f) X [.ref (B 0), .int (nI j), .int w] (wM X B n wm dy tl g hs rest r t) (fun v w' => v = riseV k w ∧ w' = wM X B n wm dy tl g hs rest r (te r (riseT k) t)) := by
  refine met_start (by decide) (Nat.le_of_ble_eq_true rfl) ?_
  intro p e s m below meth c ls fx hS hl
  obtain ⟨hx, hb, hr, hml, hown, hG, hlk, hF, hz, hnm⟩ := fx
  have hown : s.vm.findClass RX9 = some m.cls := hown
  have hl : lv_has ls 5 [(0, .ref (B 0)), (1, .int (nI j)), (2, .int w)] := hl
  match k, hk, ek with
  | 0, _, ek =>
    refine lv_aload_n hx hb dX9_rise_0 rfl (lv_at hl 0 rfl) ?_
    refine m_get (v := .ref (B 1)) hx hb hG hown hF hS (0) rfl rfl iG_9 1 (by decide) kw_472 (fun _ h9 => h9) rfl dX9_rise_1 ?_
    refine lv_iload_n hx hb dX9_rise_4 rfl (lv_at hl 1 rfl) ?_
    refine m_ialdv (v := nI 0) hx hb hF hS (1) rfl (j) rfl (hj) (by decide) (ek) dX9_rise_5 ?_
    refine lv_istore_n (lv' := [(3, .int (nI 0)), (0, .ref (B 0)), (1, .int (nI j)), (2, .int w)]) hx hb dX9_rise_6 rfl hl (by decide) rfl (fun ls hl => ?_)
    refine lv_iload_n hx hb dX9_rise_7 rfl (lv_at hl 0 rfl) ?_
    refine lv_iconst (v := 4) hx hb dX9_rise_8 (by decide) ?_
    refine lv_icmp_ne (tgt := 17) hx hb dX9_rise_9 (by decide) (fun c_1 => ?_) (fun c_1 => absurd c_1 (by decide))
    refine lv_iload_n hx hb dX9_rise_17 rfl (lv_at hl 0 rfl) ?_
    refine lv_iconst (v := 2) hx hb dX9_rise_18 (by decide) ?_
    refine lv_iconst (v := 4) hx hb dX9_rise_19 (by decide) ?_
    refine m_ci (m_runS (n := 3) (rest := []) ⟨hx, hb, hml, hown, hG⟩ (c_in l X _ (nI 0) 2 4 0) kw_521 kw_522 kw_20 kw_523 (by decide +kernel) (rl_ok (by omega) (by decide)) hF hz hS rfl hl.1 rfl (Nat.le_of_ble_eq_true rfl) dX9_rise_20 ⟨Nat.zero_le _, Nat.zero_le _⟩) hS (fun r_2 w1 H locs hw1 hS => ?_)
    obtain ⟨rfl, rfl⟩ := hw1
    refine lv_if_eq (tgt := 31) hx hb dX9_rise_23 (by decide) (fun c_3 => ?_) (fun c_3 => absurd (by decide) c_3)
    refine lv_iload_n hx hb dX9_rise_31 rfl (lv_at hl 0 rfl) ?_
    refine lv_bipush (v := 6) hx hb dX9_rise_32 (by decide) ?_
    refine lv_icmp_ne (tgt := 42) hx hb dX9_rise_34 (by decide) (fun c_4 => ?_) (fun c_4 => absurd c_4 (by decide))
    refine lv_aload_n hx hb dX9_rise_42 rfl (lv_at hl 1 rfl) ?_
    refine lv_iconst (v := 1) hx hb dX9_rise_43 (by decide) ?_
    refine m_cv (m_runV (n := 1) (rest := []) ⟨hx, hb, hml, hown, hG⟩ (M_began l X B n wm dy tl g hs rest r t 1 0 (ht.le (by decide))) kw_540 kw_542 kw_9 kw_20 kw_543 (by decide +kernel) (rl_ok (by omega) (by decide)) hF hz hS (q0 := 0) rfl rfl rfl hl.1 rfl (Nat.le_of_ble_eq_true rfl) dX9_rise_44 ⟨Nat.zero_le _, Nat.zero_le _⟩) hS (fun w2 H locs hw2 hS => ?_)
    subst hw2
    refine lv_iload_n hx hb dX9_rise_47 rfl (lv_at hl 3 rfl) ?_
    refine lv_iconst (v := 4) hx hb dX9_rise_48 (by decide) ?_
    refine lv_idiv hx hb dX9_rise_49 (by decide) ?_
    refine lv_istore (lv' := [(4, .int (w / 4)), (3, .int (nI 0)), (0, .ref (B 0)), (1, .int (nI j)), (2, .int w)]) hx hb dX9_rise_50 hl (by decide) rfl (fun ls hl => ?_)
    refine lv_iload_n hx hb dX9_rise_52 rfl (lv_at hl 1 rfl) ?_
    refine lv_iconst (v := 2) hx hb dX9_rise_53 (by decide) ?_
    refine lv_iconst (v := 4) hx hb dX9_rise_54 (by decide) ?_
    refine m_ci (m_runS (n := 3) (rest := []) ⟨hx, hb, hml, hown, hG⟩ (c_in l X _ (nI 0) 2 4 0) kw_521 kw_522 kw_20 kw_523 (by decide +kernel) (rl_ok (by omega) (by decide)) hF hz hS rfl hl.1 rfl (Nat.le_of_ble_eq_true rfl) dX9_rise_55 ⟨Nat.zero_le _, Nat.zero_le _⟩) hS (fun r_5 w3 H locs hw3 hS => ?_)
    obtain ⟨rfl, rfl⟩ := hw3
    refine lv_if_eq (tgt := 70) hx hb dX9_rise_58 (by decide) (fun c_6 => ?_) (fun c_6 => absurd (by decide) c_6)
    refine lv_iload hx hb dX9_rise_70 (lv_at hl 0 rfl) ?_
    refine lv_istore (lv' := [(4, .int (w / 4)), (3, .int (nI 0)), (0, .ref (B 0)), (1, .int (nI j)), (2, .int w)]) hx hb dX9_rise_72 hl (by decide) rfl (fun ls hl => ?_)
    refine lv_iload_n hx hb dX9_rise_74 rfl (lv_at hl 1 rfl) ?_
    refine lv_iconst (v := 4) hx hb dX9_rise_75 (by decide) ?_
    refine lv_icmp_ne (tgt := 86) hx hb dX9_rise_76 (by decide) (fun c_7 => ?_) (fun c_7 => absurd c_7 (by decide))
    refine lv_iload_n hx hb dX9_rise_86 rfl (lv_at hl 1 rfl) ?_
    refine lv_bipush (v := 6) hx hb dX9_rise_87 (by decide) ?_
    refine lv_icmp_ne (tgt := 102) hx hb dX9_rise_89 (by decide) (fun c_8 => ?_) (fun c_8 => absurd c_8 (by decide))
    refine lv_iload hx hb dX9_rise_102 (lv_at hl 0 rfl) ?_
    exact m_iret hx hb hr hlk hS ⟨by first | rfl | exact Int32.add_zero _ | (show _ = 2 * _; rw [Int32.add_zero]), rfl⟩ (Nat.le_refl 0) (Nat.le_refl 0) dX9_rise_104
  | 1, _, ek =>
    refine lv_aload_n hx hb dX9_rise_0 rfl (lv_at hl 0 rfl) ?_
    refine m_get (v := .ref (B 1)) hx hb hG hown hF hS (0) rfl rfl iG_9 1 (by decide) kw_472 (fun _ h9 => h9) rfl dX9_rise_1 ?_
    refine lv_iload_n hx hb dX9_rise_4 rfl (lv_at hl 1 rfl) ?_
    refine m_ialdv (v := nI 1) hx hb hF hS (1) rfl (j) rfl (hj) (by decide) (ek) dX9_rise_5 ?_
    refine lv_istore_n (lv' := [(3, .int (nI 1)), (0, .ref (B 0)), (1, .int (nI j)), (2, .int w)]) hx hb dX9_rise_6 rfl hl (by decide) rfl (fun ls hl => ?_)
    refine lv_iload_n hx hb dX9_rise_7 rfl (lv_at hl 0 rfl) ?_
    refine lv_iconst (v := 4) hx hb dX9_rise_8 (by decide) ?_
    refine lv_icmp_ne (tgt := 17) hx hb dX9_rise_9 (by decide) (fun c_1 => ?_) (fun c_1 => absurd c_1 (by decide))
    refine lv_iload_n hx hb dX9_rise_17 rfl (lv_at hl 0 rfl) ?_
    refine lv_iconst (v := 2) hx hb dX9_rise_18 (by decide) ?_
    refine lv_iconst (v := 4) hx hb dX9_rise_19 (by decide) ?_
    refine m_ci (m_runS (n := 3) (rest := []) ⟨hx, hb, hml, hown, hG⟩ (c_in l X _ (nI 1) 2 4 0) kw_521 kw_522 kw_20 kw_523 (by decide +kernel) (rl_ok (by omega) (by decide)) hF hz hS rfl hl.1 rfl (Nat.le_of_ble_eq_true rfl) dX9_rise_20 ⟨Nat.zero_le _, Nat.zero_le _⟩) hS (fun r_2 w1 H locs hw1 hS => ?_)
    obtain ⟨rfl, rfl⟩ := hw1
    refine lv_if_eq (tgt := 31) hx hb dX9_rise_23 (by decide) (fun c_3 => ?_) (fun c_3 => absurd (by decide) c_3)
    refine lv_iload_n hx hb dX9_rise_31 rfl (lv_at hl 0 rfl) ?_
    refine lv_bipush (v := 6) hx hb dX9_rise_32 (by decide) ?_
    refine lv_icmp_ne (tgt := 42) hx hb dX9_rise_34 (by decide) (fun c_4 => ?_) (fun c_4 => absurd c_4 (by decide))
    refine lv_aload_n hx hb dX9_rise_42 rfl (lv_at hl 1 rfl) ?_
    refine lv_iconst (v := 1) hx hb dX9_rise_43 (by decide) ?_
    refine m_cv (m_runV (n := 1) (rest := []) ⟨hx, hb, hml, hown, hG⟩ (M_began l X B n wm dy tl g hs rest r t 1 0 (ht.le (by decide))) kw_540 kw_542 kw_9 kw_20 kw_543 (by decide +kernel) (rl_ok (by omega) (by decide)) hF hz hS (q0 := 0) rfl rfl rfl hl.1 rfl (Nat.le_of_ble_eq_true rfl) dX9_rise_44 ⟨Nat.zero_le _, Nat.zero_le _⟩) hS (fun w2 H locs hw2 hS => ?_)
    subst hw2
    refine lv_iload_n hx hb dX9_rise_47 rfl (lv_at hl 3 rfl) ?_
    refine lv_iconst (v := 4) hx hb dX9_rise_48 (by decide) ?_
    refine lv_idiv hx hb dX9_rise_49 (by decide) ?_
    refine lv_istore (lv' := [(4, .int (w / 4)), (3, .int (nI 1)), (0, .ref (B 0)), (1, .int (nI j)), (2, .int w)]) hx hb dX9_rise_50 hl (by decide) rfl (fun ls hl => ?_)
    refine lv_iload_n hx hb dX9_rise_52 rfl (lv_at hl 1 rfl) ?_
    refine lv_iconst (v := 2) hx hb dX9_rise_53 (by decide) ?_
    refine lv_iconst (v := 4) hx hb dX9_rise_54 (by decide) ?_
    refine m_ci (m_runS (n := 3) (rest := []) ⟨hx, hb, hml, hown, hG⟩ (c_in l X _ (nI 1) 2 4 0) kw_521 kw_522 kw_20 kw_523 (by decide +kernel) (rl_ok (by omega) (by decide)) hF hz hS rfl hl.1 rfl (Nat.le_of_ble_eq_true rfl) dX9_rise_55 ⟨Nat.zero_le _, Nat.zero_le _⟩) hS (fun r_5 w3 H locs hw3 hS => ?_)
    obtain ⟨rfl, rfl⟩ := hw3
    refine lv_if_eq (tgt := 70) hx hb dX9_rise_58 (by decide) (fun c_6 => ?_) (fun c_6 => absurd (by decide) c_6)
    refine lv_iload hx hb dX9_rise_70 (lv_at hl 0 rfl) ?_
    refine lv_istore (lv' := [(4, .int (w / 4)), (3, .int (nI 1)), (0, .ref (B 0)), (1, .int (nI j)), (2, .int w)]) hx hb dX9_rise_72 hl (by decide) rfl (fun ls hl => ?_)
    refine lv_iload_n hx hb dX9_rise_74 rfl (lv_at hl 1 rfl) ?_
    refine lv_iconst (v := 4) hx hb dX9_rise_75 (by decide) ?_
    refine lv_icmp_ne (tgt := 86) hx hb dX9_rise_76 (by decide) (fun c_7 => ?_) (fun c_7 => absurd c_7 (by decide))
    refine lv_iload_n hx hb dX9_rise_86 rfl (lv_at hl 1 rfl) ?_
    refine lv_bipush (v := 6) hx hb dX9_rise_87 (by decide) ?_
    refine lv_icmp_ne (tgt := 102) hx hb dX9_rise_89 (by decide) (fun c_8 => ?_) (fun c_8 => absurd c_8 (by decide))
    refine lv_iload hx hb dX9_rise_102 (lv_at hl 0 rfl) ?_
    exact m_iret hx hb hr hlk hS ⟨by first | rfl | exact Int32.add_zero _ | (show _ = 2 * _; rw [Int32.add_zero]), rfl⟩ (Nat.le_refl 0) (Nat.le_refl 0) dX9_rise_104
  | 2, _, ek =>
    refine lv_aload_n hx hb dX9_rise_0 rfl (lv_at hl 0 rfl) ?_
    refine m_get (v := .ref (B 1)) hx hb hG hown hF hS (0) rfl rfl iG_9 1 (by decide) kw_472 (fun _ h9 => h9) rfl dX9_rise_1 ?_
    refine lv_iload_n hx hb dX9_rise_4 rfl (lv_at hl 1 rfl) ?_
    refine m_ialdv (v := nI 2) hx hb hF hS (1) rfl (j) rfl (hj) (by decide) (ek) dX9_rise_5 ?_
    refine lv_istore_n (lv' := [(3, .int (nI 2)), (0, .ref (B 0)), (1, .int (nI j)), (2, .int w)]) hx hb dX9_rise_6 rfl hl (by decide) rfl (fun ls hl => ?_)
    refine lv_iload_n hx hb dX9_rise_7 rfl (lv_at hl 0 rfl) ?_
    refine lv_iconst (v := 4) hx hb dX9_rise_8 (by decide) ?_
    refine lv_icmp_ne (tgt := 17) hx hb dX9_rise_9 (by decide) (fun c_1 => ?_) (fun c_1 => absurd c_1 (by decide))
    refine lv_iload_n hx hb dX9_rise_17 rfl (lv_at hl 0 rfl) ?_
    refine lv_iconst (v := 2) hx hb dX9_rise_18 (by decide) ?_
    refine lv_iconst (v := 4) hx hb dX9_rise_19 (by decide) ?_
    refine m_ci (m_runS (n := 3) (rest := []) ⟨hx, hb, hml, hown, hG⟩ (c_in l X _ (nI 2) 2 4 0) kw_521 kw_522 kw_20 kw_523 (by decide +kernel) (rl_ok (by omega) (by decide)) hF hz hS rfl hl.1 rfl (Nat.le_of_ble_eq_true rfl) dX9_rise_20 ⟨Nat.zero_le _, Nat.zero_le _⟩) hS (fun r_2 w1 H locs hw1 hS => ?_)
    obtain ⟨rfl, rfl⟩ := hw1
    refine lv_if_eq (tgt := 31) hx hb dX9_rise_23 (by decide) (fun c_3 => absurd c_3 (by decide)) (fun c_3 => ?_)
    refine lv_aload_n hx hb dX9_rise_26 rfl (lv_at hl 1 rfl) ?_
    refine lv_iconst (v := 2) hx hb dX9_rise_27 (by decide) ?_
    refine m_cv (m_runV (n := 1) (rest := []) ⟨hx, hb, hml, hown, hG⟩ (M_began l X B n wm dy tl g hs rest r t 2 0 (ht.le (by decide))) kw_540 kw_542 kw_9 kw_20 kw_543 (by decide +kernel) (rl_ok (by omega) (by decide)) hF hz hS (q0 := 0) rfl rfl rfl hl.1 rfl (Nat.le_of_ble_eq_true rfl) dX9_rise_28 ⟨Nat.zero_le _, Nat.zero_le _⟩) hS (fun w2 H locs hw2 hS => ?_)
    subst hw2
    refine lv_iload_n hx hb dX9_rise_31 rfl (lv_at hl 0 rfl) ?_
    refine lv_bipush (v := 6) hx hb dX9_rise_32 (by decide) ?_
    refine lv_icmp_ne (tgt := 42) hx hb dX9_rise_34 (by decide) (fun c_4 => ?_) (fun c_4 => absurd c_4 (by decide))
    refine lv_aload_n hx hb dX9_rise_42 rfl (lv_at hl 1 rfl) ?_
    refine lv_iconst (v := 1) hx hb dX9_rise_43 (by decide) ?_
    refine m_cv (m_runV (n := 1) (rest := []) ⟨hx, hb, hml, hown, hG⟩ (M_began l X B n wm dy tl g hs rest r (te r [2] t) 1 0 (ht.step (by decide))) kw_540 kw_542 kw_9 kw_20 kw_543 (by decide +kernel) (rl_ok (by omega) (by decide)) hF hz hS (q0 := 0) rfl rfl rfl hl.1 rfl (Nat.le_of_ble_eq_true rfl) dX9_rise_44 ⟨Nat.zero_le _, Nat.zero_le _⟩) hS (fun w3 H locs hw3 hS => ?_)
    subst hw3
    rw [te_te] at hS
    refine lv_iload_n hx hb dX9_rise_47 rfl (lv_at hl 3 rfl) ?_
    refine lv_iconst (v := 4) hx hb dX9_rise_48 (by decide) ?_
    refine lv_idiv hx hb dX9_rise_49 (by decide) ?_
    refine lv_istore (lv' := [(4, .int (w / 4)), (3, .int (nI 2)), (0, .ref (B 0)), (1, .int (nI j)), (2, .int w)]) hx hb dX9_rise_50 hl (by decide) rfl (fun ls hl => ?_)
    refine lv_iload_n hx hb dX9_rise_52 rfl (lv_at hl 1 rfl) ?_
    refine lv_iconst (v := 2) hx hb dX9_rise_53 (by decide) ?_
    refine lv_iconst (v := 4) hx hb dX9_rise_54 (by decide) ?_
    refine m_ci (m_runS (n := 3) (rest := []) ⟨hx, hb, hml, hown, hG⟩ (c_in l X _ (nI 2) 2 4 0) kw_521 kw_522 kw_20 kw_523 (by decide +kernel) (rl_ok (by omega) (by decide)) hF hz hS rfl hl.1 rfl (Nat.le_of_ble_eq_true rfl) dX9_rise_55 ⟨Nat.zero_le _, Nat.zero_le _⟩) hS (fun r_5 w4 H locs hw4 hS => ?_)
    obtain ⟨rfl, rfl⟩ := hw4
    refine lv_if_eq (tgt := 70) hx hb dX9_rise_58 (by decide) (fun c_6 => absurd c_6 (by decide)) (fun c_6 => ?_)
    refine lv_iload hx hb dX9_rise_61 (lv_at hl 0 rfl) ?_
    refine lv_iconst (v := 2) hx hb dX9_rise_63 (by decide) ?_
    refine lv_idiv hx hb dX9_rise_64 (by decide) ?_
    refine lv_iconst (v := 1) hx hb dX9_rise_65 (by decide) ?_
    refine lv_iadd hx hb dX9_rise_66 ?_
    refine lv_goto (tgt := 72) hx hb dX9_rise_67 (by decide) ?_
    refine lv_istore (lv' := [(4, .int (((w / 4) / 2) + 1)), (3, .int (nI 2)), (0, .ref (B 0)), (1, .int (nI j)), (2, .int w)]) hx hb dX9_rise_72 hl (by decide) rfl (fun ls hl => ?_)
    refine lv_iload_n hx hb dX9_rise_74 rfl (lv_at hl 1 rfl) ?_
    refine lv_iconst (v := 4) hx hb dX9_rise_75 (by decide) ?_
    refine lv_icmp_ne (tgt := 86) hx hb dX9_rise_76 (by decide) (fun c_7 => ?_) (fun c_7 => absurd c_7 (by decide))
    refine lv_iload_n hx hb dX9_rise_86 rfl (lv_at hl 1 rfl) ?_
    refine lv_bipush (v := 6) hx hb dX9_rise_87 (by decide) ?_
    refine lv_icmp_ne (tgt := 102) hx hb dX9_rise_89 (by decide) (fun c_8 => ?_) (fun c_8 => absurd c_8 (by decide))
    refine lv_iload hx hb dX9_rise_102 (lv_at hl 0 rfl) ?_
    exact m_iret hx hb hr hlk hS ⟨by first | rfl | exact Int32.add_zero _ | (show _ = 2 * _; rw [Int32.add_zero]), rfl⟩ (Nat.le_refl 0) (Nat.le_refl 0) dX9_rise_104
  | 3, _, ek =>
    refine lv_aload_n hx hb dX9_rise_0 rfl (lv_at hl 0 rfl) ?_
    refine m_get (v := .ref (B 1)) hx hb hG hown hF hS (0) rfl rfl iG_9 1 (by decide) kw_472 (fun _ h9 => h9) rfl dX9_rise_1 ?_
    refine lv_iload_n hx hb dX9_rise_4 rfl (lv_at hl 1 rfl) ?_
    refine m_ialdv (v := nI 3) hx hb hF hS (1) rfl (j) rfl (hj) (by decide) (ek) dX9_rise_5 ?_
    refine lv_istore_n (lv' := [(3, .int (nI 3)), (0, .ref (B 0)), (1, .int (nI j)), (2, .int w)]) hx hb dX9_rise_6 rfl hl (by decide) rfl (fun ls hl => ?_)
    refine lv_iload_n hx hb dX9_rise_7 rfl (lv_at hl 0 rfl) ?_
    refine lv_iconst (v := 4) hx hb dX9_rise_8 (by decide) ?_
    refine lv_icmp_ne (tgt := 17) hx hb dX9_rise_9 (by decide) (fun c_1 => ?_) (fun c_1 => absurd c_1 (by decide))
    refine lv_iload_n hx hb dX9_rise_17 rfl (lv_at hl 0 rfl) ?_
    refine lv_iconst (v := 2) hx hb dX9_rise_18 (by decide) ?_
    refine lv_iconst (v := 4) hx hb dX9_rise_19 (by decide) ?_
    refine m_ci (m_runS (n := 3) (rest := []) ⟨hx, hb, hml, hown, hG⟩ (c_in l X _ (nI 3) 2 4 0) kw_521 kw_522 kw_20 kw_523 (by decide +kernel) (rl_ok (by omega) (by decide)) hF hz hS rfl hl.1 rfl (Nat.le_of_ble_eq_true rfl) dX9_rise_20 ⟨Nat.zero_le _, Nat.zero_le _⟩) hS (fun r_2 w1 H locs hw1 hS => ?_)
    obtain ⟨rfl, rfl⟩ := hw1
    refine lv_if_eq (tgt := 31) hx hb dX9_rise_23 (by decide) (fun c_3 => absurd c_3 (by decide)) (fun c_3 => ?_)
    refine lv_aload_n hx hb dX9_rise_26 rfl (lv_at hl 1 rfl) ?_
    refine lv_iconst (v := 2) hx hb dX9_rise_27 (by decide) ?_
    refine m_cv (m_runV (n := 1) (rest := []) ⟨hx, hb, hml, hown, hG⟩ (M_began l X B n wm dy tl g hs rest r t 2 0 (ht.le (by decide))) kw_540 kw_542 kw_9 kw_20 kw_543 (by decide +kernel) (rl_ok (by omega) (by decide)) hF hz hS (q0 := 0) rfl rfl rfl hl.1 rfl (Nat.le_of_ble_eq_true rfl) dX9_rise_28 ⟨Nat.zero_le _, Nat.zero_le _⟩) hS (fun w2 H locs hw2 hS => ?_)
    subst hw2
    refine lv_iload_n hx hb dX9_rise_31 rfl (lv_at hl 0 rfl) ?_
    refine lv_bipush (v := 6) hx hb dX9_rise_32 (by decide) ?_
    refine lv_icmp_ne (tgt := 42) hx hb dX9_rise_34 (by decide) (fun c_4 => ?_) (fun c_4 => absurd c_4 (by decide))
    refine lv_aload_n hx hb dX9_rise_42 rfl (lv_at hl 1 rfl) ?_
    refine lv_iconst (v := 1) hx hb dX9_rise_43 (by decide) ?_
    refine m_cv (m_runV (n := 1) (rest := []) ⟨hx, hb, hml, hown, hG⟩ (M_began l X B n wm dy tl g hs rest r (te r [2] t) 1 0 (ht.step (by decide))) kw_540 kw_542 kw_9 kw_20 kw_543 (by decide +kernel) (rl_ok (by omega) (by decide)) hF hz hS (q0 := 0) rfl rfl rfl hl.1 rfl (Nat.le_of_ble_eq_true rfl) dX9_rise_44 ⟨Nat.zero_le _, Nat.zero_le _⟩) hS (fun w3 H locs hw3 hS => ?_)
    subst hw3
    rw [te_te] at hS
    refine lv_iload_n hx hb dX9_rise_47 rfl (lv_at hl 3 rfl) ?_
    refine lv_iconst (v := 4) hx hb dX9_rise_48 (by decide) ?_
    refine lv_idiv hx hb dX9_rise_49 (by decide) ?_
    refine lv_istore (lv' := [(4, .int (w / 4)), (3, .int (nI 3)), (0, .ref (B 0)), (1, .int (nI j)), (2, .int w)]) hx hb dX9_rise_50 hl (by decide) rfl (fun ls hl => ?_)
    refine lv_iload_n hx hb dX9_rise_52 rfl (lv_at hl 1 rfl) ?_
    refine lv_iconst (v := 2) hx hb dX9_rise_53 (by decide) ?_
    refine lv_iconst (v := 4) hx hb dX9_rise_54 (by decide) ?_
    refine m_ci (m_runS (n := 3) (rest := []) ⟨hx, hb, hml, hown, hG⟩ (c_in l X _ (nI 3) 2 4 0) kw_521 kw_522 kw_20 kw_523 (by decide +kernel) (rl_ok (by omega) (by decide)) hF hz hS rfl hl.1 rfl (Nat.le_of_ble_eq_true rfl) dX9_rise_55 ⟨Nat.zero_le _, Nat.zero_le _⟩) hS (fun r_5 w4 H locs hw4 hS => ?_)
    obtain ⟨rfl, rfl⟩ := hw4
    refine lv_if_eq (tgt := 70) hx hb dX9_rise_58 (by decide) (fun c_6 => absurd c_6 (by decide)) (fun c_6 => ?_)
    refine lv_iload hx hb dX9_rise_61 (lv_at hl 0 rfl) ?_
    refine lv_iconst (v := 2) hx hb dX9_rise_63 (by decide) ?_
    refine lv_idiv hx hb dX9_rise_64 (by decide) ?_
    refine lv_iconst (v := 1) hx hb dX9_rise_65 (by decide) ?_
    refine lv_iadd hx hb dX9_rise_66 ?_
    refine lv_goto (tgt := 72) hx hb dX9_rise_67 (by decide) ?_
    refine lv_istore (lv' := [(4, .int (((w / 4) / 2) + 1)), (3, .int (nI 3)), (0, .ref (B 0)), (1, .int (nI j)), (2, .int w)]) hx hb dX9_rise_72 hl (by decide) rfl (fun ls hl => ?_)
    refine lv_iload_n hx hb dX9_rise_74 rfl (lv_at hl 1 rfl) ?_
    refine lv_iconst (v := 4) hx hb dX9_rise_75 (by decide) ?_
    refine lv_icmp_ne (tgt := 86) hx hb dX9_rise_76 (by decide) (fun c_7 => ?_) (fun c_7 => absurd c_7 (by decide))
    refine lv_iload_n hx hb dX9_rise_86 rfl (lv_at hl 1 rfl) ?_
    refine lv_bipush (v := 6) hx hb dX9_rise_87 (by decide) ?_
    refine lv_icmp_ne (tgt := 102) hx hb dX9_rise_89 (by decide) (fun c_8 => ?_) (fun c_8 => absurd c_8 (by decide))
    refine lv_iload hx hb dX9_rise_102 (lv_at hl 0 rfl) ?_
    exact m_iret hx hb hr hlk hS ⟨by first | rfl | exact Int32.add_zero _ | (show _ = 2 * _; rw [Int32.add_zero]), rfl⟩ (Nat.le_refl 0) (Nat.le_refl 0) dX9_rise_104
  | 4, _, ek =>
    refine lv_aload_n hx hb dX9_rise_0 rfl (lv_at hl 0 rfl) ?_
    refine m_get (v := .ref (B 1)) hx hb hG hown hF hS (0) rfl rfl iG_9 1 (by decide) kw_472 (fun _ h9 => h9) rfl dX9_rise_1 ?_
    refine lv_iload_n hx hb dX9_rise_4 rfl (lv_at hl 1 rfl) ?_
    refine m_ialdv (v := nI 4) hx hb hF hS (1) rfl (j) rfl (hj) (by decide) (ek) dX9_rise_5 ?_
    refine lv_istore_n (lv' := [(3, .int (nI 4)), (0, .ref (B 0)), (1, .int (nI j)), (2, .int w)]) hx hb dX9_rise_6 rfl hl (by decide) rfl (fun ls hl => ?_)
    refine lv_iload_n hx hb dX9_rise_7 rfl (lv_at hl 0 rfl) ?_
    refine lv_iconst (v := 4) hx hb dX9_rise_8 (by decide) ?_
    refine lv_icmp_ne (tgt := 17) hx hb dX9_rise_9 (by decide) (fun c_1 => absurd (by decide) c_1) (fun c_1 => ?_)
    refine lv_aload_n hx hb dX9_rise_12 rfl (lv_at hl 1 rfl) ?_
    refine lv_iconst (v := 3) hx hb dX9_rise_13 (by decide) ?_
    refine m_cv (m_runV (n := 1) (rest := []) ⟨hx, hb, hml, hown, hG⟩ (M_began l X B n wm dy tl g hs rest r t 3 0 (ht.le (by decide))) kw_540 kw_542 kw_9 kw_20 kw_543 (by decide +kernel) (rl_ok (by omega) (by decide)) hF hz hS (q0 := 0) rfl rfl rfl hl.1 rfl (Nat.le_of_ble_eq_true rfl) dX9_rise_14 ⟨Nat.zero_le _, Nat.zero_le _⟩) hS (fun w1 H locs hw1 hS => ?_)
    subst hw1
    refine lv_iload_n hx hb dX9_rise_17 rfl (lv_at hl 0 rfl) ?_
    refine lv_iconst (v := 2) hx hb dX9_rise_18 (by decide) ?_
    refine lv_iconst (v := 4) hx hb dX9_rise_19 (by decide) ?_
    refine m_ci (m_runS (n := 3) (rest := []) ⟨hx, hb, hml, hown, hG⟩ (c_in l X _ (nI 4) 2 4 0) kw_521 kw_522 kw_20 kw_523 (by decide +kernel) (rl_ok (by omega) (by decide)) hF hz hS rfl hl.1 rfl (Nat.le_of_ble_eq_true rfl) dX9_rise_20 ⟨Nat.zero_le _, Nat.zero_le _⟩) hS (fun r_2 w2 H locs hw2 hS => ?_)
    obtain ⟨rfl, rfl⟩ := hw2
    refine lv_if_eq (tgt := 31) hx hb dX9_rise_23 (by decide) (fun c_3 => absurd c_3 (by decide)) (fun c_3 => ?_)
    refine lv_aload_n hx hb dX9_rise_26 rfl (lv_at hl 1 rfl) ?_
    refine lv_iconst (v := 2) hx hb dX9_rise_27 (by decide) ?_
    refine m_cv (m_runV (n := 1) (rest := []) ⟨hx, hb, hml, hown, hG⟩ (M_began l X B n wm dy tl g hs rest r (te r [3] t) 2 0 (ht.step (by decide))) kw_540 kw_542 kw_9 kw_20 kw_543 (by decide +kernel) (rl_ok (by omega) (by decide)) hF hz hS (q0 := 0) rfl rfl rfl hl.1 rfl (Nat.le_of_ble_eq_true rfl) dX9_rise_28 ⟨Nat.zero_le _, Nat.zero_le _⟩) hS (fun w3 H locs hw3 hS => ?_)
    subst hw3
    rw [te_te] at hS
    refine lv_iload_n hx hb dX9_rise_31 rfl (lv_at hl 0 rfl) ?_
    refine lv_bipush (v := 6) hx hb dX9_rise_32 (by decide) ?_
    refine lv_icmp_ne (tgt := 42) hx hb dX9_rise_34 (by decide) (fun c_4 => ?_) (fun c_4 => absurd c_4 (by decide))
    refine lv_aload_n hx hb dX9_rise_42 rfl (lv_at hl 1 rfl) ?_
    refine lv_iconst (v := 1) hx hb dX9_rise_43 (by decide) ?_
    refine m_cv (m_runV (n := 1) (rest := []) ⟨hx, hb, hml, hown, hG⟩ (M_began l X B n wm dy tl g hs rest r (te r [3, 2] t) 1 0 (ht.step (by decide))) kw_540 kw_542 kw_9 kw_20 kw_543 (by decide +kernel) (rl_ok (by omega) (by decide)) hF hz hS (q0 := 0) rfl rfl rfl hl.1 rfl (Nat.le_of_ble_eq_true rfl) dX9_rise_44 ⟨Nat.zero_le _, Nat.zero_le _⟩) hS (fun w4 H locs hw4 hS => ?_)
    subst hw4
    rw [te_te] at hS
    refine lv_iload_n hx hb dX9_rise_47 rfl (lv_at hl 3 rfl) ?_
    refine lv_iconst (v := 4) hx hb dX9_rise_48 (by decide) ?_
    refine lv_idiv hx hb dX9_rise_49 (by decide) ?_
    refine lv_istore (lv' := [(4, .int (w / 4)), (3, .int (nI 4)), (0, .ref (B 0)), (1, .int (nI j)), (2, .int w)]) hx hb dX9_rise_50 hl (by decide) rfl (fun ls hl => ?_)
    refine lv_iload_n hx hb dX9_rise_52 rfl (lv_at hl 1 rfl) ?_
    refine lv_iconst (v := 2) hx hb dX9_rise_53 (by decide) ?_
    refine lv_iconst (v := 4) hx hb dX9_rise_54 (by decide) ?_
    refine m_ci (m_runS (n := 3) (rest := []) ⟨hx, hb, hml, hown, hG⟩ (c_in l X _ (nI 4) 2 4 0) kw_521 kw_522 kw_20 kw_523 (by decide +kernel) (rl_ok (by omega) (by decide)) hF hz hS rfl hl.1 rfl (Nat.le_of_ble_eq_true rfl) dX9_rise_55 ⟨Nat.zero_le _, Nat.zero_le _⟩) hS (fun r_5 w5 H locs hw5 hS => ?_)
    obtain ⟨rfl, rfl⟩ := hw5
    refine lv_if_eq (tgt := 70) hx hb dX9_rise_58 (by decide) (fun c_6 => absurd c_6 (by decide)) (fun c_6 => ?_)
    refine lv_iload hx hb dX9_rise_61 (lv_at hl 0 rfl) ?_
    refine lv_iconst (v := 2) hx hb dX9_rise_63 (by decide) ?_
    refine lv_idiv hx hb dX9_rise_64 (by decide) ?_
    refine lv_iconst (v := 1) hx hb dX9_rise_65 (by decide) ?_
    refine lv_iadd hx hb dX9_rise_66 ?_
    refine lv_goto (tgt := 72) hx hb dX9_rise_67 (by decide) ?_
    refine lv_istore (lv' := [(4, .int (((w / 4) / 2) + 1)), (3, .int (nI 4)), (0, .ref (B 0)), (1, .int (nI j)), (2, .int w)]) hx hb dX9_rise_72 hl (by decide) rfl (fun ls hl => ?_)
    refine lv_iload_n hx hb dX9_rise_74 rfl (lv_at hl 1 rfl) ?_
    refine lv_iconst (v := 4) hx hb dX9_rise_75 (by decide) ?_
    refine lv_icmp_ne (tgt := 86) hx hb dX9_rise_76 (by decide) (fun c_7 => absurd (by decide) c_7) (fun c_7 => ?_)
    refine lv_iload hx hb dX9_rise_79 (lv_at hl 0 rfl) ?_
    refine lv_iconst (v := 1) hx hb dX9_rise_81 (by decide) ?_
    refine lv_isub hx hb dX9_rise_82 ?_
    refine lv_goto (tgt := 104) hx hb dX9_rise_83 (by decide) ?_
    exact m_iret hx hb hr hlk hS ⟨by first | rfl | exact Int32.add_zero _ | (show _ = 2 * _; rw [Int32.add_zero]), rfl⟩ (Nat.le_refl 0) (Nat.le_refl 0) dX9_rise_104
  | 5, _, ek =>
    refine lv_aload_n hx hb dX9_rise_0 rfl (lv_at hl 0 rfl) ?_
    refine m_get (v := .ref (B 1)) hx hb hG hown hF hS (0) rfl rfl iG_9 1 (by decide) kw_472 (fun _ h9 => h9) rfl dX9_rise_1 ?_
    refine lv_iload_n hx hb dX9_rise_4 rfl (lv_at hl 1 rfl) ?_
    refine m_ialdv (v := nI 5) hx hb hF hS (1) rfl (j) rfl (hj) (by decide) (ek) dX9_rise_5 ?_
    refine lv_istore_n (lv' := [(3, .int (nI 5)), (0, .ref (B 0)), (1, .int (nI j)), (2, .int w)]) hx hb dX9_rise_6 rfl hl (by decide) rfl (fun ls hl => ?_)
    refine lv_iload_n hx hb dX9_rise_7 rfl (lv_at hl 0 rfl) ?_
    refine lv_iconst (v := 4) hx hb dX9_rise_8 (by decide) ?_
    refine lv_icmp_ne (tgt := 17) hx hb dX9_rise_9 (by decide) (fun c_1 => ?_) (fun c_1 => absurd c_1 (by decide))
    refine lv_iload_n hx hb dX9_rise_17 rfl (lv_at hl 0 rfl) ?_
    refine lv_iconst (v := 2) hx hb dX9_rise_18 (by decide) ?_
    refine lv_iconst (v := 4) hx hb dX9_rise_19 (by decide) ?_
    refine m_ci (m_runS (n := 3) (rest := []) ⟨hx, hb, hml, hown, hG⟩ (c_in l X _ (nI 5) 2 4 0) kw_521 kw_522 kw_20 kw_523 (by decide +kernel) (rl_ok (by omega) (by decide)) hF hz hS rfl hl.1 rfl (Nat.le_of_ble_eq_true rfl) dX9_rise_20 ⟨Nat.zero_le _, Nat.zero_le _⟩) hS (fun r_2 w1 H locs hw1 hS => ?_)
    obtain ⟨rfl, rfl⟩ := hw1
    refine lv_if_eq (tgt := 31) hx hb dX9_rise_23 (by decide) (fun c_3 => ?_) (fun c_3 => absurd (by decide) c_3)
    refine lv_iload_n hx hb dX9_rise_31 rfl (lv_at hl 0 rfl) ?_
    refine lv_bipush (v := 6) hx hb dX9_rise_32 (by decide) ?_
    refine lv_icmp_ne (tgt := 42) hx hb dX9_rise_34 (by decide) (fun c_4 => ?_) (fun c_4 => absurd c_4 (by decide))
    refine lv_aload_n hx hb dX9_rise_42 rfl (lv_at hl 1 rfl) ?_
    refine lv_iconst (v := 1) hx hb dX9_rise_43 (by decide) ?_
    refine m_cv (m_runV (n := 1) (rest := []) ⟨hx, hb, hml, hown, hG⟩ (M_began l X B n wm dy tl g hs rest r t 1 0 (ht.le (by decide))) kw_540 kw_542 kw_9 kw_20 kw_543 (by decide +kernel) (rl_ok (by omega) (by decide)) hF hz hS (q0 := 0) rfl rfl rfl hl.1 rfl (Nat.le_of_ble_eq_true rfl) dX9_rise_44 ⟨Nat.zero_le _, Nat.zero_le _⟩) hS (fun w2 H locs hw2 hS => ?_)
    subst hw2
    refine lv_iload_n hx hb dX9_rise_47 rfl (lv_at hl 3 rfl) ?_
    refine lv_iconst (v := 4) hx hb dX9_rise_48 (by decide) ?_
    refine lv_idiv hx hb dX9_rise_49 (by decide) ?_
    refine lv_istore (lv' := [(4, .int (w / 4)), (3, .int (nI 5)), (0, .ref (B 0)), (1, .int (nI j)), (2, .int w)]) hx hb dX9_rise_50 hl (by decide) rfl (fun ls hl => ?_)
    refine lv_iload_n hx hb dX9_rise_52 rfl (lv_at hl 1 rfl) ?_
    refine lv_iconst (v := 2) hx hb dX9_rise_53 (by decide) ?_
    refine lv_iconst (v := 4) hx hb dX9_rise_54 (by decide) ?_
    refine m_ci (m_runS (n := 3) (rest := []) ⟨hx, hb, hml, hown, hG⟩ (c_in l X _ (nI 5) 2 4 0) kw_521 kw_522 kw_20 kw_523 (by decide +kernel) (rl_ok (by omega) (by decide)) hF hz hS rfl hl.1 rfl (Nat.le_of_ble_eq_true rfl) dX9_rise_55 ⟨Nat.zero_le _, Nat.zero_le _⟩) hS (fun r_5 w3 H locs hw3 hS => ?_)
    obtain ⟨rfl, rfl⟩ := hw3
    refine lv_if_eq (tgt := 70) hx hb dX9_rise_58 (by decide) (fun c_6 => ?_) (fun c_6 => absurd (by decide) c_6)
    refine lv_iload hx hb dX9_rise_70 (lv_at hl 0 rfl) ?_
    refine lv_istore (lv' := [(4, .int (w / 4)), (3, .int (nI 5)), (0, .ref (B 0)), (1, .int (nI j)), (2, .int w)]) hx hb dX9_rise_72 hl (by decide) rfl (fun ls hl => ?_)
    refine lv_iload_n hx hb dX9_rise_74 rfl (lv_at hl 1 rfl) ?_
    refine lv_iconst (v := 4) hx hb dX9_rise_75 (by decide) ?_
    refine lv_icmp_ne (tgt := 86) hx hb dX9_rise_76 (by decide) (fun c_7 => ?_) (fun c_7 => absurd c_7 (by decide))
    refine lv_iload_n hx hb dX9_rise_86 rfl (lv_at hl 1 rfl) ?_
    refine lv_bipush (v := 6) hx hb dX9_rise_87 (by decide) ?_
    refine lv_icmp_ne (tgt := 102) hx hb dX9_rise_89 (by decide) (fun c_8 => ?_) (fun c_8 => absurd c_8 (by decide))
    refine lv_iload hx hb dX9_rise_102 (lv_at hl 0 rfl) ?_
    exact m_iret hx hb hr hlk hS ⟨by first | rfl | exact Int32.add_zero _ | (show _ = 2 * _; rw [Int32.add_zero]), rfl⟩ (Nat.le_refl 0) (Nat.le_refl 0) dX9_rise_104
  | 6, _, ek =>
    refine lv_aload_n hx hb dX9_rise_0 rfl (lv_at hl 0 rfl) ?_
    refine m_get (v := .ref (B 1)) hx hb hG hown hF hS (0) rfl rfl iG_9 1 (by decide) kw_472 (fun _ h9 => h9) rfl dX9_rise_1 ?_
    refine lv_iload_n hx hb dX9_rise_4 rfl (lv_at hl 1 rfl) ?_
    refine m_ialdv (v := nI 6) hx hb hF hS (1) rfl (j) rfl (hj) (by decide) (ek) dX9_rise_5 ?_
    refine lv_istore_n (lv' := [(3, .int (nI 6)), (0, .ref (B 0)), (1, .int (nI j)), (2, .int w)]) hx hb dX9_rise_6 rfl hl (by decide) rfl (fun ls hl => ?_)
    refine lv_iload_n hx hb dX9_rise_7 rfl (lv_at hl 0 rfl) ?_
    refine lv_iconst (v := 4) hx hb dX9_rise_8 (by decide) ?_
    refine lv_icmp_ne (tgt := 17) hx hb dX9_rise_9 (by decide) (fun c_1 => ?_) (fun c_1 => absurd c_1 (by decide))
    refine lv_iload_n hx hb dX9_rise_17 rfl (lv_at hl 0 rfl) ?_
    refine lv_iconst (v := 2) hx hb dX9_rise_18 (by decide) ?_
    refine lv_iconst (v := 4) hx hb dX9_rise_19 (by decide) ?_
    refine m_ci (m_runS (n := 3) (rest := []) ⟨hx, hb, hml, hown, hG⟩ (c_in l X _ (nI 6) 2 4 0) kw_521 kw_522 kw_20 kw_523 (by decide +kernel) (rl_ok (by omega) (by decide)) hF hz hS rfl hl.1 rfl (Nat.le_of_ble_eq_true rfl) dX9_rise_20 ⟨Nat.zero_le _, Nat.zero_le _⟩) hS (fun r_2 w1 H locs hw1 hS => ?_)
    obtain ⟨rfl, rfl⟩ := hw1
    refine lv_if_eq (tgt := 31) hx hb dX9_rise_23 (by decide) (fun c_3 => ?_) (fun c_3 => absurd (by decide) c_3)
    refine lv_iload_n hx hb dX9_rise_31 rfl (lv_at hl 0 rfl) ?_
    refine lv_bipush (v := 6) hx hb dX9_rise_32 (by decide) ?_
    refine lv_icmp_ne (tgt := 42) hx hb dX9_rise_34 (by decide) (fun c_4 => absurd (by decide) c_4) (fun c_4 => ?_)
    refine lv_aload_n hx hb dX9_rise_37 rfl (lv_at hl 1 rfl) ?_
    refine lv_iconst (v := 4) hx hb dX9_rise_38 (by decide) ?_
    refine m_cv (m_runV (n := 1) (rest := []) ⟨hx, hb, hml, hown, hG⟩ (M_began l X B n wm dy tl g hs rest r t 4 0 (ht.le (by decide))) kw_540 kw_542 kw_9 kw_20 kw_543 (by decide +kernel) (rl_ok (by omega) (by decide)) hF hz hS (q0 := 0) rfl rfl rfl hl.1 rfl (Nat.le_of_ble_eq_true rfl) dX9_rise_39 ⟨Nat.zero_le _, Nat.zero_le _⟩) hS (fun w2 H locs hw2 hS => ?_)
    subst hw2
    refine lv_aload_n hx hb dX9_rise_42 rfl (lv_at hl 1 rfl) ?_
    refine lv_iconst (v := 1) hx hb dX9_rise_43 (by decide) ?_
    refine m_cv (m_runV (n := 1) (rest := []) ⟨hx, hb, hml, hown, hG⟩ (M_began l X B n wm dy tl g hs rest r (te r [4] t) 1 0 (ht.step (by decide))) kw_540 kw_542 kw_9 kw_20 kw_543 (by decide +kernel) (rl_ok (by omega) (by decide)) hF hz hS (q0 := 0) rfl rfl rfl hl.1 rfl (Nat.le_of_ble_eq_true rfl) dX9_rise_44 ⟨Nat.zero_le _, Nat.zero_le _⟩) hS (fun w3 H locs hw3 hS => ?_)
    subst hw3
    rw [te_te] at hS
    refine lv_iload_n hx hb dX9_rise_47 rfl (lv_at hl 3 rfl) ?_
    refine lv_iconst (v := 4) hx hb dX9_rise_48 (by decide) ?_
    refine lv_idiv hx hb dX9_rise_49 (by decide) ?_
    refine lv_istore (lv' := [(4, .int (w / 4)), (3, .int (nI 6)), (0, .ref (B 0)), (1, .int (nI j)), (2, .int w)]) hx hb dX9_rise_50 hl (by decide) rfl (fun ls hl => ?_)
    refine lv_iload_n hx hb dX9_rise_52 rfl (lv_at hl 1 rfl) ?_
    refine lv_iconst (v := 2) hx hb dX9_rise_53 (by decide) ?_
    refine lv_iconst (v := 4) hx hb dX9_rise_54 (by decide) ?_
    refine m_ci (m_runS (n := 3) (rest := []) ⟨hx, hb, hml, hown, hG⟩ (c_in l X _ (nI 6) 2 4 0) kw_521 kw_522 kw_20 kw_523 (by decide +kernel) (rl_ok (by omega) (by decide)) hF hz hS rfl hl.1 rfl (Nat.le_of_ble_eq_true rfl) dX9_rise_55 ⟨Nat.zero_le _, Nat.zero_le _⟩) hS (fun r_5 w4 H locs hw4 hS => ?_)
    obtain ⟨rfl, rfl⟩ := hw4
    refine lv_if_eq (tgt := 70) hx hb dX9_rise_58 (by decide) (fun c_6 => ?_) (fun c_6 => absurd (by decide) c_6)
    refine lv_iload hx hb dX9_rise_70 (lv_at hl 0 rfl) ?_
    refine lv_istore (lv' := [(4, .int (w / 4)), (3, .int (nI 6)), (0, .ref (B 0)), (1, .int (nI j)), (2, .int w)]) hx hb dX9_rise_72 hl (by decide) rfl (fun ls hl => ?_)
    refine lv_iload_n hx hb dX9_rise_74 rfl (lv_at hl 1 rfl) ?_
    refine lv_iconst (v := 4) hx hb dX9_rise_75 (by decide) ?_
    refine lv_icmp_ne (tgt := 86) hx hb dX9_rise_76 (by decide) (fun c_7 => ?_) (fun c_7 => absurd c_7 (by decide))
    refine lv_iload_n hx hb dX9_rise_86 rfl (lv_at hl 1 rfl) ?_
    refine lv_bipush (v := 6) hx hb dX9_rise_87 (by decide) ?_
    refine lv_icmp_ne (tgt := 102) hx hb dX9_rise_89 (by decide) (fun c_8 => absurd (by decide) c_8) (fun c_8 => ?_)
    refine lv_iload hx hb dX9_rise_92 (lv_at hl 0 rfl) ?_
    refine lv_iload_n hx hb dX9_rise_94 rfl (lv_at hl 4 rfl) ?_
    refine lv_bipush (v := 10) hx hb dX9_rise_95 (by decide) ?_
    refine lv_idiv hx hb dX9_rise_97 (by decide) ?_
    refine lv_iadd hx hb dX9_rise_98 ?_
    refine lv_goto (tgt := 104) hx hb dX9_rise_99 (by decide) ?_
    exact m_iret hx hb hr hlk hS ⟨by first | rfl | exact Int32.add_zero _ | (show _ = 2 * _; rw [Int32.add_zero]), rfl⟩ (Nat.le_refl 0) (Nat.le_refl 0) dX9_rise_104
set_option maxHeartbeats 4000000 in
set_option maxRecDepth 100000 in
theorem M_need (l : Launch) (X : Cx) (B : Nat → Nat) (n : Nat) (wm dy tl : Int32) (g : Nat → Rc) (hs : Nat → Int32) (rest : va_W) (r : Bool) (t : Tr) (j k : Nat) (f : Nat) (hj : j < 40) (ek : g j 0 = nI k) (hk : k < 7) (hf : 2 ≤ f) (ht : tR r 6 t) : cI l yX9_need cX9_need 4 (some .int) (rl f) X [.ref (B 0), .int (nI j)] (wM X B n wm dy tl g hs rest r t) (fun v w' => v = needV k (g j 1) ∧ w' = wM X B n wm dy tl g hs rest r (te r (needT k) t)) := by
  refine met_start (by decide) (Nat.le_of_ble_eq_true rfl) ?_
  intro p e s m below meth c ls fx hS hl
  obtain ⟨hx, hb, hr, hml, hown, hG, hlk, hF, hz, hnm⟩ := fx
  have hown : s.vm.findClass RX9 = some m.cls := hown
  have hl : lv_has ls 4 [(0, .ref (B 0)), (1, .int (nI j))] := hl
  match k, hk, ek with
  | 0, _, ek =>
    refine lv_aload_n hx hb dX9_need_0 rfl (lv_at hl 0 rfl) ?_
    refine m_get (v := .ref (B 1)) hx hb hG hown hF hS (0) rfl rfl iG_9 1 (by decide) kw_472 (fun _ h9 => h9) rfl dX9_need_1 ?_
    refine lv_iload_n hx hb dX9_need_4 rfl (lv_at hl 1 rfl) ?_
    refine m_ialdv (v := nI 0) hx hb hF hS (1) rfl (j) rfl (hj) (by decide) (ek) dX9_need_5 ?_
    refine lv_istore_n (lv' := [(2, .int (nI 0)), (0, .ref (B 0)), (1, .int (nI j))]) hx hb dX9_need_6 rfl hl (by decide) rfl (fun ls hl => ?_)
    refine lv_iload_n hx hb dX9_need_7 rfl (lv_at hl 0 rfl) ?_
    refine lv_iconst (v := 3) hx hb dX9_need_8 (by decide) ?_
    refine lv_iconst (v := 4) hx hb dX9_need_9 (by decide) ?_
    refine m_ci (m_runS (n := 3) (rest := []) ⟨hx, hb, hml, hown, hG⟩ (c_in l X _ (nI 0) 3 4 0) kw_521 kw_522 kw_20 kw_523 (by decide +kernel) (rl_ok (by omega) (by decide)) hF hz hS rfl hl.1 rfl (Nat.le_of_ble_eq_true rfl) dX9_need_10 ⟨Nat.zero_le _, Nat.zero_le _⟩) hS (fun r_1 w1 H locs hw1 hS => ?_)
    obtain ⟨rfl, rfl⟩ := hw1
    refine lv_if_eq (tgt := 22) hx hb dX9_need_13 (by decide) (fun c_2 => ?_) (fun c_2 => absurd (by decide) c_2)
    refine lv_iload_n hx hb dX9_need_22 rfl (lv_at hl 0 rfl) ?_
    refine lv_iconst (v := 1) hx hb dX9_need_23 (by decide) ?_
    refine lv_iconst (v := 4) hx hb dX9_need_24 (by decide) ?_
    refine m_ci (m_runS (n := 3) (rest := []) ⟨hx, hb, hml, hown, hG⟩ (c_in l X _ (nI 0) 1 4 0) kw_521 kw_522 kw_20 kw_523 (by decide +kernel) (rl_ok (by omega) (by decide)) hF hz hS rfl hl.1 rfl (Nat.le_of_ble_eq_true rfl) dX9_need_25 ⟨Nat.zero_le _, Nat.zero_le _⟩) hS (fun r_3 w2 H locs hw2 hS => ?_)
    obtain ⟨rfl, rfl⟩ := hw2
    refine lv_if_eq (tgt := 37) hx hb dX9_need_28 (by decide) (fun c_4 => ?_) (fun c_4 => absurd (by decide) c_4)
    refine lv_aload_n hx hb dX9_need_37 rfl (lv_at hl 1 rfl) ?_
    refine lv_bipush (v := 11) hx hb dX9_need_38 (by decide) ?_
    refine m_cv (m_runV (n := 1) (rest := []) ⟨hx, hb, hml, hown, hG⟩ (M_began l X B n wm dy tl g hs rest r t 11 0 (ht.le (by decide))) kw_540 kw_542 kw_9 kw_20 kw_543 (by decide +kernel) (rl_ok (by omega) (by decide)) hF hz hS (q0 := 0) rfl rfl rfl hl.1 rfl (Nat.le_of_ble_eq_true rfl) dX9_need_40 ⟨Nat.zero_le _, Nat.zero_le _⟩) hS (fun w3 H locs hw3 hS => ?_)
    subst hw3
    refine lv_bipush (v := 100) hx hb dX9_need_43 (by decide) ?_
    refine lv_aload_n hx hb dX9_need_45 rfl (lv_at hl 1 rfl) ?_
    refine m_get (v := .ref (B 2)) hx hb hG hown hF hS (0) rfl rfl iG_9 2 (by decide) kw_473 (fun _ h9 => h9) rfl dX9_need_46 ?_
    refine lv_iload_n hx hb dX9_need_49 rfl (lv_at hl 2 rfl) ?_
    refine m_ialdv (v := g j 1) hx hb hF hS (2) rfl (j) rfl (hj) (by decide) rfl dX9_need_50 ?_
    refine lv_bipush (v := 10) hx hb dX9_need_51 (by decide) ?_
    refine lv_idiv hx hb dX9_need_53 (by decide) ?_
    refine lv_iadd hx hb dX9_need_54 ?_
    refine lv_iload_n hx hb dX9_need_55 rfl (lv_at hl 0 rfl) ?_
    refine lv_iconst (v := 1) hx hb dX9_need_56 (by decide) ?_
    refine lv_iconst (v := 4) hx hb dX9_need_57 (by decide) ?_
    refine m_ci (m_runS (n := 3) (rest := [.int (100 + ((g j 1) / 10))]) ⟨hx, hb, hml, hown, hG⟩ (c_in l X _ (nI 0) 1 4 0) kw_521 kw_522 kw_20 kw_523 (by decide +kernel) (rl_ok (by omega) (by decide)) hF hz hS rfl hl.1 rfl (Nat.le_of_ble_eq_true rfl) dX9_need_58 ⟨Nat.zero_le _, Nat.zero_le _⟩) hS (fun r_5 w4 H locs hw4 hS => ?_)
    obtain ⟨rfl, rfl⟩ := hw4
    refine lv_if_eq (tgt := 69) hx hb dX9_need_61 (by decide) (fun c_6 => ?_) (fun c_6 => absurd (by decide) c_6)
    refine lv_iconst (v := 0) hx hb dX9_need_69 (by decide) ?_
    refine lv_iadd hx hb dX9_need_70 ?_
    refine lv_istore_n (lv' := [(3, .int ((100 + ((g j 1) / 10)) + 0)), (2, .int (nI 0)), (0, .ref (B 0)), (1, .int (nI j))]) hx hb dX9_need_71 rfl hl (by decide) rfl (fun ls hl => ?_)
    refine lv_iload_n hx hb dX9_need_72 rfl (lv_at hl 1 rfl) ?_
    refine lv_iconst (v := 3) hx hb dX9_need_73 (by decide) ?_
    refine lv_iconst (v := 4) hx hb dX9_need_74 (by decide) ?_
    refine m_ci (m_runS (n := 3) (rest := []) ⟨hx, hb, hml, hown, hG⟩ (c_in l X _ (nI 0) 3 4 0) kw_521 kw_522 kw_20 kw_523 (by decide +kernel) (rl_ok (by omega) (by decide)) hF hz hS rfl hl.1 rfl (Nat.le_of_ble_eq_true rfl) dX9_need_75 ⟨Nat.zero_le _, Nat.zero_le _⟩) hS (fun r_7 w5 H locs hw5 hS => ?_)
    obtain ⟨rfl, rfl⟩ := hw5
    refine lv_if_eq (tgt := 93) hx hb dX9_need_78 (by decide) (fun c_8 => ?_) (fun c_8 => absurd (by decide) c_8)
    refine lv_iload_n hx hb dX9_need_93 rfl (lv_at hl 0 rfl) ?_
    exact m_iret hx hb hr hlk hS ⟨by first | rfl | exact Int32.add_zero _ | (show _ = 2 * _; rw [Int32.add_zero]), rfl⟩ (Nat.le_refl 0) (Nat.le_refl 0) dX9_need_94
  | 1, _, ek =>
    refine lv_aload_n hx hb dX9_need_0 rfl (lv_at hl 0 rfl) ?_
    refine m_get (v := .ref (B 1)) hx hb hG hown hF hS (0) rfl rfl iG_9 1 (by decide) kw_472 (fun _ h9 => h9) rfl dX9_need_1 ?_
    refine lv_iload_n hx hb dX9_need_4 rfl (lv_at hl 1 rfl) ?_
    refine m_ialdv (v := nI 1) hx hb hF hS (1) rfl (j) rfl (hj) (by decide) (ek) dX9_need_5 ?_
    refine lv_istore_n (lv' := [(2, .int (nI 1)), (0, .ref (B 0)), (1, .int (nI j))]) hx hb dX9_need_6 rfl hl (by decide) rfl (fun ls hl => ?_)
    refine lv_iload_n hx hb dX9_need_7 rfl (lv_at hl 0 rfl) ?_
    refine lv_iconst (v := 3) hx hb dX9_need_8 (by decide) ?_
    refine lv_iconst (v := 4) hx hb dX9_need_9 (by decide) ?_
    refine m_ci (m_runS (n := 3) (rest := []) ⟨hx, hb, hml, hown, hG⟩ (c_in l X _ (nI 1) 3 4 0) kw_521 kw_522 kw_20 kw_523 (by decide +kernel) (rl_ok (by omega) (by decide)) hF hz hS rfl hl.1 rfl (Nat.le_of_ble_eq_true rfl) dX9_need_10 ⟨Nat.zero_le _, Nat.zero_le _⟩) hS (fun r_1 w1 H locs hw1 hS => ?_)
    obtain ⟨rfl, rfl⟩ := hw1
    refine lv_if_eq (tgt := 22) hx hb dX9_need_13 (by decide) (fun c_2 => ?_) (fun c_2 => absurd (by decide) c_2)
    refine lv_iload_n hx hb dX9_need_22 rfl (lv_at hl 0 rfl) ?_
    refine lv_iconst (v := 1) hx hb dX9_need_23 (by decide) ?_
    refine lv_iconst (v := 4) hx hb dX9_need_24 (by decide) ?_
    refine m_ci (m_runS (n := 3) (rest := []) ⟨hx, hb, hml, hown, hG⟩ (c_in l X _ (nI 1) 1 4 0) kw_521 kw_522 kw_20 kw_523 (by decide +kernel) (rl_ok (by omega) (by decide)) hF hz hS rfl hl.1 rfl (Nat.le_of_ble_eq_true rfl) dX9_need_25 ⟨Nat.zero_le _, Nat.zero_le _⟩) hS (fun r_3 w2 H locs hw2 hS => ?_)
    obtain ⟨rfl, rfl⟩ := hw2
    refine lv_if_eq (tgt := 37) hx hb dX9_need_28 (by decide) (fun c_4 => absurd c_4 (by decide)) (fun c_4 => ?_)
    refine lv_aload_n hx hb dX9_need_31 rfl (lv_at hl 1 rfl) ?_
    refine lv_bipush (v := 12) hx hb dX9_need_32 (by decide) ?_
    refine m_cv (m_runV (n := 1) (rest := []) ⟨hx, hb, hml, hown, hG⟩ (M_began l X B n wm dy tl g hs rest r t 12 0 (ht.le (by decide))) kw_540 kw_542 kw_9 kw_20 kw_543 (by decide +kernel) (rl_ok (by omega) (by decide)) hF hz hS (q0 := 0) rfl rfl rfl hl.1 rfl (Nat.le_of_ble_eq_true rfl) dX9_need_34 ⟨Nat.zero_le _, Nat.zero_le _⟩) hS (fun w3 H locs hw3 hS => ?_)
    subst hw3
    refine lv_aload_n hx hb dX9_need_37 rfl (lv_at hl 1 rfl) ?_
    refine lv_bipush (v := 11) hx hb dX9_need_38 (by decide) ?_
    refine m_cv (m_runV (n := 1) (rest := []) ⟨hx, hb, hml, hown, hG⟩ (M_began l X B n wm dy tl g hs rest r (te r [12] t) 11 0 (ht.step (by decide))) kw_540 kw_542 kw_9 kw_20 kw_543 (by decide +kernel) (rl_ok (by omega) (by decide)) hF hz hS (q0 := 0) rfl rfl rfl hl.1 rfl (Nat.le_of_ble_eq_true rfl) dX9_need_40 ⟨Nat.zero_le _, Nat.zero_le _⟩) hS (fun w4 H locs hw4 hS => ?_)
    subst hw4
    rw [te_te] at hS
    refine lv_bipush (v := 100) hx hb dX9_need_43 (by decide) ?_
    refine lv_aload_n hx hb dX9_need_45 rfl (lv_at hl 1 rfl) ?_
    refine m_get (v := .ref (B 2)) hx hb hG hown hF hS (0) rfl rfl iG_9 2 (by decide) kw_473 (fun _ h9 => h9) rfl dX9_need_46 ?_
    refine lv_iload_n hx hb dX9_need_49 rfl (lv_at hl 2 rfl) ?_
    refine m_ialdv (v := g j 1) hx hb hF hS (2) rfl (j) rfl (hj) (by decide) rfl dX9_need_50 ?_
    refine lv_bipush (v := 10) hx hb dX9_need_51 (by decide) ?_
    refine lv_idiv hx hb dX9_need_53 (by decide) ?_
    refine lv_iadd hx hb dX9_need_54 ?_
    refine lv_iload_n hx hb dX9_need_55 rfl (lv_at hl 0 rfl) ?_
    refine lv_iconst (v := 1) hx hb dX9_need_56 (by decide) ?_
    refine lv_iconst (v := 4) hx hb dX9_need_57 (by decide) ?_
    refine m_ci (m_runS (n := 3) (rest := [.int (100 + ((g j 1) / 10))]) ⟨hx, hb, hml, hown, hG⟩ (c_in l X _ (nI 1) 1 4 0) kw_521 kw_522 kw_20 kw_523 (by decide +kernel) (rl_ok (by omega) (by decide)) hF hz hS rfl hl.1 rfl (Nat.le_of_ble_eq_true rfl) dX9_need_58 ⟨Nat.zero_le _, Nat.zero_le _⟩) hS (fun r_5 w5 H locs hw5 hS => ?_)
    obtain ⟨rfl, rfl⟩ := hw5
    refine lv_if_eq (tgt := 69) hx hb dX9_need_61 (by decide) (fun c_6 => absurd c_6 (by decide)) (fun c_6 => ?_)
    refine lv_bipush (v := 50) hx hb dX9_need_64 (by decide) ?_
    refine lv_goto (tgt := 70) hx hb dX9_need_66 (by decide) ?_
    refine lv_iadd hx hb dX9_need_70 ?_
    refine lv_istore_n (lv' := [(3, .int ((100 + ((g j 1) / 10)) + 50)), (2, .int (nI 1)), (0, .ref (B 0)), (1, .int (nI j))]) hx hb dX9_need_71 rfl hl (by decide) rfl (fun ls hl => ?_)
    refine lv_iload_n hx hb dX9_need_72 rfl (lv_at hl 1 rfl) ?_
    refine lv_iconst (v := 3) hx hb dX9_need_73 (by decide) ?_
    refine lv_iconst (v := 4) hx hb dX9_need_74 (by decide) ?_
    refine m_ci (m_runS (n := 3) (rest := []) ⟨hx, hb, hml, hown, hG⟩ (c_in l X _ (nI 1) 3 4 0) kw_521 kw_522 kw_20 kw_523 (by decide +kernel) (rl_ok (by omega) (by decide)) hF hz hS rfl hl.1 rfl (Nat.le_of_ble_eq_true rfl) dX9_need_75 ⟨Nat.zero_le _, Nat.zero_le _⟩) hS (fun r_7 w6 H locs hw6 hS => ?_)
    obtain ⟨rfl, rfl⟩ := hw6
    refine lv_if_eq (tgt := 93) hx hb dX9_need_78 (by decide) (fun c_8 => ?_) (fun c_8 => absurd (by decide) c_8)
    refine lv_iload_n hx hb dX9_need_93 rfl (lv_at hl 0 rfl) ?_
    exact m_iret hx hb hr hlk hS ⟨by first | rfl | exact Int32.add_zero _ | (show _ = 2 * _; rw [Int32.add_zero]), rfl⟩ (Nat.le_refl 0) (Nat.le_refl 0) dX9_need_94
  | 2, _, ek =>
    refine lv_aload_n hx hb dX9_need_0 rfl (lv_at hl 0 rfl) ?_
    refine m_get (v := .ref (B 1)) hx hb hG hown hF hS (0) rfl rfl iG_9 1 (by decide) kw_472 (fun _ h9 => h9) rfl dX9_need_1 ?_
    refine lv_iload_n hx hb dX9_need_4 rfl (lv_at hl 1 rfl) ?_
    refine m_ialdv (v := nI 2) hx hb hF hS (1) rfl (j) rfl (hj) (by decide) (ek) dX9_need_5 ?_
    refine lv_istore_n (lv' := [(2, .int (nI 2)), (0, .ref (B 0)), (1, .int (nI j))]) hx hb dX9_need_6 rfl hl (by decide) rfl (fun ls hl => ?_)
    refine lv_iload_n hx hb dX9_need_7 rfl (lv_at hl 0 rfl) ?_
    refine lv_iconst (v := 3) hx hb dX9_need_8 (by decide) ?_
    refine lv_iconst (v := 4) hx hb dX9_need_9 (by decide) ?_
    refine m_ci (m_runS (n := 3) (rest := []) ⟨hx, hb, hml, hown, hG⟩ (c_in l X _ (nI 2) 3 4 0) kw_521 kw_522 kw_20 kw_523 (by decide +kernel) (rl_ok (by omega) (by decide)) hF hz hS rfl hl.1 rfl (Nat.le_of_ble_eq_true rfl) dX9_need_10 ⟨Nat.zero_le _, Nat.zero_le _⟩) hS (fun r_1 w1 H locs hw1 hS => ?_)
    obtain ⟨rfl, rfl⟩ := hw1
    refine lv_if_eq (tgt := 22) hx hb dX9_need_13 (by decide) (fun c_2 => ?_) (fun c_2 => absurd (by decide) c_2)
    refine lv_iload_n hx hb dX9_need_22 rfl (lv_at hl 0 rfl) ?_
    refine lv_iconst (v := 1) hx hb dX9_need_23 (by decide) ?_
    refine lv_iconst (v := 4) hx hb dX9_need_24 (by decide) ?_
    refine m_ci (m_runS (n := 3) (rest := []) ⟨hx, hb, hml, hown, hG⟩ (c_in l X _ (nI 2) 1 4 0) kw_521 kw_522 kw_20 kw_523 (by decide +kernel) (rl_ok (by omega) (by decide)) hF hz hS rfl hl.1 rfl (Nat.le_of_ble_eq_true rfl) dX9_need_25 ⟨Nat.zero_le _, Nat.zero_le _⟩) hS (fun r_3 w2 H locs hw2 hS => ?_)
    obtain ⟨rfl, rfl⟩ := hw2
    refine lv_if_eq (tgt := 37) hx hb dX9_need_28 (by decide) (fun c_4 => absurd c_4 (by decide)) (fun c_4 => ?_)
    refine lv_aload_n hx hb dX9_need_31 rfl (lv_at hl 1 rfl) ?_
    refine lv_bipush (v := 12) hx hb dX9_need_32 (by decide) ?_
    refine m_cv (m_runV (n := 1) (rest := []) ⟨hx, hb, hml, hown, hG⟩ (M_began l X B n wm dy tl g hs rest r t 12 0 (ht.le (by decide))) kw_540 kw_542 kw_9 kw_20 kw_543 (by decide +kernel) (rl_ok (by omega) (by decide)) hF hz hS (q0 := 0) rfl rfl rfl hl.1 rfl (Nat.le_of_ble_eq_true rfl) dX9_need_34 ⟨Nat.zero_le _, Nat.zero_le _⟩) hS (fun w3 H locs hw3 hS => ?_)
    subst hw3
    refine lv_aload_n hx hb dX9_need_37 rfl (lv_at hl 1 rfl) ?_
    refine lv_bipush (v := 11) hx hb dX9_need_38 (by decide) ?_
    refine m_cv (m_runV (n := 1) (rest := []) ⟨hx, hb, hml, hown, hG⟩ (M_began l X B n wm dy tl g hs rest r (te r [12] t) 11 0 (ht.step (by decide))) kw_540 kw_542 kw_9 kw_20 kw_543 (by decide +kernel) (rl_ok (by omega) (by decide)) hF hz hS (q0 := 0) rfl rfl rfl hl.1 rfl (Nat.le_of_ble_eq_true rfl) dX9_need_40 ⟨Nat.zero_le _, Nat.zero_le _⟩) hS (fun w4 H locs hw4 hS => ?_)
    subst hw4
    rw [te_te] at hS
    refine lv_bipush (v := 100) hx hb dX9_need_43 (by decide) ?_
    refine lv_aload_n hx hb dX9_need_45 rfl (lv_at hl 1 rfl) ?_
    refine m_get (v := .ref (B 2)) hx hb hG hown hF hS (0) rfl rfl iG_9 2 (by decide) kw_473 (fun _ h9 => h9) rfl dX9_need_46 ?_
    refine lv_iload_n hx hb dX9_need_49 rfl (lv_at hl 2 rfl) ?_
    refine m_ialdv (v := g j 1) hx hb hF hS (2) rfl (j) rfl (hj) (by decide) rfl dX9_need_50 ?_
    refine lv_bipush (v := 10) hx hb dX9_need_51 (by decide) ?_
    refine lv_idiv hx hb dX9_need_53 (by decide) ?_
    refine lv_iadd hx hb dX9_need_54 ?_
    refine lv_iload_n hx hb dX9_need_55 rfl (lv_at hl 0 rfl) ?_
    refine lv_iconst (v := 1) hx hb dX9_need_56 (by decide) ?_
    refine lv_iconst (v := 4) hx hb dX9_need_57 (by decide) ?_
    refine m_ci (m_runS (n := 3) (rest := [.int (100 + ((g j 1) / 10))]) ⟨hx, hb, hml, hown, hG⟩ (c_in l X _ (nI 2) 1 4 0) kw_521 kw_522 kw_20 kw_523 (by decide +kernel) (rl_ok (by omega) (by decide)) hF hz hS rfl hl.1 rfl (Nat.le_of_ble_eq_true rfl) dX9_need_58 ⟨Nat.zero_le _, Nat.zero_le _⟩) hS (fun r_5 w5 H locs hw5 hS => ?_)
    obtain ⟨rfl, rfl⟩ := hw5
    refine lv_if_eq (tgt := 69) hx hb dX9_need_61 (by decide) (fun c_6 => absurd c_6 (by decide)) (fun c_6 => ?_)
    refine lv_bipush (v := 50) hx hb dX9_need_64 (by decide) ?_
    refine lv_goto (tgt := 70) hx hb dX9_need_66 (by decide) ?_
    refine lv_iadd hx hb dX9_need_70 ?_
    refine lv_istore_n (lv' := [(3, .int ((100 + ((g j 1) / 10)) + 50)), (2, .int (nI 2)), (0, .ref (B 0)), (1, .int (nI j))]) hx hb dX9_need_71 rfl hl (by decide) rfl (fun ls hl => ?_)
    refine lv_iload_n hx hb dX9_need_72 rfl (lv_at hl 1 rfl) ?_
    refine lv_iconst (v := 3) hx hb dX9_need_73 (by decide) ?_
    refine lv_iconst (v := 4) hx hb dX9_need_74 (by decide) ?_
    refine m_ci (m_runS (n := 3) (rest := []) ⟨hx, hb, hml, hown, hG⟩ (c_in l X _ (nI 2) 3 4 0) kw_521 kw_522 kw_20 kw_523 (by decide +kernel) (rl_ok (by omega) (by decide)) hF hz hS rfl hl.1 rfl (Nat.le_of_ble_eq_true rfl) dX9_need_75 ⟨Nat.zero_le _, Nat.zero_le _⟩) hS (fun r_7 w6 H locs hw6 hS => ?_)
    obtain ⟨rfl, rfl⟩ := hw6
    refine lv_if_eq (tgt := 93) hx hb dX9_need_78 (by decide) (fun c_8 => ?_) (fun c_8 => absurd (by decide) c_8)
    refine lv_iload_n hx hb dX9_need_93 rfl (lv_at hl 0 rfl) ?_
    exact m_iret hx hb hr hlk hS ⟨by first | rfl | exact Int32.add_zero _ | (show _ = 2 * _; rw [Int32.add_zero]), rfl⟩ (Nat.le_refl 0) (Nat.le_refl 0) dX9_need_94
  | 3, _, ek =>
    refine lv_aload_n hx hb dX9_need_0 rfl (lv_at hl 0 rfl) ?_
    refine m_get (v := .ref (B 1)) hx hb hG hown hF hS (0) rfl rfl iG_9 1 (by decide) kw_472 (fun _ h9 => h9) rfl dX9_need_1 ?_
    refine lv_iload_n hx hb dX9_need_4 rfl (lv_at hl 1 rfl) ?_
    refine m_ialdv (v := nI 3) hx hb hF hS (1) rfl (j) rfl (hj) (by decide) (ek) dX9_need_5 ?_
    refine lv_istore_n (lv' := [(2, .int (nI 3)), (0, .ref (B 0)), (1, .int (nI j))]) hx hb dX9_need_6 rfl hl (by decide) rfl (fun ls hl => ?_)
    refine lv_iload_n hx hb dX9_need_7 rfl (lv_at hl 0 rfl) ?_
    refine lv_iconst (v := 3) hx hb dX9_need_8 (by decide) ?_
    refine lv_iconst (v := 4) hx hb dX9_need_9 (by decide) ?_
    refine m_ci (m_runS (n := 3) (rest := []) ⟨hx, hb, hml, hown, hG⟩ (c_in l X _ (nI 3) 3 4 0) kw_521 kw_522 kw_20 kw_523 (by decide +kernel) (rl_ok (by omega) (by decide)) hF hz hS rfl hl.1 rfl (Nat.le_of_ble_eq_true rfl) dX9_need_10 ⟨Nat.zero_le _, Nat.zero_le _⟩) hS (fun r_1 w1 H locs hw1 hS => ?_)
    obtain ⟨rfl, rfl⟩ := hw1
    refine lv_if_eq (tgt := 22) hx hb dX9_need_13 (by decide) (fun c_2 => absurd c_2 (by decide)) (fun c_2 => ?_)
    refine lv_aload_n hx hb dX9_need_16 rfl (lv_at hl 1 rfl) ?_
    refine lv_bipush (v := 13) hx hb dX9_need_17 (by decide) ?_
    refine m_cv (m_runV (n := 1) (rest := []) ⟨hx, hb, hml, hown, hG⟩ (M_began l X B n wm dy tl g hs rest r t 13 0 (ht.le (by decide))) kw_540 kw_542 kw_9 kw_20 kw_543 (by decide +kernel) (rl_ok (by omega) (by decide)) hF hz hS (q0 := 0) rfl rfl rfl hl.1 rfl (Nat.le_of_ble_eq_true rfl) dX9_need_19 ⟨Nat.zero_le _, Nat.zero_le _⟩) hS (fun w2 H locs hw2 hS => ?_)
    subst hw2
    refine lv_iload_n hx hb dX9_need_22 rfl (lv_at hl 0 rfl) ?_
    refine lv_iconst (v := 1) hx hb dX9_need_23 (by decide) ?_
    refine lv_iconst (v := 4) hx hb dX9_need_24 (by decide) ?_
    refine m_ci (m_runS (n := 3) (rest := []) ⟨hx, hb, hml, hown, hG⟩ (c_in l X _ (nI 3) 1 4 0) kw_521 kw_522 kw_20 kw_523 (by decide +kernel) (rl_ok (by omega) (by decide)) hF hz hS rfl hl.1 rfl (Nat.le_of_ble_eq_true rfl) dX9_need_25 ⟨Nat.zero_le _, Nat.zero_le _⟩) hS (fun r_3 w3 H locs hw3 hS => ?_)
    obtain ⟨rfl, rfl⟩ := hw3
    refine lv_if_eq (tgt := 37) hx hb dX9_need_28 (by decide) (fun c_4 => absurd c_4 (by decide)) (fun c_4 => ?_)
    refine lv_aload_n hx hb dX9_need_31 rfl (lv_at hl 1 rfl) ?_
    refine lv_bipush (v := 12) hx hb dX9_need_32 (by decide) ?_
    refine m_cv (m_runV (n := 1) (rest := []) ⟨hx, hb, hml, hown, hG⟩ (M_began l X B n wm dy tl g hs rest r (te r [13] t) 12 0 (ht.step (by decide))) kw_540 kw_542 kw_9 kw_20 kw_543 (by decide +kernel) (rl_ok (by omega) (by decide)) hF hz hS (q0 := 0) rfl rfl rfl hl.1 rfl (Nat.le_of_ble_eq_true rfl) dX9_need_34 ⟨Nat.zero_le _, Nat.zero_le _⟩) hS (fun w4 H locs hw4 hS => ?_)
    subst hw4
    rw [te_te] at hS
    refine lv_aload_n hx hb dX9_need_37 rfl (lv_at hl 1 rfl) ?_
    refine lv_bipush (v := 11) hx hb dX9_need_38 (by decide) ?_
    refine m_cv (m_runV (n := 1) (rest := []) ⟨hx, hb, hml, hown, hG⟩ (M_began l X B n wm dy tl g hs rest r (te r [13, 12] t) 11 0 (ht.step (by decide))) kw_540 kw_542 kw_9 kw_20 kw_543 (by decide +kernel) (rl_ok (by omega) (by decide)) hF hz hS (q0 := 0) rfl rfl rfl hl.1 rfl (Nat.le_of_ble_eq_true rfl) dX9_need_40 ⟨Nat.zero_le _, Nat.zero_le _⟩) hS (fun w5 H locs hw5 hS => ?_)
    subst hw5
    rw [te_te] at hS
    refine lv_bipush (v := 100) hx hb dX9_need_43 (by decide) ?_
    refine lv_aload_n hx hb dX9_need_45 rfl (lv_at hl 1 rfl) ?_
    refine m_get (v := .ref (B 2)) hx hb hG hown hF hS (0) rfl rfl iG_9 2 (by decide) kw_473 (fun _ h9 => h9) rfl dX9_need_46 ?_
    refine lv_iload_n hx hb dX9_need_49 rfl (lv_at hl 2 rfl) ?_
    refine m_ialdv (v := g j 1) hx hb hF hS (2) rfl (j) rfl (hj) (by decide) rfl dX9_need_50 ?_
    refine lv_bipush (v := 10) hx hb dX9_need_51 (by decide) ?_
    refine lv_idiv hx hb dX9_need_53 (by decide) ?_
    refine lv_iadd hx hb dX9_need_54 ?_
    refine lv_iload_n hx hb dX9_need_55 rfl (lv_at hl 0 rfl) ?_
    refine lv_iconst (v := 1) hx hb dX9_need_56 (by decide) ?_
    refine lv_iconst (v := 4) hx hb dX9_need_57 (by decide) ?_
    refine m_ci (m_runS (n := 3) (rest := [.int (100 + ((g j 1) / 10))]) ⟨hx, hb, hml, hown, hG⟩ (c_in l X _ (nI 3) 1 4 0) kw_521 kw_522 kw_20 kw_523 (by decide +kernel) (rl_ok (by omega) (by decide)) hF hz hS rfl hl.1 rfl (Nat.le_of_ble_eq_true rfl) dX9_need_58 ⟨Nat.zero_le _, Nat.zero_le _⟩) hS (fun r_5 w6 H locs hw6 hS => ?_)
    obtain ⟨rfl, rfl⟩ := hw6
    refine lv_if_eq (tgt := 69) hx hb dX9_need_61 (by decide) (fun c_6 => absurd c_6 (by decide)) (fun c_6 => ?_)
    refine lv_bipush (v := 50) hx hb dX9_need_64 (by decide) ?_
    refine lv_goto (tgt := 70) hx hb dX9_need_66 (by decide) ?_
    refine lv_iadd hx hb dX9_need_70 ?_
    refine lv_istore_n (lv' := [(3, .int ((100 + ((g j 1) / 10)) + 50)), (2, .int (nI 3)), (0, .ref (B 0)), (1, .int (nI j))]) hx hb dX9_need_71 rfl hl (by decide) rfl (fun ls hl => ?_)
    refine lv_iload_n hx hb dX9_need_72 rfl (lv_at hl 1 rfl) ?_
    refine lv_iconst (v := 3) hx hb dX9_need_73 (by decide) ?_
    refine lv_iconst (v := 4) hx hb dX9_need_74 (by decide) ?_
    refine m_ci (m_runS (n := 3) (rest := []) ⟨hx, hb, hml, hown, hG⟩ (c_in l X _ (nI 3) 3 4 0) kw_521 kw_522 kw_20 kw_523 (by decide +kernel) (rl_ok (by omega) (by decide)) hF hz hS rfl hl.1 rfl (Nat.le_of_ble_eq_true rfl) dX9_need_75 ⟨Nat.zero_le _, Nat.zero_le _⟩) hS (fun r_7 w7 H locs hw7 hS => ?_)
    obtain ⟨rfl, rfl⟩ := hw7
    refine lv_if_eq (tgt := 93) hx hb dX9_need_78 (by decide) (fun c_8 => absurd c_8 (by decide)) (fun c_8 => ?_)
    refine lv_iload_n hx hb dX9_need_81 rfl (lv_at hl 0 rfl) ?_
    refine lv_aload_n hx hb dX9_need_82 rfl (lv_at hl 2 rfl) ?_
    refine lv_iload_n hx hb dX9_need_83 rfl (lv_at hl 3 rfl) ?_
    refine lv_bipush (v := 20) hx hb dX9_need_84 (by decide) ?_
    refine m_ci (m_runV (n := 2) (rest := [.int ((100 + ((g j 1) / 10)) + 50)]) ⟨hx, hb, hml, hown, hG⟩ (M_rise l X B n wm dy tl g hs rest r (te r [13, 12, 11] t) j 3 20 1 hj ek (by decide) (by decide) (ht.step (by decide))) kw_536 kw_538 kw_8 kw_20 kw_539 (by decide +kernel) (rl_ok (by omega) (by decide)) hF hz hS (q0 := 0) rfl rfl rfl hl.1 rfl (Nat.le_of_ble_eq_true rfl) dX9_need_86 ⟨Nat.zero_le _, Nat.zero_le _⟩) hS (fun r_9 w8 H locs hw8 hS => ?_)
    obtain ⟨rfl, rfl⟩ := hw8
    rw [te_te] at hS
    refine lv_iadd hx hb dX9_need_89 ?_
    refine lv_goto (tgt := 94) hx hb dX9_need_90 (by decide) ?_
    exact m_iret hx hb hr hlk hS ⟨by first | rfl | exact Int32.add_zero _ | (show _ = 2 * _; rw [Int32.add_zero]), rfl⟩ (Nat.le_refl 0) (Nat.le_refl 0) dX9_need_94
  | 4, _, ek =>
    refine lv_aload_n hx hb dX9_need_0 rfl (lv_at hl 0 rfl) ?_
    refine m_get (v := .ref (B 1)) hx hb hG hown hF hS (0) rfl rfl iG_9 1 (by decide) kw_472 (fun _ h9 => h9) rfl dX9_need_1 ?_
    refine lv_iload_n hx hb dX9_need_4 rfl (lv_at hl 1 rfl) ?_
    refine m_ialdv (v := nI 4) hx hb hF hS (1) rfl (j) rfl (hj) (by decide) (ek) dX9_need_5 ?_
    refine lv_istore_n (lv' := [(2, .int (nI 4)), (0, .ref (B 0)), (1, .int (nI j))]) hx hb dX9_need_6 rfl hl (by decide) rfl (fun ls hl => ?_)
    refine lv_iload_n hx hb dX9_need_7 rfl (lv_at hl 0 rfl) ?_
    refine lv_iconst (v := 3) hx hb dX9_need_8 (by decide) ?_
    refine lv_iconst (v := 4) hx hb dX9_need_9 (by decide) ?_
    refine m_ci (m_runS (n := 3) (rest := []) ⟨hx, hb, hml, hown, hG⟩ (c_in l X _ (nI 4) 3 4 0) kw_521 kw_522 kw_20 kw_523 (by decide +kernel) (rl_ok (by omega) (by decide)) hF hz hS rfl hl.1 rfl (Nat.le_of_ble_eq_true rfl) dX9_need_10 ⟨Nat.zero_le _, Nat.zero_le _⟩) hS (fun r_1 w1 H locs hw1 hS => ?_)
    obtain ⟨rfl, rfl⟩ := hw1
    refine lv_if_eq (tgt := 22) hx hb dX9_need_13 (by decide) (fun c_2 => absurd c_2 (by decide)) (fun c_2 => ?_)
    refine lv_aload_n hx hb dX9_need_16 rfl (lv_at hl 1 rfl) ?_
    refine lv_bipush (v := 13) hx hb dX9_need_17 (by decide) ?_
    refine m_cv (m_runV (n := 1) (rest := []) ⟨hx, hb, hml, hown, hG⟩ (M_began l X B n wm dy tl g hs rest r t 13 0 (ht.le (by decide))) kw_540 kw_542 kw_9 kw_20 kw_543 (by decide +kernel) (rl_ok (by omega) (by decide)) hF hz hS (q0 := 0) rfl rfl rfl hl.1 rfl (Nat.le_of_ble_eq_true rfl) dX9_need_19 ⟨Nat.zero_le _, Nat.zero_le _⟩) hS (fun w2 H locs hw2 hS => ?_)
    subst hw2
    refine lv_iload_n hx hb dX9_need_22 rfl (lv_at hl 0 rfl) ?_
    refine lv_iconst (v := 1) hx hb dX9_need_23 (by decide) ?_
    refine lv_iconst (v := 4) hx hb dX9_need_24 (by decide) ?_
    refine m_ci (m_runS (n := 3) (rest := []) ⟨hx, hb, hml, hown, hG⟩ (c_in l X _ (nI 4) 1 4 0) kw_521 kw_522 kw_20 kw_523 (by decide +kernel) (rl_ok (by omega) (by decide)) hF hz hS rfl hl.1 rfl (Nat.le_of_ble_eq_true rfl) dX9_need_25 ⟨Nat.zero_le _, Nat.zero_le _⟩) hS (fun r_3 w3 H locs hw3 hS => ?_)
    obtain ⟨rfl, rfl⟩ := hw3
    refine lv_if_eq (tgt := 37) hx hb dX9_need_28 (by decide) (fun c_4 => absurd c_4 (by decide)) (fun c_4 => ?_)
    refine lv_aload_n hx hb dX9_need_31 rfl (lv_at hl 1 rfl) ?_
    refine lv_bipush (v := 12) hx hb dX9_need_32 (by decide) ?_
    refine m_cv (m_runV (n := 1) (rest := []) ⟨hx, hb, hml, hown, hG⟩ (M_began l X B n wm dy tl g hs rest r (te r [13] t) 12 0 (ht.step (by decide))) kw_540 kw_542 kw_9 kw_20 kw_543 (by decide +kernel) (rl_ok (by omega) (by decide)) hF hz hS (q0 := 0) rfl rfl rfl hl.1 rfl (Nat.le_of_ble_eq_true rfl) dX9_need_34 ⟨Nat.zero_le _, Nat.zero_le _⟩) hS (fun w4 H locs hw4 hS => ?_)
    subst hw4
    rw [te_te] at hS
    refine lv_aload_n hx hb dX9_need_37 rfl (lv_at hl 1 rfl) ?_
    refine lv_bipush (v := 11) hx hb dX9_need_38 (by decide) ?_
    refine m_cv (m_runV (n := 1) (rest := []) ⟨hx, hb, hml, hown, hG⟩ (M_began l X B n wm dy tl g hs rest r (te r [13, 12] t) 11 0 (ht.step (by decide))) kw_540 kw_542 kw_9 kw_20 kw_543 (by decide +kernel) (rl_ok (by omega) (by decide)) hF hz hS (q0 := 0) rfl rfl rfl hl.1 rfl (Nat.le_of_ble_eq_true rfl) dX9_need_40 ⟨Nat.zero_le _, Nat.zero_le _⟩) hS (fun w5 H locs hw5 hS => ?_)
    subst hw5
    rw [te_te] at hS
    refine lv_bipush (v := 100) hx hb dX9_need_43 (by decide) ?_
    refine lv_aload_n hx hb dX9_need_45 rfl (lv_at hl 1 rfl) ?_
    refine m_get (v := .ref (B 2)) hx hb hG hown hF hS (0) rfl rfl iG_9 2 (by decide) kw_473 (fun _ h9 => h9) rfl dX9_need_46 ?_
    refine lv_iload_n hx hb dX9_need_49 rfl (lv_at hl 2 rfl) ?_
    refine m_ialdv (v := g j 1) hx hb hF hS (2) rfl (j) rfl (hj) (by decide) rfl dX9_need_50 ?_
    refine lv_bipush (v := 10) hx hb dX9_need_51 (by decide) ?_
    refine lv_idiv hx hb dX9_need_53 (by decide) ?_
    refine lv_iadd hx hb dX9_need_54 ?_
    refine lv_iload_n hx hb dX9_need_55 rfl (lv_at hl 0 rfl) ?_
    refine lv_iconst (v := 1) hx hb dX9_need_56 (by decide) ?_
    refine lv_iconst (v := 4) hx hb dX9_need_57 (by decide) ?_
    refine m_ci (m_runS (n := 3) (rest := [.int (100 + ((g j 1) / 10))]) ⟨hx, hb, hml, hown, hG⟩ (c_in l X _ (nI 4) 1 4 0) kw_521 kw_522 kw_20 kw_523 (by decide +kernel) (rl_ok (by omega) (by decide)) hF hz hS rfl hl.1 rfl (Nat.le_of_ble_eq_true rfl) dX9_need_58 ⟨Nat.zero_le _, Nat.zero_le _⟩) hS (fun r_5 w6 H locs hw6 hS => ?_)
    obtain ⟨rfl, rfl⟩ := hw6
    refine lv_if_eq (tgt := 69) hx hb dX9_need_61 (by decide) (fun c_6 => absurd c_6 (by decide)) (fun c_6 => ?_)
    refine lv_bipush (v := 50) hx hb dX9_need_64 (by decide) ?_
    refine lv_goto (tgt := 70) hx hb dX9_need_66 (by decide) ?_
    refine lv_iadd hx hb dX9_need_70 ?_
    refine lv_istore_n (lv' := [(3, .int ((100 + ((g j 1) / 10)) + 50)), (2, .int (nI 4)), (0, .ref (B 0)), (1, .int (nI j))]) hx hb dX9_need_71 rfl hl (by decide) rfl (fun ls hl => ?_)
    refine lv_iload_n hx hb dX9_need_72 rfl (lv_at hl 1 rfl) ?_
    refine lv_iconst (v := 3) hx hb dX9_need_73 (by decide) ?_
    refine lv_iconst (v := 4) hx hb dX9_need_74 (by decide) ?_
    refine m_ci (m_runS (n := 3) (rest := []) ⟨hx, hb, hml, hown, hG⟩ (c_in l X _ (nI 4) 3 4 0) kw_521 kw_522 kw_20 kw_523 (by decide +kernel) (rl_ok (by omega) (by decide)) hF hz hS rfl hl.1 rfl (Nat.le_of_ble_eq_true rfl) dX9_need_75 ⟨Nat.zero_le _, Nat.zero_le _⟩) hS (fun r_7 w7 H locs hw7 hS => ?_)
    obtain ⟨rfl, rfl⟩ := hw7
    refine lv_if_eq (tgt := 93) hx hb dX9_need_78 (by decide) (fun c_8 => absurd c_8 (by decide)) (fun c_8 => ?_)
    refine lv_iload_n hx hb dX9_need_81 rfl (lv_at hl 0 rfl) ?_
    refine lv_aload_n hx hb dX9_need_82 rfl (lv_at hl 2 rfl) ?_
    refine lv_iload_n hx hb dX9_need_83 rfl (lv_at hl 3 rfl) ?_
    refine lv_bipush (v := 20) hx hb dX9_need_84 (by decide) ?_
    refine m_ci (m_runV (n := 2) (rest := [.int ((100 + ((g j 1) / 10)) + 50)]) ⟨hx, hb, hml, hown, hG⟩ (M_rise l X B n wm dy tl g hs rest r (te r [13, 12, 11] t) j 4 20 1 hj ek (by decide) (by decide) (ht.step (by decide))) kw_536 kw_538 kw_8 kw_20 kw_539 (by decide +kernel) (rl_ok (by omega) (by decide)) hF hz hS (q0 := 0) rfl rfl rfl hl.1 rfl (Nat.le_of_ble_eq_true rfl) dX9_need_86 ⟨Nat.zero_le _, Nat.zero_le _⟩) hS (fun r_9 w8 H locs hw8 hS => ?_)
    obtain ⟨rfl, rfl⟩ := hw8
    rw [te_te] at hS
    refine lv_iadd hx hb dX9_need_89 ?_
    refine lv_goto (tgt := 94) hx hb dX9_need_90 (by decide) ?_
    exact m_iret hx hb hr hlk hS ⟨by first | rfl | exact Int32.add_zero _ | (show _ = 2 * _; rw [Int32.add_zero]), rfl⟩ (Nat.le_refl 0) (Nat.le_refl 0) dX9_need_94
  | 5, _, ek =>
    refine lv_aload_n hx hb dX9_need_0 rfl (lv_at hl 0 rfl) ?_
    refine m_get (v := .ref (B 1)) hx hb hG hown hF hS (0) rfl rfl iG_9 1 (by decide) kw_472 (fun _ h9 => h9) rfl dX9_need_1 ?_
    refine lv_iload_n hx hb dX9_need_4 rfl (lv_at hl 1 rfl) ?_
    refine m_ialdv (v := nI 5) hx hb hF hS (1) rfl (j) rfl (hj) (by decide) (ek) dX9_need_5 ?_
    refine lv_istore_n (lv' := [(2, .int (nI 5)), (0, .ref (B 0)), (1, .int (nI j))]) hx hb dX9_need_6 rfl hl (by decide) rfl (fun ls hl => ?_)
    refine lv_iload_n hx hb dX9_need_7 rfl (lv_at hl 0 rfl) ?_
    refine lv_iconst (v := 3) hx hb dX9_need_8 (by decide) ?_
    refine lv_iconst (v := 4) hx hb dX9_need_9 (by decide) ?_
    refine m_ci (m_runS (n := 3) (rest := []) ⟨hx, hb, hml, hown, hG⟩ (c_in l X _ (nI 5) 3 4 0) kw_521 kw_522 kw_20 kw_523 (by decide +kernel) (rl_ok (by omega) (by decide)) hF hz hS rfl hl.1 rfl (Nat.le_of_ble_eq_true rfl) dX9_need_10 ⟨Nat.zero_le _, Nat.zero_le _⟩) hS (fun r_1 w1 H locs hw1 hS => ?_)
    obtain ⟨rfl, rfl⟩ := hw1
    refine lv_if_eq (tgt := 22) hx hb dX9_need_13 (by decide) (fun c_2 => ?_) (fun c_2 => absurd (by decide) c_2)
    refine lv_iload_n hx hb dX9_need_22 rfl (lv_at hl 0 rfl) ?_
    refine lv_iconst (v := 1) hx hb dX9_need_23 (by decide) ?_
    refine lv_iconst (v := 4) hx hb dX9_need_24 (by decide) ?_
    refine m_ci (m_runS (n := 3) (rest := []) ⟨hx, hb, hml, hown, hG⟩ (c_in l X _ (nI 5) 1 4 0) kw_521 kw_522 kw_20 kw_523 (by decide +kernel) (rl_ok (by omega) (by decide)) hF hz hS rfl hl.1 rfl (Nat.le_of_ble_eq_true rfl) dX9_need_25 ⟨Nat.zero_le _, Nat.zero_le _⟩) hS (fun r_3 w2 H locs hw2 hS => ?_)
    obtain ⟨rfl, rfl⟩ := hw2
    refine lv_if_eq (tgt := 37) hx hb dX9_need_28 (by decide) (fun c_4 => ?_) (fun c_4 => absurd (by decide) c_4)
    refine lv_aload_n hx hb dX9_need_37 rfl (lv_at hl 1 rfl) ?_
    refine lv_bipush (v := 11) hx hb dX9_need_38 (by decide) ?_
    refine m_cv (m_runV (n := 1) (rest := []) ⟨hx, hb, hml, hown, hG⟩ (M_began l X B n wm dy tl g hs rest r t 11 0 (ht.le (by decide))) kw_540 kw_542 kw_9 kw_20 kw_543 (by decide +kernel) (rl_ok (by omega) (by decide)) hF hz hS (q0 := 0) rfl rfl rfl hl.1 rfl (Nat.le_of_ble_eq_true rfl) dX9_need_40 ⟨Nat.zero_le _, Nat.zero_le _⟩) hS (fun w3 H locs hw3 hS => ?_)
    subst hw3
    refine lv_bipush (v := 100) hx hb dX9_need_43 (by decide) ?_
    refine lv_aload_n hx hb dX9_need_45 rfl (lv_at hl 1 rfl) ?_
    refine m_get (v := .ref (B 2)) hx hb hG hown hF hS (0) rfl rfl iG_9 2 (by decide) kw_473 (fun _ h9 => h9) rfl dX9_need_46 ?_
    refine lv_iload_n hx hb dX9_need_49 rfl (lv_at hl 2 rfl) ?_
    refine m_ialdv (v := g j 1) hx hb hF hS (2) rfl (j) rfl (hj) (by decide) rfl dX9_need_50 ?_
    refine lv_bipush (v := 10) hx hb dX9_need_51 (by decide) ?_
    refine lv_idiv hx hb dX9_need_53 (by decide) ?_
    refine lv_iadd hx hb dX9_need_54 ?_
    refine lv_iload_n hx hb dX9_need_55 rfl (lv_at hl 0 rfl) ?_
    refine lv_iconst (v := 1) hx hb dX9_need_56 (by decide) ?_
    refine lv_iconst (v := 4) hx hb dX9_need_57 (by decide) ?_
    refine m_ci (m_runS (n := 3) (rest := [.int (100 + ((g j 1) / 10))]) ⟨hx, hb, hml, hown, hG⟩ (c_in l X _ (nI 5) 1 4 0) kw_521 kw_522 kw_20 kw_523 (by decide +kernel) (rl_ok (by omega) (by decide)) hF hz hS rfl hl.1 rfl (Nat.le_of_ble_eq_true rfl) dX9_need_58 ⟨Nat.zero_le _, Nat.zero_le _⟩) hS (fun r_5 w4 H locs hw4 hS => ?_)
    obtain ⟨rfl, rfl⟩ := hw4
    refine lv_if_eq (tgt := 69) hx hb dX9_need_61 (by decide) (fun c_6 => ?_) (fun c_6 => absurd (by decide) c_6)
    refine lv_iconst (v := 0) hx hb dX9_need_69 (by decide) ?_
    refine lv_iadd hx hb dX9_need_70 ?_
    refine lv_istore_n (lv' := [(3, .int ((100 + ((g j 1) / 10)) + 0)), (2, .int (nI 5)), (0, .ref (B 0)), (1, .int (nI j))]) hx hb dX9_need_71 rfl hl (by decide) rfl (fun ls hl => ?_)
    refine lv_iload_n hx hb dX9_need_72 rfl (lv_at hl 1 rfl) ?_
    refine lv_iconst (v := 3) hx hb dX9_need_73 (by decide) ?_
    refine lv_iconst (v := 4) hx hb dX9_need_74 (by decide) ?_
    refine m_ci (m_runS (n := 3) (rest := []) ⟨hx, hb, hml, hown, hG⟩ (c_in l X _ (nI 5) 3 4 0) kw_521 kw_522 kw_20 kw_523 (by decide +kernel) (rl_ok (by omega) (by decide)) hF hz hS rfl hl.1 rfl (Nat.le_of_ble_eq_true rfl) dX9_need_75 ⟨Nat.zero_le _, Nat.zero_le _⟩) hS (fun r_7 w5 H locs hw5 hS => ?_)
    obtain ⟨rfl, rfl⟩ := hw5
    refine lv_if_eq (tgt := 93) hx hb dX9_need_78 (by decide) (fun c_8 => ?_) (fun c_8 => absurd (by decide) c_8)
    refine lv_iload_n hx hb dX9_need_93 rfl (lv_at hl 0 rfl) ?_
    exact m_iret hx hb hr hlk hS ⟨by first | rfl | exact Int32.add_zero _ | (show _ = 2 * _; rw [Int32.add_zero]), rfl⟩ (Nat.le_refl 0) (Nat.le_refl 0) dX9_need_94
  | 6, _, ek =>
    refine lv_aload_n hx hb dX9_need_0 rfl (lv_at hl 0 rfl) ?_
    refine m_get (v := .ref (B 1)) hx hb hG hown hF hS (0) rfl rfl iG_9 1 (by decide) kw_472 (fun _ h9 => h9) rfl dX9_need_1 ?_
    refine lv_iload_n hx hb dX9_need_4 rfl (lv_at hl 1 rfl) ?_
    refine m_ialdv (v := nI 6) hx hb hF hS (1) rfl (j) rfl (hj) (by decide) (ek) dX9_need_5 ?_
    refine lv_istore_n (lv' := [(2, .int (nI 6)), (0, .ref (B 0)), (1, .int (nI j))]) hx hb dX9_need_6 rfl hl (by decide) rfl (fun ls hl => ?_)
    refine lv_iload_n hx hb dX9_need_7 rfl (lv_at hl 0 rfl) ?_
    refine lv_iconst (v := 3) hx hb dX9_need_8 (by decide) ?_
    refine lv_iconst (v := 4) hx hb dX9_need_9 (by decide) ?_
    refine m_ci (m_runS (n := 3) (rest := []) ⟨hx, hb, hml, hown, hG⟩ (c_in l X _ (nI 6) 3 4 0) kw_521 kw_522 kw_20 kw_523 (by decide +kernel) (rl_ok (by omega) (by decide)) hF hz hS rfl hl.1 rfl (Nat.le_of_ble_eq_true rfl) dX9_need_10 ⟨Nat.zero_le _, Nat.zero_le _⟩) hS (fun r_1 w1 H locs hw1 hS => ?_)
    obtain ⟨rfl, rfl⟩ := hw1
    refine lv_if_eq (tgt := 22) hx hb dX9_need_13 (by decide) (fun c_2 => ?_) (fun c_2 => absurd (by decide) c_2)
    refine lv_iload_n hx hb dX9_need_22 rfl (lv_at hl 0 rfl) ?_
    refine lv_iconst (v := 1) hx hb dX9_need_23 (by decide) ?_
    refine lv_iconst (v := 4) hx hb dX9_need_24 (by decide) ?_
    refine m_ci (m_runS (n := 3) (rest := []) ⟨hx, hb, hml, hown, hG⟩ (c_in l X _ (nI 6) 1 4 0) kw_521 kw_522 kw_20 kw_523 (by decide +kernel) (rl_ok (by omega) (by decide)) hF hz hS rfl hl.1 rfl (Nat.le_of_ble_eq_true rfl) dX9_need_25 ⟨Nat.zero_le _, Nat.zero_le _⟩) hS (fun r_3 w2 H locs hw2 hS => ?_)
    obtain ⟨rfl, rfl⟩ := hw2
    refine lv_if_eq (tgt := 37) hx hb dX9_need_28 (by decide) (fun c_4 => ?_) (fun c_4 => absurd (by decide) c_4)
    refine lv_aload_n hx hb dX9_need_37 rfl (lv_at hl 1 rfl) ?_
    refine lv_bipush (v := 11) hx hb dX9_need_38 (by decide) ?_
    refine m_cv (m_runV (n := 1) (rest := []) ⟨hx, hb, hml, hown, hG⟩ (M_began l X B n wm dy tl g hs rest r t 11 0 (ht.le (by decide))) kw_540 kw_542 kw_9 kw_20 kw_543 (by decide +kernel) (rl_ok (by omega) (by decide)) hF hz hS (q0 := 0) rfl rfl rfl hl.1 rfl (Nat.le_of_ble_eq_true rfl) dX9_need_40 ⟨Nat.zero_le _, Nat.zero_le _⟩) hS (fun w3 H locs hw3 hS => ?_)
    subst hw3
    refine lv_bipush (v := 100) hx hb dX9_need_43 (by decide) ?_
    refine lv_aload_n hx hb dX9_need_45 rfl (lv_at hl 1 rfl) ?_
    refine m_get (v := .ref (B 2)) hx hb hG hown hF hS (0) rfl rfl iG_9 2 (by decide) kw_473 (fun _ h9 => h9) rfl dX9_need_46 ?_
    refine lv_iload_n hx hb dX9_need_49 rfl (lv_at hl 2 rfl) ?_
    refine m_ialdv (v := g j 1) hx hb hF hS (2) rfl (j) rfl (hj) (by decide) rfl dX9_need_50 ?_
    refine lv_bipush (v := 10) hx hb dX9_need_51 (by decide) ?_
    refine lv_idiv hx hb dX9_need_53 (by decide) ?_
    refine lv_iadd hx hb dX9_need_54 ?_
    refine lv_iload_n hx hb dX9_need_55 rfl (lv_at hl 0 rfl) ?_
    refine lv_iconst (v := 1) hx hb dX9_need_56 (by decide) ?_
    refine lv_iconst (v := 4) hx hb dX9_need_57 (by decide) ?_
    refine m_ci (m_runS (n := 3) (rest := [.int (100 + ((g j 1) / 10))]) ⟨hx, hb, hml, hown, hG⟩ (c_in l X _ (nI 6) 1 4 0) kw_521 kw_522 kw_20 kw_523 (by decide +kernel) (rl_ok (by omega) (by decide)) hF hz hS rfl hl.1 rfl (Nat.le_of_ble_eq_true rfl) dX9_need_58 ⟨Nat.zero_le _, Nat.zero_le _⟩) hS (fun r_5 w4 H locs hw4 hS => ?_)
    obtain ⟨rfl, rfl⟩ := hw4
    refine lv_if_eq (tgt := 69) hx hb dX9_need_61 (by decide) (fun c_6 => ?_) (fun c_6 => absurd (by decide) c_6)
    refine lv_iconst (v := 0) hx hb dX9_need_69 (by decide) ?_
    refine lv_iadd hx hb dX9_need_70 ?_
    refine lv_istore_n (lv' := [(3, .int ((100 + ((g j 1) / 10)) + 0)), (2, .int (nI 6)), (0, .ref (B 0)), (1, .int (nI j))]) hx hb dX9_need_71 rfl hl (by decide) rfl (fun ls hl => ?_)
    refine lv_iload_n hx hb dX9_need_72 rfl (lv_at hl 1 rfl) ?_
    refine lv_iconst (v := 3) hx hb dX9_need_73 (by decide) ?_
    refine lv_iconst (v := 4) hx hb dX9_need_74 (by decide) ?_
    refine m_ci (m_runS (n := 3) (rest := []) ⟨hx, hb, hml, hown, hG⟩ (c_in l X _ (nI 6) 3 4 0) kw_521 kw_522 kw_20 kw_523 (by decide +kernel) (rl_ok (by omega) (by decide)) hF hz hS rfl hl.1 rfl (Nat.le_of_ble_eq_true rfl) dX9_need_75 ⟨Nat.zero_le _, Nat.zero_le _⟩) hS (fun r_7 w5 H locs hw5 hS => ?_)
    obtain ⟨rfl, rfl⟩ := hw5
    refine lv_if_eq (tgt := 93) hx hb dX9_need_78 (by decide) (fun c_8 => ?_) (fun c_8 => absurd (by decide) c_8)
    refine lv_iload_n hx hb dX9_need_93 rfl (lv_at hl 0 rfl) ?_
    exact m_iret hx hb hr hlk hS ⟨by first | rfl | exact Int32.add_zero _ | (show _ = 2 * _; rw [Int32.add_zero]), rfl⟩ (Nat.le_refl 0) (Nat.le_refl 0) dX9_need_94
set_option maxHeartbeats 4000000 in
set_option maxRecDepth 100000 in
theorem M_brown (l : Launch) (X : Cx) (B : Nat → Nat) (n : Nat) (wm dy tl : Int32) (g : Nat → Rc) (hs : Nat → Int32) (rest : va_W) (r : Bool) (t : Tr) (j k : Nat) (w : Int32) (f : Nat) (hj : j < 40) (ek : g j 0 = nI k) (hk : k < 7) (hf : 1 ≤ f) (ht : tR r 2 t) : cI l yX9_brown cX9_brown 5 (some .int) (rl f) X [.ref (B 0), .int (nI j), .int w] (wM X B n wm dy tl g hs rest r t) (fun v w' => v = brownV k w ∧ w' = wM X B n wm dy tl g hs rest r (te r (brownT k) t)) := by
  refine met_start (by decide) (Nat.le_of_ble_eq_true rfl) ?_
  intro p e s m below meth c ls fx hS hl
  obtain ⟨hx, hb, hr, hml, hown, hG, hlk, hF, hz, hnm⟩ := fx
  have hown : s.vm.findClass RX9 = some m.cls := hown
  have hl : lv_has ls 5 [(0, .ref (B 0)), (1, .int (nI j)), (2, .int w)] := hl
  match k, hk, ek with
  | 0, _, ek =>
    refine lv_aload_n hx hb dX9_brown_0 rfl (lv_at hl 0 rfl) ?_
    refine m_get (v := .ref (B 1)) hx hb hG hown hF hS (0) rfl rfl iG_9 1 (by decide) kw_472 (fun _ h9 => h9) rfl dX9_brown_1 ?_
    refine lv_iload_n hx hb dX9_brown_4 rfl (lv_at hl 1 rfl) ?_
    refine m_ialdv (v := nI 0) hx hb hF hS (1) rfl (j) rfl (hj) (by decide) (ek) dX9_brown_5 ?_
    refine lv_istore_n (lv' := [(3, .int (nI 0)), (0, .ref (B 0)), (1, .int (nI j)), (2, .int w)]) hx hb dX9_brown_6 rfl hl (by decide) rfl (fun ls hl => ?_)
    refine lv_iload_n hx hb dX9_brown_7 rfl (lv_at hl 0 rfl) ?_
    refine lv_iconst (v := 4) hx hb dX9_brown_8 (by decide) ?_
    refine lv_icmp_ne (tgt := 18) hx hb dX9_brown_9 (by decide) (fun c_1 => ?_) (fun c_1 => absurd c_1 (by decide))
    refine lv_iload_n hx hb dX9_brown_18 rfl (lv_at hl 0 rfl) ?_
    refine lv_iconst (v := 4) hx hb dX9_brown_19 (by decide) ?_
    refine lv_icmp_le (tgt := 29) hx hb dX9_brown_20 (by decide) (fun c_2 => ?_) (fun c_2 => absurd (by decide) c_2)
    refine lv_aload_n hx hb dX9_brown_29 rfl (lv_at hl 1 rfl) ?_
    refine lv_bipush (v := 21) hx hb dX9_brown_30 (by decide) ?_
    refine m_cv (m_runV (n := 1) (rest := []) ⟨hx, hb, hml, hown, hG⟩ (M_began l X B n wm dy tl g hs rest r t 21 0 (ht.le (by decide))) kw_540 kw_542 kw_9 kw_20 kw_543 (by decide +kernel) (rl_ok (by omega) (by decide)) hF hz hS (q0 := 0) rfl rfl rfl hl.1 rfl (Nat.le_of_ble_eq_true rfl) dX9_brown_32 ⟨Nat.zero_le _, Nat.zero_le _⟩) hS (fun w1 H locs hw1 hS => ?_)
    subst hw1
    refine lv_iload_n hx hb dX9_brown_35 rfl (lv_at hl 3 rfl) ?_
    refine lv_bipush (v := 50) hx hb dX9_brown_36 (by decide) ?_
    refine lv_idiv hx hb dX9_brown_38 (by decide) ?_
    refine lv_istore (lv' := [(4, .int (w / 50)), (3, .int (nI 0)), (0, .ref (B 0)), (1, .int (nI j)), (2, .int w)]) hx hb dX9_brown_39 hl (by decide) rfl (fun ls hl => ?_)
    refine lv_iload_n hx hb dX9_brown_41 rfl (lv_at hl 1 rfl) ?_
    refine lv_iconst (v := 4) hx hb dX9_brown_42 (by decide) ?_
    refine lv_icmp_ne (tgt := 55) hx hb dX9_brown_43 (by decide) (fun c_3 => ?_) (fun c_3 => absurd c_3 (by decide))
    refine lv_iload_n hx hb dX9_brown_55 rfl (lv_at hl 1 rfl) ?_
    refine lv_iconst (v := 4) hx hb dX9_brown_56 (by decide) ?_
    refine lv_icmp_le (tgt := 67) hx hb dX9_brown_57 (by decide) (fun c_4 => ?_) (fun c_4 => absurd (by decide) c_4)
    refine lv_iload hx hb dX9_brown_67 (lv_at hl 0 rfl) ?_
    exact m_iret hx hb hr hlk hS ⟨by first | rfl | exact Int32.add_zero _ | (show _ = 2 * _; rw [Int32.add_zero]), rfl⟩ (Nat.le_refl 0) (Nat.le_refl 0) dX9_brown_69
  | 1, _, ek =>
    refine lv_aload_n hx hb dX9_brown_0 rfl (lv_at hl 0 rfl) ?_
    refine m_get (v := .ref (B 1)) hx hb hG hown hF hS (0) rfl rfl iG_9 1 (by decide) kw_472 (fun _ h9 => h9) rfl dX9_brown_1 ?_
    refine lv_iload_n hx hb dX9_brown_4 rfl (lv_at hl 1 rfl) ?_
    refine m_ialdv (v := nI 1) hx hb hF hS (1) rfl (j) rfl (hj) (by decide) (ek) dX9_brown_5 ?_
    refine lv_istore_n (lv' := [(3, .int (nI 1)), (0, .ref (B 0)), (1, .int (nI j)), (2, .int w)]) hx hb dX9_brown_6 rfl hl (by decide) rfl (fun ls hl => ?_)
    refine lv_iload_n hx hb dX9_brown_7 rfl (lv_at hl 0 rfl) ?_
    refine lv_iconst (v := 4) hx hb dX9_brown_8 (by decide) ?_
    refine lv_icmp_ne (tgt := 18) hx hb dX9_brown_9 (by decide) (fun c_1 => ?_) (fun c_1 => absurd c_1 (by decide))
    refine lv_iload_n hx hb dX9_brown_18 rfl (lv_at hl 0 rfl) ?_
    refine lv_iconst (v := 4) hx hb dX9_brown_19 (by decide) ?_
    refine lv_icmp_le (tgt := 29) hx hb dX9_brown_20 (by decide) (fun c_2 => ?_) (fun c_2 => absurd (by decide) c_2)
    refine lv_aload_n hx hb dX9_brown_29 rfl (lv_at hl 1 rfl) ?_
    refine lv_bipush (v := 21) hx hb dX9_brown_30 (by decide) ?_
    refine m_cv (m_runV (n := 1) (rest := []) ⟨hx, hb, hml, hown, hG⟩ (M_began l X B n wm dy tl g hs rest r t 21 0 (ht.le (by decide))) kw_540 kw_542 kw_9 kw_20 kw_543 (by decide +kernel) (rl_ok (by omega) (by decide)) hF hz hS (q0 := 0) rfl rfl rfl hl.1 rfl (Nat.le_of_ble_eq_true rfl) dX9_brown_32 ⟨Nat.zero_le _, Nat.zero_le _⟩) hS (fun w1 H locs hw1 hS => ?_)
    subst hw1
    refine lv_iload_n hx hb dX9_brown_35 rfl (lv_at hl 3 rfl) ?_
    refine lv_bipush (v := 50) hx hb dX9_brown_36 (by decide) ?_
    refine lv_idiv hx hb dX9_brown_38 (by decide) ?_
    refine lv_istore (lv' := [(4, .int (w / 50)), (3, .int (nI 1)), (0, .ref (B 0)), (1, .int (nI j)), (2, .int w)]) hx hb dX9_brown_39 hl (by decide) rfl (fun ls hl => ?_)
    refine lv_iload_n hx hb dX9_brown_41 rfl (lv_at hl 1 rfl) ?_
    refine lv_iconst (v := 4) hx hb dX9_brown_42 (by decide) ?_
    refine lv_icmp_ne (tgt := 55) hx hb dX9_brown_43 (by decide) (fun c_3 => ?_) (fun c_3 => absurd c_3 (by decide))
    refine lv_iload_n hx hb dX9_brown_55 rfl (lv_at hl 1 rfl) ?_
    refine lv_iconst (v := 4) hx hb dX9_brown_56 (by decide) ?_
    refine lv_icmp_le (tgt := 67) hx hb dX9_brown_57 (by decide) (fun c_4 => ?_) (fun c_4 => absurd (by decide) c_4)
    refine lv_iload hx hb dX9_brown_67 (lv_at hl 0 rfl) ?_
    exact m_iret hx hb hr hlk hS ⟨by first | rfl | exact Int32.add_zero _ | (show _ = 2 * _; rw [Int32.add_zero]), rfl⟩ (Nat.le_refl 0) (Nat.le_refl 0) dX9_brown_69
  | 2, _, ek =>
    refine lv_aload_n hx hb dX9_brown_0 rfl (lv_at hl 0 rfl) ?_
    refine m_get (v := .ref (B 1)) hx hb hG hown hF hS (0) rfl rfl iG_9 1 (by decide) kw_472 (fun _ h9 => h9) rfl dX9_brown_1 ?_
    refine lv_iload_n hx hb dX9_brown_4 rfl (lv_at hl 1 rfl) ?_
    refine m_ialdv (v := nI 2) hx hb hF hS (1) rfl (j) rfl (hj) (by decide) (ek) dX9_brown_5 ?_
    refine lv_istore_n (lv' := [(3, .int (nI 2)), (0, .ref (B 0)), (1, .int (nI j)), (2, .int w)]) hx hb dX9_brown_6 rfl hl (by decide) rfl (fun ls hl => ?_)
    refine lv_iload_n hx hb dX9_brown_7 rfl (lv_at hl 0 rfl) ?_
    refine lv_iconst (v := 4) hx hb dX9_brown_8 (by decide) ?_
    refine lv_icmp_ne (tgt := 18) hx hb dX9_brown_9 (by decide) (fun c_1 => ?_) (fun c_1 => absurd c_1 (by decide))
    refine lv_iload_n hx hb dX9_brown_18 rfl (lv_at hl 0 rfl) ?_
    refine lv_iconst (v := 4) hx hb dX9_brown_19 (by decide) ?_
    refine lv_icmp_le (tgt := 29) hx hb dX9_brown_20 (by decide) (fun c_2 => ?_) (fun c_2 => absurd (by decide) c_2)
    refine lv_aload_n hx hb dX9_brown_29 rfl (lv_at hl 1 rfl) ?_
    refine lv_bipush (v := 21) hx hb dX9_brown_30 (by decide) ?_
    refine m_cv (m_runV (n := 1) (rest := []) ⟨hx, hb, hml, hown, hG⟩ (M_began l X B n wm dy tl g hs rest r t 21 0 (ht.le (by decide))) kw_540 kw_542 kw_9 kw_20 kw_543 (by decide +kernel) (rl_ok (by omega) (by decide)) hF hz hS (q0 := 0) rfl rfl rfl hl.1 rfl (Nat.le_of_ble_eq_true rfl) dX9_brown_32 ⟨Nat.zero_le _, Nat.zero_le _⟩) hS (fun w1 H locs hw1 hS => ?_)
    subst hw1
    refine lv_iload_n hx hb dX9_brown_35 rfl (lv_at hl 3 rfl) ?_
    refine lv_bipush (v := 50) hx hb dX9_brown_36 (by decide) ?_
    refine lv_idiv hx hb dX9_brown_38 (by decide) ?_
    refine lv_istore (lv' := [(4, .int (w / 50)), (3, .int (nI 2)), (0, .ref (B 0)), (1, .int (nI j)), (2, .int w)]) hx hb dX9_brown_39 hl (by decide) rfl (fun ls hl => ?_)
    refine lv_iload_n hx hb dX9_brown_41 rfl (lv_at hl 1 rfl) ?_
    refine lv_iconst (v := 4) hx hb dX9_brown_42 (by decide) ?_
    refine lv_icmp_ne (tgt := 55) hx hb dX9_brown_43 (by decide) (fun c_3 => ?_) (fun c_3 => absurd c_3 (by decide))
    refine lv_iload_n hx hb dX9_brown_55 rfl (lv_at hl 1 rfl) ?_
    refine lv_iconst (v := 4) hx hb dX9_brown_56 (by decide) ?_
    refine lv_icmp_le (tgt := 67) hx hb dX9_brown_57 (by decide) (fun c_4 => ?_) (fun c_4 => absurd (by decide) c_4)
    refine lv_iload hx hb dX9_brown_67 (lv_at hl 0 rfl) ?_
    exact m_iret hx hb hr hlk hS ⟨by first | rfl | exact Int32.add_zero _ | (show _ = 2 * _; rw [Int32.add_zero]), rfl⟩ (Nat.le_refl 0) (Nat.le_refl 0) dX9_brown_69
  | 3, _, ek =>
    refine lv_aload_n hx hb dX9_brown_0 rfl (lv_at hl 0 rfl) ?_
    refine m_get (v := .ref (B 1)) hx hb hG hown hF hS (0) rfl rfl iG_9 1 (by decide) kw_472 (fun _ h9 => h9) rfl dX9_brown_1 ?_
    refine lv_iload_n hx hb dX9_brown_4 rfl (lv_at hl 1 rfl) ?_
    refine m_ialdv (v := nI 3) hx hb hF hS (1) rfl (j) rfl (hj) (by decide) (ek) dX9_brown_5 ?_
    refine lv_istore_n (lv' := [(3, .int (nI 3)), (0, .ref (B 0)), (1, .int (nI j)), (2, .int w)]) hx hb dX9_brown_6 rfl hl (by decide) rfl (fun ls hl => ?_)
    refine lv_iload_n hx hb dX9_brown_7 rfl (lv_at hl 0 rfl) ?_
    refine lv_iconst (v := 4) hx hb dX9_brown_8 (by decide) ?_
    refine lv_icmp_ne (tgt := 18) hx hb dX9_brown_9 (by decide) (fun c_1 => ?_) (fun c_1 => absurd c_1 (by decide))
    refine lv_iload_n hx hb dX9_brown_18 rfl (lv_at hl 0 rfl) ?_
    refine lv_iconst (v := 4) hx hb dX9_brown_19 (by decide) ?_
    refine lv_icmp_le (tgt := 29) hx hb dX9_brown_20 (by decide) (fun c_2 => ?_) (fun c_2 => absurd (by decide) c_2)
    refine lv_aload_n hx hb dX9_brown_29 rfl (lv_at hl 1 rfl) ?_
    refine lv_bipush (v := 21) hx hb dX9_brown_30 (by decide) ?_
    refine m_cv (m_runV (n := 1) (rest := []) ⟨hx, hb, hml, hown, hG⟩ (M_began l X B n wm dy tl g hs rest r t 21 0 (ht.le (by decide))) kw_540 kw_542 kw_9 kw_20 kw_543 (by decide +kernel) (rl_ok (by omega) (by decide)) hF hz hS (q0 := 0) rfl rfl rfl hl.1 rfl (Nat.le_of_ble_eq_true rfl) dX9_brown_32 ⟨Nat.zero_le _, Nat.zero_le _⟩) hS (fun w1 H locs hw1 hS => ?_)
    subst hw1
    refine lv_iload_n hx hb dX9_brown_35 rfl (lv_at hl 3 rfl) ?_
    refine lv_bipush (v := 50) hx hb dX9_brown_36 (by decide) ?_
    refine lv_idiv hx hb dX9_brown_38 (by decide) ?_
    refine lv_istore (lv' := [(4, .int (w / 50)), (3, .int (nI 3)), (0, .ref (B 0)), (1, .int (nI j)), (2, .int w)]) hx hb dX9_brown_39 hl (by decide) rfl (fun ls hl => ?_)
    refine lv_iload_n hx hb dX9_brown_41 rfl (lv_at hl 1 rfl) ?_
    refine lv_iconst (v := 4) hx hb dX9_brown_42 (by decide) ?_
    refine lv_icmp_ne (tgt := 55) hx hb dX9_brown_43 (by decide) (fun c_3 => ?_) (fun c_3 => absurd c_3 (by decide))
    refine lv_iload_n hx hb dX9_brown_55 rfl (lv_at hl 1 rfl) ?_
    refine lv_iconst (v := 4) hx hb dX9_brown_56 (by decide) ?_
    refine lv_icmp_le (tgt := 67) hx hb dX9_brown_57 (by decide) (fun c_4 => ?_) (fun c_4 => absurd (by decide) c_4)
    refine lv_iload hx hb dX9_brown_67 (lv_at hl 0 rfl) ?_
    exact m_iret hx hb hr hlk hS ⟨by first | rfl | exact Int32.add_zero _ | (show _ = 2 * _; rw [Int32.add_zero]), rfl⟩ (Nat.le_refl 0) (Nat.le_refl 0) dX9_brown_69
  | 4, _, ek =>
    refine lv_aload_n hx hb dX9_brown_0 rfl (lv_at hl 0 rfl) ?_
    refine m_get (v := .ref (B 1)) hx hb hG hown hF hS (0) rfl rfl iG_9 1 (by decide) kw_472 (fun _ h9 => h9) rfl dX9_brown_1 ?_
    refine lv_iload_n hx hb dX9_brown_4 rfl (lv_at hl 1 rfl) ?_
    refine m_ialdv (v := nI 4) hx hb hF hS (1) rfl (j) rfl (hj) (by decide) (ek) dX9_brown_5 ?_
    refine lv_istore_n (lv' := [(3, .int (nI 4)), (0, .ref (B 0)), (1, .int (nI j)), (2, .int w)]) hx hb dX9_brown_6 rfl hl (by decide) rfl (fun ls hl => ?_)
    refine lv_iload_n hx hb dX9_brown_7 rfl (lv_at hl 0 rfl) ?_
    refine lv_iconst (v := 4) hx hb dX9_brown_8 (by decide) ?_
    refine lv_icmp_ne (tgt := 18) hx hb dX9_brown_9 (by decide) (fun c_1 => absurd (by decide) c_1) (fun c_1 => ?_)
    refine lv_aload_n hx hb dX9_brown_12 rfl (lv_at hl 1 rfl) ?_
    refine lv_bipush (v := 22) hx hb dX9_brown_13 (by decide) ?_
    refine m_cv (m_runV (n := 1) (rest := []) ⟨hx, hb, hml, hown, hG⟩ (M_began l X B n wm dy tl g hs rest r t 22 0 (ht.le (by decide))) kw_540 kw_542 kw_9 kw_20 kw_543 (by decide +kernel) (rl_ok (by omega) (by decide)) hF hz hS (q0 := 0) rfl rfl rfl hl.1 rfl (Nat.le_of_ble_eq_true rfl) dX9_brown_15 ⟨Nat.zero_le _, Nat.zero_le _⟩) hS (fun w1 H locs hw1 hS => ?_)
    subst hw1
    refine lv_iload_n hx hb dX9_brown_18 rfl (lv_at hl 0 rfl) ?_
    refine lv_iconst (v := 4) hx hb dX9_brown_19 (by decide) ?_
    refine lv_icmp_le (tgt := 29) hx hb dX9_brown_20 (by decide) (fun c_2 => ?_) (fun c_2 => absurd (by decide) c_2)
    refine lv_aload_n hx hb dX9_brown_29 rfl (lv_at hl 1 rfl) ?_
    refine lv_bipush (v := 21) hx hb dX9_brown_30 (by decide) ?_
    refine m_cv (m_runV (n := 1) (rest := []) ⟨hx, hb, hml, hown, hG⟩ (M_began l X B n wm dy tl g hs rest r (te r [22] t) 21 0 (ht.step (by decide))) kw_540 kw_542 kw_9 kw_20 kw_543 (by decide +kernel) (rl_ok (by omega) (by decide)) hF hz hS (q0 := 0) rfl rfl rfl hl.1 rfl (Nat.le_of_ble_eq_true rfl) dX9_brown_32 ⟨Nat.zero_le _, Nat.zero_le _⟩) hS (fun w2 H locs hw2 hS => ?_)
    subst hw2
    rw [te_te] at hS
    refine lv_iload_n hx hb dX9_brown_35 rfl (lv_at hl 3 rfl) ?_
    refine lv_bipush (v := 50) hx hb dX9_brown_36 (by decide) ?_
    refine lv_idiv hx hb dX9_brown_38 (by decide) ?_
    refine lv_istore (lv' := [(4, .int (w / 50)), (3, .int (nI 4)), (0, .ref (B 0)), (1, .int (nI j)), (2, .int w)]) hx hb dX9_brown_39 hl (by decide) rfl (fun ls hl => ?_)
    refine lv_iload_n hx hb dX9_brown_41 rfl (lv_at hl 1 rfl) ?_
    refine lv_iconst (v := 4) hx hb dX9_brown_42 (by decide) ?_
    refine lv_icmp_ne (tgt := 55) hx hb dX9_brown_43 (by decide) (fun c_3 => absurd (by decide) c_3) (fun c_3 => ?_)
    refine lv_iload hx hb dX9_brown_46 (lv_at hl 0 rfl) ?_
    refine lv_iconst (v := 2) hx hb dX9_brown_48 (by decide) ?_
    refine lv_iadd hx hb dX9_brown_49 ?_
    refine lv_iconst (v := 3) hx hb dX9_brown_50 (by decide) ?_
    refine lv_idiv hx hb dX9_brown_51 (by decide) ?_
    refine lv_goto (tgt := 69) hx hb dX9_brown_52 (by decide) ?_
    exact m_iret hx hb hr hlk hS ⟨by first | rfl | exact Int32.add_zero _ | (show _ = 2 * _; rw [Int32.add_zero]), rfl⟩ (Nat.le_refl 0) (Nat.le_refl 0) dX9_brown_69
  | 5, _, ek =>
    refine lv_aload_n hx hb dX9_brown_0 rfl (lv_at hl 0 rfl) ?_
    refine m_get (v := .ref (B 1)) hx hb hG hown hF hS (0) rfl rfl iG_9 1 (by decide) kw_472 (fun _ h9 => h9) rfl dX9_brown_1 ?_
    refine lv_iload_n hx hb dX9_brown_4 rfl (lv_at hl 1 rfl) ?_
    refine m_ialdv (v := nI 5) hx hb hF hS (1) rfl (j) rfl (hj) (by decide) (ek) dX9_brown_5 ?_
    refine lv_istore_n (lv' := [(3, .int (nI 5)), (0, .ref (B 0)), (1, .int (nI j)), (2, .int w)]) hx hb dX9_brown_6 rfl hl (by decide) rfl (fun ls hl => ?_)
    refine lv_iload_n hx hb dX9_brown_7 rfl (lv_at hl 0 rfl) ?_
    refine lv_iconst (v := 4) hx hb dX9_brown_8 (by decide) ?_
    refine lv_icmp_ne (tgt := 18) hx hb dX9_brown_9 (by decide) (fun c_1 => ?_) (fun c_1 => absurd c_1 (by decide))
    refine lv_iload_n hx hb dX9_brown_18 rfl (lv_at hl 0 rfl) ?_
    refine lv_iconst (v := 4) hx hb dX9_brown_19 (by decide) ?_
    refine lv_icmp_le (tgt := 29) hx hb dX9_brown_20 (by decide) (fun c_2 => absurd c_2 (by decide)) (fun c_2 => ?_)
    refine lv_aload_n hx hb dX9_brown_23 rfl (lv_at hl 1 rfl) ?_
    refine lv_bipush (v := 23) hx hb dX9_brown_24 (by decide) ?_
    refine m_cv (m_runV (n := 1) (rest := []) ⟨hx, hb, hml, hown, hG⟩ (M_began l X B n wm dy tl g hs rest r t 23 0 (ht.le (by decide))) kw_540 kw_542 kw_9 kw_20 kw_543 (by decide +kernel) (rl_ok (by omega) (by decide)) hF hz hS (q0 := 0) rfl rfl rfl hl.1 rfl (Nat.le_of_ble_eq_true rfl) dX9_brown_26 ⟨Nat.zero_le _, Nat.zero_le _⟩) hS (fun w1 H locs hw1 hS => ?_)
    subst hw1
    refine lv_aload_n hx hb dX9_brown_29 rfl (lv_at hl 1 rfl) ?_
    refine lv_bipush (v := 21) hx hb dX9_brown_30 (by decide) ?_
    refine m_cv (m_runV (n := 1) (rest := []) ⟨hx, hb, hml, hown, hG⟩ (M_began l X B n wm dy tl g hs rest r (te r [23] t) 21 0 (ht.step (by decide))) kw_540 kw_542 kw_9 kw_20 kw_543 (by decide +kernel) (rl_ok (by omega) (by decide)) hF hz hS (q0 := 0) rfl rfl rfl hl.1 rfl (Nat.le_of_ble_eq_true rfl) dX9_brown_32 ⟨Nat.zero_le _, Nat.zero_le _⟩) hS (fun w2 H locs hw2 hS => ?_)
    subst hw2
    rw [te_te] at hS
    refine lv_iload_n hx hb dX9_brown_35 rfl (lv_at hl 3 rfl) ?_
    refine lv_bipush (v := 50) hx hb dX9_brown_36 (by decide) ?_
    refine lv_idiv hx hb dX9_brown_38 (by decide) ?_
    refine lv_istore (lv' := [(4, .int (w / 50)), (3, .int (nI 5)), (0, .ref (B 0)), (1, .int (nI j)), (2, .int w)]) hx hb dX9_brown_39 hl (by decide) rfl (fun ls hl => ?_)
    refine lv_iload_n hx hb dX9_brown_41 rfl (lv_at hl 1 rfl) ?_
    refine lv_iconst (v := 4) hx hb dX9_brown_42 (by decide) ?_
    refine lv_icmp_ne (tgt := 55) hx hb dX9_brown_43 (by decide) (fun c_3 => ?_) (fun c_3 => absurd c_3 (by decide))
    refine lv_iload_n hx hb dX9_brown_55 rfl (lv_at hl 1 rfl) ?_
    refine lv_iconst (v := 4) hx hb dX9_brown_56 (by decide) ?_
    refine lv_icmp_le (tgt := 67) hx hb dX9_brown_57 (by decide) (fun c_4 => absurd c_4 (by decide)) (fun c_4 => ?_)
    refine lv_iload hx hb dX9_brown_60 (lv_at hl 0 rfl) ?_
    refine lv_iconst (v := 1) hx hb dX9_brown_62 (by decide) ?_
    refine lv_iadd hx hb dX9_brown_63 ?_
    refine lv_goto (tgt := 69) hx hb dX9_brown_64 (by decide) ?_
    exact m_iret hx hb hr hlk hS ⟨by first | rfl | exact Int32.add_zero _ | (show _ = 2 * _; rw [Int32.add_zero]), rfl⟩ (Nat.le_refl 0) (Nat.le_refl 0) dX9_brown_69
  | 6, _, ek =>
    refine lv_aload_n hx hb dX9_brown_0 rfl (lv_at hl 0 rfl) ?_
    refine m_get (v := .ref (B 1)) hx hb hG hown hF hS (0) rfl rfl iG_9 1 (by decide) kw_472 (fun _ h9 => h9) rfl dX9_brown_1 ?_
    refine lv_iload_n hx hb dX9_brown_4 rfl (lv_at hl 1 rfl) ?_
    refine m_ialdv (v := nI 6) hx hb hF hS (1) rfl (j) rfl (hj) (by decide) (ek) dX9_brown_5 ?_
    refine lv_istore_n (lv' := [(3, .int (nI 6)), (0, .ref (B 0)), (1, .int (nI j)), (2, .int w)]) hx hb dX9_brown_6 rfl hl (by decide) rfl (fun ls hl => ?_)
    refine lv_iload_n hx hb dX9_brown_7 rfl (lv_at hl 0 rfl) ?_
    refine lv_iconst (v := 4) hx hb dX9_brown_8 (by decide) ?_
    refine lv_icmp_ne (tgt := 18) hx hb dX9_brown_9 (by decide) (fun c_1 => ?_) (fun c_1 => absurd c_1 (by decide))
    refine lv_iload_n hx hb dX9_brown_18 rfl (lv_at hl 0 rfl) ?_
    refine lv_iconst (v := 4) hx hb dX9_brown_19 (by decide) ?_
    refine lv_icmp_le (tgt := 29) hx hb dX9_brown_20 (by decide) (fun c_2 => absurd c_2 (by decide)) (fun c_2 => ?_)
    refine lv_aload_n hx hb dX9_brown_23 rfl (lv_at hl 1 rfl) ?_
    refine lv_bipush (v := 23) hx hb dX9_brown_24 (by decide) ?_
    refine m_cv (m_runV (n := 1) (rest := []) ⟨hx, hb, hml, hown, hG⟩ (M_began l X B n wm dy tl g hs rest r t 23 0 (ht.le (by decide))) kw_540 kw_542 kw_9 kw_20 kw_543 (by decide +kernel) (rl_ok (by omega) (by decide)) hF hz hS (q0 := 0) rfl rfl rfl hl.1 rfl (Nat.le_of_ble_eq_true rfl) dX9_brown_26 ⟨Nat.zero_le _, Nat.zero_le _⟩) hS (fun w1 H locs hw1 hS => ?_)
    subst hw1
    refine lv_aload_n hx hb dX9_brown_29 rfl (lv_at hl 1 rfl) ?_
    refine lv_bipush (v := 21) hx hb dX9_brown_30 (by decide) ?_
    refine m_cv (m_runV (n := 1) (rest := []) ⟨hx, hb, hml, hown, hG⟩ (M_began l X B n wm dy tl g hs rest r (te r [23] t) 21 0 (ht.step (by decide))) kw_540 kw_542 kw_9 kw_20 kw_543 (by decide +kernel) (rl_ok (by omega) (by decide)) hF hz hS (q0 := 0) rfl rfl rfl hl.1 rfl (Nat.le_of_ble_eq_true rfl) dX9_brown_32 ⟨Nat.zero_le _, Nat.zero_le _⟩) hS (fun w2 H locs hw2 hS => ?_)
    subst hw2
    rw [te_te] at hS
    refine lv_iload_n hx hb dX9_brown_35 rfl (lv_at hl 3 rfl) ?_
    refine lv_bipush (v := 50) hx hb dX9_brown_36 (by decide) ?_
    refine lv_idiv hx hb dX9_brown_38 (by decide) ?_
    refine lv_istore (lv' := [(4, .int (w / 50)), (3, .int (nI 6)), (0, .ref (B 0)), (1, .int (nI j)), (2, .int w)]) hx hb dX9_brown_39 hl (by decide) rfl (fun ls hl => ?_)
    refine lv_iload_n hx hb dX9_brown_41 rfl (lv_at hl 1 rfl) ?_
    refine lv_iconst (v := 4) hx hb dX9_brown_42 (by decide) ?_
    refine lv_icmp_ne (tgt := 55) hx hb dX9_brown_43 (by decide) (fun c_3 => ?_) (fun c_3 => absurd c_3 (by decide))
    refine lv_iload_n hx hb dX9_brown_55 rfl (lv_at hl 1 rfl) ?_
    refine lv_iconst (v := 4) hx hb dX9_brown_56 (by decide) ?_
    refine lv_icmp_le (tgt := 67) hx hb dX9_brown_57 (by decide) (fun c_4 => absurd c_4 (by decide)) (fun c_4 => ?_)
    refine lv_iload hx hb dX9_brown_60 (lv_at hl 0 rfl) ?_
    refine lv_iconst (v := 1) hx hb dX9_brown_62 (by decide) ?_
    refine lv_iadd hx hb dX9_brown_63 ?_
    refine lv_goto (tgt := 69) hx hb dX9_brown_64 (by decide) ?_
    exact m_iret hx hb hr hlk hS ⟨by first | rfl | exact Int32.add_zero _ | (show _ = 2 * _; rw [Int32.add_zero]), rfl⟩ (Nat.le_refl 0) (Nat.le_refl 0) dX9_brown_69
set_option maxHeartbeats 4000000 in
set_option maxRecDepth 100000 in
theorem M_price (l : Launch) (X : Cx) (B : Nat → Nat) (n : Nat) (wm dy tl : Int32) (g : Nat → Rc) (hs : Nat → Int32) (rest : va_W) (r : Bool) (t : Tr) (j k : Nat) (f : Nat) (hj : j < 40) (ek : g j 0 = nI k) (hk : k < 7) (hf : 3 ≤ f) (ht : tR r 9 t) : cI l yX9_price cX9_price 4 (some .int) (rl f) X [.ref (B 0), .int (nI j)] (wM X B n wm dy tl g hs rest r t) (fun v w' => v = priceV k (g j 1) ∧ w' = wM X B n wm dy tl g hs rest r (te r (priceT k) t)) := by
  refine met_start (by decide) (Nat.le_of_ble_eq_true rfl) ?_
  intro p e s m below meth c ls fx hS hl
  obtain ⟨hx, hb, hr, hml, hown, hG, hlk, hF, hz, hnm⟩ := fx
  have hown : s.vm.findClass RX9 = some m.cls := hown
  have hl : lv_has ls 4 [(0, .ref (B 0)), (1, .int (nI j))] := hl
  match k, hk, ek with
  | 0, _, ek =>
    refine lv_aload_n hx hb dX9_price_0 rfl (lv_at hl 0 rfl) ?_
    refine m_get (v := .ref (B 1)) hx hb hG hown hF hS (0) rfl rfl iG_9 1 (by decide) kw_472 (fun _ h9 => h9) rfl dX9_price_1 ?_
    refine lv_iload_n hx hb dX9_price_4 rfl (lv_at hl 1 rfl) ?_
    refine m_ialdv (v := nI 0) hx hb hF hS (1) rfl (j) rfl (hj) (by decide) (ek) dX9_price_5 ?_
    refine lv_istore_n (lv' := [(2, .int (nI 0)), (0, .ref (B 0)), (1, .int (nI j))]) hx hb dX9_price_6 rfl hl (by decide) rfl (fun ls hl => ?_)
    refine lv_iload_n hx hb dX9_price_7 rfl (lv_at hl 0 rfl) ?_
    refine lv_iconst (v := 4) hx hb dX9_price_8 (by decide) ?_
    refine lv_icmp_ne (tgt := 18) hx hb dX9_price_9 (by decide) (fun c_1 => ?_) (fun c_1 => absurd c_1 (by decide))
    refine lv_iload_n hx hb dX9_price_18 rfl (lv_at hl 0 rfl) ?_
    refine lv_iconst (v := 3) hx hb dX9_price_19 (by decide) ?_
    refine lv_iconst (v := 4) hx hb dX9_price_20 (by decide) ?_
    refine m_ci (m_runS (n := 3) (rest := []) ⟨hx, hb, hml, hown, hG⟩ (c_in l X _ (nI 0) 3 4 0) kw_521 kw_522 kw_20 kw_523 (by decide +kernel) (rl_ok (by omega) (by decide)) hF hz hS rfl hl.1 rfl (Nat.le_of_ble_eq_true rfl) dX9_price_21 ⟨Nat.zero_le _, Nat.zero_le _⟩) hS (fun r_2 w1 H locs hw1 hS => ?_)
    obtain ⟨rfl, rfl⟩ := hw1
    refine lv_if_eq (tgt := 33) hx hb dX9_price_24 (by decide) (fun c_3 => ?_) (fun c_3 => absurd (by decide) c_3)
    refine lv_iload_n hx hb dX9_price_33 rfl (lv_at hl 0 rfl) ?_
    refine lv_bipush (v := 6) hx hb dX9_price_34 (by decide) ?_
    refine lv_icmp_ne (tgt := 45) hx hb dX9_price_36 (by decide) (fun c_4 => ?_) (fun c_4 => absurd c_4 (by decide))
    refine lv_aload_n hx hb dX9_price_45 rfl (lv_at hl 1 rfl) ?_
    refine lv_bipush (v := 31) hx hb dX9_price_46 (by decide) ?_
    refine m_cv (m_runV (n := 1) (rest := []) ⟨hx, hb, hml, hown, hG⟩ (M_began l X B n wm dy tl g hs rest r t 31 0 (ht.le (by decide))) kw_540 kw_542 kw_9 kw_20 kw_543 (by decide +kernel) (rl_ok (by omega) (by decide)) hF hz hS (q0 := 0) rfl rfl rfl hl.1 rfl (Nat.le_of_ble_eq_true rfl) dX9_price_48 ⟨Nat.zero_le _, Nat.zero_le _⟩) hS (fun w2 H locs hw2 hS => ?_)
    subst hw2
    refine lv_bipush (v := 10) hx hb dX9_price_51 (by decide) ?_
    refine lv_aload_n hx hb dX9_price_53 rfl (lv_at hl 1 rfl) ?_
    refine m_get (v := .ref (B 2)) hx hb hG hown hF hS (0) rfl rfl iG_9 2 (by decide) kw_473 (fun _ h9 => h9) rfl dX9_price_54 ?_
    refine lv_iload_n hx hb dX9_price_57 rfl (lv_at hl 2 rfl) ?_
    refine m_ialdv (v := g j 1) hx hb hF hS (2) rfl (j) rfl (hj) (by decide) rfl dX9_price_58 ?_
    refine lv_iconst (v := 5) hx hb dX9_price_59 (by decide) ?_
    refine lv_idiv hx hb dX9_price_60 (by decide) ?_
    refine lv_iadd hx hb dX9_price_61 ?_
    refine lv_iload_n hx hb dX9_price_62 rfl (lv_at hl 0 rfl) ?_
    refine lv_iconst (v := 3) hx hb dX9_price_63 (by decide) ?_
    refine lv_iconst (v := 4) hx hb dX9_price_64 (by decide) ?_
    refine m_ci (m_runS (n := 3) (rest := [.int (10 + ((g j 1) / 5))]) ⟨hx, hb, hml, hown, hG⟩ (c_in l X _ (nI 0) 3 4 0) kw_521 kw_522 kw_20 kw_523 (by decide +kernel) (rl_ok (by omega) (by decide)) hF hz hS rfl hl.1 rfl (Nat.le_of_ble_eq_true rfl) dX9_price_65 ⟨Nat.zero_le _, Nat.zero_le _⟩) hS (fun r_5 w3 H locs hw3 hS => ?_)
    obtain ⟨rfl, rfl⟩ := hw3
    refine lv_if_eq (tgt := 76) hx hb dX9_price_68 (by decide) (fun c_6 => ?_) (fun c_6 => absurd (by decide) c_6)
    refine lv_iconst (v := 0) hx hb dX9_price_76 (by decide) ?_
    refine lv_iadd hx hb dX9_price_77 ?_
    refine lv_istore_n (lv' := [(3, .int ((10 + ((g j 1) / 5)) + 0)), (2, .int (nI 0)), (0, .ref (B 0)), (1, .int (nI j))]) hx hb dX9_price_78 rfl hl (by decide) rfl (fun ls hl => ?_)
    refine lv_iload_n hx hb dX9_price_79 rfl (lv_at hl 1 rfl) ?_
    refine lv_iconst (v := 4) hx hb dX9_price_80 (by decide) ?_
    refine lv_icmp_ne (tgt := 94) hx hb dX9_price_81 (by decide) (fun c_7 => ?_) (fun c_7 => absurd c_7 (by decide))
    refine lv_iload_n hx hb dX9_price_94 rfl (lv_at hl 1 rfl) ?_
    refine lv_bipush (v := 6) hx hb dX9_price_95 (by decide) ?_
    refine lv_icmp_ne (tgt := 106) hx hb dX9_price_97 (by decide) (fun c_8 => ?_) (fun c_8 => absurd c_8 (by decide))
    refine lv_iload_n hx hb dX9_price_106 rfl (lv_at hl 0 rfl) ?_
    exact m_iret hx hb hr hlk hS ⟨by first | rfl | exact Int32.add_zero _ | (show _ = 2 * _; rw [Int32.add_zero]), rfl⟩ (Nat.le_refl 0) (Nat.le_refl 0) dX9_price_107
  | 1, _, ek =>
    refine lv_aload_n hx hb dX9_price_0 rfl (lv_at hl 0 rfl) ?_
    refine m_get (v := .ref (B 1)) hx hb hG hown hF hS (0) rfl rfl iG_9 1 (by decide) kw_472 (fun _ h9 => h9) rfl dX9_price_1 ?_
    refine lv_iload_n hx hb dX9_price_4 rfl (lv_at hl 1 rfl) ?_
    refine m_ialdv (v := nI 1) hx hb hF hS (1) rfl (j) rfl (hj) (by decide) (ek) dX9_price_5 ?_
    refine lv_istore_n (lv' := [(2, .int (nI 1)), (0, .ref (B 0)), (1, .int (nI j))]) hx hb dX9_price_6 rfl hl (by decide) rfl (fun ls hl => ?_)
    refine lv_iload_n hx hb dX9_price_7 rfl (lv_at hl 0 rfl) ?_
    refine lv_iconst (v := 4) hx hb dX9_price_8 (by decide) ?_
    refine lv_icmp_ne (tgt := 18) hx hb dX9_price_9 (by decide) (fun c_1 => ?_) (fun c_1 => absurd c_1 (by decide))
    refine lv_iload_n hx hb dX9_price_18 rfl (lv_at hl 0 rfl) ?_
    refine lv_iconst (v := 3) hx hb dX9_price_19 (by decide) ?_
    refine lv_iconst (v := 4) hx hb dX9_price_20 (by decide) ?_
    refine m_ci (m_runS (n := 3) (rest := []) ⟨hx, hb, hml, hown, hG⟩ (c_in l X _ (nI 1) 3 4 0) kw_521 kw_522 kw_20 kw_523 (by decide +kernel) (rl_ok (by omega) (by decide)) hF hz hS rfl hl.1 rfl (Nat.le_of_ble_eq_true rfl) dX9_price_21 ⟨Nat.zero_le _, Nat.zero_le _⟩) hS (fun r_2 w1 H locs hw1 hS => ?_)
    obtain ⟨rfl, rfl⟩ := hw1
    refine lv_if_eq (tgt := 33) hx hb dX9_price_24 (by decide) (fun c_3 => ?_) (fun c_3 => absurd (by decide) c_3)
    refine lv_iload_n hx hb dX9_price_33 rfl (lv_at hl 0 rfl) ?_
    refine lv_bipush (v := 6) hx hb dX9_price_34 (by decide) ?_
    refine lv_icmp_ne (tgt := 45) hx hb dX9_price_36 (by decide) (fun c_4 => ?_) (fun c_4 => absurd c_4 (by decide))
    refine lv_aload_n hx hb dX9_price_45 rfl (lv_at hl 1 rfl) ?_
    refine lv_bipush (v := 31) hx hb dX9_price_46 (by decide) ?_
    refine m_cv (m_runV (n := 1) (rest := []) ⟨hx, hb, hml, hown, hG⟩ (M_began l X B n wm dy tl g hs rest r t 31 0 (ht.le (by decide))) kw_540 kw_542 kw_9 kw_20 kw_543 (by decide +kernel) (rl_ok (by omega) (by decide)) hF hz hS (q0 := 0) rfl rfl rfl hl.1 rfl (Nat.le_of_ble_eq_true rfl) dX9_price_48 ⟨Nat.zero_le _, Nat.zero_le _⟩) hS (fun w2 H locs hw2 hS => ?_)
    subst hw2
    refine lv_bipush (v := 10) hx hb dX9_price_51 (by decide) ?_
    refine lv_aload_n hx hb dX9_price_53 rfl (lv_at hl 1 rfl) ?_
    refine m_get (v := .ref (B 2)) hx hb hG hown hF hS (0) rfl rfl iG_9 2 (by decide) kw_473 (fun _ h9 => h9) rfl dX9_price_54 ?_
    refine lv_iload_n hx hb dX9_price_57 rfl (lv_at hl 2 rfl) ?_
    refine m_ialdv (v := g j 1) hx hb hF hS (2) rfl (j) rfl (hj) (by decide) rfl dX9_price_58 ?_
    refine lv_iconst (v := 5) hx hb dX9_price_59 (by decide) ?_
    refine lv_idiv hx hb dX9_price_60 (by decide) ?_
    refine lv_iadd hx hb dX9_price_61 ?_
    refine lv_iload_n hx hb dX9_price_62 rfl (lv_at hl 0 rfl) ?_
    refine lv_iconst (v := 3) hx hb dX9_price_63 (by decide) ?_
    refine lv_iconst (v := 4) hx hb dX9_price_64 (by decide) ?_
    refine m_ci (m_runS (n := 3) (rest := [.int (10 + ((g j 1) / 5))]) ⟨hx, hb, hml, hown, hG⟩ (c_in l X _ (nI 1) 3 4 0) kw_521 kw_522 kw_20 kw_523 (by decide +kernel) (rl_ok (by omega) (by decide)) hF hz hS rfl hl.1 rfl (Nat.le_of_ble_eq_true rfl) dX9_price_65 ⟨Nat.zero_le _, Nat.zero_le _⟩) hS (fun r_5 w3 H locs hw3 hS => ?_)
    obtain ⟨rfl, rfl⟩ := hw3
    refine lv_if_eq (tgt := 76) hx hb dX9_price_68 (by decide) (fun c_6 => ?_) (fun c_6 => absurd (by decide) c_6)
    refine lv_iconst (v := 0) hx hb dX9_price_76 (by decide) ?_
    refine lv_iadd hx hb dX9_price_77 ?_
    refine lv_istore_n (lv' := [(3, .int ((10 + ((g j 1) / 5)) + 0)), (2, .int (nI 1)), (0, .ref (B 0)), (1, .int (nI j))]) hx hb dX9_price_78 rfl hl (by decide) rfl (fun ls hl => ?_)
    refine lv_iload_n hx hb dX9_price_79 rfl (lv_at hl 1 rfl) ?_
    refine lv_iconst (v := 4) hx hb dX9_price_80 (by decide) ?_
    refine lv_icmp_ne (tgt := 94) hx hb dX9_price_81 (by decide) (fun c_7 => ?_) (fun c_7 => absurd c_7 (by decide))
    refine lv_iload_n hx hb dX9_price_94 rfl (lv_at hl 1 rfl) ?_
    refine lv_bipush (v := 6) hx hb dX9_price_95 (by decide) ?_
    refine lv_icmp_ne (tgt := 106) hx hb dX9_price_97 (by decide) (fun c_8 => ?_) (fun c_8 => absurd c_8 (by decide))
    refine lv_iload_n hx hb dX9_price_106 rfl (lv_at hl 0 rfl) ?_
    exact m_iret hx hb hr hlk hS ⟨by first | rfl | exact Int32.add_zero _ | (show _ = 2 * _; rw [Int32.add_zero]), rfl⟩ (Nat.le_refl 0) (Nat.le_refl 0) dX9_price_107
  | 2, _, ek =>
    refine lv_aload_n hx hb dX9_price_0 rfl (lv_at hl 0 rfl) ?_
    refine m_get (v := .ref (B 1)) hx hb hG hown hF hS (0) rfl rfl iG_9 1 (by decide) kw_472 (fun _ h9 => h9) rfl dX9_price_1 ?_
    refine lv_iload_n hx hb dX9_price_4 rfl (lv_at hl 1 rfl) ?_
    refine m_ialdv (v := nI 2) hx hb hF hS (1) rfl (j) rfl (hj) (by decide) (ek) dX9_price_5 ?_
    refine lv_istore_n (lv' := [(2, .int (nI 2)), (0, .ref (B 0)), (1, .int (nI j))]) hx hb dX9_price_6 rfl hl (by decide) rfl (fun ls hl => ?_)
    refine lv_iload_n hx hb dX9_price_7 rfl (lv_at hl 0 rfl) ?_
    refine lv_iconst (v := 4) hx hb dX9_price_8 (by decide) ?_
    refine lv_icmp_ne (tgt := 18) hx hb dX9_price_9 (by decide) (fun c_1 => ?_) (fun c_1 => absurd c_1 (by decide))
    refine lv_iload_n hx hb dX9_price_18 rfl (lv_at hl 0 rfl) ?_
    refine lv_iconst (v := 3) hx hb dX9_price_19 (by decide) ?_
    refine lv_iconst (v := 4) hx hb dX9_price_20 (by decide) ?_
    refine m_ci (m_runS (n := 3) (rest := []) ⟨hx, hb, hml, hown, hG⟩ (c_in l X _ (nI 2) 3 4 0) kw_521 kw_522 kw_20 kw_523 (by decide +kernel) (rl_ok (by omega) (by decide)) hF hz hS rfl hl.1 rfl (Nat.le_of_ble_eq_true rfl) dX9_price_21 ⟨Nat.zero_le _, Nat.zero_le _⟩) hS (fun r_2 w1 H locs hw1 hS => ?_)
    obtain ⟨rfl, rfl⟩ := hw1
    refine lv_if_eq (tgt := 33) hx hb dX9_price_24 (by decide) (fun c_3 => ?_) (fun c_3 => absurd (by decide) c_3)
    refine lv_iload_n hx hb dX9_price_33 rfl (lv_at hl 0 rfl) ?_
    refine lv_bipush (v := 6) hx hb dX9_price_34 (by decide) ?_
    refine lv_icmp_ne (tgt := 45) hx hb dX9_price_36 (by decide) (fun c_4 => ?_) (fun c_4 => absurd c_4 (by decide))
    refine lv_aload_n hx hb dX9_price_45 rfl (lv_at hl 1 rfl) ?_
    refine lv_bipush (v := 31) hx hb dX9_price_46 (by decide) ?_
    refine m_cv (m_runV (n := 1) (rest := []) ⟨hx, hb, hml, hown, hG⟩ (M_began l X B n wm dy tl g hs rest r t 31 0 (ht.le (by decide))) kw_540 kw_542 kw_9 kw_20 kw_543 (by decide +kernel) (rl_ok (by omega) (by decide)) hF hz hS (q0 := 0) rfl rfl rfl hl.1 rfl (Nat.le_of_ble_eq_true rfl) dX9_price_48 ⟨Nat.zero_le _, Nat.zero_le _⟩) hS (fun w2 H locs hw2 hS => ?_)
    subst hw2
    refine lv_bipush (v := 10) hx hb dX9_price_51 (by decide) ?_
    refine lv_aload_n hx hb dX9_price_53 rfl (lv_at hl 1 rfl) ?_
    refine m_get (v := .ref (B 2)) hx hb hG hown hF hS (0) rfl rfl iG_9 2 (by decide) kw_473 (fun _ h9 => h9) rfl dX9_price_54 ?_
    refine lv_iload_n hx hb dX9_price_57 rfl (lv_at hl 2 rfl) ?_
    refine m_ialdv (v := g j 1) hx hb hF hS (2) rfl (j) rfl (hj) (by decide) rfl dX9_price_58 ?_
    refine lv_iconst (v := 5) hx hb dX9_price_59 (by decide) ?_
    refine lv_idiv hx hb dX9_price_60 (by decide) ?_
    refine lv_iadd hx hb dX9_price_61 ?_
    refine lv_iload_n hx hb dX9_price_62 rfl (lv_at hl 0 rfl) ?_
    refine lv_iconst (v := 3) hx hb dX9_price_63 (by decide) ?_
    refine lv_iconst (v := 4) hx hb dX9_price_64 (by decide) ?_
    refine m_ci (m_runS (n := 3) (rest := [.int (10 + ((g j 1) / 5))]) ⟨hx, hb, hml, hown, hG⟩ (c_in l X _ (nI 2) 3 4 0) kw_521 kw_522 kw_20 kw_523 (by decide +kernel) (rl_ok (by omega) (by decide)) hF hz hS rfl hl.1 rfl (Nat.le_of_ble_eq_true rfl) dX9_price_65 ⟨Nat.zero_le _, Nat.zero_le _⟩) hS (fun r_5 w3 H locs hw3 hS => ?_)
    obtain ⟨rfl, rfl⟩ := hw3
    refine lv_if_eq (tgt := 76) hx hb dX9_price_68 (by decide) (fun c_6 => ?_) (fun c_6 => absurd (by decide) c_6)
    refine lv_iconst (v := 0) hx hb dX9_price_76 (by decide) ?_
    refine lv_iadd hx hb dX9_price_77 ?_
    refine lv_istore_n (lv' := [(3, .int ((10 + ((g j 1) / 5)) + 0)), (2, .int (nI 2)), (0, .ref (B 0)), (1, .int (nI j))]) hx hb dX9_price_78 rfl hl (by decide) rfl (fun ls hl => ?_)
    refine lv_iload_n hx hb dX9_price_79 rfl (lv_at hl 1 rfl) ?_
    refine lv_iconst (v := 4) hx hb dX9_price_80 (by decide) ?_
    refine lv_icmp_ne (tgt := 94) hx hb dX9_price_81 (by decide) (fun c_7 => ?_) (fun c_7 => absurd c_7 (by decide))
    refine lv_iload_n hx hb dX9_price_94 rfl (lv_at hl 1 rfl) ?_
    refine lv_bipush (v := 6) hx hb dX9_price_95 (by decide) ?_
    refine lv_icmp_ne (tgt := 106) hx hb dX9_price_97 (by decide) (fun c_8 => ?_) (fun c_8 => absurd c_8 (by decide))
    refine lv_iload_n hx hb dX9_price_106 rfl (lv_at hl 0 rfl) ?_
    exact m_iret hx hb hr hlk hS ⟨by first | rfl | exact Int32.add_zero _ | (show _ = 2 * _; rw [Int32.add_zero]), rfl⟩ (Nat.le_refl 0) (Nat.le_refl 0) dX9_price_107
  | 3, _, ek =>
    refine lv_aload_n hx hb dX9_price_0 rfl (lv_at hl 0 rfl) ?_
    refine m_get (v := .ref (B 1)) hx hb hG hown hF hS (0) rfl rfl iG_9 1 (by decide) kw_472 (fun _ h9 => h9) rfl dX9_price_1 ?_
    refine lv_iload_n hx hb dX9_price_4 rfl (lv_at hl 1 rfl) ?_
    refine m_ialdv (v := nI 3) hx hb hF hS (1) rfl (j) rfl (hj) (by decide) (ek) dX9_price_5 ?_
    refine lv_istore_n (lv' := [(2, .int (nI 3)), (0, .ref (B 0)), (1, .int (nI j))]) hx hb dX9_price_6 rfl hl (by decide) rfl (fun ls hl => ?_)
    refine lv_iload_n hx hb dX9_price_7 rfl (lv_at hl 0 rfl) ?_
    refine lv_iconst (v := 4) hx hb dX9_price_8 (by decide) ?_
    refine lv_icmp_ne (tgt := 18) hx hb dX9_price_9 (by decide) (fun c_1 => ?_) (fun c_1 => absurd c_1 (by decide))
    refine lv_iload_n hx hb dX9_price_18 rfl (lv_at hl 0 rfl) ?_
    refine lv_iconst (v := 3) hx hb dX9_price_19 (by decide) ?_
    refine lv_iconst (v := 4) hx hb dX9_price_20 (by decide) ?_
    refine m_ci (m_runS (n := 3) (rest := []) ⟨hx, hb, hml, hown, hG⟩ (c_in l X _ (nI 3) 3 4 0) kw_521 kw_522 kw_20 kw_523 (by decide +kernel) (rl_ok (by omega) (by decide)) hF hz hS rfl hl.1 rfl (Nat.le_of_ble_eq_true rfl) dX9_price_21 ⟨Nat.zero_le _, Nat.zero_le _⟩) hS (fun r_2 w1 H locs hw1 hS => ?_)
    obtain ⟨rfl, rfl⟩ := hw1
    refine lv_if_eq (tgt := 33) hx hb dX9_price_24 (by decide) (fun c_3 => absurd c_3 (by decide)) (fun c_3 => ?_)
    refine lv_aload_n hx hb dX9_price_27 rfl (lv_at hl 1 rfl) ?_
    refine lv_bipush (v := 32) hx hb dX9_price_28 (by decide) ?_
    refine m_cv (m_runV (n := 1) (rest := []) ⟨hx, hb, hml, hown, hG⟩ (M_began l X B n wm dy tl g hs rest r t 32 0 (ht.le (by decide))) kw_540 kw_542 kw_9 kw_20 kw_543 (by decide +kernel) (rl_ok (by omega) (by decide)) hF hz hS (q0 := 0) rfl rfl rfl hl.1 rfl (Nat.le_of_ble_eq_true rfl) dX9_price_30 ⟨Nat.zero_le _, Nat.zero_le _⟩) hS (fun w2 H locs hw2 hS => ?_)
    subst hw2
    refine lv_iload_n hx hb dX9_price_33 rfl (lv_at hl 0 rfl) ?_
    refine lv_bipush (v := 6) hx hb dX9_price_34 (by decide) ?_
    refine lv_icmp_ne (tgt := 45) hx hb dX9_price_36 (by decide) (fun c_4 => ?_) (fun c_4 => absurd c_4 (by decide))
    refine lv_aload_n hx hb dX9_price_45 rfl (lv_at hl 1 rfl) ?_
    refine lv_bipush (v := 31) hx hb dX9_price_46 (by decide) ?_
    refine m_cv (m_runV (n := 1) (rest := []) ⟨hx, hb, hml, hown, hG⟩ (M_began l X B n wm dy tl g hs rest r (te r [32] t) 31 0 (ht.step (by decide))) kw_540 kw_542 kw_9 kw_20 kw_543 (by decide +kernel) (rl_ok (by omega) (by decide)) hF hz hS (q0 := 0) rfl rfl rfl hl.1 rfl (Nat.le_of_ble_eq_true rfl) dX9_price_48 ⟨Nat.zero_le _, Nat.zero_le _⟩) hS (fun w3 H locs hw3 hS => ?_)
    subst hw3
    rw [te_te] at hS
    refine lv_bipush (v := 10) hx hb dX9_price_51 (by decide) ?_
    refine lv_aload_n hx hb dX9_price_53 rfl (lv_at hl 1 rfl) ?_
    refine m_get (v := .ref (B 2)) hx hb hG hown hF hS (0) rfl rfl iG_9 2 (by decide) kw_473 (fun _ h9 => h9) rfl dX9_price_54 ?_
    refine lv_iload_n hx hb dX9_price_57 rfl (lv_at hl 2 rfl) ?_
    refine m_ialdv (v := g j 1) hx hb hF hS (2) rfl (j) rfl (hj) (by decide) rfl dX9_price_58 ?_
    refine lv_iconst (v := 5) hx hb dX9_price_59 (by decide) ?_
    refine lv_idiv hx hb dX9_price_60 (by decide) ?_
    refine lv_iadd hx hb dX9_price_61 ?_
    refine lv_iload_n hx hb dX9_price_62 rfl (lv_at hl 0 rfl) ?_
    refine lv_iconst (v := 3) hx hb dX9_price_63 (by decide) ?_
    refine lv_iconst (v := 4) hx hb dX9_price_64 (by decide) ?_
    refine m_ci (m_runS (n := 3) (rest := [.int (10 + ((g j 1) / 5))]) ⟨hx, hb, hml, hown, hG⟩ (c_in l X _ (nI 3) 3 4 0) kw_521 kw_522 kw_20 kw_523 (by decide +kernel) (rl_ok (by omega) (by decide)) hF hz hS rfl hl.1 rfl (Nat.le_of_ble_eq_true rfl) dX9_price_65 ⟨Nat.zero_le _, Nat.zero_le _⟩) hS (fun r_5 w4 H locs hw4 hS => ?_)
    obtain ⟨rfl, rfl⟩ := hw4
    refine lv_if_eq (tgt := 76) hx hb dX9_price_68 (by decide) (fun c_6 => absurd c_6 (by decide)) (fun c_6 => ?_)
    refine lv_bipush (v := 40) hx hb dX9_price_71 (by decide) ?_
    refine lv_goto (tgt := 77) hx hb dX9_price_73 (by decide) ?_
    refine lv_iadd hx hb dX9_price_77 ?_
    refine lv_istore_n (lv' := [(3, .int ((10 + ((g j 1) / 5)) + 40)), (2, .int (nI 3)), (0, .ref (B 0)), (1, .int (nI j))]) hx hb dX9_price_78 rfl hl (by decide) rfl (fun ls hl => ?_)
    refine lv_iload_n hx hb dX9_price_79 rfl (lv_at hl 1 rfl) ?_
    refine lv_iconst (v := 4) hx hb dX9_price_80 (by decide) ?_
    refine lv_icmp_ne (tgt := 94) hx hb dX9_price_81 (by decide) (fun c_7 => ?_) (fun c_7 => absurd c_7 (by decide))
    refine lv_iload_n hx hb dX9_price_94 rfl (lv_at hl 1 rfl) ?_
    refine lv_bipush (v := 6) hx hb dX9_price_95 (by decide) ?_
    refine lv_icmp_ne (tgt := 106) hx hb dX9_price_97 (by decide) (fun c_8 => ?_) (fun c_8 => absurd c_8 (by decide))
    refine lv_iload_n hx hb dX9_price_106 rfl (lv_at hl 0 rfl) ?_
    exact m_iret hx hb hr hlk hS ⟨by first | rfl | exact Int32.add_zero _ | (show _ = 2 * _; rw [Int32.add_zero]), rfl⟩ (Nat.le_refl 0) (Nat.le_refl 0) dX9_price_107
  | 4, _, ek =>
    refine lv_aload_n hx hb dX9_price_0 rfl (lv_at hl 0 rfl) ?_
    refine m_get (v := .ref (B 1)) hx hb hG hown hF hS (0) rfl rfl iG_9 1 (by decide) kw_472 (fun _ h9 => h9) rfl dX9_price_1 ?_
    refine lv_iload_n hx hb dX9_price_4 rfl (lv_at hl 1 rfl) ?_
    refine m_ialdv (v := nI 4) hx hb hF hS (1) rfl (j) rfl (hj) (by decide) (ek) dX9_price_5 ?_
    refine lv_istore_n (lv' := [(2, .int (nI 4)), (0, .ref (B 0)), (1, .int (nI j))]) hx hb dX9_price_6 rfl hl (by decide) rfl (fun ls hl => ?_)
    refine lv_iload_n hx hb dX9_price_7 rfl (lv_at hl 0 rfl) ?_
    refine lv_iconst (v := 4) hx hb dX9_price_8 (by decide) ?_
    refine lv_icmp_ne (tgt := 18) hx hb dX9_price_9 (by decide) (fun c_1 => absurd (by decide) c_1) (fun c_1 => ?_)
    refine lv_aload_n hx hb dX9_price_12 rfl (lv_at hl 1 rfl) ?_
    refine lv_bipush (v := 33) hx hb dX9_price_13 (by decide) ?_
    refine m_cv (m_runV (n := 1) (rest := []) ⟨hx, hb, hml, hown, hG⟩ (M_began l X B n wm dy tl g hs rest r t 33 0 (ht.le (by decide))) kw_540 kw_542 kw_9 kw_20 kw_543 (by decide +kernel) (rl_ok (by omega) (by decide)) hF hz hS (q0 := 0) rfl rfl rfl hl.1 rfl (Nat.le_of_ble_eq_true rfl) dX9_price_15 ⟨Nat.zero_le _, Nat.zero_le _⟩) hS (fun w1 H locs hw1 hS => ?_)
    subst hw1
    refine lv_iload_n hx hb dX9_price_18 rfl (lv_at hl 0 rfl) ?_
    refine lv_iconst (v := 3) hx hb dX9_price_19 (by decide) ?_
    refine lv_iconst (v := 4) hx hb dX9_price_20 (by decide) ?_
    refine m_ci (m_runS (n := 3) (rest := []) ⟨hx, hb, hml, hown, hG⟩ (c_in l X _ (nI 4) 3 4 0) kw_521 kw_522 kw_20 kw_523 (by decide +kernel) (rl_ok (by omega) (by decide)) hF hz hS rfl hl.1 rfl (Nat.le_of_ble_eq_true rfl) dX9_price_21 ⟨Nat.zero_le _, Nat.zero_le _⟩) hS (fun r_2 w2 H locs hw2 hS => ?_)
    obtain ⟨rfl, rfl⟩ := hw2
    refine lv_if_eq (tgt := 33) hx hb dX9_price_24 (by decide) (fun c_3 => absurd c_3 (by decide)) (fun c_3 => ?_)
    refine lv_aload_n hx hb dX9_price_27 rfl (lv_at hl 1 rfl) ?_
    refine lv_bipush (v := 32) hx hb dX9_price_28 (by decide) ?_
    refine m_cv (m_runV (n := 1) (rest := []) ⟨hx, hb, hml, hown, hG⟩ (M_began l X B n wm dy tl g hs rest r (te r [33] t) 32 0 (ht.step (by decide))) kw_540 kw_542 kw_9 kw_20 kw_543 (by decide +kernel) (rl_ok (by omega) (by decide)) hF hz hS (q0 := 0) rfl rfl rfl hl.1 rfl (Nat.le_of_ble_eq_true rfl) dX9_price_30 ⟨Nat.zero_le _, Nat.zero_le _⟩) hS (fun w3 H locs hw3 hS => ?_)
    subst hw3
    rw [te_te] at hS
    refine lv_iload_n hx hb dX9_price_33 rfl (lv_at hl 0 rfl) ?_
    refine lv_bipush (v := 6) hx hb dX9_price_34 (by decide) ?_
    refine lv_icmp_ne (tgt := 45) hx hb dX9_price_36 (by decide) (fun c_4 => ?_) (fun c_4 => absurd c_4 (by decide))
    refine lv_aload_n hx hb dX9_price_45 rfl (lv_at hl 1 rfl) ?_
    refine lv_bipush (v := 31) hx hb dX9_price_46 (by decide) ?_
    refine m_cv (m_runV (n := 1) (rest := []) ⟨hx, hb, hml, hown, hG⟩ (M_began l X B n wm dy tl g hs rest r (te r [33, 32] t) 31 0 (ht.step (by decide))) kw_540 kw_542 kw_9 kw_20 kw_543 (by decide +kernel) (rl_ok (by omega) (by decide)) hF hz hS (q0 := 0) rfl rfl rfl hl.1 rfl (Nat.le_of_ble_eq_true rfl) dX9_price_48 ⟨Nat.zero_le _, Nat.zero_le _⟩) hS (fun w4 H locs hw4 hS => ?_)
    subst hw4
    rw [te_te] at hS
    refine lv_bipush (v := 10) hx hb dX9_price_51 (by decide) ?_
    refine lv_aload_n hx hb dX9_price_53 rfl (lv_at hl 1 rfl) ?_
    refine m_get (v := .ref (B 2)) hx hb hG hown hF hS (0) rfl rfl iG_9 2 (by decide) kw_473 (fun _ h9 => h9) rfl dX9_price_54 ?_
    refine lv_iload_n hx hb dX9_price_57 rfl (lv_at hl 2 rfl) ?_
    refine m_ialdv (v := g j 1) hx hb hF hS (2) rfl (j) rfl (hj) (by decide) rfl dX9_price_58 ?_
    refine lv_iconst (v := 5) hx hb dX9_price_59 (by decide) ?_
    refine lv_idiv hx hb dX9_price_60 (by decide) ?_
    refine lv_iadd hx hb dX9_price_61 ?_
    refine lv_iload_n hx hb dX9_price_62 rfl (lv_at hl 0 rfl) ?_
    refine lv_iconst (v := 3) hx hb dX9_price_63 (by decide) ?_
    refine lv_iconst (v := 4) hx hb dX9_price_64 (by decide) ?_
    refine m_ci (m_runS (n := 3) (rest := [.int (10 + ((g j 1) / 5))]) ⟨hx, hb, hml, hown, hG⟩ (c_in l X _ (nI 4) 3 4 0) kw_521 kw_522 kw_20 kw_523 (by decide +kernel) (rl_ok (by omega) (by decide)) hF hz hS rfl hl.1 rfl (Nat.le_of_ble_eq_true rfl) dX9_price_65 ⟨Nat.zero_le _, Nat.zero_le _⟩) hS (fun r_5 w5 H locs hw5 hS => ?_)
    obtain ⟨rfl, rfl⟩ := hw5
    refine lv_if_eq (tgt := 76) hx hb dX9_price_68 (by decide) (fun c_6 => absurd c_6 (by decide)) (fun c_6 => ?_)
    refine lv_bipush (v := 40) hx hb dX9_price_71 (by decide) ?_
    refine lv_goto (tgt := 77) hx hb dX9_price_73 (by decide) ?_
    refine lv_iadd hx hb dX9_price_77 ?_
    refine lv_istore_n (lv' := [(3, .int ((10 + ((g j 1) / 5)) + 40)), (2, .int (nI 4)), (0, .ref (B 0)), (1, .int (nI j))]) hx hb dX9_price_78 rfl hl (by decide) rfl (fun ls hl => ?_)
    refine lv_iload_n hx hb dX9_price_79 rfl (lv_at hl 1 rfl) ?_
    refine lv_iconst (v := 4) hx hb dX9_price_80 (by decide) ?_
    refine lv_icmp_ne (tgt := 94) hx hb dX9_price_81 (by decide) (fun c_7 => absurd (by decide) c_7) (fun c_7 => ?_)
    refine lv_iload_n hx hb dX9_price_84 rfl (lv_at hl 0 rfl) ?_
    refine lv_aload_n hx hb dX9_price_85 rfl (lv_at hl 2 rfl) ?_
    refine lv_iload_n hx hb dX9_price_86 rfl (lv_at hl 3 rfl) ?_
    refine m_ci (m_runV (n := 1) (rest := [.int ((10 + ((g j 1) / 5)) + 40)]) ⟨hx, hb, hml, hown, hG⟩ (M_need l X B n wm dy tl g hs rest r (te r [33, 32, 31] t) j 4 2 hj ek (by decide) (by decide) (ht.step (by decide))) kw_544 kw_546 kw_10 kw_20 kw_547 (by decide +kernel) (rl_ok (by omega) (by decide)) hF hz hS (q0 := 0) rfl rfl rfl hl.1 rfl (Nat.le_of_ble_eq_true rfl) dX9_price_87 ⟨Nat.zero_le _, Nat.zero_le _⟩) hS (fun r_8 w6 H locs hw6 hS => ?_)
    obtain ⟨rfl, rfl⟩ := hw6
    rw [te_te] at hS
    refine lv_iadd hx hb dX9_price_90 ?_
    refine lv_goto (tgt := 107) hx hb dX9_price_91 (by decide) ?_
    exact m_iret hx hb hr hlk hS ⟨by first | rfl | exact Int32.add_zero _ | (show _ = 2 * _; rw [Int32.add_zero]), rfl⟩ (Nat.le_refl 0) (Nat.le_refl 0) dX9_price_107
  | 5, _, ek =>
    refine lv_aload_n hx hb dX9_price_0 rfl (lv_at hl 0 rfl) ?_
    refine m_get (v := .ref (B 1)) hx hb hG hown hF hS (0) rfl rfl iG_9 1 (by decide) kw_472 (fun _ h9 => h9) rfl dX9_price_1 ?_
    refine lv_iload_n hx hb dX9_price_4 rfl (lv_at hl 1 rfl) ?_
    refine m_ialdv (v := nI 5) hx hb hF hS (1) rfl (j) rfl (hj) (by decide) (ek) dX9_price_5 ?_
    refine lv_istore_n (lv' := [(2, .int (nI 5)), (0, .ref (B 0)), (1, .int (nI j))]) hx hb dX9_price_6 rfl hl (by decide) rfl (fun ls hl => ?_)
    refine lv_iload_n hx hb dX9_price_7 rfl (lv_at hl 0 rfl) ?_
    refine lv_iconst (v := 4) hx hb dX9_price_8 (by decide) ?_
    refine lv_icmp_ne (tgt := 18) hx hb dX9_price_9 (by decide) (fun c_1 => ?_) (fun c_1 => absurd c_1 (by decide))
    refine lv_iload_n hx hb dX9_price_18 rfl (lv_at hl 0 rfl) ?_
    refine lv_iconst (v := 3) hx hb dX9_price_19 (by decide) ?_
    refine lv_iconst (v := 4) hx hb dX9_price_20 (by decide) ?_
    refine m_ci (m_runS (n := 3) (rest := []) ⟨hx, hb, hml, hown, hG⟩ (c_in l X _ (nI 5) 3 4 0) kw_521 kw_522 kw_20 kw_523 (by decide +kernel) (rl_ok (by omega) (by decide)) hF hz hS rfl hl.1 rfl (Nat.le_of_ble_eq_true rfl) dX9_price_21 ⟨Nat.zero_le _, Nat.zero_le _⟩) hS (fun r_2 w1 H locs hw1 hS => ?_)
    obtain ⟨rfl, rfl⟩ := hw1
    refine lv_if_eq (tgt := 33) hx hb dX9_price_24 (by decide) (fun c_3 => ?_) (fun c_3 => absurd (by decide) c_3)
    refine lv_iload_n hx hb dX9_price_33 rfl (lv_at hl 0 rfl) ?_
    refine lv_bipush (v := 6) hx hb dX9_price_34 (by decide) ?_
    refine lv_icmp_ne (tgt := 45) hx hb dX9_price_36 (by decide) (fun c_4 => ?_) (fun c_4 => absurd c_4 (by decide))
    refine lv_aload_n hx hb dX9_price_45 rfl (lv_at hl 1 rfl) ?_
    refine lv_bipush (v := 31) hx hb dX9_price_46 (by decide) ?_
    refine m_cv (m_runV (n := 1) (rest := []) ⟨hx, hb, hml, hown, hG⟩ (M_began l X B n wm dy tl g hs rest r t 31 0 (ht.le (by decide))) kw_540 kw_542 kw_9 kw_20 kw_543 (by decide +kernel) (rl_ok (by omega) (by decide)) hF hz hS (q0 := 0) rfl rfl rfl hl.1 rfl (Nat.le_of_ble_eq_true rfl) dX9_price_48 ⟨Nat.zero_le _, Nat.zero_le _⟩) hS (fun w2 H locs hw2 hS => ?_)
    subst hw2
    refine lv_bipush (v := 10) hx hb dX9_price_51 (by decide) ?_
    refine lv_aload_n hx hb dX9_price_53 rfl (lv_at hl 1 rfl) ?_
    refine m_get (v := .ref (B 2)) hx hb hG hown hF hS (0) rfl rfl iG_9 2 (by decide) kw_473 (fun _ h9 => h9) rfl dX9_price_54 ?_
    refine lv_iload_n hx hb dX9_price_57 rfl (lv_at hl 2 rfl) ?_
    refine m_ialdv (v := g j 1) hx hb hF hS (2) rfl (j) rfl (hj) (by decide) rfl dX9_price_58 ?_
    refine lv_iconst (v := 5) hx hb dX9_price_59 (by decide) ?_
    refine lv_idiv hx hb dX9_price_60 (by decide) ?_
    refine lv_iadd hx hb dX9_price_61 ?_
    refine lv_iload_n hx hb dX9_price_62 rfl (lv_at hl 0 rfl) ?_
    refine lv_iconst (v := 3) hx hb dX9_price_63 (by decide) ?_
    refine lv_iconst (v := 4) hx hb dX9_price_64 (by decide) ?_
    refine m_ci (m_runS (n := 3) (rest := [.int (10 + ((g j 1) / 5))]) ⟨hx, hb, hml, hown, hG⟩ (c_in l X _ (nI 5) 3 4 0) kw_521 kw_522 kw_20 kw_523 (by decide +kernel) (rl_ok (by omega) (by decide)) hF hz hS rfl hl.1 rfl (Nat.le_of_ble_eq_true rfl) dX9_price_65 ⟨Nat.zero_le _, Nat.zero_le _⟩) hS (fun r_5 w3 H locs hw3 hS => ?_)
    obtain ⟨rfl, rfl⟩ := hw3
    refine lv_if_eq (tgt := 76) hx hb dX9_price_68 (by decide) (fun c_6 => ?_) (fun c_6 => absurd (by decide) c_6)
    refine lv_iconst (v := 0) hx hb dX9_price_76 (by decide) ?_
    refine lv_iadd hx hb dX9_price_77 ?_
    refine lv_istore_n (lv' := [(3, .int ((10 + ((g j 1) / 5)) + 0)), (2, .int (nI 5)), (0, .ref (B 0)), (1, .int (nI j))]) hx hb dX9_price_78 rfl hl (by decide) rfl (fun ls hl => ?_)
    refine lv_iload_n hx hb dX9_price_79 rfl (lv_at hl 1 rfl) ?_
    refine lv_iconst (v := 4) hx hb dX9_price_80 (by decide) ?_
    refine lv_icmp_ne (tgt := 94) hx hb dX9_price_81 (by decide) (fun c_7 => ?_) (fun c_7 => absurd c_7 (by decide))
    refine lv_iload_n hx hb dX9_price_94 rfl (lv_at hl 1 rfl) ?_
    refine lv_bipush (v := 6) hx hb dX9_price_95 (by decide) ?_
    refine lv_icmp_ne (tgt := 106) hx hb dX9_price_97 (by decide) (fun c_8 => ?_) (fun c_8 => absurd c_8 (by decide))
    refine lv_iload_n hx hb dX9_price_106 rfl (lv_at hl 0 rfl) ?_
    exact m_iret hx hb hr hlk hS ⟨by first | rfl | exact Int32.add_zero _ | (show _ = 2 * _; rw [Int32.add_zero]), rfl⟩ (Nat.le_refl 0) (Nat.le_refl 0) dX9_price_107
  | 6, _, ek =>
    refine lv_aload_n hx hb dX9_price_0 rfl (lv_at hl 0 rfl) ?_
    refine m_get (v := .ref (B 1)) hx hb hG hown hF hS (0) rfl rfl iG_9 1 (by decide) kw_472 (fun _ h9 => h9) rfl dX9_price_1 ?_
    refine lv_iload_n hx hb dX9_price_4 rfl (lv_at hl 1 rfl) ?_
    refine m_ialdv (v := nI 6) hx hb hF hS (1) rfl (j) rfl (hj) (by decide) (ek) dX9_price_5 ?_
    refine lv_istore_n (lv' := [(2, .int (nI 6)), (0, .ref (B 0)), (1, .int (nI j))]) hx hb dX9_price_6 rfl hl (by decide) rfl (fun ls hl => ?_)
    refine lv_iload_n hx hb dX9_price_7 rfl (lv_at hl 0 rfl) ?_
    refine lv_iconst (v := 4) hx hb dX9_price_8 (by decide) ?_
    refine lv_icmp_ne (tgt := 18) hx hb dX9_price_9 (by decide) (fun c_1 => ?_) (fun c_1 => absurd c_1 (by decide))
    refine lv_iload_n hx hb dX9_price_18 rfl (lv_at hl 0 rfl) ?_
    refine lv_iconst (v := 3) hx hb dX9_price_19 (by decide) ?_
    refine lv_iconst (v := 4) hx hb dX9_price_20 (by decide) ?_
    refine m_ci (m_runS (n := 3) (rest := []) ⟨hx, hb, hml, hown, hG⟩ (c_in l X _ (nI 6) 3 4 0) kw_521 kw_522 kw_20 kw_523 (by decide +kernel) (rl_ok (by omega) (by decide)) hF hz hS rfl hl.1 rfl (Nat.le_of_ble_eq_true rfl) dX9_price_21 ⟨Nat.zero_le _, Nat.zero_le _⟩) hS (fun r_2 w1 H locs hw1 hS => ?_)
    obtain ⟨rfl, rfl⟩ := hw1
    refine lv_if_eq (tgt := 33) hx hb dX9_price_24 (by decide) (fun c_3 => ?_) (fun c_3 => absurd (by decide) c_3)
    refine lv_iload_n hx hb dX9_price_33 rfl (lv_at hl 0 rfl) ?_
    refine lv_bipush (v := 6) hx hb dX9_price_34 (by decide) ?_
    refine lv_icmp_ne (tgt := 45) hx hb dX9_price_36 (by decide) (fun c_4 => absurd (by decide) c_4) (fun c_4 => ?_)
    refine lv_aload_n hx hb dX9_price_39 rfl (lv_at hl 1 rfl) ?_
    refine lv_bipush (v := 34) hx hb dX9_price_40 (by decide) ?_
    refine m_cv (m_runV (n := 1) (rest := []) ⟨hx, hb, hml, hown, hG⟩ (M_began l X B n wm dy tl g hs rest r t 34 0 (ht.le (by decide))) kw_540 kw_542 kw_9 kw_20 kw_543 (by decide +kernel) (rl_ok (by omega) (by decide)) hF hz hS (q0 := 0) rfl rfl rfl hl.1 rfl (Nat.le_of_ble_eq_true rfl) dX9_price_42 ⟨Nat.zero_le _, Nat.zero_le _⟩) hS (fun w2 H locs hw2 hS => ?_)
    subst hw2
    refine lv_aload_n hx hb dX9_price_45 rfl (lv_at hl 1 rfl) ?_
    refine lv_bipush (v := 31) hx hb dX9_price_46 (by decide) ?_
    refine m_cv (m_runV (n := 1) (rest := []) ⟨hx, hb, hml, hown, hG⟩ (M_began l X B n wm dy tl g hs rest r (te r [34] t) 31 0 (ht.step (by decide))) kw_540 kw_542 kw_9 kw_20 kw_543 (by decide +kernel) (rl_ok (by omega) (by decide)) hF hz hS (q0 := 0) rfl rfl rfl hl.1 rfl (Nat.le_of_ble_eq_true rfl) dX9_price_48 ⟨Nat.zero_le _, Nat.zero_le _⟩) hS (fun w3 H locs hw3 hS => ?_)
    subst hw3
    rw [te_te] at hS
    refine lv_bipush (v := 10) hx hb dX9_price_51 (by decide) ?_
    refine lv_aload_n hx hb dX9_price_53 rfl (lv_at hl 1 rfl) ?_
    refine m_get (v := .ref (B 2)) hx hb hG hown hF hS (0) rfl rfl iG_9 2 (by decide) kw_473 (fun _ h9 => h9) rfl dX9_price_54 ?_
    refine lv_iload_n hx hb dX9_price_57 rfl (lv_at hl 2 rfl) ?_
    refine m_ialdv (v := g j 1) hx hb hF hS (2) rfl (j) rfl (hj) (by decide) rfl dX9_price_58 ?_
    refine lv_iconst (v := 5) hx hb dX9_price_59 (by decide) ?_
    refine lv_idiv hx hb dX9_price_60 (by decide) ?_
    refine lv_iadd hx hb dX9_price_61 ?_
    refine lv_iload_n hx hb dX9_price_62 rfl (lv_at hl 0 rfl) ?_
    refine lv_iconst (v := 3) hx hb dX9_price_63 (by decide) ?_
    refine lv_iconst (v := 4) hx hb dX9_price_64 (by decide) ?_
    refine m_ci (m_runS (n := 3) (rest := [.int (10 + ((g j 1) / 5))]) ⟨hx, hb, hml, hown, hG⟩ (c_in l X _ (nI 6) 3 4 0) kw_521 kw_522 kw_20 kw_523 (by decide +kernel) (rl_ok (by omega) (by decide)) hF hz hS rfl hl.1 rfl (Nat.le_of_ble_eq_true rfl) dX9_price_65 ⟨Nat.zero_le _, Nat.zero_le _⟩) hS (fun r_5 w4 H locs hw4 hS => ?_)
    obtain ⟨rfl, rfl⟩ := hw4
    refine lv_if_eq (tgt := 76) hx hb dX9_price_68 (by decide) (fun c_6 => ?_) (fun c_6 => absurd (by decide) c_6)
    refine lv_iconst (v := 0) hx hb dX9_price_76 (by decide) ?_
    refine lv_iadd hx hb dX9_price_77 ?_
    refine lv_istore_n (lv' := [(3, .int ((10 + ((g j 1) / 5)) + 0)), (2, .int (nI 6)), (0, .ref (B 0)), (1, .int (nI j))]) hx hb dX9_price_78 rfl hl (by decide) rfl (fun ls hl => ?_)
    refine lv_iload_n hx hb dX9_price_79 rfl (lv_at hl 1 rfl) ?_
    refine lv_iconst (v := 4) hx hb dX9_price_80 (by decide) ?_
    refine lv_icmp_ne (tgt := 94) hx hb dX9_price_81 (by decide) (fun c_7 => ?_) (fun c_7 => absurd c_7 (by decide))
    refine lv_iload_n hx hb dX9_price_94 rfl (lv_at hl 1 rfl) ?_
    refine lv_bipush (v := 6) hx hb dX9_price_95 (by decide) ?_
    refine lv_icmp_ne (tgt := 106) hx hb dX9_price_97 (by decide) (fun c_8 => absurd (by decide) c_8) (fun c_8 => ?_)
    refine lv_iconst (v := 2) hx hb dX9_price_100 (by decide) ?_
    refine lv_iload_n hx hb dX9_price_101 rfl (lv_at hl 0 rfl) ?_
    refine lv_imul hx hb dX9_price_102 ?_
    refine lv_goto (tgt := 107) hx hb dX9_price_103 (by decide) ?_
    exact m_iret hx hb hr hlk hS ⟨by first | rfl | exact Int32.add_zero _ | (show _ = 2 * _; rw [Int32.add_zero]), rfl⟩ (Nat.le_refl 0) (Nat.le_refl 0) dX9_price_107
set_option maxHeartbeats 4000000 in
set_option maxRecDepth 100000 in
theorem M_keeps (l : Launch) (X : Cx) (B : Nat → Nat) (n : Nat) (wm dy tl : Int32) (g : Nat → Rc) (hs : Nat → Int32) (rest : va_W) (r : Bool) (t : Tr) (j k f : Nat) (hj : j < 40) (ek : g j 0 = nI k) (h1 : 2 ≤ k) (hk : k < 5) (hf : 4 ≤ f) (ht : tR r 10 t) : cI l yX9_keeps cX9_keeps 2 (some .int) (rl f) X [.ref (B 0), .int (nI j)] (wM X B n wm dy tl g hs rest r t) (fun v w' => v = keepsV k (g j 1) ∧ w' = wM X B n wm dy tl g hs rest r (te r (keepsT k) t)) := by
  refine met_start (by decide) (Nat.le_of_ble_eq_true rfl) ?_
  intro p e s m below meth c ls fx hS hl
  obtain ⟨hx, hb, hr, hml, hown, hG, hlk, hF, hz, hnm⟩ := fx
  have hown : s.vm.findClass RX9 = some m.cls := hown
  have hl : lv_has ls 2 [(0, .ref (B 0)), (1, .int (nI j))] := hl
  match k, h1, hk, ek with
  | 2, _, _, ek =>
    refine lv_aload_n hx hb dX9_keeps_0 rfl (lv_at hl 0 rfl) ?_
    refine m_get (v := .ref (B 1)) hx hb hG hown hF hS (0) rfl rfl iG_9 1 (by decide) kw_472 (fun _ h9 => h9) rfl dX9_keeps_1 ?_
    refine lv_iload_n hx hb dX9_keeps_4 rfl (lv_at hl 1 rfl) ?_
    refine m_ialdv (v := nI 2) hx hb hF hS (1) rfl (j) rfl (hj) (by decide) (ek) dX9_keeps_5 ?_
    refine lv_iconst (v := 4) hx hb dX9_keeps_6 (by decide) ?_
    refine lv_icmp_ne (tgt := 27) hx hb dX9_keeps_7 (by decide) (fun c_1 => ?_) (fun c_1 => absurd c_1 (by decide))
    refine lv_aload_n hx hb dX9_keeps_27 rfl (lv_at hl 0 rfl) ?_
    refine lv_bipush (v := 41) hx hb dX9_keeps_28 (by decide) ?_
    refine m_cv (m_runV (n := 1) (rest := []) ⟨hx, hb, hml, hown, hG⟩ (M_began l X B n wm dy tl g hs rest r t 41 0 (ht.le (by decide))) kw_540 kw_542 kw_9 kw_20 kw_543 (by decide +kernel) (rl_ok (by omega) (by decide)) hF hz hS (q0 := 0) rfl rfl rfl hl.1 rfl (Nat.le_of_ble_eq_true rfl) dX9_keeps_30 ⟨Nat.zero_le _, Nat.zero_le _⟩) hS (fun w1 H locs hw1 hS => ?_)
    subst hw1
    refine lv_iconst (v := 1) hx hb dX9_keeps_33 (by decide) ?_
    refine lv_aload_n hx hb dX9_keeps_34 rfl (lv_at hl 0 rfl) ?_
    refine lv_iload_n hx hb dX9_keeps_35 rfl (lv_at hl 1 rfl) ?_
    refine m_ci (m_runV (n := 1) (rest := [.int 1]) ⟨hx, hb, hml, hown, hG⟩ (M_need l X B n wm dy tl g hs rest r (te r [41] t) j 2 2 hj ek (by decide) (by decide) (ht.step (by decide))) kw_544 kw_546 kw_10 kw_20 kw_547 (by decide +kernel) (rl_ok (by omega) (by decide)) hF hz hS (q0 := 0) rfl rfl rfl hl.1 rfl (Nat.le_of_ble_eq_true rfl) dX9_keeps_36 ⟨Nat.zero_le _, Nat.zero_le _⟩) hS (fun r_2 w2 H locs hw2 hS => ?_)
    obtain ⟨rfl, rfl⟩ := hw2
    rw [te_te] at hS
    refine lv_bipush (v := 100) hx hb dX9_keeps_39 (by decide) ?_
    refine lv_idiv hx hb dX9_keeps_41 (by decide) ?_
    refine lv_iadd hx hb dX9_keeps_42 ?_
    exact m_iret hx hb hr hlk hS ⟨by first | rfl | exact Int32.add_zero _ | (show _ = 2 * _; rw [Int32.add_zero]), rfl⟩ (Nat.le_refl 0) (Nat.le_refl 0) dX9_keeps_43
  | 3, _, _, ek =>
    refine lv_aload_n hx hb dX9_keeps_0 rfl (lv_at hl 0 rfl) ?_
    refine m_get (v := .ref (B 1)) hx hb hG hown hF hS (0) rfl rfl iG_9 1 (by decide) kw_472 (fun _ h9 => h9) rfl dX9_keeps_1 ?_
    refine lv_iload_n hx hb dX9_keeps_4 rfl (lv_at hl 1 rfl) ?_
    refine m_ialdv (v := nI 3) hx hb hF hS (1) rfl (j) rfl (hj) (by decide) (ek) dX9_keeps_5 ?_
    refine lv_iconst (v := 4) hx hb dX9_keeps_6 (by decide) ?_
    refine lv_icmp_ne (tgt := 27) hx hb dX9_keeps_7 (by decide) (fun c_1 => ?_) (fun c_1 => absurd c_1 (by decide))
    refine lv_aload_n hx hb dX9_keeps_27 rfl (lv_at hl 0 rfl) ?_
    refine lv_bipush (v := 41) hx hb dX9_keeps_28 (by decide) ?_
    refine m_cv (m_runV (n := 1) (rest := []) ⟨hx, hb, hml, hown, hG⟩ (M_began l X B n wm dy tl g hs rest r t 41 0 (ht.le (by decide))) kw_540 kw_542 kw_9 kw_20 kw_543 (by decide +kernel) (rl_ok (by omega) (by decide)) hF hz hS (q0 := 0) rfl rfl rfl hl.1 rfl (Nat.le_of_ble_eq_true rfl) dX9_keeps_30 ⟨Nat.zero_le _, Nat.zero_le _⟩) hS (fun w1 H locs hw1 hS => ?_)
    subst hw1
    refine lv_iconst (v := 1) hx hb dX9_keeps_33 (by decide) ?_
    refine lv_aload_n hx hb dX9_keeps_34 rfl (lv_at hl 0 rfl) ?_
    refine lv_iload_n hx hb dX9_keeps_35 rfl (lv_at hl 1 rfl) ?_
    refine m_ci (m_runV (n := 1) (rest := [.int 1]) ⟨hx, hb, hml, hown, hG⟩ (M_need l X B n wm dy tl g hs rest r (te r [41] t) j 3 2 hj ek (by decide) (by decide) (ht.step (by decide))) kw_544 kw_546 kw_10 kw_20 kw_547 (by decide +kernel) (rl_ok (by omega) (by decide)) hF hz hS (q0 := 0) rfl rfl rfl hl.1 rfl (Nat.le_of_ble_eq_true rfl) dX9_keeps_36 ⟨Nat.zero_le _, Nat.zero_le _⟩) hS (fun r_2 w2 H locs hw2 hS => ?_)
    obtain ⟨rfl, rfl⟩ := hw2
    rw [te_te] at hS
    refine lv_bipush (v := 100) hx hb dX9_keeps_39 (by decide) ?_
    refine lv_idiv hx hb dX9_keeps_41 (by decide) ?_
    refine lv_iadd hx hb dX9_keeps_42 ?_
    exact m_iret hx hb hr hlk hS ⟨by first | rfl | exact Int32.add_zero _ | (show _ = 2 * _; rw [Int32.add_zero]), rfl⟩ (Nat.le_refl 0) (Nat.le_refl 0) dX9_keeps_43
  | 4, _, _, ek =>
    refine lv_aload_n hx hb dX9_keeps_0 rfl (lv_at hl 0 rfl) ?_
    refine m_get (v := .ref (B 1)) hx hb hG hown hF hS (0) rfl rfl iG_9 1 (by decide) kw_472 (fun _ h9 => h9) rfl dX9_keeps_1 ?_
    refine lv_iload_n hx hb dX9_keeps_4 rfl (lv_at hl 1 rfl) ?_
    refine m_ialdv (v := nI 4) hx hb hF hS (1) rfl (j) rfl (hj) (by decide) (ek) dX9_keeps_5 ?_
    refine lv_iconst (v := 4) hx hb dX9_keeps_6 (by decide) ?_
    refine lv_icmp_ne (tgt := 27) hx hb dX9_keeps_7 (by decide) (fun c_1 => absurd (by decide) c_1) (fun c_1 => ?_)
    refine lv_aload_n hx hb dX9_keeps_10 rfl (lv_at hl 0 rfl) ?_
    refine lv_bipush (v := 42) hx hb dX9_keeps_11 (by decide) ?_
    refine m_cv (m_runV (n := 1) (rest := []) ⟨hx, hb, hml, hown, hG⟩ (M_began l X B n wm dy tl g hs rest r t 42 0 (ht.le (by decide))) kw_540 kw_542 kw_9 kw_20 kw_543 (by decide +kernel) (rl_ok (by omega) (by decide)) hF hz hS (q0 := 0) rfl rfl rfl hl.1 rfl (Nat.le_of_ble_eq_true rfl) dX9_keeps_13 ⟨Nat.zero_le _, Nat.zero_le _⟩) hS (fun w1 H locs hw1 hS => ?_)
    subst hw1
    refine lv_aload_n hx hb dX9_keeps_16 rfl (lv_at hl 0 rfl) ?_
    refine lv_iload_n hx hb dX9_keeps_17 rfl (lv_at hl 1 rfl) ?_
    refine m_ci (m_runV (n := 1) (rest := []) ⟨hx, hb, hml, hown, hG⟩ (M_price l X B n wm dy tl g hs rest r (te r [42] t) j 4 3 hj ek (by decide) (by decide) (ht.step (by decide))) kw_552 kw_554 kw_12 kw_20 kw_555 (by decide +kernel) (rl_ok (by omega) (by decide)) hF hz hS (q0 := 0) rfl rfl rfl hl.1 rfl (Nat.le_of_ble_eq_true rfl) dX9_keeps_18 ⟨Nat.zero_le _, Nat.zero_le _⟩) hS (fun r_2 w2 H locs hw2 hS => ?_)
    obtain ⟨rfl, rfl⟩ := hw2
    rw [te_te] at hS
    refine lv_bipush (v := 50) hx hb dX9_keeps_21 (by decide) ?_
    refine lv_idiv hx hb dX9_keeps_23 (by decide) ?_
    refine lv_iconst (v := 2) hx hb dX9_keeps_24 (by decide) ?_
    refine lv_iadd hx hb dX9_keeps_25 ?_
    exact m_iret hx hb hr hlk hS ⟨by first | rfl | exact Int32.add_zero _ | (show _ = 2 * _; rw [Int32.add_zero]), rfl⟩ (Nat.le_refl 0) (Nat.le_refl 0) dX9_keeps_26
set_option maxHeartbeats 4000000 in
set_option maxRecDepth 100000 in
theorem M_glaze (l : Launch) (X : Cx) (B : Nat → Nat) (n : Nat) (wm dy tl : Int32) (g : Nat → Rc) (hs : Nat → Int32) (rest : va_W) (r : Bool) (t : Tr) (j k f : Nat) (hj : j < 40) (ek : g j 0 = nI k) (h1 : 5 ≤ k) (hk : k < 7) (hf : 4 ≤ f) (ht : tR r 10 t) : cI l yX9_glaze cX9_glaze 2 (some .int) (rl f) X [.ref (B 0), .int (nI j)] (wM X B n wm dy tl g hs rest r t) (fun v w' => v = glazeV k (g j 1) ∧ w' = wM X B n wm dy tl g hs rest r (te r (glazeT k) t)) := by
  refine met_start (by decide) (Nat.le_of_ble_eq_true rfl) ?_
  intro p e s m below meth c ls fx hS hl
  obtain ⟨hx, hb, hr, hml, hown, hG, hlk, hF, hz, hnm⟩ := fx
  have hown : s.vm.findClass RX9 = some m.cls := hown
  have hl : lv_has ls 2 [(0, .ref (B 0)), (1, .int (nI j))] := hl
  match k, h1, hk, ek with
  | 5, _, _, ek =>
    refine lv_aload_n hx hb dX9_glaze_0 rfl (lv_at hl 0 rfl) ?_
    refine m_get (v := .ref (B 1)) hx hb hG hown hF hS (0) rfl rfl iG_9 1 (by decide) kw_472 (fun _ h9 => h9) rfl dX9_glaze_1 ?_
    refine lv_iload_n hx hb dX9_glaze_4 rfl (lv_at hl 1 rfl) ?_
    refine m_ialdv (v := nI 5) hx hb hF hS (1) rfl (j) rfl (hj) (by decide) (ek) dX9_glaze_5 ?_
    refine lv_bipush (v := 6) hx hb dX9_glaze_6 (by decide) ?_
    refine lv_icmp_ne (tgt := 29) hx hb dX9_glaze_8 (by decide) (fun c_1 => ?_) (fun c_1 => absurd c_1 (by decide))
    refine lv_aload_n hx hb dX9_glaze_29 rfl (lv_at hl 0 rfl) ?_
    refine lv_bipush (v := 51) hx hb dX9_glaze_30 (by decide) ?_
    refine m_cv (m_runV (n := 1) (rest := []) ⟨hx, hb, hml, hown, hG⟩ (M_began l X B n wm dy tl g hs rest r t 51 0 (ht.le (by decide))) kw_540 kw_542 kw_9 kw_20 kw_543 (by decide +kernel) (rl_ok (by omega) (by decide)) hF hz hS (q0 := 0) rfl rfl rfl hl.1 rfl (Nat.le_of_ble_eq_true rfl) dX9_glaze_32 ⟨Nat.zero_le _, Nat.zero_le _⟩) hS (fun w1 H locs hw1 hS => ?_)
    subst hw1
    refine lv_aload_n hx hb dX9_glaze_35 rfl (lv_at hl 0 rfl) ?_
    refine lv_iload_n hx hb dX9_glaze_36 rfl (lv_at hl 1 rfl) ?_
    refine m_ci (m_runV (n := 1) (rest := []) ⟨hx, hb, hml, hown, hG⟩ (M_price l X B n wm dy tl g hs rest r (te r [51] t) j 5 3 hj ek (by decide) (by decide) (ht.step (by decide))) kw_552 kw_554 kw_12 kw_20 kw_555 (by decide +kernel) (rl_ok (by omega) (by decide)) hF hz hS (q0 := 0) rfl rfl rfl hl.1 rfl (Nat.le_of_ble_eq_true rfl) dX9_glaze_37 ⟨Nat.zero_le _, Nat.zero_le _⟩) hS (fun r_2 w2 H locs hw2 hS => ?_)
    obtain ⟨rfl, rfl⟩ := hw2
    rw [te_te] at hS
    refine lv_bipush (v := 10) hx hb dX9_glaze_40 (by decide) ?_
    refine lv_idiv hx hb dX9_glaze_42 (by decide) ?_
    refine lv_iconst (v := 5) hx hb dX9_glaze_43 (by decide) ?_
    refine lv_iadd hx hb dX9_glaze_44 ?_
    exact m_iret hx hb hr hlk hS ⟨by first | rfl | exact Int32.add_zero _ | (show _ = 2 * _; rw [Int32.add_zero]), rfl⟩ (Nat.le_refl 0) (Nat.le_refl 0) dX9_glaze_45
  | 6, _, _, ek =>
    refine lv_aload_n hx hb dX9_glaze_0 rfl (lv_at hl 0 rfl) ?_
    refine m_get (v := .ref (B 1)) hx hb hG hown hF hS (0) rfl rfl iG_9 1 (by decide) kw_472 (fun _ h9 => h9) rfl dX9_glaze_1 ?_
    refine lv_iload_n hx hb dX9_glaze_4 rfl (lv_at hl 1 rfl) ?_
    refine m_ialdv (v := nI 6) hx hb hF hS (1) rfl (j) rfl (hj) (by decide) (ek) dX9_glaze_5 ?_
    refine lv_bipush (v := 6) hx hb dX9_glaze_6 (by decide) ?_
    refine lv_icmp_ne (tgt := 29) hx hb dX9_glaze_8 (by decide) (fun c_1 => absurd (by decide) c_1) (fun c_1 => ?_)
    refine lv_aload_n hx hb dX9_glaze_11 rfl (lv_at hl 0 rfl) ?_
    refine lv_bipush (v := 52) hx hb dX9_glaze_12 (by decide) ?_
    refine m_cv (m_runV (n := 1) (rest := []) ⟨hx, hb, hml, hown, hG⟩ (M_began l X B n wm dy tl g hs rest r t 52 0 (ht.le (by decide))) kw_540 kw_542 kw_9 kw_20 kw_543 (by decide +kernel) (rl_ok (by omega) (by decide)) hF hz hS (q0 := 0) rfl rfl rfl hl.1 rfl (Nat.le_of_ble_eq_true rfl) dX9_glaze_14 ⟨Nat.zero_le _, Nat.zero_le _⟩) hS (fun w1 H locs hw1 hS => ?_)
    subst hw1
    refine lv_aload_n hx hb dX9_glaze_17 rfl (lv_at hl 0 rfl) ?_
    refine lv_iload_n hx hb dX9_glaze_18 rfl (lv_at hl 1 rfl) ?_
    refine lv_sipush (v := 200) hx hb dX9_glaze_19 (by decide) ?_
    refine m_ci (m_runV (n := 2) (rest := []) ⟨hx, hb, hml, hown, hG⟩ (M_brown l X B n wm dy tl g hs rest r (te r [52] t) j 6 200 1 hj ek (by decide) (by decide) (ht.step (by decide))) kw_548 kw_550 kw_11 kw_20 kw_551 (by decide +kernel) (rl_ok (by omega) (by decide)) hF hz hS (q0 := 0) rfl rfl rfl hl.1 rfl (Nat.le_of_ble_eq_true rfl) dX9_glaze_22 ⟨Nat.zero_le _, Nat.zero_le _⟩) hS (fun r_2 w2 H locs hw2 hS => ?_)
    obtain ⟨rfl, rfl⟩ := hw2
    rw [te_te] at hS
    refine lv_bipush (v := 20) hx hb dX9_glaze_25 (by decide) ?_
    refine lv_iadd hx hb dX9_glaze_27 ?_
    exact m_iret hx hb hr hlk hS ⟨by first | rfl | exact Int32.add_zero _ | (show _ = 2 * _; rw [Int32.add_zero]), rfl⟩ (Nat.le_refl 0) (Nat.le_refl 0) dX9_glaze_28
set_option maxHeartbeats 4000000 in
set_option maxRecDepth 100000 in
theorem M_isKeeping (l : Launch) (X : Cx) (ws : va_W) (k : Int32) (f : Nat) (hf : 1 ≤ f) : cI l yX9_isKeeping cX9_isKeeping 1 (some .boolean) (rl f) X [.int k] ws (fun v w => v = inB k 2 4 ∧ w = ws) := by
  refine met_start (by decide) (Nat.le_of_ble_eq_true rfl) ?_
  intro p e s m below meth c ls fx hS hl
  obtain ⟨hx, hb, hr, hml, hown, hG, hlk, hF, hz, hnm⟩ := fx
  have hown : s.vm.findClass RX9 = some m.cls := hown
  have hl : lv_has ls 1 [(0, .int k)] := hl
  refine lv_iload_n hx hb dX9_isKeeping_0 rfl (lv_at hl 0 rfl) ?_
  refine lv_iconst (v := 2) hx hb dX9_isKeeping_1 (by decide) ?_
  refine lv_iconst (v := 4) hx hb dX9_isKeeping_2 (by decide) ?_
  refine m_ci (m_runS (n := 3) (rest := []) ⟨hx, hb, hml, hown, hG⟩ (c_in l X ws k 2 4 0) kw_521 kw_522 kw_20 kw_523 (by decide +kernel) (rl_ok (by omega) (by decide)) hF hz hS rfl hl.1 rfl (Nat.le_of_ble_eq_true rfl) dX9_isKeeping_3 ⟨Nat.zero_le _, Nat.zero_le _⟩) hS (fun r_1 w1 H locs hw1 hS => ?_)
  obtain ⟨rfl, e2⟩ := hw1
  rw [e2] at hS
  exact m_zret hx hb hr (inB_nar _ _ _) hlk hS ⟨rfl, rfl⟩ (Nat.le_refl 0) (Nat.le_refl 0) dX9_isKeeping_6
set_option maxHeartbeats 4000000 in
set_option maxRecDepth 100000 in
theorem M_isGlazed (l : Launch) (X : Cx) (ws : va_W) (k : Int32) (f : Nat) : cI l yX9_isGlazed cX9_isGlazed 1 (some .boolean) (rl f) X [.int k] ws (fun v w => v = (if k ≤ 4 then 0 else 1) ∧ w = ws) := by
  refine met_start (by decide) (Nat.le_of_ble_eq_true rfl) ?_
  intro p e s m below meth c ls fx hS hl
  obtain ⟨hx, hb, hr, hml, hown, hG, hlk, hF, hz, hnm⟩ := fx
  have hown : s.vm.findClass RX9 = some m.cls := hown
  have hl : lv_has ls 1 [(0, .int k)] := hl
  refine lv_iload_n hx hb dX9_isGlazed_0 rfl (lv_at hl 0 rfl) ?_
  refine lv_iconst (v := 4) hx hb dX9_isGlazed_1 (by decide) ?_
  refine lv_icmp_le (tgt := 9) hx hb dX9_isGlazed_2 (by decide) (fun c_1 => ?_) (fun c_1 => ?_)
  · refine lv_iconst (v := 0) hx hb dX9_isGlazed_9 (by decide) ?_
    exact m_zret hx hb hr (by decide) hlk hS (⟨by rw [if_pos c_1], rfl⟩) (Nat.le_refl 0) (Nat.le_refl 0) dX9_isGlazed_10
  · refine lv_iconst (v := 1) hx hb dX9_isGlazed_5 (by decide) ?_
    refine lv_goto (tgt := 10) hx hb dX9_isGlazed_6 (by decide) ?_
    exact m_zret hx hb hr (by decide) hlk hS (⟨by rw [if_neg c_1], rfl⟩) (Nat.le_refl 0) (Nat.le_refl 0) dX9_isGlazed_10
theorem keep_yes {k : Nat} (h1 : 2 ≤ k) (h2 : k < 5) : inB (nI k) 2 4 = 1 := inB_yes (nI_nlt (b := 2) h1 (by omega)) (nI_nlt (a := 4) (b := k) (by omega) (by omega))
theorem keep_no {k : Nat} (h : ¬ (2 ≤ k ∧ k < 5)) (hk : k < 7) : inB (nI k) 2 4 = 0 := by
  rcases Nat.lt_or_ge k 2 with h1 | h1
  · exact inB_no (Or.inl (nI_lt (b := 2) h1 (by omega)))
  · exact inB_no (Or.inr (nI_lt (a := 4) (Nat.lt_of_not_le (fun q => h ⟨h1, by omega⟩)) (by omega)))
theorem glaz_yes {k : Nat} (h1 : 5 ≤ k) (hk : k < 7) : (if nI k ≤ 4 then (0 : Int32) else 1) = 1 := if_neg (nI_ge (a := 4) (b := k) (by omega) (by omega))
theorem glaz_no {k : Nat} (h1 : ¬ 5 ≤ k) : (if nI k ≤ 4 then (0 : Int32) else 1) = 0 := if_pos (nI_le (a := k) (b := 4) (by omega) (by omega))
end
section
theorem te_nil (r : Bool) (t : Tr) : te r [] t = t := by cases r <;> rfl
set_option maxHeartbeats 4000000 in
set_option maxRecDepth 100000 in
theorem M_answer (l : Launch) (X : Cx) (B : Nat → Nat) (n : Nat) (wm dy tl : Int32) (g : Nat → Rc) (hs : Nat → Int32) (rest : va_W) (r : Bool) (t : Tr) (j q : Nat) (w : Int32) (f : Nat) (hj : j < n) (hq : q < 6) (hf : 5 ≤ f) (ht : tR r 10 t) (hn : n ≤ 40) (hkd : ∀ i, i < n → kd (g i) < 7) (hk0 : ∀ i, i < n → g i 0 = nI (kd (g i))) : cI l yX9_answer cX9_answer 4 (some .int) (rl f) X [.ref (B 0), .int (nI j), .int (nI q), .int w] (wM X B n wm dy tl g hs rest r t) (fun v w' => v = askV (g j) q w ∧ w' = wM X B n wm dy tl g hs rest r (te r (askT (g j) q) t)) := by
  refine met_start (by decide) (Nat.le_of_ble_eq_true rfl) ?_
  intro p e s m below meth c ls fx hS hl
  obtain ⟨hx, hb, hr, hml, hown, hG, hlk, hF, hz, hnm⟩ := fx
  have hown : s.vm.findClass RX9 = some m.cls := hown
  have hl : lv_has ls 4 [(0, .ref (B 0)), (1, .int (nI j)), (2, .int (nI q)), (3, .int w)] := hl
  have hj4 : j < 40 := by omega
  refine lv_iload_n hx hb dX9_answer_0 rfl (lv_at hl 2 rfl) ?_
  match q, hq with
  | 0, _ =>
    refine lv_tableIn (off := 35) (tgt := 36) hx hb dX9_answer_1 (by decide) (by decide) (by decide) (by decide) ?_
    refine lv_aload_n hx hb dX9_answer_36 rfl (lv_at hl 0 rfl) ?_
    refine lv_iload_n hx hb dX9_answer_37 rfl (lv_at hl 1 rfl) ?_
    refine lv_iload_n hx hb dX9_answer_38 rfl (lv_at hl 3 rfl) ?_
    refine m_ci (m_runV (n := 2) (rest := []) ⟨hx, hb, hml, hown, hG⟩ (M_rise l X B n wm dy tl g hs rest r t j (kd (g j)) w 1 hj4 (hk0 j hj) (hkd j hj) (by decide) (ht.le (by decide))) kw_536 kw_538 kw_8 kw_20 kw_539 (by decide +kernel) (rl_ok (by omega) (by decide)) hF hz hS (q0 := 0) rfl rfl rfl hl.1 rfl (Nat.le_of_ble_eq_true rfl) dX9_answer_39 ⟨Nat.zero_le _, Nat.zero_le _⟩) hS (fun r_1 w1 H locs hw1 hS => ?_)
    obtain ⟨rfl, rfl⟩ := hw1
    exact m_iret hx hb hr hlk hS (⟨rfl, rfl⟩) (Nat.le_refl 0) (Nat.le_refl 0) dX9_answer_42
  | 1, _ =>
    refine lv_tableIn (off := 42) (tgt := 43) hx hb dX9_answer_1 (by decide) (by decide) (by decide) (by decide) ?_
    refine lv_aload_n hx hb dX9_answer_43 rfl (lv_at hl 0 rfl) ?_
    refine lv_iload_n hx hb dX9_answer_44 rfl (lv_at hl 1 rfl) ?_
    refine m_ci (m_runV (n := 1) (rest := []) ⟨hx, hb, hml, hown, hG⟩ (M_need l X B n wm dy tl g hs rest r t j (kd (g j)) 2 hj4 (hk0 j hj) (hkd j hj) (by decide) (ht.le (by decide))) kw_544 kw_546 kw_10 kw_20 kw_547 (by decide +kernel) (rl_ok (by omega) (by decide)) hF hz hS (q0 := 0) rfl rfl rfl hl.1 rfl (Nat.le_of_ble_eq_true rfl) dX9_answer_45 ⟨Nat.zero_le _, Nat.zero_le _⟩) hS (fun r_1 w1 H locs hw1 hS => ?_)
    obtain ⟨rfl, rfl⟩ := hw1
    exact m_iret hx hb hr hlk hS (⟨rfl, rfl⟩) (Nat.le_refl 0) (Nat.le_refl 0) dX9_answer_48
  | 2, _ =>
    refine lv_tableIn (off := 48) (tgt := 49) hx hb dX9_answer_1 (by decide) (by decide) (by decide) (by decide) ?_
    refine lv_aload_n hx hb dX9_answer_49 rfl (lv_at hl 0 rfl) ?_
    refine lv_iload_n hx hb dX9_answer_50 rfl (lv_at hl 1 rfl) ?_
    refine lv_iload_n hx hb dX9_answer_51 rfl (lv_at hl 3 rfl) ?_
    refine m_ci (m_runV (n := 2) (rest := []) ⟨hx, hb, hml, hown, hG⟩ (M_brown l X B n wm dy tl g hs rest r t j (kd (g j)) w 1 hj4 (hk0 j hj) (hkd j hj) (by decide) (ht.le (by decide))) kw_548 kw_550 kw_11 kw_20 kw_551 (by decide +kernel) (rl_ok (by omega) (by decide)) hF hz hS (q0 := 0) rfl rfl rfl hl.1 rfl (Nat.le_of_ble_eq_true rfl) dX9_answer_52 ⟨Nat.zero_le _, Nat.zero_le _⟩) hS (fun r_1 w1 H locs hw1 hS => ?_)
    obtain ⟨rfl, rfl⟩ := hw1
    exact m_iret hx hb hr hlk hS (⟨rfl, rfl⟩) (Nat.le_refl 0) (Nat.le_refl 0) dX9_answer_55
  | 3, _ =>
    refine lv_tableIn (off := 55) (tgt := 56) hx hb dX9_answer_1 (by decide) (by decide) (by decide) (by decide) ?_
    refine lv_aload_n hx hb dX9_answer_56 rfl (lv_at hl 0 rfl) ?_
    refine lv_iload_n hx hb dX9_answer_57 rfl (lv_at hl 1 rfl) ?_
    refine m_ci (m_runV (n := 1) (rest := []) ⟨hx, hb, hml, hown, hG⟩ (M_price l X B n wm dy tl g hs rest r t j (kd (g j)) 3 hj4 (hk0 j hj) (hkd j hj) (by decide) (ht.le (by decide))) kw_552 kw_554 kw_12 kw_20 kw_555 (by decide +kernel) (rl_ok (by omega) (by decide)) hF hz hS (q0 := 0) rfl rfl rfl hl.1 rfl (Nat.le_of_ble_eq_true rfl) dX9_answer_58 ⟨Nat.zero_le _, Nat.zero_le _⟩) hS (fun r_1 w1 H locs hw1 hS => ?_)
    obtain ⟨rfl, rfl⟩ := hw1
    exact m_iret hx hb hr hlk hS (⟨rfl, rfl⟩) (Nat.le_refl 0) (Nat.le_refl 0) dX9_answer_61
  | 4, _ =>
    refine lv_tableIn (off := 61) (tgt := 62) hx hb dX9_answer_1 (by decide) (by decide) (by decide) (by decide) ?_
    refine lv_aload_n hx hb dX9_answer_62 rfl (lv_at hl 0 rfl) ?_
    refine m_get (v := .ref (B 1)) hx hb hG hown hF hS (0) rfl rfl iG_9 1 (by decide) kw_472 (fun _ h9 => h9) rfl dX9_answer_63 ?_
    refine lv_iload_n hx hb dX9_answer_66 rfl (lv_at hl 1 rfl) ?_
    refine m_ialdv (v := nI (kd (g j))) hx hb hF hS (1) rfl (j) rfl (hj4) (by decide) (hk0 j hj) dX9_answer_67 ?_
    refine m_ci (m_runS (n := 1) (rest := []) ⟨hx, hb, hml, hown, hG⟩ (M_isKeeping l X _ (nI (kd (g j))) 1 (by decide)) kw_556 kw_557 kw_20 kw_558 (by decide +kernel) (rl_ok (by omega) (by decide)) hF hz hS rfl hl.1 rfl (Nat.le_of_ble_eq_true rfl) dX9_answer_68 ⟨Nat.zero_le _, Nat.zero_le _⟩) hS (fun r_1 w1 H locs hw1 hS => ?_)
    obtain ⟨rfl, rfl⟩ := hw1
    by_cases h5 : 2 ≤ kd (g j) ∧ kd (g j) < 5
    · refine lv_if_eq (tgt := 82) hx hb dX9_answer_71 (by decide) (fun c_2 => absurd c_2 (by rw [keep_yes h5.1 h5.2]; decide)) (fun c_2 => ?_)
      refine lv_aload_n hx hb dX9_answer_74 rfl (lv_at hl 0 rfl) ?_
      refine lv_iload_n hx hb dX9_answer_75 rfl (lv_at hl 1 rfl) ?_
      refine m_ci (m_runV (n := 1) (rest := []) ⟨hx, hb, hml, hown, hG⟩ (M_keeps l X B n wm dy tl g hs rest r t j (kd (g j)) 4 hj4 (hk0 j hj) h5.1 h5.2 (by decide) (ht.le (by decide))) kw_559 kw_561 kw_13 kw_20 kw_562 (by decide +kernel) (rl_ok (by omega) (by decide)) hF hz hS (q0 := 0) rfl rfl rfl hl.1 rfl (Nat.le_of_ble_eq_true rfl) dX9_answer_76 ⟨Nat.zero_le _, Nat.zero_le _⟩) hS (fun r_3 w2 H locs hw2 hS => ?_)
      obtain ⟨rfl, rfl⟩ := hw2
      refine lv_goto (tgt := 84) hx hb dX9_answer_79 (by decide) ?_
      exact m_iret hx hb hr hlk hS (⟨by show _ = if 2 ≤ kd (g j) ∧ kd (g j) < 5 then _ else _; rw [if_pos h5], by show _ = wM X B n wm dy tl g hs rest r (te r (if 2 ≤ kd (g j) ∧ kd (g j) < 5 then _ else _) t); rw [if_pos h5]⟩) (Nat.le_refl 0) (Nat.le_refl 0) dX9_answer_84
    · refine lv_if_eq (tgt := 82) hx hb dX9_answer_71 (by decide) (fun c_2 => ?_) (fun c_2 => absurd (keep_no h5 (hkd j hj)) c_2)
      refine lv_bipush (v := -3) hx hb dX9_answer_82 (by decide) ?_
      exact m_iret hx hb hr hlk hS (⟨by show _ = if 2 ≤ kd (g j) ∧ kd (g j) < 5 then _ else _; rw [if_neg h5], by show _ = wM X B n wm dy tl g hs rest r (te r (if 2 ≤ kd (g j) ∧ kd (g j) < 5 then _ else _) t); rw [if_neg h5, te_nil]⟩) (Nat.le_refl 0) (Nat.le_refl 0) dX9_answer_84
  | 5, _ =>
    refine lv_tableOut (tgt := 85) hx hb dX9_answer_1 (by decide) (by decide) ?_
    refine lv_aload_n hx hb dX9_answer_85 rfl (lv_at hl 0 rfl) ?_
    refine m_get (v := .ref (B 1)) hx hb hG hown hF hS (0) rfl rfl iG_9 1 (by decide) kw_472 (fun _ h9 => h9) rfl dX9_answer_86 ?_
    refine lv_iload_n hx hb dX9_answer_89 rfl (lv_at hl 1 rfl) ?_
    refine m_ialdv (v := nI (kd (g j))) hx hb hF hS (1) rfl (j) rfl (hj4) (by decide) (hk0 j hj) dX9_answer_90 ?_
    refine m_ci (m_runS (n := 1) (rest := []) ⟨hx, hb, hml, hown, hG⟩ (M_isGlazed l X _ (nI (kd (g j))) 0) kw_563 kw_564 kw_20 kw_565 (by decide +kernel) (rl_ok (by omega) (by decide)) hF hz hS rfl hl.1 rfl (Nat.le_of_ble_eq_true rfl) dX9_answer_91 ⟨Nat.zero_le _, Nat.zero_le _⟩) hS (fun r_1 w1 H locs hw1 hS => ?_)
    obtain ⟨rfl, rfl⟩ := hw1
    by_cases h5 : 5 ≤ kd (g j)
    · refine lv_if_eq (tgt := 105) hx hb dX9_answer_94 (by decide) (fun c_2 => absurd c_2 (by rw [glaz_yes h5 (hkd j hj)]; decide)) (fun c_2 => ?_)
      refine lv_aload_n hx hb dX9_answer_97 rfl (lv_at hl 0 rfl) ?_
      refine lv_iload_n hx hb dX9_answer_98 rfl (lv_at hl 1 rfl) ?_
      refine m_ci (m_runV (n := 1) (rest := []) ⟨hx, hb, hml, hown, hG⟩ (M_glaze l X B n wm dy tl g hs rest r t j (kd (g j)) 4 hj4 (hk0 j hj) h5 (hkd j hj) (by decide) (ht.le (by decide))) kw_566 kw_568 kw_14 kw_20 kw_569 (by decide +kernel) (rl_ok (by omega) (by decide)) hF hz hS (q0 := 0) rfl rfl rfl hl.1 rfl (Nat.le_of_ble_eq_true rfl) dX9_answer_99 ⟨Nat.zero_le _, Nat.zero_le _⟩) hS (fun r_3 w2 H locs hw2 hS => ?_)
      obtain ⟨rfl, rfl⟩ := hw2
      refine lv_goto (tgt := 107) hx hb dX9_answer_102 (by decide) ?_
      exact m_iret hx hb hr hlk hS (⟨by show _ = if 5 ≤ kd (g j) then _ else _; rw [if_pos h5], by show _ = wM X B n wm dy tl g hs rest r (te r (if 5 ≤ kd (g j) then _ else _) t); rw [if_pos h5]⟩) (Nat.le_refl 0) (Nat.le_refl 0) dX9_answer_107
    · refine lv_if_eq (tgt := 105) hx hb dX9_answer_94 (by decide) (fun c_2 => ?_) (fun c_2 => absurd (glaz_no h5) c_2)
      refine lv_bipush (v := -3) hx hb dX9_answer_105 (by decide) ?_
      exact m_iret hx hb hr hlk hS (⟨by show _ = if 5 ≤ kd (g j) then _ else _; rw [if_neg h5], by show _ = wM X B n wm dy tl g hs rest r (te r (if 5 ≤ kd (g j) then _ else _) t); rw [if_neg h5, te_nil]⟩) (Nat.le_refl 0) (Nat.le_refl 0) dX9_answer_107
set_option maxHeartbeats 4000000 in
set_option maxRecDepth 100000 in
theorem M_ask_nob (l : Launch) (X : Cx) (B : Nat → Nat) (n : Nat) (wm dy tl : Int32) (g : Nat → Rc) (hs : Nat → Int32) (rest : va_W) (t : Tr) (b : Int32) (x0 : Int32) (x1 : Int32) (f : Nat) (hf : 2 ≤ f) (hn : n ≤ 40) (hb0 : b < 0 ∨ nI n ≤ b) : cI l yX9_ask cX9_ask 5 (some .int) (rl f) X [.ref (B 0), .int b, .int x0, .int x1] (wM X B n wm dy tl g hs rest false t) (fun v w => v = -2 ∧ w = wM X B n wm dy tl g hs rest false t) := by
  refine met_start (by decide) (Nat.le_of_ble_eq_true rfl) ?_
  intro p e s m below meth c ls fx hS hl
  obtain ⟨hx, hb, hr, hml, hown, hG, hlk, hF, hz, hnm⟩ := fx
  have hown : s.vm.findClass RX9 = some m.cls := hown
  have hl : lv_has ls 5 [(0, .ref (B 0)), (1, .int b), (2, .int x0), (3, .int x1)] := hl
  refine lv_aload_n hx hb dX9_ask_0 rfl (lv_at hl 0 rfl) ?_
  refine lv_iload_n hx hb dX9_ask_1 rfl (lv_at hl 1 rfl) ?_
  refine m_ci (m_runV (n := 1) (rest := []) ⟨hx, hb, hml, hown, hG⟩ (M_isBatch l X B n wm dy tl g hs rest false t b 1 (by decide)) kw_528 kw_530 kw_6 kw_20 kw_531 (by decide +kernel) (rl_ok (by omega) (by decide)) hF hz hS (q0 := 0) rfl rfl rfl hl.1 rfl (Nat.le_of_ble_eq_true rfl) dX9_ask_2 ⟨Nat.zero_le _, Nat.zero_le _⟩) hS (fun r_1 w1 H locs hw1 hS => ?_)
  obtain ⟨rfl, rfl⟩ := hw1
  refine lv_if_eq (tgt := 47) hx hb dX9_ask_5 (by decide) (fun c_2 => ?_) (fun c_2 => absurd (isB_no hn hb0) c_2)
  refine lv_bipush (v := -2) hx hb dX9_ask_47 (by decide) ?_
  exact m_iret hx hb hr hlk hS (⟨rfl, rfl⟩) (Nat.le_refl 0) (Nat.le_refl 0) dX9_ask_49
set_option maxHeartbeats 4000000 in
set_option maxRecDepth 100000 in
theorem M_bake_nob (l : Launch) (X : Cx) (B : Nat → Nat) (n : Nat) (wm dy tl : Int32) (g : Nat → Rc) (hs : Nat → Int32) (rest : va_W) (t : Tr) (b : Int32) (x0 : Int32) (f : Nat) (hf : 2 ≤ f) (hn : n ≤ 40) (hb0 : b < 0 ∨ nI n ≤ b) : cI l yX9_bake cX9_bake 3 (some .int) (rl f) X [.ref (B 0), .int b, .int x0] (wM X B n wm dy tl g hs rest false t) (fun v w => v = -2 ∧ w = wM X B n wm dy tl g hs rest false t) := by
  refine met_start (by decide) (Nat.le_of_ble_eq_true rfl) ?_
  intro p e s m below meth c ls fx hS hl
  obtain ⟨hx, hb, hr, hml, hown, hG, hlk, hF, hz, hnm⟩ := fx
  have hown : s.vm.findClass RX9 = some m.cls := hown
  have hl : lv_has ls 3 [(0, .ref (B 0)), (1, .int b), (2, .int x0)] := hl
  refine lv_aload_n hx hb dX9_bake_0 rfl (lv_at hl 0 rfl) ?_
  refine lv_iload_n hx hb dX9_bake_1 rfl (lv_at hl 1 rfl) ?_
  refine m_ci (m_runV (n := 1) (rest := []) ⟨hx, hb, hml, hown, hG⟩ (M_isBatch l X B n wm dy tl g hs rest false t b 1 (by decide)) kw_528 kw_530 kw_6 kw_20 kw_531 (by decide +kernel) (rl_ok (by omega) (by decide)) hF hz hS (q0 := 0) rfl rfl rfl hl.1 rfl (Nat.le_of_ble_eq_true rfl) dX9_bake_2 ⟨Nat.zero_le _, Nat.zero_le _⟩) hS (fun r_1 w1 H locs hw1 hS => ?_)
  obtain ⟨rfl, rfl⟩ := hw1
  refine lv_if_eq (tgt := 17) hx hb dX9_bake_5 (by decide) (fun c_2 => ?_) (fun c_2 => absurd (isB_no hn hb0) c_2)
  refine lv_bipush (v := -2) hx hb dX9_bake_17 (by decide) ?_
  exact m_iret hx hb hr hlk hS (⟨rfl, rfl⟩) (Nat.le_refl 0) (Nat.le_refl 0) dX9_bake_19
set_option maxHeartbeats 4000000 in
set_option maxRecDepth 100000 in
theorem M_out_nob (l : Launch) (X : Cx) (B : Nat → Nat) (n : Nat) (wm dy tl : Int32) (g : Nat → Rc) (hs : Nat → Int32) (rest : va_W) (t : Tr) (b : Int32) (f : Nat) (hf : 2 ≤ f) (hn : n ≤ 40) (hb0 : b < 0 ∨ nI n ≤ b) : cI l yX9_out cX9_out 2 (some .int) (rl f) X [.ref (B 0), .int b] (wM X B n wm dy tl g hs rest false t) (fun v w => v = -2 ∧ w = wM X B n wm dy tl g hs rest false t) := by
  refine met_start (by decide) (Nat.le_of_ble_eq_true rfl) ?_
  intro p e s m below meth c ls fx hS hl
  obtain ⟨hx, hb, hr, hml, hown, hG, hlk, hF, hz, hnm⟩ := fx
  have hown : s.vm.findClass RX9 = some m.cls := hown
  have hl : lv_has ls 2 [(0, .ref (B 0)), (1, .int b)] := hl
  refine lv_aload_n hx hb dX9_out_0 rfl (lv_at hl 0 rfl) ?_
  refine lv_iload_n hx hb dX9_out_1 rfl (lv_at hl 1 rfl) ?_
  refine m_ci (m_runV (n := 1) (rest := []) ⟨hx, hb, hml, hown, hG⟩ (M_isBatch l X B n wm dy tl g hs rest false t b 1 (by decide)) kw_528 kw_530 kw_6 kw_20 kw_531 (by decide +kernel) (rl_ok (by omega) (by decide)) hF hz hS (q0 := 0) rfl rfl rfl hl.1 rfl (Nat.le_of_ble_eq_true rfl) dX9_out_2 ⟨Nat.zero_le _, Nat.zero_le _⟩) hS (fun r_1 w1 H locs hw1 hS => ?_)
  obtain ⟨rfl, rfl⟩ := hw1
  refine lv_if_ne (tgt := 11) hx hb dX9_out_5 (by decide) (fun c_2 => absurd (isB_no hn hb0) c_2) (fun c_2 => ?_)
  refine lv_bipush (v := -2) hx hb dX9_out_8 (by decide) ?_
  exact m_iret hx hb hr hlk hS (⟨rfl, rfl⟩) (Nat.le_refl 0) (Nat.le_refl 0) dX9_out_10
set_option maxHeartbeats 4000000 in
set_option maxRecDepth 100000 in
theorem M_sell_nob (l : Launch) (X : Cx) (B : Nat → Nat) (n : Nat) (wm dy tl : Int32) (g : Nat → Rc) (hs : Nat → Int32) (rest : va_W) (t : Tr) (b : Int32) (f : Nat) (hf : 2 ≤ f) (hn : n ≤ 40) (hb0 : b < 0 ∨ nI n ≤ b) : cI l yX9_sell cX9_sell 3 (some .int) (rl f) X [.ref (B 0), .int b] (wM X B n wm dy tl g hs rest false t) (fun v w => v = -2 ∧ w = wM X B n wm dy tl g hs rest false t) := by
  refine met_start (by decide) (Nat.le_of_ble_eq_true rfl) ?_
  intro p e s m below meth c ls fx hS hl
  obtain ⟨hx, hb, hr, hml, hown, hG, hlk, hF, hz, hnm⟩ := fx
  have hown : s.vm.findClass RX9 = some m.cls := hown
  have hl : lv_has ls 3 [(0, .ref (B 0)), (1, .int b)] := hl
  refine lv_aload_n hx hb dX9_sell_0 rfl (lv_at hl 0 rfl) ?_
  refine lv_iload_n hx hb dX9_sell_1 rfl (lv_at hl 1 rfl) ?_
  refine m_ci (m_runV (n := 1) (rest := []) ⟨hx, hb, hml, hown, hG⟩ (M_isBatch l X B n wm dy tl g hs rest false t b 1 (by decide)) kw_528 kw_530 kw_6 kw_20 kw_531 (by decide +kernel) (rl_ok (by omega) (by decide)) hF hz hS (q0 := 0) rfl rfl rfl hl.1 rfl (Nat.le_of_ble_eq_true rfl) dX9_sell_2 ⟨Nat.zero_le _, Nat.zero_le _⟩) hS (fun r_1 w1 H locs hw1 hS => ?_)
  obtain ⟨rfl, rfl⟩ := hw1
  refine lv_if_ne (tgt := 11) hx hb dX9_sell_5 (by decide) (fun c_2 => absurd (isB_no hn hb0) c_2) (fun c_2 => ?_)
  refine lv_bipush (v := -2) hx hb dX9_sell_8 (by decide) ?_
  exact m_iret hx hb hr hlk hS (⟨rfl, rfl⟩) (Nat.le_refl 0) (Nat.le_refl 0) dX9_sell_10
set_option maxHeartbeats 4000000 in
set_option maxRecDepth 100000 in
theorem M_told_nob (l : Launch) (X : Cx) (B : Nat → Nat) (n : Nat) (wm dy tl : Int32) (g : Nat → Rc) (hs : Nat → Int32) (rest : va_W) (t : Tr) (b : Int32) (x0 : Int32) (f : Nat) (hf : 2 ≤ f) (hn : n ≤ 40) (hb0 : b < 0 ∨ nI n ≤ b) : cI l yX9_told cX9_told 3 (some .int) (rl f) X [.ref (B 0), .int b, .int x0] (wM X B n wm dy tl g hs rest false t) (fun v w => v = -2 ∧ w = wM X B n wm dy tl g hs rest false t) := by
  refine met_start (by decide) (Nat.le_of_ble_eq_true rfl) ?_
  intro p e s m below meth c ls fx hS hl
  obtain ⟨hx, hb, hr, hml, hown, hG, hlk, hF, hz, hnm⟩ := fx
  have hown : s.vm.findClass RX9 = some m.cls := hown
  have hl : lv_has ls 3 [(0, .ref (B 0)), (1, .int b), (2, .int x0)] := hl
  refine lv_aload_n hx hb dX9_told_0 rfl (lv_at hl 0 rfl) ?_
  refine lv_iload_n hx hb dX9_told_1 rfl (lv_at hl 1 rfl) ?_
  refine m_ci (m_runV (n := 1) (rest := []) ⟨hx, hb, hml, hown, hG⟩ (M_isBatch l X B n wm dy tl g hs rest false t b 1 (by decide)) kw_528 kw_530 kw_6 kw_20 kw_531 (by decide +kernel) (rl_ok (by omega) (by decide)) hF hz hS (q0 := 0) rfl rfl rfl hl.1 rfl (Nat.le_of_ble_eq_true rfl) dX9_told_2 ⟨Nat.zero_le _, Nat.zero_le _⟩) hS (fun r_1 w1 H locs hw1 hS => ?_)
  obtain ⟨rfl, rfl⟩ := hw1
  refine lv_if_eq (tgt := 18) hx hb dX9_told_5 (by decide) (fun c_2 => ?_) (fun c_2 => absurd (isB_no hn hb0) c_2)
  refine lv_bipush (v := -2) hx hb dX9_told_18 (by decide) ?_
  exact m_iret hx hb hr hlk hS (⟨rfl, rfl⟩) (Nat.le_refl 0) (Nat.le_refl 0) dX9_told_20
set_option maxHeartbeats 4000000 in
set_option maxRecDepth 100000 in
theorem M_ask_bad (l : Launch) (X : Cx) (B : Nat → Nat) (n : Nat) (wm dy tl : Int32) (g : Nat → Rc) (hs : Nat → Int32) (rest : va_W) (t : Tr) (j f : Nat) (hn : n ≤ 40) (hkd : ∀ i, i < n → kd (g i) < 7) (hk0 : ∀ i, i < n → g i 0 = nI (kd (g i))) (hj : j < n) (wh w : Int32) (hf : 6 ≤ f) (h0 : qOk wh w = 0) : cI l yX9_ask cX9_ask 5 (some .int) (rl f) X [.ref (B 0), .int (nI j), .int wh, .int w] (wM X B n wm dy tl g hs rest false t) (fun v w' => v = -2 ∧ w' = wM X B n wm dy tl g hs rest false t) := by
  refine met_start (by decide) (Nat.le_of_ble_eq_true rfl) ?_
  intro p e s m below meth c ls fx hS hl
  obtain ⟨hx, hb, hr, hml, hown, hG, hlk, hF, hz, hnm⟩ := fx
  have hown : s.vm.findClass RX9 = some m.cls := hown
  have hl : lv_has ls 5 [(0, .ref (B 0)), (1, .int (nI j)), (2, .int wh), (3, .int w)] := hl
  have hj4 : j < 40 := by omega
  refine lv_aload_n hx hb dX9_ask_0 rfl (lv_at hl 0 rfl) ?_
  refine lv_iload_n hx hb dX9_ask_1 rfl (lv_at hl 1 rfl) ?_
  refine m_ci (m_runV (n := 1) (rest := []) ⟨hx, hb, hml, hown, hG⟩ (M_isBatch l X B n wm dy tl g hs rest false t (nI j) 1 (by decide)) kw_528 kw_530 kw_6 kw_20 kw_531 (by decide +kernel) (rl_ok (by omega) (by decide)) hF hz hS (q0 := 0) rfl rfl rfl hl.1 rfl (Nat.le_of_ble_eq_true rfl) dX9_ask_2 ⟨Nat.zero_le _, Nat.zero_le _⟩) hS (fun r_1 w1 H locs hw1 hS => ?_)
  obtain ⟨rfl, rfl⟩ := hw1
  refine lv_if_eq (tgt := 47) hx hb dX9_ask_5 (by decide) (fun c_2 => absurd c_2 (by rw [isB_yes hj hn]; decide)) (fun c_2 => ?_)
  refine lv_iload_n hx hb dX9_ask_8 rfl (lv_at hl 2 rfl) ?_
  refine lv_iconst (v := 0) hx hb dX9_ask_9 (by decide) ?_
  refine lv_iconst (v := 5) hx hb dX9_ask_10 (by decide) ?_
  refine m_ci (m_runS (n := 3) (rest := []) ⟨hx, hb, hml, hown, hG⟩ (c_in l X _ wh 0 5 0) kw_521 kw_522 kw_20 kw_523 (by decide +kernel) (rl_ok (by omega) (by decide)) hF hz hS rfl hl.1 rfl (Nat.le_of_ble_eq_true rfl) dX9_ask_11 ⟨Nat.zero_le _, Nat.zero_le _⟩) hS (fun r_3 w2 H locs hw2 hS => ?_)
  obtain ⟨rfl, rfl⟩ := hw2
  refine lv_if_eq (tgt := 47) hx hb dX9_ask_14 (by decide) (fun c_4 => ?_) (fun c_4 => ?_)
  · refine lv_bipush (v := -2) hx hb dX9_ask_47 (by decide) ?_
    exact m_iret hx hb hr hlk hS (⟨rfl, rfl⟩) (Nat.le_refl 0) (Nat.le_refl 0) dX9_ask_49
  · refine lv_iload_n hx hb dX9_ask_17 rfl (lv_at hl 2 rfl) ?_
    refine lv_if_ne (tgt := 31) hx hb dX9_ask_18 (by decide) (fun c_5 => ?_) (fun c_5 => ?_)
    · refine lv_iload_n hx hb dX9_ask_31 rfl (lv_at hl 2 rfl) ?_
      refine lv_iconst (v := 2) hx hb dX9_ask_32 (by decide) ?_
      refine lv_icmp_ne (tgt := 50) hx hb dX9_ask_33 (by decide) (fun c_6 => ?_) (fun c_6 => ?_)
      · exact absurd (by unfold qOk at h0; rw [if_neg c_5, if_neg c_6] at h0; exact h0) c_4
      · refine lv_iload_n hx hb dX9_ask_36 rfl (lv_at hl 3 rfl) ?_
        refine lv_iconst (v := 0) hx hb dX9_ask_37 (by decide) ?_
        refine lv_sipush (v := 400) hx hb dX9_ask_38 (by decide) ?_
        refine m_ci (m_runS (n := 3) (rest := []) ⟨hx, hb, hml, hown, hG⟩ (c_in l X _ w 0 400 0) kw_521 kw_522 kw_20 kw_523 (by decide +kernel) (rl_ok (by omega) (by decide)) hF hz hS rfl hl.1 rfl (Nat.le_of_ble_eq_true rfl) dX9_ask_41 ⟨Nat.zero_le _, Nat.zero_le _⟩) hS (fun r_7 w4 H locs hw4 hS => ?_)
        obtain ⟨rfl, rfl⟩ := hw4
        refine lv_if_ne (tgt := 50) hx hb dX9_ask_44 (by decide) (fun c_8 => absurd (by unfold qOk at h0; rw [if_neg c_5, if_pos c_6] at h0; exact h0) c_8) (fun c_8 => ?_)
        refine lv_bipush (v := -2) hx hb dX9_ask_47 (by decide) ?_
        exact m_iret hx hb hr hlk hS (⟨rfl, rfl⟩) (Nat.le_refl 0) (Nat.le_refl 0) dX9_ask_49
    · refine lv_iload_n hx hb dX9_ask_21 rfl (lv_at hl 3 rfl) ?_
      refine lv_iconst (v := 0) hx hb dX9_ask_22 (by decide) ?_
      refine lv_bipush (v := 60) hx hb dX9_ask_23 (by decide) ?_
      refine m_ci (m_runS (n := 3) (rest := []) ⟨hx, hb, hml, hown, hG⟩ (c_in l X _ w 0 60 0) kw_521 kw_522 kw_20 kw_523 (by decide +kernel) (rl_ok (by omega) (by decide)) hF hz hS rfl hl.1 rfl (Nat.le_of_ble_eq_true rfl) dX9_ask_25 ⟨Nat.zero_le _, Nat.zero_le _⟩) hS (fun r_6 w3 H locs hw3 hS => ?_)
      obtain ⟨rfl, rfl⟩ := hw3
      refine lv_if_eq (tgt := 47) hx hb dX9_ask_28 (by decide) (fun c_7 => ?_) (fun c_7 => absurd (by unfold qOk at h0; rw [if_pos c_5] at h0; exact h0) c_7)
      refine lv_bipush (v := -2) hx hb dX9_ask_47 (by decide) ?_
      exact m_iret hx hb hr hlk hS (⟨rfl, rfl⟩) (Nat.le_refl 0) (Nat.le_refl 0) dX9_ask_49
set_option maxHeartbeats 4000000 in
set_option maxRecDepth 100000 in
theorem M_ask (l : Launch) (X : Cx) (B : Nat → Nat) (n : Nat) (wm dy tl : Int32) (g : Nat → Rc) (hs : Nat → Int32) (rest : va_W) (t : Tr) (j f : Nat) (hn : n ≤ 40) (hkd : ∀ i, i < n → kd (g i) < 7) (hk0 : ∀ i, i < n → g i 0 = nI (kd (g i))) (hj : j < n) (q : Nat) (w : Int32) (hq : q < 6) (hf : 6 ≤ f) (h0 : ¬ qOk (nI q) w = 0) : cI l yX9_ask cX9_ask 5 (some .int) (rl f) X [.ref (B 0), .int (nI j), .int (nI q), .int w] (wM X B n wm dy tl g hs rest false t) (fun v w' => v = askV (g j) q w ∧ w' = wM X B n wm dy tl g hs rest false (te true (askT (g j) q) (0, t.2))) := by
  refine met_start (by decide) (Nat.le_of_ble_eq_true rfl) ?_
  intro p e s m below meth c ls fx hS hl
  obtain ⟨hx, hb, hr, hml, hown, hG, hlk, hF, hz, hnm⟩ := fx
  have hown : s.vm.findClass RX9 = some m.cls := hown
  have hl : lv_has ls 5 [(0, .ref (B 0)), (1, .int (nI j)), (2, .int (nI q)), (3, .int w)] := hl
  have hj4 : j < 40 := by omega
  refine lv_aload_n hx hb dX9_ask_0 rfl (lv_at hl 0 rfl) ?_
  refine lv_iload_n hx hb dX9_ask_1 rfl (lv_at hl 1 rfl) ?_
  refine m_ci (m_runV (n := 1) (rest := []) ⟨hx, hb, hml, hown, hG⟩ (M_isBatch l X B n wm dy tl g hs rest false t (nI j) 1 (by decide)) kw_528 kw_530 kw_6 kw_20 kw_531 (by decide +kernel) (rl_ok (by omega) (by decide)) hF hz hS (q0 := 0) rfl rfl rfl hl.1 rfl (Nat.le_of_ble_eq_true rfl) dX9_ask_2 ⟨Nat.zero_le _, Nat.zero_le _⟩) hS (fun r_1 w1 H locs hw1 hS => ?_)
  obtain ⟨rfl, rfl⟩ := hw1
  refine lv_if_eq (tgt := 47) hx hb dX9_ask_5 (by decide) (fun c_2 => absurd c_2 (by rw [isB_yes hj hn]; decide)) (fun c_2 => ?_)
  refine lv_iload_n hx hb dX9_ask_8 rfl (lv_at hl 2 rfl) ?_
  refine lv_iconst (v := 0) hx hb dX9_ask_9 (by decide) ?_
  refine lv_iconst (v := 5) hx hb dX9_ask_10 (by decide) ?_
  match q, hq with
  | 0, _ =>
    refine m_ci (m_runS (n := 3) (rest := []) ⟨hx, hb, hml, hown, hG⟩ (c_in l X _ (nI 0) 0 5 0) kw_521 kw_522 kw_20 kw_523 (by decide +kernel) (rl_ok (by omega) (by decide)) hF hz hS rfl hl.1 rfl (Nat.le_of_ble_eq_true rfl) dX9_ask_11 ⟨Nat.zero_le _, Nat.zero_le _⟩) hS (fun r_3 w2 H locs hw2 hS => ?_)
    obtain ⟨rfl, rfl⟩ := hw2
    refine lv_if_eq (tgt := 47) hx hb dX9_ask_14 (by decide) (fun c_4 => absurd c_4 (by decide)) (fun c_4 => ?_)
    refine lv_iload_n hx hb dX9_ask_17 rfl (lv_at hl 2 rfl) ?_
    refine lv_if_ne (tgt := 31) hx hb dX9_ask_18 (by decide) (fun c_5 => absurd (by decide) c_5) (fun c_5 => ?_)
    refine lv_iload_n hx hb dX9_ask_21 rfl (lv_at hl 3 rfl) ?_
    refine lv_iconst (v := 0) hx hb dX9_ask_22 (by decide) ?_
    refine lv_bipush (v := 60) hx hb dX9_ask_23 (by decide) ?_
    refine m_ci (m_runS (n := 3) (rest := []) ⟨hx, hb, hml, hown, hG⟩ (c_in l X _ w 0 60 0) kw_521 kw_522 kw_20 kw_523 (by decide +kernel) (rl_ok (by omega) (by decide)) hF hz hS rfl hl.1 rfl (Nat.le_of_ble_eq_true rfl) dX9_ask_25 ⟨Nat.zero_le _, Nat.zero_le _⟩) hS (fun r_6 w3 H locs hw3 hS => ?_)
    obtain ⟨rfl, rfl⟩ := hw3
    refine lv_if_eq (tgt := 47) hx hb dX9_ask_28 (by decide) (fun c_7 => absurd c_7 (h0)) (fun c_7 => ?_)
    refine lv_iload_n hx hb dX9_ask_31 rfl (lv_at hl 2 rfl) ?_
    refine lv_iconst (v := 2) hx hb dX9_ask_32 (by decide) ?_
    refine lv_icmp_ne (tgt := 50) hx hb dX9_ask_33 (by decide) (fun c_8 => ?_) (fun c_8 => absurd c_8 (by decide))
    refine lv_aload_n hx hb dX9_ask_50 rfl (lv_at hl 0 rfl) ?_
    refine lv_iconst (v := 0) hx hb dX9_ask_51 (by decide) ?_
    refine m_put hx hb hG hown hF hS (0) rfl rfl iG_9 tyX9_ok nmX9 13 (by decide) kw_484 (fun _ h9 => h9) rfl rfl rfl (Nat.le_of_ble_eq_true rfl) (wM X B n wm dy tl g hs rest false (0, t.2)) rfl dX9_ask_52 (fun H locs hS => ?_)
    refine lv_aload_n hx hb dX9_ask_55 rfl (lv_at hl 0 rfl) ?_
    refine lv_iconst (v := 1) hx hb dX9_ask_56 (by decide) ?_
    refine m_put hx hb hG hown hF hS (0) rfl rfl iG_9 tyX9_ok nmX9 14 (by decide) kw_485 (fun _ h9 => h9) rfl rfl rfl (Nat.le_of_ble_eq_true rfl) (wM X B n wm dy tl g hs rest true (0, t.2)) rfl dX9_ask_57 (fun H locs hS => ?_)
    refine lv_aload_n hx hb dX9_ask_60 rfl (lv_at hl 0 rfl) ?_
    refine lv_iload_n hx hb dX9_ask_61 rfl (lv_at hl 1 rfl) ?_
    refine lv_iload_n hx hb dX9_ask_62 rfl (lv_at hl 2 rfl) ?_
    refine lv_iload_n hx hb dX9_ask_63 rfl (lv_at hl 3 rfl) ?_
    refine m_ci (m_runV (n := 3) (rest := []) ⟨hx, hb, hml, hown, hG⟩ (M_answer l X B n wm dy tl g hs rest true (0, t.2) j 0 w 5 hj (by decide) (by decide) (fun _ => Nat.le_refl 10) hn hkd hk0) kw_532 kw_534 kw_7 kw_20 kw_535 (by decide +kernel) (rl_ok (by omega) (by decide)) hF hz hS (q0 := 0) rfl rfl rfl hl.1 rfl (Nat.le_of_ble_eq_true rfl) dX9_ask_64 ⟨Nat.zero_le _, Nat.zero_le _⟩) hS (fun r_9 w5 H locs hw5 hS => ?_)
    obtain ⟨rfl, rfl⟩ := hw5
    refine lv_istore (lv' := [(4, .int (askV (g j) 0 w)), (0, .ref (B 0)), (1, .int (nI j)), (2, .int (nI 0)), (3, .int w)]) hx hb dX9_ask_67 hl (by decide) rfl (fun ls hl => ?_)
    refine lv_aload_n hx hb dX9_ask_69 rfl (lv_at hl 1 rfl) ?_
    refine lv_iconst (v := 0) hx hb dX9_ask_70 (by decide) ?_
    refine m_put hx hb hG hown hF hS (0) rfl rfl iG_9 tyX9_ok nmX9 14 (by decide) kw_485 (fun _ h9 => h9) rfl rfl rfl (Nat.le_of_ble_eq_true rfl) (wM X B n wm dy tl g hs rest false (te true (askT (g j) 0) (0, t.2))) rfl dX9_ask_71 (fun H locs hS => ?_)
    refine lv_iload hx hb dX9_ask_74 (lv_at hl 0 rfl) ?_
    exact m_iret hx hb hr hlk hS (⟨rfl, rfl⟩) (Nat.le_refl 0) (Nat.le_refl 0) dX9_ask_76
  | 1, _ =>
    refine m_ci (m_runS (n := 3) (rest := []) ⟨hx, hb, hml, hown, hG⟩ (c_in l X _ (nI 1) 0 5 0) kw_521 kw_522 kw_20 kw_523 (by decide +kernel) (rl_ok (by omega) (by decide)) hF hz hS rfl hl.1 rfl (Nat.le_of_ble_eq_true rfl) dX9_ask_11 ⟨Nat.zero_le _, Nat.zero_le _⟩) hS (fun r_3 w2 H locs hw2 hS => ?_)
    obtain ⟨rfl, rfl⟩ := hw2
    refine lv_if_eq (tgt := 47) hx hb dX9_ask_14 (by decide) (fun c_4 => absurd c_4 (by decide)) (fun c_4 => ?_)
    refine lv_iload_n hx hb dX9_ask_17 rfl (lv_at hl 2 rfl) ?_
    refine lv_if_ne (tgt := 31) hx hb dX9_ask_18 (by decide) (fun c_5 => ?_) (fun c_5 => absurd c_5 (by decide))
    refine lv_iload_n hx hb dX9_ask_31 rfl (lv_at hl 2 rfl) ?_
    refine lv_iconst (v := 2) hx hb dX9_ask_32 (by decide) ?_
    refine lv_icmp_ne (tgt := 50) hx hb dX9_ask_33 (by decide) (fun c_6 => ?_) (fun c_6 => absurd c_6 (by decide))
    refine lv_aload_n hx hb dX9_ask_50 rfl (lv_at hl 0 rfl) ?_
    refine lv_iconst (v := 0) hx hb dX9_ask_51 (by decide) ?_
    refine m_put hx hb hG hown hF hS (0) rfl rfl iG_9 tyX9_ok nmX9 13 (by decide) kw_484 (fun _ h9 => h9) rfl rfl rfl (Nat.le_of_ble_eq_true rfl) (wM X B n wm dy tl g hs rest false (0, t.2)) rfl dX9_ask_52 (fun H locs hS => ?_)
    refine lv_aload_n hx hb dX9_ask_55 rfl (lv_at hl 0 rfl) ?_
    refine lv_iconst (v := 1) hx hb dX9_ask_56 (by decide) ?_
    refine m_put hx hb hG hown hF hS (0) rfl rfl iG_9 tyX9_ok nmX9 14 (by decide) kw_485 (fun _ h9 => h9) rfl rfl rfl (Nat.le_of_ble_eq_true rfl) (wM X B n wm dy tl g hs rest true (0, t.2)) rfl dX9_ask_57 (fun H locs hS => ?_)
    refine lv_aload_n hx hb dX9_ask_60 rfl (lv_at hl 0 rfl) ?_
    refine lv_iload_n hx hb dX9_ask_61 rfl (lv_at hl 1 rfl) ?_
    refine lv_iload_n hx hb dX9_ask_62 rfl (lv_at hl 2 rfl) ?_
    refine lv_iload_n hx hb dX9_ask_63 rfl (lv_at hl 3 rfl) ?_
    refine m_ci (m_runV (n := 3) (rest := []) ⟨hx, hb, hml, hown, hG⟩ (M_answer l X B n wm dy tl g hs rest true (0, t.2) j 1 w 5 hj (by decide) (by decide) (fun _ => Nat.le_refl 10) hn hkd hk0) kw_532 kw_534 kw_7 kw_20 kw_535 (by decide +kernel) (rl_ok (by omega) (by decide)) hF hz hS (q0 := 0) rfl rfl rfl hl.1 rfl (Nat.le_of_ble_eq_true rfl) dX9_ask_64 ⟨Nat.zero_le _, Nat.zero_le _⟩) hS (fun r_7 w5 H locs hw5 hS => ?_)
    obtain ⟨rfl, rfl⟩ := hw5
    refine lv_istore (lv' := [(4, .int (askV (g j) 1 w)), (0, .ref (B 0)), (1, .int (nI j)), (2, .int (nI 1)), (3, .int w)]) hx hb dX9_ask_67 hl (by decide) rfl (fun ls hl => ?_)
    refine lv_aload_n hx hb dX9_ask_69 rfl (lv_at hl 1 rfl) ?_
    refine lv_iconst (v := 0) hx hb dX9_ask_70 (by decide) ?_
    refine m_put hx hb hG hown hF hS (0) rfl rfl iG_9 tyX9_ok nmX9 14 (by decide) kw_485 (fun _ h9 => h9) rfl rfl rfl (Nat.le_of_ble_eq_true rfl) (wM X B n wm dy tl g hs rest false (te true (askT (g j) 1) (0, t.2))) rfl dX9_ask_71 (fun H locs hS => ?_)
    refine lv_iload hx hb dX9_ask_74 (lv_at hl 0 rfl) ?_
    exact m_iret hx hb hr hlk hS (⟨rfl, rfl⟩) (Nat.le_refl 0) (Nat.le_refl 0) dX9_ask_76
  | 2, _ =>
    refine m_ci (m_runS (n := 3) (rest := []) ⟨hx, hb, hml, hown, hG⟩ (c_in l X _ (nI 2) 0 5 0) kw_521 kw_522 kw_20 kw_523 (by decide +kernel) (rl_ok (by omega) (by decide)) hF hz hS rfl hl.1 rfl (Nat.le_of_ble_eq_true rfl) dX9_ask_11 ⟨Nat.zero_le _, Nat.zero_le _⟩) hS (fun r_3 w2 H locs hw2 hS => ?_)
    obtain ⟨rfl, rfl⟩ := hw2
    refine lv_if_eq (tgt := 47) hx hb dX9_ask_14 (by decide) (fun c_4 => absurd c_4 (by decide)) (fun c_4 => ?_)
    refine lv_iload_n hx hb dX9_ask_17 rfl (lv_at hl 2 rfl) ?_
    refine lv_if_ne (tgt := 31) hx hb dX9_ask_18 (by decide) (fun c_5 => ?_) (fun c_5 => absurd c_5 (by decide))
    refine lv_iload_n hx hb dX9_ask_31 rfl (lv_at hl 2 rfl) ?_
    refine lv_iconst (v := 2) hx hb dX9_ask_32 (by decide) ?_
    refine lv_icmp_ne (tgt := 50) hx hb dX9_ask_33 (by decide) (fun c_6 => absurd (by decide) c_6) (fun c_6 => ?_)
    refine lv_iload_n hx hb dX9_ask_36 rfl (lv_at hl 3 rfl) ?_
    refine lv_iconst (v := 0) hx hb dX9_ask_37 (by decide) ?_
    refine lv_sipush (v := 400) hx hb dX9_ask_38 (by decide) ?_
    refine m_ci (m_runS (n := 3) (rest := []) ⟨hx, hb, hml, hown, hG⟩ (c_in l X _ w 0 400 0) kw_521 kw_522 kw_20 kw_523 (by decide +kernel) (rl_ok (by omega) (by decide)) hF hz hS rfl hl.1 rfl (Nat.le_of_ble_eq_true rfl) dX9_ask_41 ⟨Nat.zero_le _, Nat.zero_le _⟩) hS (fun r_7 w4 H locs hw4 hS => ?_)
    obtain ⟨rfl, rfl⟩ := hw4
    refine lv_if_ne (tgt := 50) hx hb dX9_ask_44 (by decide) (fun c_8 => ?_) (fun c_8 => absurd c_8 (h0))
    refine lv_aload_n hx hb dX9_ask_50 rfl (lv_at hl 0 rfl) ?_
    refine lv_iconst (v := 0) hx hb dX9_ask_51 (by decide) ?_
    refine m_put hx hb hG hown hF hS (0) rfl rfl iG_9 tyX9_ok nmX9 13 (by decide) kw_484 (fun _ h9 => h9) rfl rfl rfl (Nat.le_of_ble_eq_true rfl) (wM X B n wm dy tl g hs rest false (0, t.2)) rfl dX9_ask_52 (fun H locs hS => ?_)
    refine lv_aload_n hx hb dX9_ask_55 rfl (lv_at hl 0 rfl) ?_
    refine lv_iconst (v := 1) hx hb dX9_ask_56 (by decide) ?_
    refine m_put hx hb hG hown hF hS (0) rfl rfl iG_9 tyX9_ok nmX9 14 (by decide) kw_485 (fun _ h9 => h9) rfl rfl rfl (Nat.le_of_ble_eq_true rfl) (wM X B n wm dy tl g hs rest true (0, t.2)) rfl dX9_ask_57 (fun H locs hS => ?_)
    refine lv_aload_n hx hb dX9_ask_60 rfl (lv_at hl 0 rfl) ?_
    refine lv_iload_n hx hb dX9_ask_61 rfl (lv_at hl 1 rfl) ?_
    refine lv_iload_n hx hb dX9_ask_62 rfl (lv_at hl 2 rfl) ?_
    refine lv_iload_n hx hb dX9_ask_63 rfl (lv_at hl 3 rfl) ?_
    refine m_ci (m_runV (n := 3) (rest := []) ⟨hx, hb, hml, hown, hG⟩ (M_answer l X B n wm dy tl g hs rest true (0, t.2) j 2 w 5 hj (by decide) (by decide) (fun _ => Nat.le_refl 10) hn hkd hk0) kw_532 kw_534 kw_7 kw_20 kw_535 (by decide +kernel) (rl_ok (by omega) (by decide)) hF hz hS (q0 := 0) rfl rfl rfl hl.1 rfl (Nat.le_of_ble_eq_true rfl) dX9_ask_64 ⟨Nat.zero_le _, Nat.zero_le _⟩) hS (fun r_9 w5 H locs hw5 hS => ?_)
    obtain ⟨rfl, rfl⟩ := hw5
    refine lv_istore (lv' := [(4, .int (askV (g j) 2 w)), (0, .ref (B 0)), (1, .int (nI j)), (2, .int (nI 2)), (3, .int w)]) hx hb dX9_ask_67 hl (by decide) rfl (fun ls hl => ?_)
    refine lv_aload_n hx hb dX9_ask_69 rfl (lv_at hl 1 rfl) ?_
    refine lv_iconst (v := 0) hx hb dX9_ask_70 (by decide) ?_
    refine m_put hx hb hG hown hF hS (0) rfl rfl iG_9 tyX9_ok nmX9 14 (by decide) kw_485 (fun _ h9 => h9) rfl rfl rfl (Nat.le_of_ble_eq_true rfl) (wM X B n wm dy tl g hs rest false (te true (askT (g j) 2) (0, t.2))) rfl dX9_ask_71 (fun H locs hS => ?_)
    refine lv_iload hx hb dX9_ask_74 (lv_at hl 0 rfl) ?_
    exact m_iret hx hb hr hlk hS (⟨rfl, rfl⟩) (Nat.le_refl 0) (Nat.le_refl 0) dX9_ask_76
  | 3, _ =>
    refine m_ci (m_runS (n := 3) (rest := []) ⟨hx, hb, hml, hown, hG⟩ (c_in l X _ (nI 3) 0 5 0) kw_521 kw_522 kw_20 kw_523 (by decide +kernel) (rl_ok (by omega) (by decide)) hF hz hS rfl hl.1 rfl (Nat.le_of_ble_eq_true rfl) dX9_ask_11 ⟨Nat.zero_le _, Nat.zero_le _⟩) hS (fun r_3 w2 H locs hw2 hS => ?_)
    obtain ⟨rfl, rfl⟩ := hw2
    refine lv_if_eq (tgt := 47) hx hb dX9_ask_14 (by decide) (fun c_4 => absurd c_4 (by decide)) (fun c_4 => ?_)
    refine lv_iload_n hx hb dX9_ask_17 rfl (lv_at hl 2 rfl) ?_
    refine lv_if_ne (tgt := 31) hx hb dX9_ask_18 (by decide) (fun c_5 => ?_) (fun c_5 => absurd c_5 (by decide))
    refine lv_iload_n hx hb dX9_ask_31 rfl (lv_at hl 2 rfl) ?_
    refine lv_iconst (v := 2) hx hb dX9_ask_32 (by decide) ?_
    refine lv_icmp_ne (tgt := 50) hx hb dX9_ask_33 (by decide) (fun c_6 => ?_) (fun c_6 => absurd c_6 (by decide))
    refine lv_aload_n hx hb dX9_ask_50 rfl (lv_at hl 0 rfl) ?_
    refine lv_iconst (v := 0) hx hb dX9_ask_51 (by decide) ?_
    refine m_put hx hb hG hown hF hS (0) rfl rfl iG_9 tyX9_ok nmX9 13 (by decide) kw_484 (fun _ h9 => h9) rfl rfl rfl (Nat.le_of_ble_eq_true rfl) (wM X B n wm dy tl g hs rest false (0, t.2)) rfl dX9_ask_52 (fun H locs hS => ?_)
    refine lv_aload_n hx hb dX9_ask_55 rfl (lv_at hl 0 rfl) ?_
    refine lv_iconst (v := 1) hx hb dX9_ask_56 (by decide) ?_
    refine m_put hx hb hG hown hF hS (0) rfl rfl iG_9 tyX9_ok nmX9 14 (by decide) kw_485 (fun _ h9 => h9) rfl rfl rfl (Nat.le_of_ble_eq_true rfl) (wM X B n wm dy tl g hs rest true (0, t.2)) rfl dX9_ask_57 (fun H locs hS => ?_)
    refine lv_aload_n hx hb dX9_ask_60 rfl (lv_at hl 0 rfl) ?_
    refine lv_iload_n hx hb dX9_ask_61 rfl (lv_at hl 1 rfl) ?_
    refine lv_iload_n hx hb dX9_ask_62 rfl (lv_at hl 2 rfl) ?_
    refine lv_iload_n hx hb dX9_ask_63 rfl (lv_at hl 3 rfl) ?_
    refine m_ci (m_runV (n := 3) (rest := []) ⟨hx, hb, hml, hown, hG⟩ (M_answer l X B n wm dy tl g hs rest true (0, t.2) j 3 w 5 hj (by decide) (by decide) (fun _ => Nat.le_refl 10) hn hkd hk0) kw_532 kw_534 kw_7 kw_20 kw_535 (by decide +kernel) (rl_ok (by omega) (by decide)) hF hz hS (q0 := 0) rfl rfl rfl hl.1 rfl (Nat.le_of_ble_eq_true rfl) dX9_ask_64 ⟨Nat.zero_le _, Nat.zero_le _⟩) hS (fun r_7 w5 H locs hw5 hS => ?_)
    obtain ⟨rfl, rfl⟩ := hw5
    refine lv_istore (lv' := [(4, .int (askV (g j) 3 w)), (0, .ref (B 0)), (1, .int (nI j)), (2, .int (nI 3)), (3, .int w)]) hx hb dX9_ask_67 hl (by decide) rfl (fun ls hl => ?_)
    refine lv_aload_n hx hb dX9_ask_69 rfl (lv_at hl 1 rfl) ?_
    refine lv_iconst (v := 0) hx hb dX9_ask_70 (by decide) ?_
    refine m_put hx hb hG hown hF hS (0) rfl rfl iG_9 tyX9_ok nmX9 14 (by decide) kw_485 (fun _ h9 => h9) rfl rfl rfl (Nat.le_of_ble_eq_true rfl) (wM X B n wm dy tl g hs rest false (te true (askT (g j) 3) (0, t.2))) rfl dX9_ask_71 (fun H locs hS => ?_)
    refine lv_iload hx hb dX9_ask_74 (lv_at hl 0 rfl) ?_
    exact m_iret hx hb hr hlk hS (⟨rfl, rfl⟩) (Nat.le_refl 0) (Nat.le_refl 0) dX9_ask_76
  | 4, _ =>
    refine m_ci (m_runS (n := 3) (rest := []) ⟨hx, hb, hml, hown, hG⟩ (c_in l X _ (nI 4) 0 5 0) kw_521 kw_522 kw_20 kw_523 (by decide +kernel) (rl_ok (by omega) (by decide)) hF hz hS rfl hl.1 rfl (Nat.le_of_ble_eq_true rfl) dX9_ask_11 ⟨Nat.zero_le _, Nat.zero_le _⟩) hS (fun r_3 w2 H locs hw2 hS => ?_)
    obtain ⟨rfl, rfl⟩ := hw2
    refine lv_if_eq (tgt := 47) hx hb dX9_ask_14 (by decide) (fun c_4 => absurd c_4 (by decide)) (fun c_4 => ?_)
    refine lv_iload_n hx hb dX9_ask_17 rfl (lv_at hl 2 rfl) ?_
    refine lv_if_ne (tgt := 31) hx hb dX9_ask_18 (by decide) (fun c_5 => ?_) (fun c_5 => absurd c_5 (by decide))
    refine lv_iload_n hx hb dX9_ask_31 rfl (lv_at hl 2 rfl) ?_
    refine lv_iconst (v := 2) hx hb dX9_ask_32 (by decide) ?_
    refine lv_icmp_ne (tgt := 50) hx hb dX9_ask_33 (by decide) (fun c_6 => ?_) (fun c_6 => absurd c_6 (by decide))
    refine lv_aload_n hx hb dX9_ask_50 rfl (lv_at hl 0 rfl) ?_
    refine lv_iconst (v := 0) hx hb dX9_ask_51 (by decide) ?_
    refine m_put hx hb hG hown hF hS (0) rfl rfl iG_9 tyX9_ok nmX9 13 (by decide) kw_484 (fun _ h9 => h9) rfl rfl rfl (Nat.le_of_ble_eq_true rfl) (wM X B n wm dy tl g hs rest false (0, t.2)) rfl dX9_ask_52 (fun H locs hS => ?_)
    refine lv_aload_n hx hb dX9_ask_55 rfl (lv_at hl 0 rfl) ?_
    refine lv_iconst (v := 1) hx hb dX9_ask_56 (by decide) ?_
    refine m_put hx hb hG hown hF hS (0) rfl rfl iG_9 tyX9_ok nmX9 14 (by decide) kw_485 (fun _ h9 => h9) rfl rfl rfl (Nat.le_of_ble_eq_true rfl) (wM X B n wm dy tl g hs rest true (0, t.2)) rfl dX9_ask_57 (fun H locs hS => ?_)
    refine lv_aload_n hx hb dX9_ask_60 rfl (lv_at hl 0 rfl) ?_
    refine lv_iload_n hx hb dX9_ask_61 rfl (lv_at hl 1 rfl) ?_
    refine lv_iload_n hx hb dX9_ask_62 rfl (lv_at hl 2 rfl) ?_
    refine lv_iload_n hx hb dX9_ask_63 rfl (lv_at hl 3 rfl) ?_
    refine m_ci (m_runV (n := 3) (rest := []) ⟨hx, hb, hml, hown, hG⟩ (M_answer l X B n wm dy tl g hs rest true (0, t.2) j 4 w 5 hj (by decide) (by decide) (fun _ => Nat.le_refl 10) hn hkd hk0) kw_532 kw_534 kw_7 kw_20 kw_535 (by decide +kernel) (rl_ok (by omega) (by decide)) hF hz hS (q0 := 0) rfl rfl rfl hl.1 rfl (Nat.le_of_ble_eq_true rfl) dX9_ask_64 ⟨Nat.zero_le _, Nat.zero_le _⟩) hS (fun r_7 w5 H locs hw5 hS => ?_)
    obtain ⟨rfl, rfl⟩ := hw5
    refine lv_istore (lv' := [(4, .int (askV (g j) 4 w)), (0, .ref (B 0)), (1, .int (nI j)), (2, .int (nI 4)), (3, .int w)]) hx hb dX9_ask_67 hl (by decide) rfl (fun ls hl => ?_)
    refine lv_aload_n hx hb dX9_ask_69 rfl (lv_at hl 1 rfl) ?_
    refine lv_iconst (v := 0) hx hb dX9_ask_70 (by decide) ?_
    refine m_put hx hb hG hown hF hS (0) rfl rfl iG_9 tyX9_ok nmX9 14 (by decide) kw_485 (fun _ h9 => h9) rfl rfl rfl (Nat.le_of_ble_eq_true rfl) (wM X B n wm dy tl g hs rest false (te true (askT (g j) 4) (0, t.2))) rfl dX9_ask_71 (fun H locs hS => ?_)
    refine lv_iload hx hb dX9_ask_74 (lv_at hl 0 rfl) ?_
    exact m_iret hx hb hr hlk hS (⟨rfl, rfl⟩) (Nat.le_refl 0) (Nat.le_refl 0) dX9_ask_76
  | 5, _ =>
    refine m_ci (m_runS (n := 3) (rest := []) ⟨hx, hb, hml, hown, hG⟩ (c_in l X _ (nI 5) 0 5 0) kw_521 kw_522 kw_20 kw_523 (by decide +kernel) (rl_ok (by omega) (by decide)) hF hz hS rfl hl.1 rfl (Nat.le_of_ble_eq_true rfl) dX9_ask_11 ⟨Nat.zero_le _, Nat.zero_le _⟩) hS (fun r_3 w2 H locs hw2 hS => ?_)
    obtain ⟨rfl, rfl⟩ := hw2
    refine lv_if_eq (tgt := 47) hx hb dX9_ask_14 (by decide) (fun c_4 => absurd c_4 (by decide)) (fun c_4 => ?_)
    refine lv_iload_n hx hb dX9_ask_17 rfl (lv_at hl 2 rfl) ?_
    refine lv_if_ne (tgt := 31) hx hb dX9_ask_18 (by decide) (fun c_5 => ?_) (fun c_5 => absurd c_5 (by decide))
    refine lv_iload_n hx hb dX9_ask_31 rfl (lv_at hl 2 rfl) ?_
    refine lv_iconst (v := 2) hx hb dX9_ask_32 (by decide) ?_
    refine lv_icmp_ne (tgt := 50) hx hb dX9_ask_33 (by decide) (fun c_6 => ?_) (fun c_6 => absurd c_6 (by decide))
    refine lv_aload_n hx hb dX9_ask_50 rfl (lv_at hl 0 rfl) ?_
    refine lv_iconst (v := 0) hx hb dX9_ask_51 (by decide) ?_
    refine m_put hx hb hG hown hF hS (0) rfl rfl iG_9 tyX9_ok nmX9 13 (by decide) kw_484 (fun _ h9 => h9) rfl rfl rfl (Nat.le_of_ble_eq_true rfl) (wM X B n wm dy tl g hs rest false (0, t.2)) rfl dX9_ask_52 (fun H locs hS => ?_)
    refine lv_aload_n hx hb dX9_ask_55 rfl (lv_at hl 0 rfl) ?_
    refine lv_iconst (v := 1) hx hb dX9_ask_56 (by decide) ?_
    refine m_put hx hb hG hown hF hS (0) rfl rfl iG_9 tyX9_ok nmX9 14 (by decide) kw_485 (fun _ h9 => h9) rfl rfl rfl (Nat.le_of_ble_eq_true rfl) (wM X B n wm dy tl g hs rest true (0, t.2)) rfl dX9_ask_57 (fun H locs hS => ?_)
    refine lv_aload_n hx hb dX9_ask_60 rfl (lv_at hl 0 rfl) ?_
    refine lv_iload_n hx hb dX9_ask_61 rfl (lv_at hl 1 rfl) ?_
    refine lv_iload_n hx hb dX9_ask_62 rfl (lv_at hl 2 rfl) ?_
    refine lv_iload_n hx hb dX9_ask_63 rfl (lv_at hl 3 rfl) ?_
    refine m_ci (m_runV (n := 3) (rest := []) ⟨hx, hb, hml, hown, hG⟩ (M_answer l X B n wm dy tl g hs rest true (0, t.2) j 5 w 5 hj (by decide) (by decide) (fun _ => Nat.le_refl 10) hn hkd hk0) kw_532 kw_534 kw_7 kw_20 kw_535 (by decide +kernel) (rl_ok (by omega) (by decide)) hF hz hS (q0 := 0) rfl rfl rfl hl.1 rfl (Nat.le_of_ble_eq_true rfl) dX9_ask_64 ⟨Nat.zero_le _, Nat.zero_le _⟩) hS (fun r_7 w5 H locs hw5 hS => ?_)
    obtain ⟨rfl, rfl⟩ := hw5
    refine lv_istore (lv' := [(4, .int (askV (g j) 5 w)), (0, .ref (B 0)), (1, .int (nI j)), (2, .int (nI 5)), (3, .int w)]) hx hb dX9_ask_67 hl (by decide) rfl (fun ls hl => ?_)
    refine lv_aload_n hx hb dX9_ask_69 rfl (lv_at hl 1 rfl) ?_
    refine lv_iconst (v := 0) hx hb dX9_ask_70 (by decide) ?_
    refine m_put hx hb hG hown hF hS (0) rfl rfl iG_9 tyX9_ok nmX9 14 (by decide) kw_485 (fun _ h9 => h9) rfl rfl rfl (Nat.le_of_ble_eq_true rfl) (wM X B n wm dy tl g hs rest false (te true (askT (g j) 5) (0, t.2))) rfl dX9_ask_71 (fun H locs hS => ?_)
    refine lv_iload hx hb dX9_ask_74 (lv_at hl 0 rfl) ?_
    exact m_iret hx hb hr hlk hS (⟨rfl, rfl⟩) (Nat.le_refl 0) (Nat.le_refl 0) dX9_ask_76
set_option maxHeartbeats 4000000 in
set_option maxRecDepth 100000 in
theorem M_trace_no (l : Launch) (X : Cx) (B : Nat → Nat) (n : Nat) (wm dy tl : Int32) (g : Nat → Rc) (hs : Nat → Int32) (rest : va_W) (t : Tr) (i : Int32) (f : Nat) (h0 : i < 0 ∨ nI t.1 ≤ i) (hf : 1 ≤ f) (ht : t.1 ≤ 10) : cI l yX9_trace cX9_trace 2 (some .int) (rl f) X [.ref (B 0), .int (i)] (wM X B n wm dy tl g hs rest false t) (fun v w => v = -1 ∧ w = wM X B n wm dy tl g hs rest false t) := by
  refine met_start (by decide) (Nat.le_of_ble_eq_true rfl) ?_
  intro p e s m below meth c ls fx hS hl
  obtain ⟨hx, hb, hr, hml, hown, hG, hlk, hF, hz, hnm⟩ := fx
  have hown : s.vm.findClass RX9 = some m.cls := hown
  have hl : lv_has ls 2 [(0, .ref (B 0)), (1, .int i)] := hl
  refine lv_iload_n hx hb dX9_trace_0 rfl (lv_at hl 1 rfl) ?_
  refine lv_iconst (v := 0) hx hb dX9_trace_1 (by decide) ?_
  refine lv_aload_n hx hb dX9_trace_2 rfl (lv_at hl 0 rfl) ?_
  refine m_get (v := .int (nI t.1)) hx hb hG hown hF hS (0) rfl rfl iG_9 13 (by decide) kw_484 (fun _ h9 => h9) rfl dX9_trace_3 ?_
  refine lv_iconst (v := 1) hx hb dX9_trace_6 (by decide) ?_
  refine lv_isub hx hb dX9_trace_7 ?_
  refine m_ci (m_runS (n := 3) (rest := []) ⟨hx, hb, hml, hown, hG⟩ (c_in l X _ i 0 ((nI t.1) - 1) 0) kw_521 kw_522 kw_20 kw_523 (by decide +kernel) (rl_ok (by omega) (by decide)) hF hz hS rfl hl.1 rfl (Nat.le_of_ble_eq_true rfl) dX9_trace_8 ⟨Nat.zero_le _, Nat.zero_le _⟩) hS (fun r_1 w1 H locs hw1 hS => ?_)
  obtain ⟨rfl, rfl⟩ := hw1
  refine lv_if_eq (tgt := 23) hx hb dX9_trace_11 (by decide) (fun c_2 => ?_) (fun c_2 => absurd (isB_no (by omega) h0) c_2)
  refine lv_iconst (v := -1) hx hb dX9_trace_23 (by decide) ?_
  exact m_iret hx hb hr hlk hS (⟨rfl, rfl⟩) (Nat.le_refl 0) (Nat.le_refl 0) dX9_trace_24
set_option maxHeartbeats 4000000 in
set_option maxRecDepth 100000 in
theorem M_trace (l : Launch) (X : Cx) (B : Nat → Nat) (n : Nat) (wm dy tl : Int32) (g : Nat → Rc) (hs : Nat → Int32) (rest : va_W) (t : Tr) (j f : Nat) (hj : j < t.1) (hf : 1 ≤ f) (ht : t.1 ≤ 10) : cI l yX9_trace cX9_trace 2 (some .int) (rl f) X [.ref (B 0), .int (nI j)] (wM X B n wm dy tl g hs rest false t) (fun v w => v = t.2 j ∧ w = wM X B n wm dy tl g hs rest false t) := by
  refine met_start (by decide) (Nat.le_of_ble_eq_true rfl) ?_
  intro p e s m below meth c ls fx hS hl
  obtain ⟨hx, hb, hr, hml, hown, hG, hlk, hF, hz, hnm⟩ := fx
  have hown : s.vm.findClass RX9 = some m.cls := hown
  have hl : lv_has ls 2 [(0, .ref (B 0)), (1, .int (nI j))] := hl
  refine lv_iload_n hx hb dX9_trace_0 rfl (lv_at hl 1 rfl) ?_
  refine lv_iconst (v := 0) hx hb dX9_trace_1 (by decide) ?_
  refine lv_aload_n hx hb dX9_trace_2 rfl (lv_at hl 0 rfl) ?_
  refine m_get (v := .int (nI t.1)) hx hb hG hown hF hS (0) rfl rfl iG_9 13 (by decide) kw_484 (fun _ h9 => h9) rfl dX9_trace_3 ?_
  refine lv_iconst (v := 1) hx hb dX9_trace_6 (by decide) ?_
  refine lv_isub hx hb dX9_trace_7 ?_
  refine m_ci (m_runS (n := 3) (rest := []) ⟨hx, hb, hml, hown, hG⟩ (c_in l X _ (nI j) 0 ((nI t.1) - 1) 0) kw_521 kw_522 kw_20 kw_523 (by decide +kernel) (rl_ok (by omega) (by decide)) hF hz hS rfl hl.1 rfl (Nat.le_of_ble_eq_true rfl) dX9_trace_8 ⟨Nat.zero_le _, Nat.zero_le _⟩) hS (fun r_1 w1 H locs hw1 hS => ?_)
  obtain ⟨rfl, rfl⟩ := hw1
  refine lv_if_eq (tgt := 23) hx hb dX9_trace_11 (by decide) (fun c_2 => absurd c_2 (by rw [isB_yes hj (by omega)]; decide)) (fun c_2 => ?_)
  refine lv_aload_n hx hb dX9_trace_14 rfl (lv_at hl 0 rfl) ?_
  refine m_get (v := .ref (B 9)) hx hb hG hown hF hS (0) rfl rfl iG_9 12 (by decide) kw_483 (fun _ h9 => h9) rfl dX9_trace_15 ?_
  refine lv_iload_n hx hb dX9_trace_18 rfl (lv_at hl 1 rfl) ?_
  refine m_iald hx hb hF hS (9) rfl (j) rfl (by omega) (by decide) dX9_trace_19 ?_
  refine lv_goto (tgt := 24) hx hb dX9_trace_20 (by decide) ?_
  exact m_iret hx hb hr hlk hS (⟨rfl, rfl⟩) (Nat.le_refl 0) (Nat.le_refl 0) dX9_trace_24
set_option maxHeartbeats 4000000 in
set_option maxRecDepth 100000 in
theorem M_room_bad (l : Launch) (X : Cx) (B : Nat → Nat) (n : Nat) (wm dy tl : Int32) (g : Nat → Rc) (hs : Nat → Int32) (rest : va_W) (t : Tr) (w : Int32) (f : Nat) (hf : 1 ≤ f) (h0 : inB w 0 60 = 0) : cI l yX9_room cX9_room 3 (some .int) (rl f) X [.ref (B 0), .int w] (wM X B n wm dy tl g hs rest false t) (fun v w' => v = -2 ∧ w' = wM X B n wm dy tl g hs rest false t) := by
  refine met_start (by decide) (Nat.le_of_ble_eq_true rfl) ?_
  intro p e s m below meth c ls fx hS hl
  obtain ⟨hx, hb, hr, hml, hown, hG, hlk, hF, hz, hnm⟩ := fx
  have hown : s.vm.findClass RX9 = some m.cls := hown
  have hl : lv_has ls 3 [(0, .ref (B 0)), (1, .int w)] := hl
  refine lv_iload_n hx hb dX9_room_0 rfl (lv_at hl 1 rfl) ?_
  refine lv_iconst (v := 0) hx hb dX9_room_1 (by decide) ?_
  refine lv_bipush (v := 60) hx hb dX9_room_2 (by decide) ?_
  refine m_ci (m_runS (n := 3) (rest := []) ⟨hx, hb, hml, hown, hG⟩ (c_in l X _ w 0 60 0) kw_521 kw_522 kw_20 kw_523 (by decide +kernel) (rl_ok (by omega) (by decide)) hF hz hS rfl hl.1 rfl (Nat.le_of_ble_eq_true rfl) dX9_room_4 ⟨Nat.zero_le _, Nat.zero_le _⟩) hS (fun r_1 w1 H locs hw1 hS => ?_)
  obtain ⟨rfl, rfl⟩ := hw1
  refine lv_if_ne (tgt := 13) hx hb dX9_room_7 (by decide) (fun c_2 => absurd (h0) c_2) (fun c_2 => ?_)
  refine lv_bipush (v := -2) hx hb dX9_room_10 (by decide) ?_
  exact m_iret hx hb hr hlk hS (⟨rfl, rfl⟩) (Nat.le_refl 0) (Nat.le_refl 0) dX9_room_12
set_option maxHeartbeats 4000000 in
set_option maxRecDepth 100000 in
theorem M_room (l : Launch) (X : Cx) (B : Nat → Nat) (n : Nat) (wm dy tl : Int32) (g : Nat → Rc) (hs : Nat → Int32) (rest : va_W) (t : Tr) (w : Int32) (f : Nat) (hf : 1 ≤ f) (h0 : ¬ inB w 0 60 = 0) : cI l yX9_room cX9_room 3 (some .int) (rl f) X [.ref (B 0), .int w] (wM X B n wm dy tl g hs rest false t) (fun v w' => v = wm ∧ w' = wM X B n w dy tl g hs rest false t) := by
  refine met_start (by decide) (Nat.le_of_ble_eq_true rfl) ?_
  intro p e s m below meth c ls fx hS hl
  obtain ⟨hx, hb, hr, hml, hown, hG, hlk, hF, hz, hnm⟩ := fx
  have hown : s.vm.findClass RX9 = some m.cls := hown
  have hl : lv_has ls 3 [(0, .ref (B 0)), (1, .int w)] := hl
  refine lv_iload_n hx hb dX9_room_0 rfl (lv_at hl 1 rfl) ?_
  refine lv_iconst (v := 0) hx hb dX9_room_1 (by decide) ?_
  refine lv_bipush (v := 60) hx hb dX9_room_2 (by decide) ?_
  refine m_ci (m_runS (n := 3) (rest := []) ⟨hx, hb, hml, hown, hG⟩ (c_in l X _ w 0 60 0) kw_521 kw_522 kw_20 kw_523 (by decide +kernel) (rl_ok (by omega) (by decide)) hF hz hS rfl hl.1 rfl (Nat.le_of_ble_eq_true rfl) dX9_room_4 ⟨Nat.zero_le _, Nat.zero_le _⟩) hS (fun r_1 w1 H locs hw1 hS => ?_)
  obtain ⟨rfl, rfl⟩ := hw1
  refine lv_if_ne (tgt := 13) hx hb dX9_room_7 (by decide) (fun c_2 => ?_) (fun c_2 => absurd c_2 (h0))
  refine lv_aload_n hx hb dX9_room_13 rfl (lv_at hl 0 rfl) ?_
  refine m_get (v := .int wm) hx hb hG hown hF hS (0) rfl rfl iG_9 8 (by decide) kw_479 (fun _ h9 => h9) rfl dX9_room_14 ?_
  refine lv_istore_n (lv' := [(2, .int wm), (0, .ref (B 0)), (1, .int w)]) hx hb dX9_room_17 rfl hl (by decide) rfl (fun ls hl => ?_)
  refine lv_aload_n hx hb dX9_room_18 rfl (lv_at hl 1 rfl) ?_
  refine lv_iload_n hx hb dX9_room_19 rfl (lv_at hl 2 rfl) ?_
  refine m_put hx hb hG hown hF hS (0) rfl rfl iG_9 tyX9_ok nmX9 8 (by decide) kw_479 (fun _ h9 => h9) rfl rfl rfl (Nat.le_of_ble_eq_true rfl) (wM X B n w dy tl g hs rest false t) rfl dX9_room_20 (fun H locs hS => ?_)
  refine lv_iload_n hx hb dX9_room_23 rfl (lv_at hl 0 rfl) ?_
  exact m_iret hx hb hr hlk hS (⟨rfl, rfl⟩) (Nat.le_refl 0) (Nat.le_refl 0) dX9_room_24
set_option maxHeartbeats 4000000 in
set_option maxRecDepth 100000 in
theorem M_heat_bad (l : Launch) (X : Cx) (B : Nat → Nat) (n : Nat) (wm dy tl : Int32) (g : Nat → Rc) (hs : Nat → Int32) (rest : va_W) (t : Tr) (o h : Int32) (f : Nat) (hf : 1 ≤ f) (h0 : inB o 0 2 = 0 ∨ inB h 0 400 = 0) : cI l yX9_heat cX9_heat 4 (some .int) (rl f) X [.ref (B 0), .int o, .int h] (wM X B n wm dy tl g hs rest false t) (fun v w' => v = -2 ∧ w' = wM X B n wm dy tl g hs rest false t) := by
  refine met_start (by decide) (Nat.le_of_ble_eq_true rfl) ?_
  intro p e s m below meth c ls fx hS hl
  obtain ⟨hx, hb, hr, hml, hown, hG, hlk, hF, hz, hnm⟩ := fx
  have hown : s.vm.findClass RX9 = some m.cls := hown
  have hl : lv_has ls 4 [(0, .ref (B 0)), (1, .int o), (2, .int h)] := hl
  refine lv_iload_n hx hb dX9_heat_0 rfl (lv_at hl 1 rfl) ?_
  refine lv_iconst (v := 0) hx hb dX9_heat_1 (by decide) ?_
  refine lv_iconst (v := 2) hx hb dX9_heat_2 (by decide) ?_
  refine m_ci (m_runS (n := 3) (rest := []) ⟨hx, hb, hml, hown, hG⟩ (c_in l X _ o 0 2 0) kw_521 kw_522 kw_20 kw_523 (by decide +kernel) (rl_ok (by omega) (by decide)) hF hz hS rfl hl.1 rfl (Nat.le_of_ble_eq_true rfl) dX9_heat_3 ⟨Nat.zero_le _, Nat.zero_le _⟩) hS (fun r_1 w1 H locs hw1 hS => ?_)
  obtain ⟨rfl, rfl⟩ := hw1
  refine lv_if_eq (tgt := 20) hx hb dX9_heat_6 (by decide) (fun c_2 => ?_) (fun c_2 => ?_)
  · refine lv_bipush (v := -2) hx hb dX9_heat_20 (by decide) ?_
    exact m_iret hx hb hr hlk hS (⟨rfl, rfl⟩) (Nat.le_refl 0) (Nat.le_refl 0) dX9_heat_22
  · refine lv_iload_n hx hb dX9_heat_9 rfl (lv_at hl 2 rfl) ?_
    refine lv_iconst (v := 0) hx hb dX9_heat_10 (by decide) ?_
    refine lv_sipush (v := 400) hx hb dX9_heat_11 (by decide) ?_
    refine m_ci (m_runS (n := 3) (rest := []) ⟨hx, hb, hml, hown, hG⟩ (c_in l X _ h 0 400 0) kw_521 kw_522 kw_20 kw_523 (by decide +kernel) (rl_ok (by omega) (by decide)) hF hz hS rfl hl.1 rfl (Nat.le_of_ble_eq_true rfl) dX9_heat_14 ⟨Nat.zero_le _, Nat.zero_le _⟩) hS (fun r_3 w2 H locs hw2 hS => ?_)
    obtain ⟨rfl, rfl⟩ := hw2
    refine lv_if_ne (tgt := 23) hx hb dX9_heat_17 (by decide) (fun c_4 => absurd (h0.resolve_left c_2) c_4) (fun c_4 => ?_)
    refine lv_bipush (v := -2) hx hb dX9_heat_20 (by decide) ?_
    exact m_iret hx hb hr hlk hS (⟨rfl, rfl⟩) (Nat.le_refl 0) (Nat.le_refl 0) dX9_heat_22
theorem ov2 {o : Nat} (h : o < 3) : inB (nI o) 0 2 = 1 := inB_yes (nI_pos (by omega)) (nI_nlt (a := 2) (b := o) (by omega) (by omega))
theorem ov2_no {o : Int32} (h : o < 0 ∨ nI 3 ≤ o) : inB o 0 2 = 0 := by
  rcases h with h | h
  · exact inB_no (Or.inl h)
  · refine inB_no (Or.inr ?_)
    have e1 : (nI 3).toInt = 3 := by decide
    have e2 : (2 : Int32).toInt = 2 := by decide
    rw [Int32.lt_iff_toInt_lt, e2]
    rw [Int32.le_iff_toInt_le, e1] at h
    omega
set_option maxHeartbeats 4000000 in
set_option maxRecDepth 100000 in
theorem M_heat (l : Launch) (X : Cx) (B : Nat → Nat) (n : Nat) (wm dy tl : Int32) (g : Nat → Rc) (hs : Nat → Int32) (rest : va_W) (t : Tr) (o : Nat) (h : Int32) (f : Nat) (hf : 1 ≤ f) (ho : o < 3) (h0 : ¬ inB h 0 400 = 0) : cI l yX9_heat cX9_heat 4 (some .int) (rl f) X [.ref (B 0), .int (nI o), .int h] (wM X B n wm dy tl g hs rest false t) (fun v w' => v = hs o ∧ w' = wM X B n wm dy tl g (upd hs o h) rest false t) := by
  refine met_start (by decide) (Nat.le_of_ble_eq_true rfl) ?_
  intro p e s m below meth c ls fx hS hl
  obtain ⟨hx, hb, hr, hml, hown, hG, hlk, hF, hz, hnm⟩ := fx
  have hown : s.vm.findClass RX9 = some m.cls := hown
  have hl : lv_has ls 4 [(0, .ref (B 0)), (1, .int (nI o)), (2, .int h)] := hl
  refine lv_iload_n hx hb dX9_heat_0 rfl (lv_at hl 1 rfl) ?_
  refine lv_iconst (v := 0) hx hb dX9_heat_1 (by decide) ?_
  refine lv_iconst (v := 2) hx hb dX9_heat_2 (by decide) ?_
  refine m_ci (m_runS (n := 3) (rest := []) ⟨hx, hb, hml, hown, hG⟩ (c_in l X _ (nI o) 0 2 0) kw_521 kw_522 kw_20 kw_523 (by decide +kernel) (rl_ok (by omega) (by decide)) hF hz hS rfl hl.1 rfl (Nat.le_of_ble_eq_true rfl) dX9_heat_3 ⟨Nat.zero_le _, Nat.zero_le _⟩) hS (fun r_1 w1 H locs hw1 hS => ?_)
  obtain ⟨rfl, rfl⟩ := hw1
  refine lv_if_eq (tgt := 20) hx hb dX9_heat_6 (by decide) (fun c_2 => absurd c_2 (by rw [ov2 ho]; decide)) (fun c_2 => ?_)
  refine lv_iload_n hx hb dX9_heat_9 rfl (lv_at hl 2 rfl) ?_
  refine lv_iconst (v := 0) hx hb dX9_heat_10 (by decide) ?_
  refine lv_sipush (v := 400) hx hb dX9_heat_11 (by decide) ?_
  refine m_ci (m_runS (n := 3) (rest := []) ⟨hx, hb, hml, hown, hG⟩ (c_in l X _ h 0 400 0) kw_521 kw_522 kw_20 kw_523 (by decide +kernel) (rl_ok (by omega) (by decide)) hF hz hS rfl hl.1 rfl (Nat.le_of_ble_eq_true rfl) dX9_heat_14 ⟨Nat.zero_le _, Nat.zero_le _⟩) hS (fun r_3 w2 H locs hw2 hS => ?_)
  obtain ⟨rfl, rfl⟩ := hw2
  refine lv_if_ne (tgt := 23) hx hb dX9_heat_17 (by decide) (fun c_4 => ?_) (fun c_4 => absurd c_4 (h0))
  refine lv_aload_n hx hb dX9_heat_23 rfl (lv_at hl 0 rfl) ?_
  refine m_get (v := .ref (B 8)) hx hb hG hown hF hS (0) rfl rfl iG_9 9 (by decide) kw_480 (fun _ h9 => h9) rfl dX9_heat_24 ?_
  refine lv_iload_n hx hb dX9_heat_27 rfl (lv_at hl 1 rfl) ?_
  refine m_iald hx hb hF hS (8) rfl (o) rfl (ho) (by decide) dX9_heat_28 ?_
  refine lv_istore_n (lv' := [(3, .int (hs o)), (0, .ref (B 0)), (1, .int (nI o)), (2, .int h)]) hx hb dX9_heat_29 rfl hl (by decide) rfl (fun ls hl => ?_)
  refine lv_aload_n hx hb dX9_heat_30 rfl (lv_at hl 1 rfl) ?_
  refine m_get (v := .ref (B 8)) hx hb hG hown hF hS (0) rfl rfl iG_9 9 (by decide) kw_480 (fun _ h9 => h9) rfl dX9_heat_31 ?_
  refine lv_iload_n hx hb dX9_heat_34 rfl (lv_at hl 2 rfl) ?_
  refine lv_iload_n hx hb dX9_heat_35 rfl (lv_at hl 3 rfl) ?_
  refine m_iast hx hb hF hS (8) rfl (o) rfl (ho) (by decide) (wM X B n wm dy tl g (upd hs o h) rest false t) rfl dX9_heat_36 (fun H locs hS => ?_)
  refine lv_iload_n hx hb dX9_heat_37 rfl (lv_at hl 0 rfl) ?_
  exact m_iret hx hb hr hlk hS (⟨rfl, rfl⟩) (Nat.le_refl 0) (Nat.le_refl 0) dX9_heat_38
set_option maxHeartbeats 4000000 in
set_option maxRecDepth 100000 in
theorem Mm_loop {p : Program} {l : Launch} {e : Env} {R : Room} {s : State} {m : MethodId} {args : Array Value} {below : List Frame} {meth : Method} {c : Code} {X : Cx} {B : Nat → Nat} {n : Nat} {wm dy tl : Int32} {g : Nat → Rc} {hs : Nat → Int32} {rest : va_W} {t : Tr} {H : Heap} {locs : List Loc} {o : Int32} {P : Int32 → va_W → Prop} (hn : n ≤ 40) (hx : p.tables.exec = Jvm.exec) (hb : c.code = cX9_massIn) (hr : meth.sig.returnType = some .int) (hml : c.maxLocals = 4) (hown : s.vm.findClass RX9 = some m.cls) (hG : ∀ w ∈ G, w.before args s = true) (hlk : meth.locks = false) (hF : mF X s) (hz : X.2.2.2 ≤ s.heap.size) (hS : mS X s (wM X B n wm dy tl g hs rest false t) H locs) (hP : P (masm g o n) (wM X B n wm dy tl g hs rest false t)) : ∀ (d j : Nat) (x3 x2 : Int32) (ls : Array Slot), x3 = nI j → j + d = n → x2 = masm g o j → lv_has ls 4 [(3, .int x3), (2, .int x2), (0, .ref (B 0)), (1, .int o)] → W p l e R s m args below meth c H locs 0 0 (MQ below (va_Qi P (fun w t => mH X w t.heap) (xA X)) args s 0 0 (xA X)) (F0 m 4 ls []) := by
  intro d
  induction d with
  | zero =>
    intro j x3 x2 ls ex hd e2 hl
    have hj : n = j := by omega
    subst hj
    refine lv_iload_n hx hb dX9_massIn_4 rfl (lv_at hl 0 rfl) ?_
    refine lv_aload_n hx hb dX9_massIn_5 rfl (lv_at hl 2 rfl) ?_
    refine m_get (v := .int (nI n)) hx hb hG hown hF hS (0) rfl rfl iG_9 0 (by decide) kw_471 (fun _ h9 => h9) rfl dX9_massIn_6 ?_
    refine lv_icmp_ge (tgt := 51) hx hb dX9_massIn_9 (by decide) (fun c_1 => ?_) (fun c_1 => absurd (by rw [ex]; exact Int32.le_refl _) c_1)
    refine lv_iload_n hx hb dX9_massIn_51 rfl (lv_at hl 1 rfl) ?_
    exact m_iret hx hb hr hlk hS (by rw [e2]; exact hP) (Nat.le_refl 0) (Nat.le_refl 0) dX9_massIn_52
  | succ d ih =>
    intro j x3 x2 ls ex hd e2 hl
    subst ex
    refine lv_iload_n hx hb dX9_massIn_4 rfl (lv_at hl 0 rfl) ?_
    refine lv_aload_n hx hb dX9_massIn_5 rfl (lv_at hl 2 rfl) ?_
    refine m_get (v := .int (nI n)) hx hb hG hown hF hS (0) rfl rfl iG_9 0 (by decide) kw_471 (fun _ h9 => h9) rfl dX9_massIn_6 ?_
    refine lv_icmp_ge (tgt := 51) hx hb dX9_massIn_9 (by decide) (fun c_52 => absurd c_52 (nI_ge (by omega) (by omega))) (fun c_52 => ?_)
    refine lv_iload_n hx hb dX9_massIn_12 rfl (lv_at hl 1 rfl) ?_
    refine lv_aload_n hx hb dX9_massIn_13 rfl (lv_at hl 2 rfl) ?_
    refine m_get (v := .ref (B 3)) hx hb hG hown hF hS (0) rfl rfl iG_9 3 (by decide) kw_474 (fun _ h9 => h9) rfl dX9_massIn_14 ?_
    refine lv_iload_n hx hb dX9_massIn_17 rfl (lv_at hl 0 rfl) ?_
    refine m_ialdv (v := g j 3) hx hb hF hS (3) rfl (j) rfl (by omega) (by decide) rfl dX9_massIn_18 ?_
    refine lv_iconst (v := 1) hx hb dX9_massIn_19 (by decide) ?_
    refine lv_icmp_ne (tgt := 42) hx hb dX9_massIn_20 (by decide) (fun c_53 => ?_) (fun c_53 => ?_)
    · refine lv_iconst (v := 0) hx hb dX9_massIn_42 (by decide) ?_
      refine lv_iadd hx hb dX9_massIn_43 ?_
      refine lv_topi (fun x_54 ex_54 => ?_)
      refine lv_istore_n (lv' := [(2, .int x_54), (3, .int (nI j)), (0, .ref (B 0)), (1, .int o)]) hx hb dX9_massIn_44 rfl hl (by decide) rfl (fun ls hl => ?_)
      obtain ⟨x_55, ex_55⟩ : ∃ y : Int32, y = (nI j) + 1 := ⟨_, rfl⟩
      refine lv_iinc (v := x_55) (lv' := [(3, .int x_55), (2, .int x_54), (0, .ref (B 0)), (1, .int o)]) hx hb dX9_massIn_45 hl (k := 1) rfl (by rw [ex_55]; rfl) (by decide) rfl (fun ls hl => ?_)
      refine lv_goto (tgt := 4) hx hb dX9_massIn_48 (by decide) ?_
      exact ih (j + 1) x_55 x_54 ls (by rw [ex_55]; exact nI_1 j) (by omega) (by rw [ex_54, masm, if_neg c_53, e2]; exact Int32.add_zero _) (lv_sub hl [0, 1, 2, 3] rfl)
    · refine lv_aload_n hx hb dX9_massIn_23 rfl (lv_at hl 2 rfl) ?_
      refine m_get (v := .ref (B 6)) hx hb hG hown hF hS (0) rfl rfl iG_9 6 (by decide) kw_477 (fun _ h9 => h9) rfl dX9_massIn_24 ?_
      refine lv_iload_n hx hb dX9_massIn_27 rfl (lv_at hl 0 rfl) ?_
      refine m_ialdv (v := g j 6) hx hb hF hS (6) rfl (j) rfl (by omega) (by decide) rfl dX9_massIn_28 ?_
      refine lv_iload_n hx hb dX9_massIn_29 rfl (lv_at hl 3 rfl) ?_
      refine lv_icmp_ne (tgt := 42) hx hb dX9_massIn_30 (by decide) (fun c_54 => ?_) (fun c_54 => ?_)
      · refine lv_iconst (v := 0) hx hb dX9_massIn_42 (by decide) ?_
        refine lv_iadd hx hb dX9_massIn_43 ?_
        refine lv_topi (fun x_55 ex_55 => ?_)
        refine lv_istore_n (lv' := [(2, .int x_55), (3, .int (nI j)), (0, .ref (B 0)), (1, .int o)]) hx hb dX9_massIn_44 rfl hl (by decide) rfl (fun ls hl => ?_)
        obtain ⟨x_56, ex_56⟩ : ∃ y : Int32, y = (nI j) + 1 := ⟨_, rfl⟩
        refine lv_iinc (v := x_56) (lv' := [(3, .int x_56), (2, .int x_55), (0, .ref (B 0)), (1, .int o)]) hx hb dX9_massIn_45 hl (k := 1) rfl (by rw [ex_56]; rfl) (by decide) rfl (fun ls hl => ?_)
        refine lv_goto (tgt := 4) hx hb dX9_massIn_48 (by decide) ?_
        exact ih (j + 1) x_56 x_55 ls (by rw [ex_56]; exact nI_1 j) (by omega) (by rw [ex_55, masm, if_pos c_53, if_neg c_54, e2]; exact Int32.add_zero _) (lv_sub hl [0, 1, 2, 3] rfl)
      · refine lv_aload_n hx hb dX9_massIn_33 rfl (lv_at hl 2 rfl) ?_
        refine m_get (v := .ref (B 2)) hx hb hG hown hF hS (0) rfl rfl iG_9 2 (by decide) kw_473 (fun _ h9 => h9) rfl dX9_massIn_34 ?_
        refine lv_iload_n hx hb dX9_massIn_37 rfl (lv_at hl 0 rfl) ?_
        refine m_ialdv (v := g j 1) hx hb hF hS (2) rfl (j) rfl (by omega) (by decide) rfl dX9_massIn_38 ?_
        refine lv_goto (tgt := 43) hx hb dX9_massIn_39 (by decide) ?_
        refine lv_iadd hx hb dX9_massIn_43 ?_
        refine lv_topi (fun x_55 ex_55 => ?_)
        refine lv_istore_n (lv' := [(2, .int x_55), (3, .int (nI j)), (0, .ref (B 0)), (1, .int o)]) hx hb dX9_massIn_44 rfl hl (by decide) rfl (fun ls hl => ?_)
        obtain ⟨x_56, ex_56⟩ : ∃ y : Int32, y = (nI j) + 1 := ⟨_, rfl⟩
        refine lv_iinc (v := x_56) (lv' := [(3, .int x_56), (2, .int x_55), (0, .ref (B 0)), (1, .int o)]) hx hb dX9_massIn_45 hl (k := 1) rfl (by rw [ex_56]; rfl) (by decide) rfl (fun ls hl => ?_)
        refine lv_goto (tgt := 4) hx hb dX9_massIn_48 (by decide) ?_
        exact ih (j + 1) x_56 x_55 ls (by rw [ex_56]; exact nI_1 j) (by omega) (by rw [ex_55, masm, if_pos c_53, if_pos c_54, e2]) (lv_sub hl [0, 1, 2, 3] rfl)
set_option maxHeartbeats 4000000 in
set_option maxRecDepth 100000 in
theorem M_massIn (l : Launch) (X : Cx) (B : Nat → Nat) (n : Nat) (wm dy tl : Int32) (g : Nat → Rc) (hs : Nat → Int32) (rest : va_W) (t : Tr) (o : Int32) (f : Nat) (hn : n ≤ 40) : cI l yX9_massIn cX9_massIn 4 (some .int) (rl f) X [.ref (B 0), .int o] (wM X B n wm dy tl g hs rest false t) (fun v w => v = masm g o n ∧ w = wM X B n wm dy tl g hs rest false t) := by
  refine met_start (by decide) (Nat.le_of_ble_eq_true rfl) ?_
  intro p e s m below meth c ls fx hS hl
  obtain ⟨hx, hb, hr, hml, hown, hG, hlk, hF, hz, hnm⟩ := fx
  have hown : s.vm.findClass RX9 = some m.cls := hown
  have hl : lv_has ls 4 [(0, .ref (B 0)), (1, .int o)] := hl
  refine lv_iconst (v := 0) hx hb dX9_massIn_0 (by decide) ?_
  refine lv_istore_n (lv' := [(2, .int 0), (0, .ref (B 0)), (1, .int o)]) hx hb dX9_massIn_1 rfl hl (by decide) rfl (fun ls hl => ?_)
  refine lv_iconst (v := 0) hx hb dX9_massIn_2 (by decide) ?_
  refine lv_istore_n (lv' := [(3, .int 0), (2, .int 0), (0, .ref (B 0)), (1, .int o)]) hx hb dX9_massIn_3 rfl hl (by decide) rfl (fun ls hl => ?_)
  exact Mm_loop hn hx hb hr hml hown hG hlk hF hz hS ⟨rfl, rfl⟩ n 0 0 0 ls nI_0.symm (by omega) rfl (lv_sub hl [0, 1, 2, 3] rfl)
set_option maxHeartbeats 4000000 in
set_option maxRecDepth 100000 in
theorem Mc_loop {p : Program} {l : Launch} {e : Env} {R : Room} {s : State} {m : MethodId} {args : Array Value} {below : List Frame} {meth : Method} {c : Code} {X : Cx} {B : Nat → Nat} {n : Nat} {wm dy tl : Int32} {g : Nat → Rc} {hs : Nat → Int32} {rest : va_W} {t : Tr} {H : Heap} {locs : List Loc} {k : Nat} {P : Int32 → va_W → Prop} (hk : k < 8) (hn : n ≤ 40) (hx : p.tables.exec = Jvm.exec) (hb : c.code = cX9_count) (hr : meth.sig.returnType = some .int) (hml : c.maxLocals = 4) (hown : s.vm.findClass RX9 = some m.cls) (hG : ∀ w ∈ G, w.before args s = true) (hlk : meth.locks = false) (hF : mF X s) (hz : X.2.2.2 ≤ s.heap.size) (hS : mS X s (wM X B n wm dy tl g hs rest false t) H locs) (hP : P (countV n g dy tl k) (wM X B n wm dy tl g hs rest false t)) : ∀ (d j : Nat) (x3 x2 : Int32) (ls : Array Slot), x3 = nI j → j + d = n → x2 = cnt g (nI k - 1) j → lv_has ls 4 [(3, .int x3), (2, .int x2), (0, .ref (B 0)), (1, .int (nI k))] → W p l e R s m args below meth c H locs 0 0 (MQ below (va_Qi P (fun w t => mH X w t.heap) (xA X)) args s 0 0 (xA X)) (F0 m 17 ls []) := by
  intro d
  induction d with
  | zero =>
    intro j x3 x2 ls ex hd e2 hl
    have hj : n = j := by omega
    subst hj
    refine lv_iload_n hx hb dX9_count_17 rfl (lv_at hl 0 rfl) ?_
    refine lv_aload_n hx hb dX9_count_18 rfl (lv_at hl 2 rfl) ?_
    refine m_get (v := .int (nI n)) hx hb hG hown hF hS (0) rfl rfl iG_9 0 (by decide) kw_471 (fun _ h9 => h9) rfl dX9_count_19 ?_
    refine lv_icmp_ge (tgt := 51) hx hb dX9_count_22 (by decide) (fun c_1 => ?_) (fun c_1 => absurd (by rw [ex]; exact Int32.le_refl _) c_1)
    subst e2
    match k, hk with
    | 0, _ =>
      refine lv_iload_n hx hb dX9_count_51 rfl (lv_at hl 3 rfl) ?_
      refine lv_if_ne (tgt := 62) hx hb dX9_count_52 (by decide) (fun c_2 => absurd (by decide) c_2) (fun c_2 => ?_)
      refine lv_aload_n hx hb dX9_count_55 rfl (lv_at hl 2 rfl) ?_
      refine m_get (v := .int (nI n)) hx hb hG hown hF hS (0) rfl rfl iG_9 0 (by decide) kw_471 (fun _ h9 => h9) rfl dX9_count_56 ?_
      refine lv_goto (tgt := 89) hx hb dX9_count_59 (by decide) ?_
      exact m_iret hx hb hr hlk hS (hP) (Nat.le_refl 0) (Nat.le_refl 0) dX9_count_89
    | 1, _ =>
      refine lv_iload_n hx hb dX9_count_51 rfl (lv_at hl 3 rfl) ?_
      refine lv_if_ne (tgt := 62) hx hb dX9_count_52 (by decide) (fun c_12 => ?_) (fun c_12 => absurd c_12 (by decide))
      refine lv_iload_n hx hb dX9_count_62 rfl (lv_at hl 3 rfl) ?_
      refine lv_bipush (v := 6) hx hb dX9_count_63 (by decide) ?_
      refine lv_icmp_ne (tgt := 75) hx hb dX9_count_65 (by decide) (fun c_13 => ?_) (fun c_13 => absurd c_13 (by decide))
      refine lv_iload_n hx hb dX9_count_75 rfl (lv_at hl 3 rfl) ?_
      refine lv_bipush (v := 7) hx hb dX9_count_76 (by decide) ?_
      refine lv_icmp_ne (tgt := 88) hx hb dX9_count_78 (by decide) (fun c_14 => ?_) (fun c_14 => absurd c_14 (by decide))
      refine lv_iload_n hx hb dX9_count_88 rfl (lv_at hl 1 rfl) ?_
      exact m_iret hx hb hr hlk hS (hP) (Nat.le_refl 0) (Nat.le_refl 0) dX9_count_89
    | 2, _ =>
      refine lv_iload_n hx hb dX9_count_51 rfl (lv_at hl 3 rfl) ?_
      refine lv_if_ne (tgt := 62) hx hb dX9_count_52 (by decide) (fun c_22 => ?_) (fun c_22 => absurd c_22 (by decide))
      refine lv_iload_n hx hb dX9_count_62 rfl (lv_at hl 3 rfl) ?_
      refine lv_bipush (v := 6) hx hb dX9_count_63 (by decide) ?_
      refine lv_icmp_ne (tgt := 75) hx hb dX9_count_65 (by decide) (fun c_23 => ?_) (fun c_23 => absurd c_23 (by decide))
      refine lv_iload_n hx hb dX9_count_75 rfl (lv_at hl 3 rfl) ?_
      refine lv_bipush (v := 7) hx hb dX9_count_76 (by decide) ?_
      refine lv_icmp_ne (tgt := 88) hx hb dX9_count_78 (by decide) (fun c_24 => ?_) (fun c_24 => absurd c_24 (by decide))
      refine lv_iload_n hx hb dX9_count_88 rfl (lv_at hl 1 rfl) ?_
      exact m_iret hx hb hr hlk hS (hP) (Nat.le_refl 0) (Nat.le_refl 0) dX9_count_89
    | 3, _ =>
      refine lv_iload_n hx hb dX9_count_51 rfl (lv_at hl 3 rfl) ?_
      refine lv_if_ne (tgt := 62) hx hb dX9_count_52 (by decide) (fun c_32 => ?_) (fun c_32 => absurd c_32 (by decide))
      refine lv_iload_n hx hb dX9_count_62 rfl (lv_at hl 3 rfl) ?_
      refine lv_bipush (v := 6) hx hb dX9_count_63 (by decide) ?_
      refine lv_icmp_ne (tgt := 75) hx hb dX9_count_65 (by decide) (fun c_33 => ?_) (fun c_33 => absurd c_33 (by decide))
      refine lv_iload_n hx hb dX9_count_75 rfl (lv_at hl 3 rfl) ?_
      refine lv_bipush (v := 7) hx hb dX9_count_76 (by decide) ?_
      refine lv_icmp_ne (tgt := 88) hx hb dX9_count_78 (by decide) (fun c_34 => ?_) (fun c_34 => absurd c_34 (by decide))
      refine lv_iload_n hx hb dX9_count_88 rfl (lv_at hl 1 rfl) ?_
      exact m_iret hx hb hr hlk hS (hP) (Nat.le_refl 0) (Nat.le_refl 0) dX9_count_89
    | 4, _ =>
      refine lv_iload_n hx hb dX9_count_51 rfl (lv_at hl 3 rfl) ?_
      refine lv_if_ne (tgt := 62) hx hb dX9_count_52 (by decide) (fun c_42 => ?_) (fun c_42 => absurd c_42 (by decide))
      refine lv_iload_n hx hb dX9_count_62 rfl (lv_at hl 3 rfl) ?_
      refine lv_bipush (v := 6) hx hb dX9_count_63 (by decide) ?_
      refine lv_icmp_ne (tgt := 75) hx hb dX9_count_65 (by decide) (fun c_43 => ?_) (fun c_43 => absurd c_43 (by decide))
      refine lv_iload_n hx hb dX9_count_75 rfl (lv_at hl 3 rfl) ?_
      refine lv_bipush (v := 7) hx hb dX9_count_76 (by decide) ?_
      refine lv_icmp_ne (tgt := 88) hx hb dX9_count_78 (by decide) (fun c_44 => ?_) (fun c_44 => absurd c_44 (by decide))
      refine lv_iload_n hx hb dX9_count_88 rfl (lv_at hl 1 rfl) ?_
      exact m_iret hx hb hr hlk hS (hP) (Nat.le_refl 0) (Nat.le_refl 0) dX9_count_89
    | 5, _ =>
      refine lv_iload_n hx hb dX9_count_51 rfl (lv_at hl 3 rfl) ?_
      refine lv_if_ne (tgt := 62) hx hb dX9_count_52 (by decide) (fun c_52 => ?_) (fun c_52 => absurd c_52 (by decide))
      refine lv_iload_n hx hb dX9_count_62 rfl (lv_at hl 3 rfl) ?_
      refine lv_bipush (v := 6) hx hb dX9_count_63 (by decide) ?_
      refine lv_icmp_ne (tgt := 75) hx hb dX9_count_65 (by decide) (fun c_53 => ?_) (fun c_53 => absurd c_53 (by decide))
      refine lv_iload_n hx hb dX9_count_75 rfl (lv_at hl 3 rfl) ?_
      refine lv_bipush (v := 7) hx hb dX9_count_76 (by decide) ?_
      refine lv_icmp_ne (tgt := 88) hx hb dX9_count_78 (by decide) (fun c_54 => ?_) (fun c_54 => absurd c_54 (by decide))
      refine lv_iload_n hx hb dX9_count_88 rfl (lv_at hl 1 rfl) ?_
      exact m_iret hx hb hr hlk hS (hP) (Nat.le_refl 0) (Nat.le_refl 0) dX9_count_89
    | 6, _ =>
      refine lv_iload_n hx hb dX9_count_51 rfl (lv_at hl 3 rfl) ?_
      refine lv_if_ne (tgt := 62) hx hb dX9_count_52 (by decide) (fun c_62 => ?_) (fun c_62 => absurd c_62 (by decide))
      refine lv_iload_n hx hb dX9_count_62 rfl (lv_at hl 3 rfl) ?_
      refine lv_bipush (v := 6) hx hb dX9_count_63 (by decide) ?_
      refine lv_icmp_ne (tgt := 75) hx hb dX9_count_65 (by decide) (fun c_63 => absurd (by decide) c_63) (fun c_63 => ?_)
      refine lv_aload_n hx hb dX9_count_68 rfl (lv_at hl 2 rfl) ?_
      refine m_get (v := .int dy) hx hb hG hown hF hS (0) rfl rfl iG_9 10 (by decide) kw_481 (fun _ h9 => h9) rfl dX9_count_69 ?_
      refine lv_goto (tgt := 89) hx hb dX9_count_72 (by decide) ?_
      exact m_iret hx hb hr hlk hS (hP) (Nat.le_refl 0) (Nat.le_refl 0) dX9_count_89
    | 7, _ =>
      refine lv_iload_n hx hb dX9_count_51 rfl (lv_at hl 3 rfl) ?_
      refine lv_if_ne (tgt := 62) hx hb dX9_count_52 (by decide) (fun c_72 => ?_) (fun c_72 => absurd c_72 (by decide))
      refine lv_iload_n hx hb dX9_count_62 rfl (lv_at hl 3 rfl) ?_
      refine lv_bipush (v := 6) hx hb dX9_count_63 (by decide) ?_
      refine lv_icmp_ne (tgt := 75) hx hb dX9_count_65 (by decide) (fun c_73 => ?_) (fun c_73 => absurd c_73 (by decide))
      refine lv_iload_n hx hb dX9_count_75 rfl (lv_at hl 3 rfl) ?_
      refine lv_bipush (v := 7) hx hb dX9_count_76 (by decide) ?_
      refine lv_icmp_ne (tgt := 88) hx hb dX9_count_78 (by decide) (fun c_74 => absurd (by decide) c_74) (fun c_74 => ?_)
      refine lv_aload_n hx hb dX9_count_81 rfl (lv_at hl 2 rfl) ?_
      refine m_get (v := .int tl) hx hb hG hown hF hS (0) rfl rfl iG_9 11 (by decide) kw_482 (fun _ h9 => h9) rfl dX9_count_82 ?_
      refine lv_goto (tgt := 89) hx hb dX9_count_85 (by decide) ?_
      exact m_iret hx hb hr hlk hS (hP) (Nat.le_refl 0) (Nat.le_refl 0) dX9_count_89
  | succ d ih =>
    intro j x3 x2 ls ex hd e2 hl
    subst ex
    refine lv_iload_n hx hb dX9_count_17 rfl (lv_at hl 0 rfl) ?_
    refine lv_aload_n hx hb dX9_count_18 rfl (lv_at hl 2 rfl) ?_
    refine m_get (v := .int (nI n)) hx hb hG hown hF hS (0) rfl rfl iG_9 0 (by decide) kw_471 (fun _ h9 => h9) rfl dX9_count_19 ?_
    refine lv_icmp_ge (tgt := 51) hx hb dX9_count_22 (by decide) (fun c_52 => absurd c_52 (nI_ge (by omega) (by omega))) (fun c_52 => ?_)
    refine lv_iload_n hx hb dX9_count_25 rfl (lv_at hl 1 rfl) ?_
    refine lv_aload_n hx hb dX9_count_26 rfl (lv_at hl 2 rfl) ?_
    refine m_get (v := .ref (B 3)) hx hb hG hown hF hS (0) rfl rfl iG_9 3 (by decide) kw_474 (fun _ h9 => h9) rfl dX9_count_27 ?_
    refine lv_iload_n hx hb dX9_count_30 rfl (lv_at hl 0 rfl) ?_
    refine m_ialdv (v := g j 3) hx hb hF hS (3) rfl (j) rfl (by omega) (by decide) rfl dX9_count_31 ?_
    refine lv_iload_n hx hb dX9_count_32 rfl (lv_at hl 3 rfl) ?_
    refine lv_iconst (v := 1) hx hb dX9_count_33 (by decide) ?_
    refine lv_isub hx hb dX9_count_34 ?_
    refine lv_icmp_ne (tgt := 42) hx hb dX9_count_35 (by decide) (fun c_53 => ?_) (fun c_53 => ?_)
    · refine lv_iconst (v := 0) hx hb dX9_count_42 (by decide) ?_
      refine lv_iadd hx hb dX9_count_43 ?_
      refine lv_topi (fun x_54 ex_54 => ?_)
      refine lv_istore_n (lv' := [(2, .int x_54), (3, .int (nI j)), (0, .ref (B 0)), (1, .int (nI k))]) hx hb dX9_count_44 rfl hl (by decide) rfl (fun ls hl => ?_)
      obtain ⟨x_55, ex_55⟩ : ∃ y : Int32, y = (nI j) + 1 := ⟨_, rfl⟩
      refine lv_iinc (v := x_55) (lv' := [(3, .int x_55), (2, .int x_54), (0, .ref (B 0)), (1, .int (nI k))]) hx hb dX9_count_45 hl (k := 1) rfl (by rw [ex_55]; rfl) (by decide) rfl (fun ls hl => ?_)
      refine lv_goto (tgt := 17) hx hb dX9_count_48 (by decide) ?_
      exact ih (j + 1) x_55 x_54 ls (by rw [ex_55]; exact nI_1 j) (by omega) (by rw [ex_54, cnt, if_neg c_53, e2]; exact Int32.add_zero _) (lv_sub hl [0, 1, 2, 3] rfl)
    · refine lv_iconst (v := 1) hx hb dX9_count_38 (by decide) ?_
      refine lv_goto (tgt := 43) hx hb dX9_count_39 (by decide) ?_
      refine lv_iadd hx hb dX9_count_43 ?_
      refine lv_topi (fun x_54 ex_54 => ?_)
      refine lv_istore_n (lv' := [(2, .int x_54), (3, .int (nI j)), (0, .ref (B 0)), (1, .int (nI k))]) hx hb dX9_count_44 rfl hl (by decide) rfl (fun ls hl => ?_)
      obtain ⟨x_55, ex_55⟩ : ∃ y : Int32, y = (nI j) + 1 := ⟨_, rfl⟩
      refine lv_iinc (v := x_55) (lv' := [(3, .int x_55), (2, .int x_54), (0, .ref (B 0)), (1, .int (nI k))]) hx hb dX9_count_45 hl (k := 1) rfl (by rw [ex_55]; rfl) (by decide) rfl (fun ls hl => ?_)
      refine lv_goto (tgt := 17) hx hb dX9_count_48 (by decide) ?_
      exact ih (j + 1) x_55 x_54 ls (by rw [ex_55]; exact nI_1 j) (by omega) (by rw [ex_54, cnt, if_pos c_53, e2]) (lv_sub hl [0, 1, 2, 3] rfl)
theorem in7 {k : Nat} (h : k < 8) : inB (nI k) 0 7 = 1 := inB_yes (nI_pos (by omega)) (nI_nlt (a := 7) (b := k) (by omega) (by omega))
theorem in7_no {k : Int32} (h : k.toInt < 0 ∨ 7 < k.toInt) : inB k 0 7 = 0 := by
  rcases h with h | h
  · exact inB_no (Or.inl (by rw [Int32.lt_iff_toInt_lt, Int32.toInt_zero]; exact h))
  · exact inB_no (Or.inr (by rw [Int32.lt_iff_toInt_lt, show (7 : Int32).toInt = 7 from by decide]; exact h))
set_option maxHeartbeats 4000000 in
set_option maxRecDepth 100000 in
theorem M_count (l : Launch) (X : Cx) (B : Nat → Nat) (n : Nat) (wm dy tl : Int32) (g : Nat → Rc) (hs : Nat → Int32) (rest : va_W) (t : Tr) (k f : Nat) (hk : k < 8) (hf : 1 ≤ f) (hn : n ≤ 40) : cI l yX9_count cX9_count 4 (some .int) (rl f) X [.ref (B 0), .int (nI k)] (wM X B n wm dy tl g hs rest false t) (fun v w => v = countV n g dy tl k ∧ w = wM X B n wm dy tl g hs rest false t) := by
  refine met_start (by decide) (Nat.le_of_ble_eq_true rfl) ?_
  intro p e s m below meth c ls fx hS hl
  obtain ⟨hx, hb, hr, hml, hown, hG, hlk, hF, hz, hnm⟩ := fx
  have hown : s.vm.findClass RX9 = some m.cls := hown
  have hl : lv_has ls 4 [(0, .ref (B 0)), (1, .int (nI k))] := hl
  refine lv_iload_n hx hb dX9_count_0 rfl (lv_at hl 1 rfl) ?_
  refine lv_iconst (v := 0) hx hb dX9_count_1 (by decide) ?_
  refine lv_bipush (v := 7) hx hb dX9_count_2 (by decide) ?_
  refine m_ci (m_runS (n := 3) (rest := []) ⟨hx, hb, hml, hown, hG⟩ (c_in l X _ (nI k) 0 7 0) kw_521 kw_522 kw_20 kw_523 (by decide +kernel) (rl_ok (by omega) (by decide)) hF hz hS rfl hl.1 rfl (Nat.le_of_ble_eq_true rfl) dX9_count_4 ⟨Nat.zero_le _, Nat.zero_le _⟩) hS (fun r_1 w1 H locs hw1 hS => ?_)
  obtain ⟨rfl, rfl⟩ := hw1
  refine lv_if_ne (tgt := 13) hx hb dX9_count_7 (by decide) (fun c_2 => ?_) (fun c_2 => absurd c_2 (by rw [in7 hk]; decide))
  refine lv_iconst (v := 0) hx hb dX9_count_13 (by decide) ?_
  refine lv_istore_n (lv' := [(2, .int 0), (0, .ref (B 0)), (1, .int (nI k))]) hx hb dX9_count_14 rfl hl (by decide) rfl (fun ls hl => ?_)
  refine lv_iconst (v := 0) hx hb dX9_count_15 (by decide) ?_
  refine lv_istore_n (lv' := [(3, .int 0), (2, .int 0), (0, .ref (B 0)), (1, .int (nI k))]) hx hb dX9_count_16 rfl hl (by decide) rfl (fun ls hl => ?_)
  exact Mc_loop hk hn hx hb hr hml hown hG hlk hF hz hS ⟨rfl, rfl⟩ n 0 0 0 ls nI_0.symm (by omega) rfl (lv_sub hl [0, 1, 2, 3] rfl)
set_option maxHeartbeats 4000000 in
set_option maxRecDepth 100000 in
theorem M_count_bad (l : Launch) (X : Cx) (B : Nat → Nat) (n : Nat) (wm dy tl : Int32) (g : Nat → Rc) (hs : Nat → Int32) (rest : va_W) (t : Tr) (k : Int32) (f : Nat) (hf : 1 ≤ f) (h0 : k.toInt < 0 ∨ 7 < k.toInt) : cI l yX9_count cX9_count 4 (some .int) (rl f) X [.ref (B 0), .int k] (wM X B n wm dy tl g hs rest false t) (fun v w => v = -2 ∧ w = wM X B n wm dy tl g hs rest false t) := by
  refine met_start (by decide) (Nat.le_of_ble_eq_true rfl) ?_
  intro p e s m below meth c ls fx hS hl
  obtain ⟨hx, hb, hr, hml, hown, hG, hlk, hF, hz, hnm⟩ := fx
  have hown : s.vm.findClass RX9 = some m.cls := hown
  have hl : lv_has ls 4 [(0, .ref (B 0)), (1, .int k)] := hl
  refine lv_iload_n hx hb dX9_count_0 rfl (lv_at hl 1 rfl) ?_
  refine lv_iconst (v := 0) hx hb dX9_count_1 (by decide) ?_
  refine lv_bipush (v := 7) hx hb dX9_count_2 (by decide) ?_
  refine m_ci (m_runS (n := 3) (rest := []) ⟨hx, hb, hml, hown, hG⟩ (c_in l X _ k 0 7 0) kw_521 kw_522 kw_20 kw_523 (by decide +kernel) (rl_ok (by omega) (by decide)) hF hz hS rfl hl.1 rfl (Nat.le_of_ble_eq_true rfl) dX9_count_4 ⟨Nat.zero_le _, Nat.zero_le _⟩) hS (fun r_1 w1 H locs hw1 hS => ?_)
  obtain ⟨rfl, rfl⟩ := hw1
  refine lv_if_ne (tgt := 13) hx hb dX9_count_7 (by decide) (fun c_2 => absurd (in7_no h0) c_2) (fun c_2 => ?_)
  refine lv_bipush (v := -2) hx hb dX9_count_10 (by decide) ?_
  exact m_iret hx hb hr hlk hS (⟨rfl, rfl⟩) (Nat.le_refl 0) (Nat.le_refl 0) dX9_count_12
set_option maxHeartbeats 4000000 in
set_option maxRecDepth 100000 in
theorem M_told_bad (l : Launch) (X : Cx) (B : Nat → Nat) (n : Nat) (wm dy tl : Int32) (g : Nat → Rc) (hs : Nat → Int32) (rest : va_W) (t : Tr) (j f : Nat) (hn : n ≤ 40) (hkd : ∀ i, i < n → kd (g i) < 7) (hk0 : ∀ i, i < n → g i 0 = nI (kd (g i))) (hj : j < n) (k : Int32) (hf : 2 ≤ f) (h0 : k.toInt < 0 ∨ 7 < k.toInt) : cI l yX9_told cX9_told 3 (some .int) (rl f) X [.ref (B 0), .int (nI j), .int k] (wM X B n wm dy tl g hs rest false t) (fun v w' => v = -2 ∧ w' = wM X B n wm dy tl g hs rest false t) := by
  refine met_start (by decide) (Nat.le_of_ble_eq_true rfl) ?_
  intro p e s m below meth c ls fx hS hl
  obtain ⟨hx, hb, hr, hml, hown, hG, hlk, hF, hz, hnm⟩ := fx
  have hown : s.vm.findClass RX9 = some m.cls := hown
  have hl : lv_has ls 3 [(0, .ref (B 0)), (1, .int (nI j)), (2, .int k)] := hl
  have hj4 : j < 40 := by omega
  refine lv_aload_n hx hb dX9_told_0 rfl (lv_at hl 0 rfl) ?_
  refine lv_iload_n hx hb dX9_told_1 rfl (lv_at hl 1 rfl) ?_
  refine m_ci (m_runV (n := 1) (rest := []) ⟨hx, hb, hml, hown, hG⟩ (M_isBatch l X B n wm dy tl g hs rest false t (nI j) 1 (by decide)) kw_528 kw_530 kw_6 kw_20 kw_531 (by decide +kernel) (rl_ok (by omega) (by decide)) hF hz hS (q0 := 0) rfl rfl rfl hl.1 rfl (Nat.le_of_ble_eq_true rfl) dX9_told_2 ⟨Nat.zero_le _, Nat.zero_le _⟩) hS (fun r_1 w1 H locs hw1 hS => ?_)
  obtain ⟨rfl, rfl⟩ := hw1
  refine lv_if_eq (tgt := 18) hx hb dX9_told_5 (by decide) (fun c_2 => absurd c_2 (by rw [isB_yes hj hn]; decide)) (fun c_2 => ?_)
  refine lv_iload_n hx hb dX9_told_8 rfl (lv_at hl 2 rfl) ?_
  refine lv_iconst (v := 0) hx hb dX9_told_9 (by decide) ?_
  refine lv_bipush (v := 7) hx hb dX9_told_10 (by decide) ?_
  refine m_ci (m_runS (n := 3) (rest := []) ⟨hx, hb, hml, hown, hG⟩ (c_in l X _ k 0 7 0) kw_521 kw_522 kw_20 kw_523 (by decide +kernel) (rl_ok (by omega) (by decide)) hF hz hS rfl hl.1 rfl (Nat.le_of_ble_eq_true rfl) dX9_told_12 ⟨Nat.zero_le _, Nat.zero_le _⟩) hS (fun r_3 w2 H locs hw2 hS => ?_)
  obtain ⟨rfl, rfl⟩ := hw2
  refine lv_if_ne (tgt := 21) hx hb dX9_told_15 (by decide) (fun c_4 => absurd (in7_no h0) c_4) (fun c_4 => ?_)
  refine lv_bipush (v := -2) hx hb dX9_told_18 (by decide) ?_
  exact m_iret hx hb hr hlk hS (⟨rfl, rfl⟩) (Nat.le_refl 0) (Nat.le_refl 0) dX9_told_20
set_option maxHeartbeats 4000000 in
set_option maxRecDepth 100000 in
theorem M_told (l : Launch) (X : Cx) (B : Nat → Nat) (n : Nat) (wm dy tl : Int32) (g : Nat → Rc) (hs : Nat → Int32) (rest : va_W) (t : Tr) (j f : Nat) (hn : n ≤ 40) (hkd : ∀ i, i < n → kd (g i) < 7) (hk0 : ∀ i, i < n → g i 0 = nI (kd (g i))) (hj : j < n) (k : Nat) (hk : k < 8) (hf : 2 ≤ f)  : cI l yX9_told cX9_told 3 (some .int) (rl f) X [.ref (B 0), .int (nI j), .int (nI k)] (wM X B n wm dy tl g hs rest false t) (fun v w' => v = toldV (g j) k ∧ w' = wM X B n wm dy tl g hs rest false t) := by
  refine met_start (by decide) (Nat.le_of_ble_eq_true rfl) ?_
  intro p e s m below meth c ls fx hS hl
  obtain ⟨hx, hb, hr, hml, hown, hG, hlk, hF, hz, hnm⟩ := fx
  have hown : s.vm.findClass RX9 = some m.cls := hown
  have hl : lv_has ls 3 [(0, .ref (B 0)), (1, .int (nI j)), (2, .int (nI k))] := hl
  have hj4 : j < 40 := by omega
  refine lv_aload_n hx hb dX9_told_0 rfl (lv_at hl 0 rfl) ?_
  refine lv_iload_n hx hb dX9_told_1 rfl (lv_at hl 1 rfl) ?_
  refine m_ci (m_runV (n := 1) (rest := []) ⟨hx, hb, hml, hown, hG⟩ (M_isBatch l X B n wm dy tl g hs rest false t (nI j) 1 (by decide)) kw_528 kw_530 kw_6 kw_20 kw_531 (by decide +kernel) (rl_ok (by omega) (by decide)) hF hz hS (q0 := 0) rfl rfl rfl hl.1 rfl (Nat.le_of_ble_eq_true rfl) dX9_told_2 ⟨Nat.zero_le _, Nat.zero_le _⟩) hS (fun r_1 w1 H locs hw1 hS => ?_)
  obtain ⟨rfl, rfl⟩ := hw1
  refine lv_if_eq (tgt := 18) hx hb dX9_told_5 (by decide) (fun c_2 => absurd c_2 (by rw [isB_yes hj hn]; decide)) (fun c_2 => ?_)
  refine lv_iload_n hx hb dX9_told_8 rfl (lv_at hl 2 rfl) ?_
  refine lv_iconst (v := 0) hx hb dX9_told_9 (by decide) ?_
  refine lv_bipush (v := 7) hx hb dX9_told_10 (by decide) ?_
  refine m_ci (m_runS (n := 3) (rest := []) ⟨hx, hb, hml, hown, hG⟩ (c_in l X _ (nI k) 0 7 0) kw_521 kw_522 kw_20 kw_523 (by decide +kernel) (rl_ok (by omega) (by decide)) hF hz hS rfl hl.1 rfl (Nat.le_of_ble_eq_true rfl) dX9_told_12 ⟨Nat.zero_le _, Nat.zero_le _⟩) hS (fun r_3 w2 H locs hw2 hS => ?_)
  obtain ⟨rfl, rfl⟩ := hw2
  refine lv_if_ne (tgt := 21) hx hb dX9_told_15 (by decide) (fun c_4 => ?_) (fun c_4 => absurd c_4 (by rw [in7 hk]; decide))
  refine lv_iload_n hx hb dX9_told_21 rfl (lv_at hl 2 rfl) ?_
  match k, hk with
  | 0, _ =>
    refine lv_tableIn (off := 42) (tgt := 64) hx hb dX9_told_22 (by decide) (by decide) (by decide) (by decide) ?_
    refine lv_aload_n hx hb dX9_told_64 rfl (lv_at hl 0 rfl) ?_
    refine m_get (v := .ref (B 1)) hx hb hG hown hF hS (0) rfl rfl iG_9 1 (by decide) kw_472 (fun _ h9 => h9) rfl dX9_told_65 ?_
    refine lv_iload_n hx hb dX9_told_68 rfl (lv_at hl 1 rfl) ?_
    refine m_ialdv (v := g j 0) hx hb hF hS (1) rfl (j) rfl (hj4) (by decide) rfl dX9_told_69 ?_
    exact m_iret hx hb hr hlk hS (⟨rfl, rfl⟩) (Nat.le_refl 0) (Nat.le_refl 0) dX9_told_70
  | 1, _ =>
    refine lv_tableIn (off := 49) (tgt := 71) hx hb dX9_told_22 (by decide) (by decide) (by decide) (by decide) ?_
    refine lv_aload_n hx hb dX9_told_71 rfl (lv_at hl 0 rfl) ?_
    refine m_get (v := .ref (B 3)) hx hb hG hown hF hS (0) rfl rfl iG_9 3 (by decide) kw_474 (fun _ h9 => h9) rfl dX9_told_72 ?_
    refine lv_iload_n hx hb dX9_told_75 rfl (lv_at hl 1 rfl) ?_
    refine m_ialdv (v := g j 3) hx hb hF hS (3) rfl (j) rfl (hj4) (by decide) rfl dX9_told_76 ?_
    exact m_iret hx hb hr hlk hS (⟨rfl, rfl⟩) (Nat.le_refl 0) (Nat.le_refl 0) dX9_told_77
  | 2, _ =>
    refine lv_tableIn (off := 56) (tgt := 78) hx hb dX9_told_22 (by decide) (by decide) (by decide) (by decide) ?_
    refine lv_aload_n hx hb dX9_told_78 rfl (lv_at hl 0 rfl) ?_
    refine m_get (v := .ref (B 4)) hx hb hG hown hF hS (0) rfl rfl iG_9 4 (by decide) kw_475 (fun _ h9 => h9) rfl dX9_told_79 ?_
    refine lv_iload_n hx hb dX9_told_82 rfl (lv_at hl 1 rfl) ?_
    refine m_ialdv (v := g j 4) hx hb hF hS (4) rfl (j) rfl (hj4) (by decide) rfl dX9_told_83 ?_
    exact m_iret hx hb hr hlk hS (⟨rfl, rfl⟩) (Nat.le_refl 0) (Nat.le_refl 0) dX9_told_84
  | 3, _ =>
    refine lv_tableIn (off := 63) (tgt := 85) hx hb dX9_told_22 (by decide) (by decide) (by decide) (by decide) ?_
    refine lv_aload_n hx hb dX9_told_85 rfl (lv_at hl 0 rfl) ?_
    refine m_get (v := .ref (B 5)) hx hb hG hown hF hS (0) rfl rfl iG_9 5 (by decide) kw_476 (fun _ h9 => h9) rfl dX9_told_86 ?_
    refine lv_iload_n hx hb dX9_told_89 rfl (lv_at hl 1 rfl) ?_
    refine m_ialdv (v := g j 5) hx hb hF hS (5) rfl (j) rfl (hj4) (by decide) rfl dX9_told_90 ?_
    exact m_iret hx hb hr hlk hS (⟨rfl, rfl⟩) (Nat.le_refl 0) (Nat.le_refl 0) dX9_told_91
  | 4, _ =>
    refine lv_tableIn (off := 70) (tgt := 92) hx hb dX9_told_22 (by decide) (by decide) (by decide) (by decide) ?_
    refine lv_aload_n hx hb dX9_told_92 rfl (lv_at hl 0 rfl) ?_
    refine m_get (v := .ref (B 3)) hx hb hG hown hF hS (0) rfl rfl iG_9 3 (by decide) kw_474 (fun _ h9 => h9) rfl dX9_told_93 ?_
    refine lv_iload_n hx hb dX9_told_96 rfl (lv_at hl 1 rfl) ?_
    refine m_ialdv (v := g j 3) hx hb hF hS (3) rfl (j) rfl (hj4) (by decide) rfl dX9_told_97 ?_
    refine lv_iconst (v := 1) hx hb dX9_told_98 (by decide) ?_
    refine lv_icmp_ne (tgt := 111) hx hb dX9_told_99 (by decide) (fun c_5 => ?_) (fun c_5 => ?_)
    · refine lv_iconst (v := -1) hx hb dX9_told_111 (by decide) ?_
      exact m_iret hx hb hr hlk hS (⟨by rw [toldV, if_neg c_5], rfl⟩) (Nat.le_refl 0) (Nat.le_refl 0) dX9_told_112
    · refine lv_aload_n hx hb dX9_told_102 rfl (lv_at hl 0 rfl) ?_
      refine m_get (v := .ref (B 6)) hx hb hG hown hF hS (0) rfl rfl iG_9 6 (by decide) kw_477 (fun _ h9 => h9) rfl dX9_told_103 ?_
      refine lv_iload_n hx hb dX9_told_106 rfl (lv_at hl 1 rfl) ?_
      refine m_ialdv (v := g j 6) hx hb hF hS (6) rfl (j) rfl (hj4) (by decide) rfl dX9_told_107 ?_
      refine lv_goto (tgt := 112) hx hb dX9_told_108 (by decide) ?_
      exact m_iret hx hb hr hlk hS (⟨by rw [toldV, if_pos c_5], rfl⟩) (Nat.le_refl 0) (Nat.le_refl 0) dX9_told_112
  | 5, _ =>
    refine lv_tableIn (off := 91) (tgt := 113) hx hb dX9_told_22 (by decide) (by decide) (by decide) (by decide) ?_
    refine lv_aload_n hx hb dX9_told_113 rfl (lv_at hl 0 rfl) ?_
    refine m_get (v := .ref (B 3)) hx hb hG hown hF hS (0) rfl rfl iG_9 3 (by decide) kw_474 (fun _ h9 => h9) rfl dX9_told_114 ?_
    refine lv_iload_n hx hb dX9_told_117 rfl (lv_at hl 1 rfl) ?_
    refine m_ialdv (v := g j 3) hx hb hF hS (3) rfl (j) rfl (hj4) (by decide) rfl dX9_told_118 ?_
    refine lv_iconst (v := 2) hx hb dX9_told_119 (by decide) ?_
    refine lv_icmp_ne (tgt := 132) hx hb dX9_told_120 (by decide) (fun c_5 => ?_) (fun c_5 => ?_)
    · refine lv_iconst (v := -1) hx hb dX9_told_132 (by decide) ?_
      exact m_iret hx hb hr hlk hS (⟨by rw [toldV, if_neg c_5], rfl⟩) (Nat.le_refl 0) (Nat.le_refl 0) dX9_told_133
    · refine lv_aload_n hx hb dX9_told_123 rfl (lv_at hl 0 rfl) ?_
      refine m_get (v := .ref (B 7)) hx hb hG hown hF hS (0) rfl rfl iG_9 7 (by decide) kw_478 (fun _ h9 => h9) rfl dX9_told_124 ?_
      refine lv_iload_n hx hb dX9_told_127 rfl (lv_at hl 1 rfl) ?_
      refine m_ialdv (v := g j 7) hx hb hF hS (7) rfl (j) rfl (hj4) (by decide) rfl dX9_told_128 ?_
      refine lv_goto (tgt := 133) hx hb dX9_told_129 (by decide) ?_
      exact m_iret hx hb hr hlk hS (⟨by rw [toldV, if_pos c_5], rfl⟩) (Nat.le_refl 0) (Nat.le_refl 0) dX9_told_133
  | 6, _ =>
    refine lv_tableIn (off := 112) (tgt := 134) hx hb dX9_told_22 (by decide) (by decide) (by decide) (by decide) ?_
    refine lv_aload_n hx hb dX9_told_134 rfl (lv_at hl 0 rfl) ?_
    refine m_get (v := .ref (B 1)) hx hb hG hown hF hS (0) rfl rfl iG_9 1 (by decide) kw_472 (fun _ h9 => h9) rfl dX9_told_135 ?_
    refine lv_iload_n hx hb dX9_told_138 rfl (lv_at hl 1 rfl) ?_
    refine m_ialdv (v := nI (kd (g j))) hx hb hF hS (1) rfl (j) rfl (hj4) (by decide) (hk0 j hj) dX9_told_139 ?_
    refine m_ci (m_runS (n := 1) (rest := []) ⟨hx, hb, hml, hown, hG⟩ (M_isKeeping l X _ (nI (kd (g j))) 1 (by decide)) kw_556 kw_557 kw_20 kw_558 (by decide +kernel) (rl_ok (by omega) (by decide)) hF hz hS rfl hl.1 rfl (Nat.le_of_ble_eq_true rfl) dX9_told_140 ⟨Nat.zero_le _, Nat.zero_le _⟩) hS (fun r_5 w3 H locs hw3 hS => ?_)
    obtain ⟨rfl, rfl⟩ := hw3
    by_cases h5 : 2 ≤ kd (g j) ∧ kd (g j) < 5
    · refine lv_if_eq (tgt := 150) hx hb dX9_told_143 (by decide) (fun c_6 => absurd c_6 (by rw [keep_yes h5.1 h5.2]; decide)) (fun c_6 => ?_)
      refine lv_iconst (v := 1) hx hb dX9_told_146 (by decide) ?_
      refine lv_goto (tgt := 151) hx hb dX9_told_147 (by decide) ?_
      exact m_iret hx hb hr hlk hS (⟨by show (1 : Int32) = if 2 ≤ kd (g j) ∧ kd (g j) < 5 then 1 else 0; rw [if_pos h5], rfl⟩) (Nat.le_refl 0) (Nat.le_refl 0) dX9_told_151
    · refine lv_if_eq (tgt := 150) hx hb dX9_told_143 (by decide) (fun c_6 => ?_) (fun c_6 => absurd (keep_no h5 (hkd j hj)) c_6)
      refine lv_iconst (v := 0) hx hb dX9_told_150 (by decide) ?_
      exact m_iret hx hb hr hlk hS (⟨by show (0 : Int32) = if 2 ≤ kd (g j) ∧ kd (g j) < 5 then 1 else 0; rw [if_neg h5], rfl⟩) (Nat.le_refl 0) (Nat.le_refl 0) dX9_told_151
  | 7, _ =>
    refine lv_tableOut (tgt := 152) hx hb dX9_told_22 (by decide) (by decide) ?_
    refine lv_aload_n hx hb dX9_told_152 rfl (lv_at hl 0 rfl) ?_
    refine m_get (v := .ref (B 1)) hx hb hG hown hF hS (0) rfl rfl iG_9 1 (by decide) kw_472 (fun _ h9 => h9) rfl dX9_told_153 ?_
    refine lv_iload_n hx hb dX9_told_156 rfl (lv_at hl 1 rfl) ?_
    refine m_ialdv (v := nI (kd (g j))) hx hb hF hS (1) rfl (j) rfl (hj4) (by decide) (hk0 j hj) dX9_told_157 ?_
    refine m_ci (m_runS (n := 1) (rest := []) ⟨hx, hb, hml, hown, hG⟩ (M_isGlazed l X _ (nI (kd (g j))) 0) kw_563 kw_564 kw_20 kw_565 (by decide +kernel) (rl_ok (by omega) (by decide)) hF hz hS rfl hl.1 rfl (Nat.le_of_ble_eq_true rfl) dX9_told_158 ⟨Nat.zero_le _, Nat.zero_le _⟩) hS (fun r_5 w3 H locs hw3 hS => ?_)
    obtain ⟨rfl, rfl⟩ := hw3
    by_cases h5 : 5 ≤ kd (g j)
    · refine lv_if_eq (tgt := 168) hx hb dX9_told_161 (by decide) (fun c_6 => absurd c_6 (by rw [glaz_yes h5 (hkd j hj)]; decide)) (fun c_6 => ?_)
      refine lv_iconst (v := 1) hx hb dX9_told_164 (by decide) ?_
      refine lv_goto (tgt := 169) hx hb dX9_told_165 (by decide) ?_
      exact m_iret hx hb hr hlk hS (⟨by show (1 : Int32) = if 5 ≤ kd (g j) then 1 else 0; rw [if_pos h5], rfl⟩) (Nat.le_refl 0) (Nat.le_refl 0) dX9_told_169
    · refine lv_if_eq (tgt := 168) hx hb dX9_told_161 (by decide) (fun c_6 => ?_) (fun c_6 => absurd (glaz_no h5) c_6)
      refine lv_iconst (v := 0) hx hb dX9_told_168 (by decide) ?_
      exact m_iret hx hb hr hlk hS (⟨by show (0 : Int32) = if 5 ≤ kd (g j) then 1 else 0; rw [if_neg h5], rfl⟩) (Nat.le_refl 0) (Nat.le_refl 0) dX9_told_169
set_option maxHeartbeats 4000000 in
set_option maxRecDepth 100000 in
theorem M_out_no (l : Launch) (X : Cx) (B : Nat → Nat) (n : Nat) (wm dy tl : Int32) (g : Nat → Rc) (hs : Nat → Int32) (rest : va_W) (t : Tr) (j f : Nat) (hn : n ≤ 40) (hkd : ∀ i, i < n → kd (g i) < 7) (hk0 : ∀ i, i < n → g i 0 = nI (kd (g i))) (hj : j < n) (hf : 2 ≤ f) (h0 : ¬ g j 3 = 1) : cI l yX9_out cX9_out 2 (some .int) (rl f) X [.ref (B 0), .int (nI j)] (wM X B n wm dy tl g hs rest false t) (fun v w' => v = -3 ∧ w' = wM X B n wm dy tl g hs rest false t) := by
  refine met_start (by decide) (Nat.le_of_ble_eq_true rfl) ?_
  intro p e s m below meth c ls fx hS hl
  obtain ⟨hx, hb, hr, hml, hown, hG, hlk, hF, hz, hnm⟩ := fx
  have hown : s.vm.findClass RX9 = some m.cls := hown
  have hl : lv_has ls 2 [(0, .ref (B 0)), (1, .int (nI j))] := hl
  have hj4 : j < 40 := by omega
  refine lv_aload_n hx hb dX9_out_0 rfl (lv_at hl 0 rfl) ?_
  refine lv_iload_n hx hb dX9_out_1 rfl (lv_at hl 1 rfl) ?_
  refine m_ci (m_runV (n := 1) (rest := []) ⟨hx, hb, hml, hown, hG⟩ (M_isBatch l X B n wm dy tl g hs rest false t (nI j) 1 (by decide)) kw_528 kw_530 kw_6 kw_20 kw_531 (by decide +kernel) (rl_ok (by omega) (by decide)) hF hz hS (q0 := 0) rfl rfl rfl hl.1 rfl (Nat.le_of_ble_eq_true rfl) dX9_out_2 ⟨Nat.zero_le _, Nat.zero_le _⟩) hS (fun r_1 w1 H locs hw1 hS => ?_)
  obtain ⟨rfl, rfl⟩ := hw1
  refine lv_if_ne (tgt := 11) hx hb dX9_out_5 (by decide) (fun c_2 => ?_) (fun c_2 => absurd c_2 (by rw [isB_yes hj hn]; decide))
  refine lv_aload_n hx hb dX9_out_11 rfl (lv_at hl 0 rfl) ?_
  refine m_get (v := .ref (B 3)) hx hb hG hown hF hS (0) rfl rfl iG_9 3 (by decide) kw_474 (fun _ h9 => h9) rfl dX9_out_12 ?_
  refine lv_iload_n hx hb dX9_out_15 rfl (lv_at hl 1 rfl) ?_
  refine m_ialdv (v := g j 3) hx hb hF hS (3) rfl (j) rfl (hj4) (by decide) rfl dX9_out_16 ?_
  refine lv_iconst (v := 1) hx hb dX9_out_17 (by decide) ?_
  refine lv_icmp_eq (tgt := 24) hx hb dX9_out_18 (by decide) (fun c_3 => absurd c_3 (h0)) (fun c_3 => ?_)
  refine lv_bipush (v := -3) hx hb dX9_out_21 (by decide) ?_
  exact m_iret hx hb hr hlk hS (⟨rfl, rfl⟩) (Nat.le_refl 0) (Nat.le_refl 0) dX9_out_23
set_option maxHeartbeats 4000000 in
set_option maxRecDepth 100000 in
theorem M_out_lost (l : Launch) (X : Cx) (B : Nat → Nat) (n : Nat) (wm dy tl : Int32) (g : Nat → Rc) (hs : Nat → Int32) (rest : va_W) (t : Tr) (j f : Nat) (hn : n ≤ 40) (hkd : ∀ i, i < n → kd (g i) < 7) (hk0 : ∀ i, i < n → g i 0 = nI (kd (g i))) (hj : j < n) (hf : 2 ≤ f) (h0 : g j 3 = 1) (h1 : g j 5 < 40) : cI l yX9_out cX9_out 2 (some .int) (rl f) X [.ref (B 0), .int (nI j)] (wM X B n wm dy tl g hs rest false t) (fun v w' => v = g j 5 ∧ w' = wM X B n wm dy tl (va_up g j (va_up (va_up (g j) 3 4) 7 dy)) hs rest false t) := by
  refine met_start (by decide) (Nat.le_of_ble_eq_true rfl) ?_
  intro p e s m below meth c ls fx hS hl
  obtain ⟨hx, hb, hr, hml, hown, hG, hlk, hF, hz, hnm⟩ := fx
  have hown : s.vm.findClass RX9 = some m.cls := hown
  have hl : lv_has ls 2 [(0, .ref (B 0)), (1, .int (nI j))] := hl
  have hj4 : j < 40 := by omega
  refine lv_aload_n hx hb dX9_out_0 rfl (lv_at hl 0 rfl) ?_
  refine lv_iload_n hx hb dX9_out_1 rfl (lv_at hl 1 rfl) ?_
  refine m_ci (m_runV (n := 1) (rest := []) ⟨hx, hb, hml, hown, hG⟩ (M_isBatch l X B n wm dy tl g hs rest false t (nI j) 1 (by decide)) kw_528 kw_530 kw_6 kw_20 kw_531 (by decide +kernel) (rl_ok (by omega) (by decide)) hF hz hS (q0 := 0) rfl rfl rfl hl.1 rfl (Nat.le_of_ble_eq_true rfl) dX9_out_2 ⟨Nat.zero_le _, Nat.zero_le _⟩) hS (fun r_1 w1 H locs hw1 hS => ?_)
  obtain ⟨rfl, rfl⟩ := hw1
  refine lv_if_ne (tgt := 11) hx hb dX9_out_5 (by decide) (fun c_2 => ?_) (fun c_2 => absurd c_2 (by rw [isB_yes hj hn]; decide))
  refine lv_aload_n hx hb dX9_out_11 rfl (lv_at hl 0 rfl) ?_
  refine m_get (v := .ref (B 3)) hx hb hG hown hF hS (0) rfl rfl iG_9 3 (by decide) kw_474 (fun _ h9 => h9) rfl dX9_out_12 ?_
  refine lv_iload_n hx hb dX9_out_15 rfl (lv_at hl 1 rfl) ?_
  refine m_ialdv (v := g j 3) hx hb hF hS (3) rfl (j) rfl (hj4) (by decide) rfl dX9_out_16 ?_
  refine lv_iconst (v := 1) hx hb dX9_out_17 (by decide) ?_
  refine lv_icmp_eq (tgt := 24) hx hb dX9_out_18 (by decide) (fun c_3 => ?_) (fun c_3 => absurd (h0) c_3)
  refine lv_aload_n hx hb dX9_out_24 rfl (lv_at hl 0 rfl) ?_
  refine m_get (v := .ref (B 3)) hx hb hG hown hF hS (0) rfl rfl iG_9 3 (by decide) kw_474 (fun _ h9 => h9) rfl dX9_out_25 ?_
  refine lv_iload_n hx hb dX9_out_28 rfl (lv_at hl 1 rfl) ?_
  refine lv_aload_n hx hb dX9_out_29 rfl (lv_at hl 0 rfl) ?_
  refine m_get (v := .ref (B 5)) hx hb hG hown hF hS (0) rfl rfl iG_9 5 (by decide) kw_476 (fun _ h9 => h9) rfl dX9_out_30 ?_
  refine lv_iload_n hx hb dX9_out_33 rfl (lv_at hl 1 rfl) ?_
  refine m_ialdv (v := g j 5) hx hb hF hS (5) rfl (j) rfl (hj4) (by decide) rfl dX9_out_34 ?_
  refine lv_bipush (v := 40) hx hb dX9_out_35 (by decide) ?_
  refine lv_icmp_lt (tgt := 44) hx hb dX9_out_37 (by decide) (fun c_4 => ?_) (fun c_4 => absurd (h1) c_4)
  refine lv_iconst (v := 4) hx hb dX9_out_44 (by decide) ?_
  refine m_iast hx hb hF hS (3) rfl (j) rfl (hj4) (by decide) (wM X B n wm dy tl (va_up g j (va_up (g j) 3 4)) hs rest false t) (wM_s3) dX9_out_45 (fun H locs hS => ?_)
  refine lv_aload_n hx hb dX9_out_46 rfl (lv_at hl 0 rfl) ?_
  refine m_get (v := .ref (B 7)) hx hb hG hown hF hS (0) rfl rfl iG_9 7 (by decide) kw_478 (fun _ h9 => h9) rfl dX9_out_47 ?_
  refine lv_iload_n hx hb dX9_out_50 rfl (lv_at hl 1 rfl) ?_
  refine lv_aload_n hx hb dX9_out_51 rfl (lv_at hl 0 rfl) ?_
  refine m_get (v := .int dy) hx hb hG hown hF hS (0) rfl rfl iG_9 10 (by decide) kw_481 (fun _ h9 => h9) rfl dX9_out_52 ?_
  refine m_iast hx hb hF hS (7) rfl (j) rfl (hj4) (by decide) (wM X B n wm dy tl (va_up g j (va_up (va_up (g j) 3 4) 7 dy)) hs rest false t) (by rw [wM_s7, va_up_up, va_up_self]) dX9_out_55 (fun H locs hS => ?_)
  refine lv_aload_n hx hb dX9_out_56 rfl (lv_at hl 0 rfl) ?_
  refine m_get (v := .ref (B 5)) hx hb hG hown hF hS (0) rfl rfl iG_9 5 (by decide) kw_476 (fun _ h9 => h9) rfl dX9_out_57 ?_
  refine lv_iload_n hx hb dX9_out_60 rfl (lv_at hl 1 rfl) ?_
  refine m_ialdv (v := g j 5) hx hb hF hS (5) rfl (j) rfl (hj4) (by decide) (by show va_up g j (va_up (va_up (g j) 3 4) 7 dy) j 5 = g j 5; rw [va_up_self]; rfl) dX9_out_61 ?_
  exact m_iret hx hb hr hlk hS (⟨rfl, rfl⟩) (Nat.le_refl 0) (Nat.le_refl 0) dX9_out_62
set_option maxHeartbeats 4000000 in
set_option maxRecDepth 100000 in
theorem M_out_done (l : Launch) (X : Cx) (B : Nat → Nat) (n : Nat) (wm dy tl : Int32) (g : Nat → Rc) (hs : Nat → Int32) (rest : va_W) (t : Tr) (j f : Nat) (hn : n ≤ 40) (hkd : ∀ i, i < n → kd (g i) < 7) (hk0 : ∀ i, i < n → g i 0 = nI (kd (g i))) (hj : j < n) (hf : 2 ≤ f) (h0 : g j 3 = 1) (h1 : ¬ g j 5 < 40) : cI l yX9_out cX9_out 2 (some .int) (rl f) X [.ref (B 0), .int (nI j)] (wM X B n wm dy tl g hs rest false t) (fun v w' => v = g j 5 ∧ w' = wM X B n wm dy tl (va_up g j (va_up (va_up (g j) 3 2) 7 dy)) hs rest false t) := by
  refine met_start (by decide) (Nat.le_of_ble_eq_true rfl) ?_
  intro p e s m below meth c ls fx hS hl
  obtain ⟨hx, hb, hr, hml, hown, hG, hlk, hF, hz, hnm⟩ := fx
  have hown : s.vm.findClass RX9 = some m.cls := hown
  have hl : lv_has ls 2 [(0, .ref (B 0)), (1, .int (nI j))] := hl
  have hj4 : j < 40 := by omega
  refine lv_aload_n hx hb dX9_out_0 rfl (lv_at hl 0 rfl) ?_
  refine lv_iload_n hx hb dX9_out_1 rfl (lv_at hl 1 rfl) ?_
  refine m_ci (m_runV (n := 1) (rest := []) ⟨hx, hb, hml, hown, hG⟩ (M_isBatch l X B n wm dy tl g hs rest false t (nI j) 1 (by decide)) kw_528 kw_530 kw_6 kw_20 kw_531 (by decide +kernel) (rl_ok (by omega) (by decide)) hF hz hS (q0 := 0) rfl rfl rfl hl.1 rfl (Nat.le_of_ble_eq_true rfl) dX9_out_2 ⟨Nat.zero_le _, Nat.zero_le _⟩) hS (fun r_1 w1 H locs hw1 hS => ?_)
  obtain ⟨rfl, rfl⟩ := hw1
  refine lv_if_ne (tgt := 11) hx hb dX9_out_5 (by decide) (fun c_2 => ?_) (fun c_2 => absurd c_2 (by rw [isB_yes hj hn]; decide))
  refine lv_aload_n hx hb dX9_out_11 rfl (lv_at hl 0 rfl) ?_
  refine m_get (v := .ref (B 3)) hx hb hG hown hF hS (0) rfl rfl iG_9 3 (by decide) kw_474 (fun _ h9 => h9) rfl dX9_out_12 ?_
  refine lv_iload_n hx hb dX9_out_15 rfl (lv_at hl 1 rfl) ?_
  refine m_ialdv (v := g j 3) hx hb hF hS (3) rfl (j) rfl (hj4) (by decide) rfl dX9_out_16 ?_
  refine lv_iconst (v := 1) hx hb dX9_out_17 (by decide) ?_
  refine lv_icmp_eq (tgt := 24) hx hb dX9_out_18 (by decide) (fun c_3 => ?_) (fun c_3 => absurd (h0) c_3)
  refine lv_aload_n hx hb dX9_out_24 rfl (lv_at hl 0 rfl) ?_
  refine m_get (v := .ref (B 3)) hx hb hG hown hF hS (0) rfl rfl iG_9 3 (by decide) kw_474 (fun _ h9 => h9) rfl dX9_out_25 ?_
  refine lv_iload_n hx hb dX9_out_28 rfl (lv_at hl 1 rfl) ?_
  refine lv_aload_n hx hb dX9_out_29 rfl (lv_at hl 0 rfl) ?_
  refine m_get (v := .ref (B 5)) hx hb hG hown hF hS (0) rfl rfl iG_9 5 (by decide) kw_476 (fun _ h9 => h9) rfl dX9_out_30 ?_
  refine lv_iload_n hx hb dX9_out_33 rfl (lv_at hl 1 rfl) ?_
  refine m_ialdv (v := g j 5) hx hb hF hS (5) rfl (j) rfl (hj4) (by decide) rfl dX9_out_34 ?_
  refine lv_bipush (v := 40) hx hb dX9_out_35 (by decide) ?_
  refine lv_icmp_lt (tgt := 44) hx hb dX9_out_37 (by decide) (fun c_4 => absurd c_4 (h1)) (fun c_4 => ?_)
  refine lv_iconst (v := 2) hx hb dX9_out_40 (by decide) ?_
  refine lv_goto (tgt := 45) hx hb dX9_out_41 (by decide) ?_
  refine m_iast hx hb hF hS (3) rfl (j) rfl (hj4) (by decide) (wM X B n wm dy tl (va_up g j (va_up (g j) 3 2)) hs rest false t) (wM_s3) dX9_out_45 (fun H locs hS => ?_)
  refine lv_aload_n hx hb dX9_out_46 rfl (lv_at hl 0 rfl) ?_
  refine m_get (v := .ref (B 7)) hx hb hG hown hF hS (0) rfl rfl iG_9 7 (by decide) kw_478 (fun _ h9 => h9) rfl dX9_out_47 ?_
  refine lv_iload_n hx hb dX9_out_50 rfl (lv_at hl 1 rfl) ?_
  refine lv_aload_n hx hb dX9_out_51 rfl (lv_at hl 0 rfl) ?_
  refine m_get (v := .int dy) hx hb hG hown hF hS (0) rfl rfl iG_9 10 (by decide) kw_481 (fun _ h9 => h9) rfl dX9_out_52 ?_
  refine m_iast hx hb hF hS (7) rfl (j) rfl (hj4) (by decide) (wM X B n wm dy tl (va_up g j (va_up (va_up (g j) 3 2) 7 dy)) hs rest false t) (by rw [wM_s7, va_up_up, va_up_self]) dX9_out_55 (fun H locs hS => ?_)
  refine lv_aload_n hx hb dX9_out_56 rfl (lv_at hl 0 rfl) ?_
  refine m_get (v := .ref (B 5)) hx hb hG hown hF hS (0) rfl rfl iG_9 5 (by decide) kw_476 (fun _ h9 => h9) rfl dX9_out_57 ?_
  refine lv_iload_n hx hb dX9_out_60 rfl (lv_at hl 1 rfl) ?_
  refine m_ialdv (v := g j 5) hx hb hF hS (5) rfl (j) rfl (hj4) (by decide) (by show va_up g j (va_up (va_up (g j) 3 2) 7 dy) j 5 = g j 5; rw [va_up_self]; rfl) dX9_out_61 ?_
  exact m_iret hx hb hr hlk hS (⟨rfl, rfl⟩) (Nat.le_refl 0) (Nat.le_refl 0) dX9_out_62
set_option maxHeartbeats 4000000 in
set_option maxRecDepth 100000 in
theorem M_bake_bad (l : Launch) (X : Cx) (B : Nat → Nat) (n : Nat) (wm dy tl : Int32) (g : Nat → Rc) (hs : Nat → Int32) (rest : va_W) (t : Tr) (j f : Nat) (hn : n ≤ 40) (hkd : ∀ i, i < n → kd (g i) < 7) (hk0 : ∀ i, i < n → g i 0 = nI (kd (g i))) (hj : j < n) (o : Int32) (hf : 3 ≤ f) (h0 : inB o 0 2 = 0) : cI l yX9_bake cX9_bake 3 (some .int) (rl f) X [.ref (B 0), .int (nI j), .int o] (wM X B n wm dy tl g hs rest false t) (fun v w' => v = -2 ∧ w' = wM X B n wm dy tl g hs rest false t) := by
  refine met_start (by decide) (Nat.le_of_ble_eq_true rfl) ?_
  intro p e s m below meth c ls fx hS hl
  obtain ⟨hx, hb, hr, hml, hown, hG, hlk, hF, hz, hnm⟩ := fx
  have hown : s.vm.findClass RX9 = some m.cls := hown
  have hl : lv_has ls 3 [(0, .ref (B 0)), (1, .int (nI j)), (2, .int o)] := hl
  have hj4 : j < 40 := by omega
  refine lv_aload_n hx hb dX9_bake_0 rfl (lv_at hl 0 rfl) ?_
  refine lv_iload_n hx hb dX9_bake_1 rfl (lv_at hl 1 rfl) ?_
  refine m_ci (m_runV (n := 1) (rest := []) ⟨hx, hb, hml, hown, hG⟩ (M_isBatch l X B n wm dy tl g hs rest false t (nI j) 1 (by decide)) kw_528 kw_530 kw_6 kw_20 kw_531 (by decide +kernel) (rl_ok (by omega) (by decide)) hF hz hS (q0 := 0) rfl rfl rfl hl.1 rfl (Nat.le_of_ble_eq_true rfl) dX9_bake_2 ⟨Nat.zero_le _, Nat.zero_le _⟩) hS (fun r_1 w1 H locs hw1 hS => ?_)
  obtain ⟨rfl, rfl⟩ := hw1
  refine lv_if_eq (tgt := 17) hx hb dX9_bake_5 (by decide) (fun c_2 => absurd c_2 (by rw [isB_yes hj hn]; decide)) (fun c_2 => ?_)
  refine lv_iload_n hx hb dX9_bake_8 rfl (lv_at hl 2 rfl) ?_
  refine lv_iconst (v := 0) hx hb dX9_bake_9 (by decide) ?_
  refine lv_iconst (v := 2) hx hb dX9_bake_10 (by decide) ?_
  refine m_ci (m_runS (n := 3) (rest := []) ⟨hx, hb, hml, hown, hG⟩ (c_in l X _ o 0 2 0) kw_521 kw_522 kw_20 kw_523 (by decide +kernel) (rl_ok (by omega) (by decide)) hF hz hS rfl hl.1 rfl (Nat.le_of_ble_eq_true rfl) dX9_bake_11 ⟨Nat.zero_le _, Nat.zero_le _⟩) hS (fun r_3 w2 H locs hw2 hS => ?_)
  obtain ⟨rfl, rfl⟩ := hw2
  refine lv_if_ne (tgt := 20) hx hb dX9_bake_14 (by decide) (fun c_4 => absurd (h0) c_4) (fun c_4 => ?_)
  refine lv_bipush (v := -2) hx hb dX9_bake_17 (by decide) ?_
  exact m_iret hx hb hr hlk hS (⟨rfl, rfl⟩) (Nat.le_refl 0) (Nat.le_refl 0) dX9_bake_19
set_option maxHeartbeats 4000000 in
set_option maxRecDepth 100000 in
theorem M_bake_no (l : Launch) (X : Cx) (B : Nat → Nat) (n : Nat) (wm dy tl : Int32) (g : Nat → Rc) (hs : Nat → Int32) (rest : va_W) (t : Tr) (j f : Nat) (hn : n ≤ 40) (hkd : ∀ i, i < n → kd (g i) < 7) (hk0 : ∀ i, i < n → g i 0 = nI (kd (g i))) (hj : j < n) (o : Nat) (ho : o < 3) (hf : 3 ≤ f) (h0 : ¬ g j 3 = 0 ∨ ¬ needV (kd (g j)) (g j 1) ≤ g j 4) : cI l yX9_bake cX9_bake 3 (some .int) (rl f) X [.ref (B 0), .int (nI j), .int (nI o)] (wM X B n wm dy tl g hs rest false t) (fun v w' => v = -3 ∧ w' = wM X B n wm dy tl g hs rest false t) := by
  refine met_start (by decide) (Nat.le_of_ble_eq_true rfl) ?_
  intro p e s m below meth c ls fx hS hl
  obtain ⟨hx, hb, hr, hml, hown, hG, hlk, hF, hz, hnm⟩ := fx
  have hown : s.vm.findClass RX9 = some m.cls := hown
  have hl : lv_has ls 3 [(0, .ref (B 0)), (1, .int (nI j)), (2, .int (nI o))] := hl
  have hj4 : j < 40 := by omega
  refine lv_aload_n hx hb dX9_bake_0 rfl (lv_at hl 0 rfl) ?_
  refine lv_iload_n hx hb dX9_bake_1 rfl (lv_at hl 1 rfl) ?_
  refine m_ci (m_runV (n := 1) (rest := []) ⟨hx, hb, hml, hown, hG⟩ (M_isBatch l X B n wm dy tl g hs rest false t (nI j) 1 (by decide)) kw_528 kw_530 kw_6 kw_20 kw_531 (by decide +kernel) (rl_ok (by omega) (by decide)) hF hz hS (q0 := 0) rfl rfl rfl hl.1 rfl (Nat.le_of_ble_eq_true rfl) dX9_bake_2 ⟨Nat.zero_le _, Nat.zero_le _⟩) hS (fun r_1 w1 H locs hw1 hS => ?_)
  obtain ⟨rfl, rfl⟩ := hw1
  refine lv_if_eq (tgt := 17) hx hb dX9_bake_5 (by decide) (fun c_2 => absurd c_2 (by rw [isB_yes hj hn]; decide)) (fun c_2 => ?_)
  refine lv_iload_n hx hb dX9_bake_8 rfl (lv_at hl 2 rfl) ?_
  refine lv_iconst (v := 0) hx hb dX9_bake_9 (by decide) ?_
  refine lv_iconst (v := 2) hx hb dX9_bake_10 (by decide) ?_
  refine m_ci (m_runS (n := 3) (rest := []) ⟨hx, hb, hml, hown, hG⟩ (c_in l X _ (nI o) 0 2 0) kw_521 kw_522 kw_20 kw_523 (by decide +kernel) (rl_ok (by omega) (by decide)) hF hz hS rfl hl.1 rfl (Nat.le_of_ble_eq_true rfl) dX9_bake_11 ⟨Nat.zero_le _, Nat.zero_le _⟩) hS (fun r_3 w2 H locs hw2 hS => ?_)
  obtain ⟨rfl, rfl⟩ := hw2
  refine lv_if_ne (tgt := 20) hx hb dX9_bake_14 (by decide) (fun c_4 => ?_) (fun c_4 => absurd c_4 (by rw [ov2 ho]; decide))
  refine lv_aload_n hx hb dX9_bake_20 rfl (lv_at hl 0 rfl) ?_
  refine m_get (v := .ref (B 3)) hx hb hG hown hF hS (0) rfl rfl iG_9 3 (by decide) kw_474 (fun _ h9 => h9) rfl dX9_bake_21 ?_
  refine lv_iload_n hx hb dX9_bake_24 rfl (lv_at hl 1 rfl) ?_
  refine m_ialdv (v := g j 3) hx hb hF hS (3) rfl (j) rfl (hj4) (by decide) rfl dX9_bake_25 ?_
  refine lv_if_ne (tgt := 43) hx hb dX9_bake_26 (by decide) (fun c_5 => ?_) (fun c_5 => ?_)
  · refine lv_bipush (v := -3) hx hb dX9_bake_43 (by decide) ?_
    exact m_iret hx hb hr hlk hS (⟨rfl, rfl⟩) (Nat.le_refl 0) (Nat.le_refl 0) dX9_bake_45
  · refine lv_aload_n hx hb dX9_bake_29 rfl (lv_at hl 0 rfl) ?_
    refine m_get (v := .ref (B 4)) hx hb hG hown hF hS (0) rfl rfl iG_9 4 (by decide) kw_475 (fun _ h9 => h9) rfl dX9_bake_30 ?_
    refine lv_iload_n hx hb dX9_bake_33 rfl (lv_at hl 1 rfl) ?_
    refine m_ialdv (v := g j 4) hx hb hF hS (4) rfl (j) rfl (hj4) (by decide) rfl dX9_bake_34 ?_
    refine lv_aload_n hx hb dX9_bake_35 rfl (lv_at hl 0 rfl) ?_
    refine lv_iload_n hx hb dX9_bake_36 rfl (lv_at hl 1 rfl) ?_
    refine m_ci (m_runV (n := 1) (rest := [.int (g j 4)]) ⟨hx, hb, hml, hown, hG⟩ (M_need l X B n wm dy tl g hs rest false t j (kd (g j)) 2 hj4 (hk0 j hj) (hkd j hj) (by decide) tR.f) kw_544 kw_546 kw_10 kw_20 kw_547 (by decide +kernel) (rl_ok (by omega) (by decide)) hF hz hS (q0 := 0) rfl rfl rfl hl.1 rfl (Nat.le_of_ble_eq_true rfl) dX9_bake_37 ⟨Nat.zero_le _, Nat.zero_le _⟩) hS (fun r_6 w3 H locs hw3 hS => ?_)
    obtain ⟨rfl, rfl⟩ := hw3
    refine lv_icmp_ge (tgt := 46) hx hb dX9_bake_40 (by decide) (fun c_7 => absurd c_7 (h0.resolve_left (fun q => q c_5))) (fun c_7 => ?_)
    refine lv_bipush (v := -3) hx hb dX9_bake_43 (by decide) ?_
    exact m_iret hx hb hr hlk hS (⟨rfl, rfl⟩) (Nat.le_refl 0) (Nat.le_refl 0) dX9_bake_45
set_option maxHeartbeats 4000000 in
set_option maxRecDepth 100000 in
theorem M_bake_full (l : Launch) (X : Cx) (B : Nat → Nat) (n : Nat) (wm dy tl : Int32) (g : Nat → Rc) (hs : Nat → Int32) (rest : va_W) (t : Tr) (j f : Nat) (hn : n ≤ 40) (hkd : ∀ i, i < n → kd (g i) < 7) (hk0 : ∀ i, i < n → g i 0 = nI (kd (g i))) (hj : j < n) (o : Nat) (ho : o < 3) (hf : 3 ≤ f) (h0 : g j 3 = 0) (h1 : needV (kd (g j)) (g j 1) ≤ g j 4) (h2 : ¬ masm g (nI o) n + g j 1 ≤ 800) : cI l yX9_bake cX9_bake 3 (some .int) (rl f) X [.ref (B 0), .int (nI j), .int (nI o)] (wM X B n wm dy tl g hs rest false t) (fun v w' => v = -4 ∧ w' = wM X B n wm dy tl g hs rest false t) := by
  refine met_start (by decide) (Nat.le_of_ble_eq_true rfl) ?_
  intro p e s m below meth c ls fx hS hl
  obtain ⟨hx, hb, hr, hml, hown, hG, hlk, hF, hz, hnm⟩ := fx
  have hown : s.vm.findClass RX9 = some m.cls := hown
  have hl : lv_has ls 3 [(0, .ref (B 0)), (1, .int (nI j)), (2, .int (nI o))] := hl
  have hj4 : j < 40 := by omega
  refine lv_aload_n hx hb dX9_bake_0 rfl (lv_at hl 0 rfl) ?_
  refine lv_iload_n hx hb dX9_bake_1 rfl (lv_at hl 1 rfl) ?_
  refine m_ci (m_runV (n := 1) (rest := []) ⟨hx, hb, hml, hown, hG⟩ (M_isBatch l X B n wm dy tl g hs rest false t (nI j) 1 (by decide)) kw_528 kw_530 kw_6 kw_20 kw_531 (by decide +kernel) (rl_ok (by omega) (by decide)) hF hz hS (q0 := 0) rfl rfl rfl hl.1 rfl (Nat.le_of_ble_eq_true rfl) dX9_bake_2 ⟨Nat.zero_le _, Nat.zero_le _⟩) hS (fun r_1 w1 H locs hw1 hS => ?_)
  obtain ⟨rfl, rfl⟩ := hw1
  refine lv_if_eq (tgt := 17) hx hb dX9_bake_5 (by decide) (fun c_2 => absurd c_2 (by rw [isB_yes hj hn]; decide)) (fun c_2 => ?_)
  refine lv_iload_n hx hb dX9_bake_8 rfl (lv_at hl 2 rfl) ?_
  refine lv_iconst (v := 0) hx hb dX9_bake_9 (by decide) ?_
  refine lv_iconst (v := 2) hx hb dX9_bake_10 (by decide) ?_
  refine m_ci (m_runS (n := 3) (rest := []) ⟨hx, hb, hml, hown, hG⟩ (c_in l X _ (nI o) 0 2 0) kw_521 kw_522 kw_20 kw_523 (by decide +kernel) (rl_ok (by omega) (by decide)) hF hz hS rfl hl.1 rfl (Nat.le_of_ble_eq_true rfl) dX9_bake_11 ⟨Nat.zero_le _, Nat.zero_le _⟩) hS (fun r_3 w2 H locs hw2 hS => ?_)
  obtain ⟨rfl, rfl⟩ := hw2
  refine lv_if_ne (tgt := 20) hx hb dX9_bake_14 (by decide) (fun c_4 => ?_) (fun c_4 => absurd c_4 (by rw [ov2 ho]; decide))
  refine lv_aload_n hx hb dX9_bake_20 rfl (lv_at hl 0 rfl) ?_
  refine m_get (v := .ref (B 3)) hx hb hG hown hF hS (0) rfl rfl iG_9 3 (by decide) kw_474 (fun _ h9 => h9) rfl dX9_bake_21 ?_
  refine lv_iload_n hx hb dX9_bake_24 rfl (lv_at hl 1 rfl) ?_
  refine m_ialdv (v := g j 3) hx hb hF hS (3) rfl (j) rfl (hj4) (by decide) rfl dX9_bake_25 ?_
  refine lv_if_ne (tgt := 43) hx hb dX9_bake_26 (by decide) (fun c_5 => absurd (h0) c_5) (fun c_5 => ?_)
  refine lv_aload_n hx hb dX9_bake_29 rfl (lv_at hl 0 rfl) ?_
  refine m_get (v := .ref (B 4)) hx hb hG hown hF hS (0) rfl rfl iG_9 4 (by decide) kw_475 (fun _ h9 => h9) rfl dX9_bake_30 ?_
  refine lv_iload_n hx hb dX9_bake_33 rfl (lv_at hl 1 rfl) ?_
  refine m_ialdv (v := g j 4) hx hb hF hS (4) rfl (j) rfl (hj4) (by decide) rfl dX9_bake_34 ?_
  refine lv_aload_n hx hb dX9_bake_35 rfl (lv_at hl 0 rfl) ?_
  refine lv_iload_n hx hb dX9_bake_36 rfl (lv_at hl 1 rfl) ?_
  refine m_ci (m_runV (n := 1) (rest := [.int (g j 4)]) ⟨hx, hb, hml, hown, hG⟩ (M_need l X B n wm dy tl g hs rest false t j (kd (g j)) 2 hj4 (hk0 j hj) (hkd j hj) (by decide) tR.f) kw_544 kw_546 kw_10 kw_20 kw_547 (by decide +kernel) (rl_ok (by omega) (by decide)) hF hz hS (q0 := 0) rfl rfl rfl hl.1 rfl (Nat.le_of_ble_eq_true rfl) dX9_bake_37 ⟨Nat.zero_le _, Nat.zero_le _⟩) hS (fun r_6 w3 H locs hw3 hS => ?_)
  obtain ⟨rfl, rfl⟩ := hw3
  refine lv_icmp_ge (tgt := 46) hx hb dX9_bake_40 (by decide) (fun c_7 => ?_) (fun c_7 => absurd (h1) c_7)
  refine lv_aload_n hx hb dX9_bake_46 rfl (lv_at hl 0 rfl) ?_
  refine lv_iload_n hx hb dX9_bake_47 rfl (lv_at hl 2 rfl) ?_
  refine m_ci (m_runV (n := 1) (rest := []) ⟨hx, hb, hml, hown, hG⟩ (M_massIn l X B n wm dy tl g hs rest t (nI o) 0 hn) kw_594 kw_596 kw_16 kw_20 kw_597 (by decide +kernel) (rl_ok (by omega) (by decide)) hF hz hS (q0 := 0) rfl rfl rfl hl.1 rfl (Nat.le_of_ble_eq_true rfl) dX9_bake_48 ⟨Nat.zero_le _, Nat.zero_le _⟩) hS (fun r_8 w4 H locs hw4 hS => ?_)
  obtain ⟨rfl, rfl⟩ := hw4
  refine lv_aload_n hx hb dX9_bake_51 rfl (lv_at hl 0 rfl) ?_
  refine m_get (v := .ref (B 2)) hx hb hG hown hF hS (0) rfl rfl iG_9 2 (by decide) kw_473 (fun _ h9 => h9) rfl dX9_bake_52 ?_
  refine lv_iload_n hx hb dX9_bake_55 rfl (lv_at hl 1 rfl) ?_
  refine m_ialdv (v := g j 1) hx hb hF hS (2) rfl (j) rfl (hj4) (by decide) rfl dX9_bake_56 ?_
  refine lv_iadd hx hb dX9_bake_57 ?_
  refine lv_sipush (v := 800) hx hb dX9_bake_58 (by decide) ?_
  refine lv_icmp_le (tgt := 67) hx hb dX9_bake_61 (by decide) (fun c_9 => absurd c_9 (h2)) (fun c_9 => ?_)
  refine lv_bipush (v := -4) hx hb dX9_bake_64 (by decide) ?_
  exact m_iret hx hb hr hlk hS (⟨rfl, rfl⟩) (Nat.le_refl 0) (Nat.le_refl 0) dX9_bake_66
set_option maxHeartbeats 4000000 in
set_option maxRecDepth 100000 in
theorem M_bake (l : Launch) (X : Cx) (B : Nat → Nat) (n : Nat) (wm dy tl : Int32) (g : Nat → Rc) (hs : Nat → Int32) (rest : va_W) (t : Tr) (j f : Nat) (hn : n ≤ 40) (hkd : ∀ i, i < n → kd (g i) < 7) (hk0 : ∀ i, i < n → g i 0 = nI (kd (g i))) (hj : j < n) (o : Nat) (ho : o < 3) (hf : 3 ≤ f) (h0 : g j 3 = 0) (h1 : needV (kd (g j)) (g j 1) ≤ g j 4) (h2 : masm g (nI o) n + g j 1 ≤ 800) : cI l yX9_bake cX9_bake 3 (some .int) (rl f) X [.ref (B 0), .int (nI j), .int (nI o)] (wM X B n wm dy tl g hs rest false t) (fun v w' => v = masm (va_up g j (va_up (va_up (g j) 3 1) 6 (nI o))) (nI o) n ∧ w' = wM X B n wm dy tl (va_up g j (va_up (va_up (g j) 3 1) 6 (nI o))) hs rest false t) := by
  refine met_start (by decide) (Nat.le_of_ble_eq_true rfl) ?_
  intro p e s m below meth c ls fx hS hl
  obtain ⟨hx, hb, hr, hml, hown, hG, hlk, hF, hz, hnm⟩ := fx
  have hown : s.vm.findClass RX9 = some m.cls := hown
  have hl : lv_has ls 3 [(0, .ref (B 0)), (1, .int (nI j)), (2, .int (nI o))] := hl
  have hj4 : j < 40 := by omega
  refine lv_aload_n hx hb dX9_bake_0 rfl (lv_at hl 0 rfl) ?_
  refine lv_iload_n hx hb dX9_bake_1 rfl (lv_at hl 1 rfl) ?_
  refine m_ci (m_runV (n := 1) (rest := []) ⟨hx, hb, hml, hown, hG⟩ (M_isBatch l X B n wm dy tl g hs rest false t (nI j) 1 (by decide)) kw_528 kw_530 kw_6 kw_20 kw_531 (by decide +kernel) (rl_ok (by omega) (by decide)) hF hz hS (q0 := 0) rfl rfl rfl hl.1 rfl (Nat.le_of_ble_eq_true rfl) dX9_bake_2 ⟨Nat.zero_le _, Nat.zero_le _⟩) hS (fun r_1 w1 H locs hw1 hS => ?_)
  obtain ⟨rfl, rfl⟩ := hw1
  refine lv_if_eq (tgt := 17) hx hb dX9_bake_5 (by decide) (fun c_2 => absurd c_2 (by rw [isB_yes hj hn]; decide)) (fun c_2 => ?_)
  refine lv_iload_n hx hb dX9_bake_8 rfl (lv_at hl 2 rfl) ?_
  refine lv_iconst (v := 0) hx hb dX9_bake_9 (by decide) ?_
  refine lv_iconst (v := 2) hx hb dX9_bake_10 (by decide) ?_
  refine m_ci (m_runS (n := 3) (rest := []) ⟨hx, hb, hml, hown, hG⟩ (c_in l X _ (nI o) 0 2 0) kw_521 kw_522 kw_20 kw_523 (by decide +kernel) (rl_ok (by omega) (by decide)) hF hz hS rfl hl.1 rfl (Nat.le_of_ble_eq_true rfl) dX9_bake_11 ⟨Nat.zero_le _, Nat.zero_le _⟩) hS (fun r_3 w2 H locs hw2 hS => ?_)
  obtain ⟨rfl, rfl⟩ := hw2
  refine lv_if_ne (tgt := 20) hx hb dX9_bake_14 (by decide) (fun c_4 => ?_) (fun c_4 => absurd c_4 (by rw [ov2 ho]; decide))
  refine lv_aload_n hx hb dX9_bake_20 rfl (lv_at hl 0 rfl) ?_
  refine m_get (v := .ref (B 3)) hx hb hG hown hF hS (0) rfl rfl iG_9 3 (by decide) kw_474 (fun _ h9 => h9) rfl dX9_bake_21 ?_
  refine lv_iload_n hx hb dX9_bake_24 rfl (lv_at hl 1 rfl) ?_
  refine m_ialdv (v := g j 3) hx hb hF hS (3) rfl (j) rfl (hj4) (by decide) rfl dX9_bake_25 ?_
  refine lv_if_ne (tgt := 43) hx hb dX9_bake_26 (by decide) (fun c_5 => absurd (h0) c_5) (fun c_5 => ?_)
  refine lv_aload_n hx hb dX9_bake_29 rfl (lv_at hl 0 rfl) ?_
  refine m_get (v := .ref (B 4)) hx hb hG hown hF hS (0) rfl rfl iG_9 4 (by decide) kw_475 (fun _ h9 => h9) rfl dX9_bake_30 ?_
  refine lv_iload_n hx hb dX9_bake_33 rfl (lv_at hl 1 rfl) ?_
  refine m_ialdv (v := g j 4) hx hb hF hS (4) rfl (j) rfl (hj4) (by decide) rfl dX9_bake_34 ?_
  refine lv_aload_n hx hb dX9_bake_35 rfl (lv_at hl 0 rfl) ?_
  refine lv_iload_n hx hb dX9_bake_36 rfl (lv_at hl 1 rfl) ?_
  refine m_ci (m_runV (n := 1) (rest := [.int (g j 4)]) ⟨hx, hb, hml, hown, hG⟩ (M_need l X B n wm dy tl g hs rest false t j (kd (g j)) 2 hj4 (hk0 j hj) (hkd j hj) (by decide) tR.f) kw_544 kw_546 kw_10 kw_20 kw_547 (by decide +kernel) (rl_ok (by omega) (by decide)) hF hz hS (q0 := 0) rfl rfl rfl hl.1 rfl (Nat.le_of_ble_eq_true rfl) dX9_bake_37 ⟨Nat.zero_le _, Nat.zero_le _⟩) hS (fun r_6 w3 H locs hw3 hS => ?_)
  obtain ⟨rfl, rfl⟩ := hw3
  refine lv_icmp_ge (tgt := 46) hx hb dX9_bake_40 (by decide) (fun c_7 => ?_) (fun c_7 => absurd (h1) c_7)
  refine lv_aload_n hx hb dX9_bake_46 rfl (lv_at hl 0 rfl) ?_
  refine lv_iload_n hx hb dX9_bake_47 rfl (lv_at hl 2 rfl) ?_
  refine m_ci (m_runV (n := 1) (rest := []) ⟨hx, hb, hml, hown, hG⟩ (M_massIn l X B n wm dy tl g hs rest t (nI o) 0 hn) kw_594 kw_596 kw_16 kw_20 kw_597 (by decide +kernel) (rl_ok (by omega) (by decide)) hF hz hS (q0 := 0) rfl rfl rfl hl.1 rfl (Nat.le_of_ble_eq_true rfl) dX9_bake_48 ⟨Nat.zero_le _, Nat.zero_le _⟩) hS (fun r_8 w4 H locs hw4 hS => ?_)
  obtain ⟨rfl, rfl⟩ := hw4
  refine lv_aload_n hx hb dX9_bake_51 rfl (lv_at hl 0 rfl) ?_
  refine m_get (v := .ref (B 2)) hx hb hG hown hF hS (0) rfl rfl iG_9 2 (by decide) kw_473 (fun _ h9 => h9) rfl dX9_bake_52 ?_
  refine lv_iload_n hx hb dX9_bake_55 rfl (lv_at hl 1 rfl) ?_
  refine m_ialdv (v := g j 1) hx hb hF hS (2) rfl (j) rfl (hj4) (by decide) rfl dX9_bake_56 ?_
  refine lv_iadd hx hb dX9_bake_57 ?_
  refine lv_sipush (v := 800) hx hb dX9_bake_58 (by decide) ?_
  refine lv_icmp_le (tgt := 67) hx hb dX9_bake_61 (by decide) (fun c_9 => ?_) (fun c_9 => absurd (h2) c_9)
  refine lv_aload_n hx hb dX9_bake_67 rfl (lv_at hl 0 rfl) ?_
  refine m_get (v := .ref (B 3)) hx hb hG hown hF hS (0) rfl rfl iG_9 3 (by decide) kw_474 (fun _ h9 => h9) rfl dX9_bake_68 ?_
  refine lv_iload_n hx hb dX9_bake_71 rfl (lv_at hl 1 rfl) ?_
  refine lv_iconst (v := 1) hx hb dX9_bake_72 (by decide) ?_
  refine m_iast hx hb hF hS (3) rfl (j) rfl (hj4) (by decide) (wM X B n wm dy tl (va_up g j (va_up (g j) 3 1)) hs rest false t) (wM_s3) dX9_bake_73 (fun H locs hS => ?_)
  refine lv_aload_n hx hb dX9_bake_74 rfl (lv_at hl 0 rfl) ?_
  refine m_get (v := .ref (B 6)) hx hb hG hown hF hS (0) rfl rfl iG_9 6 (by decide) kw_477 (fun _ h9 => h9) rfl dX9_bake_75 ?_
  refine lv_iload_n hx hb dX9_bake_78 rfl (lv_at hl 1 rfl) ?_
  refine lv_iload_n hx hb dX9_bake_79 rfl (lv_at hl 2 rfl) ?_
  refine m_iast hx hb hF hS (6) rfl (j) rfl (hj4) (by decide) (wM X B n wm dy tl (va_up g j (va_up (va_up (g j) 3 1) 6 (nI o))) hs rest false t) (by rw [wM_s6, va_up_up, va_up_self]) dX9_bake_80 (fun H locs hS => ?_)
  refine lv_aload_n hx hb dX9_bake_81 rfl (lv_at hl 0 rfl) ?_
  refine lv_iload_n hx hb dX9_bake_82 rfl (lv_at hl 2 rfl) ?_
  refine m_ci (m_runV (n := 1) (rest := []) ⟨hx, hb, hml, hown, hG⟩ (M_massIn l X B n wm dy tl (va_up g j (va_up (va_up (g j) 3 1) 6 (nI o))) hs rest t (nI o) 0 hn) kw_594 kw_596 kw_16 kw_20 kw_597 (by decide +kernel) (rl_ok (by omega) (by decide)) hF hz hS (q0 := 0) rfl rfl rfl hl.1 rfl (Nat.le_of_ble_eq_true rfl) dX9_bake_83 ⟨Nat.zero_le _, Nat.zero_le _⟩) hS (fun r_10 w5 H locs hw5 hS => ?_)
  obtain ⟨rfl, rfl⟩ := hw5
  exact m_iret hx hb hr hlk hS (⟨rfl, rfl⟩) (Nat.le_refl 0) (Nat.le_refl 0) dX9_bake_86
set_option maxHeartbeats 4000000 in
set_option maxRecDepth 100000 in
theorem M_sell_no (l : Launch) (X : Cx) (B : Nat → Nat) (n : Nat) (wm dy tl : Int32) (g : Nat → Rc) (hs : Nat → Int32) (rest : va_W) (t : Tr) (j f : Nat) (hn : n ≤ 40) (hkd : ∀ i, i < n → kd (g i) < 7) (hk0 : ∀ i, i < n → g i 0 = nI (kd (g i))) (hj : j < n) (hf : 2 ≤ f) (h0 : ¬ g j 3 = 2) : cI l yX9_sell cX9_sell 3 (some .int) (rl f) X [.ref (B 0), .int (nI j)] (wM X B n wm dy tl g hs rest false t) (fun v w' => v = -3 ∧ w' = wM X B n wm dy tl g hs rest false t) := by
  refine met_start (by decide) (Nat.le_of_ble_eq_true rfl) ?_
  intro p e s m below meth c ls fx hS hl
  obtain ⟨hx, hb, hr, hml, hown, hG, hlk, hF, hz, hnm⟩ := fx
  have hown : s.vm.findClass RX9 = some m.cls := hown
  have hl : lv_has ls 3 [(0, .ref (B 0)), (1, .int (nI j))] := hl
  have hj4 : j < 40 := by omega
  refine lv_aload_n hx hb dX9_sell_0 rfl (lv_at hl 0 rfl) ?_
  refine lv_iload_n hx hb dX9_sell_1 rfl (lv_at hl 1 rfl) ?_
  refine m_ci (m_runV (n := 1) (rest := []) ⟨hx, hb, hml, hown, hG⟩ (M_isBatch l X B n wm dy tl g hs rest false t (nI j) 1 (by decide)) kw_528 kw_530 kw_6 kw_20 kw_531 (by decide +kernel) (rl_ok (by omega) (by decide)) hF hz hS (q0 := 0) rfl rfl rfl hl.1 rfl (Nat.le_of_ble_eq_true rfl) dX9_sell_2 ⟨Nat.zero_le _, Nat.zero_le _⟩) hS (fun r_1 w1 H locs hw1 hS => ?_)
  obtain ⟨rfl, rfl⟩ := hw1
  refine lv_if_ne (tgt := 11) hx hb dX9_sell_5 (by decide) (fun c_2 => ?_) (fun c_2 => absurd c_2 (by rw [isB_yes hj hn]; decide))
  refine lv_aload_n hx hb dX9_sell_11 rfl (lv_at hl 0 rfl) ?_
  refine m_get (v := .ref (B 3)) hx hb hG hown hF hS (0) rfl rfl iG_9 3 (by decide) kw_474 (fun _ h9 => h9) rfl dX9_sell_12 ?_
  refine lv_iload_n hx hb dX9_sell_15 rfl (lv_at hl 1 rfl) ?_
  refine m_ialdv (v := g j 3) hx hb hF hS (3) rfl (j) rfl (hj4) (by decide) rfl dX9_sell_16 ?_
  refine lv_iconst (v := 2) hx hb dX9_sell_17 (by decide) ?_
  refine lv_icmp_eq (tgt := 24) hx hb dX9_sell_18 (by decide) (fun c_3 => absurd c_3 (h0)) (fun c_3 => ?_)
  refine lv_bipush (v := -3) hx hb dX9_sell_21 (by decide) ?_
  exact m_iret hx hb hr hlk hS (⟨rfl, rfl⟩) (Nat.le_refl 0) (Nat.le_refl 0) dX9_sell_23
theorem sel_ge {v : Int32} (h : 1 ≤ v) : (if 1 < v then v else 1) = v := by
  by_cases h2 : 1 < v
  · rw [if_pos h2]
  · rw [if_neg h2]
    exact Int32.le_antisymm h (Int32.not_lt.mp h2)
theorem sel_lt {v : Int32} (h : ¬ 1 ≤ v) : (if 1 < v then v else 1) = 1 := if_neg (fun q => h (Int32.le_of_lt q))
set_option maxHeartbeats 4000000 in
set_option maxRecDepth 100000 in
theorem M_sell (l : Launch) (X : Cx) (B : Nat → Nat) (n : Nat) (wm dy tl : Int32) (g : Nat → Rc) (hs : Nat → Int32) (rest : va_W) (t : Tr) (j f : Nat) (hn : n ≤ 40) (hkd : ∀ i, i < n → kd (g i) < 7) (hk0 : ∀ i, i < n → g i 0 = nI (kd (g i))) (hj : j < n) (hf : 5 ≤ f) (h0 : g j 3 = 2) : cI l yX9_sell cX9_sell 3 (some .int) (rl f) X [.ref (B 0), .int (nI j)] (wM X B n wm dy tl g hs rest false t) (fun v w' => v = sellV dy (g j) ∧ w' = wM X B n wm dy (tl + sellV dy (g j)) (va_up g j (va_up (g j) 3 3)) hs rest false t) := by
  refine met_start (by decide) (Nat.le_of_ble_eq_true rfl) ?_
  intro p e s m below meth c ls fx hS hl
  obtain ⟨hx, hb, hr, hml, hown, hG, hlk, hF, hz, hnm⟩ := fx
  have hown : s.vm.findClass RX9 = some m.cls := hown
  have hl : lv_has ls 3 [(0, .ref (B 0)), (1, .int (nI j))] := hl
  have hj4 : j < 40 := by omega
  refine lv_aload_n hx hb dX9_sell_0 rfl (lv_at hl 0 rfl) ?_
  refine lv_iload_n hx hb dX9_sell_1 rfl (lv_at hl 1 rfl) ?_
  refine m_ci (m_runV (n := 1) (rest := []) ⟨hx, hb, hml, hown, hG⟩ (M_isBatch l X B n wm dy tl g hs rest false t (nI j) 1 (by decide)) kw_528 kw_530 kw_6 kw_20 kw_531 (by decide +kernel) (rl_ok (by omega) (by decide)) hF hz hS (q0 := 0) rfl rfl rfl hl.1 rfl (Nat.le_of_ble_eq_true rfl) dX9_sell_2 ⟨Nat.zero_le _, Nat.zero_le _⟩) hS (fun r_1 w1 H locs hw1 hS => ?_)
  obtain ⟨rfl, rfl⟩ := hw1
  refine lv_if_ne (tgt := 11) hx hb dX9_sell_5 (by decide) (fun c_2 => ?_) (fun c_2 => absurd c_2 (by rw [isB_yes hj hn]; decide))
  refine lv_aload_n hx hb dX9_sell_11 rfl (lv_at hl 0 rfl) ?_
  refine m_get (v := .ref (B 3)) hx hb hG hown hF hS (0) rfl rfl iG_9 3 (by decide) kw_474 (fun _ h9 => h9) rfl dX9_sell_12 ?_
  refine lv_iload_n hx hb dX9_sell_15 rfl (lv_at hl 1 rfl) ?_
  refine m_ialdv (v := g j 3) hx hb hF hS (3) rfl (j) rfl (hj4) (by decide) rfl dX9_sell_16 ?_
  refine lv_iconst (v := 2) hx hb dX9_sell_17 (by decide) ?_
  refine lv_icmp_eq (tgt := 24) hx hb dX9_sell_18 (by decide) (fun c_3 => ?_) (fun c_3 => absurd (h0) c_3)
  refine lv_aload_n hx hb dX9_sell_24 rfl (lv_at hl 0 rfl) ?_
  refine lv_iload_n hx hb dX9_sell_25 rfl (lv_at hl 1 rfl) ?_
  refine m_ci (m_runV (n := 1) (rest := []) ⟨hx, hb, hml, hown, hG⟩ (M_price l X B n wm dy tl g hs rest false t j (kd (g j)) 3 hj4 (hk0 j hj) (hkd j hj) (by decide) tR.f) kw_552 kw_554 kw_12 kw_20 kw_555 (by decide +kernel) (rl_ok (by omega) (by decide)) hF hz hS (q0 := 0) rfl rfl rfl hl.1 rfl (Nat.le_of_ble_eq_true rfl) dX9_sell_26 ⟨Nat.zero_le _, Nat.zero_le _⟩) hS (fun r_4 w2 H locs hw2 hS => ?_)
  obtain ⟨rfl, rfl⟩ := hw2
  refine lv_aload_n hx hb dX9_sell_29 rfl (lv_at hl 0 rfl) ?_
  refine m_get (v := .ref (B 1)) hx hb hG hown hF hS (0) rfl rfl iG_9 1 (by decide) kw_472 (fun _ h9 => h9) rfl dX9_sell_30 ?_
  refine lv_iload_n hx hb dX9_sell_33 rfl (lv_at hl 1 rfl) ?_
  refine m_ialdv (v := nI (kd (g j))) hx hb hF hS (1) rfl (j) rfl (hj4) (by decide) (hk0 j hj) dX9_sell_34 ?_
  refine m_ci (m_runS (n := 1) (rest := [.int (priceV (kd (g j)) (g j 1))]) ⟨hx, hb, hml, hown, hG⟩ (M_isGlazed l X _ (nI (kd (g j))) 0) kw_563 kw_564 kw_20 kw_565 (by decide +kernel) (rl_ok (by omega) (by decide)) hF hz hS rfl hl.1 rfl (Nat.le_of_ble_eq_true rfl) dX9_sell_35 ⟨Nat.zero_le _, Nat.zero_le _⟩) hS (fun r_5 w3 H locs hw3 hS => ?_)
  obtain ⟨rfl, rfl⟩ := hw3
  by_cases h5 : 5 ≤ kd (g j)
  · refine lv_if_eq (tgt := 49) hx hb dX9_sell_38 (by decide) (fun c_6 => absurd c_6 (by rw [glaz_yes h5 (hkd j hj)]; decide)) (fun c_6 => ?_)
    refine lv_aload_n hx hb dX9_sell_41 rfl (lv_at hl 0 rfl) ?_
    refine lv_iload_n hx hb dX9_sell_42 rfl (lv_at hl 1 rfl) ?_
    refine m_ci (m_runV (n := 1) (rest := [.int (priceV (kd (g j)) (g j 1))]) ⟨hx, hb, hml, hown, hG⟩ (M_glaze l X B n wm dy tl g hs rest false t j (kd (g j)) 4 hj4 (hk0 j hj) h5 (hkd j hj) (by decide) tR.f) kw_566 kw_568 kw_14 kw_20 kw_569 (by decide +kernel) (rl_ok (by omega) (by decide)) hF hz hS (q0 := 0) rfl rfl rfl hl.1 rfl (Nat.le_of_ble_eq_true rfl) dX9_sell_43 ⟨Nat.zero_le _, Nat.zero_le _⟩) hS (fun r_7 w4 H locs hw4 hS => ?_)
    obtain ⟨rfl, rfl⟩ := hw4
    refine lv_goto (tgt := 50) hx hb dX9_sell_46 (by decide) ?_
    refine lv_iadd hx hb dX9_sell_50 ?_
    rw [show priceV (kd (g j)) (g j 1) + glazeV (kd (g j)) (g j 1) = worth (g j) from by rw [worth, if_pos h5]]
    refine lv_aload_n hx hb dX9_sell_51 rfl (lv_at hl 0 rfl) ?_
    refine m_get (v := .int dy) hx hb hG hown hF hS (0) rfl rfl iG_9 10 (by decide) kw_481 (fun _ h9 => h9) rfl dX9_sell_52 ?_
    refine lv_aload_n hx hb dX9_sell_55 rfl (lv_at hl 0 rfl) ?_
    refine m_get (v := .ref (B 7)) hx hb hG hown hF hS (0) rfl rfl iG_9 7 (by decide) kw_478 (fun _ h9 => h9) rfl dX9_sell_56 ?_
    refine lv_iload_n hx hb dX9_sell_59 rfl (lv_at hl 1 rfl) ?_
    refine m_ialdv (v := g j 7) hx hb hF hS (7) rfl (j) rfl (hj4) (by decide) rfl dX9_sell_60 ?_
    refine lv_isub hx hb dX9_sell_61 ?_
    refine lv_isub hx hb dX9_sell_62 ?_
    refine lv_istore_n (lv' := [(2, .int ((worth (g j)) - (dy - (g j 7)))), (0, .ref (B 0)), (1, .int (nI j))]) hx hb dX9_sell_63 rfl hl (by decide) rfl (fun ls hl => ?_)
    refine lv_iload_n hx hb dX9_sell_64 rfl (lv_at hl 0 rfl) ?_
    refine lv_iconst (v := 1) hx hb dX9_sell_65 (by decide) ?_
    refine lv_icmp_ge (tgt := 73) hx hb dX9_sell_66 (by decide) (fun c_8 => ?_) (fun c_8 => ?_)
    · refine lv_iload_n hx hb dX9_sell_73 rfl (lv_at hl 0 rfl) ?_
      refine lv_istore_n (lv' := [(2, .int ((worth (g j)) - (dy - (g j 7)))), (0, .ref (B 0)), (1, .int (nI j))]) hx hb dX9_sell_74 rfl hl (by decide) rfl (fun ls hl => ?_)
      refine lv_aload_n hx hb dX9_sell_75 rfl (lv_at hl 1 rfl) ?_
      refine lv_dup hx hb dX9_sell_76 rfl ?_
      refine m_get (v := .int tl) hx hb hG hown hF hS (0) rfl rfl iG_9 11 (by decide) kw_482 (fun _ h9 => h9) rfl dX9_sell_77 ?_
      refine lv_iload_n hx hb dX9_sell_80 rfl (lv_at hl 0 rfl) ?_
      refine lv_iadd hx hb dX9_sell_81 ?_
      refine m_put hx hb hG hown hF hS (0) rfl rfl iG_9 tyX9_ok nmX9 11 (by decide) kw_482 (fun _ h9 => h9) rfl rfl rfl (Nat.le_of_ble_eq_true rfl) (wM X B n wm dy (tl + ((worth (g j)) - (dy - (g j 7)))) g hs rest false t) rfl dX9_sell_82 (fun H locs hS => ?_)
      refine lv_aload_n hx hb dX9_sell_85 rfl (lv_at hl 1 rfl) ?_
      refine m_get (v := .ref (B 3)) hx hb hG hown hF hS (0) rfl rfl iG_9 3 (by decide) kw_474 (fun _ h9 => h9) rfl dX9_sell_86 ?_
      refine lv_iload_n hx hb dX9_sell_89 rfl (lv_at hl 2 rfl) ?_
      refine lv_iconst (v := 3) hx hb dX9_sell_90 (by decide) ?_
      refine m_iast hx hb hF hS (3) rfl (j) rfl (hj4) (by decide) (wM X B n wm dy (tl + ((worth (g j)) - (dy - (g j 7)))) (va_up g j (va_up (g j) 3 3)) hs rest false t) (wM_s3) dX9_sell_91 (fun H locs hS => ?_)
      refine lv_iload_n hx hb dX9_sell_92 rfl (lv_at hl 0 rfl) ?_
      exact m_iret hx hb hr hlk hS (⟨(sel_ge c_8).symm, by rw [show sellV dy (g j) = _ from ((sel_ge c_8).symm).symm]⟩) (Nat.le_refl 0) (Nat.le_refl 0) dX9_sell_93
    · refine lv_iconst (v := 1) hx hb dX9_sell_69 (by decide) ?_
      refine lv_goto (tgt := 74) hx hb dX9_sell_70 (by decide) ?_
      refine lv_istore_n (lv' := [(2, .int 1), (0, .ref (B 0)), (1, .int (nI j))]) hx hb dX9_sell_74 rfl hl (by decide) rfl (fun ls hl => ?_)
      refine lv_aload_n hx hb dX9_sell_75 rfl (lv_at hl 1 rfl) ?_
      refine lv_dup hx hb dX9_sell_76 rfl ?_
      refine m_get (v := .int tl) hx hb hG hown hF hS (0) rfl rfl iG_9 11 (by decide) kw_482 (fun _ h9 => h9) rfl dX9_sell_77 ?_
      refine lv_iload_n hx hb dX9_sell_80 rfl (lv_at hl 0 rfl) ?_
      refine lv_iadd hx hb dX9_sell_81 ?_
      refine m_put hx hb hG hown hF hS (0) rfl rfl iG_9 tyX9_ok nmX9 11 (by decide) kw_482 (fun _ h9 => h9) rfl rfl rfl (Nat.le_of_ble_eq_true rfl) (wM X B n wm dy (tl + 1) g hs rest false t) rfl dX9_sell_82 (fun H locs hS => ?_)
      refine lv_aload_n hx hb dX9_sell_85 rfl (lv_at hl 1 rfl) ?_
      refine m_get (v := .ref (B 3)) hx hb hG hown hF hS (0) rfl rfl iG_9 3 (by decide) kw_474 (fun _ h9 => h9) rfl dX9_sell_86 ?_
      refine lv_iload_n hx hb dX9_sell_89 rfl (lv_at hl 2 rfl) ?_
      refine lv_iconst (v := 3) hx hb dX9_sell_90 (by decide) ?_
      refine m_iast hx hb hF hS (3) rfl (j) rfl (hj4) (by decide) (wM X B n wm dy (tl + 1) (va_up g j (va_up (g j) 3 3)) hs rest false t) (wM_s3) dX9_sell_91 (fun H locs hS => ?_)
      refine lv_iload_n hx hb dX9_sell_92 rfl (lv_at hl 0 rfl) ?_
      exact m_iret hx hb hr hlk hS (⟨(sel_lt c_8).symm, by rw [show sellV dy (g j) = _ from ((sel_lt c_8).symm).symm]⟩) (Nat.le_refl 0) (Nat.le_refl 0) dX9_sell_93
  · refine lv_if_eq (tgt := 49) hx hb dX9_sell_38 (by decide) (fun c_6 => ?_) (fun c_6 => absurd (glaz_no h5) c_6)
    refine lv_iconst (v := 0) hx hb dX9_sell_49 (by decide) ?_
    refine lv_iadd hx hb dX9_sell_50 ?_
    rw [show priceV (kd (g j)) (g j 1) + 0 = worth (g j) from by rw [worth, if_neg h5, Int32.add_zero]]
    refine lv_aload_n hx hb dX9_sell_51 rfl (lv_at hl 0 rfl) ?_
    refine m_get (v := .int dy) hx hb hG hown hF hS (0) rfl rfl iG_9 10 (by decide) kw_481 (fun _ h9 => h9) rfl dX9_sell_52 ?_
    refine lv_aload_n hx hb dX9_sell_55 rfl (lv_at hl 0 rfl) ?_
    refine m_get (v := .ref (B 7)) hx hb hG hown hF hS (0) rfl rfl iG_9 7 (by decide) kw_478 (fun _ h9 => h9) rfl dX9_sell_56 ?_
    refine lv_iload_n hx hb dX9_sell_59 rfl (lv_at hl 1 rfl) ?_
    refine m_ialdv (v := g j 7) hx hb hF hS (7) rfl (j) rfl (hj4) (by decide) rfl dX9_sell_60 ?_
    refine lv_isub hx hb dX9_sell_61 ?_
    refine lv_isub hx hb dX9_sell_62 ?_
    refine lv_istore_n (lv' := [(2, .int ((worth (g j)) - (dy - (g j 7)))), (0, .ref (B 0)), (1, .int (nI j))]) hx hb dX9_sell_63 rfl hl (by decide) rfl (fun ls hl => ?_)
    refine lv_iload_n hx hb dX9_sell_64 rfl (lv_at hl 0 rfl) ?_
    refine lv_iconst (v := 1) hx hb dX9_sell_65 (by decide) ?_
    refine lv_icmp_ge (tgt := 73) hx hb dX9_sell_66 (by decide) (fun c_7 => ?_) (fun c_7 => ?_)
    · refine lv_iload_n hx hb dX9_sell_73 rfl (lv_at hl 0 rfl) ?_
      refine lv_istore_n (lv' := [(2, .int ((worth (g j)) - (dy - (g j 7)))), (0, .ref (B 0)), (1, .int (nI j))]) hx hb dX9_sell_74 rfl hl (by decide) rfl (fun ls hl => ?_)
      refine lv_aload_n hx hb dX9_sell_75 rfl (lv_at hl 1 rfl) ?_
      refine lv_dup hx hb dX9_sell_76 rfl ?_
      refine m_get (v := .int tl) hx hb hG hown hF hS (0) rfl rfl iG_9 11 (by decide) kw_482 (fun _ h9 => h9) rfl dX9_sell_77 ?_
      refine lv_iload_n hx hb dX9_sell_80 rfl (lv_at hl 0 rfl) ?_
      refine lv_iadd hx hb dX9_sell_81 ?_
      refine m_put hx hb hG hown hF hS (0) rfl rfl iG_9 tyX9_ok nmX9 11 (by decide) kw_482 (fun _ h9 => h9) rfl rfl rfl (Nat.le_of_ble_eq_true rfl) (wM X B n wm dy (tl + ((worth (g j)) - (dy - (g j 7)))) g hs rest false t) rfl dX9_sell_82 (fun H locs hS => ?_)
      refine lv_aload_n hx hb dX9_sell_85 rfl (lv_at hl 1 rfl) ?_
      refine m_get (v := .ref (B 3)) hx hb hG hown hF hS (0) rfl rfl iG_9 3 (by decide) kw_474 (fun _ h9 => h9) rfl dX9_sell_86 ?_
      refine lv_iload_n hx hb dX9_sell_89 rfl (lv_at hl 2 rfl) ?_
      refine lv_iconst (v := 3) hx hb dX9_sell_90 (by decide) ?_
      refine m_iast hx hb hF hS (3) rfl (j) rfl (hj4) (by decide) (wM X B n wm dy (tl + ((worth (g j)) - (dy - (g j 7)))) (va_up g j (va_up (g j) 3 3)) hs rest false t) (wM_s3) dX9_sell_91 (fun H locs hS => ?_)
      refine lv_iload_n hx hb dX9_sell_92 rfl (lv_at hl 0 rfl) ?_
      exact m_iret hx hb hr hlk hS (⟨(sel_ge c_7).symm, by rw [show sellV dy (g j) = _ from ((sel_ge c_7).symm).symm]⟩) (Nat.le_refl 0) (Nat.le_refl 0) dX9_sell_93
    · refine lv_iconst (v := 1) hx hb dX9_sell_69 (by decide) ?_
      refine lv_goto (tgt := 74) hx hb dX9_sell_70 (by decide) ?_
      refine lv_istore_n (lv' := [(2, .int 1), (0, .ref (B 0)), (1, .int (nI j))]) hx hb dX9_sell_74 rfl hl (by decide) rfl (fun ls hl => ?_)
      refine lv_aload_n hx hb dX9_sell_75 rfl (lv_at hl 1 rfl) ?_
      refine lv_dup hx hb dX9_sell_76 rfl ?_
      refine m_get (v := .int tl) hx hb hG hown hF hS (0) rfl rfl iG_9 11 (by decide) kw_482 (fun _ h9 => h9) rfl dX9_sell_77 ?_
      refine lv_iload_n hx hb dX9_sell_80 rfl (lv_at hl 0 rfl) ?_
      refine lv_iadd hx hb dX9_sell_81 ?_
      refine m_put hx hb hG hown hF hS (0) rfl rfl iG_9 tyX9_ok nmX9 11 (by decide) kw_482 (fun _ h9 => h9) rfl rfl rfl (Nat.le_of_ble_eq_true rfl) (wM X B n wm dy (tl + 1) g hs rest false t) rfl dX9_sell_82 (fun H locs hS => ?_)
      refine lv_aload_n hx hb dX9_sell_85 rfl (lv_at hl 1 rfl) ?_
      refine m_get (v := .ref (B 3)) hx hb hG hown hF hS (0) rfl rfl iG_9 3 (by decide) kw_474 (fun _ h9 => h9) rfl dX9_sell_86 ?_
      refine lv_iload_n hx hb dX9_sell_89 rfl (lv_at hl 2 rfl) ?_
      refine lv_iconst (v := 3) hx hb dX9_sell_90 (by decide) ?_
      refine m_iast hx hb hF hS (3) rfl (j) rfl (hj4) (by decide) (wM X B n wm dy (tl + 1) (va_up g j (va_up (g j) 3 3)) hs rest false t) (wM_s3) dX9_sell_91 (fun H locs hS => ?_)
      refine lv_iload_n hx hb dX9_sell_92 rfl (lv_at hl 0 rfl) ?_
      exact m_iret hx hb hr hlk hS (⟨(sel_lt c_7).symm, by rw [show sellV dy (g j) = _ from ((sel_lt c_7).symm).symm]⟩) (Nat.le_refl 0) (Nat.le_refl 0) dX9_sell_93
set_option maxHeartbeats 4000000 in
set_option maxRecDepth 100000 in
theorem M_batch_bad (l : Launch) (X : Cx) (B : Nat → Nat) (n : Nat) (wm dy tl : Int32) (g : Nat → Rc) (hs : Nat → Int32) (rest : va_W) (t : Tr) (k ma : Int32) (f : Nat) (hf : 1 ≤ f) (h0 : inB k 0 6 = 0 ∨ inB ma 1 500 = 0) : cI l yX9_batch cX9_batch 3 (some .int) (rl f) X [.ref (B 0), .int k, .int ma] (wM X B n wm dy tl g hs rest false t) (fun v w => v = -2 ∧ w = wM X B n wm dy tl g hs rest false t) := by
  refine met_start (by decide) (Nat.le_of_ble_eq_true rfl) ?_
  intro p e s m below meth c ls fx hS hl
  obtain ⟨hx, hb, hr, hml, hown, hG, hlk, hF, hz, hnm⟩ := fx
  have hown : s.vm.findClass RX9 = some m.cls := hown
  have hl : lv_has ls 3 [(0, .ref (B 0)), (1, .int k), (2, .int ma)] := hl
  refine lv_iload_n hx hb dX9_batch_0 rfl (lv_at hl 1 rfl) ?_
  refine lv_iconst (v := 0) hx hb dX9_batch_1 (by decide) ?_
  refine lv_bipush (v := 6) hx hb dX9_batch_2 (by decide) ?_
  refine m_ci (m_runS (n := 3) (rest := []) ⟨hx, hb, hml, hown, hG⟩ (c_in l X _ k 0 6 0) kw_521 kw_522 kw_20 kw_523 (by decide +kernel) (rl_ok (by omega) (by decide)) hF hz hS rfl hl.1 rfl (Nat.le_of_ble_eq_true rfl) dX9_batch_4 ⟨Nat.zero_le _, Nat.zero_le _⟩) hS (fun r_1 w1 H locs hw1 hS => ?_)
  obtain ⟨rfl, rfl⟩ := hw1
  refine lv_if_eq (tgt := 21) hx hb dX9_batch_7 (by decide) (fun c_2 => ?_) (fun c_2 => ?_)
  · refine lv_bipush (v := -2) hx hb dX9_batch_21 (by decide) ?_
    exact m_iret hx hb hr hlk hS (⟨rfl, rfl⟩) (Nat.le_refl 0) (Nat.le_refl 0) dX9_batch_23
  · refine lv_iload_n hx hb dX9_batch_10 rfl (lv_at hl 2 rfl) ?_
    refine lv_iconst (v := 1) hx hb dX9_batch_11 (by decide) ?_
    refine lv_sipush (v := 500) hx hb dX9_batch_12 (by decide) ?_
    refine m_ci (m_runS (n := 3) (rest := []) ⟨hx, hb, hml, hown, hG⟩ (c_in l X _ ma 1 500 0) kw_521 kw_522 kw_20 kw_523 (by decide +kernel) (rl_ok (by omega) (by decide)) hF hz hS rfl hl.1 rfl (Nat.le_of_ble_eq_true rfl) dX9_batch_15 ⟨Nat.zero_le _, Nat.zero_le _⟩) hS (fun r_3 w2 H locs hw2 hS => ?_)
    obtain ⟨rfl, rfl⟩ := hw2
    refine lv_if_ne (tgt := 24) hx hb dX9_batch_18 (by decide) (fun c_4 => absurd (h0.resolve_left c_2) c_4) (fun c_4 => ?_)
    refine lv_bipush (v := -2) hx hb dX9_batch_21 (by decide) ?_
    exact m_iret hx hb hr hlk hS (⟨rfl, rfl⟩) (Nat.le_refl 0) (Nat.le_refl 0) dX9_batch_23
set_option maxHeartbeats 4000000 in
set_option maxRecDepth 100000 in
theorem M_batch_full (l : Launch) (X : Cx) (B : Nat → Nat) (n : Nat) (wm dy tl : Int32) (g : Nat → Rc) (hs : Nat → Int32) (rest : va_W) (t : Tr) (k ma : Int32) (f : Nat) (hf : 1 ≤ f) (h0 : ¬ inB k 0 6 = 0) (h1 : ¬ inB ma 1 500 = 0) (h2 : n = 40) : cI l yX9_batch cX9_batch 3 (some .int) (rl f) X [.ref (B 0), .int k, .int ma] (wM X B n wm dy tl g hs rest false t) (fun v w => v = -4 ∧ w = wM X B n wm dy tl g hs rest false t) := by
  refine met_start (by decide) (Nat.le_of_ble_eq_true rfl) ?_
  intro p e s m below meth c ls fx hS hl
  obtain ⟨hx, hb, hr, hml, hown, hG, hlk, hF, hz, hnm⟩ := fx
  have hown : s.vm.findClass RX9 = some m.cls := hown
  have hl : lv_has ls 3 [(0, .ref (B 0)), (1, .int k), (2, .int ma)] := hl
  refine lv_iload_n hx hb dX9_batch_0 rfl (lv_at hl 1 rfl) ?_
  refine lv_iconst (v := 0) hx hb dX9_batch_1 (by decide) ?_
  refine lv_bipush (v := 6) hx hb dX9_batch_2 (by decide) ?_
  refine m_ci (m_runS (n := 3) (rest := []) ⟨hx, hb, hml, hown, hG⟩ (c_in l X _ k 0 6 0) kw_521 kw_522 kw_20 kw_523 (by decide +kernel) (rl_ok (by omega) (by decide)) hF hz hS rfl hl.1 rfl (Nat.le_of_ble_eq_true rfl) dX9_batch_4 ⟨Nat.zero_le _, Nat.zero_le _⟩) hS (fun r_1 w1 H locs hw1 hS => ?_)
  obtain ⟨rfl, rfl⟩ := hw1
  refine lv_if_eq (tgt := 21) hx hb dX9_batch_7 (by decide) (fun c_2 => absurd c_2 (h0)) (fun c_2 => ?_)
  refine lv_iload_n hx hb dX9_batch_10 rfl (lv_at hl 2 rfl) ?_
  refine lv_iconst (v := 1) hx hb dX9_batch_11 (by decide) ?_
  refine lv_sipush (v := 500) hx hb dX9_batch_12 (by decide) ?_
  refine m_ci (m_runS (n := 3) (rest := []) ⟨hx, hb, hml, hown, hG⟩ (c_in l X _ ma 1 500 0) kw_521 kw_522 kw_20 kw_523 (by decide +kernel) (rl_ok (by omega) (by decide)) hF hz hS rfl hl.1 rfl (Nat.le_of_ble_eq_true rfl) dX9_batch_15 ⟨Nat.zero_le _, Nat.zero_le _⟩) hS (fun r_3 w2 H locs hw2 hS => ?_)
  obtain ⟨rfl, rfl⟩ := hw2
  refine lv_if_ne (tgt := 24) hx hb dX9_batch_18 (by decide) (fun c_4 => ?_) (fun c_4 => absurd c_4 (h1))
  refine lv_aload_n hx hb dX9_batch_24 rfl (lv_at hl 0 rfl) ?_
  refine m_get (v := .int (nI n)) hx hb hG hown hF hS (0) rfl rfl iG_9 0 (by decide) kw_471 (fun _ h9 => h9) rfl dX9_batch_25 ?_
  refine lv_bipush (v := 40) hx hb dX9_batch_28 (by decide) ?_
  refine lv_icmp_ne (tgt := 36) hx hb dX9_batch_30 (by decide) (fun c_5 => absurd (by rw [h2]; rfl) c_5) (fun c_5 => ?_)
  refine lv_bipush (v := -4) hx hb dX9_batch_33 (by decide) ?_
  exact m_iret hx hb hr hlk hS (⟨rfl, rfl⟩) (Nat.le_refl 0) (Nat.le_refl 0) dX9_batch_35
set_option maxHeartbeats 4000000 in
set_option maxRecDepth 100000 in
theorem M_batch (l : Launch) (X : Cx) (B : Nat → Nat) (n : Nat) (wm dy tl : Int32) (g : Nat → Rc) (hs : Nat → Int32) (rest : va_W) (t : Tr) (k ma : Int32) (f : Nat) (hf : 1 ≤ f) (h0 : ¬ inB k 0 6 = 0) (h1 : ¬ inB ma 1 500 = 0) (h2 : n < 40) : cI l yX9_batch cX9_batch 3 (some .int) (rl f) X [.ref (B 0), .int k, .int ma] (wM X B n wm dy tl g hs rest false t) (fun v w => v = nI n ∧ w = wM X B (n + 1) wm dy tl (va_up g n (va_up (va_up (va_up (g n) 0 k) 1 ma) 3 0)) hs rest false t) := by
  refine met_start (by decide) (Nat.le_of_ble_eq_true rfl) ?_
  intro p e s m below meth c ls fx hS hl
  obtain ⟨hx, hb, hr, hml, hown, hG, hlk, hF, hz, hnm⟩ := fx
  have hown : s.vm.findClass RX9 = some m.cls := hown
  have hl : lv_has ls 3 [(0, .ref (B 0)), (1, .int k), (2, .int ma)] := hl
  refine lv_iload_n hx hb dX9_batch_0 rfl (lv_at hl 1 rfl) ?_
  refine lv_iconst (v := 0) hx hb dX9_batch_1 (by decide) ?_
  refine lv_bipush (v := 6) hx hb dX9_batch_2 (by decide) ?_
  refine m_ci (m_runS (n := 3) (rest := []) ⟨hx, hb, hml, hown, hG⟩ (c_in l X _ k 0 6 0) kw_521 kw_522 kw_20 kw_523 (by decide +kernel) (rl_ok (by omega) (by decide)) hF hz hS rfl hl.1 rfl (Nat.le_of_ble_eq_true rfl) dX9_batch_4 ⟨Nat.zero_le _, Nat.zero_le _⟩) hS (fun r_1 w1 H locs hw1 hS => ?_)
  obtain ⟨rfl, rfl⟩ := hw1
  refine lv_if_eq (tgt := 21) hx hb dX9_batch_7 (by decide) (fun c_2 => absurd c_2 (h0)) (fun c_2 => ?_)
  refine lv_iload_n hx hb dX9_batch_10 rfl (lv_at hl 2 rfl) ?_
  refine lv_iconst (v := 1) hx hb dX9_batch_11 (by decide) ?_
  refine lv_sipush (v := 500) hx hb dX9_batch_12 (by decide) ?_
  refine m_ci (m_runS (n := 3) (rest := []) ⟨hx, hb, hml, hown, hG⟩ (c_in l X _ ma 1 500 0) kw_521 kw_522 kw_20 kw_523 (by decide +kernel) (rl_ok (by omega) (by decide)) hF hz hS rfl hl.1 rfl (Nat.le_of_ble_eq_true rfl) dX9_batch_15 ⟨Nat.zero_le _, Nat.zero_le _⟩) hS (fun r_3 w2 H locs hw2 hS => ?_)
  obtain ⟨rfl, rfl⟩ := hw2
  refine lv_if_ne (tgt := 24) hx hb dX9_batch_18 (by decide) (fun c_4 => ?_) (fun c_4 => absurd c_4 (h1))
  refine lv_aload_n hx hb dX9_batch_24 rfl (lv_at hl 0 rfl) ?_
  refine m_get (v := .int (nI n)) hx hb hG hown hF hS (0) rfl rfl iG_9 0 (by decide) kw_471 (fun _ h9 => h9) rfl dX9_batch_25 ?_
  refine lv_bipush (v := 40) hx hb dX9_batch_28 (by decide) ?_
  refine lv_icmp_ne (tgt := 36) hx hb dX9_batch_30 (by decide) (fun c_5 => ?_) (fun c_5 => absurd c_5 (by rw [show (40 : Int32) = nI 40 from rfl, nI_eq (by omega) (by decide)]; omega))
  refine lv_aload_n hx hb dX9_batch_36 rfl (lv_at hl 0 rfl) ?_
  refine m_get (v := .ref (B 1)) hx hb hG hown hF hS (0) rfl rfl iG_9 1 (by decide) kw_472 (fun _ h9 => h9) rfl dX9_batch_37 ?_
  refine lv_aload_n hx hb dX9_batch_40 rfl (lv_at hl 0 rfl) ?_
  refine m_get (v := .int (nI n)) hx hb hG hown hF hS (0) rfl rfl iG_9 0 (by decide) kw_471 (fun _ h9 => h9) rfl dX9_batch_41 ?_
  refine lv_iload_n hx hb dX9_batch_44 rfl (lv_at hl 1 rfl) ?_
  refine m_iast hx hb hF hS (1) rfl (n) rfl (h2) (by decide) (wM X B n wm dy tl (va_up g n (va_up (g n) 0 k)) hs rest false t) (wM_s0) dX9_batch_45 (fun H locs hS => ?_)
  refine lv_aload_n hx hb dX9_batch_46 rfl (lv_at hl 0 rfl) ?_
  refine m_get (v := .ref (B 2)) hx hb hG hown hF hS (0) rfl rfl iG_9 2 (by decide) kw_473 (fun _ h9 => h9) rfl dX9_batch_47 ?_
  refine lv_aload_n hx hb dX9_batch_50 rfl (lv_at hl 0 rfl) ?_
  refine m_get (v := .int (nI n)) hx hb hG hown hF hS (0) rfl rfl iG_9 0 (by decide) kw_471 (fun _ h9 => h9) rfl dX9_batch_51 ?_
  refine lv_iload_n hx hb dX9_batch_54 rfl (lv_at hl 2 rfl) ?_
  refine m_iast hx hb hF hS (2) rfl (n) rfl (h2) (by decide) (wM X B n wm dy tl (va_up g n (va_up (va_up (g n) 0 k) 1 ma)) hs rest false t) (by rw [wM_s1, va_up_up, va_up_self]) dX9_batch_55 (fun H locs hS => ?_)
  refine lv_aload_n hx hb dX9_batch_56 rfl (lv_at hl 0 rfl) ?_
  refine m_get (v := .ref (B 3)) hx hb hG hown hF hS (0) rfl rfl iG_9 3 (by decide) kw_474 (fun _ h9 => h9) rfl dX9_batch_57 ?_
  refine lv_aload_n hx hb dX9_batch_60 rfl (lv_at hl 0 rfl) ?_
  refine m_get (v := .int (nI n)) hx hb hG hown hF hS (0) rfl rfl iG_9 0 (by decide) kw_471 (fun _ h9 => h9) rfl dX9_batch_61 ?_
  refine lv_iconst (v := 0) hx hb dX9_batch_64 (by decide) ?_
  refine m_iast hx hb hF hS (3) rfl (n) rfl (h2) (by decide) (wM X B n wm dy tl (va_up g n (va_up (va_up (va_up (g n) 0 k) 1 ma) 3 0)) hs rest false t) (by rw [wM_s3, va_up_up, va_up_self]) dX9_batch_65 (fun H locs hS => ?_)
  refine lv_aload_n hx hb dX9_batch_66 rfl (lv_at hl 0 rfl) ?_
  refine lv_dup hx hb dX9_batch_67 rfl ?_
  refine m_get (v := .int (nI n)) hx hb hG hown hF hS (0) rfl rfl iG_9 0 (by decide) kw_471 (fun _ h9 => h9) rfl dX9_batch_68 ?_
  refine lv_iconst (v := 1) hx hb dX9_batch_71 (by decide) ?_
  refine lv_iadd hx hb dX9_batch_72 ?_
  refine m_put hx hb hG hown hF hS (0) rfl rfl iG_9 tyX9_ok nmX9 0 (by decide) kw_471 (fun _ h9 => h9) rfl rfl rfl (Nat.le_of_ble_eq_true rfl) (wM X B (n + 1) wm dy tl (va_up g n (va_up (va_up (va_up (g n) 0 k) 1 ma) 3 0)) hs rest false t) (by rw [nI_1]; rfl) dX9_batch_73 (fun H locs hS => ?_)
  refine lv_aload_n hx hb dX9_batch_76 rfl (lv_at hl 0 rfl) ?_
  refine m_get (v := .int (nI (n + 1))) hx hb hG hown hF hS (0) rfl rfl iG_9 0 (by decide) kw_471 (fun _ h9 => h9) rfl dX9_batch_77 ?_
  refine lv_iconst (v := 1) hx hb dX9_batch_80 (by decide) ?_
  refine lv_isub hx hb dX9_batch_81 ?_
  exact m_iret hx hb hr hlk hS (⟨nI_pred n, rfl⟩) (Nat.le_refl 0) (Nat.le_refl 0) dX9_batch_82
end
