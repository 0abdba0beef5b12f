section
-- ===== PART A: goes FIRST, ahead of the names: the tables' words, and 'selects' of the private methods out of them =====
/-- a private method of a class that the tables say can be made, by its rows of tables_1 -/
def lw_okq (q : MethodName × Nat) : Prop := (q.1.cls ≠ "java/lang/invoke/MethodHandle" ∧ q.1.cls ≠ "java/lang/invoke/VarHandle") ∧ Cond.instantiable q.1.cls q.2 ∈ tables_1 ∧ Cond.privateMethod q.1 ∈ tables_1 ∧ Cond.instanceMethod q.1 ∈ tables_1
theorem lw_p0 : lw_okq (⟨"CloningMachine$Machine", "shapeAnew", "()V"⟩, 11) := ⟨⟨by decide +kernel, by decide +kernel⟩, List.mem_of_getElem? (i := 51) (by decide +kernel), List.mem_of_getElem? (i := 63) (by decide +kernel), List.mem_of_getElem? (i := 64) (by decide +kernel)⟩
theorem lw_p1 : lw_okq (⟨"CloningMachine$Packer", "packBit", "(I)V"⟩, 5) := ⟨⟨by decide +kernel, by decide +kernel⟩, List.mem_of_getElem? (i := 144) (by decide +kernel), List.mem_of_getElem? (i := 344) (by decide +kernel), List.mem_of_getElem? (i := 345) (by decide +kernel)⟩
theorem lw_p2 : lw_okq (⟨"CloningMachine$Machine", "bothCounts", "(I)I"⟩, 11) := ⟨⟨by decide +kernel, by decide +kernel⟩, List.mem_of_getElem? (i := 51) (by decide +kernel), List.mem_of_getElem? (i := 359) (by decide +kernel), List.mem_of_getElem? (i := 360) (by decide +kernel)⟩
theorem lw_p3 : lw_okq (⟨"CloningMachine$Packer", "putTop", "()V"⟩, 5) := ⟨⟨by decide +kernel, by decide +kernel⟩, List.mem_of_getElem? (i := 144) (by decide +kernel), List.mem_of_getElem? (i := 384) (by decide +kernel), List.mem_of_getElem? (i := 385) (by decide +kernel)⟩
theorem lw_p4 : lw_okq (⟨"CloningMachine$Machine", "cloneFrom", "(III)I"⟩, 11) := ⟨⟨by decide +kernel, by decide +kernel⟩, List.mem_of_getElem? (i := 51) (by decide +kernel), List.mem_of_getElem? (i := 404) (by decide +kernel), List.mem_of_getElem? (i := 405) (by decide +kernel)⟩
theorem lw_p5 : lw_okq (⟨"CloningMachine$Unpacker", "pullByte", "()V"⟩, 7) := ⟨⟨by decide +kernel, by decide +kernel⟩, List.mem_of_getElem? (i := 183) (by decide +kernel), List.mem_of_getElem? (i := 422) (by decide +kernel), List.mem_of_getElem? (i := 423) (by decide +kernel)⟩
theorem lw_p6 : lw_okq (⟨"CloningMachine$Unpacker", "unpackBit", "()I"⟩, 7) := ⟨⟨by decide +kernel, by decide +kernel⟩, List.mem_of_getElem? (i := 183) (by decide +kernel), List.mem_of_getElem? (i := 433) (by decide +kernel), List.mem_of_getElem? (i := 434) (by decide +kernel)⟩
theorem lw_p7 : lw_okq (⟨"CloningMachine$Machine", "reckonFlows", "()V"⟩, 11) := ⟨⟨by decide +kernel, by decide +kernel⟩, List.mem_of_getElem? (i := 51) (by decide +kernel), List.mem_of_getElem? (i := 496) (by decide +kernel), List.mem_of_getElem? (i := 497) (by decide +kernel)⟩
theorem lw_p8 : lw_okq (⟨"CloningMachine", "costOfByte", "(I)I"⟩, 10) := ⟨⟨by decide +kernel, by decide +kernel⟩, List.mem_of_getElem? (i := 13) (by decide +kernel), List.mem_of_getElem? (i := 552) (by decide +kernel), List.mem_of_getElem? (i := 553) (by decide +kernel)⟩
theorem lw_p9 : lw_okq (⟨"CloningMachine", "keptPlace", "(I)LCloningMachine$Kept;"⟩, 10) := ⟨⟨by decide +kernel, by decide +kernel⟩, List.mem_of_getElem? (i := 13) (by decide +kernel), List.mem_of_getElem? (i := 560) (by decide +kernel), List.mem_of_getElem? (i := 561) (by decide +kernel)⟩
theorem lw_p10 : lw_okq (⟨"CloningMachineModel", "renews", "(I)V"⟩, 14) := ⟨⟨by decide +kernel, by decide +kernel⟩, List.mem_of_getElem? (i := 587) (by decide +kernel), List.mem_of_getElem? (i := 593) (by decide +kernel), List.mem_of_getElem? (i := 594) (by decide +kernel)⟩
theorem lw_p11 : lw_okq (⟨"CloningMachineModel", "lays", "(I)V"⟩, 14) := ⟨⟨by decide +kernel, by decide +kernel⟩, List.mem_of_getElem? (i := 587) (by decide +kernel), List.mem_of_getElem? (i := 597) (by decide +kernel), List.mem_of_getElem? (i := 598) (by decide +kernel)⟩
theorem lw_p12 : lw_okq (⟨"CloningMachineModel", "begins", "()V"⟩, 14) := ⟨⟨by decide +kernel, by decide +kernel⟩, List.mem_of_getElem? (i := 587) (by decide +kernel), List.mem_of_getElem? (i := 672) (by decide +kernel), List.mem_of_getElem? (i := 673) (by decide +kernel)⟩
theorem lw_p13 : lw_okq (⟨"CloningMachineModel", "place", "(I)I"⟩, 14) := ⟨⟨by decide +kernel, by decide +kernel⟩, List.mem_of_getElem? (i := 587) (by decide +kernel), List.mem_of_getElem? (i := 677) (by decide +kernel), List.mem_of_getElem? (i := 678) (by decide +kernel)⟩
theorem lw_p14 : lw_okq (⟨"CloningMachineModel", "narrows", "(IZ)V"⟩, 14) := ⟨⟨by decide +kernel, by decide +kernel⟩, List.mem_of_getElem? (i := 587) (by decide +kernel), List.mem_of_getElem? (i := 681) (by decide +kernel), List.mem_of_getElem? (i := 682) (by decide +kernel)⟩
theorem lw_p15 : lw_okq (⟨"CloningMachineModel", "middle", "()J"⟩, 14) := ⟨⟨by decide +kernel, by decide +kernel⟩, List.mem_of_getElem? (i := 587) (by decide +kernel), List.mem_of_getElem? (i := 685) (by decide +kernel), List.mem_of_getElem? (i := 686) (by decide +kernel)⟩
def lw_privs_1 : List (MethodName × Nat) := [(⟨"CloningMachine$Machine", "shapeAnew", "()V"⟩, 11), (⟨"CloningMachine$Packer", "packBit", "(I)V"⟩, 5), (⟨"CloningMachine$Machine", "bothCounts", "(I)I"⟩, 11), (⟨"CloningMachine$Packer", "putTop", "()V"⟩, 5), (⟨"CloningMachine$Machine", "cloneFrom", "(III)I"⟩, 11), (⟨"CloningMachine$Unpacker", "pullByte", "()V"⟩, 7), (⟨"CloningMachine$Unpacker", "unpackBit", "()I"⟩, 7), (⟨"CloningMachine$Machine", "reckonFlows", "()V"⟩, 11), (⟨"CloningMachine", "costOfByte", "(I)I"⟩, 10), (⟨"CloningMachine", "keptPlace", "(I)LCloningMachine$Kept;"⟩, 10), (⟨"CloningMachineModel", "renews", "(I)V"⟩, 14), (⟨"CloningMachineModel", "lays", "(I)V"⟩, 14), (⟨"CloningMachineModel", "begins", "()V"⟩, 14), (⟨"CloningMachineModel", "place", "(I)I"⟩, 14), (⟨"CloningMachineModel", "narrows", "(IZ)V"⟩, 14), (⟨"CloningMachineModel", "middle", "()J"⟩, 14)]
theorem lw_r1 : ∀ q ∈ lw_privs_1, lw_okq q := List.forall_mem_cons.mpr ⟨lw_p0, List.forall_mem_cons.mpr ⟨lw_p1, List.forall_mem_cons.mpr ⟨lw_p2, List.forall_mem_cons.mpr ⟨lw_p3, List.forall_mem_cons.mpr ⟨lw_p4, List.forall_mem_cons.mpr ⟨lw_p5, List.forall_mem_cons.mpr ⟨lw_p6, List.forall_mem_cons.mpr ⟨lw_p7, List.forall_mem_cons.mpr ⟨lw_p8, List.forall_mem_cons.mpr ⟨lw_p9, List.forall_mem_cons.mpr ⟨lw_p10, List.forall_mem_cons.mpr ⟨lw_p11, List.forall_mem_cons.mpr ⟨lw_p12, List.forall_mem_cons.mpr ⟨lw_p13, List.forall_mem_cons.mpr ⟨lw_p14, List.forall_mem_cons.mpr ⟨lw_p15, fun _ h => absurd h List.not_mem_nil⟩⟩⟩⟩⟩⟩⟩⟩⟩⟩⟩⟩⟩⟩⟩⟩
theorem lw_p16 : lw_okq (⟨"CloningMachineModel", "chance", "(II)I"⟩, 14) := ⟨⟨by decide +kernel, by decide +kernel⟩, List.mem_of_getElem? (i := 587) (by decide +kernel), List.mem_of_getElem? (i := 690) (by decide +kernel), List.mem_of_getElem? (i := 691) (by decide +kernel)⟩
theorem lw_p17 : lw_okq (⟨"CloningMachineModel", "both", "(II)I"⟩, 14) := ⟨⟨by decide +kernel, by decide +kernel⟩, List.mem_of_getElem? (i := 587) (by decide +kernel), List.mem_of_getElem? (i := 694) (by decide +kernel), List.mem_of_getElem? (i := 695) (by decide +kernel)⟩
theorem lw_p18 : lw_okq (⟨"CloningMachineModel", "takes", "(II)V"⟩, 14) := ⟨⟨by decide +kernel, by decide +kernel⟩, List.mem_of_getElem? (i := 587) (by decide +kernel), List.mem_of_getElem? (i := 701) (by decide +kernel), List.mem_of_getElem? (i := 702) (by decide +kernel)⟩
theorem lw_p19 : lw_okq (⟨"CloningMachineModel", "clones", "(IIIIII)V"⟩, 14) := ⟨⟨by decide +kernel, by decide +kernel⟩, List.mem_of_getElem? (i := 587) (by decide +kernel), List.mem_of_getElem? (i := 705) (by decide +kernel), List.mem_of_getElem? (i := 706) (by decide +kernel)⟩
theorem lw_p20 : lw_okq (⟨"CloningMachineModel", "notes", "(I)V"⟩, 14) := ⟨⟨by decide +kernel, by decide +kernel⟩, List.mem_of_getElem? (i := 587) (by decide +kernel), List.mem_of_getElem? (i := 709) (by decide +kernel), List.mem_of_getElem? (i := 710) (by decide +kernel)⟩
theorem lw_p21 : lw_okq (⟨"CloningMachineModel", "flow", "(I)I"⟩, 14) := ⟨⟨by decide +kernel, by decide +kernel⟩, List.mem_of_getElem? (i := 587) (by decide +kernel), List.mem_of_getElem? (i := 747) (by decide +kernel), List.mem_of_getElem? (i := 748) (by decide +kernel)⟩
theorem lw_p22 : lw_okq (⟨"CloningMachineModel", "line", "(I)I"⟩, 14) := ⟨⟨by decide +kernel, by decide +kernel⟩, List.mem_of_getElem? (i := 587) (by decide +kernel), List.mem_of_getElem? (i := 751) (by decide +kernel), List.mem_of_getElem? (i := 752) (by decide +kernel)⟩
theorem lw_p23 : lw_okq (⟨"CloningMachineModel", "likelyBit", "(I)I"⟩, 14) := ⟨⟨by decide +kernel, by decide +kernel⟩, List.mem_of_getElem? (i := 587) (by decide +kernel), List.mem_of_getElem? (i := 764) (by decide +kernel), List.mem_of_getElem? (i := 765) (by decide +kernel)⟩
theorem lw_p24 : lw_okq (⟨"CloningMachineModel", "costOf", "(I)I"⟩, 14) := ⟨⟨by decide +kernel, by decide +kernel⟩, List.mem_of_getElem? (i := 587) (by decide +kernel), List.mem_of_getElem? (i := 778) (by decide +kernel), List.mem_of_getElem? (i := 779) (by decide +kernel)⟩
def lw_privs_2 : List (MethodName × Nat) := [(⟨"CloningMachineModel", "chance", "(II)I"⟩, 14), (⟨"CloningMachineModel", "both", "(II)I"⟩, 14), (⟨"CloningMachineModel", "takes", "(II)V"⟩, 14), (⟨"CloningMachineModel", "clones", "(IIIIII)V"⟩, 14), (⟨"CloningMachineModel", "notes", "(I)V"⟩, 14), (⟨"CloningMachineModel", "flow", "(I)I"⟩, 14), (⟨"CloningMachineModel", "line", "(I)I"⟩, 14), (⟨"CloningMachineModel", "likelyBit", "(I)I"⟩, 14), (⟨"CloningMachineModel", "costOf", "(I)I"⟩, 14)]
theorem lw_r2 : ∀ q ∈ lw_privs_2, lw_okq q := List.forall_mem_cons.mpr ⟨lw_p16, List.forall_mem_cons.mpr ⟨lw_p17, List.forall_mem_cons.mpr ⟨lw_p18, List.forall_mem_cons.mpr ⟨lw_p19, List.forall_mem_cons.mpr ⟨lw_p20, List.forall_mem_cons.mpr ⟨lw_p21, List.forall_mem_cons.mpr ⟨lw_p22, List.forall_mem_cons.mpr ⟨lw_p23, List.forall_mem_cons.mpr ⟨lw_p24, fun _ h => absurd h List.not_mem_nil⟩⟩⟩⟩⟩⟩⟩⟩⟩
def lw_privs : List (MethodName × Nat) := lw_privs_1 ++ (lw_privs_2)
def lw_tbl : List Cond := k2_sels lw_privs ++ tables_1
theorem lw_privs_ok : ∀ q ∈ lw_privs, lw_okq q := by
  show ∀ q ∈ lw_privs_1 ++ (lw_privs_2), lw_okq q
  exact List.forall_mem_append.mpr ⟨lw_r1, lw_r2⟩
-- ===== end of PART A; then your names; then what follows =====
end
section
def RX0 : String := "CloningMachine$Bytes"
def TX0 : u_T := fun k => match k with
  | 0 => ("CloningMachine$Bytes", "row", "LCloningMachine$Row;", true)
  | 1 => ("CloningMachine$Bytes", "room", "I", true)
  | _ => ("CloningMachine$Bytes", "length", "I", false)
def tyX0 : Nat → FieldType := fun k => match k with
  | 0 => .object "CloningMachine$Row"
  | 1 => .int
  | _ => .int
theorem nmX0 : ∀ a, a < 3 → ∀ b, b < 3 → a ≠ b → (TX0 a).2.1 ≠ (TX0 b).2.1 := by decide +kernel
theorem tyX0_ok : ∀ k, k < 3 → parseFieldDescriptor (TX0 k).2.2.1 = some (tyX0 k) := by decide +kernel
abbrev cX0_init : ByteArray := prog_2_method_1_code
def yX0_init : MethodName := ⟨RX0, "<init>", "(I)V"⟩
abbrev cX0_length : ByteArray := prog_2_method_2_code
def yX0_length : MethodName := ⟨RX0, "length", "()I"⟩
abbrev cX0_get : ByteArray := prog_2_method_3_code
def yX0_get : MethodName := ⟨RX0, "get", "(I)I"⟩
abbrev cX0_put : ByteArray := prog_2_method_4_code
def yX0_put : MethodName := ⟨RX0, "put", "(II)V"⟩
abbrev cX0_add : ByteArray := prog_2_method_5_code
def yX0_add : MethodName := ⟨RX0, "add", "(I)V"⟩
abbrev cX0_clear : ByteArray := prog_2_method_6_code
def yX0_clear : MethodName := ⟨RX0, "clear", "()V"⟩
def RX1 : String := "CloningMachine$Kept"
def TX1 : u_T := fun k => match k with
  | 0 => ("CloningMachine$Kept", "settings", "LCloningMachine$Settings;", true)
  | _ => ("CloningMachine$Kept", "machine", "LCloningMachine$Machine;", true)
def tyX1 : Nat → FieldType := fun k => match k with
  | 0 => .object "CloningMachine$Settings"
  | _ => .object "CloningMachine$Machine"
theorem nmX1 : ∀ a, a < 2 → ∀ b, b < 2 → a ≠ b → (TX1 a).2.1 ≠ (TX1 b).2.1 := by decide +kernel
theorem tyX1_ok : ∀ k, k < 2 → parseFieldDescriptor (TX1 k).2.2.1 = some (tyX1 k) := by decide +kernel
abbrev cX1_init : ByteArray := prog_3_method_1_code
def yX1_init : MethodName := ⟨RX1, "<init>", "()V"⟩
def RX2 : String := "CloningMachine$Machine"
def TX2 : u_T := fun k => match k with
  | 0 => ("CloningMachine$Machine", "settings", "LCloningMachine$Settings;", true)
  | 1 => ("CloningMachine$Machine", "counts", "LCloningMachine$Row;", true)
  | 2 => ("CloningMachine$Machine", "nexts", "LCloningMachine$Row;", true)
  | 3 => ("CloningMachine$Machine", "origins", "LCloningMachine$Row;", true)
  | 4 => ("CloningMachine$Machine", "lines", "LCloningMachine$Row;", true)
  | 5 => ("CloningMachine$Machine", "flows", "LCloningMachine$Row;", true)
  | 6 => ("CloningMachine$Machine", "states", "I", false)
  | 7 => ("CloningMachine$Machine", "here", "I", false)
  | 8 => ("CloningMachine$Machine", "taken", "I", false)
  | 9 => ("CloningMachine$Machine", "clonings", "I", false)
  | _ => ("CloningMachine$Machine", "drops", "I", false)
def tyX2 : Nat → FieldType := fun k => match k with
  | 0 => .object "CloningMachine$Settings"
  | 1 => .object "CloningMachine$Row"
  | 2 => .object "CloningMachine$Row"
  | 3 => .object "CloningMachine$Row"
  | 4 => .object "CloningMachine$Row"
  | 5 => .object "CloningMachine$Row"
  | 6 => .int
  | 7 => .int
  | 8 => .int
  | 9 => .int
  | _ => .int
theorem nmX2 : ∀ a, a < 11 → ∀ b, b < 11 → a ≠ b → (TX2 a).2.1 ≠ (TX2 b).2.1 := by decide +kernel
theorem tyX2_ok : ∀ k, k < 11 → parseFieldDescriptor (TX2 k).2.2.1 = some (tyX2 k) := by decide +kernel
abbrev cX2_init : ByteArray := prog_4_method_1_code
def yX2_init : MethodName := ⟨RX2, "<init>", "(LCloningMachine$Settings;)V"⟩
abbrev cX2_begin : ByteArray := prog_4_method_2_code
def yX2_begin : MethodName := ⟨RX2, "begin", "()V"⟩
abbrev cX2_shapeAnew : ByteArray := prog_4_method_3_code
def yX2_shapeAnew : MethodName := ⟨RX2, "shapeAnew", "()V"⟩
abbrev cX2_statesAtFirst : ByteArray := prog_4_method_4_code
def yX2_statesAtFirst : MethodName := ⟨RX2, "statesAtFirst", "(I)I"⟩
abbrev cX2_nextAtFirst : ByteArray := prog_4_method_5_code
def yX2_nextAtFirst : MethodName := ⟨RX2, "nextAtFirst", "(III)I"⟩
abbrev cX2_path : ByteArray := prog_4_method_6_code
def yX2_path : MethodName := ⟨RX2, "path", "(II)I"⟩
abbrev cX2_feed : ByteArray := prog_4_method_7_code
def yX2_feed : MethodName := ⟨RX2, "feed", "(I)V"⟩
abbrev cX2_cloneFrom : ByteArray := prog_4_method_8_code
def yX2_cloneFrom : MethodName := ⟨RX2, "cloneFrom", "(III)I"⟩
abbrev cX2_countBy : ByteArray := prog_4_method_9_code
def yX2_countBy : MethodName := ⟨RX2, "countBy", "(II)I"⟩
abbrev cX2_nextBy : ByteArray := prog_4_method_10_code
def yX2_nextBy : MethodName := ⟨RX2, "nextBy", "(II)I"⟩
abbrev cX2_lineOf : ByteArray := prog_4_method_11_code
def yX2_lineOf : MethodName := ⟨RX2, "lineOf", "(I)I"⟩
abbrev cX2_originOf : ByteArray := prog_4_method_12_code
def yX2_originOf : MethodName := ⟨RX2, "originOf", "(I)I"⟩
abbrev cX2_bothCounts : ByteArray := prog_4_method_13_code
def yX2_bothCounts : MethodName := ⟨RX2, "bothCounts", "(I)I"⟩
abbrev cX2_chance : ByteArray := prog_4_method_14_code
def yX2_chance : MethodName := ⟨RX2, "chance", "(I)I"⟩
abbrev cX2_likelyBit : ByteArray := prog_4_method_15_code
def yX2_likelyBit : MethodName := ⟨RX2, "likelyBit", "(I)I"⟩
abbrev cX2_costOf : ByteArray := prog_4_method_16_code
def yX2_costOf : MethodName := ⟨RX2, "costOf", "(III)I"⟩
abbrev cX2_flowInto : ByteArray := prog_4_method_17_code
def yX2_flowInto : MethodName := ⟨RX2, "flowInto", "(I)I"⟩
abbrev cX2_statesWithoutFlow : ByteArray := prog_4_method_18_code
def yX2_statesWithoutFlow : MethodName := ⟨RX2, "statesWithoutFlow", "()I"⟩
abbrev cX2_reckonFlows : ByteArray := prog_4_method_19_code
def yX2_reckonFlows : MethodName := ⟨RX2, "reckonFlows", "()V"⟩
abbrev cX2_allCounts : ByteArray := prog_4_method_20_code
def yX2_allCounts : MethodName := ⟨RX2, "allCounts", "()I"⟩
abbrev cX2_longestLine : ByteArray := prog_4_method_21_code
def yX2_longestLine : MethodName := ⟨RX2, "longestLine", "()I"⟩
abbrev cX2_copyFrom : ByteArray := prog_4_method_22_code
def yX2_copyFrom : MethodName := ⟨RX2, "copyFrom", "(LCloningMachine$Machine;)V"⟩
def RX3 : String := "CloningMachine$Packer"
def TX3 : u_T := fun k => match k with
  | 0 => ("CloningMachine$Packer", "settings", "LCloningMachine$Settings;", true)
  | 1 => ("CloningMachine$Packer", "machine", "LCloningMachine$Machine;", true)
  | 2 => ("CloningMachine$Packer", "span", "LCloningMachine$Span;", true)
  | 3 => ("CloningMachine$Packer", "target", "LCloningMachine$Bytes;", true)
  | _ => ("CloningMachine$Packer", "used", "Z", false)
def tyX3 : Nat → FieldType := fun k => match k with
  | 0 => .object "CloningMachine$Settings"
  | 1 => .object "CloningMachine$Machine"
  | 2 => .object "CloningMachine$Span"
  | 3 => .object "CloningMachine$Bytes"
  | _ => .boolean
theorem nmX3 : ∀ a, a < 5 → ∀ b, b < 5 → a ≠ b → (TX3 a).2.1 ≠ (TX3 b).2.1 := by decide +kernel
theorem tyX3_ok : ∀ k, k < 5 → parseFieldDescriptor (TX3 k).2.2.1 = some (tyX3 k) := by decide +kernel
abbrev cX3_init : ByteArray := prog_5_method_1_code
def yX3_init : MethodName := ⟨RX3, "<init>", "(LCloningMachine$Settings;LCloningMachine$Bytes;)V"⟩
abbrev cX3_open : ByteArray := prog_5_method_2_code
def yX3_open : MethodName := ⟨RX3, "open", "()V"⟩
abbrev cX3_close : ByteArray := prog_5_method_3_code
def yX3_close : MethodName := ⟨RX3, "close", "()V"⟩
abbrev cX3_packByte : ByteArray := prog_5_method_4_code
def yX3_packByte : MethodName := ⟨RX3, "packByte", "(I)V"⟩
abbrev cX3_packBit : ByteArray := prog_5_method_5_code
def yX3_packBit : MethodName := ⟨RX3, "packBit", "(I)V"⟩
abbrev cX3_putTop : ByteArray := prog_5_method_6_code
def yX3_putTop : MethodName := ⟨RX3, "putTop", "()V"⟩
def RX4 : String := "CloningMachine$Row"
def TX4 : u_T := fun k => match k with
  | _ => ("CloningMachine$Row", "cells", "[I", true)
def tyX4 : Nat → FieldType := fun k => match k with
  | _ => .array .int
theorem nmX4 : ∀ a, a < 1 → ∀ b, b < 1 → a ≠ b → (TX4 a).2.1 ≠ (TX4 b).2.1 := by decide +kernel
theorem tyX4_ok : ∀ k, k < 1 → parseFieldDescriptor (TX4 k).2.2.1 = some (tyX4 k) := by decide +kernel
abbrev cX4_init : ByteArray := prog_6_method_1_code
def yX4_init : MethodName := ⟨RX4, "<init>", "(I)V"⟩
abbrev cX4_get : ByteArray := prog_6_method_2_code
def yX4_get : MethodName := ⟨RX4, "get", "(I)I"⟩
abbrev cX4_put : ByteArray := prog_6_method_3_code
def yX4_put : MethodName := ⟨RX4, "put", "(II)V"⟩
abbrev cX4_copyFrom : ByteArray := prog_6_method_4_code
def yX4_copyFrom : MethodName := ⟨RX4, "copyFrom", "(LCloningMachine$Row;I)V"⟩
def RX5 : String := "CloningMachine$Settings"
def TX5 : u_T := fun k => match k with
  | _ => ("CloningMachine$Settings", "values", "LCloningMachine$Row;", true)
def tyX5 : Nat → FieldType := fun k => match k with
  | _ => .object "CloningMachine$Row"
theorem nmX5 : ∀ a, a < 1 → ∀ b, b < 1 → a ≠ b → (TX5 a).2.1 ≠ (TX5 b).2.1 := by decide +kernel
theorem tyX5_ok : ∀ k, k < 1 → parseFieldDescriptor (TX5 k).2.2.1 = some (tyX5 k) := by decide +kernel
abbrev cX5_init : ByteArray := prog_7_method_1_code
def yX5_init : MethodName := ⟨RX5, "<init>", "()V"⟩
abbrev cX5_allows : ByteArray := prog_7_method_2_code
def yX5_allows : MethodName := ⟨RX5, "allows", "(II)Z"⟩
abbrev cX5_get : ByteArray := prog_7_method_3_code
def yX5_get : MethodName := ⟨RX5, "get", "(I)I"⟩
abbrev cX5_tell : ByteArray := prog_7_method_4_code
def yX5_tell : MethodName := ⟨RX5, "tell", "(II)V"⟩
abbrev cX5_copyFrom : ByteArray := prog_7_method_5_code
def yX5_copyFrom : MethodName := ⟨RX5, "copyFrom", "(LCloningMachine$Settings;)V"⟩
abbrev cX5_turned : ByteArray := prog_7_method_6_code
def yX5_turned : MethodName := ⟨RX5, "turned", "(I)I"⟩
def RX6 : String := "CloningMachine$Span"
def TX6 : u_T := fun k => match k with
  | 0 => ("CloningMachine$Span", "low", "J", false)
  | _ => ("CloningMachine$Span", "high", "J", false)
def tyX6 : Nat → FieldType := fun k => match k with
  | 0 => .long
  | _ => .long
theorem nmX6 : ∀ a, a < 2 → ∀ b, b < 2 → a ≠ b → (TX6 a).2.1 ≠ (TX6 b).2.1 := by decide +kernel
theorem tyX6_ok : ∀ k, k < 2 → parseFieldDescriptor (TX6 k).2.2.1 = some (tyX6 k) := by decide +kernel
abbrev cX6_init : ByteArray := prog_8_method_1_code
def yX6_init : MethodName := ⟨RX6, "<init>", "()V"⟩
abbrev cX6_open : ByteArray := prog_8_method_2_code
def yX6_open : MethodName := ⟨RX6, "open", "()V"⟩
abbrev cX6_middle : ByteArray := prog_8_method_3_code
def yX6_middle : MethodName := ⟨RX6, "middle", "(I)J"⟩
abbrev cX6_narrow : ByteArray := prog_8_method_4_code
def yX6_narrow : MethodName := ⟨RX6, "narrow", "(IJ)V"⟩
abbrev cX6_topIsSettled : ByteArray := prog_8_method_5_code
def yX6_topIsSettled : MethodName := ⟨RX6, "topIsSettled", "()Z"⟩
abbrev cX6_topOfLow : ByteArray := prog_8_method_6_code
def yX6_topOfLow : MethodName := ⟨RX6, "topOfLow", "()I"⟩
abbrev cX6_loseTop : ByteArray := prog_8_method_7_code
def yX6_loseTop : MethodName := ⟨RX6, "loseTop", "()V"⟩
def RX7 : String := "CloningMachine$Unpacker"
def TX7 : u_T := fun k => match k with
  | 0 => ("CloningMachine$Unpacker", "settings", "LCloningMachine$Settings;", true)
  | 1 => ("CloningMachine$Unpacker", "machine", "LCloningMachine$Machine;", true)
  | 2 => ("CloningMachine$Unpacker", "span", "LCloningMachine$Span;", true)
  | 3 => ("CloningMachine$Unpacker", "source", "LCloningMachine$Bytes;", true)
  | 4 => ("CloningMachine$Unpacker", "code", "J", false)
  | 5 => ("CloningMachine$Unpacker", "pulled", "I", false)
  | _ => ("CloningMachine$Unpacker", "used", "Z", false)
def tyX7 : Nat → FieldType := fun k => match k with
  | 0 => .object "CloningMachine$Settings"
  | 1 => .object "CloningMachine$Machine"
  | 2 => .object "CloningMachine$Span"
  | 3 => .object "CloningMachine$Bytes"
  | 4 => .long
  | 5 => .int
  | _ => .boolean
theorem nmX7 : ∀ a, a < 7 → ∀ b, b < 7 → a ≠ b → (TX7 a).2.1 ≠ (TX7 b).2.1 := by decide +kernel
theorem tyX7_ok : ∀ k, k < 7 → parseFieldDescriptor (TX7 k).2.2.1 = some (tyX7 k) := by decide +kernel
abbrev cX7_init : ByteArray := prog_9_method_1_code
def yX7_init : MethodName := ⟨RX7, "<init>", "(LCloningMachine$Settings;LCloningMachine$Bytes;)V"⟩
abbrev cX7_open : ByteArray := prog_9_method_2_code
def yX7_open : MethodName := ⟨RX7, "open", "()V"⟩
abbrev cX7_bytesRead : ByteArray := prog_9_method_3_code
def yX7_bytesRead : MethodName := ⟨RX7, "bytesRead", "()I"⟩
abbrev cX7_unpackByte : ByteArray := prog_9_method_4_code
def yX7_unpackByte : MethodName := ⟨RX7, "unpackByte", "()I"⟩
abbrev cX7_unpackBit : ByteArray := prog_9_method_5_code
def yX7_unpackBit : MethodName := ⟨RX7, "unpackBit", "()I"⟩
abbrev cX7_pullByte : ByteArray := prog_9_method_6_code
def yX7_pullByte : MethodName := ⟨RX7, "pullByte", "()V"⟩
def RX8 : String := "CloningMachine"
def TX8 : u_T := fun k => match k with
  | 0 => ("CloningMachine", "settings", "LCloningMachine$Settings;", true)
  | 1 => ("CloningMachine", "running", "LCloningMachine$Machine;", true)
  | 2 => ("CloningMachine", "input", "LCloningMachine$Bytes;", true)
  | 3 => ("CloningMachine", "packed", "LCloningMachine$Bytes;", true)
  | 4 => ("CloningMachine", "unpacked", "LCloningMachine$Bytes;", true)
  | 5 => ("CloningMachine", "packer", "LCloningMachine$Packer;", true)
  | 6 => ("CloningMachine", "unpacker", "LCloningMachine$Unpacker;", true)
  | 7 => ("CloningMachine", "keptFirst", "LCloningMachine$Kept;", true)
  | 8 => ("CloningMachine", "keptSecond", "LCloningMachine$Kept;", true)
  | _ => ("CloningMachine", "keptNumber", "I", false)
def tyX8 : Nat → FieldType := fun k => match k with
  | 0 => .object "CloningMachine$Settings"
  | 1 => .object "CloningMachine$Machine"
  | 2 => .object "CloningMachine$Bytes"
  | 3 => .object "CloningMachine$Bytes"
  | 4 => .object "CloningMachine$Bytes"
  | 5 => .object "CloningMachine$Packer"
  | 6 => .object "CloningMachine$Unpacker"
  | 7 => .object "CloningMachine$Kept"
  | 8 => .object "CloningMachine$Kept"
  | _ => .int
theorem nmX8 : ∀ a, a < 10 → ∀ b, b < 10 → a ≠ b → (TX8 a).2.1 ≠ (TX8 b).2.1 := by decide +kernel
theorem tyX8_ok : ∀ k, k < 10 → parseFieldDescriptor (TX8 k).2.2.1 = some (tyX8 k) := by decide +kernel
abbrev cX8_init : ByteArray := prog_1_method_1_code
def yX8_init : MethodName := ⟨RX8, "<init>", "()V"⟩
abbrev cX8_set : ByteArray := prog_1_method_2_code
def yX8_set : MethodName := ⟨RX8, "set", "(II)I"⟩
abbrev cX8_renew : ByteArray := prog_1_method_3_code
def yX8_renew : MethodName := ⟨RX8, "renew", "()I"⟩
abbrev cX8_write : ByteArray := prog_1_method_4_code
def yX8_write : MethodName := ⟨RX8, "write", "(I)I"⟩
abbrev cX8_wipe : ByteArray := prog_1_method_5_code
def yX8_wipe : MethodName := ⟨RX8, "wipe", "()I"⟩
abbrev cX8_pack : ByteArray := prog_1_method_6_code
def yX8_pack : MethodName := ⟨RX8, "pack", "()I"⟩
abbrev cX8_unpack : ByteArray := prog_1_method_7_code
def yX8_unpack : MethodName := ⟨RX8, "unpack", "(I)I"⟩
abbrev cX8_spoil : ByteArray := prog_1_method_8_code
def yX8_spoil : MethodName := ⟨RX8, "spoil", "(II)I"⟩
abbrev cX8_at : ByteArray := prog_1_method_9_code
def yX8_at : MethodName := ⟨RX8, "at", "(II)I"⟩
abbrev cX8_alike : ByteArray := prog_1_method_10_code
def yX8_alike : MethodName := ⟨RX8, "alike", "()I"⟩
abbrev cX8_grew : ByteArray := prog_1_method_11_code
def yX8_grew : MethodName := ⟨RX8, "grew", "(II)I"⟩
abbrev cX8_bit : ByteArray := prog_1_method_12_code
def yX8_bit : MethodName := ⟨RX8, "bit", "(I)I"⟩
abbrev cX8_take : ByteArray := prog_1_method_13_code
def yX8_take : MethodName := ⟨RX8, "take", "(I)I"⟩
abbrev cX8_state : ByteArray := prog_1_method_14_code
def yX8_state : MethodName := ⟨RX8, "state", "(II)I"⟩
abbrev cX8_live : ByteArray := prog_1_method_15_code
def yX8_live : MethodName := ⟨RX8, "live", "(I)I"⟩
abbrev cX8_likely : ByteArray := prog_1_method_16_code
def yX8_likely : MethodName := ⟨RX8, "likely", "(I)I"⟩
abbrev cX8_guess : ByteArray := prog_1_method_17_code
def yX8_guess : MethodName := ⟨RX8, "guess", "()I"⟩
abbrev cX8_cost : ByteArray := prog_1_method_18_code
def yX8_cost : MethodName := ⟨RX8, "cost", "(II)I"⟩
abbrev cX8_cheapest : ByteArray := prog_1_method_19_code
def yX8_cheapest : MethodName := ⟨RX8, "cheapest", "(I)I"⟩
abbrev cX8_keep : ByteArray := prog_1_method_20_code
def yX8_keep : MethodName := ⟨RX8, "keep", "()I"⟩
abbrev cX8_back : ByteArray := prog_1_method_21_code
def yX8_back : MethodName := ⟨RX8, "back", "()I"⟩
abbrev cX8_count : ByteArray := prog_1_method_22_code
def yX8_count : MethodName := ⟨RX8, "count", "(I)I"⟩
abbrev cX8_keptPlace : ByteArray := prog_1_method_23_code
def yX8_keptPlace : MethodName := ⟨RX8, "keptPlace", "(I)LCloningMachine$Kept;"⟩
abbrev cX8_costOfByte : ByteArray := prog_1_method_24_code
def yX8_costOfByte : MethodName := ⟨RX8, "costOfByte", "(I)I"⟩
abbrev cX8_isByte : ByteArray := prog_1_method_25_code
def yX8_isByte : MethodName := ⟨RX8, "isByte", "(I)Z"⟩
abbrev cX8_bitFromHighest : ByteArray := prog_1_method_26_code
def yX8_bitFromHighest : MethodName := ⟨RX8, "bitFromHighest", "(III)I"⟩
abbrev cX8_cutQuotient : ByteArray := prog_1_method_27_code
def yX8_cutQuotient : MethodName := ⟨RX8, "cutQuotient", "(JJ)I"⟩
def RX9 : String := "CloningMachineModel"
def TX9 : u_T := fun k => match k with
  | 0 => ("CloningMachineModel", "m", "[I", true)
  | 1 => ("CloningMachineModel", "kept", "I", false)
  | 2 => ("CloningMachineModel", "input", "[I", true)
  | 3 => ("CloningMachineModel", "inputMany", "I", false)
  | 4 => ("CloningMachineModel", "pack", "[I", true)
  | 5 => ("CloningMachineModel", "packMany", "I", false)
  | 6 => ("CloningMachineModel", "out", "[I", true)
  | 7 => ("CloningMachineModel", "outMany", "I", false)
  | 8 => ("CloningMachineModel", "grown", "[I", true)
  | 9 => ("CloningMachineModel", "low", "J", false)
  | 10 => ("CloningMachineModel", "high", "J", false)
  | 11 => ("CloningMachineModel", "code", "J", false)
  | 12 => ("CloningMachineModel", "from", "I", false)
  | _ => ("CloningMachineModel", "spot", "I", false)
def tyX9 : Nat → FieldType := fun k => match k with
  | 0 => .array .int
  | 1 => .int
  | 2 => .array .int
  | 3 => .int
  | 4 => .array .int
  | 5 => .int
  | 6 => .array .int
  | 7 => .int
  | 8 => .array .int
  | 9 => .long
  | 10 => .long
  | 11 => .long
  | 12 => .int
  | _ => .int
theorem nmX9 : ∀ a, a < 14 → ∀ b, b < 14 → a ≠ b → (TX9 a).2.1 ≠ (TX9 b).2.1 := by decide +kernel
theorem tyX9_ok : ∀ k, k < 14 → parseFieldDescriptor (TX9 k).2.2.1 = some (tyX9 k) := by decide +kernel
abbrev cX9_init : ByteArray := prog_11_method_1_code
def yX9_init : MethodName := ⟨RX9, "<init>", "()V"⟩
abbrev cX9_in : ByteArray := prog_11_method_2_code
def yX9_in : MethodName := ⟨RX9, "in", "(JJJ)Z"⟩
abbrev cX9_lays : ByteArray := prog_11_method_3_code
def yX9_lays : MethodName := ⟨RX9, "lays", "(I)V"⟩
abbrev cX9_renews : ByteArray := prog_11_method_4_code
def yX9_renews : MethodName := ⟨RX9, "renews", "(I)V"⟩
abbrev cX9_both : ByteArray := prog_11_method_5_code
def yX9_both : MethodName := ⟨RX9, "both", "(II)I"⟩
abbrev cX9_clones : ByteArray := prog_11_method_6_code
def yX9_clones : MethodName := ⟨RX9, "clones", "(IIIIII)V"⟩
abbrev cX9_takes : ByteArray := prog_11_method_7_code
def yX9_takes : MethodName := ⟨RX9, "takes", "(II)V"⟩
abbrev cX9_chance : ByteArray := prog_11_method_8_code
def yX9_chance : MethodName := ⟨RX9, "chance", "(II)I"⟩
abbrev cX9_set : ByteArray := prog_11_method_9_code
def yX9_set : MethodName := ⟨RX9, "set", "(II)I"⟩
abbrev cX9_renew : ByteArray := prog_11_method_10_code
def yX9_renew : MethodName := ⟨RX9, "renew", "()I"⟩
abbrev cX9_write : ByteArray := prog_11_method_11_code
def yX9_write : MethodName := ⟨RX9, "write", "(I)I"⟩
abbrev cX9_wipe : ByteArray := prog_11_method_12_code
def yX9_wipe : MethodName := ⟨RX9, "wipe", "()I"⟩
abbrev cX9_place : ByteArray := prog_11_method_13_code
def yX9_place : MethodName := ⟨RX9, "place", "(I)I"⟩
abbrev cX9_begins : ByteArray := prog_11_method_14_code
def yX9_begins : MethodName := ⟨RX9, "begins", "()V"⟩
abbrev cX9_middle : ByteArray := prog_11_method_15_code
def yX9_middle : MethodName := ⟨RX9, "middle", "()J"⟩
abbrev cX9_narrows : ByteArray := prog_11_method_16_code
def yX9_narrows : MethodName := ⟨RX9, "narrows", "(IZ)V"⟩
abbrev cX9_notes : ByteArray := prog_11_method_17_code
def yX9_notes : MethodName := ⟨RX9, "notes", "(I)V"⟩
abbrev cX9_pack : ByteArray := prog_11_method_18_code
def yX9_pack : MethodName := ⟨RX9, "pack", "()I"⟩
abbrev cX9_unpack : ByteArray := prog_11_method_19_code
def yX9_unpack : MethodName := ⟨RX9, "unpack", "(I)I"⟩
abbrev cX9_spoil : ByteArray := prog_11_method_20_code
def yX9_spoil : MethodName := ⟨RX9, "spoil", "(II)I"⟩
abbrev cX9_at : ByteArray := prog_11_method_21_code
def yX9_at : MethodName := ⟨RX9, "at", "(II)I"⟩
abbrev cX9_alike : ByteArray := prog_11_method_22_code
def yX9_alike : MethodName := ⟨RX9, "alike", "()I"⟩
abbrev cX9_grew : ByteArray := prog_11_method_23_code
def yX9_grew : MethodName := ⟨RX9, "grew", "(II)I"⟩
abbrev cX9_bit : ByteArray := prog_11_method_24_code
def yX9_bit : MethodName := ⟨RX9, "bit", "(I)I"⟩
abbrev cX9_take : ByteArray := prog_11_method_25_code
def yX9_take : MethodName := ⟨RX9, "take", "(I)I"⟩
abbrev cX9_flow : ByteArray := prog_11_method_26_code
def yX9_flow : MethodName := ⟨RX9, "flow", "(I)I"⟩
abbrev cX9_line : ByteArray := prog_11_method_27_code
def yX9_line : MethodName := ⟨RX9, "line", "(I)I"⟩
abbrev cX9_state : ByteArray := prog_11_method_28_code
def yX9_state : MethodName := ⟨RX9, "state", "(II)I"⟩
abbrev cX9_live : ByteArray := prog_11_method_29_code
def yX9_live : MethodName := ⟨RX9, "live", "(I)I"⟩
abbrev cX9_likelyBit : ByteArray := prog_11_method_30_code
def yX9_likelyBit : MethodName := ⟨RX9, "likelyBit", "(I)I"⟩
abbrev cX9_likely : ByteArray := prog_11_method_31_code
def yX9_likely : MethodName := ⟨RX9, "likely", "(I)I"⟩
abbrev cX9_guess : ByteArray := prog_11_method_32_code
def yX9_guess : MethodName := ⟨RX9, "guess", "()I"⟩
abbrev cX9_costOf : ByteArray := prog_11_method_33_code
def yX9_costOf : MethodName := ⟨RX9, "costOf", "(I)I"⟩
abbrev cX9_cost : ByteArray := prog_11_method_34_code
def yX9_cost : MethodName := ⟨RX9, "cost", "(II)I"⟩
abbrev cX9_cheapest : ByteArray := prog_11_method_35_code
def yX9_cheapest : MethodName := ⟨RX9, "cheapest", "(I)I"⟩
abbrev cX9_keep : ByteArray := prog_11_method_36_code
def yX9_keep : MethodName := ⟨RX9, "keep", "()I"⟩
abbrev cX9_back : ByteArray := prog_11_method_37_code
def yX9_back : MethodName := ⟨RX9, "back", "()I"⟩
abbrev cX9_count : ByteArray := prog_11_method_38_code
def yX9_count : MethodName := ⟨RX9, "count", "(I)I"⟩
def RL : String := "CloningMachineLaw"
abbrev cL_law : ByteArray := code
def yL_law : MethodName := ⟨RL, "law", "([I)Z"⟩
abbrev vwCl : List vw_C := [(RX0, TX0, 3), (RX1, TX1, 2), (RX2, TX2, 11), (RX3, TX3, 5), (RX4, TX4, 1), (RX5, TX5, 1), (RX6, TX6, 2), (RX7, TX7, 7), (RX8, TX8, 10), (RX9, TX9, 14)]
def wsG : List Cond := lw_tbl.filter goodWord
theorem inG {w : Cond} {i : Nat} (h : lw_tbl[i]? = some w) (g : goodWord w = true) : w ∈ wsG := List.mem_filter.mpr ⟨List.mem_of_getElem? h, g⟩
theorem wsG_tbl : ∀ w ∈ wsG, w ∈ lw_tbl := fun w h => (List.mem_filter.mp h).1
theorem inG_list {ws : List Cond} (ps : List Nat) (h : ws = ps.filterMap (fun i => lw_tbl[i]?)) (g : ws.all goodWord = true) : ∀ w ∈ ws, w ∈ wsG := by
  intro w hw
  have h1 := List.all_eq_true.mp g w hw
  rw [h] at hw
  obtain ⟨i, -, hi⟩ := List.mem_filterMap.mp hw
  exact inG hi h1
theorem goodG {w : Cond} (h : w ∈ wsG) : w ∈ wsG ∧ ((w.onTables && w.keeps) = true ∨ ∃ ty, w = .arrayClass ty) := ⟨h, good_of_word (List.mem_filter.mp h).2⟩
theorem good_V {own C : String} {idx n : Nat} {y : MethodName} {b : ByteArray} {r : Option FieldType} (h1 : Cond.methodLink own idx y ∈ wsG) (h2 : Cond.instanceMethod y ∈ wsG) (h3 : Cond.selects C y y ∈ wsG) (h4 : Cond.initialized C ∈ wsG) (h5 : Cond.code y b n r ∈ wsG) : GoodIn wsG (wsV own idx C y (.code y b n r :: wsG)) := by
  intro w hw
  unfold wsV at hw
  simp only [List.cons_append, List.nil_append, List.mem_cons] at hw
  rcases hw with rfl | rfl | rfl | rfl | rfl | hw
  · exact goodG h1
  · exact goodG h2
  · exact goodG h3
  · exact goodG h4
  · exact goodG h5
  · exact goodG hw
theorem good_S {own : String} {idx n : Nat} {y : MethodName} {b : ByteArray} {r : Option FieldType} (h1 : Cond.methodLink own idx y ∈ wsG) (h2 : Cond.static y ∈ wsG) (h4 : Cond.initialized y.cls ∈ wsG) (h5 : Cond.code y b n r ∈ wsG) : GoodIn wsG (va_wsS own idx y (.code y b n r :: wsG)) := by
  intro w hw
  unfold va_wsS at hw
  simp only [List.cons_append, List.nil_append, List.mem_cons] at hw
  rcases hw with rfl | rfl | rfl | rfl | hw
  · exact goodG h1
  · exact goodG h2
  · exact goodG h4
  · exact goodG h5
  · exact goodG hw
theorem good_I {n : Nat} {y : MethodName} {b : ByteArray} {r : Option FieldType} (h5 : Cond.code y b n r ∈ wsG) : GoodIn wsG (.code y b n r :: wsG) := by
  intro w hw
  rcases List.mem_cons.mp hw with rfl | hw
  · exact goodG h5
  · exact goodG hw
theorem ini_L : Cond.initialized RL ∈ wsG := inG (i := 25) (by decide +kernel) (by decide +kernel)
theorem ini_X8 : Cond.initialized RX8 ∈ wsG := inG (i := 26) (by decide +kernel) (by decide +kernel)
theorem ini_X5 : Cond.initialized RX5 ∈ wsG := inG (i := 27) (by decide +kernel) (by decide +kernel)
theorem ini_X4 : Cond.initialized RX4 ∈ wsG := inG (i := 28) (by decide +kernel) (by decide +kernel)
theorem ini_Math : Cond.initialized "java/lang/Math" ∈ wsG := inG (i := 29) (by decide +kernel) (by decide +kernel)
theorem ini_X2 : Cond.initialized RX2 ∈ wsG := inG (i := 30) (by decide +kernel) (by decide +kernel)
theorem ini_X0 : Cond.initialized RX0 ∈ wsG := inG (i := 31) (by decide +kernel) (by decide +kernel)
theorem ini_X3 : Cond.initialized RX3 ∈ wsG := inG (i := 32) (by decide +kernel) (by decide +kernel)
theorem ini_X6 : Cond.initialized RX6 ∈ wsG := inG (i := 33) (by decide +kernel) (by decide +kernel)
theorem ini_X7 : Cond.initialized RX7 ∈ wsG := inG (i := 34) (by decide +kernel) (by decide +kernel)
theorem ini_X1 : Cond.initialized RX1 ∈ wsG := inG (i := 35) (by decide +kernel) (by decide +kernel)
theorem ini_X9 : Cond.initialized RX9 ∈ wsG := inG (i := 36) (by decide +kernel) (by decide +kernel)
theorem cl_L_7 : Cond.classLink RL 7 RX8 ∈ wsG := inG (i := 37) (by decide +kernel) (by decide +kernel)
theorem is_X8 : Cond.instantiable RX8 10 ∈ wsG := inG (i := 38) (by decide +kernel) (by decide +kernel)
theorem ml_L_9 : Cond.methodLink RL 9 yX8_init ∈ wsG := inG (i := 39) (by decide +kernel) (by decide +kernel)
theorem im_X8_init : Cond.instanceMethod yX8_init ∈ wsG := inG (i := 40) (by decide +kernel) (by decide +kernel)
theorem co_X8_init : Cond.code yX8_init cX8_init 1 none ∈ wsG := inG (i := 41) (by decide +kernel) (by decide +kernel)
theorem ml_X8_3 : Cond.methodLink RX8 3 objectInit ∈ wsG := inG (i := 42) (by decide +kernel) (by decide +kernel)
theorem im_Object_init : Cond.instanceMethod objectInit ∈ wsG := inG (i := 43) (by decide +kernel) (by decide +kernel)
theorem co_Object_init : Cond.code objectInit ⟨#[0xb1]⟩ 1 none ∈ wsG := inG (i := 44) (by decide +kernel) (by decide +kernel)
theorem cl_X8_9 : Cond.classLink RX8 9 RX5 ∈ wsG := inG (i := 45) (by decide +kernel) (by decide +kernel)
theorem is_X5 : Cond.instantiable RX5 1 ∈ wsG := inG (i := 46) (by decide +kernel) (by decide +kernel)
theorem ml_X8_11 : Cond.methodLink RX8 11 yX5_init ∈ wsG := inG (i := 47) (by decide +kernel) (by decide +kernel)
theorem im_X5_init : Cond.instanceMethod yX5_init ∈ wsG := inG (i := 48) (by decide +kernel) (by decide +kernel)
theorem co_X5_init : Cond.code yX5_init cX5_init 2 none ∈ wsG := inG (i := 49) (by decide +kernel) (by decide +kernel)
theorem ml_X5_3 : Cond.methodLink RX5 3 objectInit ∈ wsG := inG (i := 50) (by decide +kernel) (by decide +kernel)
theorem cl_X5_9 : Cond.classLink RX5 9 RX4 ∈ wsG := inG (i := 51) (by decide +kernel) (by decide +kernel)
theorem is_X4 : Cond.instantiable RX4 1 ∈ wsG := inG (i := 52) (by decide +kernel) (by decide +kernel)
theorem ml_X5_15 : Cond.methodLink RX5 15 yX4_init ∈ wsG := inG (i := 55) (by decide +kernel) (by decide +kernel)
theorem im_X4_init : Cond.instanceMethod yX4_init ∈ wsG := inG (i := 56) (by decide +kernel) (by decide +kernel)
theorem co_X4_init : Cond.code yX4_init cX4_init 2 none ∈ wsG := inG (i := 57) (by decide +kernel) (by decide +kernel)
theorem ml_X4_1 : Cond.methodLink RX4 1 objectInit ∈ wsG := inG (i := 58) (by decide +kernel) (by decide +kernel)
theorem ml_X4_7 : Cond.methodLink RX4 7 Lib.Math.max.name ∈ wsG := inG (i := 59) (by decide +kernel) (by decide +kernel)
theorem st_Math_max : Cond.static Lib.Math.max.name ∈ wsG := inG (i := 60) (by decide +kernel) (by decide +kernel)
theorem co_Math_max : Cond.code Lib.Math.max.name Lib.Math.max.code 2 (some .int) ∈ wsG := inG (i := 61) (by decide +kernel) (by decide +kernel)
theorem fl_X4_13 : Cond.fieldLink RX4 13 "CloningMachine$Row" "cells" "[I" ∈ wsG := inG (i := 62) (by decide +kernel) (by decide +kernel)
theorem ac_int : Cond.arrayClass .int ∈ wsG := inG (i := 66) (by decide +kernel) (by decide +kernel)
theorem ml_X5_24 : Cond.methodLink RX5 24 yX4_put ∈ wsG := inG (i := 67) (by decide +kernel) (by decide +kernel)
theorem im_X4_put : Cond.instanceMethod yX4_put ∈ wsG := inG (i := 68) (by decide +kernel) (by decide +kernel)
theorem se_X4_put : Cond.selects RX4 yX4_put yX4_put ∈ wsG := inG (i := 69) (by decide +kernel) (by decide +kernel)
theorem co_X4_put : Cond.code yX4_put cX4_put 3 none ∈ wsG := inG (i := 70) (by decide +kernel) (by decide +kernel)
theorem fl_X5_18 : Cond.fieldLink RX5 18 "CloningMachine$Settings" "values" "LCloningMachine$Row;" ∈ wsG := inG (i := 71) (by decide +kernel) (by decide +kernel)
theorem cl_X8_16 : Cond.classLink RX8 16 RX2 ∈ wsG := inG (i := 75) (by decide +kernel) (by decide +kernel)
theorem is_X2 : Cond.instantiable RX2 11 ∈ wsG := inG (i := 76) (by decide +kernel) (by decide +kernel)
theorem ml_X8_18 : Cond.methodLink RX8 18 yX2_init ∈ wsG := inG (i := 77) (by decide +kernel) (by decide +kernel)
theorem im_X2_init : Cond.instanceMethod yX2_init ∈ wsG := inG (i := 78) (by decide +kernel) (by decide +kernel)
theorem co_X2_init : Cond.code yX2_init cX2_init 2 none ∈ wsG := inG (i := 79) (by decide +kernel) (by decide +kernel)
theorem ml_X2_3 : Cond.methodLink RX2 3 objectInit ∈ wsG := inG (i := 80) (by decide +kernel) (by decide +kernel)
theorem cl_X2_9 : Cond.classLink RX2 9 RX4 ∈ wsG := inG (i := 81) (by decide +kernel) (by decide +kernel)
theorem ml_X2_11 : Cond.methodLink RX2 11 yX4_init ∈ wsG := inG (i := 82) (by decide +kernel) (by decide +kernel)
theorem ml_X2_36 : Cond.methodLink RX2 36 yX2_begin ∈ wsG := inG (i := 83) (by decide +kernel) (by decide +kernel)
theorem im_X2_begin : Cond.instanceMethod yX2_begin ∈ wsG := inG (i := 84) (by decide +kernel) (by decide +kernel)
theorem se_X2_begin : Cond.selects RX2 yX2_begin yX2_begin ∈ wsG := inG (i := 85) (by decide +kernel) (by decide +kernel)
theorem co_X2_begin : Cond.code yX2_begin cX2_begin 1 none ∈ wsG := inG (i := 86) (by decide +kernel) (by decide +kernel)
theorem ml_X2_49 : Cond.methodLink RX2 49 yX2_shapeAnew ∈ wsG := inG (i := 87) (by decide +kernel) (by decide +kernel)
theorem im_X2_shapeAnew : Cond.instanceMethod yX2_shapeAnew ∈ wsG := inG (i := 89) (by decide +kernel) (by decide +kernel)
theorem co_X2_shapeAnew : Cond.code yX2_shapeAnew cX2_shapeAnew 4 none ∈ wsG := inG (i := 90) (by decide +kernel) (by decide +kernel)
theorem ml_X2_52 : Cond.methodLink RX2 52 yX5_get ∈ wsG := inG (i := 91) (by decide +kernel) (by decide +kernel)
theorem im_X5_get : Cond.instanceMethod yX5_get ∈ wsG := inG (i := 92) (by decide +kernel) (by decide +kernel)
theorem se_X5_get : Cond.selects RX5 yX5_get yX5_get ∈ wsG := inG (i := 93) (by decide +kernel) (by decide +kernel)
theorem co_X5_get : Cond.code yX5_get cX5_get 2 (some .int) ∈ wsG := inG (i := 94) (by decide +kernel) (by decide +kernel)
theorem ml_X5_34 : Cond.methodLink RX5 34 yX4_get ∈ wsG := inG (i := 95) (by decide +kernel) (by decide +kernel)
theorem im_X4_get : Cond.instanceMethod yX4_get ∈ wsG := inG (i := 96) (by decide +kernel) (by decide +kernel)
theorem se_X4_get : Cond.selects RX4 yX4_get yX4_get ∈ wsG := inG (i := 97) (by decide +kernel) (by decide +kernel)
theorem co_X4_get : Cond.code yX4_get cX4_get 2 (some .int) ∈ wsG := inG (i := 98) (by decide +kernel) (by decide +kernel)
theorem ml_X2_58 : Cond.methodLink RX2 58 yX2_statesAtFirst ∈ wsG := inG (i := 99) (by decide +kernel) (by decide +kernel)
theorem st_X2_statesAtFirst : Cond.static yX2_statesAtFirst ∈ wsG := inG (i := 100) (by decide +kernel) (by decide +kernel)
theorem co_X2_statesAtFirst : Cond.code yX2_statesAtFirst cX2_statesAtFirst 1 (some .int) ∈ wsG := inG (i := 101) (by decide +kernel) (by decide +kernel)
theorem ml_X2_67 : Cond.methodLink RX2 67 yX2_path ∈ wsG := inG (i := 102) (by decide +kernel) (by decide +kernel)
theorem st_X2_path : Cond.static yX2_path ∈ wsG := inG (i := 103) (by decide +kernel) (by decide +kernel)
theorem co_X2_path : Cond.code yX2_path cX2_path 2 (some .int) ∈ wsG := inG (i := 104) (by decide +kernel) (by decide +kernel)
theorem ml_X2_71 : Cond.methodLink RX2 71 yX4_put ∈ wsG := inG (i := 105) (by decide +kernel) (by decide +kernel)
theorem ml_X2_75 : Cond.methodLink RX2 75 yX2_nextAtFirst ∈ wsG := inG (i := 106) (by decide +kernel) (by decide +kernel)
theorem st_X2_nextAtFirst : Cond.static yX2_nextAtFirst ∈ wsG := inG (i := 107) (by decide +kernel) (by decide +kernel)
theorem co_X2_nextAtFirst : Cond.code yX2_nextAtFirst cX2_nextAtFirst 5 (some .int) ∈ wsG := inG (i := 108) (by decide +kernel) (by decide +kernel)
theorem fl_X2_32 : Cond.fieldLink RX2 32 "CloningMachine$Machine" "settings" "LCloningMachine$Settings;" ∈ wsG := inG (i := 109) (by decide +kernel) (by decide +kernel)
theorem fl_X2_14 : Cond.fieldLink RX2 14 "CloningMachine$Machine" "counts" "LCloningMachine$Row;" ∈ wsG := inG (i := 110) (by decide +kernel) (by decide +kernel)
theorem fl_X2_20 : Cond.fieldLink RX2 20 "CloningMachine$Machine" "nexts" "LCloningMachine$Row;" ∈ wsG := inG (i := 111) (by decide +kernel) (by decide +kernel)
theorem fl_X2_23 : Cond.fieldLink RX2 23 "CloningMachine$Machine" "origins" "LCloningMachine$Row;" ∈ wsG := inG (i := 112) (by decide +kernel) (by decide +kernel)
theorem fl_X2_26 : Cond.fieldLink RX2 26 "CloningMachine$Machine" "lines" "LCloningMachine$Row;" ∈ wsG := inG (i := 113) (by decide +kernel) (by decide +kernel)
theorem fl_X2_29 : Cond.fieldLink RX2 29 "CloningMachine$Machine" "flows" "LCloningMachine$Row;" ∈ wsG := inG (i := 114) (by decide +kernel) (by decide +kernel)
theorem fl_X2_61 : Cond.fieldLink RX2 61 "CloningMachine$Machine" "states" "I" ∈ wsG := inG (i := 116) (by decide +kernel) (by decide +kernel)
theorem fl_X2_64 : Cond.fieldLink RX2 64 "CloningMachine$Machine" "here" "I" ∈ wsG := inG (i := 117) (by decide +kernel) (by decide +kernel)
theorem fl_X2_39 : Cond.fieldLink RX2 39 "CloningMachine$Machine" "taken" "I" ∈ wsG := inG (i := 121) (by decide +kernel) (by decide +kernel)
theorem fl_X2_43 : Cond.fieldLink RX2 43 "CloningMachine$Machine" "clonings" "I" ∈ wsG := inG (i := 123) (by decide +kernel) (by decide +kernel)
theorem fl_X2_46 : Cond.fieldLink RX2 46 "CloningMachine$Machine" "drops" "I" ∈ wsG := inG (i := 125) (by decide +kernel) (by decide +kernel)
theorem cl_X8_25 : Cond.classLink RX8 25 RX0 ∈ wsG := inG (i := 150) (by decide +kernel) (by decide +kernel)
theorem is_X0 : Cond.instantiable RX0 3 ∈ wsG := inG (i := 151) (by decide +kernel) (by decide +kernel)
theorem ml_X8_27 : Cond.methodLink RX8 27 yX0_init ∈ wsG := inG (i := 152) (by decide +kernel) (by decide +kernel)
theorem im_X0_init : Cond.instanceMethod yX0_init ∈ wsG := inG (i := 153) (by decide +kernel) (by decide +kernel)
theorem co_X0_init : Cond.code yX0_init cX0_init 2 none ∈ wsG := inG (i := 154) (by decide +kernel) (by decide +kernel)
theorem ml_X0_1 : Cond.methodLink RX0 1 objectInit ∈ wsG := inG (i := 155) (by decide +kernel) (by decide +kernel)
theorem cl_X0_16 : Cond.classLink RX0 16 RX4 ∈ wsG := inG (i := 156) (by decide +kernel) (by decide +kernel)
theorem ml_X0_18 : Cond.methodLink RX0 18 yX4_init ∈ wsG := inG (i := 157) (by decide +kernel) (by decide +kernel)
theorem fl_X0_21 : Cond.fieldLink RX0 21 "CloningMachine$Bytes" "row" "LCloningMachine$Row;" ∈ wsG := inG (i := 158) (by decide +kernel) (by decide +kernel)
theorem fl_X0_13 : Cond.fieldLink RX0 13 "CloningMachine$Bytes" "room" "I" ∈ wsG := inG (i := 159) (by decide +kernel) (by decide +kernel)
theorem fl_X0_7 : Cond.fieldLink RX0 7 "CloningMachine$Bytes" "length" "I" ∈ wsG := inG (i := 160) (by decide +kernel) (by decide +kernel)
theorem cl_X8_40 : Cond.classLink RX8 40 RX3 ∈ wsG := inG (i := 168) (by decide +kernel) (by decide +kernel)
theorem is_X3 : Cond.instantiable RX3 5 ∈ wsG := inG (i := 169) (by decide +kernel) (by decide +kernel)
theorem ml_X8_42 : Cond.methodLink RX8 42 yX3_init ∈ wsG := inG (i := 170) (by decide +kernel) (by decide +kernel)
theorem im_X3_init : Cond.instanceMethod yX3_init ∈ wsG := inG (i := 171) (by decide +kernel) (by decide +kernel)
theorem co_X3_init : Cond.code yX3_init cX3_init 3 none ∈ wsG := inG (i := 172) (by decide +kernel) (by decide +kernel)
theorem ml_X3_3 : Cond.methodLink RX3 3 objectInit ∈ wsG := inG (i := 173) (by decide +kernel) (by decide +kernel)
theorem cl_X3_9 : Cond.classLink RX3 9 RX6 ∈ wsG := inG (i := 174) (by decide +kernel) (by decide +kernel)
theorem is_X6 : Cond.instantiable RX6 2 ∈ wsG := inG (i := 175) (by decide +kernel) (by decide +kernel)
theorem im_X6_init : Cond.instanceMethod yX6_init ∈ wsG := inG (i := 177) (by decide +kernel) (by decide +kernel)
theorem co_X6_init : Cond.code yX6_init cX6_init 1 none ∈ wsG := inG (i := 178) (by decide +kernel) (by decide +kernel)
theorem ml_X6_3 : Cond.methodLink RX6 3 objectInit ∈ wsG := inG (i := 179) (by decide +kernel) (by decide +kernel)
theorem fl_X6_9 : Cond.fieldLink RX6 9 "CloningMachine$Span" "low" "J" ∈ wsG := inG (i := 180) (by decide +kernel) (by decide +kernel)
theorem fl_X6_17 : Cond.fieldLink RX6 17 "CloningMachine$Span" "high" "J" ∈ wsG := inG (i := 181) (by decide +kernel) (by decide +kernel)
theorem cl_X3_30 : Cond.classLink RX3 30 RX2 ∈ wsG := inG (i := 187) (by decide +kernel) (by decide +kernel)
theorem ml_X3_32 : Cond.methodLink RX3 32 yX2_init ∈ wsG := inG (i := 188) (by decide +kernel) (by decide +kernel)
theorem fl_X3_22 : Cond.fieldLink RX3 22 "CloningMachine$Packer" "settings" "LCloningMachine$Settings;" ∈ wsG := inG (i := 189) (by decide +kernel) (by decide +kernel)
theorem fl_X3_35 : Cond.fieldLink RX3 35 "CloningMachine$Packer" "machine" "LCloningMachine$Machine;" ∈ wsG := inG (i := 190) (by decide +kernel) (by decide +kernel)
theorem fl_X3_12 : Cond.fieldLink RX3 12 "CloningMachine$Packer" "span" "LCloningMachine$Span;" ∈ wsG := inG (i := 192) (by decide +kernel) (by decide +kernel)
theorem fl_X3_26 : Cond.fieldLink RX3 26 "CloningMachine$Packer" "target" "LCloningMachine$Bytes;" ∈ wsG := inG (i := 193) (by decide +kernel) (by decide +kernel)
theorem fl_X3_18 : Cond.fieldLink RX3 18 "CloningMachine$Packer" "used" "Z" ∈ wsG := inG (i := 194) (by decide +kernel) (by decide +kernel)
theorem cl_X8_49 : Cond.classLink RX8 49 RX7 ∈ wsG := inG (i := 207) (by decide +kernel) (by decide +kernel)
theorem is_X7 : Cond.instantiable RX7 7 ∈ wsG := inG (i := 208) (by decide +kernel) (by decide +kernel)
theorem ml_X8_51 : Cond.methodLink RX8 51 yX7_init ∈ wsG := inG (i := 209) (by decide +kernel) (by decide +kernel)
theorem im_X7_init : Cond.instanceMethod yX7_init ∈ wsG := inG (i := 210) (by decide +kernel) (by decide +kernel)
theorem co_X7_init : Cond.code yX7_init cX7_init 3 none ∈ wsG := inG (i := 211) (by decide +kernel) (by decide +kernel)
theorem ml_X7_3 : Cond.methodLink RX7 3 objectInit ∈ wsG := inG (i := 212) (by decide +kernel) (by decide +kernel)
theorem cl_X7_9 : Cond.classLink RX7 9 RX6 ∈ wsG := inG (i := 213) (by decide +kernel) (by decide +kernel)
theorem cl_X7_38 : Cond.classLink RX7 38 RX2 ∈ wsG := inG (i := 215) (by decide +kernel) (by decide +kernel)
theorem ml_X7_40 : Cond.methodLink RX7 40 yX2_init ∈ wsG := inG (i := 216) (by decide +kernel) (by decide +kernel)
theorem fl_X7_30 : Cond.fieldLink RX7 30 "CloningMachine$Unpacker" "settings" "LCloningMachine$Settings;" ∈ wsG := inG (i := 217) (by decide +kernel) (by decide +kernel)
theorem fl_X7_43 : Cond.fieldLink RX7 43 "CloningMachine$Unpacker" "machine" "LCloningMachine$Machine;" ∈ wsG := inG (i := 218) (by decide +kernel) (by decide +kernel)
theorem fl_X7_12 : Cond.fieldLink RX7 12 "CloningMachine$Unpacker" "span" "LCloningMachine$Span;" ∈ wsG := inG (i := 220) (by decide +kernel) (by decide +kernel)
theorem fl_X7_34 : Cond.fieldLink RX7 34 "CloningMachine$Unpacker" "source" "LCloningMachine$Bytes;" ∈ wsG := inG (i := 221) (by decide +kernel) (by decide +kernel)
theorem fl_X7_18 : Cond.fieldLink RX7 18 "CloningMachine$Unpacker" "code" "J" ∈ wsG := inG (i := 222) (by decide +kernel) (by decide +kernel)
theorem fl_X7_22 : Cond.fieldLink RX7 22 "CloningMachine$Unpacker" "pulled" "I" ∈ wsG := inG (i := 223) (by decide +kernel) (by decide +kernel)
theorem fl_X7_26 : Cond.fieldLink RX7 26 "CloningMachine$Unpacker" "used" "Z" ∈ wsG := inG (i := 224) (by decide +kernel) (by decide +kernel)
theorem cl_X8_56 : Cond.classLink RX8 56 RX1 ∈ wsG := inG (i := 241) (by decide +kernel) (by decide +kernel)
theorem is_X1 : Cond.instantiable RX1 2 ∈ wsG := inG (i := 242) (by decide +kernel) (by decide +kernel)
theorem im_X1_init : Cond.instanceMethod yX1_init ∈ wsG := inG (i := 244) (by decide +kernel) (by decide +kernel)
theorem co_X1_init : Cond.code yX1_init cX1_init 1 none ∈ wsG := inG (i := 245) (by decide +kernel) (by decide +kernel)
theorem ml_X1_1 : Cond.methodLink RX1 1 objectInit ∈ wsG := inG (i := 246) (by decide +kernel) (by decide +kernel)
theorem cl_X1_7 : Cond.classLink RX1 7 RX5 ∈ wsG := inG (i := 247) (by decide +kernel) (by decide +kernel)
theorem ml_X1_9 : Cond.methodLink RX1 9 yX5_init ∈ wsG := inG (i := 248) (by decide +kernel) (by decide +kernel)
theorem cl_X1_16 : Cond.classLink RX1 16 RX2 ∈ wsG := inG (i := 249) (by decide +kernel) (by decide +kernel)
theorem ml_X1_18 : Cond.methodLink RX1 18 yX2_init ∈ wsG := inG (i := 250) (by decide +kernel) (by decide +kernel)
theorem fl_X1_10 : Cond.fieldLink RX1 10 "CloningMachine$Kept" "settings" "LCloningMachine$Settings;" ∈ wsG := inG (i := 251) (by decide +kernel) (by decide +kernel)
theorem fl_X1_21 : Cond.fieldLink RX1 21 "CloningMachine$Kept" "machine" "LCloningMachine$Machine;" ∈ wsG := inG (i := 253) (by decide +kernel) (by decide +kernel)
theorem fl_X8_12 : Cond.fieldLink RX8 12 "CloningMachine" "settings" "LCloningMachine$Settings;" ∈ wsG := inG (i := 260) (by decide +kernel) (by decide +kernel)
theorem fl_X8_21 : Cond.fieldLink RX8 21 "CloningMachine" "running" "LCloningMachine$Machine;" ∈ wsG := inG (i := 261) (by decide +kernel) (by decide +kernel)
theorem fl_X8_30 : Cond.fieldLink RX8 30 "CloningMachine" "input" "LCloningMachine$Bytes;" ∈ wsG := inG (i := 262) (by decide +kernel) (by decide +kernel)
theorem fl_X8_34 : Cond.fieldLink RX8 34 "CloningMachine" "packed" "LCloningMachine$Bytes;" ∈ wsG := inG (i := 263) (by decide +kernel) (by decide +kernel)
theorem fl_X8_37 : Cond.fieldLink RX8 37 "CloningMachine" "unpacked" "LCloningMachine$Bytes;" ∈ wsG := inG (i := 264) (by decide +kernel) (by decide +kernel)
theorem fl_X8_45 : Cond.fieldLink RX8 45 "CloningMachine" "packer" "LCloningMachine$Packer;" ∈ wsG := inG (i := 265) (by decide +kernel) (by decide +kernel)
theorem fl_X8_52 : Cond.fieldLink RX8 52 "CloningMachine" "unpacker" "LCloningMachine$Unpacker;" ∈ wsG := inG (i := 266) (by decide +kernel) (by decide +kernel)
theorem fl_X8_59 : Cond.fieldLink RX8 59 "CloningMachine" "keptFirst" "LCloningMachine$Kept;" ∈ wsG := inG (i := 267) (by decide +kernel) (by decide +kernel)
theorem fl_X8_63 : Cond.fieldLink RX8 63 "CloningMachine" "keptSecond" "LCloningMachine$Kept;" ∈ wsG := inG (i := 268) (by decide +kernel) (by decide +kernel)
theorem fl_X8_66 : Cond.fieldLink RX8 66 "CloningMachine" "keptNumber" "I" ∈ wsG := inG (i := 269) (by decide +kernel) (by decide +kernel)
theorem ml_L_13 : Cond.methodLink RL 13 yX8_set ∈ wsG := inG (i := 291) (by decide +kernel) (by decide +kernel)
theorem im_X8_set : Cond.instanceMethod yX8_set ∈ wsG := inG (i := 292) (by decide +kernel) (by decide +kernel)
theorem se_X8_set : Cond.selects RX8 yX8_set yX8_set ∈ wsG := inG (i := 293) (by decide +kernel) (by decide +kernel)
theorem co_X8_set : Cond.code yX8_set cX8_set 4 (some .int) ∈ wsG := inG (i := 294) (by decide +kernel) (by decide +kernel)
theorem ml_X8_70 : Cond.methodLink RX8 70 yX5_allows ∈ wsG := inG (i := 295) (by decide +kernel) (by decide +kernel)
theorem st_X5_allows : Cond.static yX5_allows ∈ wsG := inG (i := 296) (by decide +kernel) (by decide +kernel)
theorem co_X5_allows : Cond.code yX5_allows cX5_allows 2 (some .boolean) ∈ wsG := inG (i := 297) (by decide +kernel) (by decide +kernel)
theorem ml_X8_74 : Cond.methodLink RX8 74 yX5_get ∈ wsG := inG (i := 302) (by decide +kernel) (by decide +kernel)
theorem ml_X8_78 : Cond.methodLink RX8 78 yX5_tell ∈ wsG := inG (i := 303) (by decide +kernel) (by decide +kernel)
theorem im_X5_tell : Cond.instanceMethod yX5_tell ∈ wsG := inG (i := 304) (by decide +kernel) (by decide +kernel)
theorem se_X5_tell : Cond.selects RX5 yX5_tell yX5_tell ∈ wsG := inG (i := 305) (by decide +kernel) (by decide +kernel)
theorem co_X5_tell : Cond.code yX5_tell cX5_tell 3 none ∈ wsG := inG (i := 306) (by decide +kernel) (by decide +kernel)
theorem ml_X8_82 : Cond.methodLink RX8 82 yX2_begin ∈ wsG := inG (i := 307) (by decide +kernel) (by decide +kernel)
theorem ml_L_18 : Cond.methodLink RL 18 yX8_renew ∈ wsG := inG (i := 308) (by decide +kernel) (by decide +kernel)
theorem im_X8_renew : Cond.instanceMethod yX8_renew ∈ wsG := inG (i := 309) (by decide +kernel) (by decide +kernel)
theorem se_X8_renew : Cond.selects RX8 yX8_renew yX8_renew ∈ wsG := inG (i := 310) (by decide +kernel) (by decide +kernel)
theorem co_X8_renew : Cond.code yX8_renew cX8_renew 1 (some .int) ∈ wsG := inG (i := 311) (by decide +kernel) (by decide +kernel)
theorem ml_L_23 : Cond.methodLink RL 23 yX8_write ∈ wsG := inG (i := 312) (by decide +kernel) (by decide +kernel)
theorem im_X8_write : Cond.instanceMethod yX8_write ∈ wsG := inG (i := 313) (by decide +kernel) (by decide +kernel)
theorem se_X8_write : Cond.selects RX8 yX8_write yX8_write ∈ wsG := inG (i := 314) (by decide +kernel) (by decide +kernel)
theorem co_X8_write : Cond.code yX8_write cX8_write 2 (some .int) ∈ wsG := inG (i := 315) (by decide +kernel) (by decide +kernel)
theorem ml_X8_88 : Cond.methodLink RX8 88 yX8_isByte ∈ wsG := inG (i := 316) (by decide +kernel) (by decide +kernel)
theorem st_X8_isByte : Cond.static yX8_isByte ∈ wsG := inG (i := 317) (by decide +kernel) (by decide +kernel)
theorem co_X8_isByte : Cond.code yX8_isByte cX8_isByte 1 (some .boolean) ∈ wsG := inG (i := 318) (by decide +kernel) (by decide +kernel)
theorem ml_X8_92 : Cond.methodLink RX8 92 yX0_length ∈ wsG := inG (i := 319) (by decide +kernel) (by decide +kernel)
theorem im_X0_length : Cond.instanceMethod yX0_length ∈ wsG := inG (i := 320) (by decide +kernel) (by decide +kernel)
theorem se_X0_length : Cond.selects RX0 yX0_length yX0_length ∈ wsG := inG (i := 321) (by decide +kernel) (by decide +kernel)
theorem co_X0_length : Cond.code yX0_length cX0_length 1 (some .int) ∈ wsG := inG (i := 322) (by decide +kernel) (by decide +kernel)
theorem ml_X8_96 : Cond.methodLink RX8 96 yX0_add ∈ wsG := inG (i := 323) (by decide +kernel) (by decide +kernel)
theorem im_X0_add : Cond.instanceMethod yX0_add ∈ wsG := inG (i := 324) (by decide +kernel) (by decide +kernel)
theorem se_X0_add : Cond.selects RX0 yX0_add yX0_add ∈ wsG := inG (i := 325) (by decide +kernel) (by decide +kernel)
theorem co_X0_add : Cond.code yX0_add cX0_add 2 none ∈ wsG := inG (i := 326) (by decide +kernel) (by decide +kernel)
theorem ml_X0_29 : Cond.methodLink RX0 29 yX4_put ∈ wsG := inG (i := 327) (by decide +kernel) (by decide +kernel)
theorem ml_L_28 : Cond.methodLink RL 28 yX8_wipe ∈ wsG := inG (i := 328) (by decide +kernel) (by decide +kernel)
theorem im_X8_wipe : Cond.instanceMethod yX8_wipe ∈ wsG := inG (i := 329) (by decide +kernel) (by decide +kernel)
theorem se_X8_wipe : Cond.selects RX8 yX8_wipe yX8_wipe ∈ wsG := inG (i := 330) (by decide +kernel) (by decide +kernel)
theorem co_X8_wipe : Cond.code yX8_wipe cX8_wipe 2 (some .int) ∈ wsG := inG (i := 331) (by decide +kernel) (by decide +kernel)
theorem ml_X8_99 : Cond.methodLink RX8 99 yX0_clear ∈ wsG := inG (i := 332) (by decide +kernel) (by decide +kernel)
theorem im_X0_clear : Cond.instanceMethod yX0_clear ∈ wsG := inG (i := 333) (by decide +kernel) (by decide +kernel)
theorem se_X0_clear : Cond.selects RX0 yX0_clear yX0_clear ∈ wsG := inG (i := 334) (by decide +kernel) (by decide +kernel)
theorem co_X0_clear : Cond.code yX0_clear cX0_clear 1 none ∈ wsG := inG (i := 335) (by decide +kernel) (by decide +kernel)
theorem ml_L_32 : Cond.methodLink RL 32 yX8_pack ∈ wsG := inG (i := 336) (by decide +kernel) (by decide +kernel)
theorem im_X8_pack : Cond.instanceMethod yX8_pack ∈ wsG := inG (i := 337) (by decide +kernel) (by decide +kernel)
theorem se_X8_pack : Cond.selects RX8 yX8_pack yX8_pack ∈ wsG := inG (i := 338) (by decide +kernel) (by decide +kernel)
theorem co_X8_pack : Cond.code yX8_pack cX8_pack 2 (some .int) ∈ wsG := inG (i := 339) (by decide +kernel) (by decide +kernel)
theorem ml_X8_102 : Cond.methodLink RX8 102 yX3_open ∈ wsG := inG (i := 340) (by decide +kernel) (by decide +kernel)
theorem im_X3_open : Cond.instanceMethod yX3_open ∈ wsG := inG (i := 341) (by decide +kernel) (by decide +kernel)
theorem se_X3_open : Cond.selects RX3 yX3_open yX3_open ∈ wsG := inG (i := 342) (by decide +kernel) (by decide +kernel)
theorem co_X3_open : Cond.code yX3_open cX3_open 1 none ∈ wsG := inG (i := 343) (by decide +kernel) (by decide +kernel)
theorem ml_X3_39 : Cond.methodLink RX3 39 yX2_begin ∈ wsG := inG (i := 344) (by decide +kernel) (by decide +kernel)
theorem ml_X3_42 : Cond.methodLink RX3 42 yX6_open ∈ wsG := inG (i := 345) (by decide +kernel) (by decide +kernel)
theorem im_X6_open : Cond.instanceMethod yX6_open ∈ wsG := inG (i := 346) (by decide +kernel) (by decide +kernel)
theorem se_X6_open : Cond.selects RX6 yX6_open yX6_open ∈ wsG := inG (i := 347) (by decide +kernel) (by decide +kernel)
theorem co_X6_open : Cond.code yX6_open cX6_open 1 none ∈ wsG := inG (i := 348) (by decide +kernel) (by decide +kernel)
theorem ck_X6_15 : Cond.constantLong RX6 15 (4294967295 : Int64) ∈ wsG := inG (i := 349) (by decide +kernel) (by decide +kernel)
theorem ml_X3_45 : Cond.methodLink RX3 45 yX0_clear ∈ wsG := inG (i := 350) (by decide +kernel) (by decide +kernel)
theorem ml_X8_105 : Cond.methodLink RX8 105 yX0_get ∈ wsG := inG (i := 351) (by decide +kernel) (by decide +kernel)
theorem im_X0_get : Cond.instanceMethod yX0_get ∈ wsG := inG (i := 352) (by decide +kernel) (by decide +kernel)
theorem se_X0_get : Cond.selects RX0 yX0_get yX0_get ∈ wsG := inG (i := 353) (by decide +kernel) (by decide +kernel)
theorem co_X0_get : Cond.code yX0_get cX0_get 2 (some .int) ∈ wsG := inG (i := 354) (by decide +kernel) (by decide +kernel)
theorem ml_X0_25 : Cond.methodLink RX0 25 yX4_get ∈ wsG := inG (i := 355) (by decide +kernel) (by decide +kernel)
theorem ml_X8_106 : Cond.methodLink RX8 106 yX3_packByte ∈ wsG := inG (i := 356) (by decide +kernel) (by decide +kernel)
theorem im_X3_packByte : Cond.instanceMethod yX3_packByte ∈ wsG := inG (i := 357) (by decide +kernel) (by decide +kernel)
theorem se_X3_packByte : Cond.selects RX3 yX3_packByte yX3_packByte ∈ wsG := inG (i := 358) (by decide +kernel) (by decide +kernel)
theorem co_X3_packByte : Cond.code yX3_packByte cX3_packByte 4 none ∈ wsG := inG (i := 359) (by decide +kernel) (by decide +kernel)
theorem ml_X3_53 : Cond.methodLink RX3 53 yX5_turned ∈ wsG := inG (i := 360) (by decide +kernel) (by decide +kernel)
theorem im_X5_turned : Cond.instanceMethod yX5_turned ∈ wsG := inG (i := 361) (by decide +kernel) (by decide +kernel)
theorem se_X5_turned : Cond.selects RX5 yX5_turned yX5_turned ∈ wsG := inG (i := 362) (by decide +kernel) (by decide +kernel)
theorem co_X5_turned : Cond.code yX5_turned cX5_turned 4 (some .int) ∈ wsG := inG (i := 363) (by decide +kernel) (by decide +kernel)
theorem ml_X5_42 : Cond.methodLink RX5 42 yX5_get ∈ wsG := inG (i := 364) (by decide +kernel) (by decide +kernel)
theorem st_X8_bitFromHighest : Cond.static yX8_bitFromHighest ∈ wsG := inG (i := 366) (by decide +kernel) (by decide +kernel)
theorem co_X8_bitFromHighest : Cond.code yX8_bitFromHighest cX8_bitFromHighest 3 (some .int) ∈ wsG := inG (i := 367) (by decide +kernel) (by decide +kernel)
theorem ml_X3_63 : Cond.methodLink RX3 63 yX3_packBit ∈ wsG := inG (i := 368) (by decide +kernel) (by decide +kernel)
theorem im_X3_packBit : Cond.instanceMethod yX3_packBit ∈ wsG := inG (i := 370) (by decide +kernel) (by decide +kernel)
theorem co_X3_packBit : Cond.code yX3_packBit cX3_packBit 3 none ∈ wsG := inG (i := 371) (by decide +kernel) (by decide +kernel)
theorem ml_X3_71 : Cond.methodLink RX3 71 yX2_chance ∈ wsG := inG (i := 372) (by decide +kernel) (by decide +kernel)
theorem im_X2_chance : Cond.instanceMethod yX2_chance ∈ wsG := inG (i := 373) (by decide +kernel) (by decide +kernel)
theorem se_X2_chance : Cond.selects RX2 yX2_chance yX2_chance ∈ wsG := inG (i := 374) (by decide +kernel) (by decide +kernel)
theorem co_X2_chance : Cond.code yX2_chance cX2_chance 5 (some .int) ∈ wsG := inG (i := 375) (by decide +kernel) (by decide +kernel)
theorem ck_X2_93 : Cond.constantLong RX2 93 (2 : Int64) ∈ wsG := inG (i := 376) (by decide +kernel) (by decide +kernel)
theorem ml_X2_90 : Cond.methodLink RX2 90 yX2_countBy ∈ wsG := inG (i := 377) (by decide +kernel) (by decide +kernel)
theorem im_X2_countBy : Cond.instanceMethod yX2_countBy ∈ wsG := inG (i := 378) (by decide +kernel) (by decide +kernel)
theorem se_X2_countBy : Cond.selects RX2 yX2_countBy yX2_countBy ∈ wsG := inG (i := 379) (by decide +kernel) (by decide +kernel)
theorem co_X2_countBy : Cond.code yX2_countBy cX2_countBy 3 (some .int) ∈ wsG := inG (i := 380) (by decide +kernel) (by decide +kernel)
theorem ml_X2_79 : Cond.methodLink RX2 79 yX4_get ∈ wsG := inG (i := 381) (by decide +kernel) (by decide +kernel)
theorem ck_X2_95 : Cond.constantLong RX2 95 (4096 : Int64) ∈ wsG := inG (i := 382) (by decide +kernel) (by decide +kernel)
theorem ml_X2_80 : Cond.methodLink RX2 80 yX2_bothCounts ∈ wsG := inG (i := 383) (by decide +kernel) (by decide +kernel)
theorem im_X2_bothCounts : Cond.instanceMethod yX2_bothCounts ∈ wsG := inG (i := 385) (by decide +kernel) (by decide +kernel)
theorem co_X2_bothCounts : Cond.code yX2_bothCounts cX2_bothCounts 2 (some .int) ∈ wsG := inG (i := 386) (by decide +kernel) (by decide +kernel)
theorem st_X8_cutQuotient : Cond.static yX8_cutQuotient ∈ wsG := inG (i := 388) (by decide +kernel) (by decide +kernel)
theorem co_X8_cutQuotient : Cond.code yX8_cutQuotient cX8_cutQuotient 4 (some .int) ∈ wsG := inG (i := 389) (by decide +kernel) (by decide +kernel)
theorem ml_X2_97 : Cond.methodLink RX2 97 Lib.Math.min.name ∈ wsG := inG (i := 390) (by decide +kernel) (by decide +kernel)
theorem st_Math_min : Cond.static Lib.Math.min.name ∈ wsG := inG (i := 391) (by decide +kernel) (by decide +kernel)
theorem co_Math_min : Cond.code Lib.Math.min.name Lib.Math.min.code 2 (some .int) ∈ wsG := inG (i := 392) (by decide +kernel) (by decide +kernel)
theorem ml_X2_102 : Cond.methodLink RX2 102 Lib.Math.max.name ∈ wsG := inG (i := 393) (by decide +kernel) (by decide +kernel)
theorem ml_X3_74 : Cond.methodLink RX3 74 yX6_middle ∈ wsG := inG (i := 394) (by decide +kernel) (by decide +kernel)
theorem im_X6_middle : Cond.instanceMethod yX6_middle ∈ wsG := inG (i := 395) (by decide +kernel) (by decide +kernel)
theorem se_X6_middle : Cond.selects RX6 yX6_middle yX6_middle ∈ wsG := inG (i := 396) (by decide +kernel) (by decide +kernel)
theorem co_X6_middle : Cond.code yX6_middle cX6_middle 2 (some .long) ∈ wsG := inG (i := 397) (by decide +kernel) (by decide +kernel)
theorem ck_X6_20 : Cond.constantLong RX6 20 (4096 : Int64) ∈ wsG := inG (i := 398) (by decide +kernel) (by decide +kernel)
theorem ml_X3_78 : Cond.methodLink RX3 78 yX6_narrow ∈ wsG := inG (i := 399) (by decide +kernel) (by decide +kernel)
theorem im_X6_narrow : Cond.instanceMethod yX6_narrow ∈ wsG := inG (i := 400) (by decide +kernel) (by decide +kernel)
theorem se_X6_narrow : Cond.selects RX6 yX6_narrow yX6_narrow ∈ wsG := inG (i := 401) (by decide +kernel) (by decide +kernel)
theorem co_X6_narrow : Cond.code yX6_narrow cX6_narrow 4 none ∈ wsG := inG (i := 402) (by decide +kernel) (by decide +kernel)
theorem ml_X3_82 : Cond.methodLink RX3 82 yX6_topIsSettled ∈ wsG := inG (i := 403) (by decide +kernel) (by decide +kernel)
theorem im_X6_topIsSettled : Cond.instanceMethod yX6_topIsSettled ∈ wsG := inG (i := 404) (by decide +kernel) (by decide +kernel)
theorem se_X6_topIsSettled : Cond.selects RX6 yX6_topIsSettled yX6_topIsSettled ∈ wsG := inG (i := 405) (by decide +kernel) (by decide +kernel)
theorem co_X6_topIsSettled : Cond.code yX6_topIsSettled cX6_topIsSettled 1 (some .boolean) ∈ wsG := inG (i := 406) (by decide +kernel) (by decide +kernel)
theorem ck_X6_22 : Cond.constantLong RX6 22 (16777216 : Int64) ∈ wsG := inG (i := 407) (by decide +kernel) (by decide +kernel)
theorem ml_X3_50 : Cond.methodLink RX3 50 yX3_putTop ∈ wsG := inG (i := 408) (by decide +kernel) (by decide +kernel)
theorem im_X3_putTop : Cond.instanceMethod yX3_putTop ∈ wsG := inG (i := 410) (by decide +kernel) (by decide +kernel)
theorem co_X3_putTop : Cond.code yX3_putTop cX3_putTop 1 none ∈ wsG := inG (i := 411) (by decide +kernel) (by decide +kernel)
theorem ml_X3_89 : Cond.methodLink RX3 89 yX6_topOfLow ∈ wsG := inG (i := 412) (by decide +kernel) (by decide +kernel)
theorem im_X6_topOfLow : Cond.instanceMethod yX6_topOfLow ∈ wsG := inG (i := 413) (by decide +kernel) (by decide +kernel)
theorem se_X6_topOfLow : Cond.selects RX6 yX6_topOfLow yX6_topOfLow ∈ wsG := inG (i := 414) (by decide +kernel) (by decide +kernel)
theorem co_X6_topOfLow : Cond.code yX6_topOfLow cX6_topOfLow 1 (some .int) ∈ wsG := inG (i := 415) (by decide +kernel) (by decide +kernel)
theorem ml_X3_93 : Cond.methodLink RX3 93 yX0_add ∈ wsG := inG (i := 416) (by decide +kernel) (by decide +kernel)
theorem ml_X3_96 : Cond.methodLink RX3 96 yX6_loseTop ∈ wsG := inG (i := 417) (by decide +kernel) (by decide +kernel)
theorem im_X6_loseTop : Cond.instanceMethod yX6_loseTop ∈ wsG := inG (i := 418) (by decide +kernel) (by decide +kernel)
theorem se_X6_loseTop : Cond.selects RX6 yX6_loseTop yX6_loseTop ∈ wsG := inG (i := 419) (by decide +kernel) (by decide +kernel)
theorem co_X6_loseTop : Cond.code yX6_loseTop cX6_loseTop 1 none ∈ wsG := inG (i := 420) (by decide +kernel) (by decide +kernel)
theorem ck_X6_24 : Cond.constantLong RX6 24 (256 : Int64) ∈ wsG := inG (i := 421) (by decide +kernel) (by decide +kernel)
theorem ck_X6_26 : Cond.constantLong RX6 26 (4294967296 : Int64) ∈ wsG := inG (i := 422) (by decide +kernel) (by decide +kernel)
theorem ck_X6_28 : Cond.constantLong RX6 28 (255 : Int64) ∈ wsG := inG (i := 423) (by decide +kernel) (by decide +kernel)
theorem ml_X3_86 : Cond.methodLink RX3 86 yX2_feed ∈ wsG := inG (i := 424) (by decide +kernel) (by decide +kernel)
theorem im_X2_feed : Cond.instanceMethod yX2_feed ∈ wsG := inG (i := 425) (by decide +kernel) (by decide +kernel)
theorem se_X2_feed : Cond.selects RX2 yX2_feed yX2_feed ∈ wsG := inG (i := 426) (by decide +kernel) (by decide +kernel)
theorem co_X2_feed : Cond.code yX2_feed cX2_feed 6 none ∈ wsG := inG (i := 427) (by decide +kernel) (by decide +kernel)
theorem ml_X2_83 : Cond.methodLink RX2 83 yX2_cloneFrom ∈ wsG := inG (i := 428) (by decide +kernel) (by decide +kernel)
theorem im_X2_cloneFrom : Cond.instanceMethod yX2_cloneFrom ∈ wsG := inG (i := 430) (by decide +kernel) (by decide +kernel)
theorem co_X2_cloneFrom : Cond.code yX2_cloneFrom cX2_cloneFrom 9 (some .int) ∈ wsG := inG (i := 431) (by decide +kernel) (by decide +kernel)
theorem ml_X8_109 : Cond.methodLink RX8 109 yX3_close ∈ wsG := inG (i := 432) (by decide +kernel) (by decide +kernel)
theorem im_X3_close : Cond.instanceMethod yX3_close ∈ wsG := inG (i := 433) (by decide +kernel) (by decide +kernel)
theorem se_X3_close : Cond.selects RX3 yX3_close yX3_close ∈ wsG := inG (i := 434) (by decide +kernel) (by decide +kernel)
theorem co_X3_close : Cond.code yX3_close cX3_close 2 none ∈ wsG := inG (i := 435) (by decide +kernel) (by decide +kernel)
theorem ml_L_36 : Cond.methodLink RL 36 yX8_unpack ∈ wsG := inG (i := 436) (by decide +kernel) (by decide +kernel)
theorem im_X8_unpack : Cond.instanceMethod yX8_unpack ∈ wsG := inG (i := 437) (by decide +kernel) (by decide +kernel)
theorem se_X8_unpack : Cond.selects RX8 yX8_unpack yX8_unpack ∈ wsG := inG (i := 438) (by decide +kernel) (by decide +kernel)
theorem co_X8_unpack : Cond.code yX8_unpack cX8_unpack 3 (some .int) ∈ wsG := inG (i := 439) (by decide +kernel) (by decide +kernel)
theorem ml_X8_112 : Cond.methodLink RX8 112 yX7_open ∈ wsG := inG (i := 440) (by decide +kernel) (by decide +kernel)
theorem im_X7_open : Cond.instanceMethod yX7_open ∈ wsG := inG (i := 441) (by decide +kernel) (by decide +kernel)
theorem se_X7_open : Cond.selects RX7 yX7_open yX7_open ∈ wsG := inG (i := 442) (by decide +kernel) (by decide +kernel)
theorem co_X7_open : Cond.code yX7_open cX7_open 2 none ∈ wsG := inG (i := 443) (by decide +kernel) (by decide +kernel)
theorem ml_X7_47 : Cond.methodLink RX7 47 yX2_begin ∈ wsG := inG (i := 444) (by decide +kernel) (by decide +kernel)
theorem ml_X7_50 : Cond.methodLink RX7 50 yX6_open ∈ wsG := inG (i := 445) (by decide +kernel) (by decide +kernel)
theorem ml_X7_53 : Cond.methodLink RX7 53 yX7_pullByte ∈ wsG := inG (i := 446) (by decide +kernel) (by decide +kernel)
theorem im_X7_pullByte : Cond.instanceMethod yX7_pullByte ∈ wsG := inG (i := 448) (by decide +kernel) (by decide +kernel)
theorem co_X7_pullByte : Cond.code yX7_pullByte cX7_pullByte 1 none ∈ wsG := inG (i := 449) (by decide +kernel) (by decide +kernel)
theorem ck_X7_102 : Cond.constantLong RX7 102 (256 : Int64) ∈ wsG := inG (i := 450) (by decide +kernel) (by decide +kernel)
theorem ml_X7_104 : Cond.methodLink RX7 104 yX0_get ∈ wsG := inG (i := 451) (by decide +kernel) (by decide +kernel)
theorem ck_X7_107 : Cond.constantLong RX7 107 (4294967296 : Int64) ∈ wsG := inG (i := 452) (by decide +kernel) (by decide +kernel)
theorem ml_X8_113 : Cond.methodLink RX8 113 yX7_unpackByte ∈ wsG := inG (i := 453) (by decide +kernel) (by decide +kernel)
theorem im_X7_unpackByte : Cond.instanceMethod yX7_unpackByte ∈ wsG := inG (i := 454) (by decide +kernel) (by decide +kernel)
theorem se_X7_unpackByte : Cond.selects RX7 yX7_unpackByte yX7_unpackByte ∈ wsG := inG (i := 455) (by decide +kernel) (by decide +kernel)
theorem co_X7_unpackByte : Cond.code yX7_unpackByte cX7_unpackByte 3 (some .int) ∈ wsG := inG (i := 456) (by decide +kernel) (by decide +kernel)
theorem ml_X7_68 : Cond.methodLink RX7 68 yX7_unpackBit ∈ wsG := inG (i := 457) (by decide +kernel) (by decide +kernel)
theorem im_X7_unpackBit : Cond.instanceMethod yX7_unpackBit ∈ wsG := inG (i := 459) (by decide +kernel) (by decide +kernel)
theorem co_X7_unpackBit : Cond.code yX7_unpackBit cX7_unpackBit 5 (some .int) ∈ wsG := inG (i := 460) (by decide +kernel) (by decide +kernel)
theorem ml_X7_80 : Cond.methodLink RX7 80 yX2_chance ∈ wsG := inG (i := 461) (by decide +kernel) (by decide +kernel)
theorem ml_X7_83 : Cond.methodLink RX7 83 yX6_middle ∈ wsG := inG (i := 462) (by decide +kernel) (by decide +kernel)
theorem ml_X7_87 : Cond.methodLink RX7 87 yX6_narrow ∈ wsG := inG (i := 463) (by decide +kernel) (by decide +kernel)
theorem ml_X7_91 : Cond.methodLink RX7 91 yX6_topIsSettled ∈ wsG := inG (i := 464) (by decide +kernel) (by decide +kernel)
theorem ml_X7_95 : Cond.methodLink RX7 95 yX6_loseTop ∈ wsG := inG (i := 465) (by decide +kernel) (by decide +kernel)
theorem ml_X7_98 : Cond.methodLink RX7 98 yX2_feed ∈ wsG := inG (i := 466) (by decide +kernel) (by decide +kernel)
theorem ml_X7_71 : Cond.methodLink RX7 71 yX5_turned ∈ wsG := inG (i := 467) (by decide +kernel) (by decide +kernel)
theorem ml_X8_116 : Cond.methodLink RX8 116 yX7_bytesRead ∈ wsG := inG (i := 468) (by decide +kernel) (by decide +kernel)
theorem im_X7_bytesRead : Cond.instanceMethod yX7_bytesRead ∈ wsG := inG (i := 469) (by decide +kernel) (by decide +kernel)
theorem se_X7_bytesRead : Cond.selects RX7 yX7_bytesRead yX7_bytesRead ∈ wsG := inG (i := 470) (by decide +kernel) (by decide +kernel)
theorem co_X7_bytesRead : Cond.code yX7_bytesRead cX7_bytesRead 1 (some .int) ∈ wsG := inG (i := 471) (by decide +kernel) (by decide +kernel)
theorem ml_X7_56 : Cond.methodLink RX7 56 yX0_length ∈ wsG := inG (i := 472) (by decide +kernel) (by decide +kernel)
theorem ml_X7_62 : Cond.methodLink RX7 62 Lib.Math.min.name ∈ wsG := inG (i := 473) (by decide +kernel) (by decide +kernel)
theorem ml_L_40 : Cond.methodLink RL 40 yX8_spoil ∈ wsG := inG (i := 474) (by decide +kernel) (by decide +kernel)
theorem im_X8_spoil : Cond.instanceMethod yX8_spoil ∈ wsG := inG (i := 475) (by decide +kernel) (by decide +kernel)
theorem se_X8_spoil : Cond.selects RX8 yX8_spoil yX8_spoil ∈ wsG := inG (i := 476) (by decide +kernel) (by decide +kernel)
theorem co_X8_spoil : Cond.code yX8_spoil cX8_spoil 4 (some .int) ∈ wsG := inG (i := 477) (by decide +kernel) (by decide +kernel)
theorem ml_X8_119 : Cond.methodLink RX8 119 yX0_put ∈ wsG := inG (i := 478) (by decide +kernel) (by decide +kernel)
theorem im_X0_put : Cond.instanceMethod yX0_put ∈ wsG := inG (i := 479) (by decide +kernel) (by decide +kernel)
theorem se_X0_put : Cond.selects RX0 yX0_put yX0_put ∈ wsG := inG (i := 480) (by decide +kernel) (by decide +kernel)
theorem co_X0_put : Cond.code yX0_put cX0_put 3 none ∈ wsG := inG (i := 481) (by decide +kernel) (by decide +kernel)
theorem ml_L_44 : Cond.methodLink RL 44 yX8_at ∈ wsG := inG (i := 482) (by decide +kernel) (by decide +kernel)
theorem im_X8_at : Cond.instanceMethod yX8_at ∈ wsG := inG (i := 483) (by decide +kernel) (by decide +kernel)
theorem se_X8_at : Cond.selects RX8 yX8_at yX8_at ∈ wsG := inG (i := 484) (by decide +kernel) (by decide +kernel)
theorem co_X8_at : Cond.code yX8_at cX8_at 4 (some .int) ∈ wsG := inG (i := 485) (by decide +kernel) (by decide +kernel)
theorem ml_L_48 : Cond.methodLink RL 48 yX8_alike ∈ wsG := inG (i := 486) (by decide +kernel) (by decide +kernel)
theorem im_X8_alike : Cond.instanceMethod yX8_alike ∈ wsG := inG (i := 487) (by decide +kernel) (by decide +kernel)
theorem se_X8_alike : Cond.selects RX8 yX8_alike yX8_alike ∈ wsG := inG (i := 488) (by decide +kernel) (by decide +kernel)
theorem co_X8_alike : Cond.code yX8_alike cX8_alike 3 (some .int) ∈ wsG := inG (i := 489) (by decide +kernel) (by decide +kernel)
theorem ml_X8_122 : Cond.methodLink RX8 122 Lib.Math.min.name ∈ wsG := inG (i := 490) (by decide +kernel) (by decide +kernel)
theorem ml_L_52 : Cond.methodLink RL 52 yX8_grew ∈ wsG := inG (i := 491) (by decide +kernel) (by decide +kernel)
theorem im_X8_grew : Cond.instanceMethod yX8_grew ∈ wsG := inG (i := 492) (by decide +kernel) (by decide +kernel)
theorem se_X8_grew : Cond.selects RX8 yX8_grew yX8_grew ∈ wsG := inG (i := 493) (by decide +kernel) (by decide +kernel)
theorem co_X8_grew : Cond.code yX8_grew cX8_grew 5 (some .int) ∈ wsG := inG (i := 494) (by decide +kernel) (by decide +kernel)
theorem ml_L_56 : Cond.methodLink RL 56 yX8_bit ∈ wsG := inG (i := 495) (by decide +kernel) (by decide +kernel)
theorem im_X8_bit : Cond.instanceMethod yX8_bit ∈ wsG := inG (i := 496) (by decide +kernel) (by decide +kernel)
theorem se_X8_bit : Cond.selects RX8 yX8_bit yX8_bit ∈ wsG := inG (i := 497) (by decide +kernel) (by decide +kernel)
theorem co_X8_bit : Cond.code yX8_bit cX8_bit 2 (some .int) ∈ wsG := inG (i := 498) (by decide +kernel) (by decide +kernel)
theorem ml_X8_143 : Cond.methodLink RX8 143 yX2_feed ∈ wsG := inG (i := 499) (by decide +kernel) (by decide +kernel)
theorem ml_L_60 : Cond.methodLink RL 60 yX8_take ∈ wsG := inG (i := 500) (by decide +kernel) (by decide +kernel)
theorem im_X8_take : Cond.instanceMethod yX8_take ∈ wsG := inG (i := 501) (by decide +kernel) (by decide +kernel)
theorem se_X8_take : Cond.selects RX8 yX8_take yX8_take ∈ wsG := inG (i := 502) (by decide +kernel) (by decide +kernel)
theorem co_X8_take : Cond.code yX8_take cX8_take 4 (some .int) ∈ wsG := inG (i := 503) (by decide +kernel) (by decide +kernel)
theorem ml_X8_149 : Cond.methodLink RX8 149 yX5_turned ∈ wsG := inG (i := 504) (by decide +kernel) (by decide +kernel)
theorem ml_X8_152 : Cond.methodLink RX8 152 yX8_bitFromHighest ∈ wsG := inG (i := 505) (by decide +kernel) (by decide +kernel)
theorem ml_L_64 : Cond.methodLink RL 64 yX8_state ∈ wsG := inG (i := 506) (by decide +kernel) (by decide +kernel)
theorem im_X8_state : Cond.instanceMethod yX8_state ∈ wsG := inG (i := 507) (by decide +kernel) (by decide +kernel)
theorem se_X8_state : Cond.selects RX8 yX8_state yX8_state ∈ wsG := inG (i := 508) (by decide +kernel) (by decide +kernel)
theorem co_X8_state : Cond.code yX8_state cX8_state 3 (some .int) ∈ wsG := inG (i := 509) (by decide +kernel) (by decide +kernel)
theorem ml_X8_156 : Cond.methodLink RX8 156 yX2_countBy ∈ wsG := inG (i := 510) (by decide +kernel) (by decide +kernel)
theorem ml_X8_159 : Cond.methodLink RX8 159 yX2_nextBy ∈ wsG := inG (i := 511) (by decide +kernel) (by decide +kernel)
theorem im_X2_nextBy : Cond.instanceMethod yX2_nextBy ∈ wsG := inG (i := 512) (by decide +kernel) (by decide +kernel)
theorem se_X2_nextBy : Cond.selects RX2 yX2_nextBy yX2_nextBy ∈ wsG := inG (i := 513) (by decide +kernel) (by decide +kernel)
theorem co_X2_nextBy : Cond.code yX2_nextBy cX2_nextBy 3 (some .int) ∈ wsG := inG (i := 514) (by decide +kernel) (by decide +kernel)
theorem ml_X8_162 : Cond.methodLink RX8 162 yX2_chance ∈ wsG := inG (i := 515) (by decide +kernel) (by decide +kernel)
theorem ml_X8_165 : Cond.methodLink RX8 165 yX2_flowInto ∈ wsG := inG (i := 516) (by decide +kernel) (by decide +kernel)
theorem im_X2_flowInto : Cond.instanceMethod yX2_flowInto ∈ wsG := inG (i := 517) (by decide +kernel) (by decide +kernel)
theorem se_X2_flowInto : Cond.selects RX2 yX2_flowInto yX2_flowInto ∈ wsG := inG (i := 518) (by decide +kernel) (by decide +kernel)
theorem co_X2_flowInto : Cond.code yX2_flowInto cX2_flowInto 2 (some .int) ∈ wsG := inG (i := 519) (by decide +kernel) (by decide +kernel)
theorem ml_X2_114 : Cond.methodLink RX2 114 yX2_reckonFlows ∈ wsG := inG (i := 520) (by decide +kernel) (by decide +kernel)
theorem im_X2_reckonFlows : Cond.instanceMethod yX2_reckonFlows ∈ wsG := inG (i := 522) (by decide +kernel) (by decide +kernel)
theorem co_X2_reckonFlows : Cond.code yX2_reckonFlows cX2_reckonFlows 3 none ∈ wsG := inG (i := 523) (by decide +kernel) (by decide +kernel)
theorem ml_X8_168 : Cond.methodLink RX8 168 yX2_lineOf ∈ wsG := inG (i := 524) (by decide +kernel) (by decide +kernel)
theorem im_X2_lineOf : Cond.instanceMethod yX2_lineOf ∈ wsG := inG (i := 525) (by decide +kernel) (by decide +kernel)
theorem se_X2_lineOf : Cond.selects RX2 yX2_lineOf yX2_lineOf ∈ wsG := inG (i := 526) (by decide +kernel) (by decide +kernel)
theorem co_X2_lineOf : Cond.code yX2_lineOf cX2_lineOf 2 (some .int) ∈ wsG := inG (i := 527) (by decide +kernel) (by decide +kernel)
theorem ml_X8_171 : Cond.methodLink RX8 171 yX2_originOf ∈ wsG := inG (i := 528) (by decide +kernel) (by decide +kernel)
theorem im_X2_originOf : Cond.instanceMethod yX2_originOf ∈ wsG := inG (i := 529) (by decide +kernel) (by decide +kernel)
theorem se_X2_originOf : Cond.selects RX2 yX2_originOf yX2_originOf ∈ wsG := inG (i := 530) (by decide +kernel) (by decide +kernel)
theorem co_X2_originOf : Cond.code yX2_originOf cX2_originOf 2 (some .int) ∈ wsG := inG (i := 531) (by decide +kernel) (by decide +kernel)
theorem ml_L_68 : Cond.methodLink RL 68 yX8_live ∈ wsG := inG (i := 532) (by decide +kernel) (by decide +kernel)
theorem im_X8_live : Cond.instanceMethod yX8_live ∈ wsG := inG (i := 533) (by decide +kernel) (by decide +kernel)
theorem se_X8_live : Cond.selects RX8 yX8_live yX8_live ∈ wsG := inG (i := 534) (by decide +kernel) (by decide +kernel)
theorem co_X8_live : Cond.code yX8_live cX8_live 2 (some .int) ∈ wsG := inG (i := 535) (by decide +kernel) (by decide +kernel)
theorem ml_X8_177 : Cond.methodLink RX8 177 yX2_allCounts ∈ wsG := inG (i := 536) (by decide +kernel) (by decide +kernel)
theorem im_X2_allCounts : Cond.instanceMethod yX2_allCounts ∈ wsG := inG (i := 537) (by decide +kernel) (by decide +kernel)
theorem se_X2_allCounts : Cond.selects RX2 yX2_allCounts yX2_allCounts ∈ wsG := inG (i := 538) (by decide +kernel) (by decide +kernel)
theorem co_X2_allCounts : Cond.code yX2_allCounts cX2_allCounts 3 (some .int) ∈ wsG := inG (i := 539) (by decide +kernel) (by decide +kernel)
theorem ml_X8_180 : Cond.methodLink RX8 180 yX2_statesWithoutFlow ∈ wsG := inG (i := 540) (by decide +kernel) (by decide +kernel)
theorem im_X2_statesWithoutFlow : Cond.instanceMethod yX2_statesWithoutFlow ∈ wsG := inG (i := 541) (by decide +kernel) (by decide +kernel)
theorem se_X2_statesWithoutFlow : Cond.selects RX2 yX2_statesWithoutFlow yX2_statesWithoutFlow ∈ wsG := inG (i := 542) (by decide +kernel) (by decide +kernel)
theorem co_X2_statesWithoutFlow : Cond.code yX2_statesWithoutFlow cX2_statesWithoutFlow 3 (some .int) ∈ wsG := inG (i := 543) (by decide +kernel) (by decide +kernel)
theorem ml_X8_183 : Cond.methodLink RX8 183 yX2_longestLine ∈ wsG := inG (i := 544) (by decide +kernel) (by decide +kernel)
theorem im_X2_longestLine : Cond.instanceMethod yX2_longestLine ∈ wsG := inG (i := 545) (by decide +kernel) (by decide +kernel)
theorem se_X2_longestLine : Cond.selects RX2 yX2_longestLine yX2_longestLine ∈ wsG := inG (i := 546) (by decide +kernel) (by decide +kernel)
theorem co_X2_longestLine : Cond.code yX2_longestLine cX2_longestLine 3 (some .int) ∈ wsG := inG (i := 547) (by decide +kernel) (by decide +kernel)
theorem ml_L_72 : Cond.methodLink RL 72 yX8_likely ∈ wsG := inG (i := 548) (by decide +kernel) (by decide +kernel)
theorem im_X8_likely : Cond.instanceMethod yX8_likely ∈ wsG := inG (i := 549) (by decide +kernel) (by decide +kernel)
theorem se_X8_likely : Cond.selects RX8 yX8_likely yX8_likely ∈ wsG := inG (i := 550) (by decide +kernel) (by decide +kernel)
theorem co_X8_likely : Cond.code yX8_likely cX8_likely 4 (some .int) ∈ wsG := inG (i := 551) (by decide +kernel) (by decide +kernel)
theorem ml_X8_186 : Cond.methodLink RX8 186 yX2_likelyBit ∈ wsG := inG (i := 552) (by decide +kernel) (by decide +kernel)
theorem im_X2_likelyBit : Cond.instanceMethod yX2_likelyBit ∈ wsG := inG (i := 553) (by decide +kernel) (by decide +kernel)
theorem se_X2_likelyBit : Cond.selects RX2 yX2_likelyBit yX2_likelyBit ∈ wsG := inG (i := 554) (by decide +kernel) (by decide +kernel)
theorem co_X2_likelyBit : Cond.code yX2_likelyBit cX2_likelyBit 2 (some .int) ∈ wsG := inG (i := 555) (by decide +kernel) (by decide +kernel)
theorem ml_L_76 : Cond.methodLink RL 76 yX8_guess ∈ wsG := inG (i := 556) (by decide +kernel) (by decide +kernel)
theorem im_X8_guess : Cond.instanceMethod yX8_guess ∈ wsG := inG (i := 557) (by decide +kernel) (by decide +kernel)
theorem se_X8_guess : Cond.selects RX8 yX8_guess yX8_guess ∈ wsG := inG (i := 558) (by decide +kernel) (by decide +kernel)
theorem co_X8_guess : Cond.code yX8_guess cX8_guess 5 (some .int) ∈ wsG := inG (i := 559) (by decide +kernel) (by decide +kernel)
theorem ml_L_80 : Cond.methodLink RL 80 yX8_cost ∈ wsG := inG (i := 560) (by decide +kernel) (by decide +kernel)
theorem im_X8_cost : Cond.instanceMethod yX8_cost ∈ wsG := inG (i := 561) (by decide +kernel) (by decide +kernel)
theorem se_X8_cost : Cond.selects RX8 yX8_cost yX8_cost ∈ wsG := inG (i := 562) (by decide +kernel) (by decide +kernel)
theorem co_X8_cost : Cond.code yX8_cost cX8_cost 3 (some .int) ∈ wsG := inG (i := 563) (by decide +kernel) (by decide +kernel)
theorem ck_X8_189 : Cond.constant RX8 189 (65535 : Int32) ∈ wsG := inG (i := 564) (by decide +kernel) (by decide +kernel)
theorem ml_X8_190 : Cond.methodLink RX8 190 yX2_costOf ∈ wsG := inG (i := 565) (by decide +kernel) (by decide +kernel)
theorem im_X2_costOf : Cond.instanceMethod yX2_costOf ∈ wsG := inG (i := 566) (by decide +kernel) (by decide +kernel)
theorem se_X2_costOf : Cond.selects RX2 yX2_costOf yX2_costOf ∈ wsG := inG (i := 567) (by decide +kernel) (by decide +kernel)
theorem co_X2_costOf : Cond.code yX2_costOf cX2_costOf 9 (some .int) ∈ wsG := inG (i := 568) (by decide +kernel) (by decide +kernel)
theorem ml_X2_108 : Cond.methodLink RX2 108 yX2_chance ∈ wsG := inG (i := 570) (by decide +kernel) (by decide +kernel)
theorem ml_X2_111 : Cond.methodLink RX2 111 yX2_nextBy ∈ wsG := inG (i := 571) (by decide +kernel) (by decide +kernel)
theorem ml_L_84 : Cond.methodLink RL 84 yX8_cheapest ∈ wsG := inG (i := 572) (by decide +kernel) (by decide +kernel)
theorem im_X8_cheapest : Cond.instanceMethod yX8_cheapest ∈ wsG := inG (i := 573) (by decide +kernel) (by decide +kernel)
theorem se_X8_cheapest : Cond.selects RX8 yX8_cheapest yX8_cheapest ∈ wsG := inG (i := 574) (by decide +kernel) (by decide +kernel)
theorem co_X8_cheapest : Cond.code yX8_cheapest cX8_cheapest 6 (some .int) ∈ wsG := inG (i := 575) (by decide +kernel) (by decide +kernel)
theorem ml_X8_193 : Cond.methodLink RX8 193 yX8_costOfByte ∈ wsG := inG (i := 576) (by decide +kernel) (by decide +kernel)
theorem im_X8_costOfByte : Cond.instanceMethod yX8_costOfByte ∈ wsG := inG (i := 578) (by decide +kernel) (by decide +kernel)
theorem co_X8_costOfByte : Cond.code yX8_costOfByte cX8_costOfByte 2 (some .int) ∈ wsG := inG (i := 579) (by decide +kernel) (by decide +kernel)
theorem ml_L_88 : Cond.methodLink RL 88 yX8_keep ∈ wsG := inG (i := 580) (by decide +kernel) (by decide +kernel)
theorem im_X8_keep : Cond.instanceMethod yX8_keep ∈ wsG := inG (i := 581) (by decide +kernel) (by decide +kernel)
theorem se_X8_keep : Cond.selects RX8 yX8_keep yX8_keep ∈ wsG := inG (i := 582) (by decide +kernel) (by decide +kernel)
theorem co_X8_keep : Cond.code yX8_keep cX8_keep 2 (some .int) ∈ wsG := inG (i := 583) (by decide +kernel) (by decide +kernel)
theorem ml_X8_196 : Cond.methodLink RX8 196 yX8_keptPlace ∈ wsG := inG (i := 584) (by decide +kernel) (by decide +kernel)
theorem im_X8_keptPlace : Cond.instanceMethod yX8_keptPlace ∈ wsG := inG (i := 586) (by decide +kernel) (by decide +kernel)
theorem co_X8_keptPlace : Cond.code yX8_keptPlace cX8_keptPlace 2 (some (.object "CloningMachine$Kept")) ∈ wsG := inG (i := 587) (by decide +kernel) (by decide +kernel)
theorem ml_X8_201 : Cond.methodLink RX8 201 yX5_copyFrom ∈ wsG := inG (i := 588) (by decide +kernel) (by decide +kernel)
theorem im_X5_copyFrom : Cond.instanceMethod yX5_copyFrom ∈ wsG := inG (i := 589) (by decide +kernel) (by decide +kernel)
theorem se_X5_copyFrom : Cond.selects RX5 yX5_copyFrom yX5_copyFrom ∈ wsG := inG (i := 590) (by decide +kernel) (by decide +kernel)
theorem co_X5_copyFrom : Cond.code yX5_copyFrom cX5_copyFrom 2 none ∈ wsG := inG (i := 591) (by decide +kernel) (by decide +kernel)
theorem ml_X5_38 : Cond.methodLink RX5 38 yX4_copyFrom ∈ wsG := inG (i := 592) (by decide +kernel) (by decide +kernel)
theorem im_X4_copyFrom : Cond.instanceMethod yX4_copyFrom ∈ wsG := inG (i := 593) (by decide +kernel) (by decide +kernel)
theorem se_X4_copyFrom : Cond.selects RX4 yX4_copyFrom yX4_copyFrom ∈ wsG := inG (i := 594) (by decide +kernel) (by decide +kernel)
theorem co_X4_copyFrom : Cond.code yX4_copyFrom cX4_copyFrom 4 none ∈ wsG := inG (i := 595) (by decide +kernel) (by decide +kernel)
theorem ml_X4_19 : Cond.methodLink RX4 19 yX4_get ∈ wsG := inG (i := 596) (by decide +kernel) (by decide +kernel)
theorem ml_X4_23 : Cond.methodLink RX4 23 yX4_put ∈ wsG := inG (i := 597) (by decide +kernel) (by decide +kernel)
theorem ml_X8_205 : Cond.methodLink RX8 205 yX2_copyFrom ∈ wsG := inG (i := 598) (by decide +kernel) (by decide +kernel)
theorem im_X2_copyFrom : Cond.instanceMethod yX2_copyFrom ∈ wsG := inG (i := 599) (by decide +kernel) (by decide +kernel)
theorem se_X2_copyFrom : Cond.selects RX2 yX2_copyFrom yX2_copyFrom ∈ wsG := inG (i := 600) (by decide +kernel) (by decide +kernel)
theorem co_X2_copyFrom : Cond.code yX2_copyFrom cX2_copyFrom 2 none ∈ wsG := inG (i := 601) (by decide +kernel) (by decide +kernel)
theorem ml_X2_117 : Cond.methodLink RX2 117 yX4_copyFrom ∈ wsG := inG (i := 602) (by decide +kernel) (by decide +kernel)
theorem ml_L_92 : Cond.methodLink RL 92 yX8_back ∈ wsG := inG (i := 603) (by decide +kernel) (by decide +kernel)
theorem im_X8_back : Cond.instanceMethod yX8_back ∈ wsG := inG (i := 604) (by decide +kernel) (by decide +kernel)
theorem se_X8_back : Cond.selects RX8 yX8_back yX8_back ∈ wsG := inG (i := 605) (by decide +kernel) (by decide +kernel)
theorem co_X8_back : Cond.code yX8_back cX8_back 2 (some .int) ∈ wsG := inG (i := 606) (by decide +kernel) (by decide +kernel)
theorem ml_L_96 : Cond.methodLink RL 96 yX8_count ∈ wsG := inG (i := 607) (by decide +kernel) (by decide +kernel)
theorem im_X8_count : Cond.instanceMethod yX8_count ∈ wsG := inG (i := 608) (by decide +kernel) (by decide +kernel)
theorem se_X8_count : Cond.selects RX8 yX8_count yX8_count ∈ wsG := inG (i := 609) (by decide +kernel) (by decide +kernel)
theorem co_X8_count : Cond.code yX8_count cX8_count 2 (some .int) ∈ wsG := inG (i := 610) (by decide +kernel) (by decide +kernel)
theorem cl_L_10 : Cond.classLink RL 10 RX9 ∈ wsG := inG (i := 611) (by decide +kernel) (by decide +kernel)
theorem is_X9 : Cond.instantiable RX9 14 ∈ wsG := inG (i := 612) (by decide +kernel) (by decide +kernel)
theorem ml_L_12 : Cond.methodLink RL 12 yX9_init ∈ wsG := inG (i := 613) (by decide +kernel) (by decide +kernel)
theorem im_X9_init : Cond.instanceMethod yX9_init ∈ wsG := inG (i := 614) (by decide +kernel) (by decide +kernel)
theorem co_X9_init : Cond.code yX9_init cX9_init 1 none ∈ wsG := inG (i := 615) (by decide +kernel) (by decide +kernel)
theorem ml_X9_1 : Cond.methodLink RX9 1 objectInit ∈ wsG := inG (i := 616) (by decide +kernel) (by decide +kernel)
theorem ml_X9_25 : Cond.methodLink RX9 25 yX9_renews ∈ wsG := inG (i := 617) (by decide +kernel) (by decide +kernel)
theorem im_X9_renews : Cond.instanceMethod yX9_renews ∈ wsG := inG (i := 619) (by decide +kernel) (by decide +kernel)
theorem co_X9_renews : Cond.code yX9_renews cX9_renews 2 none ∈ wsG := inG (i := 620) (by decide +kernel) (by decide +kernel)
theorem ml_X9_29 : Cond.methodLink RX9 29 yX9_lays ∈ wsG := inG (i := 621) (by decide +kernel) (by decide +kernel)
theorem im_X9_lays : Cond.instanceMethod yX9_lays ∈ wsG := inG (i := 623) (by decide +kernel) (by decide +kernel)
theorem co_X9_lays : Cond.code yX9_lays cX9_lays 8 none ∈ wsG := inG (i := 624) (by decide +kernel) (by decide +kernel)
theorem fl_X9_7 : Cond.fieldLink RX9 7 "CloningMachineModel" "m" "[I" ∈ wsG := inG (i := 625) (by decide +kernel) (by decide +kernel)
theorem fl_X9_138 : Cond.fieldLink RX9 138 "CloningMachineModel" "kept" "I" ∈ wsG := inG (i := 626) (by decide +kernel) (by decide +kernel)
theorem fl_X9_13 : Cond.fieldLink RX9 13 "CloningMachineModel" "input" "[I" ∈ wsG := inG (i := 627) (by decide +kernel) (by decide +kernel)
theorem fl_X9_58 : Cond.fieldLink RX9 58 "CloningMachineModel" "inputMany" "I" ∈ wsG := inG (i := 628) (by decide +kernel) (by decide +kernel)
theorem fl_X9_16 : Cond.fieldLink RX9 16 "CloningMachineModel" "pack" "[I" ∈ wsG := inG (i := 629) (by decide +kernel) (by decide +kernel)
theorem fl_X9_80 : Cond.fieldLink RX9 80 "CloningMachineModel" "packMany" "I" ∈ wsG := inG (i := 630) (by decide +kernel) (by decide +kernel)
theorem fl_X9_19 : Cond.fieldLink RX9 19 "CloningMachineModel" "out" "[I" ∈ wsG := inG (i := 631) (by decide +kernel) (by decide +kernel)
theorem fl_X9_111 : Cond.fieldLink RX9 111 "CloningMachineModel" "outMany" "I" ∈ wsG := inG (i := 632) (by decide +kernel) (by decide +kernel)
theorem fl_X9_22 : Cond.fieldLink RX9 22 "CloningMachineModel" "grown" "[I" ∈ wsG := inG (i := 633) (by decide +kernel) (by decide +kernel)
theorem fl_X9_62 : Cond.fieldLink RX9 62 "CloningMachineModel" "low" "J" ∈ wsG := inG (i := 634) (by decide +kernel) (by decide +kernel)
theorem fl_X9_68 : Cond.fieldLink RX9 68 "CloningMachineModel" "high" "J" ∈ wsG := inG (i := 635) (by decide +kernel) (by decide +kernel)
theorem fl_X9_83 : Cond.fieldLink RX9 83 "CloningMachineModel" "code" "J" ∈ wsG := inG (i := 636) (by decide +kernel) (by decide +kernel)
theorem fl_X9_88 : Cond.fieldLink RX9 88 "CloningMachineModel" "from" "I" ∈ wsG := inG (i := 637) (by decide +kernel) (by decide +kernel)
theorem fl_X9_127 : Cond.fieldLink RX9 127 "CloningMachineModel" "spot" "I" ∈ wsG := inG (i := 638) (by decide +kernel) (by decide +kernel)
theorem ml_L_17 : Cond.methodLink RL 17 yX9_set ∈ wsG := inG (i := 668) (by decide +kernel) (by decide +kernel)
theorem im_X9_set : Cond.instanceMethod yX9_set ∈ wsG := inG (i := 669) (by decide +kernel) (by decide +kernel)
theorem se_X9_set : Cond.selects RX9 yX9_set yX9_set ∈ wsG := inG (i := 670) (by decide +kernel) (by decide +kernel)
theorem co_X9_set : Cond.code yX9_set cX9_set 5 (some .int) ∈ wsG := inG (i := 671) (by decide +kernel) (by decide +kernel)
theorem ck_X9_40 : Cond.constantLong RX9 40 (2 : Int64) ∈ wsG := inG (i := 672) (by decide +kernel) (by decide +kernel)
theorem ml_X9_46 : Cond.methodLink RX9 46 yX9_in ∈ wsG := inG (i := 673) (by decide +kernel) (by decide +kernel)
theorem st_X9_in : Cond.static yX9_in ∈ wsG := inG (i := 674) (by decide +kernel) (by decide +kernel)
theorem co_X9_in : Cond.code yX9_in cX9_in 6 (some .boolean) ∈ wsG := inG (i := 675) (by decide +kernel) (by decide +kernel)
theorem ck_X9_50 : Cond.constantLong RX9 50 (200 : Int64) ∈ wsG := inG (i := 676) (by decide +kernel) (by decide +kernel)
theorem ck_X9_52 : Cond.constantLong RX9 52 (40 : Int64) ∈ wsG := inG (i := 677) (by decide +kernel) (by decide +kernel)
theorem ck_X9_54 : Cond.constantLong RX9 54 (250 : Int64) ∈ wsG := inG (i := 678) (by decide +kernel) (by decide +kernel)
theorem ml_L_22 : Cond.methodLink RL 22 yX9_renew ∈ wsG := inG (i := 679) (by decide +kernel) (by decide +kernel)
theorem im_X9_renew : Cond.instanceMethod yX9_renew ∈ wsG := inG (i := 680) (by decide +kernel) (by decide +kernel)
theorem se_X9_renew : Cond.selects RX9 yX9_renew yX9_renew ∈ wsG := inG (i := 681) (by decide +kernel) (by decide +kernel)
theorem co_X9_renew : Cond.code yX9_renew cX9_renew 1 (some .int) ∈ wsG := inG (i := 682) (by decide +kernel) (by decide +kernel)
theorem ml_L_27 : Cond.methodLink RL 27 yX9_write ∈ wsG := inG (i := 683) (by decide +kernel) (by decide +kernel)
theorem im_X9_write : Cond.instanceMethod yX9_write ∈ wsG := inG (i := 684) (by decide +kernel) (by decide +kernel)
theorem se_X9_write : Cond.selects RX9 yX9_write yX9_write ∈ wsG := inG (i := 685) (by decide +kernel) (by decide +kernel)
theorem co_X9_write : Cond.code yX9_write cX9_write 2 (some .int) ∈ wsG := inG (i := 686) (by decide +kernel) (by decide +kernel)
theorem ck_X9_56 : Cond.constantLong RX9 56 (255 : Int64) ∈ wsG := inG (i := 687) (by decide +kernel) (by decide +kernel)
theorem ml_L_31 : Cond.methodLink RL 31 yX9_wipe ∈ wsG := inG (i := 688) (by decide +kernel) (by decide +kernel)
theorem im_X9_wipe : Cond.instanceMethod yX9_wipe ∈ wsG := inG (i := 689) (by decide +kernel) (by decide +kernel)
theorem se_X9_wipe : Cond.selects RX9 yX9_wipe yX9_wipe ∈ wsG := inG (i := 690) (by decide +kernel) (by decide +kernel)
theorem co_X9_wipe : Cond.code yX9_wipe cX9_wipe 2 (some .int) ∈ wsG := inG (i := 691) (by decide +kernel) (by decide +kernel)
theorem ml_L_35 : Cond.methodLink RL 35 yX9_pack ∈ wsG := inG (i := 692) (by decide +kernel) (by decide +kernel)
theorem im_X9_pack : Cond.instanceMethod yX9_pack ∈ wsG := inG (i := 693) (by decide +kernel) (by decide +kernel)
theorem se_X9_pack : Cond.selects RX9 yX9_pack yX9_pack ∈ wsG := inG (i := 694) (by decide +kernel) (by decide +kernel)
theorem co_X9_pack : Cond.code yX9_pack cX9_pack 3 (some .int) ∈ wsG := inG (i := 695) (by decide +kernel) (by decide +kernel)
theorem ml_X9_95 : Cond.methodLink RX9 95 yX9_begins ∈ wsG := inG (i := 696) (by decide +kernel) (by decide +kernel)
theorem im_X9_begins : Cond.instanceMethod yX9_begins ∈ wsG := inG (i := 698) (by decide +kernel) (by decide +kernel)
theorem co_X9_begins : Cond.code yX9_begins cX9_begins 2 none ∈ wsG := inG (i := 699) (by decide +kernel) (by decide +kernel)
theorem ck_X9_66 : Cond.constantLong RX9 66 (4294967295 : Int64) ∈ wsG := inG (i := 700) (by decide +kernel) (by decide +kernel)
theorem ml_X9_98 : Cond.methodLink RX9 98 yX9_place ∈ wsG := inG (i := 701) (by decide +kernel) (by decide +kernel)
theorem im_X9_place : Cond.instanceMethod yX9_place ∈ wsG := inG (i := 703) (by decide +kernel) (by decide +kernel)
theorem co_X9_place : Cond.code yX9_place cX9_place 2 (some .int) ∈ wsG := inG (i := 704) (by decide +kernel) (by decide +kernel)
theorem ml_X9_102 : Cond.methodLink RX9 102 yX9_narrows ∈ wsG := inG (i := 705) (by decide +kernel) (by decide +kernel)
theorem im_X9_narrows : Cond.instanceMethod yX9_narrows ∈ wsG := inG (i := 707) (by decide +kernel) (by decide +kernel)
theorem co_X9_narrows : Cond.code yX9_narrows cX9_narrows 5 none ∈ wsG := inG (i := 708) (by decide +kernel) (by decide +kernel)
theorem ml_X9_74 : Cond.methodLink RX9 74 yX9_middle ∈ wsG := inG (i := 709) (by decide +kernel) (by decide +kernel)
theorem im_X9_middle : Cond.instanceMethod yX9_middle ∈ wsG := inG (i := 711) (by decide +kernel) (by decide +kernel)
theorem co_X9_middle : Cond.code yX9_middle cX9_middle 1 (some .long) ∈ wsG := inG (i := 712) (by decide +kernel) (by decide +kernel)
theorem ck_X9_42 : Cond.constantLong RX9 42 (4096 : Int64) ∈ wsG := inG (i := 713) (by decide +kernel) (by decide +kernel)
theorem ml_X9_71 : Cond.methodLink RX9 71 yX9_chance ∈ wsG := inG (i := 714) (by decide +kernel) (by decide +kernel)
theorem im_X9_chance : Cond.instanceMethod yX9_chance ∈ wsG := inG (i := 716) (by decide +kernel) (by decide +kernel)
theorem co_X9_chance : Cond.code yX9_chance cX9_chance 5 (some .int) ∈ wsG := inG (i := 717) (by decide +kernel) (by decide +kernel)
theorem ml_X9_32 : Cond.methodLink RX9 32 yX9_both ∈ wsG := inG (i := 718) (by decide +kernel) (by decide +kernel)
theorem im_X9_both : Cond.instanceMethod yX9_both ∈ wsG := inG (i := 720) (by decide +kernel) (by decide +kernel)
theorem co_X9_both : Cond.code yX9_both cX9_both 3 (some .int) ∈ wsG := inG (i := 721) (by decide +kernel) (by decide +kernel)
theorem ck_X9_44 : Cond.constantLong RX9 44 (4095 : Int64) ∈ wsG := inG (i := 722) (by decide +kernel) (by decide +kernel)
theorem ck_X9_78 : Cond.constantLong RX9 78 (16777216 : Int64) ∈ wsG := inG (i := 723) (by decide +kernel) (by decide +kernel)
theorem ck_X9_86 : Cond.constantLong RX9 86 (256 : Int64) ∈ wsG := inG (i := 724) (by decide +kernel) (by decide +kernel)
theorem ml_X9_91 : Cond.methodLink RX9 91 yX9_takes ∈ wsG := inG (i := 725) (by decide +kernel) (by decide +kernel)
theorem im_X9_takes : Cond.instanceMethod yX9_takes ∈ wsG := inG (i := 727) (by decide +kernel) (by decide +kernel)
theorem co_X9_takes : Cond.code yX9_takes cX9_takes 7 none ∈ wsG := inG (i := 728) (by decide +kernel) (by decide +kernel)
theorem ml_X9_36 : Cond.methodLink RX9 36 yX9_clones ∈ wsG := inG (i := 729) (by decide +kernel) (by decide +kernel)
theorem im_X9_clones : Cond.instanceMethod yX9_clones ∈ wsG := inG (i := 731) (by decide +kernel) (by decide +kernel)
theorem co_X9_clones : Cond.code yX9_clones cX9_clones 10 none ∈ wsG := inG (i := 732) (by decide +kernel) (by decide +kernel)
theorem ml_X9_106 : Cond.methodLink RX9 106 yX9_notes ∈ wsG := inG (i := 733) (by decide +kernel) (by decide +kernel)
theorem im_X9_notes : Cond.instanceMethod yX9_notes ∈ wsG := inG (i := 735) (by decide +kernel) (by decide +kernel)
theorem co_X9_notes : Cond.code yX9_notes cX9_notes 2 none ∈ wsG := inG (i := 736) (by decide +kernel) (by decide +kernel)
theorem ml_L_39 : Cond.methodLink RL 39 yX9_unpack ∈ wsG := inG (i := 737) (by decide +kernel) (by decide +kernel)
theorem im_X9_unpack : Cond.instanceMethod yX9_unpack ∈ wsG := inG (i := 738) (by decide +kernel) (by decide +kernel)
theorem se_X9_unpack : Cond.selects RX9 yX9_unpack yX9_unpack ∈ wsG := inG (i := 739) (by decide +kernel) (by decide +kernel)
theorem co_X9_unpack : Cond.code yX9_unpack cX9_unpack 6 (some .int) ∈ wsG := inG (i := 740) (by decide +kernel) (by decide +kernel)
theorem ck_X9_109 : Cond.constantLong RX9 109 (60 : Int64) ∈ wsG := inG (i := 741) (by decide +kernel) (by decide +kernel)
theorem ml_L_43 : Cond.methodLink RL 43 yX9_spoil ∈ wsG := inG (i := 742) (by decide +kernel) (by decide +kernel)
theorem im_X9_spoil : Cond.instanceMethod yX9_spoil ∈ wsG := inG (i := 743) (by decide +kernel) (by decide +kernel)
theorem se_X9_spoil : Cond.selects RX9 yX9_spoil yX9_spoil ∈ wsG := inG (i := 744) (by decide +kernel) (by decide +kernel)
theorem co_X9_spoil : Cond.code yX9_spoil cX9_spoil 4 (some .int) ∈ wsG := inG (i := 745) (by decide +kernel) (by decide +kernel)
theorem ml_L_47 : Cond.methodLink RL 47 yX9_at ∈ wsG := inG (i := 746) (by decide +kernel) (by decide +kernel)
theorem im_X9_at : Cond.instanceMethod yX9_at ∈ wsG := inG (i := 747) (by decide +kernel) (by decide +kernel)
theorem se_X9_at : Cond.selects RX9 yX9_at yX9_at ∈ wsG := inG (i := 748) (by decide +kernel) (by decide +kernel)
theorem co_X9_at : Cond.code yX9_at cX9_at 3 (some .int) ∈ wsG := inG (i := 749) (by decide +kernel) (by decide +kernel)
theorem ml_L_51 : Cond.methodLink RL 51 yX9_alike ∈ wsG := inG (i := 750) (by decide +kernel) (by decide +kernel)
theorem im_X9_alike : Cond.instanceMethod yX9_alike ∈ wsG := inG (i := 751) (by decide +kernel) (by decide +kernel)
theorem se_X9_alike : Cond.selects RX9 yX9_alike yX9_alike ∈ wsG := inG (i := 752) (by decide +kernel) (by decide +kernel)
theorem co_X9_alike : Cond.code yX9_alike cX9_alike 2 (some .int) ∈ wsG := inG (i := 753) (by decide +kernel) (by decide +kernel)
theorem ml_L_55 : Cond.methodLink RL 55 yX9_grew ∈ wsG := inG (i := 754) (by decide +kernel) (by decide +kernel)
theorem im_X9_grew : Cond.instanceMethod yX9_grew ∈ wsG := inG (i := 755) (by decide +kernel) (by decide +kernel)
theorem se_X9_grew : Cond.selects RX9 yX9_grew yX9_grew ∈ wsG := inG (i := 756) (by decide +kernel) (by decide +kernel)
theorem co_X9_grew : Cond.code yX9_grew cX9_grew 3 (some .int) ∈ wsG := inG (i := 757) (by decide +kernel) (by decide +kernel)
theorem ml_L_59 : Cond.methodLink RL 59 yX9_bit ∈ wsG := inG (i := 758) (by decide +kernel) (by decide +kernel)
theorem im_X9_bit : Cond.instanceMethod yX9_bit ∈ wsG := inG (i := 759) (by decide +kernel) (by decide +kernel)
theorem se_X9_bit : Cond.selects RX9 yX9_bit yX9_bit ∈ wsG := inG (i := 760) (by decide +kernel) (by decide +kernel)
theorem co_X9_bit : Cond.code yX9_bit cX9_bit 2 (some .int) ∈ wsG := inG (i := 761) (by decide +kernel) (by decide +kernel)
theorem ml_L_63 : Cond.methodLink RL 63 yX9_take ∈ wsG := inG (i := 762) (by decide +kernel) (by decide +kernel)
theorem im_X9_take : Cond.instanceMethod yX9_take ∈ wsG := inG (i := 763) (by decide +kernel) (by decide +kernel)
theorem se_X9_take : Cond.selects RX9 yX9_take yX9_take ∈ wsG := inG (i := 764) (by decide +kernel) (by decide +kernel)
theorem co_X9_take : Cond.code yX9_take cX9_take 3 (some .int) ∈ wsG := inG (i := 765) (by decide +kernel) (by decide +kernel)
theorem ml_L_67 : Cond.methodLink RL 67 yX9_state ∈ wsG := inG (i := 766) (by decide +kernel) (by decide +kernel)
theorem im_X9_state : Cond.instanceMethod yX9_state ∈ wsG := inG (i := 767) (by decide +kernel) (by decide +kernel)
theorem se_X9_state : Cond.selects RX9 yX9_state yX9_state ∈ wsG := inG (i := 768) (by decide +kernel) (by decide +kernel)
theorem co_X9_state : Cond.code yX9_state cX9_state 3 (some .int) ∈ wsG := inG (i := 769) (by decide +kernel) (by decide +kernel)
theorem ck_X9_114 : Cond.constantLong RX9 114 (7 : Int64) ∈ wsG := inG (i := 770) (by decide +kernel) (by decide +kernel)
theorem ml_X9_116 : Cond.methodLink RX9 116 yX9_flow ∈ wsG := inG (i := 771) (by decide +kernel) (by decide +kernel)
theorem im_X9_flow : Cond.instanceMethod yX9_flow ∈ wsG := inG (i := 773) (by decide +kernel) (by decide +kernel)
theorem co_X9_flow : Cond.code yX9_flow cX9_flow 4 (some .int) ∈ wsG := inG (i := 774) (by decide +kernel) (by decide +kernel)
theorem ml_X9_119 : Cond.methodLink RX9 119 yX9_line ∈ wsG := inG (i := 775) (by decide +kernel) (by decide +kernel)
theorem im_X9_line : Cond.instanceMethod yX9_line ∈ wsG := inG (i := 777) (by decide +kernel) (by decide +kernel)
theorem co_X9_line : Cond.code yX9_line cX9_line 4 (some .int) ∈ wsG := inG (i := 778) (by decide +kernel) (by decide +kernel)
theorem ml_L_71 : Cond.methodLink RL 71 yX9_live ∈ wsG := inG (i := 779) (by decide +kernel) (by decide +kernel)
theorem im_X9_live : Cond.instanceMethod yX9_live ∈ wsG := inG (i := 780) (by decide +kernel) (by decide +kernel)
theorem se_X9_live : Cond.selects RX9 yX9_live yX9_live ∈ wsG := inG (i := 781) (by decide +kernel) (by decide +kernel)
theorem co_X9_live : Cond.code yX9_live cX9_live 6 (some .int) ∈ wsG := inG (i := 782) (by decide +kernel) (by decide +kernel)
theorem ml_L_75 : Cond.methodLink RL 75 yX9_likely ∈ wsG := inG (i := 783) (by decide +kernel) (by decide +kernel)
theorem im_X9_likely : Cond.instanceMethod yX9_likely ∈ wsG := inG (i := 784) (by decide +kernel) (by decide +kernel)
theorem se_X9_likely : Cond.selects RX9 yX9_likely yX9_likely ∈ wsG := inG (i := 785) (by decide +kernel) (by decide +kernel)
theorem co_X9_likely : Cond.code yX9_likely cX9_likely 4 (some .int) ∈ wsG := inG (i := 786) (by decide +kernel) (by decide +kernel)
theorem ck_X9_122 : Cond.constantLong RX9 122 (64 : Int64) ∈ wsG := inG (i := 787) (by decide +kernel) (by decide +kernel)
theorem ml_X9_124 : Cond.methodLink RX9 124 yX9_likelyBit ∈ wsG := inG (i := 788) (by decide +kernel) (by decide +kernel)
theorem im_X9_likelyBit : Cond.instanceMethod yX9_likelyBit ∈ wsG := inG (i := 790) (by decide +kernel) (by decide +kernel)
theorem co_X9_likelyBit : Cond.code yX9_likelyBit cX9_likelyBit 2 (some .int) ∈ wsG := inG (i := 791) (by decide +kernel) (by decide +kernel)
theorem ml_L_79 : Cond.methodLink RL 79 yX9_guess ∈ wsG := inG (i := 792) (by decide +kernel) (by decide +kernel)
theorem im_X9_guess : Cond.instanceMethod yX9_guess ∈ wsG := inG (i := 793) (by decide +kernel) (by decide +kernel)
theorem se_X9_guess : Cond.selects RX9 yX9_guess yX9_guess ∈ wsG := inG (i := 794) (by decide +kernel) (by decide +kernel)
theorem co_X9_guess : Cond.code yX9_guess cX9_guess 5 (some .int) ∈ wsG := inG (i := 795) (by decide +kernel) (by decide +kernel)
theorem ml_L_83 : Cond.methodLink RL 83 yX9_cost ∈ wsG := inG (i := 796) (by decide +kernel) (by decide +kernel)
theorem im_X9_cost : Cond.instanceMethod yX9_cost ∈ wsG := inG (i := 797) (by decide +kernel) (by decide +kernel)
theorem se_X9_cost : Cond.selects RX9 yX9_cost yX9_cost ∈ wsG := inG (i := 798) (by decide +kernel) (by decide +kernel)
theorem co_X9_cost : Cond.code yX9_cost cX9_cost 6 (some .int) ∈ wsG := inG (i := 799) (by decide +kernel) (by decide +kernel)
theorem ck_X9_130 : Cond.constantLong RX9 130 (65535 : Int64) ∈ wsG := inG (i := 800) (by decide +kernel) (by decide +kernel)
theorem ck_X9_132 : Cond.constantLong RX9 132 (16 : Int64) ∈ wsG := inG (i := 801) (by decide +kernel) (by decide +kernel)
theorem ml_X9_134 : Cond.methodLink RX9 134 yX9_costOf ∈ wsG := inG (i := 802) (by decide +kernel) (by decide +kernel)
theorem im_X9_costOf : Cond.instanceMethod yX9_costOf ∈ wsG := inG (i := 804) (by decide +kernel) (by decide +kernel)
theorem co_X9_costOf : Cond.code yX9_costOf cX9_costOf 3 (some .int) ∈ wsG := inG (i := 805) (by decide +kernel) (by decide +kernel)
theorem ml_L_87 : Cond.methodLink RL 87 yX9_cheapest ∈ wsG := inG (i := 806) (by decide +kernel) (by decide +kernel)
theorem im_X9_cheapest : Cond.instanceMethod yX9_cheapest ∈ wsG := inG (i := 807) (by decide +kernel) (by decide +kernel)
theorem se_X9_cheapest : Cond.selects RX9 yX9_cheapest yX9_cheapest ∈ wsG := inG (i := 808) (by decide +kernel) (by decide +kernel)
theorem co_X9_cheapest : Cond.code yX9_cheapest cX9_cheapest 8 (some .int) ∈ wsG := inG (i := 809) (by decide +kernel) (by decide +kernel)
theorem ck_X9_137 : Cond.constant RX9 137 (1000000 : Int32) ∈ wsG := inG (i := 810) (by decide +kernel) (by decide +kernel)
theorem ml_L_91 : Cond.methodLink RL 91 yX9_keep ∈ wsG := inG (i := 811) (by decide +kernel) (by decide +kernel)
theorem im_X9_keep : Cond.instanceMethod yX9_keep ∈ wsG := inG (i := 812) (by decide +kernel) (by decide +kernel)
theorem se_X9_keep : Cond.selects RX9 yX9_keep yX9_keep ∈ wsG := inG (i := 813) (by decide +kernel) (by decide +kernel)
theorem co_X9_keep : Cond.code yX9_keep cX9_keep 2 (some .int) ∈ wsG := inG (i := 814) (by decide +kernel) (by decide +kernel)
theorem ml_L_95 : Cond.methodLink RL 95 yX9_back ∈ wsG := inG (i := 815) (by decide +kernel) (by decide +kernel)
theorem im_X9_back : Cond.instanceMethod yX9_back ∈ wsG := inG (i := 816) (by decide +kernel) (by decide +kernel)
theorem se_X9_back : Cond.selects RX9 yX9_back yX9_back ∈ wsG := inG (i := 817) (by decide +kernel) (by decide +kernel)
theorem co_X9_back : Cond.code yX9_back cX9_back 2 (some .int) ∈ wsG := inG (i := 818) (by decide +kernel) (by decide +kernel)
theorem ml_L_99 : Cond.methodLink RL 99 yX9_count ∈ wsG := inG (i := 819) (by decide +kernel) (by decide +kernel)
theorem im_X9_count : Cond.instanceMethod yX9_count ∈ wsG := inG (i := 820) (by decide +kernel) (by decide +kernel)
theorem se_X9_count : Cond.selects RX9 yX9_count yX9_count ∈ wsG := inG (i := 821) (by decide +kernel) (by decide +kernel)
theorem co_X9_count : Cond.code yX9_count cX9_count 2 (some .int) ∈ wsG := inG (i := 822) (by decide +kernel) (by decide +kernel)
theorem se_X2_shapeAnew : Cond.selects RX2 yX2_shapeAnew yX2_shapeAnew ∈ wsG := inG (i := 0) (by decide +kernel) (by decide +kernel)
theorem se_X3_packBit : Cond.selects RX3 yX3_packBit yX3_packBit ∈ wsG := inG (i := 1) (by decide +kernel) (by decide +kernel)
theorem se_X2_bothCounts : Cond.selects RX2 yX2_bothCounts yX2_bothCounts ∈ wsG := inG (i := 2) (by decide +kernel) (by decide +kernel)
theorem se_X3_putTop : Cond.selects RX3 yX3_putTop yX3_putTop ∈ wsG := inG (i := 3) (by decide +kernel) (by decide +kernel)
theorem se_X2_cloneFrom : Cond.selects RX2 yX2_cloneFrom yX2_cloneFrom ∈ wsG := inG (i := 4) (by decide +kernel) (by decide +kernel)
theorem se_X7_pullByte : Cond.selects RX7 yX7_pullByte yX7_pullByte ∈ wsG := inG (i := 5) (by decide +kernel) (by decide +kernel)
theorem se_X7_unpackBit : Cond.selects RX7 yX7_unpackBit yX7_unpackBit ∈ wsG := inG (i := 6) (by decide +kernel) (by decide +kernel)
theorem se_X2_reckonFlows : Cond.selects RX2 yX2_reckonFlows yX2_reckonFlows ∈ wsG := inG (i := 7) (by decide +kernel) (by decide +kernel)
theorem se_X8_costOfByte : Cond.selects RX8 yX8_costOfByte yX8_costOfByte ∈ wsG := inG (i := 8) (by decide +kernel) (by decide +kernel)
theorem se_X8_keptPlace : Cond.selects RX8 yX8_keptPlace yX8_keptPlace ∈ wsG := inG (i := 9) (by decide +kernel) (by decide +kernel)
theorem se_X9_renews : Cond.selects RX9 yX9_renews yX9_renews ∈ wsG := inG (i := 10) (by decide +kernel) (by decide +kernel)
theorem se_X9_lays : Cond.selects RX9 yX9_lays yX9_lays ∈ wsG := inG (i := 11) (by decide +kernel) (by decide +kernel)
theorem se_X9_begins : Cond.selects RX9 yX9_begins yX9_begins ∈ wsG := inG (i := 12) (by decide +kernel) (by decide +kernel)
theorem se_X9_place : Cond.selects RX9 yX9_place yX9_place ∈ wsG := inG (i := 13) (by decide +kernel) (by decide +kernel)
theorem se_X9_narrows : Cond.selects RX9 yX9_narrows yX9_narrows ∈ wsG := inG (i := 14) (by decide +kernel) (by decide +kernel)
theorem se_X9_middle : Cond.selects RX9 yX9_middle yX9_middle ∈ wsG := inG (i := 15) (by decide +kernel) (by decide +kernel)
theorem se_X9_chance : Cond.selects RX9 yX9_chance yX9_chance ∈ wsG := inG (i := 16) (by decide +kernel) (by decide +kernel)
theorem se_X9_both : Cond.selects RX9 yX9_both yX9_both ∈ wsG := inG (i := 17) (by decide +kernel) (by decide +kernel)
theorem se_X9_takes : Cond.selects RX9 yX9_takes yX9_takes ∈ wsG := inG (i := 18) (by decide +kernel) (by decide +kernel)
theorem se_X9_clones : Cond.selects RX9 yX9_clones yX9_clones ∈ wsG := inG (i := 19) (by decide +kernel) (by decide +kernel)
theorem se_X9_notes : Cond.selects RX9 yX9_notes yX9_notes ∈ wsG := inG (i := 20) (by decide +kernel) (by decide +kernel)
theorem se_X9_flow : Cond.selects RX9 yX9_flow yX9_flow ∈ wsG := inG (i := 21) (by decide +kernel) (by decide +kernel)
theorem se_X9_line : Cond.selects RX9 yX9_line yX9_line ∈ wsG := inG (i := 22) (by decide +kernel) (by decide +kernel)
theorem se_X9_likelyBit : Cond.selects RX9 yX9_likelyBit yX9_likelyBit ∈ wsG := inG (i := 23) (by decide +kernel) (by decide +kernel)
theorem se_X9_costOf : Cond.selects RX9 yX9_costOf yX9_costOf ∈ wsG := inG (i := 24) (by decide +kernel) (by decide +kernel)
theorem inGX0 : ∀ w ∈ u_ws RX0 TX0 3, w ∈ wsG := inG_list [161, 163, 165] (by decide +kernel) (by decide +kernel)
theorem inGX1 : ∀ w ∈ u_ws RX1 TX1 2, w ∈ wsG := inG_list [255, 257] (by decide +kernel) (by decide +kernel)
theorem inGX2 : ∀ w ∈ u_ws RX2 TX2 11, w ∈ wsG := inG_list [127, 129, 131, 133, 135, 137, 139, 141, 143, 145, 147] (by decide +kernel) (by decide +kernel)
theorem inGX3 : ∀ w ∈ u_ws RX3 TX3 5, w ∈ wsG := inG_list [196, 198, 200, 202, 204] (by decide +kernel) (by decide +kernel)
theorem inGX4 : ∀ w ∈ u_ws RX4 TX4 1, w ∈ wsG := inG_list [63] (by decide +kernel) (by decide +kernel)
theorem inGX5 : ∀ w ∈ u_ws RX5 TX5 1, w ∈ wsG := inG_list [72] (by decide +kernel) (by decide +kernel)
theorem inGX6 : ∀ w ∈ u_ws RX6 TX6 2, w ∈ wsG := inG_list [182, 184] (by decide +kernel) (by decide +kernel)
theorem inGX7 : ∀ w ∈ u_ws RX7 TX7 7, w ∈ wsG := inG_list [226, 228, 230, 232, 234, 236, 238] (by decide +kernel) (by decide +kernel)
theorem inGX8 : ∀ w ∈ u_ws RX8 TX8 10, w ∈ wsG := inG_list [270, 272, 274, 276, 278, 280, 282, 284, 286, 288] (by decide +kernel) (by decide +kernel)
theorem inGX9 : ∀ w ∈ u_ws RX9 TX9 14, w ∈ wsG := inG_list [639, 641, 643, 645, 647, 649, 651, 653, 655, 657, 659, 661, 663, 665] (by decide +kernel) (by decide +kernel)
def nwL : List Cond := [Cond.fieldLinkNest RX5 11 RX8 "SETTING_AT_FIRST" "[I" RX8, Cond.fieldLinkNest RX8 85 RX2 "states" "I" RX8, Cond.fieldLinkNest RX7 77 RX2 "here" "I" RX8, Cond.fieldLinkNest RX3 67 RX2 "here" "I" RX8, Cond.fieldLinkNest RX8 146 RX2 "here" "I" RX8, Cond.fieldLinkNest RX8 174 RX2 "taken" "I" RX8, Cond.fieldLinkNest RX8 137 RX2 "clonings" "I" RX8, Cond.fieldLinkNest RX8 140 RX2 "drops" "I" RX8, Cond.methodLinkNest RX3 11 yX6_init RX8, Cond.fieldLinkNest RX8 133 RX3 "machine" "LCloningMachine$Machine;" RX8, Cond.fieldLinkNest RX8 128 RX3 "used" "Z" RX8, Cond.methodLinkNest RX7 11 yX6_init RX8, Cond.fieldLinkNest RX8 136 RX7 "machine" "LCloningMachine$Machine;" RX8, Cond.fieldLinkNest RX8 132 RX7 "used" "Z" RX8, Cond.methodLinkNest RX8 58 yX1_init RX8, Cond.fieldLinkNest RX8 200 RX1 "settings" "LCloningMachine$Settings;" RX8, Cond.fieldLinkNest RX8 204 RX1 "machine" "LCloningMachine$Machine;" RX8, Cond.fieldLinkNest RX5 28 RX8 "LEAST_SETTING" "[I" RX8, Cond.fieldLinkNest RX5 31 RX8 "GREATEST_SETTING" "[I" RX8, Cond.methodLinkNest RX3 59 yX8_bitFromHighest RX8, Cond.methodLinkNest RX2 86 yX8_cutQuotient RX8, Cond.methodLinkNest RX2 105 yX8_bitFromHighest RX8]
def nw (U : State) : Prop := ∀ w ∈ nwL, va_Nw w U
theorem nf_X5_11 {U : State} (h : nw U) : va_Nw (Cond.fieldLinkNest RX5 11 RX8 "SETTING_AT_FIRST" "[I" RX8) U := h _ (List.mem_of_getElem? (i := 0) rfl)
theorem nf_X8_85 {U : State} (h : nw U) : va_Nw (Cond.fieldLinkNest RX8 85 RX2 "states" "I" RX8) U := h _ (List.mem_of_getElem? (i := 1) rfl)
theorem nf_X7_77 {U : State} (h : nw U) : va_Nw (Cond.fieldLinkNest RX7 77 RX2 "here" "I" RX8) U := h _ (List.mem_of_getElem? (i := 2) rfl)
theorem nf_X3_67 {U : State} (h : nw U) : va_Nw (Cond.fieldLinkNest RX3 67 RX2 "here" "I" RX8) U := h _ (List.mem_of_getElem? (i := 3) rfl)
theorem nf_X8_146 {U : State} (h : nw U) : va_Nw (Cond.fieldLinkNest RX8 146 RX2 "here" "I" RX8) U := h _ (List.mem_of_getElem? (i := 4) rfl)
theorem nf_X8_174 {U : State} (h : nw U) : va_Nw (Cond.fieldLinkNest RX8 174 RX2 "taken" "I" RX8) U := h _ (List.mem_of_getElem? (i := 5) rfl)
theorem nf_X8_137 {U : State} (h : nw U) : va_Nw (Cond.fieldLinkNest RX8 137 RX2 "clonings" "I" RX8) U := h _ (List.mem_of_getElem? (i := 6) rfl)
theorem nf_X8_140 {U : State} (h : nw U) : va_Nw (Cond.fieldLinkNest RX8 140 RX2 "drops" "I" RX8) U := h _ (List.mem_of_getElem? (i := 7) rfl)
theorem nm_X3_11 {U : State} (h : nw U) : va_Nw (Cond.methodLinkNest RX3 11 yX6_init RX8) U := h _ (List.mem_of_getElem? (i := 8) rfl)
theorem nf_X8_133 {U : State} (h : nw U) : va_Nw (Cond.fieldLinkNest RX8 133 RX3 "machine" "LCloningMachine$Machine;" RX8) U := h _ (List.mem_of_getElem? (i := 9) rfl)
theorem nf_X8_128 {U : State} (h : nw U) : va_Nw (Cond.fieldLinkNest RX8 128 RX3 "used" "Z" RX8) U := h _ (List.mem_of_getElem? (i := 10) rfl)
theorem nm_X7_11 {U : State} (h : nw U) : va_Nw (Cond.methodLinkNest RX7 11 yX6_init RX8) U := h _ (List.mem_of_getElem? (i := 11) rfl)
theorem nf_X8_136 {U : State} (h : nw U) : va_Nw (Cond.fieldLinkNest RX8 136 RX7 "machine" "LCloningMachine$Machine;" RX8) U := h _ (List.mem_of_getElem? (i := 12) rfl)
theorem nf_X8_132 {U : State} (h : nw U) : va_Nw (Cond.fieldLinkNest RX8 132 RX7 "used" "Z" RX8) U := h _ (List.mem_of_getElem? (i := 13) rfl)
theorem nm_X8_58 {U : State} (h : nw U) : va_Nw (Cond.methodLinkNest RX8 58 yX1_init RX8) U := h _ (List.mem_of_getElem? (i := 14) rfl)
theorem nf_X8_200 {U : State} (h : nw U) : va_Nw (Cond.fieldLinkNest RX8 200 RX1 "settings" "LCloningMachine$Settings;" RX8) U := h _ (List.mem_of_getElem? (i := 15) rfl)
theorem nf_X8_204 {U : State} (h : nw U) : va_Nw (Cond.fieldLinkNest RX8 204 RX1 "machine" "LCloningMachine$Machine;" RX8) U := h _ (List.mem_of_getElem? (i := 16) rfl)
theorem nf_X5_28 {U : State} (h : nw U) : va_Nw (Cond.fieldLinkNest RX5 28 RX8 "LEAST_SETTING" "[I" RX8) U := h _ (List.mem_of_getElem? (i := 17) rfl)
theorem nf_X5_31 {U : State} (h : nw U) : va_Nw (Cond.fieldLinkNest RX5 31 RX8 "GREATEST_SETTING" "[I" RX8) U := h _ (List.mem_of_getElem? (i := 18) rfl)
theorem nm_X3_59 {U : State} (h : nw U) : va_Nw (Cond.methodLinkNest RX3 59 yX8_bitFromHighest RX8) U := h _ (List.mem_of_getElem? (i := 19) rfl)
theorem nm_X2_86 {U : State} (h : nw U) : va_Nw (Cond.methodLinkNest RX2 86 yX8_cutQuotient RX8) U := h _ (List.mem_of_getElem? (i := 20) rfl)
theorem nm_X2_105 {U : State} (h : nw U) : va_Nw (Cond.methodLinkNest RX2 105 yX8_bitFromHighest RX8) U := h _ (List.mem_of_getElem? (i := 21) rfl)
theorem nw_warm {s U : State} (hW : s.WarmedH U.vm) (h : nw s) : nw U := by
  intro w hw
  simp only [nwL, List.mem_cons, List.not_mem_nil, or_false] at hw
  rcases hw with rfl | rfl | rfl | rfl | rfl | rfl | rfl | rfl | rfl | rfl | rfl | rfl | rfl | rfl | rfl | rfl | rfl | rfl | rfl | rfl | rfl | rfl
  · exact va_Nw.warmF hW (nf_X5_11 h)
  · exact va_Nw.warmF hW (nf_X8_85 h)
  · exact va_Nw.warmF hW (nf_X7_77 h)
  · exact va_Nw.warmF hW (nf_X3_67 h)
  · exact va_Nw.warmF hW (nf_X8_146 h)
  · exact va_Nw.warmF hW (nf_X8_174 h)
  · exact va_Nw.warmF hW (nf_X8_137 h)
  · exact va_Nw.warmF hW (nf_X8_140 h)
  · exact va_Nw.warmM hW (nm_X3_11 h)
  · exact va_Nw.warmF hW (nf_X8_133 h)
  · exact va_Nw.warmF hW (nf_X8_128 h)
  · exact va_Nw.warmM hW (nm_X7_11 h)
  · exact va_Nw.warmF hW (nf_X8_136 h)
  · exact va_Nw.warmF hW (nf_X8_132 h)
  · exact va_Nw.warmM hW (nm_X8_58 h)
  · exact va_Nw.warmF hW (nf_X8_200 h)
  · exact va_Nw.warmF hW (nf_X8_204 h)
  · exact va_Nw.warmF hW (nf_X5_28 h)
  · exact va_Nw.warmF hW (nf_X5_31 h)
  · exact va_Nw.warmM hW (nm_X3_59 h)
  · exact va_Nw.warmM hW (nm_X2_86 h)
  · exact va_Nw.warmM hW (nm_X2_105 h)
theorem nw_calling {U : State} {g : JFrame} {mk : MethodId} {a : Array Value} (h : nw U) : nw (U.calling g mk a) := by
  intro w hw
  have h1 := h w hw
  simp only [nwL, List.mem_cons, List.not_mem_nil, or_false] at hw
  rcases hw with rfl | rfl | rfl | rfl | rfl | rfl | rfl | rfl | rfl | rfl | rfl | rfl | rfl | rfl | rfl | rfl | rfl | rfl | rfl | rfl | rfl | rfl <;> exact va_Nw.same rfl rfl h1
theorem nw_of {A : Array Value} {U : State} (h : ∀ w ∈ lw_tbl, w.before A U = true) : nw U := by
  intro w hw
  simp only [nwL, List.mem_cons, List.not_mem_nil, or_false] at hw
  rcases hw with rfl | rfl | rfl | rfl | rfl | rfl | rfl | rfl | rfl | rfl | rfl | rfl | rfl | rfl | rfl | rfl | rfl | rfl | rfl | rfl | rfl | rfl
  · exact va_Nw.of rfl (h _ (List.mem_of_getElem? (i := 53) (by decide +kernel)))
  · exact va_Nw.of rfl (h _ (List.mem_of_getElem? (i := 115) (by decide +kernel)))
  · exact va_Nw.of rfl (h _ (List.mem_of_getElem? (i := 118) (by decide +kernel)))
  · exact va_Nw.of rfl (h _ (List.mem_of_getElem? (i := 119) (by decide +kernel)))
  · exact va_Nw.of rfl (h _ (List.mem_of_getElem? (i := 120) (by decide +kernel)))
  · exact va_Nw.of rfl (h _ (List.mem_of_getElem? (i := 122) (by decide +kernel)))
  · exact va_Nw.of rfl (h _ (List.mem_of_getElem? (i := 124) (by decide +kernel)))
  · exact va_Nw.of rfl (h _ (List.mem_of_getElem? (i := 126) (by decide +kernel)))
  · exact va_Nw.of rfl (h _ (List.mem_of_getElem? (i := 176) (by decide +kernel)))
  · exact va_Nw.of rfl (h _ (List.mem_of_getElem? (i := 191) (by decide +kernel)))
  · exact va_Nw.of rfl (h _ (List.mem_of_getElem? (i := 195) (by decide +kernel)))
  · exact va_Nw.of rfl (h _ (List.mem_of_getElem? (i := 214) (by decide +kernel)))
  · exact va_Nw.of rfl (h _ (List.mem_of_getElem? (i := 219) (by decide +kernel)))
  · exact va_Nw.of rfl (h _ (List.mem_of_getElem? (i := 225) (by decide +kernel)))
  · exact va_Nw.of rfl (h _ (List.mem_of_getElem? (i := 243) (by decide +kernel)))
  · exact va_Nw.of rfl (h _ (List.mem_of_getElem? (i := 252) (by decide +kernel)))
  · exact va_Nw.of rfl (h _ (List.mem_of_getElem? (i := 254) (by decide +kernel)))
  · exact va_Nw.of rfl (h _ (List.mem_of_getElem? (i := 298) (by decide +kernel)))
  · exact va_Nw.of rfl (h _ (List.mem_of_getElem? (i := 300) (by decide +kernel)))
  · exact va_Nw.of rfl (h _ (List.mem_of_getElem? (i := 365) (by decide +kernel)))
  · exact va_Nw.of rfl (h _ (List.mem_of_getElem? (i := 387) (by decide +kernel)))
  · exact va_Nw.of rfl (h _ (List.mem_of_getElem? (i := 569) (by decide +kernel)))
end
section
/-! one world, one list of words: wrappers of the kit's rows -/
def leastS : Nat → Int32 := fun j => match j with
  | 0 => 0
  | 1 => 1
  | 2 => 1
  | 3 => 40
  | _ => 0
def greatS : Nat → Int32 := fun j => match j with
  | 0 => 2
  | 1 => 200
  | 2 => 200
  | 3 => 250
  | _ => 1
def firstS : Nat → Int32 := fun j => match j with
  | 0 => 0
  | 1 => 2
  | 2 => 2
  | 3 => 100
  | _ => 0
/-- the three static rows, as read in the heap H, apart from A -/
def sf (A : Nat → Prop) (U : State) (H : Heap) : Prop := ∃ t0 t1 t2 : Nat, va_Z RX8 "LEAST_SETTING" "[I" (.ref t0) A U H ∧ va_T .int t0 5 (fun j => .int (leastS j)) A U H ∧ va_Z RX8 "GREATEST_SETTING" "[I" (.ref t1) A U H ∧ va_T .int t1 5 (fun j => .int (greatS j)) A U H ∧ va_Z RX8 "SETTING_AT_FIRST" "[I" (.ref t2) A U H ∧ va_T .int t2 5 (fun j => .int (firstS j)) A U H
theorem sf.moved {A : Nat → Prop} {u U : State} {H : Heap} (hvm : u.vm.Alike U.vm) (h : sf A u H) : sf A U H := by
  obtain ⟨t0, t1, t2, a, b, c, d, e, f⟩ := h
  exact ⟨t0, t1, t2, va_Z.moved hvm a, va_T.moved hvm b, va_Z.moved hvm c, va_T.moved hvm d, va_Z.moved hvm e, va_T.moved hvm f⟩
theorem sf.kept {A : Nat → Prop} {U : State} {H H1 : Heap} (h : sf A U H) (hq : ∀ a : Nat, a < H.size → ¬ A a → H1[a]? = H[a]?) : sf A U H1 := by
  obtain ⟨t0, t1, t2, a, b, c, d, e, f⟩ := h
  exact ⟨t0, t1, t2, a.kept hq, b.kept hq, c.kept hq, d.kept hq, e.kept hq, f.kept hq⟩
theorem sf.narrow {A B : Nat → Prop} {U : State} {H : Heap} (h : sf A U H) (hAB : ∀ q, B q → A q) : sf B U H := by
  obtain ⟨t0, t1, t2, a, b, c, d, e, f⟩ := h
  exact ⟨t0, t1, t2, a.narrow hAB, b.narrow hAB, c.narrow hAB, d.narrow hAB, e.narrow hAB, f.narrow hAB⟩
/-- the static rows for a callee that reads, behind what was written -/
theorem sfr {A : Nat → Prop} {U : State} {H0 H : Heap} {locs : List Loc} (h : sf A U H0) (hS : va_S A H0 H locs) : sf (fun _ => False) U H := (h.kept hS.2.1).narrow (fun _ z => z.elim)
def gw (D : va_G) (cI : ClassId) (ws : va_W) (U : State) : Prop := va_P D vwCl ws U.heap ∧ va_K D vwCl [(cI, .int)] U ∧ nw U ∧ sf (fun _ => False) U U.heap
theorem gw_blind {As : List Value} {D : va_G} {cI : ClassId} {ws : va_W} : FrameBlind (va_Pc As (gw D cI ws)) := fun a U g mk q => by
  obtain ⟨q0, qP, qK, qN, qF⟩ := q
  exact ⟨q0, qP, va_K.moved (u := U) (U := U.calling g mk a) (Vm.Alike.refl U.vm) qK, nw_calling qN, sf.moved (u := U) (U := U.calling g mk a) (Vm.Alike.refl U.vm) qF⟩
def gv (D : va_G) (cI : ClassId) (sz : Nat) (ws : va_W) (U : State) : Prop := U.heap.size = sz ∧ va_P D vwCl ws U.heap ∧ va_K D vwCl [(cI, .int)] U ∧ nw U ∧ va_D (fun _ => True) ws ∧ sf (va_A ws sz) U U.heap
theorem gv_blind {As : List Value} {D : va_G} {cI : ClassId} {sz : Nat} {ws : va_W} : FrameBlind (va_Pc As (gv D cI sz ws)) := fun a U g mk q => by
  obtain ⟨q0, q1, qP, qK, qN, qD, qF⟩ := q
  exact ⟨q0, q1, qP, va_K.moved (u := U) (U := U.calling g mk a) (Vm.Alike.refl U.vm) qK, nw_calling qN, qD, sf.moved (u := U) (U := U.calling g mk a) (Vm.Alike.refl U.vm) qF⟩
/-- the world behind a method that writes -/
def gz (D : va_G) (A : Nat → Prop) (ws : va_W) (_ : Unit) (t : State) : Prop := va_P D vwCl ws t.heap ∧ va_D A ws
theorem fm_of_map {ws wc : va_W} {is : List Nat} (h : is.map (fun i => ws[i]?) = wc.map some) : is.filterMap (fun i => ws[i]?) = wc := by
  have h1 : is.filterMap (fun i => ws[i]?) = (is.map (fun i => ws[i]?)).filterMap id := by rw [List.filterMap_map]; rfl
  rw [h1, h, List.filterMap_map]
  simp
section KK
variable {p : Program} {l : Launch} {e : Env} {R : Room} {s : State} {m : MethodId} {args : Array Value} {below : List Frame} {meth : Method} {c : Code} {H : Heap} {locs : List Loc} {cells slots : Nat} {Q : State → Prop}
variable {D : va_G} {cI : ClassId} {y : MethodName} {bytes cc : ByteArray} {maxL nL n index pc : Nat} {ret : Option FieldType} {rm : Room} {own C host : String} {b : Addr} {As rest st0 : List Value} {ls : Array Slot} {Wc Wc' Ws Wr W2 : va_W} {ci : Nat} {cfs : List Value} {T : u_T} {N : Nat} {H0 : Heap} {A : Nat → Prop}
/-- what a callee's name must be -/
abbrev okV (y : MethodName) (C : String) (n : Nat) : Prop := y.cls = C ∧ y.cls ≠ "java/lang/invoke/MethodHandle" ∧ y.cls ≠ "java/lang/invoke/VarHandle" ∧ (parseMethodDescriptor y.desc).map (fun d => d.parameters.length) = some n
theorem k_preV (hK : va_K D vwCl [(cI, .int)] s) (hN : nw s) (hSF : sf (fun _ => False) s H) (hP : va_P D vwCl Wc H) (he : Wc[0]? = some (b, .inr (ci, cfs))) (hc : vwCl[ci]? = some (C, T, N)) : PreV s H C b (va_Pc (.ref b :: As) (gw D cI Wc)) As :=
  ⟨gw_blind, va_recv hK hP (ci := ci) (q0 := 0) hc he, fun U hU hW => ⟨rfl, by rw [hU]; exact hP, va_K.moved hW.alike hK, nw_warm hW hN, by rw [hU]; exact hSF.moved hW.alike⟩⟩
theorem k_preS (hK : va_K D vwCl [(cI, .int)] s) (hN : nw s) (hSF : sf (fun _ => False) s H) (hP : va_P D vwCl Wc H) : PreS s H (va_Pc As (gw D cI Wc)) As :=
  ⟨gw_blind, fun U hU hW => ⟨rfl, by rw [hU]; exact hP, va_K.moved hW.alike hK, nw_warm hW hN, by rw [hU]; exact hSF.moved hW.alike⟩⟩
theorem k_preVw (hK : va_K D vwCl [(cI, .int)] s) (hN : nw s) (hSF : sf (va_A Wc H.size) s H) (hP : va_P D vwCl Wc H) (hD : va_D A Wc) (he : Wc[0]? = some (b, .inr (ci, cfs))) (hc : vwCl[ci]? = some (C, T, N)) : PreV s H C b (va_Pc (.ref b :: As) (gv D cI H.size Wc)) As :=
  ⟨gv_blind, va_recv hK hP (ci := ci) (q0 := 0) hc he, fun U hU hW => ⟨rfl, by rw [hU], by rw [hU]; exact hP, va_K.moved hW.alike hK, nw_warm hW hN, hD.weaken (fun _ _ _ _ => trivial), by rw [hU]; exact hSF.moved hW.alike⟩⟩
/-- a call that only reads, virtual: int, long -/
theorem k_roVi {r : Int32} (S : CallFix p m c cc nL s args wsG own) (hM : Met l y (.code y bytes maxL ret :: wsG) rm (va_Pc (.ref b :: As) (gw D cI Wc)) (vp_Si (fun x => x = r)) 0 0 (fun _ => False)) (hG : GoodIn wsG (wsV own index C y (.code y bytes maxL ret :: wsG))) (hd : okV y C n) (hrm : rm.cells = 0 ∧ rm.slots = 0) (hR : rm.frames + 1 ≤ R.frames ∧ 8 + (maxL + 11) + rm.locals ≤ R.locals) (hK : va_K D vwCl [(cI, .int)] s) (hN : nw s) (hSF : sf (fun _ => False) s H) (hP : va_P D vwCl Wc H) (he : Wc[0]? = some (b, .inr (ci, cfs))) (hc : vwCl[ci]? = some (C, T, N)) (hn : As.length = n) (hls : ls.size = nL) (hst : st0 = As.reverse ++ .ref b :: rest) (hcat : (rest.map fun v => v.category).sum ≤ 8) (hf : cells ≤ R.cells ∧ slots ≤ R.slots) (hdg : decode cc pc = .ok (.invokevirtual index, 3))
    (kk : W p l e R s m args below meth c H locs cells slots Q (F0 m (pc + 3) ls (.int r :: rest))) : W p l e R s m args below meth c H locs cells slots Q (F0 m pc ls st0) := by
  subst hst
  exact vp_callSi (va_Run.run (va_runV (As := As) (rest := rest) S hM (cwV n S.2.2.2.2 hG rfl hrm.1 hrm.2 hd hR) (k_preV hK hN hSF hP he hc) rfl hn hls rfl (lv_room hcat) hdg hf)) (fun r' hr' => by subst hr'; exact kk)
theorem k_roVl {r : Int64} (S : CallFix p m c cc nL s args wsG own) (hM : Met l y (.code y bytes maxL ret :: wsG) rm (va_Pc (.ref b :: As) (gw D cI Wc)) (vp_Sl (fun x => x = r)) 0 0 (fun _ => False)) (hG : GoodIn wsG (wsV own index C y (.code y bytes maxL ret :: wsG))) (hd : okV y C n) (hrm : rm.cells = 0 ∧ rm.slots = 0) (hR : rm.frames + 1 ≤ R.frames ∧ 8 + (maxL + 11) + rm.locals ≤ R.locals) (hK : va_K D vwCl [(cI, .int)] s) (hN : nw s) (hSF : sf (fun _ => False) s H) (hP : va_P D vwCl Wc H) (he : Wc[0]? = some (b, .inr (ci, cfs))) (hc : vwCl[ci]? = some (C, T, N)) (hn : As.length = n) (hls : ls.size = nL) (hst : st0 = As.reverse ++ .ref b :: rest) (hcat : (rest.map fun v => v.category).sum ≤ 8) (hf : cells ≤ R.cells ∧ slots ≤ R.slots) (hdg : decode cc pc = .ok (.invokevirtual index, 3))
    (kk : W p l e R s m args below meth c H locs cells slots Q (F0 m (pc + 3) ls (.long r :: rest))) : W p l e R s m args below meth c H locs cells slots Q (F0 m pc ls st0) := by
  subst hst
  exact vp_callSl (va_Run.run (va_runV (As := As) (rest := rest) S hM (cwV n S.2.2.2.2 hG rfl hrm.1 hrm.2 hd hR) (k_preV hK hN hSF hP he hc) rfl hn hls rfl (lv_room hcat) hdg hf)) (fun r' hr' => by subst hr'; exact kk)
/-- .. that answers one of its references -/
theorem k_roVr {r : Nat} (S : CallFix p m c cc nL s args wsG own) (hM : Met l y (.code y bytes maxL ret :: wsG) rm (va_Pc (.ref b :: As) (gw D cI Wc)) (va_Sr (fun x => x = r) Value.ref) 0 0 (fun _ => False)) (hG : GoodIn wsG (wsV own index C y (.code y bytes maxL ret :: wsG))) (hd : okV y C n) (hrm : rm.cells = 0 ∧ rm.slots = 0) (hR : rm.frames + 1 ≤ R.frames ∧ 8 + (maxL + 11) + rm.locals ≤ R.locals) (hK : va_K D vwCl [(cI, .int)] s) (hN : nw s) (hSF : sf (fun _ => False) s H) (hP : va_P D vwCl Wc H) (he : Wc[0]? = some (b, .inr (ci, cfs))) (hc : vwCl[ci]? = some (C, T, N)) (hn : As.length = n) (hls : ls.size = nL) (hst : st0 = As.reverse ++ .ref b :: rest) (hcat : (rest.map fun v => v.category).sum ≤ 8) (hf : cells ≤ R.cells ∧ slots ≤ R.slots) (hdg : decode cc pc = .ok (.invokevirtual index, 3))
    (kk : W p l e R s m args below meth c H locs cells slots Q (F0 m (pc + 3) ls (.ref r :: rest))) : W p l e R s m args below meth c H locs cells slots Q (F0 m pc ls st0) := by
  subst hst
  exact va_csr (va_Run.run (va_runV (As := As) (rest := rest) S hM (cwV n S.2.2.2.2 hG rfl hrm.1 hrm.2 hd hR) (k_preV hK hN hSF hP he hc) rfl hn hls rfl (lv_room hcat) hdg hf)) (fun r' hr' => by subst hr'; exact kk)
/-- static, reading: by an ordinary link, and by a nest mate's -/
abbrev okS (y : MethodName) (n : Nat) : Prop := y.cls ≠ "java/lang/invoke/MethodHandle" ∧ y.cls ≠ "java/lang/invoke/VarHandle" ∧ (parseMethodDescriptor y.desc).map (fun d => d.parameters.length) = some n
theorem k_roSi {r : Int32} (S : CallFix p m c cc nL s args wsG own) (hM : Met l y (.code y bytes maxL ret :: wsG) rm (va_Pc As (gw D cI Wc)) (vp_Si (fun x => x = r)) 0 0 (fun _ => False)) (hG : GoodIn wsG (va_wsS own index y (.code y bytes maxL ret :: wsG))) (hd : okS y n) (hrm : rm.cells = 0 ∧ rm.slots = 0) (hR : rm.frames + 1 ≤ R.frames ∧ 8 + (maxL + 11) + rm.locals ≤ R.locals) (hK : va_K D vwCl [(cI, .int)] s) (hN : nw s) (hSF : sf (fun _ => False) s H) (hP : va_P D vwCl Wc H) (hn : As.length = n) (hls : ls.size = nL) (hst : st0 = As.reverse ++ rest) (hcat : (rest.map fun v => v.category).sum ≤ 8) (hf : cells ≤ R.cells ∧ slots ≤ R.slots) (hdg : decode cc pc = .ok (.invokestatic index, 3))
    (kk : W p l e R s m args below meth c H locs cells slots Q (F0 m (pc + 3) ls (.int r :: rest))) : W p l e R s m args below meth c H locs cells slots Q (F0 m pc ls st0) := by
  subst hst
  exact vp_callSi (va_Run.run (va_runS (As := As) (rest := rest) S hM (va_cwS n S.2.2.2.2 hG rfl hrm.1 hrm.2 hd hR) (k_preS hK hN hSF hP) rfl hn hls rfl (lv_room hcat) hdg hf)) (fun r' hr' => by subst hr'; exact kk)
theorem k_roSNi {r : Int32} (S : CallFix p m c cc nL s args wsG own) (hM : Met l y (.code y bytes maxL ret :: wsG) rm (va_Pc As (gw D cI Wc)) (vp_Si (fun x => x = r)) 0 0 (fun _ => False)) (hG : GoodIn wsG (.code y bytes maxL ret :: wsG)) (hl : va_Nw (.methodLinkNest own index y host) s) (hst1 : Cond.static y ∈ wsG) (hini : Cond.initialized y.cls ∈ wsG) (hd : okS y n) (hrm : rm.cells = 0 ∧ rm.slots = 0) (hR : rm.frames + 1 ≤ R.frames ∧ 8 + (maxL + 11) + rm.locals ≤ R.locals) (hK : va_K D vwCl [(cI, .int)] s) (hN : nw s) (hSF : sf (fun _ => False) s H) (hP : va_P D vwCl Wc H) (hn : As.length = n) (hls : ls.size = nL) (hst : st0 = As.reverse ++ rest) (hcat : (rest.map fun v => v.category).sum ≤ 8) (hf : cells ≤ R.cells ∧ slots ≤ R.slots) (hdg : decode cc pc = .ok (.invokestatic index, 3))
    (kk : W p l e R s m args below meth c H locs cells slots Q (F0 m (pc + 3) ls (.int r :: rest))) : W p l e R s m args below meth c H locs cells slots Q (F0 m pc ls st0) := by
  subst hst
  exact vp_callSi (va_Run.run (va_runSN (As := As) (rest := rest) S hM ⟨va_cnB n S.2.2.2.2 hG rfl hrm.1 hrm.2 hl (S.2.2.2.2 _ hini) hd hR, S.2.2.2.2 _ hst1, trivial⟩ (k_preS hK hN hSF hP) rfl hn hls rfl (lv_room hcat) hdg hf)) (fun r' hr' => by subst hr'; exact kk)
/-- behind a call that writes: the caller's cells in their order again -/
theorem k_join {H1 : Heap} (hP : va_P D vwCl Ws H) (hD : va_D A Ws) (isC isR perm : List Nat) (hC : isC.map (fun i => Ws[i]?) = Wc.map some) (hRr : isR.map (fun i => Ws[i]?) = Wr.map some) (hn1 : va_nd isR = true) (hdis : ∀ i ∈ isR, i ∉ isC) (hp : perm.map (fun i => (Wr ++ Wc')[i]?) = W2.map some) (hn2 : va_nd perm = true) (hk : ∀ q : Nat, q < H.size → ¬ va_A Wc H.size q → H1[q]? = H[q]?) (hF : ∀ q, va_A Wc H.size q → A q) (hP1 : va_P D vwCl Wc' H1) (hD1 : va_D (va_A Wc H.size) Wc') : va_P D vwCl W2 H1 ∧ va_D A W2 := by
  obtain ⟨g1, g2⟩ := va_join hP hD isC isR hC hRr hn1 hdis hk hF hP1 hD1
  exact ⟨g1.sub perm (fm_of_map hp), g2.sub perm hn2 hp⟩
theorem k_rwVi {r : Int32} (S : CallFix p m c cc nL s args wsG own) (hM : Met l y (.code y bytes maxL ret :: wsG) rm (va_Pc (.ref b :: As) (gv D cI H.size Wc)) (va_Qi (fun x (_ : Unit) => x = r) (gz D (va_A Wc H.size) Wc') (va_A Wc H.size)) 0 0 (va_A Wc H.size)) (hG : GoodIn wsG (wsV own index C y (.code y bytes maxL ret :: wsG))) (hd : okV y C n) (hrm : rm.cells = 0 ∧ rm.slots = 0) (hR : rm.frames + 1 ≤ R.frames ∧ 8 + (maxL + 11) + rm.locals ≤ R.locals) (hK : va_K D vwCl [(cI, .int)] s) (hN : nw s) (hSA : sf A s H0) (hP : va_P D vwCl Ws H) (hD : va_D A Ws) (hS : va_S A H0 H locs) (hA : ∀ q, H0.size ≤ q → A q) (isC isR perm : List Nat) (hnC : va_nd isC = true) (hC : isC.map (fun i => Ws[i]?) = Wc.map some) (hRr : isR.map (fun i => Ws[i]?) = Wr.map some) (hn1 : va_nd isR = true) (hdis : ∀ i ∈ isR, i ∉ isC) (hp : perm.map (fun i => (Wr ++ Wc')[i]?) = W2.map some) (hn2 : va_nd perm = true) (he : Wc[0]? = some (b, .inr (ci, cfs))) (hc : vwCl[ci]? = some (C, T, N)) (hn : As.length = n) (hls : ls.size = nL) (hst : st0 = As.reverse ++ .ref b :: rest) (hcat : (rest.map fun v => v.category).sum ≤ 8) (hf : cells ≤ R.cells ∧ slots ≤ R.slots) (hdg : decode cc pc = .ok (.invokevirtual index, 3))
    (kk : ∀ (H1 : Heap) (locs1 : List Loc), va_P D vwCl W2 H1 → va_D A W2 → va_S A H0 H1 locs1 → W p l e R s m args below meth c H1 locs1 cells slots Q (F0 m (pc + 3) ls (.int r :: rest))) : W p l e R s m args below meth c H locs cells slots Q (F0 m pc ls st0) := by
  subst hst
  have hF := va_free (wc := Wc) hD hS hA isC hC
  refine va_calli (va_runV (As := As) (rest := rest) S hM (cwV n S.2.2.2.2 hG rfl hrm.1 hrm.2 hd hR) (k_preVw hK hN ((hSA.kept hS.2.1).narrow hF) (hP.sub isC (fm_of_map hC)) (hD.sub isC hnC hC) he hc) rfl hn hls rfl (lv_room hcat) hdg hf) hS (fun q _ h => hF q h) hF (fun r' u t H1 locs1 ht hvm hw hB hz1 hk1 hS1 => ?_)
  subst hw
  obtain ⟨hP1, hD1⟩ := hB
  rw [ht] at hP1
  obtain ⟨g1, g2⟩ := k_join hP hD isC isR perm hC hRr hn1 hdis hp hn2 hk1 hF hP1 hD1
  exact kk H1 locs1 g1 g2 hS1
theorem k_rwVv (S : CallFix p m c cc nL s args wsG own) (hM : Met l y (.code y bytes maxL ret :: wsG) rm (va_Pc (.ref b :: As) (gv D cI H.size Wc)) (va_Qv (fun (_ : Unit) => True) (gz D (va_A Wc H.size) Wc') (va_A Wc H.size)) 0 0 (va_A Wc H.size)) (hG : GoodIn wsG (wsV own index C y (.code y bytes maxL ret :: wsG))) (hd : okV y C n) (hrm : rm.cells = 0 ∧ rm.slots = 0) (hR : rm.frames + 1 ≤ R.frames ∧ 8 + (maxL + 11) + rm.locals ≤ R.locals) (hK : va_K D vwCl [(cI, .int)] s) (hN : nw s) (hSA : sf A s H0) (hP : va_P D vwCl Ws H) (hD : va_D A Ws) (hS : va_S A H0 H locs) (hA : ∀ q, H0.size ≤ q → A q) (isC isR perm : List Nat) (hnC : va_nd isC = true) (hC : isC.map (fun i => Ws[i]?) = Wc.map some) (hRr : isR.map (fun i => Ws[i]?) = Wr.map some) (hn1 : va_nd isR = true) (hdis : ∀ i ∈ isR, i ∉ isC) (hp : perm.map (fun i => (Wr ++ Wc')[i]?) = W2.map some) (hn2 : va_nd perm = true) (he : Wc[0]? = some (b, .inr (ci, cfs))) (hc : vwCl[ci]? = some (C, T, N)) (hn : As.length = n) (hls : ls.size = nL) (hst : st0 = As.reverse ++ .ref b :: rest) (hcat : (rest.map fun v => v.category).sum ≤ 8) (hf : cells ≤ R.cells ∧ slots ≤ R.slots) (hdg : decode cc pc = .ok (.invokevirtual index, 3))
    (kk : ∀ (H1 : Heap) (locs1 : List Loc), va_P D vwCl W2 H1 → va_D A W2 → va_S A H0 H1 locs1 → W p l e R s m args below meth c H1 locs1 cells slots Q (F0 m (pc + 3) ls rest)) : W p l e R s m args below meth c H locs cells slots Q (F0 m pc ls st0) := by
  subst hst
  have hF := va_free (wc := Wc) hD hS hA isC hC
  refine va_callv (va_runV (As := As) (rest := rest) S hM (cwV n S.2.2.2.2 hG rfl hrm.1 hrm.2 hd hR) (k_preVw hK hN ((hSA.kept hS.2.1).narrow hF) (hP.sub isC (fm_of_map hC)) (hD.sub isC hnC hC) he hc) rfl hn hls rfl (lv_room hcat) hdg hf) hS (fun q _ h => hF q h) hF (fun u t H1 locs1 ht hvm hw hB hz1 hk1 hS1 => ?_)
  obtain ⟨hP1, hD1⟩ := hB
  rw [ht] at hP1
  obtain ⟨g1, g2⟩ := k_join hP hD isC isR perm hC hRr hn1 hdis hp hn2 hk1 hF hP1 hD1
  exact kk H1 locs1 g1 g2 hS1
end KK
section KI
variable {l : Launch} {y : MethodName} {cc : ByteArray} {maxL : Nat} {ret : Option FieldType} {rm : Room} {D : va_G} {cI : ClassId} {As : List Value} {Ws Ws' : va_W} {own : String} {lv : List (Nat × Value)}
/-- a method that only reads, from its entry -/
theorem k_ro {Qc : Array Value → State → Outcome → State → Prop} (hy : plainName y.cls = true) (ho : y.cls = own) (hlen : (lg_sl As).length ≤ maxL) (hlv : lv_args 0 As = lv)
    (body : ∀ (p : Program) (e : Env) (s : State) (m : MethodId) (below : List Frame) (meth : Method) (c : Code) (ls : Array Slot), CallFix p m c cc maxL s As.toArray wsG own → meth.sig.returnType = ret → meth.locks = false → va_K D vwCl [(cI, .int)] s → nw s → sf (fun _ => False) s s.heap → va_P D vwCl Ws s.heap → lv_has ls maxL lv → W p l e (headSpec (.code y cc maxL ret :: wsG) rm).room s m As.toArray below meth c s.heap [] 0 0 (MQ below Qc As.toArray s 0 0 (fun _ => False)) (F0 m 0 ls [])) : Met l y (.code y cc maxL ret :: wsG) rm (va_Pc As (gw D cI Ws)) Qc 0 0 (fun _ => False) := by
  refine Met.ofW (cc := cc) (maxL := maxL) (ret := ret) hy rfl ?_
  intro p e s m args below meth c s₁ B hml hv
  obtain ⟨rfl, hP, hK, hN, hSF⟩ := hv
  have hts := atoms_spec (ws := .code y cc maxL ret :: wsG) B.pre
  have hown : s.vm.findClass y.cls = some m.cls := findClass_of_methodNamed B.named
  have hl := lv_entry As (n := maxL) hlen
  rw [lg_entry_eq]
  subst ho
  subst hlv
  exact body p e s m below meth c _ ⟨B.exec, B.bytes, hml, hown, fun w h => hts w (List.mem_cons_of_mem _ h)⟩ B.returns B.notSynchronized hK hN hSF hP hl
/-- a method that writes, from its entry -/
theorem k_rw {Qc : (Nat → Prop) → Array Value → State → Outcome → State → Prop} {sz : Nat} (hy : plainName y.cls = true) (ho : y.cls = own) (hlen : (lg_sl As).length ≤ maxL) (hlv : lv_args 0 As = lv)
    (body : ∀ (p : Program) (e : Env) (s : State) (m : MethodId) (below : List Frame) (meth : Method) (c : Code) (ls : Array Slot) (A : Nat → Prop), CallFix p m c cc maxL s As.toArray wsG own → meth.sig.returnType = ret → meth.locks = false → va_K D vwCl [(cI, .int)] s → nw s → sf A s s.heap → va_P D vwCl Ws s.heap → va_D A Ws → va_S A s.heap s.heap [] → (∀ q, s.heap.size ≤ q → A q) → lv_has ls maxL lv → W p l e (headSpec (.code y cc maxL ret :: wsG) rm).room s m As.toArray below meth c s.heap [] 0 0 (MQ below (Qc A) As.toArray s 0 0 A) (F0 m 0 ls [])) : Met l y (.code y cc maxL ret :: wsG) rm (va_Pc As (gv D cI sz Ws)) (Qc (va_A Ws sz)) 0 0 (va_A Ws sz) := by
  refine Met.ofW (cc := cc) (maxL := maxL) (ret := ret) hy rfl ?_
  intro p e s m args below meth c s₁ B hml hv
  obtain ⟨rfl, hsz, hP, hK, hN, hD0, hSA⟩ := hv
  subst hsz
  have hts := atoms_spec (ws := .code y cc maxL ret :: wsG) B.pre
  have hown : s.vm.findClass y.cls = some m.cls := findClass_of_methodNamed B.named
  have hl := lv_entry As (n := maxL) hlen
  rw [lg_entry_eq]
  subst ho
  subst hlv
  exact body p e s m below meth c _ (va_A Ws s.heap.size) ⟨B.exec, B.bytes, hml, hown, fun w h => hts w (List.mem_cons_of_mem _ h)⟩ B.returns B.notSynchronized hK hN hSA hP (hD0.self (sz := s.heap.size)) va_S.rf (fun q h => Or.inr h) hl
end KI
section KR
variable {p : Program} {l : Launch} {e : Env} {R : Room} {s : State} {m : MethodId} {args : Array Value} {below : List Frame} {meth : Method} {c : Code} {H : Heap} {locs : List Loc} {D : va_G} {cc : ByteArray} {pc : Nat} {ls : Array Slot} {A : Nat → Prop} {Ws : va_W}
theorem k_reti {r v : Int32} (hx : p.tables.exec = Jvm.exec) (hb : c.code = cc) (hr : meth.sig.returnType = some .int) (hlocks : meth.locks = false) (hv : v = r) (hdg : decode cc pc = .ok (.ireturn, 1)) : W p l e R s m args below meth c s.heap [] 0 0 (MQ below (vp_Si (fun x => x = r)) args s 0 0 (fun _ => False)) (F0 m pc ls [.int v]) :=
  W.iret (v := v) hx hb hr (fun t ht hW => ⟨v, rfl, hv, ht⟩) (fun q h => by cases h) hdg hlocks
theorem k_retz {r v : Int32} (hx : p.tables.exec = Jvm.exec) (hb : c.code = cc) (hr : meth.sig.returnType = some .boolean) (hlocks : meth.locks = false) (hn : narrow .boolean (.int v) = .int v) (hv : v = r) (hdg : decode cc pc = .ok (.ireturn, 1)) : W p l e R s m args below meth c s.heap [] 0 0 (MQ below (vp_Si (fun x => x = r)) args s 0 0 (fun _ => False)) (F0 m pc ls [.int v]) :=
  W.zret (v := v) hx hb hr hn (fun t ht hW => ⟨v, rfl, hv, ht⟩) (fun q h => by cases h) hdg hlocks
theorem k_retl {r v : Int64} (hx : p.tables.exec = Jvm.exec) (hb : c.code = cc) (hr : meth.sig.returnType = some .long) (hlocks : meth.locks = false) (hv : v = r) (hdg : decode cc pc = .ok (.lreturn, 1)) : W p l e R s m args below meth c s.heap [] 0 0 (MQ below (vp_Sl (fun x => x = r)) args s 0 0 (fun _ => False)) (F0 m pc ls [.long v]) :=
  W.lret (v := v) hx hb hr (fun t ht hW => ⟨v, rfl, hv, ht⟩) (fun q h => by cases h) hdg hlocks
theorem k_retr {r v : Nat} {nm : String} (hx : p.tables.exec = Jvm.exec) (hb : c.code = cc) (hr : meth.sig.returnType = some (.object nm)) (hlocks : meth.locks = false) (hv : v = r) (hdg : decode cc pc = .ok (.areturn, 1)) : W p l e R s m args below meth c s.heap [] 0 0 (MQ below (va_Sr (fun x => x = r) Value.ref) args s 0 0 (fun _ => False)) (F0 m pc ls [.ref v]) :=
  W.aret (v := .ref v) hx hb hr (Or.inl ⟨_, rfl⟩) (Or.inr ⟨_, rfl⟩) (fun t ht hW => ⟨v, rfl, hv, ht⟩) (fun q h => by cases h) hdg hlocks
theorem k_wreti {r v : Int32} (hx : p.tables.exec = Jvm.exec) (hb : c.code = cc) (hr : meth.sig.returnType = some .int) (hlocks : meth.locks = false) (hv : v = r) (hP : va_P D vwCl Ws H) (hD : va_D A Ws) (hS : va_S A s.heap H locs) (hdg : decode cc pc = .ok (.ireturn, 1)) : W p l e R s m args below meth c H locs 0 0 (MQ below (va_Qi (fun x (_ : Unit) => x = r) (gz D A Ws) A) args s 0 0 A) (F0 m pc ls [.int v]) :=
  W.iret (v := v) hx hb hr (fun t ht hW => ⟨⟨v, (), rfl, hv, by rw [ht]; exact hP, hD⟩, hS.F ht⟩) hS.2.2 hdg hlocks
theorem k_wretv (hx : p.tables.exec = Jvm.exec) (hb : c.code = cc) (hr : meth.sig.returnType = none) (hlocks : meth.locks = false) (hP : va_P D vwCl Ws H) (hD : va_D A Ws) (hS : va_S A s.heap H locs) (hdg : decode cc pc = .ok (.return_, 1)) : W p l e R s m args below meth c H locs 0 0 (MQ below (va_Qv (fun (_ : Unit) => True) (gz D A Ws) A) args s 0 0 A) (F0 m pc ls []) :=
  W.vret hx hb hr (fun t ht hW => ⟨⟨(), rfl, trivial, by rw [ht]; exact hP, hD⟩, hS.F ht⟩) hS.2.2 hdg hlocks
end KR
/-! binding of answers, one to twelve parts -/
def bi1 {α β : Type} (o : Option α) (k : α → Option β) : Option β := o.bind k
theorem bd1 {α β : Type} {o : Option α} {k : α → Option β} {x : β} (h : bi1 o k = some x) : ∃ a, o = some a ∧ k a = some x := Option.bind_eq_some_iff.mp h
def bi2 {α0 α1 β : Type} (o : Option (α0 × α1)) (k : α0 → α1 → Option β) : Option β := o.bind (fun z => k (z.1) (z.2))
theorem bd2 {α0 α1 β : Type} {o : Option (α0 × α1)} {k : α0 → α1 → Option β} {x : β} (h : bi2 o k = some x) : ∃ a0 a1, o = some (a0, a1) ∧ k a0 a1 = some x := by
  obtain ⟨⟨a0, a1⟩, h1, h2⟩ := Option.bind_eq_some_iff.mp h
  exact ⟨a0, a1, h1, h2⟩
def bi3 {α0 α1 α2 β : Type} (o : Option (α0 × α1 × α2)) (k : α0 → α1 → α2 → Option β) : Option β := o.bind (fun z => k (z.1) (z.2.1) (z.2.2))
theorem bd3 {α0 α1 α2 β : Type} {o : Option (α0 × α1 × α2)} {k : α0 → α1 → α2 → Option β} {x : β} (h : bi3 o k = some x) : ∃ a0 a1 a2, o = some (a0, a1, a2) ∧ k a0 a1 a2 = some x := by
  obtain ⟨⟨a0, a1, a2⟩, h1, h2⟩ := Option.bind_eq_some_iff.mp h
  exact ⟨a0, a1, a2, h1, h2⟩
def bi4 {α0 α1 α2 α3 β : Type} (o : Option (α0 × α1 × α2 × α3)) (k : α0 → α1 → α2 → α3 → Option β) : Option β := o.bind (fun z => k (z.1) (z.2.1) (z.2.2.1) (z.2.2.2))
theorem bd4 {α0 α1 α2 α3 β : Type} {o : Option (α0 × α1 × α2 × α3)} {k : α0 → α1 → α2 → α3 → Option β} {x : β} (h : bi4 o k = some x) : ∃ a0 a1 a2 a3, o = some (a0, a1, a2, a3) ∧ k a0 a1 a2 a3 = some x := by
  obtain ⟨⟨a0, a1, a2, a3⟩, h1, h2⟩ := Option.bind_eq_some_iff.mp h
  exact ⟨a0, a1, a2, a3, h1, h2⟩
def bi5 {α0 α1 α2 α3 α4 β : Type} (o : Option (α0 × α1 × α2 × α3 × α4)) (k : α0 → α1 → α2 → α3 → α4 → Option β) : Option β := o.bind (fun z => k (z.1) (z.2.1) (z.2.2.1) (z.2.2.2.1) (z.2.2.2.2))
theorem bd5 {α0 α1 α2 α3 α4 β : Type} {o : Option (α0 × α1 × α2 × α3 × α4)} {k : α0 → α1 → α2 → α3 → α4 → Option β} {x : β} (h : bi5 o k = some x) : ∃ a0 a1 a2 a3 a4, o = some (a0, a1, a2, a3, a4) ∧ k a0 a1 a2 a3 a4 = some x := by
  obtain ⟨⟨a0, a1, a2, a3, a4⟩, h1, h2⟩ := Option.bind_eq_some_iff.mp h
  exact ⟨a0, a1, a2, a3, a4, h1, h2⟩
def bi6 {α0 α1 α2 α3 α4 α5 β : Type} (o : Option (α0 × α1 × α2 × α3 × α4 × α5)) (k : α0 → α1 → α2 → α3 → α4 → α5 → Option β) : Option β := o.bind (fun z => k (z.1) (z.2.1) (z.2.2.1) (z.2.2.2.1) (z.2.2.2.2.1) (z.2.2.2.2.2))
theorem bd6 {α0 α1 α2 α3 α4 α5 β : Type} {o : Option (α0 × α1 × α2 × α3 × α4 × α5)} {k : α0 → α1 → α2 → α3 → α4 → α5 → Option β} {x : β} (h : bi6 o k = some x) : ∃ a0 a1 a2 a3 a4 a5, o = some (a0, a1, a2, a3, a4, a5) ∧ k a0 a1 a2 a3 a4 a5 = some x := by
  obtain ⟨⟨a0, a1, a2, a3, a4, a5⟩, h1, h2⟩ := Option.bind_eq_some_iff.mp h
  exact ⟨a0, a1, a2, a3, a4, a5, h1, h2⟩
def bi7 {α0 α1 α2 α3 α4 α5 α6 β : Type} (o : Option (α0 × α1 × α2 × α3 × α4 × α5 × α6)) (k : α0 → α1 → α2 → α3 → α4 → α5 → α6 → Option β) : Option β := o.bind (fun z => k (z.1) (z.2.1) (z.2.2.1) (z.2.2.2.1) (z.2.2.2.2.1) (z.2.2.2.2.2.1) (z.2.2.2.2.2.2))
theorem bd7 {α0 α1 α2 α3 α4 α5 α6 β : Type} {o : Option (α0 × α1 × α2 × α3 × α4 × α5 × α6)} {k : α0 → α1 → α2 → α3 → α4 → α5 → α6 → Option β} {x : β} (h : bi7 o k = some x) : ∃ a0 a1 a2 a3 a4 a5 a6, o = some (a0, a1, a2, a3, a4, a5, a6) ∧ k a0 a1 a2 a3 a4 a5 a6 = some x := by
  obtain ⟨⟨a0, a1, a2, a3, a4, a5, a6⟩, h1, h2⟩ := Option.bind_eq_some_iff.mp h
  exact ⟨a0, a1, a2, a3, a4, a5, a6, h1, h2⟩
def bi8 {α0 α1 α2 α3 α4 α5 α6 α7 β : Type} (o : Option (α0 × α1 × α2 × α3 × α4 × α5 × α6 × α7)) (k : α0 → α1 → α2 → α3 → α4 → α5 → α6 → α7 → Option β) : Option β := o.bind (fun z => k (z.1) (z.2.1) (z.2.2.1) (z.2.2.2.1) (z.2.2.2.2.1) (z.2.2.2.2.2.1) (z.2.2.2.2.2.2.1) (z.2.2.2.2.2.2.2))
theorem bd8 {α0 α1 α2 α3 α4 α5 α6 α7 β : Type} {o : Option (α0 × α1 × α2 × α3 × α4 × α5 × α6 × α7)} {k : α0 → α1 → α2 → α3 → α4 → α5 → α6 → α7 → Option β} {x : β} (h : bi8 o k = some x) : ∃ a0 a1 a2 a3 a4 a5 a6 a7, o = some (a0, a1, a2, a3, a4, a5, a6, a7) ∧ k a0 a1 a2 a3 a4 a5 a6 a7 = some x := by
  obtain ⟨⟨a0, a1, a2, a3, a4, a5, a6, a7⟩, h1, h2⟩ := Option.bind_eq_some_iff.mp h
  exact ⟨a0, a1, a2, a3, a4, a5, a6, a7, h1, h2⟩
def bi9 {α0 α1 α2 α3 α4 α5 α6 α7 α8 β : Type} (o : Option (α0 × α1 × α2 × α3 × α4 × α5 × α6 × α7 × α8)) (k : α0 → α1 → α2 → α3 → α4 → α5 → α6 → α7 → α8 → Option β) : Option β := o.bind (fun z => k (z.1) (z.2.1) (z.2.2.1) (z.2.2.2.1) (z.2.2.2.2.1) (z.2.2.2.2.2.1) (z.2.2.2.2.2.2.1) (z.2.2.2.2.2.2.2.1) (z.2.2.2.2.2.2.2.2))
theorem bd9 {α0 α1 α2 α3 α4 α5 α6 α7 α8 β : Type} {o : Option (α0 × α1 × α2 × α3 × α4 × α5 × α6 × α7 × α8)} {k : α0 → α1 → α2 → α3 → α4 → α5 → α6 → α7 → α8 → Option β} {x : β} (h : bi9 o k = some x) : ∃ a0 a1 a2 a3 a4 a5 a6 a7 a8, o = some (a0, a1, a2, a3, a4, a5, a6, a7, a8) ∧ k a0 a1 a2 a3 a4 a5 a6 a7 a8 = some x := by
  obtain ⟨⟨a0, a1, a2, a3, a4, a5, a6, a7, a8⟩, h1, h2⟩ := Option.bind_eq_some_iff.mp h
  exact ⟨a0, a1, a2, a3, a4, a5, a6, a7, a8, h1, h2⟩
def bi10 {α0 α1 α2 α3 α4 α5 α6 α7 α8 α9 β : Type} (o : Option (α0 × α1 × α2 × α3 × α4 × α5 × α6 × α7 × α8 × α9)) (k : α0 → α1 → α2 → α3 → α4 → α5 → α6 → α7 → α8 → α9 → Option β) : Option β := o.bind (fun z => k (z.1) (z.2.1) (z.2.2.1) (z.2.2.2.1) (z.2.2.2.2.1) (z.2.2.2.2.2.1) (z.2.2.2.2.2.2.1) (z.2.2.2.2.2.2.2.1) (z.2.2.2.2.2.2.2.2.1) (z.2.2.2.2.2.2.2.2.2))
theorem bd10 {α0 α1 α2 α3 α4 α5 α6 α7 α8 α9 β : Type} {o : Option (α0 × α1 × α2 × α3 × α4 × α5 × α6 × α7 × α8 × α9)} {k : α0 → α1 → α2 → α3 → α4 → α5 → α6 → α7 → α8 → α9 → Option β} {x : β} (h : bi10 o k = some x) : ∃ a0 a1 a2 a3 a4 a5 a6 a7 a8 a9, o = some (a0, a1, a2, a3, a4, a5, a6, a7, a8, a9) ∧ k a0 a1 a2 a3 a4 a5 a6 a7 a8 a9 = some x := by
  obtain ⟨⟨a0, a1, a2, a3, a4, a5, a6, a7, a8, a9⟩, h1, h2⟩ := Option.bind_eq_some_iff.mp h
  exact ⟨a0, a1, a2, a3, a4, a5, a6, a7, a8, a9, h1, h2⟩
def bi11 {α0 α1 α2 α3 α4 α5 α6 α7 α8 α9 α10 β : Type} (o : Option (α0 × α1 × α2 × α3 × α4 × α5 × α6 × α7 × α8 × α9 × α10)) (k : α0 → α1 → α2 → α3 → α4 → α5 → α6 → α7 → α8 → α9 → α10 → Option β) : Option β := o.bind (fun z => k (z.1) (z.2.1) (z.2.2.1) (z.2.2.2.1) (z.2.2.2.2.1) (z.2.2.2.2.2.1) (z.2.2.2.2.2.2.1) (z.2.2.2.2.2.2.2.1) (z.2.2.2.2.2.2.2.2.1) (z.2.2.2.2.2.2.2.2.2.1) (z.2.2.2.2.2.2.2.2.2.2))
theorem bd11 {α0 α1 α2 α3 α4 α5 α6 α7 α8 α9 α10 β : Type} {o : Option (α0 × α1 × α2 × α3 × α4 × α5 × α6 × α7 × α8 × α9 × α10)} {k : α0 → α1 → α2 → α3 → α4 → α5 → α6 → α7 → α8 → α9 → α10 → Option β} {x : β} (h : bi11 o k = some x) : ∃ a0 a1 a2 a3 a4 a5 a6 a7 a8 a9 a10, o = some (a0, a1, a2, a3, a4, a5, a6, a7, a8, a9, a10) ∧ k a0 a1 a2 a3 a4 a5 a6 a7 a8 a9 a10 = some x := by
  obtain ⟨⟨a0, a1, a2, a3, a4, a5, a6, a7, a8, a9, a10⟩, h1, h2⟩ := Option.bind_eq_some_iff.mp h
  exact ⟨a0, a1, a2, a3, a4, a5, a6, a7, a8, a9, a10, h1, h2⟩
def bi12 {α0 α1 α2 α3 α4 α5 α6 α7 α8 α9 α10 α11 β : Type} (o : Option (α0 × α1 × α2 × α3 × α4 × α5 × α6 × α7 × α8 × α9 × α10 × α11)) (k : α0 → α1 → α2 → α3 → α4 → α5 → α6 → α7 → α8 → α9 → α10 → α11 → Option β) : Option β := o.bind (fun z => k (z.1) (z.2.1) (z.2.2.1) (z.2.2.2.1) (z.2.2.2.2.1) (z.2.2.2.2.2.1) (z.2.2.2.2.2.2.1) (z.2.2.2.2.2.2.2.1) (z.2.2.2.2.2.2.2.2.1) (z.2.2.2.2.2.2.2.2.2.1) (z.2.2.2.2.2.2.2.2.2.2.1) (z.2.2.2.2.2.2.2.2.2.2.2))
theorem bd12 {α0 α1 α2 α3 α4 α5 α6 α7 α8 α9 α10 α11 β : Type} {o : Option (α0 × α1 × α2 × α3 × α4 × α5 × α6 × α7 × α8 × α9 × α10 × α11)} {k : α0 → α1 → α2 → α3 → α4 → α5 → α6 → α7 → α8 → α9 → α10 → α11 → Option β} {x : β} (h : bi12 o k = some x) : ∃ a0 a1 a2 a3 a4 a5 a6 a7 a8 a9 a10 a11, o = some (a0, a1, a2, a3, a4, a5, a6, a7, a8, a9, a10, a11) ∧ k a0 a1 a2 a3 a4 a5 a6 a7 a8 a9 a10 a11 = some x := by
  obtain ⟨⟨a0, a1, a2, a3, a4, a5, a6, a7, a8, a9, a10, a11⟩, h1, h2⟩ := Option.bind_eq_some_iff.mp h
  exact ⟨a0, a1, a2, a3, a4, a5, a6, a7, a8, a9, a10, a11, h1, h2⟩
def bi13 {α0 α1 α2 α3 α4 α5 α6 α7 α8 α9 α10 α11 α12 β : Type} (o : Option (α0 × α1 × α2 × α3 × α4 × α5 × α6 × α7 × α8 × α9 × α10 × α11 × α12)) (k : α0 → α1 → α2 → α3 → α4 → α5 → α6 → α7 → α8 → α9 → α10 → α11 → α12 → Option β) : Option β := o.bind (fun z => k (z.1) (z.2.1) (z.2.2.1) (z.2.2.2.1) (z.2.2.2.2.1) (z.2.2.2.2.2.1) (z.2.2.2.2.2.2.1) (z.2.2.2.2.2.2.2.1) (z.2.2.2.2.2.2.2.2.1) (z.2.2.2.2.2.2.2.2.2.1) (z.2.2.2.2.2.2.2.2.2.2.1) (z.2.2.2.2.2.2.2.2.2.2.2.1) (z.2.2.2.2.2.2.2.2.2.2.2.2))
theorem bd13 {α0 α1 α2 α3 α4 α5 α6 α7 α8 α9 α10 α11 α12 β : Type} {o : Option (α0 × α1 × α2 × α3 × α4 × α5 × α6 × α7 × α8 × α9 × α10 × α11 × α12)} {k : α0 → α1 → α2 → α3 → α4 → α5 → α6 → α7 → α8 → α9 → α10 → α11 → α12 → Option β} {x : β} (h : bi13 o k = some x) : ∃ a0 a1 a2 a3 a4 a5 a6 a7 a8 a9 a10 a11 a12, o = some (a0, a1, a2, a3, a4, a5, a6, a7, a8, a9, a10, a11, a12) ∧ k a0 a1 a2 a3 a4 a5 a6 a7 a8 a9 a10 a11 a12 = some x := by
  obtain ⟨⟨a0, a1, a2, a3, a4, a5, a6, a7, a8, a9, a10, a11, a12⟩, h1, h2⟩ := Option.bind_eq_some_iff.mp h
  exact ⟨a0, a1, a2, a3, a4, a5, a6, a7, a8, a9, a10, a11, a12, h1, h2⟩
def bi14 {α0 α1 α2 α3 α4 α5 α6 α7 α8 α9 α10 α11 α12 α13 β : Type} (o : Option (α0 × α1 × α2 × α3 × α4 × α5 × α6 × α7 × α8 × α9 × α10 × α11 × α12 × α13)) (k : α0 → α1 → α2 → α3 → α4 → α5 → α6 → α7 → α8 → α9 → α10 → α11 → α12 → α13 → Option β) : Option β := o.bind (fun z => k (z.1) (z.2.1) (z.2.2.1) (z.2.2.2.1) (z.2.2.2.2.1) (z.2.2.2.2.2.1) (z.2.2.2.2.2.2.1) (z.2.2.2.2.2.2.2.1) (z.2.2.2.2.2.2.2.2.1) (z.2.2.2.2.2.2.2.2.2.1) (z.2.2.2.2.2.2.2.2.2.2.1) (z.2.2.2.2.2.2.2.2.2.2.2.1) (z.2.2.2.2.2.2.2.2.2.2.2.2.1) (z.2.2.2.2.2.2.2.2.2.2.2.2.2))
theorem bd14 {α0 α1 α2 α3 α4 α5 α6 α7 α8 α9 α10 α11 α12 α13 β : Type} {o : Option (α0 × α1 × α2 × α3 × α4 × α5 × α6 × α7 × α8 × α9 × α10 × α11 × α12 × α13)} {k : α0 → α1 → α2 → α3 → α4 → α5 → α6 → α7 → α8 → α9 → α10 → α11 → α12 → α13 → Option β} {x : β} (h : bi14 o k = some x) : ∃ a0 a1 a2 a3 a4 a5 a6 a7 a8 a9 a10 a11 a12 a13, o = some (a0, a1, a2, a3, a4, a5, a6, a7, a8, a9, a10, a11, a12, a13) ∧ k a0 a1 a2 a3 a4 a5 a6 a7 a8 a9 a10 a11 a12 a13 = some x := by
  obtain ⟨⟨a0, a1, a2, a3, a4, a5, a6, a7, a8, a9, a10, a11, a12, a13⟩, h1, h2⟩ := Option.bind_eq_some_iff.mp h
  exact ⟨a0, a1, a2, a3, a4, a5, a6, a7, a8, a9, a10, a11, a12, a13, h1, h2⟩
end
section
def lpN {σ ρ : Type} (st : σ → Option (σ ⊕ ρ)) : Nat → σ → Option ρ
  | 0, _ => none
  | k + 1, a => match st a with
    | none => none
    | some (.inl b) => lpN st k b
    | some (.inr r) => some r
def lpC {σ ρ : Type} (st : σ → Option (σ ⊕ ρ)) (k : Nat) : σ ⊕ ρ → Option ρ
  | .inl b => lpN st k b
  | .inr r => some r
theorem lpN_s {σ ρ : Type} (st : σ → Option (σ ⊕ ρ)) (k : Nat) (a : σ) : lpN st (k + 1) a = (st a).bind (lpC st k) := by
  show (match st a with | none => none | some (.inl b) => lpN st k b | some (.inr r) => some r) = _
  cases st a with
  | none => rfl
  | some z => cases z <;> rfl
theorem lp_inv {σ ρ : Type} {st : σ → Option (σ ⊕ ρ)} {k : Nat} {a : σ} {r : ρ} (h : lpN st (k + 1) a = some r) : ∃ z, st a = some z ∧ lpC st k z = some r := by
  rw [lpN_s] at h
  exact Option.bind_eq_some_iff.mp h
theorem lpC_r {σ ρ : Type} {st : σ → Option (σ ⊕ ρ)} {k : Nat} {a r : ρ} (h : lpC st k (.inr a) = some r) : a = r := Option.some.inj h
theorem rowin {x : Int32} {n : Nat} (hn : n < 2 ^ 31) (h0 : ¬ x < 0) (h1 : ¬ nI n ≤ x) : vp_in x n := by
  rcases pk_ix x hn with h | h | ⟨j, hj, rfl⟩
  · exact absurd h h0
  · exact absurd h h1
  · exact vp_in_nI hj hn
theorem cqnz {y : Int64} (h : ¬ lg_cmp y (0 : Int64) ≤ 0) : ¬ y = 0 := by
  intro q
  subst q
  exact h (by decide)
theorem tsw_7 {x : Int32} (h0 : ¬ x = 0) (h1 : ¬ x = 1) (h2 : ¬ x = 2) (h3 : ¬ x = 3) (h4 : ¬ x = 4) (h5 : ¬ x = 5) (h6 : ¬ x = 6) : x.toInt < 0 ∨ 6 < x.toInt := by
  have g0 := lv_neT h0 (a := 0) (by decide); have g1 := lv_neT h1 (a := 1) (by decide); have g2 := lv_neT h2 (a := 2) (by decide); have g3 := lv_neT h3 (a := 3) (by decide)
  have g4 := lv_neT h4 (a := 4) (by decide); have g5 := lv_neT h5 (a := 5) (by decide); have g6 := lv_neT h6 (a := 6) (by decide)
  omega
theorem tsw_8 {x : Int32} (h0 : ¬ x = 0) (h1 : ¬ x = 1) (h2 : ¬ x = 2) (h3 : ¬ x = 3) (h4 : ¬ x = 4) (h5 : ¬ x = 5) (h6 : ¬ x = 6) (h7 : ¬ x = 7) : x.toInt < 0 ∨ 7 < x.toInt := by
  have g7 := lv_neT h7 (a := 7) (by decide)
  have g := tsw_7 h0 h1 h2 h3 h4 h5 h6
  omega
theorem tsw_9 {x : Int32} (h0 : ¬ x = 0) (h1 : ¬ x = 1) (h2 : ¬ x = 2) (h3 : ¬ x = 3) (h4 : ¬ x = 4) (h5 : ¬ x = 5) (h6 : ¬ x = 6) (h7 : ¬ x = 7) (h8 : ¬ x = 8) : x.toInt < 0 ∨ 8 < x.toInt := by
  have g8 := lv_neT h8 (a := 8) (by decide)
  have g := tsw_8 h0 h1 h2 h3 h4 h5 h6 h7
  omega
end
section
theorem dX4_get_0 : decode cX4_get 0 = .ok (.iload_n 1, 1) := by decide +kernel
theorem dX4_get_1 : decode cX4_get 1 = .ok (.ifCond .lt 21, 3) := by decide +kernel
theorem dX4_get_4 : decode cX4_get 4 = .ok (.iload_n 1, 1) := by decide +kernel
theorem dX4_get_5 : decode cX4_get 5 = .ok (.aload_n 0, 1) := by decide +kernel
theorem dX4_get_6 : decode cX4_get 6 = .ok (.getfield 13, 3) := by decide +kernel
theorem dX4_get_9 : decode cX4_get 9 = .ok (.arraylength, 1) := by decide +kernel
theorem dX4_get_10 : decode cX4_get 10 = .ok (.if_icmp .ge 12, 3) := by decide +kernel
theorem dX4_get_13 : decode cX4_get 13 = .ok (.aload_n 0, 1) := by decide +kernel
theorem dX4_get_14 : decode cX4_get 14 = .ok (.getfield 13, 3) := by decide +kernel
theorem dX4_get_17 : decode cX4_get 17 = .ok (.iload_n 1, 1) := by decide +kernel
theorem dX4_get_18 : decode cX4_get 18 = .ok (.iaload, 1) := by decide +kernel
theorem dX4_get_19 : decode cX4_get 19 = .ok (.goto 4, 3) := by decide +kernel
theorem dX4_get_22 : decode cX4_get 22 = .ok (.iconst 0, 1) := by decide +kernel
theorem dX4_get_23 : decode cX4_get 23 = .ok (.ireturn, 1) := by decide +kernel
def f_X4_get (n : Nat) (f : (Nat → Int32)) (x1 : Int32) : Int32 := if x1 < 0 then ((0 : Int32)) else (if (nI n) ≤ x1 then ((0 : Int32)) else (f (x1).toNatClampNeg))
set_option maxHeartbeats 4000000 in
set_option maxRecDepth 100000 in
theorem c_X4_get (l : Launch) (D : va_G) (cI : ClassId) (q : Nat) (qa : Nat) (n : Nat) (f : (Nat → Int32)) (x1 : Int32) (hn : n < 2 ^ 31) (r : Int32) (hf : f_X4_get n f x1 = r) : Met l yX4_get (.code yX4_get cX4_get 2 (some .int) :: wsG) ({ frames := 0, cells := 0, slots := 0, locals := 0 }) (va_Pc [.ref q, .int x1] (gw D cI [(q, .inr (4, [.ref qa])), (qa, .inl (cI, n, .inl f))])) (vp_Si (fun x => x = r)) 0 0 (fun _ => False) := by
  refine k_ro (by decide) rfl (Nat.le_of_ble_eq_true rfl) rfl ?_
  intro p e s m below meth c ls S hret hloc hK hN hSF hP hl
  obtain ⟨hx, hb, hml, hown, hts⟩ := id S
  unfold f_X4_get at hf
  refine lv_iload_n hx hb dX4_get_0 rfl (lv_at hl 1 rfl) ?_
  refine lv_if_lt (tgt := 22) hx hb dX4_get_1 (by decide) (fun c_1 => ?_) (fun c_1 => ?_)
  · rw [if_pos c_1] at hf
    refine lv_iconst (v := 0) hx hb dX4_get_22 (by decide) ?_
    exact k_reti hx hb hret hloc hf dX4_get_23
  · rw [if_neg c_1] at hf
    refine lv_iload_n hx hb dX4_get_4 rfl (lv_at hl 1 rfl) ?_
    refine lv_aload_n hx hb dX4_get_5 rfl (lv_at hl 0 rfl) ?_
    refine va_get (D := D) (ci := 4) (v := .ref qa) (C := RX4) (T := TX4) (N := 1) hx hb hts inGX4 hown hK hP 0 rfl rfl 0 (by decide) (hts _ fl_X4_13) (fun _ h9 => h9) rfl dX4_get_6 ?_
    refine va_alen hx hb hK hP 1 0 rfl rfl (v := nI n) rfl dX4_get_9 ?_
    refine lv_icmp_ge (tgt := 22) hx hb dX4_get_10 (by decide) (fun c_2 => ?_) (fun c_2 => ?_)
    · rw [if_pos c_2] at hf
      refine lv_iconst (v := 0) hx hb dX4_get_22 (by decide) ?_
      exact k_reti hx hb hret hloc hf dX4_get_23
    · rw [if_neg c_2] at hf
      refine lv_aload_n hx hb dX4_get_13 rfl (lv_at hl 0 rfl) ?_
      refine va_get (D := D) (ci := 4) (v := .ref qa) (C := RX4) (T := TX4) (N := 1) hx hb hts inGX4 hown hK hP 0 rfl rfl 0 (by decide) (hts _ fl_X4_13) (fun _ h9 => h9) rfl dX4_get_14 ?_
      refine lv_iload_n hx hb dX4_get_17 rfl (lv_at hl 1 rfl) ?_
      refine va_iald hx hb hK hP 1 0 rfl rfl (rowin hn c_1 c_2) dX4_get_18 ?_
      refine lv_goto (tgt := 23) hx hb dX4_get_19 (by decide) ?_
      exact k_reti hx hb hret hloc hf dX4_get_23
theorem dX4_put_0 : decode cX4_put 0 = .ok (.iload_n 1, 1) := by decide +kernel
theorem dX4_put_1 : decode cX4_put 1 = .ok (.ifCond .lt 19, 3) := by decide +kernel
theorem dX4_put_4 : decode cX4_put 4 = .ok (.iload_n 1, 1) := by decide +kernel
theorem dX4_put_5 : decode cX4_put 5 = .ok (.aload_n 0, 1) := by decide +kernel
theorem dX4_put_6 : decode cX4_put 6 = .ok (.getfield 13, 3) := by decide +kernel
theorem dX4_put_9 : decode cX4_put 9 = .ok (.arraylength, 1) := by decide +kernel
theorem dX4_put_10 : decode cX4_put 10 = .ok (.if_icmp .ge 10, 3) := by decide +kernel
theorem dX4_put_13 : decode cX4_put 13 = .ok (.aload_n 0, 1) := by decide +kernel
theorem dX4_put_14 : decode cX4_put 14 = .ok (.getfield 13, 3) := by decide +kernel
theorem dX4_put_17 : decode cX4_put 17 = .ok (.iload_n 1, 1) := by decide +kernel
theorem dX4_put_18 : decode cX4_put 18 = .ok (.iload_n 2, 1) := by decide +kernel
theorem dX4_put_19 : decode cX4_put 19 = .ok (.iastore, 1) := by decide +kernel
theorem dX4_put_20 : decode cX4_put 20 = .ok (.return_, 1) := by decide +kernel
def f_X4_put (n : Nat) (f : (Nat → Int32)) (x1 : Int32) (x2 : Int32) : (Nat → Int32) := if x1 < 0 then (f) else (if (nI n) ≤ x1 then (f) else (upd f (x1).toNatClampNeg x2))
set_option maxHeartbeats 4000000 in
set_option maxRecDepth 100000 in
theorem c_X4_put (l : Launch) (D : va_G) (cI : ClassId) {sz : Nat} (q : Nat) (qa : Nat) (n : Nat) (f : (Nat → Int32)) (x1 : Int32) (x2 : Int32) (hn : n < 2 ^ 31) (o_f : (Nat → Int32)) (hf : f_X4_put n f x1 x2 = o_f) : Met l yX4_put (.code yX4_put cX4_put 3 none :: wsG) ({ frames := 0, cells := 0, slots := 0, locals := 0 }) (va_Pc [.ref q, .int x1, .int x2] (gv D cI sz [(q, .inr (4, [.ref qa])), (qa, .inl (cI, n, .inl f))])) (va_Qv (fun (_ : Unit) => True) (gz D (va_A [(q, .inr (4, [.ref qa])), (qa, .inl (cI, n, .inl f))] sz) [(q, .inr (4, [.ref qa])), (qa, .inl (cI, n, .inl o_f))]) (va_A [(q, .inr (4, [.ref qa])), (qa, .inl (cI, n, .inl f))] sz)) 0 0 (va_A [(q, .inr (4, [.ref qa])), (qa, .inl (cI, n, .inl f))] sz) := by
  refine k_rw (Qc := fun A => va_Qv (fun (_ : Unit) => True) (gz D A [(q, .inr (4, [.ref qa])), (qa, .inl (cI, n, .inl o_f))]) A) (by decide) rfl (Nat.le_of_ble_eq_true rfl) rfl ?_
  intro p e s m below meth c ls A S hret hloc hK hN hSF hP hD hS hA hl
  obtain ⟨hx, hb, hml, hown, hts⟩ := id S
  unfold f_X4_put at hf
  refine lv_iload_n hx hb dX4_put_0 rfl (lv_at hl 1 rfl) ?_
  refine lv_if_lt (tgt := 20) hx hb dX4_put_1 (by decide) (fun c_1 => ?_) (fun c_1 => ?_)
  · rw [if_pos c_1] at hf
    subst hf
    exact k_wretv hx hb hret hloc hP hD hS dX4_put_20
  · rw [if_neg c_1] at hf
    refine lv_iload_n hx hb dX4_put_4 rfl (lv_at hl 1 rfl) ?_
    refine lv_aload_n hx hb dX4_put_5 rfl (lv_at hl 0 rfl) ?_
    refine va_get (D := D) (ci := 4) (v := .ref qa) (C := RX4) (T := TX4) (N := 1) hx hb hts inGX4 hown hK hP 0 rfl rfl 0 (by decide) (hts _ fl_X4_13) (fun _ h9 => h9) rfl dX4_put_6 ?_
    refine va_alen hx hb hK hP 1 0 rfl rfl (v := nI n) rfl dX4_put_9 ?_
    refine lv_icmp_ge (tgt := 20) hx hb dX4_put_10 (by decide) (fun c_2 => ?_) (fun c_2 => ?_)
    · rw [if_pos c_2] at hf
      subst hf
      exact k_wretv hx hb hret hloc hP hD hS dX4_put_20
    · rw [if_neg c_2] at hf
      refine lv_aload_n hx hb dX4_put_13 rfl (lv_at hl 0 rfl) ?_
      refine va_get (D := D) (ci := 4) (v := .ref qa) (C := RX4) (T := TX4) (N := 1) hx hb hts inGX4 hown hK hP 0 rfl rfl 0 (by decide) (hts _ fl_X4_13) (fun _ h9 => h9) rfl dX4_put_14 ?_
      refine lv_iload_n hx hb dX4_put_17 rfl (lv_at hl 1 rfl) ?_
      refine lv_iload_n hx hb dX4_put_18 rfl (lv_at hl 2 rfl) ?_
      refine va_iast hx hb hK hP hD hS 1 0 rfl rfl (rowin hn c_1 c_2) dX4_put_19 (fun H locs hP hD hS => ?_)
      have hP : va_P D vwCl [(q, .inr (4, [.ref qa])), (qa, .inl (cI, n, .inl (upd f (x1).toNatClampNeg x2)))] H := hP
      have hD : va_D A [(q, .inr (4, [.ref qa])), (qa, .inl (cI, n, .inl (upd f (x1).toNatClampNeg x2)))] := hD
      subst hf
      exact k_wretv hx hb hret hloc hP hD hS dX4_put_20
theorem dX4_copyFrom_0 : decode cX4_copyFrom 0 = .ok (.iconst 0, 1) := by decide +kernel
theorem dX4_copyFrom_1 : decode cX4_copyFrom 1 = .ok (.istore_n 3, 1) := by decide +kernel
theorem dX4_copyFrom_2 : decode cX4_copyFrom 2 = .ok (.iload_n 3, 1) := by decide +kernel
theorem dX4_copyFrom_3 : decode cX4_copyFrom 3 = .ok (.iload_n 2, 1) := by decide +kernel
theorem dX4_copyFrom_4 : decode cX4_copyFrom 4 = .ok (.if_icmp .ge 19, 3) := by decide +kernel
theorem dX4_copyFrom_7 : decode cX4_copyFrom 7 = .ok (.aload_n 0, 1) := by decide +kernel
theorem dX4_copyFrom_8 : decode cX4_copyFrom 8 = .ok (.iload_n 3, 1) := by decide +kernel
theorem dX4_copyFrom_9 : decode cX4_copyFrom 9 = .ok (.aload_n 1, 1) := by decide +kernel
theorem dX4_copyFrom_10 : decode cX4_copyFrom 10 = .ok (.iload_n 3, 1) := by decide +kernel
theorem dX4_copyFrom_11 : decode cX4_copyFrom 11 = .ok (.invokevirtual 19, 3) := by decide +kernel
theorem dX4_copyFrom_14 : decode cX4_copyFrom 14 = .ok (.invokevirtual 23, 3) := by decide +kernel
theorem dX4_copyFrom_17 : decode cX4_copyFrom 17 = .ok (.iinc 3 1, 3) := by decide +kernel
theorem dX4_copyFrom_20 : decode cX4_copyFrom 20 = .ok (.goto (-18), 3) := by decide +kernel
theorem dX4_copyFrom_23 : decode cX4_copyFrom 23 = .ok (.return_, 1) := by decide +kernel
theorem ok_X4_get : okV yX4_get RX4 1 := by decide +kernel
theorem gs_X4_19 : GoodIn wsG (wsV RX4 19 RX4 yX4_get (.code yX4_get cX4_get 2 (some .int) :: wsG)) := good_V ml_X4_19 im_X4_get se_X4_get ini_X4 co_X4_get
theorem ok_X4_put : okV yX4_put RX4 2 := by decide +kernel
theorem gs_X4_23 : GoodIn wsG (wsV RX4 23 RX4 yX4_put (.code yX4_put cX4_put 3 none :: wsG)) := good_V ml_X4_23 im_X4_put se_X4_put ini_X4 co_X4_put
def st_X4_copyFrom_L2 (v2 : Int32) (f2 : (Nat → Int32)) (n : Nat) (n2 : Nat) (v3 : Int32) (f : (Nat → Int32)) : Option ((Int32 × (Nat → Int32)) ⊕ (Int32 × (Nat → Int32))) := if v2 ≤ v3 then (some (.inr (v3, f))) else (some (.inl (v3 + 1, (f_X4_put n f v3 (f_X4_get n2 f2 v3)))))
def f_X4_copyFrom_L2 (v2 : Int32) (f2 : (Nat → Int32)) (n : Nat) (n2 : Nat) (k : Nat) (v3 : Int32) (f : (Nat → Int32)) : Option (Int32 × (Nat → Int32)) := lpN (fun z => st_X4_copyFrom_L2 v2 f2 n n2 z.1 z.2) k (v3, f)
set_option maxHeartbeats 4000000 in
set_option maxRecDepth 100000 in
theorem L_X4_copyFrom_2 {p : Program} {l : Launch} {e : Env} {s : State} {m : MethodId} {args : Array Value} {below : List Frame} {meth : Method} {c : Code} {Q : State → Prop} {D : va_G} {cI : ClassId} {q : Nat} {g : Nat} {qa : Nat} {ga : Nat} {n : Nat} {n2 : Nat} {v2 : Int32} {f2 : (Nat → Int32)} {A : Nat → Prop} (S : CallFix p m c cX4_copyFrom 4 s args wsG RX4) (hK : va_K D vwCl [(cI, .int)] s) (hN : nw s) (hSF : sf A s s.heap) (hA : ∀ q, s.heap.size ≤ q → A q) (hn : n < 2 ^ 31) (hn2 : n2 < 2 ^ 31) : ∀ (k : Nat) (v3 : Int32) (f : (Nat → Int32)) (o_v3 : Int32) (o_f : (Nat → Int32)), f_X4_copyFrom_L2 v2 f2 n n2 k v3 f = some (o_v3, o_f) → ∀ (H : Heap) (locs : List Loc) (ls : Array Slot), va_P D vwCl [(q, .inr (4, [.ref qa])), (qa, .inl (cI, n, .inl f)), (g, .inr (4, [.ref ga])), (ga, .inl (cI, n2, .inl f2))] H → va_D A [(q, .inr (4, [.ref qa])), (qa, .inl (cI, n, .inl f)), (g, .inr (4, [.ref ga])), (ga, .inl (cI, n2, .inl f2))] → va_S A s.heap H locs → lv_has ls 4 [(0, .ref q), (1, .ref g), (2, .int v2), (3, .int v3)] → (∀ (H : Heap) (locs : List Loc) (ls : Array Slot), va_P D vwCl [(q, .inr (4, [.ref qa])), (qa, .inl (cI, n, .inl o_f)), (g, .inr (4, [.ref ga])), (ga, .inl (cI, n2, .inl f2))] H → va_D A [(q, .inr (4, [.ref qa])), (qa, .inl (cI, n, .inl o_f)), (g, .inr (4, [.ref ga])), (ga, .inl (cI, n2, .inl f2))] → va_S A s.heap H locs → lv_has ls 4 [(0, .ref q), (1, .ref g), (2, .int v2), (3, .int o_v3)] → W p l e (headSpec (.code yX4_copyFrom cX4_copyFrom 4 none :: wsG) { frames := 1, cells := 0, slots := 0, locals := 22 }).room s m args below meth c H locs 0 0 Q (F0 m 23 ls [])) → W p l e (headSpec (.code yX4_copyFrom cX4_copyFrom 4 none :: wsG) { frames := 1, cells := 0, slots := 0, locals := 22 }).room s m args below meth c H locs 0 0 Q (F0 m 2 ls []) := by
  obtain ⟨hx, hb, hml, hown, hts⟩ := id S
  intro k
  induction k with
  | zero =>
    intro v3 f o_v3 o_f hf
    cases hf
  | succ k ih =>
    intro v3 f o_v3 o_f hf H locs ls hP hD hS hl kk
    obtain ⟨z, hf, hz⟩ := lp_inv hf
    have hf : st_X4_copyFrom_L2 v2 f2 n n2 v3 f = some z := hf
    unfold st_X4_copyFrom_L2 at hf
    refine lv_iload_n hx hb dX4_copyFrom_2 rfl (lv_at hl 3 rfl) ?_
    refine lv_iload_n hx hb dX4_copyFrom_3 rfl (lv_at hl 2 rfl) ?_
    refine lv_icmp_ge (tgt := 23) hx hb dX4_copyFrom_4 (by decide) (fun c_1 => ?_) (fun c_1 => ?_)
    · rw [if_pos c_1] at hf
      cases hf
      cases lpC_r hz
      exact kk H locs ls hP hD hS (lv_sub hl [0, 1, 2, 3] rfl)
    · rw [if_neg c_1] at hf
      refine lv_aload_n hx hb dX4_copyFrom_7 rfl (lv_at hl 0 rfl) ?_
      refine lv_iload_n hx hb dX4_copyFrom_8 rfl (lv_at hl 3 rfl) ?_
      refine lv_aload_n hx hb dX4_copyFrom_9 rfl (lv_at hl 1 rfl) ?_
      refine lv_iload_n hx hb dX4_copyFrom_10 rfl (lv_at hl 3 rfl) ?_
      refine k_roVi (As := [.int v3]) (rest := [.int v3, .ref q]) S (c_X4_get l D cI (q := g) (qa := ga) (n := n2) (f := f2) (x1 := v3) (hn := hn2) (r := (f_X4_get n2 f2 v3)) (hf := rfl)) gs_X4_19 ok_X4_get ⟨rfl, rfl⟩ ⟨Nat.le_of_ble_eq_true rfl, Nat.le_of_ble_eq_true rfl⟩ hK hN (sfr hSF hS) (hP.sub [2, 3] rfl) rfl rfl rfl hl.1 rfl (Nat.le_of_ble_eq_true rfl) ⟨Nat.zero_le _, Nat.zero_le _⟩ dX4_copyFrom_11 ?_
      refine k_rwVv (As := [.int v3, .int (f_X4_get n2 f2 v3)]) (rest := []) (Wr := [(g, .inr (4, [.ref ga])), (ga, .inl (cI, n2, .inl f2))]) (W2 := [(q, .inr (4, [.ref qa])), (qa, .inl (cI, n, .inl (f_X4_put n f v3 (f_X4_get n2 f2 v3)))), (g, .inr (4, [.ref ga])), (ga, .inl (cI, n2, .inl f2))]) S (c_X4_put l D cI (q := q) (qa := qa) (n := n) (f := f) (x1 := v3) (x2 := (f_X4_get n2 f2 v3)) (hn := hn) (o_f := (f_X4_put n f v3 (f_X4_get n2 f2 v3))) (hf := rfl)) gs_X4_23 ok_X4_put ⟨rfl, rfl⟩ ⟨Nat.le_of_ble_eq_true rfl, Nat.le_of_ble_eq_true rfl⟩ hK hN hSF hP hD hS hA [0, 1] [2, 3] [2, 3, 0, 1] (by decide) rfl rfl (by decide) (by decide) rfl (by decide) rfl rfl rfl hl.1 rfl (Nat.le_of_ble_eq_true rfl) ⟨Nat.zero_le _, Nat.zero_le _⟩ dX4_copyFrom_14 (fun H locs hP hD hS => ?_)
      refine lv_iinc (v := v3 + 1) (lv' := [(3, .int (v3 + 1)), (0, .ref q), (1, .ref g), (2, .int v2)]) hx hb dX4_copyFrom_17 hl (k := 3) rfl rfl (by decide) rfl (fun ls hl => ?_)
      refine lv_goto (tgt := 2) hx hb dX4_copyFrom_20 (by decide) ?_
      cases hf
      exact ih (v3 + 1) (f_X4_put n f v3 (f_X4_get n2 f2 v3)) _ _ hz H locs ls hP hD hS (lv_sub hl [1, 2, 3, 0] rfl) kk
def f_X4_copyFrom (n : Nat) (n2 : Nat) (f : (Nat → Int32)) (f2 : (Nat → Int32)) (x2 : Int32) : Option ((Nat → Int32)) := bi2 (f_X4_copyFrom_L2 x2 f2 n n2 4096 0 f) (fun (v3_2 : Int32) (f_3 : (Nat → Int32)) => some f_3)
set_option maxHeartbeats 4000000 in
set_option maxRecDepth 100000 in
theorem c_X4_copyFrom (l : Launch) (D : va_G) (cI : ClassId) {sz : Nat} (q : Nat) (g : Nat) (qa : Nat) (ga : Nat) (n : Nat) (n2 : Nat) (f : (Nat → Int32)) (f2 : (Nat → Int32)) (x2 : Int32) (hn : n < 2 ^ 31) (hn2 : n2 < 2 ^ 31) (o_f : (Nat → Int32)) (hf : f_X4_copyFrom n n2 f f2 x2 = some o_f) : Met l yX4_copyFrom (.code yX4_copyFrom cX4_copyFrom 4 none :: wsG) ({ frames := 1, cells := 0, slots := 0, locals := 22 }) (va_Pc [.ref q, .ref g, .int x2] (gv D cI sz [(q, .inr (4, [.ref qa])), (qa, .inl (cI, n, .inl f)), (g, .inr (4, [.ref ga])), (ga, .inl (cI, n2, .inl f2))])) (va_Qv (fun (_ : Unit) => True) (gz D (va_A [(q, .inr (4, [.ref qa])), (qa, .inl (cI, n, .inl f)), (g, .inr (4, [.ref ga])), (ga, .inl (cI, n2, .inl f2))] sz) [(q, .inr (4, [.ref qa])), (qa, .inl (cI, n, .inl o_f)), (g, .inr (4, [.ref ga])), (ga, .inl (cI, n2, .inl f2))]) (va_A [(q, .inr (4, [.ref qa])), (qa, .inl (cI, n, .inl f)), (g, .inr (4, [.ref ga])), (ga, .inl (cI, n2, .inl f2))] sz)) 0 0 (va_A [(q, .inr (4, [.ref qa])), (qa, .inl (cI, n, .inl f)), (g, .inr (4, [.ref ga])), (ga, .inl (cI, n2, .inl f2))] sz) := by
  refine k_rw (Qc := fun A => va_Qv (fun (_ : Unit) => True) (gz D A [(q, .inr (4, [.ref qa])), (qa, .inl (cI, n, .inl o_f)), (g, .inr (4, [.ref ga])), (ga, .inl (cI, n2, .inl f2))]) A) (by decide) rfl (Nat.le_of_ble_eq_true rfl) rfl ?_
  intro p e s m below meth c ls A S hret hloc hK hN hSF hP hD hS hA hl
  obtain ⟨hx, hb, hml, hown, hts⟩ := id S
  unfold f_X4_copyFrom at hf
  refine lv_iconst (v := 0) hx hb dX4_copyFrom_0 (by decide) ?_
  refine lv_istore_n (lv' := [(3, .int 0), (0, .ref q), (1, .ref g), (2, .int x2)]) hx hb dX4_copyFrom_1 rfl hl (by decide) rfl (fun ls hl => ?_)
  obtain ⟨v3_2, f_3, hc_4, hf⟩ := bd2 hf
  refine L_X4_copyFrom_2 S hK hN hSF hA hn hn2 _ 0 f v3_2 f_3 hc_4 _ _ _ hP hD hS (lv_sub hl [1, 2, 3, 0] rfl) (fun H locs ls hP hD hS hl => ?_)
  cases hf
  exact k_wretv hx hb hret hloc hP hD hS dX4_copyFrom_23
theorem dX8_cutQuotient_0 : decode cX8_cutQuotient 0 = .ok (.lload_n 2, 1) := by decide +kernel
theorem dX8_cutQuotient_1 : decode cX8_cutQuotient 1 = .ok (.lconst 0, 1) := by decide +kernel
theorem dX8_cutQuotient_2 : decode cX8_cutQuotient 2 = .ok (.lcmp, 1) := by decide +kernel
theorem dX8_cutQuotient_3 : decode cX8_cutQuotient 3 = .ok (.ifCond .le 10, 3) := by decide +kernel
theorem dX8_cutQuotient_6 : decode cX8_cutQuotient 6 = .ok (.lload_n 0, 1) := by decide +kernel
theorem dX8_cutQuotient_7 : decode cX8_cutQuotient 7 = .ok (.lload_n 2, 1) := by decide +kernel
theorem dX8_cutQuotient_8 : decode cX8_cutQuotient 8 = .ok (.ldiv, 1) := by decide +kernel
theorem dX8_cutQuotient_9 : decode cX8_cutQuotient 9 = .ok (.l2i, 1) := by decide +kernel
theorem dX8_cutQuotient_10 : decode cX8_cutQuotient 10 = .ok (.goto 4, 3) := by decide +kernel
theorem dX8_cutQuotient_13 : decode cX8_cutQuotient 13 = .ok (.iconst 0, 1) := by decide +kernel
theorem dX8_cutQuotient_14 : decode cX8_cutQuotient 14 = .ok (.ireturn, 1) := by decide +kernel
def f_X8_cutQuotient (x1 : Int64) (x2 : Int64) : Int32 := if (lg_cmp x2 (0 : Int64)) ≤ 0 then ((0 : Int32)) else ((x1 / x2).toInt32)
set_option maxHeartbeats 4000000 in
set_option maxRecDepth 100000 in
theorem c_X8_cutQuotient (l : Launch) (D : va_G) (cI : ClassId) (x1 : Int64) (x2 : Int64) (r : Int32) (hf : f_X8_cutQuotient x1 x2 = r) : Met l yX8_cutQuotient (.code yX8_cutQuotient cX8_cutQuotient 4 (some .int) :: wsG) ({ frames := 0, cells := 0, slots := 0, locals := 0 }) (va_Pc [.long x1, .long x2] (gw D cI [])) (vp_Si (fun x => x = r)) 0 0 (fun _ => False) := by
  refine k_ro (by decide) rfl (Nat.le_of_ble_eq_true rfl) rfl ?_
  intro p e s m below meth c ls S hret hloc hK hN hSF hP hl
  obtain ⟨hx, hb, hml, hown, hts⟩ := id S
  unfold f_X8_cutQuotient at hf
  refine lv_lload_n hx hb dX8_cutQuotient_0 rfl (lv_at hl 1 rfl) ?_
  refine lv_lconst (v := 0) hx hb dX8_cutQuotient_1 (by decide) ?_
  refine W.lcmp hx hb dX8_cutQuotient_2 ?_
  refine lv_if_le (tgt := 13) hx hb dX8_cutQuotient_3 (by decide) (fun c_1 => ?_) (fun c_1 => ?_)
  · rw [if_pos c_1] at hf
    refine lv_iconst (v := 0) hx hb dX8_cutQuotient_13 (by decide) ?_
    exact k_reti hx hb hret hloc hf dX8_cutQuotient_14
  · rw [if_neg c_1] at hf
    refine lv_lload_n hx hb dX8_cutQuotient_6 rfl (lv_at hl 0 rfl) ?_
    refine lv_lload_n hx hb dX8_cutQuotient_7 rfl (lv_at hl 1 rfl) ?_
    refine lv_ldiv hx hb dX8_cutQuotient_8 (cqnz c_1) ?_
    refine lv_l2i hx hb dX8_cutQuotient_9 rfl ?_
    refine lv_goto (tgt := 14) hx hb dX8_cutQuotient_10 (by decide) ?_
    exact k_reti hx hb hret hloc hf dX8_cutQuotient_14
theorem dX8_isByte_0 : decode cX8_isByte 0 = .ok (.iload_n 0, 1) := by decide +kernel
theorem dX8_isByte_1 : decode cX8_isByte 1 = .ok (.ifCond .lt 14, 3) := by decide +kernel
theorem dX8_isByte_4 : decode cX8_isByte 4 = .ok (.iload_n 0, 1) := by decide +kernel
theorem dX8_isByte_5 : decode cX8_isByte 5 = .ok (.sipush 255, 3) := by decide +kernel
theorem dX8_isByte_8 : decode cX8_isByte 8 = .ok (.if_icmp .gt 7, 3) := by decide +kernel
theorem dX8_isByte_11 : decode cX8_isByte 11 = .ok (.iconst 1, 1) := by decide +kernel
theorem dX8_isByte_12 : decode cX8_isByte 12 = .ok (.goto 4, 3) := by decide +kernel
theorem dX8_isByte_15 : decode cX8_isByte 15 = .ok (.iconst 0, 1) := by decide +kernel
theorem dX8_isByte_16 : decode cX8_isByte 16 = .ok (.ireturn, 1) := by decide +kernel
def f_X8_isByte (x1 : Int32) : Int32 := if x1 < 0 then ((0 : Int32)) else (if 255 < x1 then ((0 : Int32)) else ((1 : Int32)))
set_option maxHeartbeats 4000000 in
set_option maxRecDepth 100000 in
theorem c_X8_isByte (l : Launch) (D : va_G) (cI : ClassId) (x1 : Int32) (r : Int32) (hf : f_X8_isByte x1 = r) : Met l yX8_isByte (.code yX8_isByte cX8_isByte 1 (some .boolean) :: wsG) ({ frames := 0, cells := 0, slots := 0, locals := 0 }) (va_Pc [.int x1] (gw D cI [])) (vp_Si (fun x => x = r)) 0 0 (fun _ => False) := by
  refine k_ro (by decide) rfl (Nat.le_of_ble_eq_true rfl) rfl ?_
  intro p e s m below meth c ls S hret hloc hK hN hSF hP hl
  obtain ⟨hx, hb, hml, hown, hts⟩ := id S
  unfold f_X8_isByte at hf
  refine lv_iload_n hx hb dX8_isByte_0 rfl (lv_at hl 0 rfl) ?_
  refine lv_if_lt (tgt := 15) hx hb dX8_isByte_1 (by decide) (fun c_1 => ?_) (fun c_1 => ?_)
  · rw [if_pos c_1] at hf
    refine lv_iconst (v := 0) hx hb dX8_isByte_15 (by decide) ?_
    exact k_retz hx hb hret hloc rfl hf dX8_isByte_16
  · rw [if_neg c_1] at hf
    refine lv_iload_n hx hb dX8_isByte_4 rfl (lv_at hl 0 rfl) ?_
    refine lv_sipush (v := 255) hx hb dX8_isByte_5 (by decide) ?_
    refine lv_icmp_gt (tgt := 15) hx hb dX8_isByte_8 (by decide) (fun c_2 => ?_) (fun c_2 => ?_)
    · rw [if_pos c_2] at hf
      refine lv_iconst (v := 0) hx hb dX8_isByte_15 (by decide) ?_
      exact k_retz hx hb hret hloc rfl hf dX8_isByte_16
    · rw [if_neg c_2] at hf
      refine lv_iconst (v := 1) hx hb dX8_isByte_11 (by decide) ?_
      refine lv_goto (tgt := 16) hx hb dX8_isByte_12 (by decide) ?_
      exact k_retz hx hb hret hloc rfl hf dX8_isByte_16
theorem dX8_bitFromHighest_0 : decode cX8_bitFromHighest 0 = .ok (.iload_n 0, 1) := by decide +kernel
theorem dX8_bitFromHighest_1 : decode cX8_bitFromHighest 1 = .ok (.iload_n 1, 1) := by decide +kernel
theorem dX8_bitFromHighest_2 : decode cX8_bitFromHighest 2 = .ok (.iconst 1, 1) := by decide +kernel
theorem dX8_bitFromHighest_3 : decode cX8_bitFromHighest 3 = .ok (.isub, 1) := by decide +kernel
theorem dX8_bitFromHighest_4 : decode cX8_bitFromHighest 4 = .ok (.iload_n 2, 1) := by decide +kernel
theorem dX8_bitFromHighest_5 : decode cX8_bitFromHighest 5 = .ok (.isub, 1) := by decide +kernel
theorem dX8_bitFromHighest_6 : decode cX8_bitFromHighest 6 = .ok (.ishr, 1) := by decide +kernel
theorem dX8_bitFromHighest_7 : decode cX8_bitFromHighest 7 = .ok (.iconst 1, 1) := by decide +kernel
theorem dX8_bitFromHighest_8 : decode cX8_bitFromHighest 8 = .ok (.iand, 1) := by decide +kernel
theorem dX8_bitFromHighest_9 : decode cX8_bitFromHighest 9 = .ok (.ireturn, 1) := by decide +kernel
def f_X8_bitFromHighest (x1 : Int32) (x2 : Int32) (x3 : Int32) : Int32 := (x1 >>> (((x2 - 1) - x3) &&& 31)) &&& 1
set_option maxHeartbeats 4000000 in
set_option maxRecDepth 100000 in
theorem c_X8_bitFromHighest (l : Launch) (D : va_G) (cI : ClassId) (x1 : Int32) (x2 : Int32) (x3 : Int32) (r : Int32) (hf : f_X8_bitFromHighest x1 x2 x3 = r) : Met l yX8_bitFromHighest (.code yX8_bitFromHighest cX8_bitFromHighest 3 (some .int) :: wsG) ({ frames := 0, cells := 0, slots := 0, locals := 0 }) (va_Pc [.int x1, .int x2, .int x3] (gw D cI [])) (vp_Si (fun x => x = r)) 0 0 (fun _ => False) := by
  refine k_ro (by decide) rfl (Nat.le_of_ble_eq_true rfl) rfl ?_
  intro p e s m below meth c ls S hret hloc hK hN hSF hP hl
  obtain ⟨hx, hb, hml, hown, hts⟩ := id S
  unfold f_X8_bitFromHighest at hf
  refine lv_iload_n hx hb dX8_bitFromHighest_0 rfl (lv_at hl 0 rfl) ?_
  refine lv_iload_n hx hb dX8_bitFromHighest_1 rfl (lv_at hl 1 rfl) ?_
  refine lv_iconst (v := 1) hx hb dX8_bitFromHighest_2 (by decide) ?_
  refine lv_isub hx hb dX8_bitFromHighest_3 ?_
  refine lv_iload_n hx hb dX8_bitFromHighest_4 rfl (lv_at hl 2 rfl) ?_
  refine lv_isub hx hb dX8_bitFromHighest_5 ?_
  refine lv_ishr hx hb dX8_bitFromHighest_6 ?_
  refine lv_iconst (v := 1) hx hb dX8_bitFromHighest_7 (by decide) ?_
  refine lv_iand hx hb dX8_bitFromHighest_8 ?_
  exact k_reti hx hb hret hloc hf dX8_bitFromHighest_9
theorem dX2_path_0 : decode cX2_path 0 = .ok (.iconst 2, 1) := by decide +kernel
theorem dX2_path_1 : decode cX2_path 1 = .ok (.iload_n 0, 1) := by decide +kernel
theorem dX2_path_2 : decode cX2_path 2 = .ok (.imul, 1) := by decide +kernel
theorem dX2_path_3 : decode cX2_path 3 = .ok (.iload_n 1, 1) := by decide +kernel
theorem dX2_path_4 : decode cX2_path 4 = .ok (.iadd, 1) := by decide +kernel
theorem dX2_path_5 : decode cX2_path 5 = .ok (.ireturn, 1) := by decide +kernel
def f_X2_path (x1 : Int32) (x2 : Int32) : Int32 := (2 * x1) + x2
set_option maxHeartbeats 4000000 in
set_option maxRecDepth 100000 in
theorem c_X2_path (l : Launch) (D : va_G) (cI : ClassId) (x1 : Int32) (x2 : Int32) (r : Int32) (hf : f_X2_path x1 x2 = r) : Met l yX2_path (.code yX2_path cX2_path 2 (some .int) :: wsG) ({ frames := 0, cells := 0, slots := 0, locals := 0 }) (va_Pc [.int x1, .int x2] (gw D cI [])) (vp_Si (fun x => x = r)) 0 0 (fun _ => False) := by
  refine k_ro (by decide) rfl (Nat.le_of_ble_eq_true rfl) rfl ?_
  intro p e s m below meth c ls S hret hloc hK hN hSF hP hl
  obtain ⟨hx, hb, hml, hown, hts⟩ := id S
  unfold f_X2_path at hf
  refine lv_iconst (v := 2) hx hb dX2_path_0 (by decide) ?_
  refine lv_iload_n hx hb dX2_path_1 rfl (lv_at hl 0 rfl) ?_
  refine lv_imul hx hb dX2_path_2 ?_
  refine lv_iload_n hx hb dX2_path_3 rfl (lv_at hl 1 rfl) ?_
  refine lv_iadd hx hb dX2_path_4 ?_
  exact k_reti hx hb hret hloc hf dX2_path_5
theorem dX2_statesAtFirst_0 : decode cX2_statesAtFirst 0 = .ok (.iload_n 0, 1) := by decide +kernel
theorem dX2_statesAtFirst_1 : decode cX2_statesAtFirst 1 = .ok (.iconst 1, 1) := by decide +kernel
theorem dX2_statesAtFirst_2 : decode cX2_statesAtFirst 2 = .ok (.if_icmp .ne 6, 3) := by decide +kernel
theorem dX2_statesAtFirst_5 : decode cX2_statesAtFirst 5 = .ok (.bipush 15, 2) := by decide +kernel
theorem dX2_statesAtFirst_7 : decode cX2_statesAtFirst 7 = .ok (.ireturn, 1) := by decide +kernel
theorem dX2_statesAtFirst_8 : decode cX2_statesAtFirst 8 = .ok (.iload_n 0, 1) := by decide +kernel
theorem dX2_statesAtFirst_9 : decode cX2_statesAtFirst 9 = .ok (.iconst 2, 1) := by decide +kernel
theorem dX2_statesAtFirst_10 : decode cX2_statesAtFirst 10 = .ok (.if_icmp .ne 8, 3) := by decide +kernel
theorem dX2_statesAtFirst_13 : decode cX2_statesAtFirst 13 = .ok (.bipush 32, 2) := by decide +kernel
theorem dX2_statesAtFirst_15 : decode cX2_statesAtFirst 15 = .ok (.goto 4, 3) := by decide +kernel
theorem dX2_statesAtFirst_18 : decode cX2_statesAtFirst 18 = .ok (.iconst 1, 1) := by decide +kernel
theorem dX2_statesAtFirst_19 : decode cX2_statesAtFirst 19 = .ok (.ireturn, 1) := by decide +kernel
def f_X2_statesAtFirst (x1 : Int32) : Int32 := if x1 = 1 then ((15 : Int32)) else (if x1 = 2 then ((32 : Int32)) else ((1 : Int32)))
set_option maxHeartbeats 4000000 in
set_option maxRecDepth 100000 in
theorem c_X2_statesAtFirst (l : Launch) (D : va_G) (cI : ClassId) (x1 : Int32) (r : Int32) (hf : f_X2_statesAtFirst x1 = r) : Met l yX2_statesAtFirst (.code yX2_statesAtFirst cX2_statesAtFirst 1 (some .int) :: wsG) ({ frames := 0, cells := 0, slots := 0, locals := 0 }) (va_Pc [.int x1] (gw D cI [])) (vp_Si (fun x => x = r)) 0 0 (fun _ => False) := by
  refine k_ro (by decide) rfl (Nat.le_of_ble_eq_true rfl) rfl ?_
  intro p e s m below meth c ls S hret hloc hK hN hSF hP hl
  obtain ⟨hx, hb, hml, hown, hts⟩ := id S
  unfold f_X2_statesAtFirst at hf
  refine lv_iload_n hx hb dX2_statesAtFirst_0 rfl (lv_at hl 0 rfl) ?_
  refine lv_iconst (v := 1) hx hb dX2_statesAtFirst_1 (by decide) ?_
  refine lv_icmp_ne (tgt := 8) hx hb dX2_statesAtFirst_2 (by decide) (fun c_1 => ?_) (fun c_1 => ?_)
  · rw [if_neg c_1] at hf
    refine lv_iload_n hx hb dX2_statesAtFirst_8 rfl (lv_at hl 0 rfl) ?_
    refine lv_iconst (v := 2) hx hb dX2_statesAtFirst_9 (by decide) ?_
    refine lv_icmp_ne (tgt := 18) hx hb dX2_statesAtFirst_10 (by decide) (fun c_2 => ?_) (fun c_2 => ?_)
    · rw [if_neg c_2] at hf
      refine lv_iconst (v := 1) hx hb dX2_statesAtFirst_18 (by decide) ?_
      exact k_reti hx hb hret hloc hf dX2_statesAtFirst_19
    · rw [if_pos c_2] at hf
      refine lv_bipush (v := 32) hx hb dX2_statesAtFirst_13 (by decide) ?_
      refine lv_goto (tgt := 19) hx hb dX2_statesAtFirst_15 (by decide) ?_
      exact k_reti hx hb hret hloc hf dX2_statesAtFirst_19
  · rw [if_pos c_1] at hf
    refine lv_bipush (v := 15) hx hb dX2_statesAtFirst_5 (by decide) ?_
    exact k_reti hx hb hret hloc hf dX2_statesAtFirst_7
theorem dX2_nextAtFirst_0 : decode cX2_nextAtFirst 0 = .ok (.iload_n 0, 1) := by decide +kernel
theorem dX2_nextAtFirst_1 : decode cX2_nextAtFirst 1 = .ok (.iconst 1, 1) := by decide +kernel
theorem dX2_nextAtFirst_2 : decode cX2_nextAtFirst 2 = .ok (.if_icmp .ne 23, 3) := by decide +kernel
theorem dX2_nextAtFirst_5 : decode cX2_nextAtFirst 5 = .ok (.iconst 2, 1) := by decide +kernel
theorem dX2_nextAtFirst_6 : decode cX2_nextAtFirst 6 = .ok (.iload_n 1, 1) := by decide +kernel
theorem dX2_nextAtFirst_7 : decode cX2_nextAtFirst 7 = .ok (.imul, 1) := by decide +kernel
theorem dX2_nextAtFirst_8 : decode cX2_nextAtFirst 8 = .ok (.iconst 1, 1) := by decide +kernel
theorem dX2_nextAtFirst_9 : decode cX2_nextAtFirst 9 = .ok (.iadd, 1) := by decide +kernel
theorem dX2_nextAtFirst_10 : decode cX2_nextAtFirst 10 = .ok (.iload_n 2, 1) := by decide +kernel
theorem dX2_nextAtFirst_11 : decode cX2_nextAtFirst 11 = .ok (.iadd, 1) := by decide +kernel
theorem dX2_nextAtFirst_12 : decode cX2_nextAtFirst 12 = .ok (.istore_n 3, 1) := by decide +kernel
theorem dX2_nextAtFirst_13 : decode cX2_nextAtFirst 13 = .ok (.iload_n 3, 1) := by decide +kernel
theorem dX2_nextAtFirst_14 : decode cX2_nextAtFirst 14 = .ok (.bipush 15, 2) := by decide +kernel
theorem dX2_nextAtFirst_16 : decode cX2_nextAtFirst 16 = .ok (.if_icmp .ge 7, 3) := by decide +kernel
theorem dX2_nextAtFirst_19 : decode cX2_nextAtFirst 19 = .ok (.iload_n 3, 1) := by decide +kernel
theorem dX2_nextAtFirst_20 : decode cX2_nextAtFirst 20 = .ok (.goto 4, 3) := by decide +kernel
theorem dX2_nextAtFirst_23 : decode cX2_nextAtFirst 23 = .ok (.iconst 0, 1) := by decide +kernel
theorem dX2_nextAtFirst_24 : decode cX2_nextAtFirst 24 = .ok (.ireturn, 1) := by decide +kernel
theorem dX2_nextAtFirst_25 : decode cX2_nextAtFirst 25 = .ok (.iload_n 0, 1) := by decide +kernel
theorem dX2_nextAtFirst_26 : decode cX2_nextAtFirst 26 = .ok (.iconst 2, 1) := by decide +kernel
theorem dX2_nextAtFirst_27 : decode cX2_nextAtFirst 27 = .ok (.if_icmp .ne 33, 3) := by decide +kernel
theorem dX2_nextAtFirst_30 : decode cX2_nextAtFirst 30 = .ok (.iload_n 1, 1) := by decide +kernel
theorem dX2_nextAtFirst_31 : decode cX2_nextAtFirst 31 = .ok (.bipush 8, 2) := by decide +kernel
theorem dX2_nextAtFirst_33 : decode cX2_nextAtFirst 33 = .ok (.idiv, 1) := by decide +kernel
theorem dX2_nextAtFirst_34 : decode cX2_nextAtFirst 34 = .ok (.iconst 1, 1) := by decide +kernel
theorem dX2_nextAtFirst_35 : decode cX2_nextAtFirst 35 = .ok (.iadd, 1) := by decide +kernel
theorem dX2_nextAtFirst_36 : decode cX2_nextAtFirst 36 = .ok (.iconst 4, 1) := by decide +kernel
theorem dX2_nextAtFirst_37 : decode cX2_nextAtFirst 37 = .ok (.irem, 1) := by decide +kernel
theorem dX2_nextAtFirst_38 : decode cX2_nextAtFirst 38 = .ok (.istore_n 3, 1) := by decide +kernel
theorem dX2_nextAtFirst_39 : decode cX2_nextAtFirst 39 = .ok (.iconst 2, 1) := by decide +kernel
theorem dX2_nextAtFirst_40 : decode cX2_nextAtFirst 40 = .ok (.iload_n 1, 1) := by decide +kernel
theorem dX2_nextAtFirst_41 : decode cX2_nextAtFirst 41 = .ok (.bipush 8, 2) := by decide +kernel
theorem dX2_nextAtFirst_43 : decode cX2_nextAtFirst 43 = .ok (.irem, 1) := by decide +kernel
theorem dX2_nextAtFirst_44 : decode cX2_nextAtFirst 44 = .ok (.imul, 1) := by decide +kernel
theorem dX2_nextAtFirst_45 : decode cX2_nextAtFirst 45 = .ok (.iload_n 2, 1) := by decide +kernel
theorem dX2_nextAtFirst_46 : decode cX2_nextAtFirst 46 = .ok (.iadd, 1) := by decide +kernel
theorem dX2_nextAtFirst_47 : decode cX2_nextAtFirst 47 = .ok (.bipush 8, 2) := by decide +kernel
theorem dX2_nextAtFirst_49 : decode cX2_nextAtFirst 49 = .ok (.irem, 1) := by decide +kernel
theorem dX2_nextAtFirst_50 : decode cX2_nextAtFirst 50 = .ok (.istore 4, 2) := by decide +kernel
theorem dX2_nextAtFirst_52 : decode cX2_nextAtFirst 52 = .ok (.bipush 8, 2) := by decide +kernel
theorem dX2_nextAtFirst_54 : decode cX2_nextAtFirst 54 = .ok (.iload_n 3, 1) := by decide +kernel
theorem dX2_nextAtFirst_55 : decode cX2_nextAtFirst 55 = .ok (.imul, 1) := by decide +kernel
theorem dX2_nextAtFirst_56 : decode cX2_nextAtFirst 56 = .ok (.iload 4, 2) := by decide +kernel
theorem dX2_nextAtFirst_58 : decode cX2_nextAtFirst 58 = .ok (.iadd, 1) := by decide +kernel
theorem dX2_nextAtFirst_59 : decode cX2_nextAtFirst 59 = .ok (.ireturn, 1) := by decide +kernel
theorem dX2_nextAtFirst_60 : decode cX2_nextAtFirst 60 = .ok (.iconst 0, 1) := by decide +kernel
theorem dX2_nextAtFirst_61 : decode cX2_nextAtFirst 61 = .ok (.ireturn, 1) := by decide +kernel
def f_X2_nextAtFirst (x1 : Int32) (x2 : Int32) (x3 : Int32) : Int32 := if x1 = 1 then (if 15 ≤ (((2 * x2) + 1) + x3) then ((0 : Int32)) else (((2 * x2) + 1) + x3)) else (if x1 = 2 then ((8 * (((x2 / 8) + 1) - ((x2 / 8) + 1) / 4 * 4)) + (((2 * (x2 - x2 / 8 * 8)) + x3) - ((2 * (x2 - x2 / 8 * 8)) + x3) / 8 * 8)) else ((0 : Int32)))
set_option maxHeartbeats 4000000 in
set_option maxRecDepth 100000 in
theorem c_X2_nextAtFirst (l : Launch) (D : va_G) (cI : ClassId) (x1 : Int32) (x2 : Int32) (x3 : Int32) (r : Int32) (hf : f_X2_nextAtFirst x1 x2 x3 = r) : Met l yX2_nextAtFirst (.code yX2_nextAtFirst cX2_nextAtFirst 5 (some .int) :: wsG) ({ frames := 0, cells := 0, slots := 0, locals := 0 }) (va_Pc [.int x1, .int x2, .int x3] (gw D cI [])) (vp_Si (fun x => x = r)) 0 0 (fun _ => False) := by
  refine k_ro (by decide) rfl (Nat.le_of_ble_eq_true rfl) rfl ?_
  intro p e s m below meth c ls S hret hloc hK hN hSF hP hl
  obtain ⟨hx, hb, hml, hown, hts⟩ := id S
  unfold f_X2_nextAtFirst at hf
  refine lv_iload_n hx hb dX2_nextAtFirst_0 rfl (lv_at hl 0 rfl) ?_
  refine lv_iconst (v := 1) hx hb dX2_nextAtFirst_1 (by decide) ?_
  refine lv_icmp_ne (tgt := 25) hx hb dX2_nextAtFirst_2 (by decide) (fun c_1 => ?_) (fun c_1 => ?_)
  · rw [if_neg c_1] at hf
    refine lv_iload_n hx hb dX2_nextAtFirst_25 rfl (lv_at hl 0 rfl) ?_
    refine lv_iconst (v := 2) hx hb dX2_nextAtFirst_26 (by decide) ?_
    refine lv_icmp_ne (tgt := 60) hx hb dX2_nextAtFirst_27 (by decide) (fun c_2 => ?_) (fun c_2 => ?_)
    · rw [if_neg c_2] at hf
      refine lv_iconst (v := 0) hx hb dX2_nextAtFirst_60 (by decide) ?_
      exact k_reti hx hb hret hloc hf dX2_nextAtFirst_61
    · rw [if_pos c_2] at hf
      refine lv_iload_n hx hb dX2_nextAtFirst_30 rfl (lv_at hl 1 rfl) ?_
      refine lv_bipush (v := 8) hx hb dX2_nextAtFirst_31 (by decide) ?_
      refine lv_idiv hx hb dX2_nextAtFirst_33 (by decide) ?_
      refine lv_iconst (v := 1) hx hb dX2_nextAtFirst_34 (by decide) ?_
      refine lv_iadd hx hb dX2_nextAtFirst_35 ?_
      refine lv_iconst (v := 4) hx hb dX2_nextAtFirst_36 (by decide) ?_
      refine lv_irem hx hb dX2_nextAtFirst_37 (by decide) ?_
      refine lv_istore_n (lv' := [(3, .int (((x2 / 8) + 1) - ((x2 / 8) + 1) / 4 * 4)), (0, .int x1), (1, .int x2), (2, .int x3)]) hx hb dX2_nextAtFirst_38 rfl hl (by decide) rfl (fun ls hl => ?_)
      refine lv_iconst (v := 2) hx hb dX2_nextAtFirst_39 (by decide) ?_
      refine lv_iload_n hx hb dX2_nextAtFirst_40 rfl (lv_at hl 2 rfl) ?_
      refine lv_bipush (v := 8) hx hb dX2_nextAtFirst_41 (by decide) ?_
      refine lv_irem hx hb dX2_nextAtFirst_43 (by decide) ?_
      refine lv_imul hx hb dX2_nextAtFirst_44 ?_
      refine lv_iload_n hx hb dX2_nextAtFirst_45 rfl (lv_at hl 3 rfl) ?_
      refine lv_iadd hx hb dX2_nextAtFirst_46 ?_
      refine lv_bipush (v := 8) hx hb dX2_nextAtFirst_47 (by decide) ?_
      refine lv_irem hx hb dX2_nextAtFirst_49 (by decide) ?_
      refine lv_istore (lv' := [(4, .int (((2 * (x2 - x2 / 8 * 8)) + x3) - ((2 * (x2 - x2 / 8 * 8)) + x3) / 8 * 8)), (3, .int (((x2 / 8) + 1) - ((x2 / 8) + 1) / 4 * 4)), (0, .int x1), (1, .int x2), (2, .int x3)]) hx hb dX2_nextAtFirst_50 hl (by decide) rfl (fun ls hl => ?_)
      refine lv_bipush (v := 8) hx hb dX2_nextAtFirst_52 (by decide) ?_
      refine lv_iload_n hx hb dX2_nextAtFirst_54 rfl (lv_at hl 1 rfl) ?_
      refine lv_imul hx hb dX2_nextAtFirst_55 ?_
      refine lv_iload hx hb dX2_nextAtFirst_56 (lv_at hl 0 rfl) ?_
      refine lv_iadd hx hb dX2_nextAtFirst_58 ?_
      exact k_reti hx hb hret hloc hf dX2_nextAtFirst_59
  · rw [if_pos c_1] at hf
    refine lv_iconst (v := 2) hx hb dX2_nextAtFirst_5 (by decide) ?_
    refine lv_iload_n hx hb dX2_nextAtFirst_6 rfl (lv_at hl 1 rfl) ?_
    refine lv_imul hx hb dX2_nextAtFirst_7 ?_
    refine lv_iconst (v := 1) hx hb dX2_nextAtFirst_8 (by decide) ?_
    refine lv_iadd hx hb dX2_nextAtFirst_9 ?_
    refine lv_iload_n hx hb dX2_nextAtFirst_10 rfl (lv_at hl 2 rfl) ?_
    refine lv_iadd hx hb dX2_nextAtFirst_11 ?_
    refine lv_istore_n (lv' := [(3, .int (((2 * x2) + 1) + x3)), (0, .int x1), (1, .int x2), (2, .int x3)]) hx hb dX2_nextAtFirst_12 rfl hl (by decide) rfl (fun ls hl => ?_)
    refine lv_iload_n hx hb dX2_nextAtFirst_13 rfl (lv_at hl 0 rfl) ?_
    refine lv_bipush (v := 15) hx hb dX2_nextAtFirst_14 (by decide) ?_
    refine lv_icmp_ge (tgt := 23) hx hb dX2_nextAtFirst_16 (by decide) (fun c_3 => ?_) (fun c_3 => ?_)
    · rw [if_pos c_3] at hf
      refine lv_iconst (v := 0) hx hb dX2_nextAtFirst_23 (by decide) ?_
      exact k_reti hx hb hret hloc hf dX2_nextAtFirst_24
    · rw [if_neg c_3] at hf
      refine lv_iload_n hx hb dX2_nextAtFirst_19 rfl (lv_at hl 0 rfl) ?_
      refine lv_goto (tgt := 24) hx hb dX2_nextAtFirst_20 (by decide) ?_
      exact k_reti hx hb hret hloc hf dX2_nextAtFirst_24
end
section
theorem dX0_length_0 : decode cX0_length 0 = .ok (.aload_n 0, 1) := by decide +kernel
theorem dX0_length_1 : decode cX0_length 1 = .ok (.getfield 7, 3) := by decide +kernel
theorem dX0_length_4 : decode cX0_length 4 = .ok (.ireturn, 1) := by decide +kernel
def f_X0_length (len : Int32) : Int32 := len
set_option maxHeartbeats 4000000 in
set_option maxRecDepth 100000 in
theorem c_X0_length (l : Launch) (D : va_G) (cI : ClassId) (q : Nat) (qr : Nat) (qa : Nat) (n : Nat) (room : Int32) (len : Int32) (bs : (Nat → Int32)) (hn : n < 2 ^ 31) (r : Int32) (hf : f_X0_length len = r) : Met l yX0_length (.code yX0_length cX0_length 1 (some .int) :: wsG) ({ frames := 0, cells := 0, slots := 0, locals := 0 }) (va_Pc [.ref q] (gw D cI [(q, .inr (0, [.ref qr, .int room, .int len])), (qr, .inr (4, [.ref qa])), (qa, .inl (cI, n, .inl bs))])) (vp_Si (fun x => x = r)) 0 0 (fun _ => False) := by
  refine k_ro (by decide) rfl (Nat.le_of_ble_eq_true rfl) rfl ?_
  intro p e s m below meth c ls S hret hloc hK hN hSF hP hl
  obtain ⟨hx, hb, hml, hown, hts⟩ := id S
  unfold f_X0_length at hf
  refine lv_aload_n hx hb dX0_length_0 rfl (lv_at hl 0 rfl) ?_
  refine va_get (D := D) (ci := 0) (v := .int len) (C := RX0) (T := TX0) (N := 3) hx hb hts inGX0 hown hK hP 0 rfl rfl 2 (by decide) (hts _ fl_X0_7) (fun _ h9 => h9) rfl dX0_length_1 ?_
  exact k_reti hx hb hret hloc hf dX0_length_4
theorem dX0_get_0 : decode cX0_get 0 = .ok (.iload_n 1, 1) := by decide +kernel
theorem dX0_get_1 : decode cX0_get 1 = .ok (.aload_n 0, 1) := by decide +kernel
theorem dX0_get_2 : decode cX0_get 2 = .ok (.getfield 7, 3) := by decide +kernel
theorem dX0_get_5 : decode cX0_get 5 = .ok (.if_icmp .ge 14, 3) := by decide +kernel
theorem dX0_get_8 : decode cX0_get 8 = .ok (.aload_n 0, 1) := by decide +kernel
theorem dX0_get_9 : decode cX0_get 9 = .ok (.getfield 21, 3) := by decide +kernel
theorem dX0_get_12 : decode cX0_get 12 = .ok (.iload_n 1, 1) := by decide +kernel
theorem dX0_get_13 : decode cX0_get 13 = .ok (.invokevirtual 25, 3) := by decide +kernel
theorem dX0_get_16 : decode cX0_get 16 = .ok (.goto 4, 3) := by decide +kernel
theorem dX0_get_19 : decode cX0_get 19 = .ok (.iconst 0, 1) := by decide +kernel
theorem dX0_get_20 : decode cX0_get 20 = .ok (.ireturn, 1) := by decide +kernel
theorem gs_X0_25 : GoodIn wsG (wsV RX0 25 RX4 yX4_get (.code yX4_get cX4_get 2 (some .int) :: wsG)) := good_V ml_X0_25 im_X4_get se_X4_get ini_X4 co_X4_get
def f_X0_get (n : Nat) (len : Int32) (bs : (Nat → Int32)) (x1 : Int32) : Int32 := if len ≤ x1 then ((0 : Int32)) else ((f_X4_get n bs x1))
set_option maxHeartbeats 4000000 in
set_option maxRecDepth 100000 in
theorem c_X0_get (l : Launch) (D : va_G) (cI : ClassId) (q : Nat) (qr : Nat) (qa : Nat) (n : Nat) (room : Int32) (len : Int32) (bs : (Nat → Int32)) (x1 : Int32) (hn : n < 2 ^ 31) (r : Int32) (hf : f_X0_get n len bs x1 = r) : Met l yX0_get (.code yX0_get cX0_get 2 (some .int) :: wsG) ({ frames := 1, cells := 0, slots := 0, locals := 21 }) (va_Pc [.ref q, .int x1] (gw D cI [(q, .inr (0, [.ref qr, .int room, .int len])), (qr, .inr (4, [.ref qa])), (qa, .inl (cI, n, .inl bs))])) (vp_Si (fun x => x = r)) 0 0 (fun _ => False) := by
  refine k_ro (by decide) rfl (Nat.le_of_ble_eq_true rfl) rfl ?_
  intro p e s m below meth c ls S hret hloc hK hN hSF hP hl
  obtain ⟨hx, hb, hml, hown, hts⟩ := id S
  unfold f_X0_get at hf
  refine lv_iload_n hx hb dX0_get_0 rfl (lv_at hl 1 rfl) ?_
  refine lv_aload_n hx hb dX0_get_1 rfl (lv_at hl 0 rfl) ?_
  refine va_get (D := D) (ci := 0) (v := .int len) (C := RX0) (T := TX0) (N := 3) hx hb hts inGX0 hown hK hP 0 rfl rfl 2 (by decide) (hts _ fl_X0_7) (fun _ h9 => h9) rfl dX0_get_2 ?_
  refine lv_icmp_ge (tgt := 19) hx hb dX0_get_5 (by decide) (fun c_1 => ?_) (fun c_1 => ?_)
  · rw [if_pos c_1] at hf
    refine lv_iconst (v := 0) hx hb dX0_get_19 (by decide) ?_
    exact k_reti hx hb hret hloc hf dX0_get_20
  · rw [if_neg c_1] at hf
    refine lv_aload_n hx hb dX0_get_8 rfl (lv_at hl 0 rfl) ?_
    refine va_get (D := D) (ci := 0) (v := .ref qr) (C := RX0) (T := TX0) (N := 3) hx hb hts inGX0 hown hK hP 0 rfl rfl 0 (by decide) (hts _ fl_X0_21) (fun _ h9 => h9) rfl dX0_get_9 ?_
    refine lv_iload_n hx hb dX0_get_12 rfl (lv_at hl 1 rfl) ?_
    refine k_roVi (As := [.int x1]) (rest := []) S (c_X4_get l D cI (q := qr) (qa := qa) (n := n) (f := bs) (x1 := x1) (hn := hn) (r := (f_X4_get n bs x1)) (hf := rfl)) gs_X0_25 ok_X4_get ⟨rfl, rfl⟩ ⟨Nat.le_of_ble_eq_true rfl, Nat.le_of_ble_eq_true rfl⟩ hK hN hSF (hP.sub [1, 2] rfl) rfl rfl rfl hl.1 rfl (Nat.le_of_ble_eq_true rfl) ⟨Nat.zero_le _, Nat.zero_le _⟩ dX0_get_13 ?_
    refine lv_goto (tgt := 20) hx hb dX0_get_16 (by decide) ?_
    exact k_reti hx hb hret hloc hf dX0_get_20
theorem dX0_put_0 : decode cX0_put 0 = .ok (.aload_n 0, 1) := by decide +kernel
theorem dX0_put_1 : decode cX0_put 1 = .ok (.getfield 21, 3) := by decide +kernel
theorem dX0_put_4 : decode cX0_put 4 = .ok (.iload_n 1, 1) := by decide +kernel
theorem dX0_put_5 : decode cX0_put 5 = .ok (.iload_n 2, 1) := by decide +kernel
theorem dX0_put_6 : decode cX0_put 6 = .ok (.invokevirtual 29, 3) := by decide +kernel
theorem dX0_put_9 : decode cX0_put 9 = .ok (.return_, 1) := by decide +kernel
theorem gs_X0_29 : GoodIn wsG (wsV RX0 29 RX4 yX4_put (.code yX4_put cX4_put 3 none :: wsG)) := good_V ml_X0_29 im_X4_put se_X4_put ini_X4 co_X4_put
def f_X0_put (n : Nat) (bs : (Nat → Int32)) (x1 : Int32) (x2 : Int32) : (Nat → Int32) := (f_X4_put n bs x1 x2)
set_option maxHeartbeats 4000000 in
set_option maxRecDepth 100000 in
theorem c_X0_put (l : Launch) (D : va_G) (cI : ClassId) {sz : Nat} (q : Nat) (qr : Nat) (qa : Nat) (n : Nat) (room : Int32) (len : Int32) (bs : (Nat → Int32)) (x1 : Int32) (x2 : Int32) (hn : n < 2 ^ 31) (o_bs : (Nat → Int32)) (hf : f_X0_put n bs x1 x2 = o_bs) : Met l yX0_put (.code yX0_put cX0_put 3 none :: wsG) ({ frames := 1, cells := 0, slots := 0, locals := 22 }) (va_Pc [.ref q, .int x1, .int x2] (gv D cI sz [(q, .inr (0, [.ref qr, .int room, .int len])), (qr, .inr (4, [.ref qa])), (qa, .inl (cI, n, .inl bs))])) (va_Qv (fun (_ : Unit) => True) (gz D (va_A [(q, .inr (0, [.ref qr, .int room, .int len])), (qr, .inr (4, [.ref qa])), (qa, .inl (cI, n, .inl bs))] sz) [(q, .inr (0, [.ref qr, .int room, .int len])), (qr, .inr (4, [.ref qa])), (qa, .inl (cI, n, .inl o_bs))]) (va_A [(q, .inr (0, [.ref qr, .int room, .int len])), (qr, .inr (4, [.ref qa])), (qa, .inl (cI, n, .inl bs))] sz)) 0 0 (va_A [(q, .inr (0, [.ref qr, .int room, .int len])), (qr, .inr (4, [.ref qa])), (qa, .inl (cI, n, .inl bs))] sz) := by
  refine k_rw (Qc := fun A => va_Qv (fun (_ : Unit) => True) (gz D A [(q, .inr (0, [.ref qr, .int room, .int len])), (qr, .inr (4, [.ref qa])), (qa, .inl (cI, n, .inl o_bs))]) A) (by decide) rfl (Nat.le_of_ble_eq_true rfl) rfl ?_
  intro p e s m below meth c ls A S hret hloc hK hN hSF hP hD hS hA hl
  obtain ⟨hx, hb, hml, hown, hts⟩ := id S
  unfold f_X0_put at hf
  refine lv_aload_n hx hb dX0_put_0 rfl (lv_at hl 0 rfl) ?_
  refine va_get (D := D) (ci := 0) (v := .ref qr) (C := RX0) (T := TX0) (N := 3) hx hb hts inGX0 hown hK hP 0 rfl rfl 0 (by decide) (hts _ fl_X0_21) (fun _ h9 => h9) rfl dX0_put_1 ?_
  refine lv_iload_n hx hb dX0_put_4 rfl (lv_at hl 1 rfl) ?_
  refine lv_iload_n hx hb dX0_put_5 rfl (lv_at hl 2 rfl) ?_
  refine k_rwVv (As := [.int x1, .int x2]) (rest := []) (Wr := [(q, .inr (0, [.ref qr, .int room, .int len]))]) (W2 := [(q, .inr (0, [.ref qr, .int room, .int len])), (qr, .inr (4, [.ref qa])), (qa, .inl (cI, n, .inl (f_X4_put n bs x1 x2)))]) S (c_X4_put l D cI (q := qr) (qa := qa) (n := n) (f := bs) (x1 := x1) (x2 := x2) (hn := hn) (o_f := (f_X4_put n bs x1 x2)) (hf := rfl)) gs_X0_29 ok_X4_put ⟨rfl, rfl⟩ ⟨Nat.le_of_ble_eq_true rfl, Nat.le_of_ble_eq_true rfl⟩ hK hN hSF hP hD hS hA [1, 2] [0] [0, 1, 2] (by decide) rfl rfl (by decide) (by decide) rfl (by decide) rfl rfl rfl hl.1 rfl (Nat.le_of_ble_eq_true rfl) ⟨Nat.zero_le _, Nat.zero_le _⟩ dX0_put_6 (fun H locs hP hD hS => ?_)
  subst hf
  exact k_wretv hx hb hret hloc hP hD hS dX0_put_9
theorem dX0_add_0 : decode cX0_add 0 = .ok (.aload_n 0, 1) := by decide +kernel
theorem dX0_add_1 : decode cX0_add 1 = .ok (.getfield 7, 3) := by decide +kernel
theorem dX0_add_4 : decode cX0_add 4 = .ok (.aload_n 0, 1) := by decide +kernel
theorem dX0_add_5 : decode cX0_add 5 = .ok (.getfield 13, 3) := by decide +kernel
theorem dX0_add_8 : decode cX0_add 8 = .ok (.if_icmp .ge 25, 3) := by decide +kernel
theorem dX0_add_11 : decode cX0_add 11 = .ok (.aload_n 0, 1) := by decide +kernel
theorem dX0_add_12 : decode cX0_add 12 = .ok (.getfield 21, 3) := by decide +kernel
theorem dX0_add_15 : decode cX0_add 15 = .ok (.aload_n 0, 1) := by decide +kernel
theorem dX0_add_16 : decode cX0_add 16 = .ok (.getfield 7, 3) := by decide +kernel
theorem dX0_add_19 : decode cX0_add 19 = .ok (.iload_n 1, 1) := by decide +kernel
theorem dX0_add_20 : decode cX0_add 20 = .ok (.invokevirtual 29, 3) := by decide +kernel
theorem dX0_add_23 : decode cX0_add 23 = .ok (.aload_n 0, 1) := by decide +kernel
theorem dX0_add_24 : decode cX0_add 24 = .ok (.dup, 1) := by decide +kernel
theorem dX0_add_25 : decode cX0_add 25 = .ok (.getfield 7, 3) := by decide +kernel
theorem dX0_add_28 : decode cX0_add 28 = .ok (.iconst 1, 1) := by decide +kernel
theorem dX0_add_29 : decode cX0_add 29 = .ok (.iadd, 1) := by decide +kernel
theorem dX0_add_30 : decode cX0_add 30 = .ok (.putfield 7, 3) := by decide +kernel
theorem dX0_add_33 : decode cX0_add 33 = .ok (.return_, 1) := by decide +kernel
def f_X0_add (n : Nat) (room : Int32) (len : Int32) (bs : (Nat → Int32)) (x1 : Int32) : Option (Int32 × (Nat → Int32)) := if room ≤ len then (some (len, bs)) else (some (len + 1, (f_X4_put n bs len x1)))
set_option maxHeartbeats 4000000 in
set_option maxRecDepth 100000 in
theorem c_X0_add (l : Launch) (D : va_G) (cI : ClassId) {sz : Nat} (q : Nat) (qr : Nat) (qa : Nat) (n : Nat) (room : Int32) (len : Int32) (bs : (Nat → Int32)) (x1 : Int32) (hn : n < 2 ^ 31) (o_len : Int32) (o_bs : (Nat → Int32)) (hf : f_X0_add n room len bs x1 = some (o_len, o_bs)) : Met l yX0_add (.code yX0_add cX0_add 2 none :: wsG) ({ frames := 1, cells := 0, slots := 0, locals := 22 }) (va_Pc [.ref q, .int x1] (gv D cI sz [(q, .inr (0, [.ref qr, .int room, .int len])), (qr, .inr (4, [.ref qa])), (qa, .inl (cI, n, .inl bs))])) (va_Qv (fun (_ : Unit) => True) (gz D (va_A [(q, .inr (0, [.ref qr, .int room, .int len])), (qr, .inr (4, [.ref qa])), (qa, .inl (cI, n, .inl bs))] sz) [(q, .inr (0, [.ref qr, .int room, .int o_len])), (qr, .inr (4, [.ref qa])), (qa, .inl (cI, n, .inl o_bs))]) (va_A [(q, .inr (0, [.ref qr, .int room, .int len])), (qr, .inr (4, [.ref qa])), (qa, .inl (cI, n, .inl bs))] sz)) 0 0 (va_A [(q, .inr (0, [.ref qr, .int room, .int len])), (qr, .inr (4, [.ref qa])), (qa, .inl (cI, n, .inl bs))] sz) := by
  refine k_rw (Qc := fun A => va_Qv (fun (_ : Unit) => True) (gz D A [(q, .inr (0, [.ref qr, .int room, .int o_len])), (qr, .inr (4, [.ref qa])), (qa, .inl (cI, n, .inl o_bs))]) A) (by decide) rfl (Nat.le_of_ble_eq_true rfl) rfl ?_
  intro p e s m below meth c ls A S hret hloc hK hN hSF hP hD hS hA hl
  obtain ⟨hx, hb, hml, hown, hts⟩ := id S
  unfold f_X0_add at hf
  refine lv_aload_n hx hb dX0_add_0 rfl (lv_at hl 0 rfl) ?_
  refine va_get (D := D) (ci := 0) (v := .int len) (C := RX0) (T := TX0) (N := 3) hx hb hts inGX0 hown hK hP 0 rfl rfl 2 (by decide) (hts _ fl_X0_7) (fun _ h9 => h9) rfl dX0_add_1 ?_
  refine lv_aload_n hx hb dX0_add_4 rfl (lv_at hl 0 rfl) ?_
  refine va_get (D := D) (ci := 0) (v := .int room) (C := RX0) (T := TX0) (N := 3) hx hb hts inGX0 hown hK hP 0 rfl rfl 1 (by decide) (hts _ fl_X0_13) (fun _ h9 => h9) rfl dX0_add_5 ?_
  refine lv_icmp_ge (tgt := 33) hx hb dX0_add_8 (by decide) (fun c_1 => ?_) (fun c_1 => ?_)
  · rw [if_pos c_1] at hf
    cases hf
    exact k_wretv hx hb hret hloc hP hD hS dX0_add_33
  · rw [if_neg c_1] at hf
    refine lv_aload_n hx hb dX0_add_11 rfl (lv_at hl 0 rfl) ?_
    refine va_get (D := D) (ci := 0) (v := .ref qr) (C := RX0) (T := TX0) (N := 3) hx hb hts inGX0 hown hK hP 0 rfl rfl 0 (by decide) (hts _ fl_X0_21) (fun _ h9 => h9) rfl dX0_add_12 ?_
    refine lv_aload_n hx hb dX0_add_15 rfl (lv_at hl 0 rfl) ?_
    refine va_get (D := D) (ci := 0) (v := .int len) (C := RX0) (T := TX0) (N := 3) hx hb hts inGX0 hown hK hP 0 rfl rfl 2 (by decide) (hts _ fl_X0_7) (fun _ h9 => h9) rfl dX0_add_16 ?_
    refine lv_iload_n hx hb dX0_add_19 rfl (lv_at hl 1 rfl) ?_
    refine k_rwVv (As := [.int len, .int x1]) (rest := []) (Wr := [(q, .inr (0, [.ref qr, .int room, .int len]))]) (W2 := [(q, .inr (0, [.ref qr, .int room, .int len])), (qr, .inr (4, [.ref qa])), (qa, .inl (cI, n, .inl (f_X4_put n bs len x1)))]) S (c_X4_put l D cI (q := qr) (qa := qa) (n := n) (f := bs) (x1 := len) (x2 := x1) (hn := hn) (o_f := (f_X4_put n bs len x1)) (hf := rfl)) gs_X0_29 ok_X4_put ⟨rfl, rfl⟩ ⟨Nat.le_of_ble_eq_true rfl, Nat.le_of_ble_eq_true rfl⟩ hK hN hSF hP hD hS hA [1, 2] [0] [0, 1, 2] (by decide) rfl rfl (by decide) (by decide) rfl (by decide) rfl rfl rfl hl.1 rfl (Nat.le_of_ble_eq_true rfl) ⟨Nat.zero_le _, Nat.zero_le _⟩ dX0_add_20 (fun H locs hP hD hS => ?_)
    refine lv_aload_n hx hb dX0_add_23 rfl (lv_at hl 0 rfl) ?_
    refine lv_dup hx hb dX0_add_24 rfl ?_
    refine va_get (D := D) (ci := 0) (v := .int len) (C := RX0) (T := TX0) (N := 3) hx hb hts inGX0 hown hK hP 0 rfl rfl 2 (by decide) (hts _ fl_X0_7) (fun _ h9 => h9) rfl dX0_add_25 ?_
    refine lv_iconst (v := 1) hx hb dX0_add_28 (by decide) ?_
    refine lv_iadd hx hb dX0_add_29 ?_
    refine va_put (D := D) (ci := 0) (v := .int (len + 1)) (ty := .int) (C := RX0) (T := TX0) (N := 3) hx hb hts inGX0 tyX0 tyX0_ok nmX0 hown hK hP hD hS 0 rfl rfl 2 (by decide) (hts _ fl_X0_7) (fun _ h9 => h9) rfl (by decide +kernel) rfl rfl (Nat.le_of_ble_eq_true rfl) dX0_add_30 (fun H locs hP hD hS => ?_)
    have hP : va_P D vwCl [(q, .inr (0, [.ref qr, .int room, .int (len + 1)])), (qr, .inr (4, [.ref qa])), (qa, .inl (cI, n, .inl (f_X4_put n bs len x1)))] H := hP
    have hD : va_D A [(q, .inr (0, [.ref qr, .int room, .int (len + 1)])), (qr, .inr (4, [.ref qa])), (qa, .inl (cI, n, .inl (f_X4_put n bs len x1)))] := hD
    cases hf
    exact k_wretv hx hb hret hloc hP hD hS dX0_add_33
theorem dX0_clear_0 : decode cX0_clear 0 = .ok (.aload_n 0, 1) := by decide +kernel
theorem dX0_clear_1 : decode cX0_clear 1 = .ok (.iconst 0, 1) := by decide +kernel
theorem dX0_clear_2 : decode cX0_clear 2 = .ok (.putfield 7, 3) := by decide +kernel
theorem dX0_clear_5 : decode cX0_clear 5 = .ok (.return_, 1) := by decide +kernel
def f_X0_clear  : Int32 := 0
set_option maxHeartbeats 4000000 in
set_option maxRecDepth 100000 in
theorem c_X0_clear (l : Launch) (D : va_G) (cI : ClassId) {sz : Nat} (q : Nat) (qr : Nat) (qa : Nat) (n : Nat) (room : Int32) (len : Int32) (bs : (Nat → Int32)) (hn : n < 2 ^ 31) (o_len : Int32) (hf : f_X0_clear = o_len) : Met l yX0_clear (.code yX0_clear cX0_clear 1 none :: wsG) ({ frames := 0, cells := 0, slots := 0, locals := 0 }) (va_Pc [.ref q] (gv D cI sz [(q, .inr (0, [.ref qr, .int room, .int len])), (qr, .inr (4, [.ref qa])), (qa, .inl (cI, n, .inl bs))])) (va_Qv (fun (_ : Unit) => True) (gz D (va_A [(q, .inr (0, [.ref qr, .int room, .int len])), (qr, .inr (4, [.ref qa])), (qa, .inl (cI, n, .inl bs))] sz) [(q, .inr (0, [.ref qr, .int room, .int o_len])), (qr, .inr (4, [.ref qa])), (qa, .inl (cI, n, .inl bs))]) (va_A [(q, .inr (0, [.ref qr, .int room, .int len])), (qr, .inr (4, [.ref qa])), (qa, .inl (cI, n, .inl bs))] sz)) 0 0 (va_A [(q, .inr (0, [.ref qr, .int room, .int len])), (qr, .inr (4, [.ref qa])), (qa, .inl (cI, n, .inl bs))] sz) := by
  refine k_rw (Qc := fun A => va_Qv (fun (_ : Unit) => True) (gz D A [(q, .inr (0, [.ref qr, .int room, .int o_len])), (qr, .inr (4, [.ref qa])), (qa, .inl (cI, n, .inl bs))]) A) (by decide) rfl (Nat.le_of_ble_eq_true rfl) rfl ?_
  intro p e s m below meth c ls A S hret hloc hK hN hSF hP hD hS hA hl
  obtain ⟨hx, hb, hml, hown, hts⟩ := id S
  unfold f_X0_clear at hf
  refine lv_aload_n hx hb dX0_clear_0 rfl (lv_at hl 0 rfl) ?_
  refine lv_iconst (v := 0) hx hb dX0_clear_1 (by decide) ?_
  refine va_put (D := D) (ci := 0) (v := .int 0) (ty := .int) (C := RX0) (T := TX0) (N := 3) hx hb hts inGX0 tyX0 tyX0_ok nmX0 hown hK hP hD hS 0 rfl rfl 2 (by decide) (hts _ fl_X0_7) (fun _ h9 => h9) rfl (by decide +kernel) rfl rfl (Nat.le_of_ble_eq_true rfl) dX0_clear_2 (fun H locs hP hD hS => ?_)
  have hP : va_P D vwCl [(q, .inr (0, [.ref qr, .int room, .int 0])), (qr, .inr (4, [.ref qa])), (qa, .inl (cI, n, .inl bs))] H := hP
  have hD : va_D A [(q, .inr (0, [.ref qr, .int room, .int 0])), (qr, .inr (4, [.ref qa])), (qa, .inl (cI, n, .inl bs))] := hD
  subst hf
  exact k_wretv hx hb hret hloc hP hD hS dX0_clear_5
theorem dX5_allows_0 : decode cX5_allows 0 = .ok (.iload_n 0, 1) := by decide +kernel
theorem dX5_allows_1 : decode cX5_allows 1 = .ok (.ifCond .lt 41, 3) := by decide +kernel
theorem dX5_allows_4 : decode cX5_allows 4 = .ok (.iload_n 0, 1) := by decide +kernel
theorem dX5_allows_5 : decode cX5_allows 5 = .ok (.getstatic 28, 3) := by decide +kernel
theorem dX5_allows_8 : decode cX5_allows 8 = .ok (.arraylength, 1) := by decide +kernel
theorem dX5_allows_9 : decode cX5_allows 9 = .ok (.if_icmp .ge 33, 3) := by decide +kernel
theorem dX5_allows_12 : decode cX5_allows 12 = .ok (.iload_n 0, 1) := by decide +kernel
theorem dX5_allows_13 : decode cX5_allows 13 = .ok (.getstatic 31, 3) := by decide +kernel
theorem dX5_allows_16 : decode cX5_allows 16 = .ok (.arraylength, 1) := by decide +kernel
theorem dX5_allows_17 : decode cX5_allows 17 = .ok (.if_icmp .ge 25, 3) := by decide +kernel
theorem dX5_allows_20 : decode cX5_allows 20 = .ok (.iload_n 1, 1) := by decide +kernel
theorem dX5_allows_21 : decode cX5_allows 21 = .ok (.getstatic 28, 3) := by decide +kernel
theorem dX5_allows_24 : decode cX5_allows 24 = .ok (.iload_n 0, 1) := by decide +kernel
theorem dX5_allows_25 : decode cX5_allows 25 = .ok (.iaload, 1) := by decide +kernel
theorem dX5_allows_26 : decode cX5_allows 26 = .ok (.if_icmp .lt 16, 3) := by decide +kernel
theorem dX5_allows_29 : decode cX5_allows 29 = .ok (.iload_n 1, 1) := by decide +kernel
theorem dX5_allows_30 : decode cX5_allows 30 = .ok (.getstatic 31, 3) := by decide +kernel
theorem dX5_allows_33 : decode cX5_allows 33 = .ok (.iload_n 0, 1) := by decide +kernel
theorem dX5_allows_34 : decode cX5_allows 34 = .ok (.iaload, 1) := by decide +kernel
theorem dX5_allows_35 : decode cX5_allows 35 = .ok (.if_icmp .gt 7, 3) := by decide +kernel
theorem dX5_allows_38 : decode cX5_allows 38 = .ok (.iconst 1, 1) := by decide +kernel
theorem dX5_allows_39 : decode cX5_allows 39 = .ok (.goto 4, 3) := by decide +kernel
theorem dX5_allows_42 : decode cX5_allows 42 = .ok (.iconst 0, 1) := by decide +kernel
theorem dX5_allows_43 : decode cX5_allows 43 = .ok (.ireturn, 1) := by decide +kernel
def f_X5_allows (x1 : Int32) (x2 : Int32) : Int32 := if x1 < 0 then ((0 : Int32)) else (if 5 ≤ x1 then ((0 : Int32)) else (if x2 < (leastS (x1).toNatClampNeg) then ((0 : Int32)) else (if (greatS (x1).toNatClampNeg) < x2 then ((0 : Int32)) else ((1 : Int32)))))
set_option maxHeartbeats 4000000 in
set_option maxRecDepth 100000 in
theorem c_X5_allows (l : Launch) (D : va_G) (cI : ClassId) (x1 : Int32) (x2 : Int32) (r : Int32) (hf : f_X5_allows x1 x2 = r) : Met l yX5_allows (.code yX5_allows cX5_allows 2 (some .boolean) :: wsG) ({ frames := 0, cells := 0, slots := 0, locals := 0 }) (va_Pc [.int x1, .int x2] (gw D cI [])) (vp_Si (fun x => x = r)) 0 0 (fun _ => False) := by
  refine k_ro (by decide) rfl (Nat.le_of_ble_eq_true rfl) rfl ?_
  intro p e s m below meth c ls S hret hloc hK hN hSF hP hl
  obtain ⟨hx, hb, hml, hown, hts⟩ := id S
  obtain ⟨t0, t1, t2, hZLEAST_SETTING, hTLEAST_SETTING, hZGREATEST_SETTING, hTGREATEST_SETTING, hZSETTING_AT_FIRST, hTSETTING_AT_FIRST⟩ := id hSF
  unfold f_X5_allows at hf
  refine lv_iload_n hx hb dX5_allows_0 rfl (lv_at hl 0 rfl) ?_
  refine lv_if_lt (tgt := 42) hx hb dX5_allows_1 (by decide) (fun c_1 => ?_) (fun c_1 => ?_)
  · rw [if_pos c_1] at hf
    refine lv_iconst (v := 0) hx hb dX5_allows_42 (by decide) ?_
    exact k_retz hx hb hret hloc rfl hf dX5_allows_43
  · rw [if_neg c_1] at hf
    refine lv_iload_n hx hb dX5_allows_4 rfl (lv_at hl 0 rfl) ?_
    refine va_getsN hx hb hZLEAST_SETTING va_S.rf hown (va_Nw.use rfl (nf_X5_28 hN)) (fun _ h9 => h9) dX5_allows_5 ?_
    refine va_tlen hx hb hTLEAST_SETTING va_S.rf (v := 5) (by decide) dX5_allows_8 ?_
    refine lv_icmp_ge (tgt := 42) hx hb dX5_allows_9 (by decide) (fun c_2 => ?_) (fun c_2 => ?_)
    · rw [if_pos c_2] at hf
      refine lv_iconst (v := 0) hx hb dX5_allows_42 (by decide) ?_
      exact k_retz hx hb hret hloc rfl hf dX5_allows_43
    · rw [if_neg c_2] at hf
      refine lv_iload_n hx hb dX5_allows_12 rfl (lv_at hl 0 rfl) ?_
      refine va_getsN hx hb hZGREATEST_SETTING va_S.rf hown (va_Nw.use rfl (nf_X5_31 hN)) (fun _ h9 => h9) dX5_allows_13 ?_
      refine va_tlen hx hb hTGREATEST_SETTING va_S.rf (v := 5) (by decide) dX5_allows_16 ?_
      refine lv_icmp_ge (tgt := 42) hx hb dX5_allows_17 (by decide) (fun c_3 => ?_) (fun c_3 => ?_)
      · exact absurd c_3 c_2
      · refine lv_iload_n hx hb dX5_allows_20 rfl (lv_at hl 1 rfl) ?_
        refine va_getsN hx hb hZLEAST_SETTING va_S.rf hown (va_Nw.use rfl (nf_X5_28 hN)) (fun _ h9 => h9) dX5_allows_21 ?_
        refine lv_iload_n hx hb dX5_allows_24 rfl (lv_at hl 0 rfl) ?_
        refine va_ti hx hb hTLEAST_SETTING va_S.rf (rowin (n := 5) (by decide) c_1 c_2) (v := .int (leastS (x1).toNatClampNeg)) rfl dX5_allows_25 ?_
        refine lv_icmp_lt (tgt := 42) hx hb dX5_allows_26 (by decide) (fun c_4 => ?_) (fun c_4 => ?_)
        · rw [if_pos c_4] at hf
          refine lv_iconst (v := 0) hx hb dX5_allows_42 (by decide) ?_
          exact k_retz hx hb hret hloc rfl hf dX5_allows_43
        · rw [if_neg c_4] at hf
          refine lv_iload_n hx hb dX5_allows_29 rfl (lv_at hl 1 rfl) ?_
          refine va_getsN hx hb hZGREATEST_SETTING va_S.rf hown (va_Nw.use rfl (nf_X5_31 hN)) (fun _ h9 => h9) dX5_allows_30 ?_
          refine lv_iload_n hx hb dX5_allows_33 rfl (lv_at hl 0 rfl) ?_
          refine va_ti hx hb hTGREATEST_SETTING va_S.rf (rowin (n := 5) (by decide) c_1 c_2) (v := .int (greatS (x1).toNatClampNeg)) rfl dX5_allows_34 ?_
          refine lv_icmp_gt (tgt := 42) hx hb dX5_allows_35 (by decide) (fun c_5 => ?_) (fun c_5 => ?_)
          · rw [if_pos c_5] at hf
            refine lv_iconst (v := 0) hx hb dX5_allows_42 (by decide) ?_
            exact k_retz hx hb hret hloc rfl hf dX5_allows_43
          · rw [if_neg c_5] at hf
            refine lv_iconst (v := 1) hx hb dX5_allows_38 (by decide) ?_
            refine lv_goto (tgt := 43) hx hb dX5_allows_39 (by decide) ?_
            exact k_retz hx hb hret hloc rfl hf dX5_allows_43
theorem dX5_get_0 : decode cX5_get 0 = .ok (.aload_n 0, 1) := by decide +kernel
theorem dX5_get_1 : decode cX5_get 1 = .ok (.getfield 18, 3) := by decide +kernel
theorem dX5_get_4 : decode cX5_get 4 = .ok (.iload_n 1, 1) := by decide +kernel
theorem dX5_get_5 : decode cX5_get 5 = .ok (.invokevirtual 34, 3) := by decide +kernel
theorem dX5_get_8 : decode cX5_get 8 = .ok (.ireturn, 1) := by decide +kernel
theorem gs_X5_34 : GoodIn wsG (wsV RX5 34 RX4 yX4_get (.code yX4_get cX4_get 2 (some .int) :: wsG)) := good_V ml_X5_34 im_X4_get se_X4_get ini_X4 co_X4_get
def f_X5_get (sv : (Nat → Int32)) (x1 : Int32) : Int32 := (f_X4_get 5 sv x1)
set_option maxHeartbeats 4000000 in
set_option maxRecDepth 100000 in
theorem c_X5_get (l : Launch) (D : va_G) (cI : ClassId) (q : Nat) (qr : Nat) (qa : Nat) (sv : (Nat → Int32)) (x1 : Int32) (r : Int32) (hf : f_X5_get sv x1 = r) : Met l yX5_get (.code yX5_get cX5_get 2 (some .int) :: wsG) ({ frames := 1, cells := 0, slots := 0, locals := 21 }) (va_Pc [.ref q, .int x1] (gw D cI [(q, .inr (5, [.ref qr])), (qr, .inr (4, [.ref qa])), (qa, .inl (cI, 5, .inl sv))])) (vp_Si (fun x => x = r)) 0 0 (fun _ => False) := by
  refine k_ro (by decide) rfl (Nat.le_of_ble_eq_true rfl) rfl ?_
  intro p e s m below meth c ls S hret hloc hK hN hSF hP hl
  obtain ⟨hx, hb, hml, hown, hts⟩ := id S
  unfold f_X5_get at hf
  refine lv_aload_n hx hb dX5_get_0 rfl (lv_at hl 0 rfl) ?_
  refine va_get (D := D) (ci := 5) (v := .ref qr) (C := RX5) (T := TX5) (N := 1) hx hb hts inGX5 hown hK hP 0 rfl rfl 0 (by decide) (hts _ fl_X5_18) (fun _ h9 => h9) rfl dX5_get_1 ?_
  refine lv_iload_n hx hb dX5_get_4 rfl (lv_at hl 1 rfl) ?_
  refine k_roVi (As := [.int x1]) (rest := []) S (c_X4_get l D cI (q := qr) (qa := qa) (n := 5) (f := sv) (x1 := x1) (hn := by decide) (r := (f_X4_get 5 sv x1)) (hf := rfl)) gs_X5_34 ok_X4_get ⟨rfl, rfl⟩ ⟨Nat.le_of_ble_eq_true rfl, Nat.le_of_ble_eq_true rfl⟩ hK hN hSF (hP.sub [1, 2] rfl) rfl rfl rfl hl.1 rfl (Nat.le_of_ble_eq_true rfl) ⟨Nat.zero_le _, Nat.zero_le _⟩ dX5_get_5 ?_
  exact k_reti hx hb hret hloc hf dX5_get_8
theorem dX5_tell_0 : decode cX5_tell 0 = .ok (.aload_n 0, 1) := by decide +kernel
theorem dX5_tell_1 : decode cX5_tell 1 = .ok (.getfield 18, 3) := by decide +kernel
theorem dX5_tell_4 : decode cX5_tell 4 = .ok (.iload_n 1, 1) := by decide +kernel
theorem dX5_tell_5 : decode cX5_tell 5 = .ok (.iload_n 2, 1) := by decide +kernel
theorem dX5_tell_6 : decode cX5_tell 6 = .ok (.invokevirtual 24, 3) := by decide +kernel
theorem dX5_tell_9 : decode cX5_tell 9 = .ok (.return_, 1) := by decide +kernel
theorem gs_X5_24 : GoodIn wsG (wsV RX5 24 RX4 yX4_put (.code yX4_put cX4_put 3 none :: wsG)) := good_V ml_X5_24 im_X4_put se_X4_put ini_X4 co_X4_put
def f_X5_tell (sv : (Nat → Int32)) (x1 : Int32) (x2 : Int32) : (Nat → Int32) := (f_X4_put 5 sv x1 x2)
set_option maxHeartbeats 4000000 in
set_option maxRecDepth 100000 in
theorem c_X5_tell (l : Launch) (D : va_G) (cI : ClassId) {sz : Nat} (q : Nat) (qr : Nat) (qa : Nat) (sv : (Nat → Int32)) (x1 : Int32) (x2 : Int32) (o_sv : (Nat → Int32)) (hf : f_X5_tell sv x1 x2 = o_sv) : Met l yX5_tell (.code yX5_tell cX5_tell 3 none :: wsG) ({ frames := 1, cells := 0, slots := 0, locals := 22 }) (va_Pc [.ref q, .int x1, .int x2] (gv D cI sz [(q, .inr (5, [.ref qr])), (qr, .inr (4, [.ref qa])), (qa, .inl (cI, 5, .inl sv))])) (va_Qv (fun (_ : Unit) => True) (gz D (va_A [(q, .inr (5, [.ref qr])), (qr, .inr (4, [.ref qa])), (qa, .inl (cI, 5, .inl sv))] sz) [(q, .inr (5, [.ref qr])), (qr, .inr (4, [.ref qa])), (qa, .inl (cI, 5, .inl o_sv))]) (va_A [(q, .inr (5, [.ref qr])), (qr, .inr (4, [.ref qa])), (qa, .inl (cI, 5, .inl sv))] sz)) 0 0 (va_A [(q, .inr (5, [.ref qr])), (qr, .inr (4, [.ref qa])), (qa, .inl (cI, 5, .inl sv))] sz) := by
  refine k_rw (Qc := fun A => va_Qv (fun (_ : Unit) => True) (gz D A [(q, .inr (5, [.ref qr])), (qr, .inr (4, [.ref qa])), (qa, .inl (cI, 5, .inl o_sv))]) A) (by decide) rfl (Nat.le_of_ble_eq_true rfl) rfl ?_
  intro p e s m below meth c ls A S hret hloc hK hN hSF hP hD hS hA hl
  obtain ⟨hx, hb, hml, hown, hts⟩ := id S
  unfold f_X5_tell at hf
  refine lv_aload_n hx hb dX5_tell_0 rfl (lv_at hl 0 rfl) ?_
  refine va_get (D := D) (ci := 5) (v := .ref qr) (C := RX5) (T := TX5) (N := 1) hx hb hts inGX5 hown hK hP 0 rfl rfl 0 (by decide) (hts _ fl_X5_18) (fun _ h9 => h9) rfl dX5_tell_1 ?_
  refine lv_iload_n hx hb dX5_tell_4 rfl (lv_at hl 1 rfl) ?_
  refine lv_iload_n hx hb dX5_tell_5 rfl (lv_at hl 2 rfl) ?_
  refine k_rwVv (As := [.int x1, .int x2]) (rest := []) (Wr := [(q, .inr (5, [.ref qr]))]) (W2 := [(q, .inr (5, [.ref qr])), (qr, .inr (4, [.ref qa])), (qa, .inl (cI, 5, .inl (f_X4_put 5 sv x1 x2)))]) S (c_X4_put l D cI (q := qr) (qa := qa) (n := 5) (f := sv) (x1 := x1) (x2 := x2) (hn := by decide) (o_f := (f_X4_put 5 sv x1 x2)) (hf := rfl)) gs_X5_24 ok_X4_put ⟨rfl, rfl⟩ ⟨Nat.le_of_ble_eq_true rfl, Nat.le_of_ble_eq_true rfl⟩ hK hN hSF hP hD hS hA [1, 2] [0] [0, 1, 2] (by decide) rfl rfl (by decide) (by decide) rfl (by decide) rfl rfl rfl hl.1 rfl (Nat.le_of_ble_eq_true rfl) ⟨Nat.zero_le _, Nat.zero_le _⟩ dX5_tell_6 (fun H locs hP hD hS => ?_)
  subst hf
  exact k_wretv hx hb hret hloc hP hD hS dX5_tell_9
theorem dX5_copyFrom_0 : decode cX5_copyFrom 0 = .ok (.aload_n 0, 1) := by decide +kernel
theorem dX5_copyFrom_1 : decode cX5_copyFrom 1 = .ok (.getfield 18, 3) := by decide +kernel
theorem dX5_copyFrom_4 : decode cX5_copyFrom 4 = .ok (.aload_n 1, 1) := by decide +kernel
theorem dX5_copyFrom_5 : decode cX5_copyFrom 5 = .ok (.getfield 18, 3) := by decide +kernel
theorem dX5_copyFrom_8 : decode cX5_copyFrom 8 = .ok (.getstatic 11, 3) := by decide +kernel
theorem dX5_copyFrom_11 : decode cX5_copyFrom 11 = .ok (.arraylength, 1) := by decide +kernel
theorem dX5_copyFrom_12 : decode cX5_copyFrom 12 = .ok (.invokevirtual 38, 3) := by decide +kernel
theorem dX5_copyFrom_15 : decode cX5_copyFrom 15 = .ok (.return_, 1) := by decide +kernel
theorem ok_X4_copyFrom : okV yX4_copyFrom RX4 2 := by decide +kernel
theorem gs_X5_38 : GoodIn wsG (wsV RX5 38 RX4 yX4_copyFrom (.code yX4_copyFrom cX4_copyFrom 4 none :: wsG)) := good_V ml_X5_38 im_X4_copyFrom se_X4_copyFrom ini_X4 co_X4_copyFrom
def f_X5_copyFrom (sv : (Nat → Int32)) (w_sv : (Nat → Int32)) : Option ((Nat → Int32)) := bi1 (f_X4_copyFrom 5 5 sv w_sv 5) (fun (sv_1 : (Nat → Int32)) => some sv_1)
set_option maxHeartbeats 4000000 in
set_option maxRecDepth 100000 in
theorem c_X5_copyFrom (l : Launch) (D : va_G) (cI : ClassId) {sz : Nat} (q : Nat) (g : Nat) (qr : Nat) (qa : Nat) (gr : Nat) (ga : Nat) (sv : (Nat → Int32)) (w_sv : (Nat → Int32)) (o_sv : (Nat → Int32)) (hf : f_X5_copyFrom sv w_sv = some o_sv) : Met l yX5_copyFrom (.code yX5_copyFrom cX5_copyFrom 2 none :: wsG) ({ frames := 2, cells := 0, slots := 0, locals := 45 }) (va_Pc [.ref q, .ref g] (gv D cI sz [(q, .inr (5, [.ref qr])), (qr, .inr (4, [.ref qa])), (qa, .inl (cI, 5, .inl sv)), (g, .inr (5, [.ref gr])), (gr, .inr (4, [.ref ga])), (ga, .inl (cI, 5, .inl w_sv))])) (va_Qv (fun (_ : Unit) => True) (gz D (va_A [(q, .inr (5, [.ref qr])), (qr, .inr (4, [.ref qa])), (qa, .inl (cI, 5, .inl sv)), (g, .inr (5, [.ref gr])), (gr, .inr (4, [.ref ga])), (ga, .inl (cI, 5, .inl w_sv))] sz) [(q, .inr (5, [.ref qr])), (qr, .inr (4, [.ref qa])), (qa, .inl (cI, 5, .inl o_sv)), (g, .inr (5, [.ref gr])), (gr, .inr (4, [.ref ga])), (ga, .inl (cI, 5, .inl w_sv))]) (va_A [(q, .inr (5, [.ref qr])), (qr, .inr (4, [.ref qa])), (qa, .inl (cI, 5, .inl sv)), (g, .inr (5, [.ref gr])), (gr, .inr (4, [.ref ga])), (ga, .inl (cI, 5, .inl w_sv))] sz)) 0 0 (va_A [(q, .inr (5, [.ref qr])), (qr, .inr (4, [.ref qa])), (qa, .inl (cI, 5, .inl sv)), (g, .inr (5, [.ref gr])), (gr, .inr (4, [.ref ga])), (ga, .inl (cI, 5, .inl w_sv))] sz) := by
  refine k_rw (Qc := fun A => va_Qv (fun (_ : Unit) => True) (gz D A [(q, .inr (5, [.ref qr])), (qr, .inr (4, [.ref qa])), (qa, .inl (cI, 5, .inl o_sv)), (g, .inr (5, [.ref gr])), (gr, .inr (4, [.ref ga])), (ga, .inl (cI, 5, .inl w_sv))]) A) (by decide) rfl (Nat.le_of_ble_eq_true rfl) rfl ?_
  intro p e s m below meth c ls A S hret hloc hK hN hSF hP hD hS hA hl
  obtain ⟨hx, hb, hml, hown, hts⟩ := id S
  obtain ⟨t0, t1, t2, hZLEAST_SETTING, hTLEAST_SETTING, hZGREATEST_SETTING, hTGREATEST_SETTING, hZSETTING_AT_FIRST, hTSETTING_AT_FIRST⟩ := id hSF
  unfold f_X5_copyFrom at hf
  refine lv_aload_n hx hb dX5_copyFrom_0 rfl (lv_at hl 0 rfl) ?_
  refine va_get (D := D) (ci := 5) (v := .ref qr) (C := RX5) (T := TX5) (N := 1) hx hb hts inGX5 hown hK hP 0 rfl rfl 0 (by decide) (hts _ fl_X5_18) (fun _ h9 => h9) rfl dX5_copyFrom_1 ?_
  refine lv_aload_n hx hb dX5_copyFrom_4 rfl (lv_at hl 1 rfl) ?_
  refine va_get (D := D) (ci := 5) (v := .ref gr) (C := RX5) (T := TX5) (N := 1) hx hb hts inGX5 hown hK hP 3 rfl rfl 0 (by decide) (hts _ fl_X5_18) (fun _ h9 => h9) rfl dX5_copyFrom_5 ?_
  refine va_getsN hx hb hZSETTING_AT_FIRST hS hown (va_Nw.use rfl (nf_X5_11 hN)) (fun _ h9 => h9) dX5_copyFrom_8 ?_
  refine va_tlen hx hb hTSETTING_AT_FIRST hS (v := 5) (by decide) dX5_copyFrom_11 ?_
  obtain ⟨sv_1, hc_2, hf⟩ := bd1 hf
  refine k_rwVv (As := [.ref gr, .int 5]) (rest := []) (Wr := [(q, .inr (5, [.ref qr])), (g, .inr (5, [.ref gr]))]) (W2 := [(q, .inr (5, [.ref qr])), (qr, .inr (4, [.ref qa])), (qa, .inl (cI, 5, .inl sv_1)), (g, .inr (5, [.ref gr])), (gr, .inr (4, [.ref ga])), (ga, .inl (cI, 5, .inl w_sv))]) S (c_X4_copyFrom l D cI (q := qr) (g := gr) (qa := qa) (ga := ga) (n := 5) (n2 := 5) (f := sv) (f2 := w_sv) (x2 := 5) (hn := by decide) (hn2 := by decide) (o_f := sv_1) (hf := hc_2)) gs_X5_38 ok_X4_copyFrom ⟨rfl, rfl⟩ ⟨Nat.le_of_ble_eq_true rfl, Nat.le_of_ble_eq_true rfl⟩ hK hN hSF hP hD hS hA [1, 2, 4, 5] [0, 3] [0, 2, 3, 1, 4, 5] (by decide) rfl rfl (by decide) (by decide) rfl (by decide) rfl rfl rfl hl.1 rfl (Nat.le_of_ble_eq_true rfl) ⟨Nat.zero_le _, Nat.zero_le _⟩ dX5_copyFrom_12 (fun H locs hP hD hS => ?_)
  cases hf
  exact k_wretv hx hb hret hloc hP hD hS dX5_copyFrom_15
theorem dX5_turned_0 : decode cX5_turned 0 = .ok (.aload_n 0, 1) := by decide +kernel
theorem dX5_turned_1 : decode cX5_turned 1 = .ok (.iconst 4, 1) := by decide +kernel
theorem dX5_turned_2 : decode cX5_turned 2 = .ok (.invokevirtual 42, 3) := by decide +kernel
theorem dX5_turned_5 : decode cX5_turned 5 = .ok (.ifCond .ne 5, 3) := by decide +kernel
theorem dX5_turned_8 : decode cX5_turned 8 = .ok (.iload_n 1, 1) := by decide +kernel
theorem dX5_turned_9 : decode cX5_turned 9 = .ok (.ireturn, 1) := by decide +kernel
theorem dX5_turned_10 : decode cX5_turned 10 = .ok (.iconst 0, 1) := by decide +kernel
theorem dX5_turned_11 : decode cX5_turned 11 = .ok (.istore_n 2, 1) := by decide +kernel
theorem dX5_turned_12 : decode cX5_turned 12 = .ok (.iconst 0, 1) := by decide +kernel
theorem dX5_turned_13 : decode cX5_turned 13 = .ok (.istore_n 3, 1) := by decide +kernel
theorem dX5_turned_14 : decode cX5_turned 14 = .ok (.iload_n 3, 1) := by decide +kernel
theorem dX5_turned_15 : decode cX5_turned 15 = .ok (.bipush 8, 2) := by decide +kernel
theorem dX5_turned_17 : decode cX5_turned 17 = .ok (.if_icmp .ge 19, 3) := by decide +kernel
theorem dX5_turned_20 : decode cX5_turned 20 = .ok (.iconst 2, 1) := by decide +kernel
theorem dX5_turned_21 : decode cX5_turned 21 = .ok (.iload_n 2, 1) := by decide +kernel
theorem dX5_turned_22 : decode cX5_turned 22 = .ok (.imul, 1) := by decide +kernel
theorem dX5_turned_23 : decode cX5_turned 23 = .ok (.iload_n 1, 1) := by decide +kernel
theorem dX5_turned_24 : decode cX5_turned 24 = .ok (.iload_n 3, 1) := by decide +kernel
theorem dX5_turned_25 : decode cX5_turned 25 = .ok (.ishr, 1) := by decide +kernel
theorem dX5_turned_26 : decode cX5_turned 26 = .ok (.iconst 1, 1) := by decide +kernel
theorem dX5_turned_27 : decode cX5_turned 27 = .ok (.iand, 1) := by decide +kernel
theorem dX5_turned_28 : decode cX5_turned 28 = .ok (.iadd, 1) := by decide +kernel
theorem dX5_turned_29 : decode cX5_turned 29 = .ok (.istore_n 2, 1) := by decide +kernel
theorem dX5_turned_30 : decode cX5_turned 30 = .ok (.iinc 3 1, 3) := by decide +kernel
theorem dX5_turned_33 : decode cX5_turned 33 = .ok (.goto (-19), 3) := by decide +kernel
theorem dX5_turned_36 : decode cX5_turned 36 = .ok (.iload_n 2, 1) := by decide +kernel
theorem dX5_turned_37 : decode cX5_turned 37 = .ok (.ireturn, 1) := by decide +kernel
theorem ok_X5_get : okV yX5_get RX5 1 := by decide +kernel
theorem gs_X5_42 : GoodIn wsG (wsV RX5 42 RX5 yX5_get (.code yX5_get cX5_get 2 (some .int) :: wsG)) := good_V ml_X5_42 im_X5_get se_X5_get ini_X5 co_X5_get
def st_X5_turned_L14 (v1 : Int32) (v2 : Int32) (v3 : Int32) : Option ((Int32 × Int32) ⊕ (Int32 × Int32)) := if 8 ≤ v3 then (some (.inr (v2, v3))) else (some (.inl ((2 * v2) + ((v1 >>> (v3 &&& 31)) &&& 1), v3 + 1)))
def f_X5_turned_L14 (v1 : Int32) (k : Nat) (v2 : Int32) (v3 : Int32) : Option (Int32 × Int32) := lpN (fun z => st_X5_turned_L14 v1 z.1 z.2) k (v2, v3)
set_option maxHeartbeats 4000000 in
set_option maxRecDepth 100000 in
theorem L_X5_turned_14 {p : Program} {l : Launch} {e : Env} {s : State} {m : MethodId} {args : Array Value} {below : List Frame} {meth : Method} {c : Code} {Q : State → Prop} {D : va_G} {cI : ClassId} {q : Nat} {qr : Nat} {qa : Nat} {v1 : Int32} {sv : (Nat → Int32)} (S : CallFix p m c cX5_turned 4 s args wsG RX5) (hK : va_K D vwCl [(cI, .int)] s) (hN : nw s) (hSF : sf (fun _ => False) s s.heap) : ∀ (k : Nat) (v2 : Int32) (v3 : Int32) (o_v2 : Int32) (o_v3 : Int32), f_X5_turned_L14 v1 k v2 v3 = some (o_v2, o_v3) → ∀ (ls : Array Slot), va_P D vwCl [(q, .inr (5, [.ref qr])), (qr, .inr (4, [.ref qa])), (qa, .inl (cI, 5, .inl sv))] s.heap → lv_has ls 4 [(1, .int v1), (2, .int v2), (3, .int v3)] → (∀ (ls : Array Slot), lv_has ls 4 [(1, .int v1), (2, .int o_v2), (3, .int o_v3)] → W p l e (headSpec (.code yX5_turned cX5_turned 4 (some .int) :: wsG) { frames := 2, cells := 0, slots := 0, locals := 42 }).room s m args below meth c s.heap [] 0 0 Q (F0 m 36 ls [])) → W p l e (headSpec (.code yX5_turned cX5_turned 4 (some .int) :: wsG) { frames := 2, cells := 0, slots := 0, locals := 42 }).room s m args below meth c s.heap [] 0 0 Q (F0 m 14 ls []) := by
  obtain ⟨hx, hb, hml, hown, hts⟩ := id S
  intro k
  induction k with
  | zero =>
    intro v2 v3 o_v2 o_v3 hf
    cases hf
  | succ k ih =>
    intro v2 v3 o_v2 o_v3 hf ls hP hl kk
    obtain ⟨z, hf, hz⟩ := lp_inv hf
    have hf : st_X5_turned_L14 v1 v2 v3 = some z := hf
    unfold st_X5_turned_L14 at hf
    refine lv_iload_n hx hb dX5_turned_14 rfl (lv_at hl 2 rfl) ?_
    refine lv_bipush (v := 8) hx hb dX5_turned_15 (by decide) ?_
    refine lv_icmp_ge (tgt := 36) hx hb dX5_turned_17 (by decide) (fun c_2 => ?_) (fun c_2 => ?_)
    · rw [if_pos c_2] at hf
      cases hf
      cases lpC_r hz
      exact kk ls (lv_sub hl [0, 1, 2] rfl)
    · rw [if_neg c_2] at hf
      refine lv_iconst (v := 2) hx hb dX5_turned_20 (by decide) ?_
      refine lv_iload_n hx hb dX5_turned_21 rfl (lv_at hl 1 rfl) ?_
      refine lv_imul hx hb dX5_turned_22 ?_
      refine lv_iload_n hx hb dX5_turned_23 rfl (lv_at hl 0 rfl) ?_
      refine lv_iload_n hx hb dX5_turned_24 rfl (lv_at hl 2 rfl) ?_
      refine lv_ishr hx hb dX5_turned_25 ?_
      refine lv_iconst (v := 1) hx hb dX5_turned_26 (by decide) ?_
      refine lv_iand hx hb dX5_turned_27 ?_
      refine lv_iadd hx hb dX5_turned_28 ?_
      refine lv_istore_n (lv' := [(2, .int ((2 * v2) + ((v1 >>> (v3 &&& 31)) &&& 1))), (1, .int v1), (3, .int v3)]) hx hb dX5_turned_29 rfl hl (by decide) rfl (fun ls hl => ?_)
      refine lv_iinc (v := v3 + 1) (lv' := [(3, .int (v3 + 1)), (2, .int ((2 * v2) + ((v1 >>> (v3 &&& 31)) &&& 1))), (1, .int v1)]) hx hb dX5_turned_30 hl (k := 2) rfl rfl (by decide) rfl (fun ls hl => ?_)
      refine lv_goto (tgt := 14) hx hb dX5_turned_33 (by decide) ?_
      cases hf
      exact ih ((2 * v2) + ((v1 >>> (v3 &&& 31)) &&& 1)) (v3 + 1) _ _ hz ls hP (lv_sub hl [2, 1, 0] rfl) kk
def f_X5_turned (sv : (Nat → Int32)) (x1 : Int32) : Option (Int32) := if (f_X5_get sv 4) = 0 then (some x1) else (bi2 (f_X5_turned_L14 x1 4096 0 0) (fun (v2_3 : Int32) (v3_4 : Int32) => some v2_3))
set_option maxHeartbeats 4000000 in
set_option maxRecDepth 100000 in
theorem c_X5_turned (l : Launch) (D : va_G) (cI : ClassId) (q : Nat) (qr : Nat) (qa : Nat) (sv : (Nat → Int32)) (x1 : Int32) (r : Int32) (hf : f_X5_turned sv x1 = some r) : Met l yX5_turned (.code yX5_turned cX5_turned 4 (some .int) :: wsG) ({ frames := 2, cells := 0, slots := 0, locals := 42 }) (va_Pc [.ref q, .int x1] (gw D cI [(q, .inr (5, [.ref qr])), (qr, .inr (4, [.ref qa])), (qa, .inl (cI, 5, .inl sv))])) (vp_Si (fun x => x = r)) 0 0 (fun _ => False) := by
  refine k_ro (by decide) rfl (Nat.le_of_ble_eq_true rfl) rfl ?_
  intro p e s m below meth c ls S hret hloc hK hN hSF hP hl
  obtain ⟨hx, hb, hml, hown, hts⟩ := id S
  unfold f_X5_turned at hf
  refine lv_aload_n hx hb dX5_turned_0 rfl (lv_at hl 0 rfl) ?_
  refine lv_iconst (v := 4) hx hb dX5_turned_1 (by decide) ?_
  refine k_roVi (As := [.int 4]) (rest := []) S (c_X5_get l D cI (q := q) (qr := qr) (qa := qa) (sv := sv) (x1 := 4)  (r := (f_X5_get sv 4)) (hf := rfl)) gs_X5_42 ok_X5_get ⟨rfl, rfl⟩ ⟨Nat.le_of_ble_eq_true rfl, Nat.le_of_ble_eq_true rfl⟩ hK hN hSF hP rfl rfl rfl hl.1 rfl (Nat.le_of_ble_eq_true rfl) ⟨Nat.zero_le _, Nat.zero_le _⟩ dX5_turned_2 ?_
  refine lv_if_ne (tgt := 10) hx hb dX5_turned_5 (by decide) (fun c_1 => ?_) (fun c_1 => ?_)
  · rw [if_neg c_1] at hf
    refine lv_iconst (v := 0) hx hb dX5_turned_10 (by decide) ?_
    refine lv_istore_n (lv' := [(2, .int 0), (0, .ref q), (1, .int x1)]) hx hb dX5_turned_11 rfl hl (by decide) rfl (fun ls hl => ?_)
    refine lv_iconst (v := 0) hx hb dX5_turned_12 (by decide) ?_
    refine lv_istore_n (lv' := [(3, .int 0), (2, .int 0), (0, .ref q), (1, .int x1)]) hx hb dX5_turned_13 rfl hl (by decide) rfl (fun ls hl => ?_)
    obtain ⟨v2_3, v3_4, hc_5, hf⟩ := bd2 hf
    refine L_X5_turned_14 S hK hN hSF _ 0 0 v2_3 v3_4 hc_5 _ hP (lv_sub hl [3, 1, 0] rfl) (fun ls hl => ?_)
    refine lv_iload_n hx hb dX5_turned_36 rfl (lv_at hl 1 rfl) ?_
    exact k_reti hx hb hret hloc (Option.some.inj hf) dX5_turned_37
  · rw [if_pos c_1] at hf
    refine lv_iload_n hx hb dX5_turned_8 rfl (lv_at hl 1 rfl) ?_
    exact k_reti hx hb hret hloc (Option.some.inj hf) dX5_turned_9
theorem dX6_open_0 : decode cX6_open 0 = .ok (.aload_n 0, 1) := by decide +kernel
theorem dX6_open_1 : decode cX6_open 1 = .ok (.lconst 0, 1) := by decide +kernel
theorem dX6_open_2 : decode cX6_open 2 = .ok (.putfield 9, 3) := by decide +kernel
theorem dX6_open_5 : decode cX6_open 5 = .ok (.aload_n 0, 1) := by decide +kernel
theorem dX6_open_6 : decode cX6_open 6 = .ok (.ldc2_w 15, 3) := by decide +kernel
theorem dX6_open_9 : decode cX6_open 9 = .ok (.putfield 17, 3) := by decide +kernel
theorem dX6_open_12 : decode cX6_open 12 = .ok (.return_, 1) := by decide +kernel
def f_X6_open  : Option (Int64 × Int64) := some ((0 : Int64), (4294967295 : Int64))
set_option maxHeartbeats 4000000 in
set_option maxRecDepth 100000 in
theorem c_X6_open (l : Launch) (D : va_G) (cI : ClassId) {sz : Nat} (q : Nat) (lo : Int64) (hi : Int64) (o_lo : Int64) (o_hi : Int64) (hf : f_X6_open = some (o_lo, o_hi)) : Met l yX6_open (.code yX6_open cX6_open 1 none :: wsG) ({ frames := 0, cells := 0, slots := 0, locals := 0 }) (va_Pc [.ref q] (gv D cI sz [(q, .inr (6, [.long lo, .long hi]))])) (va_Qv (fun (_ : Unit) => True) (gz D (va_A [(q, .inr (6, [.long lo, .long hi]))] sz) [(q, .inr (6, [.long o_lo, .long o_hi]))]) (va_A [(q, .inr (6, [.long lo, .long hi]))] sz)) 0 0 (va_A [(q, .inr (6, [.long lo, .long hi]))] sz) := by
  refine k_rw (Qc := fun A => va_Qv (fun (_ : Unit) => True) (gz D A [(q, .inr (6, [.long o_lo, .long o_hi]))]) A) (by decide) rfl (Nat.le_of_ble_eq_true rfl) rfl ?_
  intro p e s m below meth c ls A S hret hloc hK hN hSF hP hD hS hA hl
  obtain ⟨hx, hb, hml, hown, hts⟩ := id S
  unfold f_X6_open at hf
  refine lv_aload_n hx hb dX6_open_0 rfl (lv_at hl 0 rfl) ?_
  refine lv_lconst (v := 0) hx hb dX6_open_1 (by decide) ?_
  refine va_put (D := D) (ci := 6) (v := .long (0 : Int64)) (ty := .long) (C := RX6) (T := TX6) (N := 2) hx hb hts inGX6 tyX6 tyX6_ok nmX6 hown hK hP hD hS 0 rfl rfl 0 (by decide) (hts _ fl_X6_9) (fun _ h9 => h9) rfl (by decide +kernel) rfl rfl (Nat.le_of_ble_eq_true rfl) dX6_open_2 (fun H locs hP hD hS => ?_)
  have hP : va_P D vwCl [(q, .inr (6, [.long (0 : Int64), .long hi]))] H := hP
  have hD : va_D A [(q, .inr (6, [.long (0 : Int64), .long hi]))] := hD
  refine lv_aload_n hx hb dX6_open_5 rfl (lv_at hl 0 rfl) ?_
  refine lv_ldc2 (v := (4294967295 : Int64)) hx hb hown (hts _ ck_X6_15) dX6_open_6 ?_
  refine va_put (D := D) (ci := 6) (v := .long (4294967295 : Int64)) (ty := .long) (C := RX6) (T := TX6) (N := 2) hx hb hts inGX6 tyX6 tyX6_ok nmX6 hown hK hP hD hS 0 rfl rfl 1 (by decide) (hts _ fl_X6_17) (fun _ h9 => h9) rfl (by decide +kernel) rfl rfl (Nat.le_of_ble_eq_true rfl) dX6_open_9 (fun H locs hP hD hS => ?_)
  have hP : va_P D vwCl [(q, .inr (6, [.long (0 : Int64), .long (4294967295 : Int64)]))] H := hP
  have hD : va_D A [(q, .inr (6, [.long (0 : Int64), .long (4294967295 : Int64)]))] := hD
  cases hf
  exact k_wretv hx hb hret hloc hP hD hS dX6_open_12
theorem dX6_middle_0 : decode cX6_middle 0 = .ok (.aload_n 0, 1) := by decide +kernel
theorem dX6_middle_1 : decode cX6_middle 1 = .ok (.getfield 9, 3) := by decide +kernel
theorem dX6_middle_4 : decode cX6_middle 4 = .ok (.aload_n 0, 1) := by decide +kernel
theorem dX6_middle_5 : decode cX6_middle 5 = .ok (.getfield 17, 3) := by decide +kernel
theorem dX6_middle_8 : decode cX6_middle 8 = .ok (.aload_n 0, 1) := by decide +kernel
theorem dX6_middle_9 : decode cX6_middle 9 = .ok (.getfield 9, 3) := by decide +kernel
theorem dX6_middle_12 : decode cX6_middle 12 = .ok (.lsub, 1) := by decide +kernel
theorem dX6_middle_13 : decode cX6_middle 13 = .ok (.ldc2_w 20, 3) := by decide +kernel
theorem dX6_middle_16 : decode cX6_middle 16 = .ok (.ldiv, 1) := by decide +kernel
theorem dX6_middle_17 : decode cX6_middle 17 = .ok (.iload_n 1, 1) := by decide +kernel
theorem dX6_middle_18 : decode cX6_middle 18 = .ok (.i2l, 1) := by decide +kernel
theorem dX6_middle_19 : decode cX6_middle 19 = .ok (.lmul, 1) := by decide +kernel
theorem dX6_middle_20 : decode cX6_middle 20 = .ok (.ladd, 1) := by decide +kernel
theorem dX6_middle_21 : decode cX6_middle 21 = .ok (.lreturn, 1) := by decide +kernel
def f_X6_middle (lo : Int64) (hi : Int64) (x1 : Int32) : Int64 := lo + (((hi - lo) / (4096 : Int64)) * ((x1).toInt64))
set_option maxHeartbeats 4000000 in
set_option maxRecDepth 100000 in
theorem c_X6_middle (l : Launch) (D : va_G) (cI : ClassId) (q : Nat) (lo : Int64) (hi : Int64) (x1 : Int32) (r : Int64) (hf : f_X6_middle lo hi x1 = r) : Met l yX6_middle (.code yX6_middle cX6_middle 2 (some .long) :: wsG) ({ frames := 0, cells := 0, slots := 0, locals := 0 }) (va_Pc [.ref q, .int x1] (gw D cI [(q, .inr (6, [.long lo, .long hi]))])) (vp_Sl (fun x => x = r)) 0 0 (fun _ => False) := by
  refine k_ro (by decide) rfl (Nat.le_of_ble_eq_true rfl) rfl ?_
  intro p e s m below meth c ls S hret hloc hK hN hSF hP hl
  obtain ⟨hx, hb, hml, hown, hts⟩ := id S
  unfold f_X6_middle at hf
  refine lv_aload_n hx hb dX6_middle_0 rfl (lv_at hl 0 rfl) ?_
  refine va_get (D := D) (ci := 6) (v := .long lo) (C := RX6) (T := TX6) (N := 2) hx hb hts inGX6 hown hK hP 0 rfl rfl 0 (by decide) (hts _ fl_X6_9) (fun _ h9 => h9) rfl dX6_middle_1 ?_
  refine lv_aload_n hx hb dX6_middle_4 rfl (lv_at hl 0 rfl) ?_
  refine va_get (D := D) (ci := 6) (v := .long hi) (C := RX6) (T := TX6) (N := 2) hx hb hts inGX6 hown hK hP 0 rfl rfl 1 (by decide) (hts _ fl_X6_17) (fun _ h9 => h9) rfl dX6_middle_5 ?_
  refine lv_aload_n hx hb dX6_middle_8 rfl (lv_at hl 0 rfl) ?_
  refine va_get (D := D) (ci := 6) (v := .long lo) (C := RX6) (T := TX6) (N := 2) hx hb hts inGX6 hown hK hP 0 rfl rfl 0 (by decide) (hts _ fl_X6_9) (fun _ h9 => h9) rfl dX6_middle_9 ?_
  refine lv_lsub hx hb dX6_middle_12 ?_
  refine lv_ldc2 (v := (4096 : Int64)) hx hb hown (hts _ ck_X6_20) dX6_middle_13 ?_
  refine lv_ldiv hx hb dX6_middle_16 (by decide) ?_
  refine lv_iload_n hx hb dX6_middle_17 rfl (lv_at hl 1 rfl) ?_
  refine lv_i2l hx hb dX6_middle_18 rfl ?_
  refine lv_lmul hx hb dX6_middle_19 ?_
  refine lv_ladd hx hb dX6_middle_20 ?_
  exact k_retl hx hb hret hloc hf dX6_middle_21
theorem dX6_narrow_0 : decode cX6_narrow 0 = .ok (.iload_n 1, 1) := by decide +kernel
theorem dX6_narrow_1 : decode cX6_narrow 1 = .ok (.iconst 1, 1) := by decide +kernel
theorem dX6_narrow_2 : decode cX6_narrow 2 = .ok (.if_icmp .ne 11, 3) := by decide +kernel
theorem dX6_narrow_5 : decode cX6_narrow 5 = .ok (.aload_n 0, 1) := by decide +kernel
theorem dX6_narrow_6 : decode cX6_narrow 6 = .ok (.lload_n 2, 1) := by decide +kernel
theorem dX6_narrow_7 : decode cX6_narrow 7 = .ok (.putfield 17, 3) := by decide +kernel
theorem dX6_narrow_10 : decode cX6_narrow 10 = .ok (.goto 10, 3) := by decide +kernel
theorem dX6_narrow_13 : decode cX6_narrow 13 = .ok (.aload_n 0, 1) := by decide +kernel
theorem dX6_narrow_14 : decode cX6_narrow 14 = .ok (.lload_n 2, 1) := by decide +kernel
theorem dX6_narrow_15 : decode cX6_narrow 15 = .ok (.lconst 1, 1) := by decide +kernel
theorem dX6_narrow_16 : decode cX6_narrow 16 = .ok (.ladd, 1) := by decide +kernel
theorem dX6_narrow_17 : decode cX6_narrow 17 = .ok (.putfield 9, 3) := by decide +kernel
theorem dX6_narrow_20 : decode cX6_narrow 20 = .ok (.return_, 1) := by decide +kernel
def f_X6_narrow (lo : Int64) (hi : Int64) (x1 : Int32) (x2 : Int64) : Option (Int64 × Int64) := if x1 = 1 then (some (lo, x2)) else (some (x2 + (1 : Int64), hi))
set_option maxHeartbeats 4000000 in
set_option maxRecDepth 100000 in
theorem c_X6_narrow (l : Launch) (D : va_G) (cI : ClassId) {sz : Nat} (q : Nat) (lo : Int64) (hi : Int64) (x1 : Int32) (x2 : Int64) (o_lo : Int64) (o_hi : Int64) (hf : f_X6_narrow lo hi x1 x2 = some (o_lo, o_hi)) : Met l yX6_narrow (.code yX6_narrow cX6_narrow 4 none :: wsG) ({ frames := 0, cells := 0, slots := 0, locals := 0 }) (va_Pc [.ref q, .int x1, .long x2] (gv D cI sz [(q, .inr (6, [.long lo, .long hi]))])) (va_Qv (fun (_ : Unit) => True) (gz D (va_A [(q, .inr (6, [.long lo, .long hi]))] sz) [(q, .inr (6, [.long o_lo, .long o_hi]))]) (va_A [(q, .inr (6, [.long lo, .long hi]))] sz)) 0 0 (va_A [(q, .inr (6, [.long lo, .long hi]))] sz) := by
  refine k_rw (Qc := fun A => va_Qv (fun (_ : Unit) => True) (gz D A [(q, .inr (6, [.long o_lo, .long o_hi]))]) A) (by decide) rfl (Nat.le_of_ble_eq_true rfl) rfl ?_
  intro p e s m below meth c ls A S hret hloc hK hN hSF hP hD hS hA hl
  obtain ⟨hx, hb, hml, hown, hts⟩ := id S
  unfold f_X6_narrow at hf
  refine lv_iload_n hx hb dX6_narrow_0 rfl (lv_at hl 1 rfl) ?_
  refine lv_iconst (v := 1) hx hb dX6_narrow_1 (by decide) ?_
  refine lv_icmp_ne (tgt := 13) hx hb dX6_narrow_2 (by decide) (fun c_1 => ?_) (fun c_1 => ?_)
  · rw [if_neg c_1] at hf
    refine lv_aload_n hx hb dX6_narrow_13 rfl (lv_at hl 0 rfl) ?_
    refine lv_lload_n hx hb dX6_narrow_14 rfl (lv_at hl 2 rfl) ?_
    refine lv_lconst (v := 1) hx hb dX6_narrow_15 (by decide) ?_
    refine lv_ladd hx hb dX6_narrow_16 ?_
    refine va_put (D := D) (ci := 6) (v := .long (x2 + (1 : Int64))) (ty := .long) (C := RX6) (T := TX6) (N := 2) hx hb hts inGX6 tyX6 tyX6_ok nmX6 hown hK hP hD hS 0 rfl rfl 0 (by decide) (hts _ fl_X6_9) (fun _ h9 => h9) rfl (by decide +kernel) rfl rfl (Nat.le_of_ble_eq_true rfl) dX6_narrow_17 (fun H locs hP hD hS => ?_)
    have hP : va_P D vwCl [(q, .inr (6, [.long (x2 + (1 : Int64)), .long hi]))] H := hP
    have hD : va_D A [(q, .inr (6, [.long (x2 + (1 : Int64)), .long hi]))] := hD
    cases hf
    exact k_wretv hx hb hret hloc hP hD hS dX6_narrow_20
  · rw [if_pos c_1] at hf
    refine lv_aload_n hx hb dX6_narrow_5 rfl (lv_at hl 0 rfl) ?_
    refine lv_lload_n hx hb dX6_narrow_6 rfl (lv_at hl 2 rfl) ?_
    refine va_put (D := D) (ci := 6) (v := .long x2) (ty := .long) (C := RX6) (T := TX6) (N := 2) hx hb hts inGX6 tyX6 tyX6_ok nmX6 hown hK hP hD hS 0 rfl rfl 1 (by decide) (hts _ fl_X6_17) (fun _ h9 => h9) rfl (by decide +kernel) rfl rfl (Nat.le_of_ble_eq_true rfl) dX6_narrow_7 (fun H locs hP hD hS => ?_)
    have hP : va_P D vwCl [(q, .inr (6, [.long lo, .long x2]))] H := hP
    have hD : va_D A [(q, .inr (6, [.long lo, .long x2]))] := hD
    refine lv_goto (tgt := 20) hx hb dX6_narrow_10 (by decide) ?_
    cases hf
    exact k_wretv hx hb hret hloc hP hD hS dX6_narrow_20
theorem dX6_topIsSettled_0 : decode cX6_topIsSettled 0 = .ok (.aload_n 0, 1) := by decide +kernel
theorem dX6_topIsSettled_1 : decode cX6_topIsSettled 1 = .ok (.getfield 9, 3) := by decide +kernel
theorem dX6_topIsSettled_4 : decode cX6_topIsSettled 4 = .ok (.ldc2_w 22, 3) := by decide +kernel
theorem dX6_topIsSettled_7 : decode cX6_topIsSettled 7 = .ok (.ldiv, 1) := by decide +kernel
theorem dX6_topIsSettled_8 : decode cX6_topIsSettled 8 = .ok (.aload_n 0, 1) := by decide +kernel
theorem dX6_topIsSettled_9 : decode cX6_topIsSettled 9 = .ok (.getfield 17, 3) := by decide +kernel
theorem dX6_topIsSettled_12 : decode cX6_topIsSettled 12 = .ok (.ldc2_w 22, 3) := by decide +kernel
theorem dX6_topIsSettled_15 : decode cX6_topIsSettled 15 = .ok (.ldiv, 1) := by decide +kernel
theorem dX6_topIsSettled_16 : decode cX6_topIsSettled 16 = .ok (.lcmp, 1) := by decide +kernel
theorem dX6_topIsSettled_17 : decode cX6_topIsSettled 17 = .ok (.ifCond .ne 7, 3) := by decide +kernel
theorem dX6_topIsSettled_20 : decode cX6_topIsSettled 20 = .ok (.iconst 1, 1) := by decide +kernel
theorem dX6_topIsSettled_21 : decode cX6_topIsSettled 21 = .ok (.goto 4, 3) := by decide +kernel
theorem dX6_topIsSettled_24 : decode cX6_topIsSettled 24 = .ok (.iconst 0, 1) := by decide +kernel
theorem dX6_topIsSettled_25 : decode cX6_topIsSettled 25 = .ok (.ireturn, 1) := by decide +kernel
def f_X6_topIsSettled (lo : Int64) (hi : Int64) : Int32 := if (lg_cmp (lo / (16777216 : Int64)) (hi / (16777216 : Int64))) = 0 then ((1 : Int32)) else ((0 : Int32))
set_option maxHeartbeats 4000000 in
set_option maxRecDepth 100000 in
theorem c_X6_topIsSettled (l : Launch) (D : va_G) (cI : ClassId) (q : Nat) (lo : Int64) (hi : Int64) (r : Int32) (hf : f_X6_topIsSettled lo hi = r) : Met l yX6_topIsSettled (.code yX6_topIsSettled cX6_topIsSettled 1 (some .boolean) :: wsG) ({ frames := 0, cells := 0, slots := 0, locals := 0 }) (va_Pc [.ref q] (gw D cI [(q, .inr (6, [.long lo, .long hi]))])) (vp_Si (fun x => x = r)) 0 0 (fun _ => False) := by
  refine k_ro (by decide) rfl (Nat.le_of_ble_eq_true rfl) rfl ?_
  intro p e s m below meth c ls S hret hloc hK hN hSF hP hl
  obtain ⟨hx, hb, hml, hown, hts⟩ := id S
  unfold f_X6_topIsSettled at hf
  refine lv_aload_n hx hb dX6_topIsSettled_0 rfl (lv_at hl 0 rfl) ?_
  refine va_get (D := D) (ci := 6) (v := .long lo) (C := RX6) (T := TX6) (N := 2) hx hb hts inGX6 hown hK hP 0 rfl rfl 0 (by decide) (hts _ fl_X6_9) (fun _ h9 => h9) rfl dX6_topIsSettled_1 ?_
  refine lv_ldc2 (v := (16777216 : Int64)) hx hb hown (hts _ ck_X6_22) dX6_topIsSettled_4 ?_
  refine lv_ldiv hx hb dX6_topIsSettled_7 (by decide) ?_
  refine lv_aload_n hx hb dX6_topIsSettled_8 rfl (lv_at hl 0 rfl) ?_
  refine va_get (D := D) (ci := 6) (v := .long hi) (C := RX6) (T := TX6) (N := 2) hx hb hts inGX6 hown hK hP 0 rfl rfl 1 (by decide) (hts _ fl_X6_17) (fun _ h9 => h9) rfl dX6_topIsSettled_9 ?_
  refine lv_ldc2 (v := (16777216 : Int64)) hx hb hown (hts _ ck_X6_22) dX6_topIsSettled_12 ?_
  refine lv_ldiv hx hb dX6_topIsSettled_15 (by decide) ?_
  refine W.lcmp hx hb dX6_topIsSettled_16 ?_
  refine lv_if_ne (tgt := 24) hx hb dX6_topIsSettled_17 (by decide) (fun c_1 => ?_) (fun c_1 => ?_)
  · rw [if_neg c_1] at hf
    refine lv_iconst (v := 0) hx hb dX6_topIsSettled_24 (by decide) ?_
    exact k_retz hx hb hret hloc rfl hf dX6_topIsSettled_25
  · rw [if_pos c_1] at hf
    refine lv_iconst (v := 1) hx hb dX6_topIsSettled_20 (by decide) ?_
    refine lv_goto (tgt := 25) hx hb dX6_topIsSettled_21 (by decide) ?_
    exact k_retz hx hb hret hloc rfl hf dX6_topIsSettled_25
theorem dX6_topOfLow_0 : decode cX6_topOfLow 0 = .ok (.aload_n 0, 1) := by decide +kernel
theorem dX6_topOfLow_1 : decode cX6_topOfLow 1 = .ok (.getfield 9, 3) := by decide +kernel
theorem dX6_topOfLow_4 : decode cX6_topOfLow 4 = .ok (.ldc2_w 22, 3) := by decide +kernel
theorem dX6_topOfLow_7 : decode cX6_topOfLow 7 = .ok (.ldiv, 1) := by decide +kernel
theorem dX6_topOfLow_8 : decode cX6_topOfLow 8 = .ok (.l2i, 1) := by decide +kernel
theorem dX6_topOfLow_9 : decode cX6_topOfLow 9 = .ok (.ireturn, 1) := by decide +kernel
def f_X6_topOfLow (lo : Int64) : Int32 := (lo / (16777216 : Int64)).toInt32
set_option maxHeartbeats 4000000 in
set_option maxRecDepth 100000 in
theorem c_X6_topOfLow (l : Launch) (D : va_G) (cI : ClassId) (q : Nat) (lo : Int64) (hi : Int64) (r : Int32) (hf : f_X6_topOfLow lo = r) : Met l yX6_topOfLow (.code yX6_topOfLow cX6_topOfLow 1 (some .int) :: wsG) ({ frames := 0, cells := 0, slots := 0, locals := 0 }) (va_Pc [.ref q] (gw D cI [(q, .inr (6, [.long lo, .long hi]))])) (vp_Si (fun x => x = r)) 0 0 (fun _ => False) := by
  refine k_ro (by decide) rfl (Nat.le_of_ble_eq_true rfl) rfl ?_
  intro p e s m below meth c ls S hret hloc hK hN hSF hP hl
  obtain ⟨hx, hb, hml, hown, hts⟩ := id S
  unfold f_X6_topOfLow at hf
  refine lv_aload_n hx hb dX6_topOfLow_0 rfl (lv_at hl 0 rfl) ?_
  refine va_get (D := D) (ci := 6) (v := .long lo) (C := RX6) (T := TX6) (N := 2) hx hb hts inGX6 hown hK hP 0 rfl rfl 0 (by decide) (hts _ fl_X6_9) (fun _ h9 => h9) rfl dX6_topOfLow_1 ?_
  refine lv_ldc2 (v := (16777216 : Int64)) hx hb hown (hts _ ck_X6_22) dX6_topOfLow_4 ?_
  refine lv_ldiv hx hb dX6_topOfLow_7 (by decide) ?_
  refine lv_l2i hx hb dX6_topOfLow_8 rfl ?_
  exact k_reti hx hb hret hloc hf dX6_topOfLow_9
theorem dX6_loseTop_0 : decode cX6_loseTop 0 = .ok (.aload_n 0, 1) := by decide +kernel
theorem dX6_loseTop_1 : decode cX6_loseTop 1 = .ok (.aload_n 0, 1) := by decide +kernel
theorem dX6_loseTop_2 : decode cX6_loseTop 2 = .ok (.getfield 9, 3) := by decide +kernel
theorem dX6_loseTop_5 : decode cX6_loseTop 5 = .ok (.ldc2_w 24, 3) := by decide +kernel
theorem dX6_loseTop_8 : decode cX6_loseTop 8 = .ok (.lmul, 1) := by decide +kernel
theorem dX6_loseTop_9 : decode cX6_loseTop 9 = .ok (.ldc2_w 26, 3) := by decide +kernel
theorem dX6_loseTop_12 : decode cX6_loseTop 12 = .ok (.lrem, 1) := by decide +kernel
theorem dX6_loseTop_13 : decode cX6_loseTop 13 = .ok (.putfield 9, 3) := by decide +kernel
theorem dX6_loseTop_16 : decode cX6_loseTop 16 = .ok (.aload_n 0, 1) := by decide +kernel
theorem dX6_loseTop_17 : decode cX6_loseTop 17 = .ok (.aload_n 0, 1) := by decide +kernel
theorem dX6_loseTop_18 : decode cX6_loseTop 18 = .ok (.getfield 17, 3) := by decide +kernel
theorem dX6_loseTop_21 : decode cX6_loseTop 21 = .ok (.ldc2_w 24, 3) := by decide +kernel
theorem dX6_loseTop_24 : decode cX6_loseTop 24 = .ok (.lmul, 1) := by decide +kernel
theorem dX6_loseTop_25 : decode cX6_loseTop 25 = .ok (.ldc2_w 28, 3) := by decide +kernel
theorem dX6_loseTop_28 : decode cX6_loseTop 28 = .ok (.ladd, 1) := by decide +kernel
theorem dX6_loseTop_29 : decode cX6_loseTop 29 = .ok (.ldc2_w 26, 3) := by decide +kernel
theorem dX6_loseTop_32 : decode cX6_loseTop 32 = .ok (.lrem, 1) := by decide +kernel
theorem dX6_loseTop_33 : decode cX6_loseTop 33 = .ok (.putfield 17, 3) := by decide +kernel
theorem dX6_loseTop_36 : decode cX6_loseTop 36 = .ok (.return_, 1) := by decide +kernel
def f_X6_loseTop (lo : Int64) (hi : Int64) : Option (Int64 × Int64) := some ((lo * (256 : Int64)) - (lo * (256 : Int64)) / (4294967296 : Int64) * (4294967296 : Int64), ((hi * (256 : Int64)) + (255 : Int64)) - ((hi * (256 : Int64)) + (255 : Int64)) / (4294967296 : Int64) * (4294967296 : Int64))
set_option maxHeartbeats 4000000 in
set_option maxRecDepth 100000 in
theorem c_X6_loseTop (l : Launch) (D : va_G) (cI : ClassId) {sz : Nat} (q : Nat) (lo : Int64) (hi : Int64) (o_lo : Int64) (o_hi : Int64) (hf : f_X6_loseTop lo hi = some (o_lo, o_hi)) : Met l yX6_loseTop (.code yX6_loseTop cX6_loseTop 1 none :: wsG) ({ frames := 0, cells := 0, slots := 0, locals := 0 }) (va_Pc [.ref q] (gv D cI sz [(q, .inr (6, [.long lo, .long hi]))])) (va_Qv (fun (_ : Unit) => True) (gz D (va_A [(q, .inr (6, [.long lo, .long hi]))] sz) [(q, .inr (6, [.long o_lo, .long o_hi]))]) (va_A [(q, .inr (6, [.long lo, .long hi]))] sz)) 0 0 (va_A [(q, .inr (6, [.long lo, .long hi]))] sz) := by
  refine k_rw (Qc := fun A => va_Qv (fun (_ : Unit) => True) (gz D A [(q, .inr (6, [.long o_lo, .long o_hi]))]) A) (by decide) rfl (Nat.le_of_ble_eq_true rfl) rfl ?_
  intro p e s m below meth c ls A S hret hloc hK hN hSF hP hD hS hA hl
  obtain ⟨hx, hb, hml, hown, hts⟩ := id S
  unfold f_X6_loseTop at hf
  refine lv_aload_n hx hb dX6_loseTop_0 rfl (lv_at hl 0 rfl) ?_
  refine lv_aload_n hx hb dX6_loseTop_1 rfl (lv_at hl 0 rfl) ?_
  refine va_get (D := D) (ci := 6) (v := .long lo) (C := RX6) (T := TX6) (N := 2) hx hb hts inGX6 hown hK hP 0 rfl rfl 0 (by decide) (hts _ fl_X6_9) (fun _ h9 => h9) rfl dX6_loseTop_2 ?_
  refine lv_ldc2 (v := (256 : Int64)) hx hb hown (hts _ ck_X6_24) dX6_loseTop_5 ?_
  refine lv_lmul hx hb dX6_loseTop_8 ?_
  refine lv_ldc2 (v := (4294967296 : Int64)) hx hb hown (hts _ ck_X6_26) dX6_loseTop_9 ?_
  refine lv_lrem hx hb dX6_loseTop_12 (by decide) ?_
  refine va_put (D := D) (ci := 6) (v := .long ((lo * (256 : Int64)) - (lo * (256 : Int64)) / (4294967296 : Int64) * (4294967296 : Int64))) (ty := .long) (C := RX6) (T := TX6) (N := 2) hx hb hts inGX6 tyX6 tyX6_ok nmX6 hown hK hP hD hS 0 rfl rfl 0 (by decide) (hts _ fl_X6_9) (fun _ h9 => h9) rfl (by decide +kernel) rfl rfl (Nat.le_of_ble_eq_true rfl) dX6_loseTop_13 (fun H locs hP hD hS => ?_)
  have hP : va_P D vwCl [(q, .inr (6, [.long ((lo * (256 : Int64)) - (lo * (256 : Int64)) / (4294967296 : Int64) * (4294967296 : Int64)), .long hi]))] H := hP
  have hD : va_D A [(q, .inr (6, [.long ((lo * (256 : Int64)) - (lo * (256 : Int64)) / (4294967296 : Int64) * (4294967296 : Int64)), .long hi]))] := hD
  refine lv_aload_n hx hb dX6_loseTop_16 rfl (lv_at hl 0 rfl) ?_
  refine lv_aload_n hx hb dX6_loseTop_17 rfl (lv_at hl 0 rfl) ?_
  refine va_get (D := D) (ci := 6) (v := .long hi) (C := RX6) (T := TX6) (N := 2) hx hb hts inGX6 hown hK hP 0 rfl rfl 1 (by decide) (hts _ fl_X6_17) (fun _ h9 => h9) rfl dX6_loseTop_18 ?_
  refine lv_ldc2 (v := (256 : Int64)) hx hb hown (hts _ ck_X6_24) dX6_loseTop_21 ?_
  refine lv_lmul hx hb dX6_loseTop_24 ?_
  refine lv_ldc2 (v := (255 : Int64)) hx hb hown (hts _ ck_X6_28) dX6_loseTop_25 ?_
  refine lv_ladd hx hb dX6_loseTop_28 ?_
  refine lv_ldc2 (v := (4294967296 : Int64)) hx hb hown (hts _ ck_X6_26) dX6_loseTop_29 ?_
  refine lv_lrem hx hb dX6_loseTop_32 (by decide) ?_
  refine va_put (D := D) (ci := 6) (v := .long (((hi * (256 : Int64)) + (255 : Int64)) - ((hi * (256 : Int64)) + (255 : Int64)) / (4294967296 : Int64) * (4294967296 : Int64))) (ty := .long) (C := RX6) (T := TX6) (N := 2) hx hb hts inGX6 tyX6 tyX6_ok nmX6 hown hK hP hD hS 0 rfl rfl 1 (by decide) (hts _ fl_X6_17) (fun _ h9 => h9) rfl (by decide +kernel) rfl rfl (Nat.le_of_ble_eq_true rfl) dX6_loseTop_33 (fun H locs hP hD hS => ?_)
  have hP : va_P D vwCl [(q, .inr (6, [.long ((lo * (256 : Int64)) - (lo * (256 : Int64)) / (4294967296 : Int64) * (4294967296 : Int64)), .long (((hi * (256 : Int64)) + (255 : Int64)) - ((hi * (256 : Int64)) + (255 : Int64)) / (4294967296 : Int64) * (4294967296 : Int64))]))] H := hP
  have hD : va_D A [(q, .inr (6, [.long ((lo * (256 : Int64)) - (lo * (256 : Int64)) / (4294967296 : Int64) * (4294967296 : Int64)), .long (((hi * (256 : Int64)) + (255 : Int64)) - ((hi * (256 : Int64)) + (255 : Int64)) / (4294967296 : Int64) * (4294967296 : Int64))]))] := hD
  cases hf
  exact k_wretv hx hb hret hloc hP hD hS dX6_loseTop_36
end
section
theorem dX2_countBy_0 : decode cX2_countBy 0 = .ok (.aload_n 0, 1) := by decide +kernel
theorem dX2_countBy_1 : decode cX2_countBy 1 = .ok (.getfield 14, 3) := by decide +kernel
theorem dX2_countBy_4 : decode cX2_countBy 4 = .ok (.iload_n 1, 1) := by decide +kernel
theorem dX2_countBy_5 : decode cX2_countBy 5 = .ok (.iload_n 2, 1) := by decide +kernel
theorem dX2_countBy_6 : decode cX2_countBy 6 = .ok (.invokestatic 67, 3) := by decide +kernel
theorem dX2_countBy_9 : decode cX2_countBy 9 = .ok (.invokevirtual 79, 3) := by decide +kernel
theorem dX2_countBy_12 : decode cX2_countBy 12 = .ok (.ireturn, 1) := by decide +kernel
theorem ok_X2_path : okS yX2_path 2 := by decide +kernel
theorem gs_X2_67 : GoodIn wsG (va_wsS RX2 67 yX2_path (.code yX2_path cX2_path 2 (some .int) :: wsG)) := good_S ml_X2_67 st_X2_path ini_X2 co_X2_path
theorem gs_X2_79 : GoodIn wsG (wsV RX2 79 RX4 yX4_get (.code yX4_get cX4_get 2 (some .int) :: wsG)) := good_V ml_X2_79 im_X4_get se_X4_get ini_X4 co_X4_get
def f_X2_countBy (cn : (Nat → Int32)) (x1 : Int32) (x2 : Int32) : Int32 := (f_X4_get 500 cn (f_X2_path x1 x2))
set_option maxHeartbeats 4000000 in
set_option maxRecDepth 100000 in
theorem c_X2_countBy (l : Launch) (D : va_G) (cI : ClassId) (q : Nat) (qs : Nat) (qc : Nat) (qn : Nat) (qo : Nat) (ql : Nat) (qf : Nat) (qca : Nat) (qna : Nat) (qoa : Nat) (qla : Nat) (qfa : Nat) (qsr : Nat) (qsa : Nat) (st : Int32) (he : Int32) (ta : Int32) (cl : Int32) (dr : Int32) (cn : (Nat → Int32)) (nx : (Nat → Int32)) (og : (Nat → Int32)) (li : (Nat → Int32)) (fl : (Nat → Int32)) (sv : (Nat → Int32)) (x1 : Int32) (x2 : Int32) (r : Int32) (hf : f_X2_countBy cn x1 x2 = r) : Met l yX2_countBy (.code yX2_countBy cX2_countBy 3 (some .int) :: wsG) ({ frames := 1, cells := 0, slots := 0, locals := 21 }) (va_Pc [.ref q, .int x1, .int x2] (gw D cI [(q, .inr (2, [.ref qs, .ref qc, .ref qn, .ref qo, .ref ql, .ref qf, .int st, .int he, .int ta, .int cl, .int dr])), (qc, .inr (4, [.ref qca])), (qca, .inl (cI, 500, .inl cn)), (qn, .inr (4, [.ref qna])), (qna, .inl (cI, 500, .inl nx)), (qo, .inr (4, [.ref qoa])), (qoa, .inl (cI, 250, .inl og)), (ql, .inr (4, [.ref qla])), (qla, .inl (cI, 250, .inl li)), (qf, .inr (4, [.ref qfa])), (qfa, .inl (cI, 250, .inl fl)), (qs, .inr (5, [.ref qsr])), (qsr, .inr (4, [.ref qsa])), (qsa, .inl (cI, 5, .inl sv))])) (vp_Si (fun x => x = r)) 0 0 (fun _ => False) := by
  refine k_ro (by decide) rfl (Nat.le_of_ble_eq_true rfl) rfl ?_
  intro p e s m below meth c ls S hret hloc hK hN hSF hP hl
  obtain ⟨hx, hb, hml, hown, hts⟩ := id S
  unfold f_X2_countBy at hf
  refine lv_aload_n hx hb dX2_countBy_0 rfl (lv_at hl 0 rfl) ?_
  refine va_get (D := D) (ci := 2) (v := .ref qc) (C := RX2) (T := TX2) (N := 11) hx hb hts inGX2 hown hK hP 0 rfl rfl 1 (by decide) (hts _ fl_X2_14) (fun _ h9 => h9) rfl dX2_countBy_1 ?_
  refine lv_iload_n hx hb dX2_countBy_4 rfl (lv_at hl 1 rfl) ?_
  refine lv_iload_n hx hb dX2_countBy_5 rfl (lv_at hl 2 rfl) ?_
  refine k_roSi (As := [.int x1, .int x2]) (rest := [.ref qc]) S (c_X2_path l D cI (x1 := x1) (x2 := x2)  (r := (f_X2_path x1 x2)) (hf := rfl)) gs_X2_67 ok_X2_path ⟨rfl, rfl⟩ ⟨Nat.le_of_ble_eq_true rfl, Nat.le_of_ble_eq_true rfl⟩ hK hN hSF (hP.sub [] rfl) rfl hl.1 rfl (Nat.le_of_ble_eq_true rfl) ⟨Nat.zero_le _, Nat.zero_le _⟩ dX2_countBy_6 ?_
  refine k_roVi (As := [.int (f_X2_path x1 x2)]) (rest := []) S (c_X4_get l D cI (q := qc) (qa := qca) (n := 500) (f := cn) (x1 := (f_X2_path x1 x2)) (hn := by decide) (r := (f_X4_get 500 cn (f_X2_path x1 x2))) (hf := rfl)) gs_X2_79 ok_X4_get ⟨rfl, rfl⟩ ⟨Nat.le_of_ble_eq_true rfl, Nat.le_of_ble_eq_true rfl⟩ hK hN hSF (hP.sub [1, 2] rfl) rfl rfl rfl hl.1 rfl (Nat.le_of_ble_eq_true rfl) ⟨Nat.zero_le _, Nat.zero_le _⟩ dX2_countBy_9 ?_
  exact k_reti hx hb hret hloc hf dX2_countBy_12
theorem dX2_nextBy_0 : decode cX2_nextBy 0 = .ok (.aload_n 0, 1) := by decide +kernel
theorem dX2_nextBy_1 : decode cX2_nextBy 1 = .ok (.getfield 20, 3) := by decide +kernel
theorem dX2_nextBy_4 : decode cX2_nextBy 4 = .ok (.iload_n 1, 1) := by decide +kernel
theorem dX2_nextBy_5 : decode cX2_nextBy 5 = .ok (.iload_n 2, 1) := by decide +kernel
theorem dX2_nextBy_6 : decode cX2_nextBy 6 = .ok (.invokestatic 67, 3) := by decide +kernel
theorem dX2_nextBy_9 : decode cX2_nextBy 9 = .ok (.invokevirtual 79, 3) := by decide +kernel
theorem dX2_nextBy_12 : decode cX2_nextBy 12 = .ok (.ireturn, 1) := by decide +kernel
def f_X2_nextBy (nx : (Nat → Int32)) (x1 : Int32) (x2 : Int32) : Int32 := (f_X4_get 500 nx (f_X2_path x1 x2))
set_option maxHeartbeats 4000000 in
set_option maxRecDepth 100000 in
theorem c_X2_nextBy (l : Launch) (D : va_G) (cI : ClassId) (q : Nat) (qs : Nat) (qc : Nat) (qn : Nat) (qo : Nat) (ql : Nat) (qf : Nat) (qca : Nat) (qna : Nat) (qoa : Nat) (qla : Nat) (qfa : Nat) (qsr : Nat) (qsa : Nat) (st : Int32) (he : Int32) (ta : Int32) (cl : Int32) (dr : Int32) (cn : (Nat → Int32)) (nx : (Nat → Int32)) (og : (Nat → Int32)) (li : (Nat → Int32)) (fl : (Nat → Int32)) (sv : (Nat → Int32)) (x1 : Int32) (x2 : Int32) (r : Int32) (hf : f_X2_nextBy nx x1 x2 = r) : Met l yX2_nextBy (.code yX2_nextBy cX2_nextBy 3 (some .int) :: wsG) ({ frames := 1, cells := 0, slots := 0, locals := 21 }) (va_Pc [.ref q, .int x1, .int x2] (gw D cI [(q, .inr (2, [.ref qs, .ref qc, .ref qn, .ref qo, .ref ql, .ref qf, .int st, .int he, .int ta, .int cl, .int dr])), (qc, .inr (4, [.ref qca])), (qca, .inl (cI, 500, .inl cn)), (qn, .inr (4, [.ref qna])), (qna, .inl (cI, 500, .inl nx)), (qo, .inr (4, [.ref qoa])), (qoa, .inl (cI, 250, .inl og)), (ql, .inr (4, [.ref qla])), (qla, .inl (cI, 250, .inl li)), (qf, .inr (4, [.ref qfa])), (qfa, .inl (cI, 250, .inl fl)), (qs, .inr (5, [.ref qsr])), (qsr, .inr (4, [.ref qsa])), (qsa, .inl (cI, 5, .inl sv))])) (vp_Si (fun x => x = r)) 0 0 (fun _ => False) := by
  refine k_ro (by decide) rfl (Nat.le_of_ble_eq_true rfl) rfl ?_
  intro p e s m below meth c ls S hret hloc hK hN hSF hP hl
  obtain ⟨hx, hb, hml, hown, hts⟩ := id S
  unfold f_X2_nextBy at hf
  refine lv_aload_n hx hb dX2_nextBy_0 rfl (lv_at hl 0 rfl) ?_
  refine va_get (D := D) (ci := 2) (v := .ref qn) (C := RX2) (T := TX2) (N := 11) hx hb hts inGX2 hown hK hP 0 rfl rfl 2 (by decide) (hts _ fl_X2_20) (fun _ h9 => h9) rfl dX2_nextBy_1 ?_
  refine lv_iload_n hx hb dX2_nextBy_4 rfl (lv_at hl 1 rfl) ?_
  refine lv_iload_n hx hb dX2_nextBy_5 rfl (lv_at hl 2 rfl) ?_
  refine k_roSi (As := [.int x1, .int x2]) (rest := [.ref qn]) S (c_X2_path l D cI (x1 := x1) (x2 := x2)  (r := (f_X2_path x1 x2)) (hf := rfl)) gs_X2_67 ok_X2_path ⟨rfl, rfl⟩ ⟨Nat.le_of_ble_eq_true rfl, Nat.le_of_ble_eq_true rfl⟩ hK hN hSF (hP.sub [] rfl) rfl hl.1 rfl (Nat.le_of_ble_eq_true rfl) ⟨Nat.zero_le _, Nat.zero_le _⟩ dX2_nextBy_6 ?_
  refine k_roVi (As := [.int (f_X2_path x1 x2)]) (rest := []) S (c_X4_get l D cI (q := qn) (qa := qna) (n := 500) (f := nx) (x1 := (f_X2_path x1 x2)) (hn := by decide) (r := (f_X4_get 500 nx (f_X2_path x1 x2))) (hf := rfl)) gs_X2_79 ok_X4_get ⟨rfl, rfl⟩ ⟨Nat.le_of_ble_eq_true rfl, Nat.le_of_ble_eq_true rfl⟩ hK hN hSF (hP.sub [3, 4] rfl) rfl rfl rfl hl.1 rfl (Nat.le_of_ble_eq_true rfl) ⟨Nat.zero_le _, Nat.zero_le _⟩ dX2_nextBy_9 ?_
  exact k_reti hx hb hret hloc hf dX2_nextBy_12
theorem dX2_lineOf_0 : decode cX2_lineOf 0 = .ok (.aload_n 0, 1) := by decide +kernel
theorem dX2_lineOf_1 : decode cX2_lineOf 1 = .ok (.getfield 26, 3) := by decide +kernel
theorem dX2_lineOf_4 : decode cX2_lineOf 4 = .ok (.iload_n 1, 1) := by decide +kernel
theorem dX2_lineOf_5 : decode cX2_lineOf 5 = .ok (.invokevirtual 79, 3) := by decide +kernel
theorem dX2_lineOf_8 : decode cX2_lineOf 8 = .ok (.ireturn, 1) := by decide +kernel
def f_X2_lineOf (li : (Nat → Int32)) (x1 : Int32) : Int32 := (f_X4_get 250 li x1)
set_option maxHeartbeats 4000000 in
set_option maxRecDepth 100000 in
theorem c_X2_lineOf (l : Launch) (D : va_G) (cI : ClassId) (q : Nat) (qs : Nat) (qc : Nat) (qn : Nat) (qo : Nat) (ql : Nat) (qf : Nat) (qca : Nat) (qna : Nat) (qoa : Nat) (qla : Nat) (qfa : Nat) (qsr : Nat) (qsa : Nat) (st : Int32) (he : Int32) (ta : Int32) (cl : Int32) (dr : Int32) (cn : (Nat → Int32)) (nx : (Nat → Int32)) (og : (Nat → Int32)) (li : (Nat → Int32)) (fl : (Nat → Int32)) (sv : (Nat → Int32)) (x1 : Int32) (r : Int32) (hf : f_X2_lineOf li x1 = r) : Met l yX2_lineOf (.code yX2_lineOf cX2_lineOf 2 (some .int) :: wsG) ({ frames := 1, cells := 0, slots := 0, locals := 21 }) (va_Pc [.ref q, .int x1] (gw D cI [(q, .inr (2, [.ref qs, .ref qc, .ref qn, .ref qo, .ref ql, .ref qf, .int st, .int he, .int ta, .int cl, .int dr])), (qc, .inr (4, [.ref qca])), (qca, .inl (cI, 500, .inl cn)), (qn, .inr (4, [.ref qna])), (qna, .inl (cI, 500, .inl nx)), (qo, .inr (4, [.ref qoa])), (qoa, .inl (cI, 250, .inl og)), (ql, .inr (4, [.ref qla])), (qla, .inl (cI, 250, .inl li)), (qf, .inr (4, [.ref qfa])), (qfa, .inl (cI, 250, .inl fl)), (qs, .inr (5, [.ref qsr])), (qsr, .inr (4, [.ref qsa])), (qsa, .inl (cI, 5, .inl sv))])) (vp_Si (fun x => x = r)) 0 0 (fun _ => False) := by
  refine k_ro (by decide) rfl (Nat.le_of_ble_eq_true rfl) rfl ?_
  intro p e s m below meth c ls S hret hloc hK hN hSF hP hl
  obtain ⟨hx, hb, hml, hown, hts⟩ := id S
  unfold f_X2_lineOf at hf
  refine lv_aload_n hx hb dX2_lineOf_0 rfl (lv_at hl 0 rfl) ?_
  refine va_get (D := D) (ci := 2) (v := .ref ql) (C := RX2) (T := TX2) (N := 11) hx hb hts inGX2 hown hK hP 0 rfl rfl 4 (by decide) (hts _ fl_X2_26) (fun _ h9 => h9) rfl dX2_lineOf_1 ?_
  refine lv_iload_n hx hb dX2_lineOf_4 rfl (lv_at hl 1 rfl) ?_
  refine k_roVi (As := [.int x1]) (rest := []) S (c_X4_get l D cI (q := ql) (qa := qla) (n := 250) (f := li) (x1 := x1) (hn := by decide) (r := (f_X4_get 250 li x1)) (hf := rfl)) gs_X2_79 ok_X4_get ⟨rfl, rfl⟩ ⟨Nat.le_of_ble_eq_true rfl, Nat.le_of_ble_eq_true rfl⟩ hK hN hSF (hP.sub [7, 8] rfl) rfl rfl rfl hl.1 rfl (Nat.le_of_ble_eq_true rfl) ⟨Nat.zero_le _, Nat.zero_le _⟩ dX2_lineOf_5 ?_
  exact k_reti hx hb hret hloc hf dX2_lineOf_8
theorem dX2_originOf_0 : decode cX2_originOf 0 = .ok (.aload_n 0, 1) := by decide +kernel
theorem dX2_originOf_1 : decode cX2_originOf 1 = .ok (.getfield 23, 3) := by decide +kernel
theorem dX2_originOf_4 : decode cX2_originOf 4 = .ok (.iload_n 1, 1) := by decide +kernel
theorem dX2_originOf_5 : decode cX2_originOf 5 = .ok (.invokevirtual 79, 3) := by decide +kernel
theorem dX2_originOf_8 : decode cX2_originOf 8 = .ok (.ireturn, 1) := by decide +kernel
def f_X2_originOf (og : (Nat → Int32)) (x1 : Int32) : Int32 := (f_X4_get 250 og x1)
set_option maxHeartbeats 4000000 in
set_option maxRecDepth 100000 in
theorem c_X2_originOf (l : Launch) (D : va_G) (cI : ClassId) (q : Nat) (qs : Nat) (qc : Nat) (qn : Nat) (qo : Nat) (ql : Nat) (qf : Nat) (qca : Nat) (qna : Nat) (qoa : Nat) (qla : Nat) (qfa : Nat) (qsr : Nat) (qsa : Nat) (st : Int32) (he : Int32) (ta : Int32) (cl : Int32) (dr : Int32) (cn : (Nat → Int32)) (nx : (Nat → Int32)) (og : (Nat → Int32)) (li : (Nat → Int32)) (fl : (Nat → Int32)) (sv : (Nat → Int32)) (x1 : Int32) (r : Int32) (hf : f_X2_originOf og x1 = r) : Met l yX2_originOf (.code yX2_originOf cX2_originOf 2 (some .int) :: wsG) ({ frames := 1, cells := 0, slots := 0, locals := 21 }) (va_Pc [.ref q, .int x1] (gw D cI [(q, .inr (2, [.ref qs, .ref qc, .ref qn, .ref qo, .ref ql, .ref qf, .int st, .int he, .int ta, .int cl, .int dr])), (qc, .inr (4, [.ref qca])), (qca, .inl (cI, 500, .inl cn)), (qn, .inr (4, [.ref qna])), (qna, .inl (cI, 500, .inl nx)), (qo, .inr (4, [.ref qoa])), (qoa, .inl (cI, 250, .inl og)), (ql, .inr (4, [.ref qla])), (qla, .inl (cI, 250, .inl li)), (qf, .inr (4, [.ref qfa])), (qfa, .inl (cI, 250, .inl fl)), (qs, .inr (5, [.ref qsr])), (qsr, .inr (4, [.ref qsa])), (qsa, .inl (cI, 5, .inl sv))])) (vp_Si (fun x => x = r)) 0 0 (fun _ => False) := by
  refine k_ro (by decide) rfl (Nat.le_of_ble_eq_true rfl) rfl ?_
  intro p e s m below meth c ls S hret hloc hK hN hSF hP hl
  obtain ⟨hx, hb, hml, hown, hts⟩ := id S
  unfold f_X2_originOf at hf
  refine lv_aload_n hx hb dX2_originOf_0 rfl (lv_at hl 0 rfl) ?_
  refine va_get (D := D) (ci := 2) (v := .ref qo) (C := RX2) (T := TX2) (N := 11) hx hb hts inGX2 hown hK hP 0 rfl rfl 3 (by decide) (hts _ fl_X2_23) (fun _ h9 => h9) rfl dX2_originOf_1 ?_
  refine lv_iload_n hx hb dX2_originOf_4 rfl (lv_at hl 1 rfl) ?_
  refine k_roVi (As := [.int x1]) (rest := []) S (c_X4_get l D cI (q := qo) (qa := qoa) (n := 250) (f := og) (x1 := x1) (hn := by decide) (r := (f_X4_get 250 og x1)) (hf := rfl)) gs_X2_79 ok_X4_get ⟨rfl, rfl⟩ ⟨Nat.le_of_ble_eq_true rfl, Nat.le_of_ble_eq_true rfl⟩ hK hN hSF (hP.sub [5, 6] rfl) rfl rfl rfl hl.1 rfl (Nat.le_of_ble_eq_true rfl) ⟨Nat.zero_le _, Nat.zero_le _⟩ dX2_originOf_5 ?_
  exact k_reti hx hb hret hloc hf dX2_originOf_8
theorem dX2_bothCounts_0 : decode cX2_bothCounts 0 = .ok (.aload_n 0, 1) := by decide +kernel
theorem dX2_bothCounts_1 : decode cX2_bothCounts 1 = .ok (.iload_n 1, 1) := by decide +kernel
theorem dX2_bothCounts_2 : decode cX2_bothCounts 2 = .ok (.iconst 0, 1) := by decide +kernel
theorem dX2_bothCounts_3 : decode cX2_bothCounts 3 = .ok (.invokevirtual 90, 3) := by decide +kernel
theorem dX2_bothCounts_6 : decode cX2_bothCounts 6 = .ok (.aload_n 0, 1) := by decide +kernel
theorem dX2_bothCounts_7 : decode cX2_bothCounts 7 = .ok (.iload_n 1, 1) := by decide +kernel
theorem dX2_bothCounts_8 : decode cX2_bothCounts 8 = .ok (.iconst 1, 1) := by decide +kernel
theorem dX2_bothCounts_9 : decode cX2_bothCounts 9 = .ok (.invokevirtual 90, 3) := by decide +kernel
theorem dX2_bothCounts_12 : decode cX2_bothCounts 12 = .ok (.iadd, 1) := by decide +kernel
theorem dX2_bothCounts_13 : decode cX2_bothCounts 13 = .ok (.ireturn, 1) := by decide +kernel
theorem ok_X2_countBy : okV yX2_countBy RX2 2 := by decide +kernel
theorem gs_X2_90 : GoodIn wsG (wsV RX2 90 RX2 yX2_countBy (.code yX2_countBy cX2_countBy 3 (some .int) :: wsG)) := good_V ml_X2_90 im_X2_countBy se_X2_countBy ini_X2 co_X2_countBy
def f_X2_bothCounts (cn : (Nat → Int32)) (x1 : Int32) : Int32 := (f_X2_countBy cn x1 0) + (f_X2_countBy cn x1 1)
set_option maxHeartbeats 4000000 in
set_option maxRecDepth 100000 in
theorem c_X2_bothCounts (l : Launch) (D : va_G) (cI : ClassId) (q : Nat) (qs : Nat) (qc : Nat) (qn : Nat) (qo : Nat) (ql : Nat) (qf : Nat) (qca : Nat) (qna : Nat) (qoa : Nat) (qla : Nat) (qfa : Nat) (qsr : Nat) (qsa : Nat) (st : Int32) (he : Int32) (ta : Int32) (cl : Int32) (dr : Int32) (cn : (Nat → Int32)) (nx : (Nat → Int32)) (og : (Nat → Int32)) (li : (Nat → Int32)) (fl : (Nat → Int32)) (sv : (Nat → Int32)) (x1 : Int32) (r : Int32) (hf : f_X2_bothCounts cn x1 = r) : Met l yX2_bothCounts (.code yX2_bothCounts cX2_bothCounts 2 (some .int) :: wsG) ({ frames := 2, cells := 0, slots := 0, locals := 43 }) (va_Pc [.ref q, .int x1] (gw D cI [(q, .inr (2, [.ref qs, .ref qc, .ref qn, .ref qo, .ref ql, .ref qf, .int st, .int he, .int ta, .int cl, .int dr])), (qc, .inr (4, [.ref qca])), (qca, .inl (cI, 500, .inl cn)), (qn, .inr (4, [.ref qna])), (qna, .inl (cI, 500, .inl nx)), (qo, .inr (4, [.ref qoa])), (qoa, .inl (cI, 250, .inl og)), (ql, .inr (4, [.ref qla])), (qla, .inl (cI, 250, .inl li)), (qf, .inr (4, [.ref qfa])), (qfa, .inl (cI, 250, .inl fl)), (qs, .inr (5, [.ref qsr])), (qsr, .inr (4, [.ref qsa])), (qsa, .inl (cI, 5, .inl sv))])) (vp_Si (fun x => x = r)) 0 0 (fun _ => False) := by
  refine k_ro (by decide) rfl (Nat.le_of_ble_eq_true rfl) rfl ?_
  intro p e s m below meth c ls S hret hloc hK hN hSF hP hl
  obtain ⟨hx, hb, hml, hown, hts⟩ := id S
  unfold f_X2_bothCounts at hf
  refine lv_aload_n hx hb dX2_bothCounts_0 rfl (lv_at hl 0 rfl) ?_
  refine lv_iload_n hx hb dX2_bothCounts_1 rfl (lv_at hl 1 rfl) ?_
  refine lv_iconst (v := 0) hx hb dX2_bothCounts_2 (by decide) ?_
  refine k_roVi (As := [.int x1, .int 0]) (rest := []) S (c_X2_countBy l D cI (q := q) (qs := qs) (qc := qc) (qn := qn) (qo := qo) (ql := ql) (qf := qf) (qca := qca) (qna := qna) (qoa := qoa) (qla := qla) (qfa := qfa) (qsr := qsr) (qsa := qsa) (st := st) (he := he) (ta := ta) (cl := cl) (dr := dr) (cn := cn) (nx := nx) (og := og) (li := li) (fl := fl) (sv := sv) (x1 := x1) (x2 := 0)  (r := (f_X2_countBy cn x1 0)) (hf := rfl)) gs_X2_90 ok_X2_countBy ⟨rfl, rfl⟩ ⟨Nat.le_of_ble_eq_true rfl, Nat.le_of_ble_eq_true rfl⟩ hK hN hSF hP rfl rfl rfl hl.1 rfl (Nat.le_of_ble_eq_true rfl) ⟨Nat.zero_le _, Nat.zero_le _⟩ dX2_bothCounts_3 ?_
  refine lv_aload_n hx hb dX2_bothCounts_6 rfl (lv_at hl 0 rfl) ?_
  refine lv_iload_n hx hb dX2_bothCounts_7 rfl (lv_at hl 1 rfl) ?_
  refine lv_iconst (v := 1) hx hb dX2_bothCounts_8 (by decide) ?_
  refine k_roVi (As := [.int x1, .int 1]) (rest := [.int (f_X2_countBy cn x1 0)]) S (c_X2_countBy l D cI (q := q) (qs := qs) (qc := qc) (qn := qn) (qo := qo) (ql := ql) (qf := qf) (qca := qca) (qna := qna) (qoa := qoa) (qla := qla) (qfa := qfa) (qsr := qsr) (qsa := qsa) (st := st) (he := he) (ta := ta) (cl := cl) (dr := dr) (cn := cn) (nx := nx) (og := og) (li := li) (fl := fl) (sv := sv) (x1 := x1) (x2 := 1)  (r := (f_X2_countBy cn x1 1)) (hf := rfl)) gs_X2_90 ok_X2_countBy ⟨rfl, rfl⟩ ⟨Nat.le_of_ble_eq_true rfl, Nat.le_of_ble_eq_true rfl⟩ hK hN hSF hP rfl rfl rfl hl.1 rfl (Nat.le_of_ble_eq_true rfl) ⟨Nat.zero_le _, Nat.zero_le _⟩ dX2_bothCounts_9 ?_
  refine lv_iadd hx hb dX2_bothCounts_12 ?_
  exact k_reti hx hb hret hloc hf dX2_bothCounts_13
theorem dX2_chance_0 : decode cX2_chance 0 = .ok (.ldc2_w 93, 3) := by decide +kernel
theorem dX2_chance_3 : decode cX2_chance 3 = .ok (.aload_n 0, 1) := by decide +kernel
theorem dX2_chance_4 : decode cX2_chance 4 = .ok (.iload_n 1, 1) := by decide +kernel
theorem dX2_chance_5 : decode cX2_chance 5 = .ok (.iconst 1, 1) := by decide +kernel
theorem dX2_chance_6 : decode cX2_chance 6 = .ok (.invokevirtual 90, 3) := by decide +kernel
theorem dX2_chance_9 : decode cX2_chance 9 = .ok (.i2l, 1) := by decide +kernel
theorem dX2_chance_10 : decode cX2_chance 10 = .ok (.lmul, 1) := by decide +kernel
theorem dX2_chance_11 : decode cX2_chance 11 = .ok (.lconst 1, 1) := by decide +kernel
theorem dX2_chance_12 : decode cX2_chance 12 = .ok (.ladd, 1) := by decide +kernel
theorem dX2_chance_13 : decode cX2_chance 13 = .ok (.ldc2_w 95, 3) := by decide +kernel
theorem dX2_chance_16 : decode cX2_chance 16 = .ok (.lmul, 1) := by decide +kernel
theorem dX2_chance_17 : decode cX2_chance 17 = .ok (.lstore_n 2, 1) := by decide +kernel
theorem dX2_chance_18 : decode cX2_chance 18 = .ok (.lload_n 2, 1) := by decide +kernel
theorem dX2_chance_19 : decode cX2_chance 19 = .ok (.ldc2_w 93, 3) := by decide +kernel
theorem dX2_chance_22 : decode cX2_chance 22 = .ok (.aload_n 0, 1) := by decide +kernel
theorem dX2_chance_23 : decode cX2_chance 23 = .ok (.iload_n 1, 1) := by decide +kernel
theorem dX2_chance_24 : decode cX2_chance 24 = .ok (.invokevirtual 80, 3) := by decide +kernel
theorem dX2_chance_27 : decode cX2_chance 27 = .ok (.i2l, 1) := by decide +kernel
theorem dX2_chance_28 : decode cX2_chance 28 = .ok (.lmul, 1) := by decide +kernel
theorem dX2_chance_29 : decode cX2_chance 29 = .ok (.ldc2_w 93, 3) := by decide +kernel
theorem dX2_chance_32 : decode cX2_chance 32 = .ok (.ladd, 1) := by decide +kernel
theorem dX2_chance_33 : decode cX2_chance 33 = .ok (.invokestatic 86, 3) := by decide +kernel
theorem dX2_chance_36 : decode cX2_chance 36 = .ok (.istore 4, 2) := by decide +kernel
theorem dX2_chance_38 : decode cX2_chance 38 = .ok (.iconst 1, 1) := by decide +kernel
theorem dX2_chance_39 : decode cX2_chance 39 = .ok (.sipush 4095, 3) := by decide +kernel
theorem dX2_chance_42 : decode cX2_chance 42 = .ok (.iload 4, 2) := by decide +kernel
theorem dX2_chance_44 : decode cX2_chance 44 = .ok (.invokestatic 97, 3) := by decide +kernel
theorem dX2_chance_47 : decode cX2_chance 47 = .ok (.invokestatic 102, 3) := by decide +kernel
theorem dX2_chance_50 : decode cX2_chance 50 = .ok (.ireturn, 1) := by decide +kernel
theorem ok_X2_bothCounts : okV yX2_bothCounts RX2 1 := by decide +kernel
theorem gs_X2_80 : GoodIn wsG (wsV RX2 80 RX2 yX2_bothCounts (.code yX2_bothCounts cX2_bothCounts 2 (some .int) :: wsG)) := good_V ml_X2_80 im_X2_bothCounts se_X2_bothCounts ini_X2 co_X2_bothCounts
theorem ok_X8_cutQuotient : okS yX8_cutQuotient 2 := by decide +kernel
def f_X2_chance (cn : (Nat → Int32)) (x1 : Int32) : Int32 := (if 1 < (if (f_X8_cutQuotient ((((2 : Int64) * (((f_X2_countBy cn x1 1)).toInt64)) + (1 : Int64)) * (4096 : Int64)) (((2 : Int64) * (((f_X2_bothCounts cn x1)).toInt64)) + (2 : Int64))) < 4095 then (f_X8_cutQuotient ((((2 : Int64) * (((f_X2_countBy cn x1 1)).toInt64)) + (1 : Int64)) * (4096 : Int64)) (((2 : Int64) * (((f_X2_bothCounts cn x1)).toInt64)) + (2 : Int64))) else 4095) then (if (f_X8_cutQuotient ((((2 : Int64) * (((f_X2_countBy cn x1 1)).toInt64)) + (1 : Int64)) * (4096 : Int64)) (((2 : Int64) * (((f_X2_bothCounts cn x1)).toInt64)) + (2 : Int64))) < 4095 then (f_X8_cutQuotient ((((2 : Int64) * (((f_X2_countBy cn x1 1)).toInt64)) + (1 : Int64)) * (4096 : Int64)) (((2 : Int64) * (((f_X2_bothCounts cn x1)).toInt64)) + (2 : Int64))) else 4095) else 1)
set_option maxHeartbeats 4000000 in
set_option maxRecDepth 100000 in
theorem c_X2_chance (l : Launch) (D : va_G) (cI : ClassId) (q : Nat) (qs : Nat) (qc : Nat) (qn : Nat) (qo : Nat) (ql : Nat) (qf : Nat) (qca : Nat) (qna : Nat) (qoa : Nat) (qla : Nat) (qfa : Nat) (qsr : Nat) (qsa : Nat) (st : Int32) (he : Int32) (ta : Int32) (cl : Int32) (dr : Int32) (cn : (Nat → Int32)) (nx : (Nat → Int32)) (og : (Nat → Int32)) (li : (Nat → Int32)) (fl : (Nat → Int32)) (sv : (Nat → Int32)) (x1 : Int32) (r : Int32) (hf : f_X2_chance cn x1 = r) : Met l yX2_chance (.code yX2_chance cX2_chance 5 (some .int) :: wsG) ({ frames := 3, cells := 0, slots := 0, locals := 64 }) (va_Pc [.ref q, .int x1] (gw D cI [(q, .inr (2, [.ref qs, .ref qc, .ref qn, .ref qo, .ref ql, .ref qf, .int st, .int he, .int ta, .int cl, .int dr])), (qc, .inr (4, [.ref qca])), (qca, .inl (cI, 500, .inl cn)), (qn, .inr (4, [.ref qna])), (qna, .inl (cI, 500, .inl nx)), (qo, .inr (4, [.ref qoa])), (qoa, .inl (cI, 250, .inl og)), (ql, .inr (4, [.ref qla])), (qla, .inl (cI, 250, .inl li)), (qf, .inr (4, [.ref qfa])), (qfa, .inl (cI, 250, .inl fl)), (qs, .inr (5, [.ref qsr])), (qsr, .inr (4, [.ref qsa])), (qsa, .inl (cI, 5, .inl sv))])) (vp_Si (fun x => x = r)) 0 0 (fun _ => False) := by
  refine k_ro (by decide) rfl (Nat.le_of_ble_eq_true rfl) rfl ?_
  intro p e s m below meth c ls S hret hloc hK hN hSF hP hl
  obtain ⟨hx, hb, hml, hown, hts⟩ := id S
  unfold f_X2_chance at hf
  refine lv_ldc2 (v := (2 : Int64)) hx hb hown (hts _ ck_X2_93) dX2_chance_0 ?_
  refine lv_aload_n hx hb dX2_chance_3 rfl (lv_at hl 0 rfl) ?_
  refine lv_iload_n hx hb dX2_chance_4 rfl (lv_at hl 1 rfl) ?_
  refine lv_iconst (v := 1) hx hb dX2_chance_5 (by decide) ?_
  refine k_roVi (As := [.int x1, .int 1]) (rest := [.long (2 : Int64)]) S (c_X2_countBy l D cI (q := q) (qs := qs) (qc := qc) (qn := qn) (qo := qo) (ql := ql) (qf := qf) (qca := qca) (qna := qna) (qoa := qoa) (qla := qla) (qfa := qfa) (qsr := qsr) (qsa := qsa) (st := st) (he := he) (ta := ta) (cl := cl) (dr := dr) (cn := cn) (nx := nx) (og := og) (li := li) (fl := fl) (sv := sv) (x1 := x1) (x2 := 1)  (r := (f_X2_countBy cn x1 1)) (hf := rfl)) gs_X2_90 ok_X2_countBy ⟨rfl, rfl⟩ ⟨Nat.le_of_ble_eq_true rfl, Nat.le_of_ble_eq_true rfl⟩ hK hN hSF hP rfl rfl rfl hl.1 rfl (Nat.le_of_ble_eq_true rfl) ⟨Nat.zero_le _, Nat.zero_le _⟩ dX2_chance_6 ?_
  refine lv_i2l hx hb dX2_chance_9 rfl ?_
  refine lv_lmul hx hb dX2_chance_10 ?_
  refine lv_lconst (v := 1) hx hb dX2_chance_11 (by decide) ?_
  refine lv_ladd hx hb dX2_chance_12 ?_
  refine lv_ldc2 (v := (4096 : Int64)) hx hb hown (hts _ ck_X2_95) dX2_chance_13 ?_
  refine lv_lmul hx hb dX2_chance_16 ?_
  refine lv_lstore_n (lv' := [(2, .long ((((2 : Int64) * (((f_X2_countBy cn x1 1)).toInt64)) + (1 : Int64)) * (4096 : Int64))), (0, .ref q), (1, .int x1)]) hx hb dX2_chance_17 rfl hl (by decide) rfl (fun ls hl => ?_)
  refine lv_lload_n hx hb dX2_chance_18 rfl (lv_at hl 0 rfl) ?_
  refine lv_ldc2 (v := (2 : Int64)) hx hb hown (hts _ ck_X2_93) dX2_chance_19 ?_
  refine lv_aload_n hx hb dX2_chance_22 rfl (lv_at hl 1 rfl) ?_
  refine lv_iload_n hx hb dX2_chance_23 rfl (lv_at hl 2 rfl) ?_
  refine k_roVi (As := [.int x1]) (rest := [.long (2 : Int64), .long ((((2 : Int64) * (((f_X2_countBy cn x1 1)).toInt64)) + (1 : Int64)) * (4096 : Int64))]) S (c_X2_bothCounts l D cI (q := q) (qs := qs) (qc := qc) (qn := qn) (qo := qo) (ql := ql) (qf := qf) (qca := qca) (qna := qna) (qoa := qoa) (qla := qla) (qfa := qfa) (qsr := qsr) (qsa := qsa) (st := st) (he := he) (ta := ta) (cl := cl) (dr := dr) (cn := cn) (nx := nx) (og := og) (li := li) (fl := fl) (sv := sv) (x1 := x1)  (r := (f_X2_bothCounts cn x1)) (hf := rfl)) gs_X2_80 ok_X2_bothCounts ⟨rfl, rfl⟩ ⟨Nat.le_of_ble_eq_true rfl, Nat.le_of_ble_eq_true rfl⟩ hK hN hSF hP rfl rfl rfl hl.1 rfl (Nat.le_of_ble_eq_true rfl) ⟨Nat.zero_le _, Nat.zero_le _⟩ dX2_chance_24 ?_
  refine lv_i2l hx hb dX2_chance_27 rfl ?_
  refine lv_lmul hx hb dX2_chance_28 ?_
  refine lv_ldc2 (v := (2 : Int64)) hx hb hown (hts _ ck_X2_93) dX2_chance_29 ?_
  refine lv_ladd hx hb dX2_chance_32 ?_
  refine k_roSNi (As := [.long ((((2 : Int64) * (((f_X2_countBy cn x1 1)).toInt64)) + (1 : Int64)) * (4096 : Int64)), .long (((2 : Int64) * (((f_X2_bothCounts cn x1)).toInt64)) + (2 : Int64))]) (rest := []) S (c_X8_cutQuotient l D cI (x1 := (((2 : Int64) * (((f_X2_countBy cn x1 1)).toInt64)) + (1 : Int64)) * (4096 : Int64)) (x2 := ((2 : Int64) * (((f_X2_bothCounts cn x1)).toInt64)) + (2 : Int64))  (r := (f_X8_cutQuotient ((((2 : Int64) * (((f_X2_countBy cn x1 1)).toInt64)) + (1 : Int64)) * (4096 : Int64)) (((2 : Int64) * (((f_X2_bothCounts cn x1)).toInt64)) + (2 : Int64)))) (hf := rfl)) (good_I co_X8_cutQuotient) (nm_X2_86 hN) st_X8_cutQuotient ini_X8 ok_X8_cutQuotient ⟨rfl, rfl⟩ ⟨Nat.le_of_ble_eq_true rfl, Nat.le_of_ble_eq_true rfl⟩ hK hN hSF (hP.sub [] rfl) rfl hl.1 rfl (Nat.le_of_ble_eq_true rfl) ⟨Nat.zero_le _, Nat.zero_le _⟩ dX2_chance_33 ?_
  refine lv_istore (lv' := [(4, .int (f_X8_cutQuotient ((((2 : Int64) * (((f_X2_countBy cn x1 1)).toInt64)) + (1 : Int64)) * (4096 : Int64)) (((2 : Int64) * (((f_X2_bothCounts cn x1)).toInt64)) + (2 : Int64)))), (2, .long ((((2 : Int64) * (((f_X2_countBy cn x1 1)).toInt64)) + (1 : Int64)) * (4096 : Int64))), (0, .ref q), (1, .int x1)]) hx hb dX2_chance_36 hl (by decide) rfl (fun ls hl => ?_)
  refine lv_iconst (v := 1) hx hb dX2_chance_38 (by decide) ?_
  refine lv_sipush (v := 4095) hx hb dX2_chance_39 (by decide) ?_
  refine lv_iload hx hb dX2_chance_42 (lv_at hl 0 rfl) ?_
  refine va_mmin hx hb (hml.trans hl.1.symm) hown (hts _ ml_X2_97) (hts _ st_Math_min) (hts _ ini_Math) (hts _ co_Math_min) (Nat.le_of_ble_eq_true rfl) (Nat.le_of_ble_eq_true rfl) (Nat.zero_le _) (Nat.zero_le _) dX2_chance_44 ?_
  refine va_mmax hx hb (hml.trans hl.1.symm) hown (hts _ ml_X2_102) (hts _ st_Math_max) (hts _ ini_Math) (hts _ co_Math_max) (Nat.le_of_ble_eq_true rfl) (Nat.le_of_ble_eq_true rfl) (Nat.zero_le _) (Nat.zero_le _) dX2_chance_47 ?_
  exact k_reti hx hb hret hloc hf dX2_chance_50
theorem dX2_likelyBit_0 : decode cX2_likelyBit 0 = .ok (.aload_n 0, 1) := by decide +kernel
theorem dX2_likelyBit_1 : decode cX2_likelyBit 1 = .ok (.iload_n 1, 1) := by decide +kernel
theorem dX2_likelyBit_2 : decode cX2_likelyBit 2 = .ok (.iconst 1, 1) := by decide +kernel
theorem dX2_likelyBit_3 : decode cX2_likelyBit 3 = .ok (.invokevirtual 90, 3) := by decide +kernel
theorem dX2_likelyBit_6 : decode cX2_likelyBit 6 = .ok (.aload_n 0, 1) := by decide +kernel
theorem dX2_likelyBit_7 : decode cX2_likelyBit 7 = .ok (.iload_n 1, 1) := by decide +kernel
theorem dX2_likelyBit_8 : decode cX2_likelyBit 8 = .ok (.iconst 0, 1) := by decide +kernel
theorem dX2_likelyBit_9 : decode cX2_likelyBit 9 = .ok (.invokevirtual 90, 3) := by decide +kernel
theorem dX2_likelyBit_12 : decode cX2_likelyBit 12 = .ok (.if_icmp .le 7, 3) := by decide +kernel
theorem dX2_likelyBit_15 : decode cX2_likelyBit 15 = .ok (.iconst 1, 1) := by decide +kernel
theorem dX2_likelyBit_16 : decode cX2_likelyBit 16 = .ok (.goto 4, 3) := by decide +kernel
theorem dX2_likelyBit_19 : decode cX2_likelyBit 19 = .ok (.iconst 0, 1) := by decide +kernel
theorem dX2_likelyBit_20 : decode cX2_likelyBit 20 = .ok (.ireturn, 1) := by decide +kernel
def f_X2_likelyBit (cn : (Nat → Int32)) (x1 : Int32) : Int32 := if (f_X2_countBy cn x1 1) ≤ (f_X2_countBy cn x1 0) then ((0 : Int32)) else ((1 : Int32))
set_option maxHeartbeats 4000000 in
set_option maxRecDepth 100000 in
theorem c_X2_likelyBit (l : Launch) (D : va_G) (cI : ClassId) (q : Nat) (qs : Nat) (qc : Nat) (qn : Nat) (qo : Nat) (ql : Nat) (qf : Nat) (qca : Nat) (qna : Nat) (qoa : Nat) (qla : Nat) (qfa : Nat) (qsr : Nat) (qsa : Nat) (st : Int32) (he : Int32) (ta : Int32) (cl : Int32) (dr : Int32) (cn : (Nat → Int32)) (nx : (Nat → Int32)) (og : (Nat → Int32)) (li : (Nat → Int32)) (fl : (Nat → Int32)) (sv : (Nat → Int32)) (x1 : Int32) (r : Int32) (hf : f_X2_likelyBit cn x1 = r) : Met l yX2_likelyBit (.code yX2_likelyBit cX2_likelyBit 2 (some .int) :: wsG) ({ frames := 2, cells := 0, slots := 0, locals := 43 }) (va_Pc [.ref q, .int x1] (gw D cI [(q, .inr (2, [.ref qs, .ref qc, .ref qn, .ref qo, .ref ql, .ref qf, .int st, .int he, .int ta, .int cl, .int dr])), (qc, .inr (4, [.ref qca])), (qca, .inl (cI, 500, .inl cn)), (qn, .inr (4, [.ref qna])), (qna, .inl (cI, 500, .inl nx)), (qo, .inr (4, [.ref qoa])), (qoa, .inl (cI, 250, .inl og)), (ql, .inr (4, [.ref qla])), (qla, .inl (cI, 250, .inl li)), (qf, .inr (4, [.ref qfa])), (qfa, .inl (cI, 250, .inl fl)), (qs, .inr (5, [.ref qsr])), (qsr, .inr (4, [.ref qsa])), (qsa, .inl (cI, 5, .inl sv))])) (vp_Si (fun x => x = r)) 0 0 (fun _ => False) := by
  refine k_ro (by decide) rfl (Nat.le_of_ble_eq_true rfl) rfl ?_
  intro p e s m below meth c ls S hret hloc hK hN hSF hP hl
  obtain ⟨hx, hb, hml, hown, hts⟩ := id S
  unfold f_X2_likelyBit at hf
  refine lv_aload_n hx hb dX2_likelyBit_0 rfl (lv_at hl 0 rfl) ?_
  refine lv_iload_n hx hb dX2_likelyBit_1 rfl (lv_at hl 1 rfl) ?_
  refine lv_iconst (v := 1) hx hb dX2_likelyBit_2 (by decide) ?_
  refine k_roVi (As := [.int x1, .int 1]) (rest := []) S (c_X2_countBy l D cI (q := q) (qs := qs) (qc := qc) (qn := qn) (qo := qo) (ql := ql) (qf := qf) (qca := qca) (qna := qna) (qoa := qoa) (qla := qla) (qfa := qfa) (qsr := qsr) (qsa := qsa) (st := st) (he := he) (ta := ta) (cl := cl) (dr := dr) (cn := cn) (nx := nx) (og := og) (li := li) (fl := fl) (sv := sv) (x1 := x1) (x2 := 1)  (r := (f_X2_countBy cn x1 1)) (hf := rfl)) gs_X2_90 ok_X2_countBy ⟨rfl, rfl⟩ ⟨Nat.le_of_ble_eq_true rfl, Nat.le_of_ble_eq_true rfl⟩ hK hN hSF hP rfl rfl rfl hl.1 rfl (Nat.le_of_ble_eq_true rfl) ⟨Nat.zero_le _, Nat.zero_le _⟩ dX2_likelyBit_3 ?_
  refine lv_aload_n hx hb dX2_likelyBit_6 rfl (lv_at hl 0 rfl) ?_
  refine lv_iload_n hx hb dX2_likelyBit_7 rfl (lv_at hl 1 rfl) ?_
  refine lv_iconst (v := 0) hx hb dX2_likelyBit_8 (by decide) ?_
  refine k_roVi (As := [.int x1, .int 0]) (rest := [.int (f_X2_countBy cn x1 1)]) S (c_X2_countBy l D cI (q := q) (qs := qs) (qc := qc) (qn := qn) (qo := qo) (ql := ql) (qf := qf) (qca := qca) (qna := qna) (qoa := qoa) (qla := qla) (qfa := qfa) (qsr := qsr) (qsa := qsa) (st := st) (he := he) (ta := ta) (cl := cl) (dr := dr) (cn := cn) (nx := nx) (og := og) (li := li) (fl := fl) (sv := sv) (x1 := x1) (x2 := 0)  (r := (f_X2_countBy cn x1 0)) (hf := rfl)) gs_X2_90 ok_X2_countBy ⟨rfl, rfl⟩ ⟨Nat.le_of_ble_eq_true rfl, Nat.le_of_ble_eq_true rfl⟩ hK hN hSF hP rfl rfl rfl hl.1 rfl (Nat.le_of_ble_eq_true rfl) ⟨Nat.zero_le _, Nat.zero_le _⟩ dX2_likelyBit_9 ?_
  refine lv_icmp_le (tgt := 19) hx hb dX2_likelyBit_12 (by decide) (fun c_1 => ?_) (fun c_1 => ?_)
  · rw [if_pos c_1] at hf
    refine lv_iconst (v := 0) hx hb dX2_likelyBit_19 (by decide) ?_
    exact k_reti hx hb hret hloc hf dX2_likelyBit_20
  · rw [if_neg c_1] at hf
    refine lv_iconst (v := 1) hx hb dX2_likelyBit_15 (by decide) ?_
    refine lv_goto (tgt := 20) hx hb dX2_likelyBit_16 (by decide) ?_
    exact k_reti hx hb hret hloc hf dX2_likelyBit_20
theorem dX2_costOf_0 : decode cX2_costOf 0 = .ok (.aload_n 0, 1) := by decide +kernel
theorem dX2_costOf_1 : decode cX2_costOf 1 = .ok (.getfield 64, 3) := by decide +kernel
theorem dX2_costOf_4 : decode cX2_costOf 4 = .ok (.istore 4, 2) := by decide +kernel
theorem dX2_costOf_6 : decode cX2_costOf 6 = .ok (.iconst 0, 1) := by decide +kernel
theorem dX2_costOf_7 : decode cX2_costOf 7 = .ok (.istore 5, 2) := by decide +kernel
theorem dX2_costOf_9 : decode cX2_costOf 9 = .ok (.iconst 0, 1) := by decide +kernel
theorem dX2_costOf_10 : decode cX2_costOf 10 = .ok (.istore 6, 2) := by decide +kernel
theorem dX2_costOf_12 : decode cX2_costOf 12 = .ok (.iload 6, 2) := by decide +kernel
theorem dX2_costOf_14 : decode cX2_costOf 14 = .ok (.iload_n 3, 1) := by decide +kernel
theorem dX2_costOf_15 : decode cX2_costOf 15 = .ok (.if_icmp .ge 58, 3) := by decide +kernel
theorem dX2_costOf_18 : decode cX2_costOf 18 = .ok (.iload_n 1, 1) := by decide +kernel
theorem dX2_costOf_19 : decode cX2_costOf 19 = .ok (.iload_n 2, 1) := by decide +kernel
theorem dX2_costOf_20 : decode cX2_costOf 20 = .ok (.iload 6, 2) := by decide +kernel
theorem dX2_costOf_22 : decode cX2_costOf 22 = .ok (.invokestatic 105, 3) := by decide +kernel
theorem dX2_costOf_25 : decode cX2_costOf 25 = .ok (.istore 7, 2) := by decide +kernel
theorem dX2_costOf_27 : decode cX2_costOf 27 = .ok (.aload_n 0, 1) := by decide +kernel
theorem dX2_costOf_28 : decode cX2_costOf 28 = .ok (.iload 4, 2) := by decide +kernel
theorem dX2_costOf_30 : decode cX2_costOf 30 = .ok (.invokevirtual 108, 3) := by decide +kernel
theorem dX2_costOf_33 : decode cX2_costOf 33 = .ok (.istore 8, 2) := by decide +kernel
theorem dX2_costOf_35 : decode cX2_costOf 35 = .ok (.iload 5, 2) := by decide +kernel
theorem dX2_costOf_37 : decode cX2_costOf 37 = .ok (.iload 7, 2) := by decide +kernel
theorem dX2_costOf_39 : decode cX2_costOf 39 = .ok (.iconst 1, 1) := by decide +kernel
theorem dX2_costOf_40 : decode cX2_costOf 40 = .ok (.if_icmp .ne 12, 3) := by decide +kernel
theorem dX2_costOf_43 : decode cX2_costOf 43 = .ok (.sipush 4096, 3) := by decide +kernel
theorem dX2_costOf_46 : decode cX2_costOf 46 = .ok (.iload 8, 2) := by decide +kernel
theorem dX2_costOf_48 : decode cX2_costOf 48 = .ok (.isub, 1) := by decide +kernel
theorem dX2_costOf_49 : decode cX2_costOf 49 = .ok (.goto 5, 3) := by decide +kernel
theorem dX2_costOf_52 : decode cX2_costOf 52 = .ok (.iload 8, 2) := by decide +kernel
theorem dX2_costOf_54 : decode cX2_costOf 54 = .ok (.iadd, 1) := by decide +kernel
theorem dX2_costOf_55 : decode cX2_costOf 55 = .ok (.istore 5, 2) := by decide +kernel
theorem dX2_costOf_57 : decode cX2_costOf 57 = .ok (.aload_n 0, 1) := by decide +kernel
theorem dX2_costOf_58 : decode cX2_costOf 58 = .ok (.iload 4, 2) := by decide +kernel
theorem dX2_costOf_60 : decode cX2_costOf 60 = .ok (.iload 7, 2) := by decide +kernel
theorem dX2_costOf_62 : decode cX2_costOf 62 = .ok (.invokevirtual 111, 3) := by decide +kernel
theorem dX2_costOf_65 : decode cX2_costOf 65 = .ok (.istore 4, 2) := by decide +kernel
theorem dX2_costOf_67 : decode cX2_costOf 67 = .ok (.iinc 6 1, 3) := by decide +kernel
theorem dX2_costOf_70 : decode cX2_costOf 70 = .ok (.goto (-58), 3) := by decide +kernel
theorem dX2_costOf_73 : decode cX2_costOf 73 = .ok (.iload 5, 2) := by decide +kernel
theorem dX2_costOf_75 : decode cX2_costOf 75 = .ok (.ireturn, 1) := by decide +kernel
theorem ok_X8_bitFromHighest : okS yX8_bitFromHighest 3 := by decide +kernel
theorem ok_X2_chance : okV yX2_chance RX2 1 := by decide +kernel
theorem gs_X2_108 : GoodIn wsG (wsV RX2 108 RX2 yX2_chance (.code yX2_chance cX2_chance 5 (some .int) :: wsG)) := good_V ml_X2_108 im_X2_chance se_X2_chance ini_X2 co_X2_chance
theorem ok_X2_nextBy : okV yX2_nextBy RX2 2 := by decide +kernel
theorem gs_X2_111 : GoodIn wsG (wsV RX2 111 RX2 yX2_nextBy (.code yX2_nextBy cX2_nextBy 3 (some .int) :: wsG)) := good_V ml_X2_111 im_X2_nextBy se_X2_nextBy ini_X2 co_X2_nextBy
def st_X2_costOf_L12 (v1 : Int32) (v2 : Int32) (v3 : Int32) (cn : (Nat → Int32)) (nx : (Nat → Int32)) (v4 : Int32) (v5 : Int32) (v6 : Int32) : Option ((Int32 × Int32 × Int32) ⊕ (Int32 × Int32 × Int32)) := if v3 ≤ v6 then (some (.inr (v4, v5, v6))) else (if (f_X8_bitFromHighest v1 v2 v6) = 1 then (some (.inl ((f_X2_nextBy nx v4 (f_X8_bitFromHighest v1 v2 v6)), v5 + (4096 - (f_X2_chance cn v4)), v6 + 1))) else (some (.inl ((f_X2_nextBy nx v4 (f_X8_bitFromHighest v1 v2 v6)), v5 + (f_X2_chance cn v4), v6 + 1))))
def f_X2_costOf_L12 (v1 : Int32) (v2 : Int32) (v3 : Int32) (cn : (Nat → Int32)) (nx : (Nat → Int32)) (k : Nat) (v4 : Int32) (v5 : Int32) (v6 : Int32) : Option (Int32 × Int32 × Int32) := lpN (fun z => st_X2_costOf_L12 v1 v2 v3 cn nx z.1 z.2.1 z.2.2) k (v4, v5, v6)
set_option maxHeartbeats 4000000 in
set_option maxRecDepth 100000 in
theorem L_X2_costOf_12 {p : Program} {l : Launch} {e : Env} {s : State} {m : MethodId} {args : Array Value} {below : List Frame} {meth : Method} {c : Code} {Q : State → Prop} {D : va_G} {cI : ClassId} {q : Nat} {qs : Nat} {qc : Nat} {qn : Nat} {qo : Nat} {ql : Nat} {qf : Nat} {qca : Nat} {qna : Nat} {qoa : Nat} {qla : Nat} {qfa : Nat} {qsr : Nat} {qsa : Nat} {v1 : Int32} {v2 : Int32} {v3 : Int32} {st : Int32} {he : Int32} {ta : Int32} {cl : Int32} {dr : Int32} {cn : (Nat → Int32)} {nx : (Nat → Int32)} {og : (Nat → Int32)} {li : (Nat → Int32)} {fl : (Nat → Int32)} {sv : (Nat → Int32)} (S : CallFix p m c cX2_costOf 9 s args wsG RX2) (hK : va_K D vwCl [(cI, .int)] s) (hN : nw s) (hSF : sf (fun _ => False) s s.heap) : ∀ (k : Nat) (v4 : Int32) (v5 : Int32) (v6 : Int32) (o_v4 : Int32) (o_v5 : Int32) (o_v6 : Int32), f_X2_costOf_L12 v1 v2 v3 cn nx k v4 v5 v6 = some (o_v4, o_v5, o_v6) → ∀ (ls : Array Slot), va_P D vwCl [(q, .inr (2, [.ref qs, .ref qc, .ref qn, .ref qo, .ref ql, .ref qf, .int st, .int he, .int ta, .int cl, .int dr])), (qc, .inr (4, [.ref qca])), (qca, .inl (cI, 500, .inl cn)), (qn, .inr (4, [.ref qna])), (qna, .inl (cI, 500, .inl nx)), (qo, .inr (4, [.ref qoa])), (qoa, .inl (cI, 250, .inl og)), (ql, .inr (4, [.ref qla])), (qla, .inl (cI, 250, .inl li)), (qf, .inr (4, [.ref qfa])), (qfa, .inl (cI, 250, .inl fl)), (qs, .inr (5, [.ref qsr])), (qsr, .inr (4, [.ref qsa])), (qsa, .inl (cI, 5, .inl sv))] s.heap → lv_has ls 9 [(0, .ref q), (1, .int v1), (2, .int v2), (3, .int v3), (4, .int v4), (5, .int v5), (6, .int v6)] → (∀ (ls : Array Slot), lv_has ls 9 [(0, .ref q), (1, .int v1), (2, .int v2), (3, .int v3), (4, .int o_v4), (5, .int o_v5), (6, .int o_v6)] → W p l e (headSpec (.code yX2_costOf cX2_costOf 9 (some .int) :: wsG) { frames := 4, cells := 0, slots := 0, locals := 88 }).room s m args below meth c s.heap [] 0 0 Q (F0 m 73 ls [])) → W p l e (headSpec (.code yX2_costOf cX2_costOf 9 (some .int) :: wsG) { frames := 4, cells := 0, slots := 0, locals := 88 }).room s m args below meth c s.heap [] 0 0 Q (F0 m 12 ls []) := by
  obtain ⟨hx, hb, hml, hown, hts⟩ := id S
  intro k
  induction k with
  | zero =>
    intro v4 v5 v6 o_v4 o_v5 o_v6 hf
    cases hf
  | succ k ih =>
    intro v4 v5 v6 o_v4 o_v5 o_v6 hf ls hP hl kk
    obtain ⟨z, hf, hz⟩ := lp_inv hf
    have hf : st_X2_costOf_L12 v1 v2 v3 cn nx v4 v5 v6 = some z := hf
    unfold st_X2_costOf_L12 at hf
    refine lv_iload hx hb dX2_costOf_12 (lv_at hl 6 rfl) ?_
    refine lv_iload_n hx hb dX2_costOf_14 rfl (lv_at hl 3 rfl) ?_
    refine lv_icmp_ge (tgt := 73) hx hb dX2_costOf_15 (by decide) (fun c_1 => ?_) (fun c_1 => ?_)
    · rw [if_pos c_1] at hf
      cases hf
      cases lpC_r hz
      exact kk ls (lv_sub hl [0, 1, 2, 3, 4, 5, 6] rfl)
    · rw [if_neg c_1] at hf
      refine lv_iload_n hx hb dX2_costOf_18 rfl (lv_at hl 1 rfl) ?_
      refine lv_iload_n hx hb dX2_costOf_19 rfl (lv_at hl 2 rfl) ?_
      refine lv_iload hx hb dX2_costOf_20 (lv_at hl 6 rfl) ?_
      refine k_roSNi (As := [.int v1, .int v2, .int v6]) (rest := []) S (c_X8_bitFromHighest l D cI (x1 := v1) (x2 := v2) (x3 := v6)  (r := (f_X8_bitFromHighest v1 v2 v6)) (hf := rfl)) (good_I co_X8_bitFromHighest) (nm_X2_105 hN) st_X8_bitFromHighest ini_X8 ok_X8_bitFromHighest ⟨rfl, rfl⟩ ⟨Nat.le_of_ble_eq_true rfl, Nat.le_of_ble_eq_true rfl⟩ hK hN hSF (hP.sub [] rfl) rfl hl.1 rfl (Nat.le_of_ble_eq_true rfl) ⟨Nat.zero_le _, Nat.zero_le _⟩ dX2_costOf_22 ?_
      refine lv_istore (lv' := [(7, .int (f_X8_bitFromHighest v1 v2 v6)), (0, .ref q), (1, .int v1), (2, .int v2), (3, .int v3), (4, .int v4), (5, .int v5), (6, .int v6)]) hx hb dX2_costOf_25 hl (by decide) rfl (fun ls hl => ?_)
      refine lv_aload_n hx hb dX2_costOf_27 rfl (lv_at hl 1 rfl) ?_
      refine lv_iload hx hb dX2_costOf_28 (lv_at hl 5 rfl) ?_
      refine k_roVi (As := [.int v4]) (rest := []) S (c_X2_chance l D cI (q := q) (qs := qs) (qc := qc) (qn := qn) (qo := qo) (ql := ql) (qf := qf) (qca := qca) (qna := qna) (qoa := qoa) (qla := qla) (qfa := qfa) (qsr := qsr) (qsa := qsa) (st := st) (he := he) (ta := ta) (cl := cl) (dr := dr) (cn := cn) (nx := nx) (og := og) (li := li) (fl := fl) (sv := sv) (x1 := v4)  (r := (f_X2_chance cn v4)) (hf := rfl)) gs_X2_108 ok_X2_chance ⟨rfl, rfl⟩ ⟨Nat.le_of_ble_eq_true rfl, Nat.le_of_ble_eq_true rfl⟩ hK hN hSF hP rfl rfl rfl hl.1 rfl (Nat.le_of_ble_eq_true rfl) ⟨Nat.zero_le _, Nat.zero_le _⟩ dX2_costOf_30 ?_
      refine lv_istore (lv' := [(8, .int (f_X2_chance cn v4)), (7, .int (f_X8_bitFromHighest v1 v2 v6)), (0, .ref q), (1, .int v1), (2, .int v2), (3, .int v3), (4, .int v4), (5, .int v5), (6, .int v6)]) hx hb dX2_costOf_33 hl (by decide) rfl (fun ls hl => ?_)
      refine lv_iload hx hb dX2_costOf_35 (lv_at hl 7 rfl) ?_
      refine lv_iload hx hb dX2_costOf_37 (lv_at hl 1 rfl) ?_
      refine lv_iconst (v := 1) hx hb dX2_costOf_39 (by decide) ?_
      refine lv_icmp_ne (tgt := 52) hx hb dX2_costOf_40 (by decide) (fun c_2 => ?_) (fun c_2 => ?_)
      · rw [if_neg c_2] at hf
        refine lv_iload hx hb dX2_costOf_52 (lv_at hl 0 rfl) ?_
        refine lv_iadd hx hb dX2_costOf_54 ?_
        refine lv_istore (lv' := [(5, .int (v5 + (f_X2_chance cn v4))), (8, .int (f_X2_chance cn v4)), (7, .int (f_X8_bitFromHighest v1 v2 v6)), (0, .ref q), (1, .int v1), (2, .int v2), (3, .int v3), (4, .int v4), (6, .int v6)]) hx hb dX2_costOf_55 hl (by decide) rfl (fun ls hl => ?_)
        refine lv_aload_n hx hb dX2_costOf_57 rfl (lv_at hl 3 rfl) ?_
        refine lv_iload hx hb dX2_costOf_58 (lv_at hl 7 rfl) ?_
        refine lv_iload hx hb dX2_costOf_60 (lv_at hl 2 rfl) ?_
        refine k_roVi (As := [.int v4, .int (f_X8_bitFromHighest v1 v2 v6)]) (rest := []) S (c_X2_nextBy l D cI (q := q) (qs := qs) (qc := qc) (qn := qn) (qo := qo) (ql := ql) (qf := qf) (qca := qca) (qna := qna) (qoa := qoa) (qla := qla) (qfa := qfa) (qsr := qsr) (qsa := qsa) (st := st) (he := he) (ta := ta) (cl := cl) (dr := dr) (cn := cn) (nx := nx) (og := og) (li := li) (fl := fl) (sv := sv) (x1 := v4) (x2 := (f_X8_bitFromHighest v1 v2 v6))  (r := (f_X2_nextBy nx v4 (f_X8_bitFromHighest v1 v2 v6))) (hf := rfl)) gs_X2_111 ok_X2_nextBy ⟨rfl, rfl⟩ ⟨Nat.le_of_ble_eq_true rfl, Nat.le_of_ble_eq_true rfl⟩ hK hN hSF hP rfl rfl rfl hl.1 rfl (Nat.le_of_ble_eq_true rfl) ⟨Nat.zero_le _, Nat.zero_le _⟩ dX2_costOf_62 ?_
        refine lv_istore (lv' := [(4, .int (f_X2_nextBy nx v4 (f_X8_bitFromHighest v1 v2 v6))), (5, .int (v5 + (f_X2_chance cn v4))), (8, .int (f_X2_chance cn v4)), (7, .int (f_X8_bitFromHighest v1 v2 v6)), (0, .ref q), (1, .int v1), (2, .int v2), (3, .int v3), (6, .int v6)]) hx hb dX2_costOf_65 hl (by decide) rfl (fun ls hl => ?_)
        refine lv_iinc (v := v6 + 1) (lv' := [(6, .int (v6 + 1)), (4, .int (f_X2_nextBy nx v4 (f_X8_bitFromHighest v1 v2 v6))), (5, .int (v5 + (f_X2_chance cn v4))), (8, .int (f_X2_chance cn v4)), (7, .int (f_X8_bitFromHighest v1 v2 v6)), (0, .ref q), (1, .int v1), (2, .int v2), (3, .int v3)]) hx hb dX2_costOf_67 hl (k := 8) rfl rfl (by decide) rfl (fun ls hl => ?_)
        refine lv_goto (tgt := 12) hx hb dX2_costOf_70 (by decide) ?_
        cases hf
        exact ih (f_X2_nextBy nx v4 (f_X8_bitFromHighest v1 v2 v6)) (v5 + (f_X2_chance cn v4)) (v6 + 1) _ _ _ hz ls hP (lv_sub hl [5, 6, 7, 8, 1, 2, 0] rfl) kk
      · rw [if_pos c_2] at hf
        refine lv_sipush (v := 4096) hx hb dX2_costOf_43 (by decide) ?_
        refine lv_iload hx hb dX2_costOf_46 (lv_at hl 0 rfl) ?_
        refine lv_isub hx hb dX2_costOf_48 ?_
        refine lv_goto (tgt := 54) hx hb dX2_costOf_49 (by decide) ?_
        refine lv_iadd hx hb dX2_costOf_54 ?_
        refine lv_istore (lv' := [(5, .int (v5 + (4096 - (f_X2_chance cn v4)))), (8, .int (f_X2_chance cn v4)), (7, .int (f_X8_bitFromHighest v1 v2 v6)), (0, .ref q), (1, .int v1), (2, .int v2), (3, .int v3), (4, .int v4), (6, .int v6)]) hx hb dX2_costOf_55 hl (by decide) rfl (fun ls hl => ?_)
        refine lv_aload_n hx hb dX2_costOf_57 rfl (lv_at hl 3 rfl) ?_
        refine lv_iload hx hb dX2_costOf_58 (lv_at hl 7 rfl) ?_
        refine lv_iload hx hb dX2_costOf_60 (lv_at hl 2 rfl) ?_
        refine k_roVi (As := [.int v4, .int (f_X8_bitFromHighest v1 v2 v6)]) (rest := []) S (c_X2_nextBy l D cI (q := q) (qs := qs) (qc := qc) (qn := qn) (qo := qo) (ql := ql) (qf := qf) (qca := qca) (qna := qna) (qoa := qoa) (qla := qla) (qfa := qfa) (qsr := qsr) (qsa := qsa) (st := st) (he := he) (ta := ta) (cl := cl) (dr := dr) (cn := cn) (nx := nx) (og := og) (li := li) (fl := fl) (sv := sv) (x1 := v4) (x2 := (f_X8_bitFromHighest v1 v2 v6))  (r := (f_X2_nextBy nx v4 (f_X8_bitFromHighest v1 v2 v6))) (hf := rfl)) gs_X2_111 ok_X2_nextBy ⟨rfl, rfl⟩ ⟨Nat.le_of_ble_eq_true rfl, Nat.le_of_ble_eq_true rfl⟩ hK hN hSF hP rfl rfl rfl hl.1 rfl (Nat.le_of_ble_eq_true rfl) ⟨Nat.zero_le _, Nat.zero_le _⟩ dX2_costOf_62 ?_
        refine lv_istore (lv' := [(4, .int (f_X2_nextBy nx v4 (f_X8_bitFromHighest v1 v2 v6))), (5, .int (v5 + (4096 - (f_X2_chance cn v4)))), (8, .int (f_X2_chance cn v4)), (7, .int (f_X8_bitFromHighest v1 v2 v6)), (0, .ref q), (1, .int v1), (2, .int v2), (3, .int v3), (6, .int v6)]) hx hb dX2_costOf_65 hl (by decide) rfl (fun ls hl => ?_)
        refine lv_iinc (v := v6 + 1) (lv' := [(6, .int (v6 + 1)), (4, .int (f_X2_nextBy nx v4 (f_X8_bitFromHighest v1 v2 v6))), (5, .int (v5 + (4096 - (f_X2_chance cn v4)))), (8, .int (f_X2_chance cn v4)), (7, .int (f_X8_bitFromHighest v1 v2 v6)), (0, .ref q), (1, .int v1), (2, .int v2), (3, .int v3)]) hx hb dX2_costOf_67 hl (k := 8) rfl rfl (by decide) rfl (fun ls hl => ?_)
        refine lv_goto (tgt := 12) hx hb dX2_costOf_70 (by decide) ?_
        cases hf
        exact ih (f_X2_nextBy nx v4 (f_X8_bitFromHighest v1 v2 v6)) (v5 + (4096 - (f_X2_chance cn v4))) (v6 + 1) _ _ _ hz ls hP (lv_sub hl [5, 6, 7, 8, 1, 2, 0] rfl) kk
def f_X2_costOf (he : Int32) (cn : (Nat → Int32)) (nx : (Nat → Int32)) (x1 : Int32) (x2 : Int32) (x3 : Int32) : Option (Int32) := bi3 (f_X2_costOf_L12 x1 x2 x3 cn nx 4096 he 0 0) (fun (v4_3 : Int32) (v5_4 : Int32) (v6_5 : Int32) => some v5_4)
set_option maxHeartbeats 4000000 in
set_option maxRecDepth 100000 in
theorem c_X2_costOf (l : Launch) (D : va_G) (cI : ClassId) (q : Nat) (qs : Nat) (qc : Nat) (qn : Nat) (qo : Nat) (ql : Nat) (qf : Nat) (qca : Nat) (qna : Nat) (qoa : Nat) (qla : Nat) (qfa : Nat) (qsr : Nat) (qsa : Nat) (st : Int32) (he : Int32) (ta : Int32) (cl : Int32) (dr : Int32) (cn : (Nat → Int32)) (nx : (Nat → Int32)) (og : (Nat → Int32)) (li : (Nat → Int32)) (fl : (Nat → Int32)) (sv : (Nat → Int32)) (x1 : Int32) (x2 : Int32) (x3 : Int32) (r : Int32) (hf : f_X2_costOf he cn nx x1 x2 x3 = some r) : Met l yX2_costOf (.code yX2_costOf cX2_costOf 9 (some .int) :: wsG) ({ frames := 4, cells := 0, slots := 0, locals := 88 }) (va_Pc [.ref q, .int x1, .int x2, .int x3] (gw D cI [(q, .inr (2, [.ref qs, .ref qc, .ref qn, .ref qo, .ref ql, .ref qf, .int st, .int he, .int ta, .int cl, .int dr])), (qc, .inr (4, [.ref qca])), (qca, .inl (cI, 500, .inl cn)), (qn, .inr (4, [.ref qna])), (qna, .inl (cI, 500, .inl nx)), (qo, .inr (4, [.ref qoa])), (qoa, .inl (cI, 250, .inl og)), (ql, .inr (4, [.ref qla])), (qla, .inl (cI, 250, .inl li)), (qf, .inr (4, [.ref qfa])), (qfa, .inl (cI, 250, .inl fl)), (qs, .inr (5, [.ref qsr])), (qsr, .inr (4, [.ref qsa])), (qsa, .inl (cI, 5, .inl sv))])) (vp_Si (fun x => x = r)) 0 0 (fun _ => False) := by
  refine k_ro (by decide) rfl (Nat.le_of_ble_eq_true rfl) rfl ?_
  intro p e s m below meth c ls S hret hloc hK hN hSF hP hl
  obtain ⟨hx, hb, hml, hown, hts⟩ := id S
  unfold f_X2_costOf at hf
  refine lv_aload_n hx hb dX2_costOf_0 rfl (lv_at hl 0 rfl) ?_
  refine va_get (D := D) (ci := 2) (v := .int he) (C := RX2) (T := TX2) (N := 11) hx hb hts inGX2 hown hK hP 0 rfl rfl 7 (by decide) (hts _ fl_X2_64) (fun _ h9 => h9) rfl dX2_costOf_1 ?_
  refine lv_istore (lv' := [(4, .int he), (0, .ref q), (1, .int x1), (2, .int x2), (3, .int x3)]) hx hb dX2_costOf_4 hl (by decide) rfl (fun ls hl => ?_)
  refine lv_iconst (v := 0) hx hb dX2_costOf_6 (by decide) ?_
  refine lv_istore (lv' := [(5, .int 0), (4, .int he), (0, .ref q), (1, .int x1), (2, .int x2), (3, .int x3)]) hx hb dX2_costOf_7 hl (by decide) rfl (fun ls hl => ?_)
  refine lv_iconst (v := 0) hx hb dX2_costOf_9 (by decide) ?_
  refine lv_istore (lv' := [(6, .int 0), (5, .int 0), (4, .int he), (0, .ref q), (1, .int x1), (2, .int x2), (3, .int x3)]) hx hb dX2_costOf_10 hl (by decide) rfl (fun ls hl => ?_)
  obtain ⟨v4_3, v5_4, v6_5, hc_6, hf⟩ := bd3 hf
  refine L_X2_costOf_12 S hK hN hSF _ he 0 0 v4_3 v5_4 v6_5 hc_6 _ hP (lv_sub hl [3, 4, 5, 6, 2, 1, 0] rfl) (fun ls hl => ?_)
  refine lv_iload hx hb dX2_costOf_73 (lv_at hl 5 rfl) ?_
  exact k_reti hx hb hret hloc (Option.some.inj hf) dX2_costOf_75
end
section
theorem zz_last : True := trivial
end
