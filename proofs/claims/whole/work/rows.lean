section
-- ===== PART A: goes FIRST, ahead of the names: the tables' words, and 'selects' of the private methods out of them =====
/-- a private method of a class that the tables say can be made, by its rows of tables_1 -/
def lw_okq (q : MethodName × Nat) : Prop := (q.1.cls ≠ "java/lang/invoke/MethodHandle" ∧ q.1.cls ≠ "java/lang/invoke/VarHandle") ∧ Cond.instantiable q.1.cls q.2 ∈ tables_1 ∧ Cond.privateMethod q.1 ∈ tables_1 ∧ Cond.instanceMethod q.1 ∈ tables_1
theorem lw_p0 : lw_okq (⟨"CloningMachine$Machine", "shapeAnew", "()V"⟩, 11) := ⟨⟨by decide +kernel, by decide +kernel⟩, List.mem_of_getElem? (i := 51) (by decide +kernel), List.mem_of_getElem? (i := 63) (by decide +kernel), List.mem_of_getElem? (i := 64) (by decide +kernel)⟩
theorem lw_p1 : lw_okq (⟨"CloningMachine$Packer", "packBit", "(I)V"⟩, 5) := ⟨⟨by decide +kernel, by decide +kernel⟩, List.mem_of_getElem? (i := 144) (by decide +kernel), List.mem_of_getElem? (i := 344) (by decide +kernel), List.mem_of_getElem? (i := 345) (by decide +kernel)⟩
theorem lw_p2 : lw_okq (⟨"CloningMachine$Machine", "bothCounts", "(I)I"⟩, 11) := ⟨⟨by decide +kernel, by decide +kernel⟩, List.mem_of_getElem? (i := 51) (by decide +kernel), List.mem_of_getElem? (i := 359) (by decide +kernel), List.mem_of_getElem? (i := 360) (by decide +kernel)⟩
theorem lw_p3 : lw_okq (⟨"CloningMachine$Packer", "putTop", "()V"⟩, 5) := ⟨⟨by decide +kernel, by decide +kernel⟩, List.mem_of_getElem? (i := 144) (by decide +kernel), List.mem_of_getElem? (i := 384) (by decide +kernel), List.mem_of_getElem? (i := 385) (by decide +kernel)⟩
theorem lw_p4 : lw_okq (⟨"CloningMachine$Machine", "cloneFrom", "(III)I"⟩, 11) := ⟨⟨by decide +kernel, by decide +kernel⟩, List.mem_of_getElem? (i := 51) (by decide +kernel), List.mem_of_getElem? (i := 404) (by decide +kernel), List.mem_of_getElem? (i := 405) (by decide +kernel)⟩
theorem lw_p5 : lw_okq (⟨"CloningMachine$Unpacker", "pullByte", "()V"⟩, 7) := ⟨⟨by decide +kernel, by decide +kernel⟩, List.mem_of_getElem? (i := 183) (by decide +kernel), List.mem_of_getElem? (i := 422) (by decide +kernel), List.mem_of_getElem? (i := 423) (by decide +kernel)⟩
theorem lw_p6 : lw_okq (⟨"CloningMachine$Unpacker", "unpackBit", "()I"⟩, 7) := ⟨⟨by decide +kernel, by decide +kernel⟩, List.mem_of_getElem? (i := 183) (by decide +kernel), List.mem_of_getElem? (i := 433) (by decide +kernel), List.mem_of_getElem? (i := 434) (by decide +kernel)⟩
theorem lw_p7 : lw_okq (⟨"CloningMachine$Machine", "reckonFlows", "()V"⟩, 11) := ⟨⟨by decide +kernel, by decide +kernel⟩, List.mem_of_getElem? (i := 51) (by decide +kernel), List.mem_of_getElem? (i := 496) (by decide +kernel), List.mem_of_getElem? (i := 497) (by decide +kernel)⟩
theorem lw_p8 : lw_okq (⟨"CloningMachine", "costOfByte", "(I)I"⟩, 10) := ⟨⟨by decide +kernel, by decide +kernel⟩, List.mem_of_getElem? (i := 13) (by decide +kernel), List.mem_of_getElem? (i := 552) (by decide +kernel), List.mem_of_getElem? (i := 553) (by decide +kernel)⟩
theorem lw_p9 : lw_okq (⟨"CloningMachine", "keptPlace", "(I)LCloningMachine$Kept;"⟩, 10) := ⟨⟨by decide +kernel, by decide +kernel⟩, List.mem_of_getElem? (i := 13) (by decide +kernel), List.mem_of_getElem? (i := 560) (by decide +kernel), List.mem_of_getElem? (i := 561) (by decide +kernel)⟩
theorem lw_p10 : lw_okq (⟨"CloningMachineModel", "renews", "(I)V"⟩, 14) := ⟨⟨by decide +kernel, by decide +kernel⟩, List.mem_of_getElem? (i := 587) (by decide +kernel), List.mem_of_getElem? (i := 593) (by decide +kernel), List.mem_of_getElem? (i := 594) (by decide +kernel)⟩
theorem lw_p11 : lw_okq (⟨"CloningMachineModel", "lays", "(I)V"⟩, 14) := ⟨⟨by decide +kernel, by decide +kernel⟩, List.mem_of_getElem? (i := 587) (by decide +kernel), List.mem_of_getElem? (i := 597) (by decide +kernel), List.mem_of_getElem? (i := 598) (by decide +kernel)⟩
theorem lw_p12 : lw_okq (⟨"CloningMachineModel", "begins", "()V"⟩, 14) := ⟨⟨by decide +kernel, by decide +kernel⟩, List.mem_of_getElem? (i := 587) (by decide +kernel), List.mem_of_getElem? (i := 672) (by decide +kernel), List.mem_of_getElem? (i := 673) (by decide +kernel)⟩
theorem lw_p13 : lw_okq (⟨"CloningMachineModel", "place", "(I)I"⟩, 14) := ⟨⟨by decide +kernel, by decide +kernel⟩, List.mem_of_getElem? (i := 587) (by decide +kernel), List.mem_of_getElem? (i := 677) (by decide +kernel), List.mem_of_getElem? (i := 678) (by decide +kernel)⟩
theorem lw_p14 : lw_okq (⟨"CloningMachineModel", "narrows", "(IZ)V"⟩, 14) := ⟨⟨by decide +kernel, by decide +kernel⟩, List.mem_of_getElem? (i := 587) (by decide +kernel), List.mem_of_getElem? (i := 681) (by decide +kernel), List.mem_of_getElem? (i := 682) (by decide +kernel)⟩
theorem lw_p15 : lw_okq (⟨"CloningMachineModel", "middle", "()J"⟩, 14) := ⟨⟨by decide +kernel, by decide +kernel⟩, List.mem_of_getElem? (i := 587) (by decide +kernel), List.mem_of_getElem? (i := 685) (by decide +kernel), List.mem_of_getElem? (i := 686) (by decide +kernel)⟩
def lw_privs_1 : List (MethodName × Nat) := [(⟨"CloningMachine$Machine", "shapeAnew", "()V"⟩, 11), (⟨"CloningMachine$Packer", "packBit", "(I)V"⟩, 5), (⟨"CloningMachine$Machine", "bothCounts", "(I)I"⟩, 11), (⟨"CloningMachine$Packer", "putTop", "()V"⟩, 5), (⟨"CloningMachine$Machine", "cloneFrom", "(III)I"⟩, 11), (⟨"CloningMachine$Unpacker", "pullByte", "()V"⟩, 7), (⟨"CloningMachine$Unpacker", "unpackBit", "()I"⟩, 7), (⟨"CloningMachine$Machine", "reckonFlows", "()V"⟩, 11), (⟨"CloningMachine", "costOfByte", "(I)I"⟩, 10), (⟨"CloningMachine", "keptPlace", "(I)LCloningMachine$Kept;"⟩, 10), (⟨"CloningMachineModel", "renews", "(I)V"⟩, 14), (⟨"CloningMachineModel", "lays", "(I)V"⟩, 14), (⟨"CloningMachineModel", "begins", "()V"⟩, 14), (⟨"CloningMachineModel", "place", "(I)I"⟩, 14), (⟨"CloningMachineModel", "narrows", "(IZ)V"⟩, 14), (⟨"CloningMachineModel", "middle", "()J"⟩, 14)]
theorem lw_r1 : ∀ q ∈ lw_privs_1, lw_okq q := List.forall_mem_cons.mpr ⟨lw_p0, List.forall_mem_cons.mpr ⟨lw_p1, List.forall_mem_cons.mpr ⟨lw_p2, List.forall_mem_cons.mpr ⟨lw_p3, List.forall_mem_cons.mpr ⟨lw_p4, List.forall_mem_cons.mpr ⟨lw_p5, List.forall_mem_cons.mpr ⟨lw_p6, List.forall_mem_cons.mpr ⟨lw_p7, List.forall_mem_cons.mpr ⟨lw_p8, List.forall_mem_cons.mpr ⟨lw_p9, List.forall_mem_cons.mpr ⟨lw_p10, List.forall_mem_cons.mpr ⟨lw_p11, List.forall_mem_cons.mpr ⟨lw_p12, List.forall_mem_cons.mpr ⟨lw_p13, List.forall_mem_cons.mpr ⟨lw_p14, List.forall_mem_cons.mpr ⟨lw_p15, fun _ h => absurd h List.not_mem_nil⟩⟩⟩⟩⟩⟩⟩⟩⟩⟩⟩⟩⟩⟩⟩⟩
theorem lw_p16 : lw_okq (⟨"CloningMachineModel", "chance", "(II)I"⟩, 14) := ⟨⟨by decide +kernel, by decide +kernel⟩, List.mem_of_getElem? (i := 587) (by decide +kernel), List.mem_of_getElem? (i := 690) (by decide +kernel), List.mem_of_getElem? (i := 691) (by decide +kernel)⟩
theorem lw_p17 : lw_okq (⟨"CloningMachineModel", "both", "(II)I"⟩, 14) := ⟨⟨by decide +kernel, by decide +kernel⟩, List.mem_of_getElem? (i := 587) (by decide +kernel), List.mem_of_getElem? (i := 694) (by decide +kernel), List.mem_of_getElem? (i := 695) (by decide +kernel)⟩
theorem lw_p18 : lw_okq (⟨"CloningMachineModel", "takes", "(II)V"⟩, 14) := ⟨⟨by decide +kernel, by decide +kernel⟩, List.mem_of_getElem? (i := 587) (by decide +kernel), List.mem_of_getElem? (i := 701) (by decide +kernel), List.mem_of_getElem? (i := 702) (by decide +kernel)⟩
theorem lw_p19 : lw_okq (⟨"CloningMachineModel", "clones", "(IIIIII)V"⟩, 14) := ⟨⟨by decide +kernel, by decide +kernel⟩, List.mem_of_getElem? (i := 587) (by decide +kernel), List.mem_of_getElem? (i := 705) (by decide +kernel), List.mem_of_getElem? (i := 706) (by decide +kernel)⟩
theorem lw_p20 : lw_okq (⟨"CloningMachineModel", "notes", "(I)V"⟩, 14) := ⟨⟨by decide +kernel, by decide +kernel⟩, List.mem_of_getElem? (i := 587) (by decide +kernel), List.mem_of_getElem? (i := 709) (by decide +kernel), List.mem_of_getElem? (i := 710) (by decide +kernel)⟩
theorem lw_p21 : lw_okq (⟨"CloningMachineModel", "flow", "(I)I"⟩, 14) := ⟨⟨by decide +kernel, by decide +kernel⟩, List.mem_of_getElem? (i := 587) (by decide +kernel), List.mem_of_getElem? (i := 747) (by decide +kernel), List.mem_of_getElem? (i := 748) (by decide +kernel)⟩
theorem lw_p22 : lw_okq (⟨"CloningMachineModel", "line", "(I)I"⟩, 14) := ⟨⟨by decide +kernel, by decide +kernel⟩, List.mem_of_getElem? (i := 587) (by decide +kernel), List.mem_of_getElem? (i := 751) (by decide +kernel), List.mem_of_getElem? (i := 752) (by decide +kernel)⟩
theorem lw_p23 : lw_okq (⟨"CloningMachineModel", "likelyBit", "(I)I"⟩, 14) := ⟨⟨by decide +kernel, by decide +kernel⟩, List.mem_of_getElem? (i := 587) (by decide +kernel), List.mem_of_getElem? (i := 764) (by decide +kernel), List.mem_of_getElem? (i := 765) (by decide +kernel)⟩
theorem lw_p24 : lw_okq (⟨"CloningMachineModel", "costOf", "(I)I"⟩, 14) := ⟨⟨by decide +kernel, by decide +kernel⟩, List.mem_of_getElem? (i := 587) (by decide +kernel), List.mem_of_getElem? (i := 778) (by decide +kernel), List.mem_of_getElem? (i := 779) (by decide +kernel)⟩
def lw_privs_2 : List (MethodName × Nat) := [(⟨"CloningMachineModel", "chance", "(II)I"⟩, 14), (⟨"CloningMachineModel", "both", "(II)I"⟩, 14), (⟨"CloningMachineModel", "takes", "(II)V"⟩, 14), (⟨"CloningMachineModel", "clones", "(IIIIII)V"⟩, 14), (⟨"CloningMachineModel", "notes", "(I)V"⟩, 14), (⟨"CloningMachineModel", "flow", "(I)I"⟩, 14), (⟨"CloningMachineModel", "line", "(I)I"⟩, 14), (⟨"CloningMachineModel", "likelyBit", "(I)I"⟩, 14), (⟨"CloningMachineModel", "costOf", "(I)I"⟩, 14)]
theorem lw_r2 : ∀ q ∈ lw_privs_2, lw_okq q := List.forall_mem_cons.mpr ⟨lw_p16, List.forall_mem_cons.mpr ⟨lw_p17, List.forall_mem_cons.mpr ⟨lw_p18, List.forall_mem_cons.mpr ⟨lw_p19, List.forall_mem_cons.mpr ⟨lw_p20, List.forall_mem_cons.mpr ⟨lw_p21, List.forall_mem_cons.mpr ⟨lw_p22, List.forall_mem_cons.mpr ⟨lw_p23, List.forall_mem_cons.mpr ⟨lw_p24, fun _ h => absurd h List.not_mem_nil⟩⟩⟩⟩⟩⟩⟩⟩⟩
def lw_privs : List (MethodName × Nat) := lw_privs_1 ++ (lw_privs_2)
def lw_tbl : List Cond := k2_sels lw_privs ++ tables_1
theorem lw_privs_ok : ∀ q ∈ lw_privs, lw_okq q := by
  show ∀ q ∈ lw_privs_1 ++ (lw_privs_2), lw_okq q
  exact List.forall_mem_append.mpr ⟨lw_r1, lw_r2⟩
-- ===== end of PART A; then your names; then what follows =====
end
section
def RX0 : String := "CloningMachine$Bytes"
def TX0 : u_T := fun k => match k with
  | 0 => ("CloningMachine$Bytes", "row", "LCloningMachine$Row;", true)
  | 1 => ("CloningMachine$Bytes", "room", "I", true)
  | _ => ("CloningMachine$Bytes", "length", "I", false)
def tyX0 : Nat → FieldType := fun k => match k with
  | 0 => .object "CloningMachine$Row"
  | 1 => .int
  | _ => .int
theorem nmX0 : ∀ a, a < 3 → ∀ b, b < 3 → a ≠ b → (TX0 a).2.1 ≠ (TX0 b).2.1 := by decide +kernel
theorem tyX0_ok : ∀ k, k < 3 → parseFieldDescriptor (TX0 k).2.2.1 = some (tyX0 k) := by decide +kernel
abbrev cX0_init : ByteArray := prog_2_method_1_code
def yX0_init : MethodName := ⟨RX0, "<init>", "(I)V"⟩
abbrev cX0_length : ByteArray := prog_2_method_2_code
def yX0_length : MethodName := ⟨RX0, "length", "()I"⟩
abbrev cX0_get : ByteArray := prog_2_method_3_code
def yX0_get : MethodName := ⟨RX0, "get", "(I)I"⟩
abbrev cX0_put : ByteArray := prog_2_method_4_code
def yX0_put : MethodName := ⟨RX0, "put", "(II)V"⟩
abbrev cX0_add : ByteArray := prog_2_method_5_code
def yX0_add : MethodName := ⟨RX0, "add", "(I)V"⟩
abbrev cX0_clear : ByteArray := prog_2_method_6_code
def yX0_clear : MethodName := ⟨RX0, "clear", "()V"⟩
def RX1 : String := "CloningMachine$Kept"
def TX1 : u_T := fun k => match k with
  | 0 => ("CloningMachine$Kept", "settings", "LCloningMachine$Settings;", true)
  | _ => ("CloningMachine$Kept", "machine", "LCloningMachine$Machine;", true)
def tyX1 : Nat → FieldType := fun k => match k with
  | 0 => .object "CloningMachine$Settings"
  | _ => .object "CloningMachine$Machine"
theorem nmX1 : ∀ a, a < 2 → ∀ b, b < 2 → a ≠ b → (TX1 a).2.1 ≠ (TX1 b).2.1 := by decide +kernel
theorem tyX1_ok : ∀ k, k < 2 → parseFieldDescriptor (TX1 k).2.2.1 = some (tyX1 k) := by decide +kernel
abbrev cX1_init : ByteArray := prog_3_method_1_code
def yX1_init : MethodName := ⟨RX1, "<init>", "()V"⟩
def RX2 : String := "CloningMachine$Machine"
def TX2 : u_T := fun k => match k with
  | 0 => ("CloningMachine$Machine", "settings", "LCloningMachine$Settings;", true)
  | 1 => ("CloningMachine$Machine", "counts", "LCloningMachine$Row;", true)
  | 2 => ("CloningMachine$Machine", "nexts", "LCloningMachine$Row;", true)
  | 3 => ("CloningMachine$Machine", "origins", "LCloningMachine$Row;", true)
  | 4 => ("CloningMachine$Machine", "lines", "LCloningMachine$Row;", true)
  | 5 => ("CloningMachine$Machine", "flows", "LCloningMachine$Row;", true)
  | 6 => ("CloningMachine$Machine", "states", "I", false)
  | 7 => ("CloningMachine$Machine", "here", "I", false)
  | 8 => ("CloningMachine$Machine", "taken", "I", false)
  | 9 => ("CloningMachine$Machine", "clonings", "I", false)
  | _ => ("CloningMachine$Machine", "drops", "I", false)
def tyX2 : Nat → FieldType := fun k => match k with
  | 0 => .object "CloningMachine$Settings"
  | 1 => .object "CloningMachine$Row"
  | 2 => .object "CloningMachine$Row"
  | 3 => .object "CloningMachine$Row"
  | 4 => .object "CloningMachine$Row"
  | 5 => .object "CloningMachine$Row"
  | 6 => .int
  | 7 => .int
  | 8 => .int
  | 9 => .int
  | _ => .int
theorem nmX2 : ∀ a, a < 11 → ∀ b, b < 11 → a ≠ b → (TX2 a).2.1 ≠ (TX2 b).2.1 := by decide +kernel
theorem tyX2_ok : ∀ k, k < 11 → parseFieldDescriptor (TX2 k).2.2.1 = some (tyX2 k) := by decide +kernel
abbrev cX2_init : ByteArray := prog_4_method_1_code
def yX2_init : MethodName := ⟨RX2, "<init>", "(LCloningMachine$Settings;)V"⟩
abbrev cX2_begin : ByteArray := prog_4_method_2_code
def yX2_begin : MethodName := ⟨RX2, "begin", "()V"⟩
abbrev cX2_shapeAnew : ByteArray := prog_4_method_3_code
def yX2_shapeAnew : MethodName := ⟨RX2, "shapeAnew", "()V"⟩
abbrev cX2_statesAtFirst : ByteArray := prog_4_method_4_code
def yX2_statesAtFirst : MethodName := ⟨RX2, "statesAtFirst", "(I)I"⟩
abbrev cX2_nextAtFirst : ByteArray := prog_4_method_5_code
def yX2_nextAtFirst : MethodName := ⟨RX2, "nextAtFirst", "(III)I"⟩
abbrev cX2_path : ByteArray := prog_4_method_6_code
def yX2_path : MethodName := ⟨RX2, "path", "(II)I"⟩
abbrev cX2_feed : ByteArray := prog_4_method_7_code
def yX2_feed : MethodName := ⟨RX2, "feed", "(I)V"⟩
abbrev cX2_cloneFrom : ByteArray := prog_4_method_8_code
def yX2_cloneFrom : MethodName := ⟨RX2, "cloneFrom", "(III)I"⟩
abbrev cX2_countBy : ByteArray := prog_4_method_9_code
def yX2_countBy : MethodName := ⟨RX2, "countBy", "(II)I"⟩
abbrev cX2_nextBy : ByteArray := prog_4_method_10_code
def yX2_nextBy : MethodName := ⟨RX2, "nextBy", "(II)I"⟩
abbrev cX2_lineOf : ByteArray := prog_4_method_11_code
def yX2_lineOf : MethodName := ⟨RX2, "lineOf", "(I)I"⟩
abbrev cX2_originOf : ByteArray := prog_4_method_12_code
def yX2_originOf : MethodName := ⟨RX2, "originOf", "(I)I"⟩
abbrev cX2_bothCounts : ByteArray := prog_4_method_13_code
def yX2_bothCounts : MethodName := ⟨RX2, "bothCounts", "(I)I"⟩
abbrev cX2_chance : ByteArray := prog_4_method_14_code
def yX2_chance : MethodName := ⟨RX2, "chance", "(I)I"⟩
abbrev cX2_likelyBit : ByteArray := prog_4_method_15_code
def yX2_likelyBit : MethodName := ⟨RX2, "likelyBit", "(I)I"⟩
abbrev cX2_costOf : ByteArray := prog_4_method_16_code
def yX2_costOf : MethodName := ⟨RX2, "costOf", "(III)I"⟩
abbrev cX2_flowInto : ByteArray := prog_4_method_17_code
def yX2_flowInto : MethodName := ⟨RX2, "flowInto", "(I)I"⟩
abbrev cX2_statesWithoutFlow : ByteArray := prog_4_method_18_code
def yX2_statesWithoutFlow : MethodName := ⟨RX2, "statesWithoutFlow", "()I"⟩
abbrev cX2_reckonFlows : ByteArray := prog_4_method_19_code
def yX2_reckonFlows : MethodName := ⟨RX2, "reckonFlows", "()V"⟩
abbrev cX2_allCounts : ByteArray := prog_4_method_20_code
def yX2_allCounts : MethodName := ⟨RX2, "allCounts", "()I"⟩
abbrev cX2_longestLine : ByteArray := prog_4_method_21_code
def yX2_longestLine : MethodName := ⟨RX2, "longestLine", "()I"⟩
abbrev cX2_copyFrom : ByteArray := prog_4_method_22_code
def yX2_copyFrom : MethodName := ⟨RX2, "copyFrom", "(LCloningMachine$Machine;)V"⟩
def RX3 : String := "CloningMachine$Packer"
def TX3 : u_T := fun k => match k with
  | 0 => ("CloningMachine$Packer", "settings", "LCloningMachine$Settings;", true)
  | 1 => ("CloningMachine$Packer", "machine", "LCloningMachine$Machine;", true)
  | 2 => ("CloningMachine$Packer", "span", "LCloningMachine$Span;", true)
  | 3 => ("CloningMachine$Packer", "target", "LCloningMachine$Bytes;", true)
  | _ => ("CloningMachine$Packer", "used", "Z", false)
def tyX3 : Nat → FieldType := fun k => match k with
  | 0 => .object "CloningMachine$Settings"
  | 1 => .object "CloningMachine$Machine"
  | 2 => .object "CloningMachine$Span"
  | 3 => .object "CloningMachine$Bytes"
  | _ => .boolean
theorem nmX3 : ∀ a, a < 5 → ∀ b, b < 5 → a ≠ b → (TX3 a).2.1 ≠ (TX3 b).2.1 := by decide +kernel
theorem tyX3_ok : ∀ k, k < 5 → parseFieldDescriptor (TX3 k).2.2.1 = some (tyX3 k) := by decide +kernel
abbrev cX3_init : ByteArray := prog_5_method_1_code
def yX3_init : MethodName := ⟨RX3, "<init>", "(LCloningMachine$Settings;LCloningMachine$Bytes;)V"⟩
abbrev cX3_open : ByteArray := prog_5_method_2_code
def yX3_open : MethodName := ⟨RX3, "open", "()V"⟩
abbrev cX3_close : ByteArray := prog_5_method_3_code
def yX3_close : MethodName := ⟨RX3, "close", "()V"⟩
abbrev cX3_packByte : ByteArray := prog_5_method_4_code
def yX3_packByte : MethodName := ⟨RX3, "packByte", "(I)V"⟩
abbrev cX3_packBit : ByteArray := prog_5_method_5_code
def yX3_packBit : MethodName := ⟨RX3, "packBit", "(I)V"⟩
abbrev cX3_putTop : ByteArray := prog_5_method_6_code
def yX3_putTop : MethodName := ⟨RX3, "putTop", "()V"⟩
def RX4 : String := "CloningMachine$Row"
def TX4 : u_T := fun k => match k with
  | _ => ("CloningMachine$Row", "cells", "[I", true)
def tyX4 : Nat → FieldType := fun k => match k with
  | _ => .array .int
theorem nmX4 : ∀ a, a < 1 → ∀ b, b < 1 → a ≠ b → (TX4 a).2.1 ≠ (TX4 b).2.1 := by decide +kernel
theorem tyX4_ok : ∀ k, k < 1 → parseFieldDescriptor (TX4 k).2.2.1 = some (tyX4 k) := by decide +kernel
abbrev cX4_init : ByteArray := prog_6_method_1_code
def yX4_init : MethodName := ⟨RX4, "<init>", "(I)V"⟩
abbrev cX4_get : ByteArray := prog_6_method_2_code
def yX4_get : MethodName := ⟨RX4, "get", "(I)I"⟩
abbrev cX4_put : ByteArray := prog_6_method_3_code
def yX4_put : MethodName := ⟨RX4, "put", "(II)V"⟩
abbrev cX4_copyFrom : ByteArray := prog_6_method_4_code
def yX4_copyFrom : MethodName := ⟨RX4, "copyFrom", "(LCloningMachine$Row;I)V"⟩
def RX5 : String := "CloningMachine$Settings"
def TX5 : u_T := fun k => match k with
  | _ => ("CloningMachine$Settings", "values", "LCloningMachine$Row;", true)
def tyX5 : Nat → FieldType := fun k => match k with
  | _ => .object "CloningMachine$Row"
theorem nmX5 : ∀ a, a < 1 → ∀ b, b < 1 → a ≠ b → (TX5 a).2.1 ≠ (TX5 b).2.1 := by decide +kernel
theorem tyX5_ok : ∀ k, k < 1 → parseFieldDescriptor (TX5 k).2.2.1 = some (tyX5 k) := by decide +kernel
abbrev cX5_init : ByteArray := prog_7_method_1_code
def yX5_init : MethodName := ⟨RX5, "<init>", "()V"⟩
abbrev cX5_allows : ByteArray := prog_7_method_2_code
def yX5_allows : MethodName := ⟨RX5, "allows", "(II)Z"⟩
abbrev cX5_get : ByteArray := prog_7_method_3_code
def yX5_get : MethodName := ⟨RX5, "get", "(I)I"⟩
abbrev cX5_tell : ByteArray := prog_7_method_4_code
def yX5_tell : MethodName := ⟨RX5, "tell", "(II)V"⟩
abbrev cX5_copyFrom : ByteArray := prog_7_method_5_code
def yX5_copyFrom : MethodName := ⟨RX5, "copyFrom", "(LCloningMachine$Settings;)V"⟩
abbrev cX5_turned : ByteArray := prog_7_method_6_code
def yX5_turned : MethodName := ⟨RX5, "turned", "(I)I"⟩
def RX6 : String := "CloningMachine$Span"
def TX6 : u_T := fun k => match k with
  | 0 => ("CloningMachine$Span", "low", "J", false)
  | _ => ("CloningMachine$Span", "high", "J", false)
def tyX6 : Nat → FieldType := fun k => match k with
  | 0 => .long
  | _ => .long
theorem nmX6 : ∀ a, a < 2 → ∀ b, b < 2 → a ≠ b → (TX6 a).2.1 ≠ (TX6 b).2.1 := by decide +kernel
theorem tyX6_ok : ∀ k, k < 2 → parseFieldDescriptor (TX6 k).2.2.1 = some (tyX6 k) := by decide +kernel
abbrev cX6_init : ByteArray := prog_8_method_1_code
def yX6_init : MethodName := ⟨RX6, "<init>", "()V"⟩
abbrev cX6_open : ByteArray := prog_8_method_2_code
def yX6_open : MethodName := ⟨RX6, "open", "()V"⟩
abbrev cX6_middle : ByteArray := prog_8_method_3_code
def yX6_middle : MethodName := ⟨RX6, "middle", "(I)J"⟩
abbrev cX6_narrow : ByteArray := prog_8_method_4_code
def yX6_narrow : MethodName := ⟨RX6, "narrow", "(IJ)V"⟩
abbrev cX6_topIsSettled : ByteArray := prog_8_method_5_code
def yX6_topIsSettled : MethodName := ⟨RX6, "topIsSettled", "()Z"⟩
abbrev cX6_topOfLow : ByteArray := prog_8_method_6_code
def yX6_topOfLow : MethodName := ⟨RX6, "topOfLow", "()I"⟩
abbrev cX6_loseTop : ByteArray := prog_8_method_7_code
def yX6_loseTop : MethodName := ⟨RX6, "loseTop", "()V"⟩
def RX7 : String := "CloningMachine$Unpacker"
def TX7 : u_T := fun k => match k with
  | 0 => ("CloningMachine$Unpacker", "settings", "LCloningMachine$Settings;", true)
  | 1 => ("CloningMachine$Unpacker", "machine", "LCloningMachine$Machine;", true)
  | 2 => ("CloningMachine$Unpacker", "span", "LCloningMachine$Span;", true)
  | 3 => ("CloningMachine$Unpacker", "source", "LCloningMachine$Bytes;", true)
  | 4 => ("CloningMachine$Unpacker", "code", "J", false)
  | 5 => ("CloningMachine$Unpacker", "pulled", "I", false)
  | _ => ("CloningMachine$Unpacker", "used", "Z", false)
def tyX7 : Nat → FieldType := fun k => match k with
  | 0 => .object "CloningMachine$Settings"
  | 1 => .object "CloningMachine$Machine"
  | 2 => .object "CloningMachine$Span"
  | 3 => .object "CloningMachine$Bytes"
  | 4 => .long
  | 5 => .int
  | _ => .boolean
theorem nmX7 : ∀ a, a < 7 → ∀ b, b < 7 → a ≠ b → (TX7 a).2.1 ≠ (TX7 b).2.1 := by decide +kernel
theorem tyX7_ok : ∀ k, k < 7 → parseFieldDescriptor (TX7 k).2.2.1 = some (tyX7 k) := by decide +kernel
abbrev cX7_init : ByteArray := prog_9_method_1_code
def yX7_init : MethodName := ⟨RX7, "<init>", "(LCloningMachine$Settings;LCloningMachine$Bytes;)V"⟩
abbrev cX7_open : ByteArray := prog_9_method_2_code
def yX7_open : MethodName := ⟨RX7, "open", "()V"⟩
abbrev cX7_bytesRead : ByteArray := prog_9_method_3_code
def yX7_bytesRead : MethodName := ⟨RX7, "bytesRead", "()I"⟩
abbrev cX7_unpackByte : ByteArray := prog_9_method_4_code
def yX7_unpackByte : MethodName := ⟨RX7, "unpackByte", "()I"⟩
abbrev cX7_unpackBit : ByteArray := prog_9_method_5_code
def yX7_unpackBit : MethodName := ⟨RX7, "unpackBit", "()I"⟩
abbrev cX7_pullByte : ByteArray := prog_9_method_6_code
def yX7_pullByte : MethodName := ⟨RX7, "pullByte", "()V"⟩
def RX8 : String := "CloningMachine"
def TX8 : u_T := fun k => match k with
  | 0 => ("CloningMachine", "settings", "LCloningMachine$Settings;", true)
  | 1 => ("CloningMachine", "running", "LCloningMachine$Machine;", true)
  | 2 => ("CloningMachine", "input", "LCloningMachine$Bytes;", true)
  | 3 => ("CloningMachine", "packed", "LCloningMachine$Bytes;", true)
  | 4 => ("CloningMachine", "unpacked", "LCloningMachine$Bytes;", true)
  | 5 => ("CloningMachine", "packer", "LCloningMachine$Packer;", true)
  | 6 => ("CloningMachine", "unpacker", "LCloningMachine$Unpacker;", true)
  | 7 => ("CloningMachine", "keptFirst", "LCloningMachine$Kept;", true)
  | 8 => ("CloningMachine", "keptSecond", "LCloningMachine$Kept;", true)
  | _ => ("CloningMachine", "keptNumber", "I", false)
def tyX8 : Nat → FieldType := fun k => match k with
  | 0 => .object "CloningMachine$Settings"
  | 1 => .object "CloningMachine$Machine"
  | 2 => .object "CloningMachine$Bytes"
  | 3 => .object "CloningMachine$Bytes"
  | 4 => .object "CloningMachine$Bytes"
  | 5 => .object "CloningMachine$Packer"
  | 6 => .object "CloningMachine$Unpacker"
  | 7 => .object "CloningMachine$Kept"
  | 8 => .object "CloningMachine$Kept"
  | _ => .int
theorem nmX8 : ∀ a, a < 10 → ∀ b, b < 10 → a ≠ b → (TX8 a).2.1 ≠ (TX8 b).2.1 := by decide +kernel
theorem tyX8_ok : ∀ k, k < 10 → parseFieldDescriptor (TX8 k).2.2.1 = some (tyX8 k) := by decide +kernel
abbrev cX8_init : ByteArray := prog_1_method_1_code
def yX8_init : MethodName := ⟨RX8, "<init>", "()V"⟩
abbrev cX8_set : ByteArray := prog_1_method_2_code
def yX8_set : MethodName := ⟨RX8, "set", "(II)I"⟩
abbrev cX8_renew : ByteArray := prog_1_method_3_code
def yX8_renew : MethodName := ⟨RX8, "renew", "()I"⟩
abbrev cX8_write : ByteArray := prog_1_method_4_code
def yX8_write : MethodName := ⟨RX8, "write", "(I)I"⟩
abbrev cX8_wipe : ByteArray := prog_1_method_5_code
def yX8_wipe : MethodName := ⟨RX8, "wipe", "()I"⟩
abbrev cX8_pack : ByteArray := prog_1_method_6_code
def yX8_pack : MethodName := ⟨RX8, "pack", "()I"⟩
abbrev cX8_unpack : ByteArray := prog_1_method_7_code
def yX8_unpack : MethodName := ⟨RX8, "unpack", "(I)I"⟩
abbrev cX8_spoil : ByteArray := prog_1_method_8_code
def yX8_spoil : MethodName := ⟨RX8, "spoil", "(II)I"⟩
abbrev cX8_at : ByteArray := prog_1_method_9_code
def yX8_at : MethodName := ⟨RX8, "at", "(II)I"⟩
abbrev cX8_alike : ByteArray := prog_1_method_10_code
def yX8_alike : MethodName := ⟨RX8, "alike", "()I"⟩
abbrev cX8_grew : ByteArray := prog_1_method_11_code
def yX8_grew : MethodName := ⟨RX8, "grew", "(II)I"⟩
abbrev cX8_bit : ByteArray := prog_1_method_12_code
def yX8_bit : MethodName := ⟨RX8, "bit", "(I)I"⟩
abbrev cX8_take : ByteArray := prog_1_method_13_code
def yX8_take : MethodName := ⟨RX8, "take", "(I)I"⟩
abbrev cX8_state : ByteArray := prog_1_method_14_code
def yX8_state : MethodName := ⟨RX8, "state", "(II)I"⟩
abbrev cX8_live : ByteArray := prog_1_method_15_code
def yX8_live : MethodName := ⟨RX8, "live", "(I)I"⟩
abbrev cX8_likely : ByteArray := prog_1_method_16_code
def yX8_likely : MethodName := ⟨RX8, "likely", "(I)I"⟩
abbrev cX8_guess : ByteArray := prog_1_method_17_code
def yX8_guess : MethodName := ⟨RX8, "guess", "()I"⟩
abbrev cX8_cost : ByteArray := prog_1_method_18_code
def yX8_cost : MethodName := ⟨RX8, "cost", "(II)I"⟩
abbrev cX8_cheapest : ByteArray := prog_1_method_19_code
def yX8_cheapest : MethodName := ⟨RX8, "cheapest", "(I)I"⟩
abbrev cX8_keep : ByteArray := prog_1_method_20_code
def yX8_keep : MethodName := ⟨RX8, "keep", "()I"⟩
abbrev cX8_back : ByteArray := prog_1_method_21_code
def yX8_back : MethodName := ⟨RX8, "back", "()I"⟩
abbrev cX8_count : ByteArray := prog_1_method_22_code
def yX8_count : MethodName := ⟨RX8, "count", "(I)I"⟩
abbrev cX8_keptPlace : ByteArray := prog_1_method_23_code
def yX8_keptPlace : MethodName := ⟨RX8, "keptPlace", "(I)LCloningMachine$Kept;"⟩
abbrev cX8_costOfByte : ByteArray := prog_1_method_24_code
def yX8_costOfByte : MethodName := ⟨RX8, "costOfByte", "(I)I"⟩
abbrev cX8_isByte : ByteArray := prog_1_method_25_code
def yX8_isByte : MethodName := ⟨RX8, "isByte", "(I)Z"⟩
abbrev cX8_bitFromHighest : ByteArray := prog_1_method_26_code
def yX8_bitFromHighest : MethodName := ⟨RX8, "bitFromHighest", "(III)I"⟩
abbrev cX8_cutQuotient : ByteArray := prog_1_method_27_code
def yX8_cutQuotient : MethodName := ⟨RX8, "cutQuotient", "(JJ)I"⟩
def RX9 : String := "CloningMachineModel"
def TX9 : u_T := fun k => match k with
  | 0 => ("CloningMachineModel", "m", "[I", true)
  | 1 => ("CloningMachineModel", "kept", "I", false)
  | 2 => ("CloningMachineModel", "input", "[I", true)
  | 3 => ("CloningMachineModel", "inputMany", "I", false)
  | 4 => ("CloningMachineModel", "pack", "[I", true)
  | 5 => ("CloningMachineModel", "packMany", "I", false)
  | 6 => ("CloningMachineModel", "out", "[I", true)
  | 7 => ("CloningMachineModel", "outMany", "I", false)
  | 8 => ("CloningMachineModel", "grown", "[I", true)
  | 9 => ("CloningMachineModel", "low", "J", false)
  | 10 => ("CloningMachineModel", "high", "J", false)
  | 11 => ("CloningMachineModel", "code", "J", false)
  | 12 => ("CloningMachineModel", "from", "I", false)
  | _ => ("CloningMachineModel", "spot", "I", false)
def tyX9 : Nat → FieldType := fun k => match k with
  | 0 => .array .int
  | 1 => .int
  | 2 => .array .int
  | 3 => .int
  | 4 => .array .int
  | 5 => .int
  | 6 => .array .int
  | 7 => .int
  | 8 => .array .int
  | 9 => .long
  | 10 => .long
  | 11 => .long
  | 12 => .int
  | _ => .int
theorem nmX9 : ∀ a, a < 14 → ∀ b, b < 14 → a ≠ b → (TX9 a).2.1 ≠ (TX9 b).2.1 := by decide +kernel
theorem tyX9_ok : ∀ k, k < 14 → parseFieldDescriptor (TX9 k).2.2.1 = some (tyX9 k) := by decide +kernel
abbrev cX9_init : ByteArray := prog_11_method_1_code
def yX9_init : MethodName := ⟨RX9, "<init>", "()V"⟩
abbrev cX9_in : ByteArray := prog_11_method_2_code
def yX9_in : MethodName := ⟨RX9, "in", "(JJJ)Z"⟩
abbrev cX9_lays : ByteArray := prog_11_method_3_code
def yX9_lays : MethodName := ⟨RX9, "lays", "(I)V"⟩
abbrev cX9_renews : ByteArray := prog_11_method_4_code
def yX9_renews : MethodName := ⟨RX9, "renews", "(I)V"⟩
abbrev cX9_both : ByteArray := prog_11_method_5_code
def yX9_both : MethodName := ⟨RX9, "both", "(II)I"⟩
abbrev cX9_clones : ByteArray := prog_11_method_6_code
def yX9_clones : MethodName := ⟨RX9, "clones", "(IIIIII)V"⟩
abbrev cX9_takes : ByteArray := prog_11_method_7_code
def yX9_takes : MethodName := ⟨RX9, "takes", "(II)V"⟩
abbrev cX9_chance : ByteArray := prog_11_method_8_code
def yX9_chance : MethodName := ⟨RX9, "chance", "(II)I"⟩
abbrev cX9_set : ByteArray := prog_11_method_9_code
def yX9_set : MethodName := ⟨RX9, "set", "(II)I"⟩
abbrev cX9_renew : ByteArray := prog_11_method_10_code
def yX9_renew : MethodName := ⟨RX9, "renew", "()I"⟩
abbrev cX9_write : ByteArray := prog_11_method_11_code
def yX9_write : MethodName := ⟨RX9, "write", "(I)I"⟩
abbrev cX9_wipe : ByteArray := prog_11_method_12_code
def yX9_wipe : MethodName := ⟨RX9, "wipe", "()I"⟩
abbrev cX9_place : ByteArray := prog_11_method_13_code
def yX9_place : MethodName := ⟨RX9, "place", "(I)I"⟩
abbrev cX9_begins : ByteArray := prog_11_method_14_code
def yX9_begins : MethodName := ⟨RX9, "begins", "()V"⟩
abbrev cX9_middle : ByteArray := prog_11_method_15_code
def yX9_middle : MethodName := ⟨RX9, "middle", "()J"⟩
abbrev cX9_narrows : ByteArray := prog_11_method_16_code
def yX9_narrows : MethodName := ⟨RX9, "narrows", "(IZ)V"⟩
abbrev cX9_notes : ByteArray := prog_11_method_17_code
def yX9_notes : MethodName := ⟨RX9, "notes", "(I)V"⟩
abbrev cX9_pack : ByteArray := prog_11_method_18_code
def yX9_pack : MethodName := ⟨RX9, "pack", "()I"⟩
abbrev cX9_unpack : ByteArray := prog_11_method_19_code
def yX9_unpack : MethodName := ⟨RX9, "unpack", "(I)I"⟩
abbrev cX9_spoil : ByteArray := prog_11_method_20_code
def yX9_spoil : MethodName := ⟨RX9, "spoil", "(II)I"⟩
abbrev cX9_at : ByteArray := prog_11_method_21_code
def yX9_at : MethodName := ⟨RX9, "at", "(II)I"⟩
abbrev cX9_alike : ByteArray := prog_11_method_22_code
def yX9_alike : MethodName := ⟨RX9, "alike", "()I"⟩
abbrev cX9_grew : ByteArray := prog_11_method_23_code
def yX9_grew : MethodName := ⟨RX9, "grew", "(II)I"⟩
abbrev cX9_bit : ByteArray := prog_11_method_24_code
def yX9_bit : MethodName := ⟨RX9, "bit", "(I)I"⟩
abbrev cX9_take : ByteArray := prog_11_method_25_code
def yX9_take : MethodName := ⟨RX9, "take", "(I)I"⟩
abbrev cX9_flow : ByteArray := prog_11_method_26_code
def yX9_flow : MethodName := ⟨RX9, "flow", "(I)I"⟩
abbrev cX9_line : ByteArray := prog_11_method_27_code
def yX9_line : MethodName := ⟨RX9, "line", "(I)I"⟩
abbrev cX9_state : ByteArray := prog_11_method_28_code
def yX9_state : MethodName := ⟨RX9, "state", "(II)I"⟩
abbrev cX9_live : ByteArray := prog_11_method_29_code
def yX9_live : MethodName := ⟨RX9, "live", "(I)I"⟩
abbrev cX9_likelyBit : ByteArray := prog_11_method_30_code
def yX9_likelyBit : MethodName := ⟨RX9, "likelyBit", "(I)I"⟩
abbrev cX9_likely : ByteArray := prog_11_method_31_code
def yX9_likely : MethodName := ⟨RX9, "likely", "(I)I"⟩
abbrev cX9_guess : ByteArray := prog_11_method_32_code
def yX9_guess : MethodName := ⟨RX9, "guess", "()I"⟩
abbrev cX9_costOf : ByteArray := prog_11_method_33_code
def yX9_costOf : MethodName := ⟨RX9, "costOf", "(I)I"⟩
abbrev cX9_cost : ByteArray := prog_11_method_34_code
def yX9_cost : MethodName := ⟨RX9, "cost", "(II)I"⟩
abbrev cX9_cheapest : ByteArray := prog_11_method_35_code
def yX9_cheapest : MethodName := ⟨RX9, "cheapest", "(I)I"⟩
abbrev cX9_keep : ByteArray := prog_11_method_36_code
def yX9_keep : MethodName := ⟨RX9, "keep", "()I"⟩
abbrev cX9_back : ByteArray := prog_11_method_37_code
def yX9_back : MethodName := ⟨RX9, "back", "()I"⟩
abbrev cX9_count : ByteArray := prog_11_method_38_code
def yX9_count : MethodName := ⟨RX9, "count", "(I)I"⟩
def RL : String := "CloningMachineLaw"
abbrev cL_law : ByteArray := code
def yL_law : MethodName := ⟨RL, "law", "([I)Z"⟩
abbrev vwCl : List vw_C := [(RX0, TX0, 3), (RX1, TX1, 2), (RX2, TX2, 11), (RX3, TX3, 5), (RX4, TX4, 1), (RX5, TX5, 1), (RX6, TX6, 2), (RX7, TX7, 7), (RX8, TX8, 10), (RX9, TX9, 14)]
def wsG : List Cond := lw_tbl.filter goodWord
theorem inG {w : Cond} {i : Nat} (h : lw_tbl[i]? = some w) (g : goodWord w = true) : w ∈ wsG := List.mem_filter.mpr ⟨List.mem_of_getElem? h, g⟩
theorem wsG_tbl : ∀ w ∈ wsG, w ∈ lw_tbl := fun w h => (List.mem_filter.mp h).1
theorem inG_list {ws : List Cond} (ps : List Nat) (h : ws = ps.filterMap (fun i => lw_tbl[i]?)) (g : ws.all goodWord = true) : ∀ w ∈ ws, w ∈ wsG := by
  intro w hw
  have h1 := List.all_eq_true.mp g w hw
  rw [h] at hw
  obtain ⟨i, -, hi⟩ := List.mem_filterMap.mp hw
  exact inG hi h1
theorem goodG {w : Cond} (h : w ∈ wsG) : w ∈ wsG ∧ ((w.onTables && w.keeps) = true ∨ ∃ ty, w = .arrayClass ty) := ⟨h, good_of_word (List.mem_filter.mp h).2⟩
theorem good_V {own C : String} {idx n : Nat} {y : MethodName} {b : ByteArray} {r : Option FieldType} (h1 : Cond.methodLink own idx y ∈ wsG) (h2 : Cond.instanceMethod y ∈ wsG) (h3 : Cond.selects C y y ∈ wsG) (h4 : Cond.initialized C ∈ wsG) (h5 : Cond.code y b n r ∈ wsG) : GoodIn wsG (wsV own idx C y (.code y b n r :: wsG)) := by
  intro w hw
  unfold wsV at hw
  simp only [List.cons_append, List.nil_append, List.mem_cons] at hw
  rcases hw with rfl | rfl | rfl | rfl | rfl | hw
  · exact goodG h1
  · exact goodG h2
  · exact goodG h3
  · exact goodG h4
  · exact goodG h5
  · exact goodG hw
theorem good_S {own : String} {idx n : Nat} {y : MethodName} {b : ByteArray} {r : Option FieldType} (h1 : Cond.methodLink own idx y ∈ wsG) (h2 : Cond.static y ∈ wsG) (h4 : Cond.initialized y.cls ∈ wsG) (h5 : Cond.code y b n r ∈ wsG) : GoodIn wsG (va_wsS own idx y (.code y b n r :: wsG)) := by
  intro w hw
  unfold va_wsS at hw
  simp only [List.cons_append, List.nil_append, List.mem_cons] at hw
  rcases hw with rfl | rfl | rfl | rfl | hw
  · exact goodG h1
  · exact goodG h2
  · exact goodG h4
  · exact goodG h5
  · exact goodG hw
theorem good_I {n : Nat} {y : MethodName} {b : ByteArray} {r : Option FieldType} (h5 : Cond.code y b n r ∈ wsG) : GoodIn wsG (.code y b n r :: wsG) := by
  intro w hw
  rcases List.mem_cons.mp hw with rfl | hw
  · exact goodG h5
  · exact goodG hw
theorem ini_L : Cond.initialized RL ∈ wsG := inG (i := 25) (by decide +kernel) (by decide +kernel)
theorem ini_X8 : Cond.initialized RX8 ∈ wsG := inG (i := 26) (by decide +kernel) (by decide +kernel)
theorem ini_X5 : Cond.initialized RX5 ∈ wsG := inG (i := 27) (by decide +kernel) (by decide +kernel)
theorem ini_X4 : Cond.initialized RX4 ∈ wsG := inG (i := 28) (by decide +kernel) (by decide +kernel)
theorem ini_Math : Cond.initialized "java/lang/Math" ∈ wsG := inG (i := 29) (by decide +kernel) (by decide +kernel)
theorem ini_X2 : Cond.initialized RX2 ∈ wsG := inG (i := 30) (by decide +kernel) (by decide +kernel)
theorem ini_X0 : Cond.initialized RX0 ∈ wsG := inG (i := 31) (by decide +kernel) (by decide +kernel)
theorem ini_X3 : Cond.initialized RX3 ∈ wsG := inG (i := 32) (by decide +kernel) (by decide +kernel)
theorem ini_X6 : Cond.initialized RX6 ∈ wsG := inG (i := 33) (by decide +kernel) (by decide +kernel)
theorem ini_X7 : Cond.initialized RX7 ∈ wsG := inG (i := 34) (by decide +kernel) (by decide +kernel)
theorem ini_X1 : Cond.initialized RX1 ∈ wsG := inG (i := 35) (by decide +kernel) (by decide +kernel)
theorem ini_X9 : Cond.initialized RX9 ∈ wsG := inG (i := 36) (by decide +kernel) (by decide +kernel)
theorem cl_L_7 : Cond.classLink RL 7 RX8 ∈ wsG := inG (i := 37) (by decide +kernel) (by decide +kernel)
theorem is_X8 : Cond.instantiable RX8 10 ∈ wsG := inG (i := 38) (by decide +kernel) (by decide +kernel)
theorem ml_L_9 : Cond.methodLink RL 9 yX8_init ∈ wsG := inG (i := 39) (by decide +kernel) (by decide +kernel)
theorem im_X8_init : Cond.instanceMethod yX8_init ∈ wsG := inG (i := 40) (by decide +kernel) (by decide +kernel)
theorem co_X8_init : Cond.code yX8_init cX8_init 1 none ∈ wsG := inG (i := 41) (by decide +kernel) (by decide +kernel)
theorem ml_X8_3 : Cond.methodLink RX8 3 objectInit ∈ wsG := inG (i := 42) (by decide +kernel) (by decide +kernel)
theorem im_Object_init : Cond.instanceMethod objectInit ∈ wsG := inG (i := 43) (by decide +kernel) (by decide +kernel)
theorem co_Object_init : Cond.code objectInit ⟨#[0xb1]⟩ 1 none ∈ wsG := inG (i := 44) (by decide +kernel) (by decide +kernel)
theorem cl_X8_9 : Cond.classLink RX8 9 RX5 ∈ wsG := inG (i := 45) (by decide +kernel) (by decide +kernel)
theorem is_X5 : Cond.instantiable RX5 1 ∈ wsG := inG (i := 46) (by decide +kernel) (by decide +kernel)
theorem ml_X8_11 : Cond.methodLink RX8 11 yX5_init ∈ wsG := inG (i := 47) (by decide +kernel) (by decide +kernel)
theorem im_X5_init : Cond.instanceMethod yX5_init ∈ wsG := inG (i := 48) (by decide +kernel) (by decide +kernel)
theorem co_X5_init : Cond.code yX5_init cX5_init 2 none ∈ wsG := inG (i := 49) (by decide +kernel) (by decide +kernel)
theorem ml_X5_3 : Cond.methodLink RX5 3 objectInit ∈ wsG := inG (i := 50) (by decide +kernel) (by decide +kernel)
theorem cl_X5_9 : Cond.classLink RX5 9 RX4 ∈ wsG := inG (i := 51) (by decide +kernel) (by decide +kernel)
theorem is_X4 : Cond.instantiable RX4 1 ∈ wsG := inG (i := 52) (by decide +kernel) (by decide +kernel)
theorem ml_X5_15 : Cond.methodLink RX5 15 yX4_init ∈ wsG := inG (i := 55) (by decide +kernel) (by decide +kernel)
theorem im_X4_init : Cond.instanceMethod yX4_init ∈ wsG := inG (i := 56) (by decide +kernel) (by decide +kernel)
theorem co_X4_init : Cond.code yX4_init cX4_init 2 none ∈ wsG := inG (i := 57) (by decide +kernel) (by decide +kernel)
theorem ml_X4_1 : Cond.methodLink RX4 1 objectInit ∈ wsG := inG (i := 58) (by decide +kernel) (by decide +kernel)
theorem ml_X4_7 : Cond.methodLink RX4 7 Lib.Math.max.name ∈ wsG := inG (i := 59) (by decide +kernel) (by decide +kernel)
theorem st_Math_max : Cond.static Lib.Math.max.name ∈ wsG := inG (i := 60) (by decide +kernel) (by decide +kernel)
theorem co_Math_max : Cond.code Lib.Math.max.name Lib.Math.max.code 2 (some .int) ∈ wsG := inG (i := 61) (by decide +kernel) (by decide +kernel)
theorem fl_X4_13 : Cond.fieldLink RX4 13 "CloningMachine$Row" "cells" "[I" ∈ wsG := inG (i := 62) (by decide +kernel) (by decide +kernel)
theorem ac_int : Cond.arrayClass .int ∈ wsG := inG (i := 66) (by decide +kernel) (by decide +kernel)
theorem ml_X5_24 : Cond.methodLink RX5 24 yX4_put ∈ wsG := inG (i := 67) (by decide +kernel) (by decide +kernel)
theorem im_X4_put : Cond.instanceMethod yX4_put ∈ wsG := inG (i := 68) (by decide +kernel) (by decide +kernel)
theorem se_X4_put : Cond.selects RX4 yX4_put yX4_put ∈ wsG := inG (i := 69) (by decide +kernel) (by decide +kernel)
theorem co_X4_put : Cond.code yX4_put cX4_put 3 none ∈ wsG := inG (i := 70) (by decide +kernel) (by decide +kernel)
theorem fl_X5_18 : Cond.fieldLink RX5 18 "CloningMachine$Settings" "values" "LCloningMachine$Row;" ∈ wsG := inG (i := 71) (by decide +kernel) (by decide +kernel)
theorem cl_X8_16 : Cond.classLink RX8 16 RX2 ∈ wsG := inG (i := 75) (by decide +kernel) (by decide +kernel)
theorem is_X2 : Cond.instantiable RX2 11 ∈ wsG := inG (i := 76) (by decide +kernel) (by decide +kernel)
theorem ml_X8_18 : Cond.methodLink RX8 18 yX2_init ∈ wsG := inG (i := 77) (by decide +kernel) (by decide +kernel)
theorem im_X2_init : Cond.instanceMethod yX2_init ∈ wsG := inG (i := 78) (by decide +kernel) (by decide +kernel)
theorem co_X2_init : Cond.code yX2_init cX2_init 2 none ∈ wsG := inG (i := 79) (by decide +kernel) (by decide +kernel)
theorem ml_X2_3 : Cond.methodLink RX2 3 objectInit ∈ wsG := inG (i := 80) (by decide +kernel) (by decide +kernel)
theorem cl_X2_9 : Cond.classLink RX2 9 RX4 ∈ wsG := inG (i := 81) (by decide +kernel) (by decide +kernel)
theorem ml_X2_11 : Cond.methodLink RX2 11 yX4_init ∈ wsG := inG (i := 82) (by decide +kernel) (by decide +kernel)
theorem ml_X2_36 : Cond.methodLink RX2 36 yX2_begin ∈ wsG := inG (i := 83) (by decide +kernel) (by decide +kernel)
theorem im_X2_begin : Cond.instanceMethod yX2_begin ∈ wsG := inG (i := 84) (by decide +kernel) (by decide +kernel)
theorem se_X2_begin : Cond.selects RX2 yX2_begin yX2_begin ∈ wsG := inG (i := 85) (by decide +kernel) (by decide +kernel)
theorem co_X2_begin : Cond.code yX2_begin cX2_begin 1 none ∈ wsG := inG (i := 86) (by decide +kernel) (by decide +kernel)
theorem ml_X2_49 : Cond.methodLink RX2 49 yX2_shapeAnew ∈ wsG := inG (i := 87) (by decide +kernel) (by decide +kernel)
theorem im_X2_shapeAnew : Cond.instanceMethod yX2_shapeAnew ∈ wsG := inG (i := 89) (by decide +kernel) (by decide +kernel)
theorem co_X2_shapeAnew : Cond.code yX2_shapeAnew cX2_shapeAnew 4 none ∈ wsG := inG (i := 90) (by decide +kernel) (by decide +kernel)
theorem ml_X2_52 : Cond.methodLink RX2 52 yX5_get ∈ wsG := inG (i := 91) (by decide +kernel) (by decide +kernel)
theorem im_X5_get : Cond.instanceMethod yX5_get ∈ wsG := inG (i := 92) (by decide +kernel) (by decide +kernel)
theorem se_X5_get : Cond.selects RX5 yX5_get yX5_get ∈ wsG := inG (i := 93) (by decide +kernel) (by decide +kernel)
theorem co_X5_get : Cond.code yX5_get cX5_get 2 (some .int) ∈ wsG := inG (i := 94) (by decide +kernel) (by decide +kernel)
theorem ml_X5_34 : Cond.methodLink RX5 34 yX4_get ∈ wsG := inG (i := 95) (by decide +kernel) (by decide +kernel)
theorem im_X4_get : Cond.instanceMethod yX4_get ∈ wsG := inG (i := 96) (by decide +kernel) (by decide +kernel)
theorem se_X4_get : Cond.selects RX4 yX4_get yX4_get ∈ wsG := inG (i := 97) (by decide +kernel) (by decide +kernel)
theorem co_X4_get : Cond.code yX4_get cX4_get 2 (some .int) ∈ wsG := inG (i := 98) (by decide +kernel) (by decide +kernel)
theorem ml_X2_58 : Cond.methodLink RX2 58 yX2_statesAtFirst ∈ wsG := inG (i := 99) (by decide +kernel) (by decide +kernel)
theorem st_X2_statesAtFirst : Cond.static yX2_statesAtFirst ∈ wsG := inG (i := 100) (by decide +kernel) (by decide +kernel)
theorem co_X2_statesAtFirst : Cond.code yX2_statesAtFirst cX2_statesAtFirst 1 (some .int) ∈ wsG := inG (i := 101) (by decide +kernel) (by decide +kernel)
theorem ml_X2_67 : Cond.methodLink RX2 67 yX2_path ∈ wsG := inG (i := 102) (by decide +kernel) (by decide +kernel)
theorem st_X2_path : Cond.static yX2_path ∈ wsG := inG (i := 103) (by decide +kernel) (by decide +kernel)
theorem co_X2_path : Cond.code yX2_path cX2_path 2 (some .int) ∈ wsG := inG (i := 104) (by decide +kernel) (by decide +kernel)
theorem ml_X2_71 : Cond.methodLink RX2 71 yX4_put ∈ wsG := inG (i := 105) (by decide +kernel) (by decide +kernel)
theorem ml_X2_75 : Cond.methodLink RX2 75 yX2_nextAtFirst ∈ wsG := inG (i := 106) (by decide +kernel) (by decide +kernel)
theorem st_X2_nextAtFirst : Cond.static yX2_nextAtFirst ∈ wsG := inG (i := 107) (by decide +kernel) (by decide +kernel)
theorem co_X2_nextAtFirst : Cond.code yX2_nextAtFirst cX2_nextAtFirst 5 (some .int) ∈ wsG := inG (i := 108) (by decide +kernel) (by decide +kernel)
theorem fl_X2_32 : Cond.fieldLink RX2 32 "CloningMachine$Machine" "settings" "LCloningMachine$Settings;" ∈ wsG := inG (i := 109) (by decide +kernel) (by decide +kernel)
theorem fl_X2_14 : Cond.fieldLink RX2 14 "CloningMachine$Machine" "counts" "LCloningMachine$Row;" ∈ wsG := inG (i := 110) (by decide +kernel) (by decide +kernel)
theorem fl_X2_20 : Cond.fieldLink RX2 20 "CloningMachine$Machine" "nexts" "LCloningMachine$Row;" ∈ wsG := inG (i := 111) (by decide +kernel) (by decide +kernel)
theorem fl_X2_23 : Cond.fieldLink RX2 23 "CloningMachine$Machine" "origins" "LCloningMachine$Row;" ∈ wsG := inG (i := 112) (by decide +kernel) (by decide +kernel)
theorem fl_X2_26 : Cond.fieldLink RX2 26 "CloningMachine$Machine" "lines" "LCloningMachine$Row;" ∈ wsG := inG (i := 113) (by decide +kernel) (by decide +kernel)
theorem fl_X2_29 : Cond.fieldLink RX2 29 "CloningMachine$Machine" "flows" "LCloningMachine$Row;" ∈ wsG := inG (i := 114) (by decide +kernel) (by decide +kernel)
theorem fl_X2_61 : Cond.fieldLink RX2 61 "CloningMachine$Machine" "states" "I" ∈ wsG := inG (i := 116) (by decide +kernel) (by decide +kernel)
theorem fl_X2_64 : Cond.fieldLink RX2 64 "CloningMachine$Machine" "here" "I" ∈ wsG := inG (i := 117) (by decide +kernel) (by decide +kernel)
theorem fl_X2_39 : Cond.fieldLink RX2 39 "CloningMachine$Machine" "taken" "I" ∈ wsG := inG (i := 121) (by decide +kernel) (by decide +kernel)
theorem fl_X2_43 : Cond.fieldLink RX2 43 "CloningMachine$Machine" "clonings" "I" ∈ wsG := inG (i := 123) (by decide +kernel) (by decide +kernel)
theorem fl_X2_46 : Cond.fieldLink RX2 46 "CloningMachine$Machine" "drops" "I" ∈ wsG := inG (i := 125) (by decide +kernel) (by decide +kernel)
theorem cl_X8_25 : Cond.classLink RX8 25 RX0 ∈ wsG := inG (i := 150) (by decide +kernel) (by decide +kernel)
theorem is_X0 : Cond.instantiable RX0 3 ∈ wsG := inG (i := 151) (by decide +kernel) (by decide +kernel)
theorem ml_X8_27 : Cond.methodLink RX8 27 yX0_init ∈ wsG := inG (i := 152) (by decide +kernel) (by decide +kernel)
theorem im_X0_init : Cond.instanceMethod yX0_init ∈ wsG := inG (i := 153) (by decide +kernel) (by decide +kernel)
theorem co_X0_init : Cond.code yX0_init cX0_init 2 none ∈ wsG := inG (i := 154) (by decide +kernel) (by decide +kernel)
theorem ml_X0_1 : Cond.methodLink RX0 1 objectInit ∈ wsG := inG (i := 155) (by decide +kernel) (by decide +kernel)
theorem cl_X0_16 : Cond.classLink RX0 16 RX4 ∈ wsG := inG (i := 156) (by decide +kernel) (by decide +kernel)
theorem ml_X0_18 : Cond.methodLink RX0 18 yX4_init ∈ wsG := inG (i := 157) (by decide +kernel) (by decide +kernel)
theorem fl_X0_21 : Cond.fieldLink RX0 21 "CloningMachine$Bytes" "row" "LCloningMachine$Row;" ∈ wsG := inG (i := 158) (by decide +kernel) (by decide +kernel)
theorem fl_X0_13 : Cond.fieldLink RX0 13 "CloningMachine$Bytes" "room" "I" ∈ wsG := inG (i := 159) (by decide +kernel) (by decide +kernel)
theorem fl_X0_7 : Cond.fieldLink RX0 7 "CloningMachine$Bytes" "length" "I" ∈ wsG := inG (i := 160) (by decide +kernel) (by decide +kernel)
theorem cl_X8_40 : Cond.classLink RX8 40 RX3 ∈ wsG := inG (i := 168) (by decide +kernel) (by decide +kernel)
theorem is_X3 : Cond.instantiable RX3 5 ∈ wsG := inG (i := 169) (by decide +kernel) (by decide +kernel)
theorem ml_X8_42 : Cond.methodLink RX8 42 yX3_init ∈ wsG := inG (i := 170) (by decide +kernel) (by decide +kernel)
theorem im_X3_init : Cond.instanceMethod yX3_init ∈ wsG := inG (i := 171) (by decide +kernel) (by decide +kernel)
theorem co_X3_init : Cond.code yX3_init cX3_init 3 none ∈ wsG := inG (i := 172) (by decide +kernel) (by decide +kernel)
theorem ml_X3_3 : Cond.methodLink RX3 3 objectInit ∈ wsG := inG (i := 173) (by decide +kernel) (by decide +kernel)
theorem cl_X3_9 : Cond.classLink RX3 9 RX6 ∈ wsG := inG (i := 174) (by decide +kernel) (by decide +kernel)
theorem is_X6 : Cond.instantiable RX6 2 ∈ wsG := inG (i := 175) (by decide +kernel) (by decide +kernel)
theorem im_X6_init : Cond.instanceMethod yX6_init ∈ wsG := inG (i := 177) (by decide +kernel) (by decide +kernel)
theorem co_X6_init : Cond.code yX6_init cX6_init 1 none ∈ wsG := inG (i := 178) (by decide +kernel) (by decide +kernel)
theorem ml_X6_3 : Cond.methodLink RX6 3 objectInit ∈ wsG := inG (i := 179) (by decide +kernel) (by decide +kernel)
theorem fl_X6_9 : Cond.fieldLink RX6 9 "CloningMachine$Span" "low" "J" ∈ wsG := inG (i := 180) (by decide +kernel) (by decide +kernel)
theorem fl_X6_17 : Cond.fieldLink RX6 17 "CloningMachine$Span" "high" "J" ∈ wsG := inG (i := 181) (by decide +kernel) (by decide +kernel)
theorem cl_X3_30 : Cond.classLink RX3 30 RX2 ∈ wsG := inG (i := 187) (by decide +kernel) (by decide +kernel)
theorem ml_X3_32 : Cond.methodLink RX3 32 yX2_init ∈ wsG := inG (i := 188) (by decide +kernel) (by decide +kernel)
theorem fl_X3_22 : Cond.fieldLink RX3 22 "CloningMachine$Packer" "settings" "LCloningMachine$Settings;" ∈ wsG := inG (i := 189) (by decide +kernel) (by decide +kernel)
theorem fl_X3_35 : Cond.fieldLink RX3 35 "CloningMachine$Packer" "machine" "LCloningMachine$Machine;" ∈ wsG := inG (i := 190) (by decide +kernel) (by decide +kernel)
theorem fl_X3_12 : Cond.fieldLink RX3 12 "CloningMachine$Packer" "span" "LCloningMachine$Span;" ∈ wsG := inG (i := 192) (by decide +kernel) (by decide +kernel)
theorem fl_X3_26 : Cond.fieldLink RX3 26 "CloningMachine$Packer" "target" "LCloningMachine$Bytes;" ∈ wsG := inG (i := 193) (by decide +kernel) (by decide +kernel)
theorem fl_X3_18 : Cond.fieldLink RX3 18 "CloningMachine$Packer" "used" "Z" ∈ wsG := inG (i := 194) (by decide +kernel) (by decide +kernel)
theorem cl_X8_49 : Cond.classLink RX8 49 RX7 ∈ wsG := inG (i := 207) (by decide +kernel) (by decide +kernel)
theorem is_X7 : Cond.instantiable RX7 7 ∈ wsG := inG (i := 208) (by decide +kernel) (by decide +kernel)
theorem ml_X8_51 : Cond.methodLink RX8 51 yX7_init ∈ wsG := inG (i := 209) (by decide +kernel) (by decide +kernel)
theorem im_X7_init : Cond.instanceMethod yX7_init ∈ wsG := inG (i := 210) (by decide +kernel) (by decide +kernel)
theorem co_X7_init : Cond.code yX7_init cX7_init 3 none ∈ wsG := inG (i := 211) (by decide +kernel) (by decide +kernel)
theorem ml_X7_3 : Cond.methodLink RX7 3 objectInit ∈ wsG := inG (i := 212) (by decide +kernel) (by decide +kernel)
theorem cl_X7_9 : Cond.classLink RX7 9 RX6 ∈ wsG := inG (i := 213) (by decide +kernel) (by decide +kernel)
theorem cl_X7_38 : Cond.classLink RX7 38 RX2 ∈ wsG := inG (i := 215) (by decide +kernel) (by decide +kernel)
theorem ml_X7_40 : Cond.methodLink RX7 40 yX2_init ∈ wsG := inG (i := 216) (by decide +kernel) (by decide +kernel)
theorem fl_X7_30 : Cond.fieldLink RX7 30 "CloningMachine$Unpacker" "settings" "LCloningMachine$Settings;" ∈ wsG := inG (i := 217) (by decide +kernel) (by decide +kernel)
theorem fl_X7_43 : Cond.fieldLink RX7 43 "CloningMachine$Unpacker" "machine" "LCloningMachine$Machine;" ∈ wsG := inG (i := 218) (by decide +kernel) (by decide +kernel)
theorem fl_X7_12 : Cond.fieldLink RX7 12 "CloningMachine$Unpacker" "span" "LCloningMachine$Span;" ∈ wsG := inG (i := 220) (by decide +kernel) (by decide +kernel)
theorem fl_X7_34 : Cond.fieldLink RX7 34 "CloningMachine$Unpacker" "source" "LCloningMachine$Bytes;" ∈ wsG := inG (i := 221) (by decide +kernel) (by decide +kernel)
theorem fl_X7_18 : Cond.fieldLink RX7 18 "CloningMachine$Unpacker" "code" "J" ∈ wsG := inG (i := 222) (by decide +kernel) (by decide +kernel)
theorem fl_X7_22 : Cond.fieldLink RX7 22 "CloningMachine$Unpacker" "pulled" "I" ∈ wsG := inG (i := 223) (by decide +kernel) (by decide +kernel)
theorem fl_X7_26 : Cond.fieldLink RX7 26 "CloningMachine$Unpacker" "used" "Z" ∈ wsG := inG (i := 224) (by decide +kernel) (by decide +kernel)
theorem cl_X8_56 : Cond.classLink RX8 56 RX1 ∈ wsG := inG (i := 241) (by decide +kernel) (by decide +kernel)
theorem is_X1 : Cond.instantiable RX1 2 ∈ wsG := inG (i := 242) (by decide +kernel) (by decide +kernel)
theorem im_X1_init : Cond.instanceMethod yX1_init ∈ wsG := inG (i := 244) (by decide +kernel) (by decide +kernel)
theorem co_X1_init : Cond.code yX1_init cX1_init 1 none ∈ wsG := inG (i := 245) (by decide +kernel) (by decide +kernel)
theorem ml_X1_1 : Cond.methodLink RX1 1 objectInit ∈ wsG := inG (i := 246) (by decide +kernel) (by decide +kernel)
theorem cl_X1_7 : Cond.classLink RX1 7 RX5 ∈ wsG := inG (i := 247) (by decide +kernel) (by decide +kernel)
theorem ml_X1_9 : Cond.methodLink RX1 9 yX5_init ∈ wsG := inG (i := 248) (by decide +kernel) (by decide +kernel)
theorem cl_X1_16 : Cond.classLink RX1 16 RX2 ∈ wsG := inG (i := 249) (by decide +kernel) (by decide +kernel)
theorem ml_X1_18 : Cond.methodLink RX1 18 yX2_init ∈ wsG := inG (i := 250) (by decide +kernel) (by decide +kernel)
theorem fl_X1_10 : Cond.fieldLink RX1 10 "CloningMachine$Kept" "settings" "LCloningMachine$Settings;" ∈ wsG := inG (i := 251) (by decide +kernel) (by decide +kernel)
theorem fl_X1_21 : Cond.fieldLink RX1 21 "CloningMachine$Kept" "machine" "LCloningMachine$Machine;" ∈ wsG := inG (i := 253) (by decide +kernel) (by decide +kernel)
theorem fl_X8_12 : Cond.fieldLink RX8 12 "CloningMachine" "settings" "LCloningMachine$Settings;" ∈ wsG := inG (i := 260) (by decide +kernel) (by decide +kernel)
theorem fl_X8_21 : Cond.fieldLink RX8 21 "CloningMachine" "running" "LCloningMachine$Machine;" ∈ wsG := inG (i := 261) (by decide +kernel) (by decide +kernel)
theorem fl_X8_30 : Cond.fieldLink RX8 30 "CloningMachine" "input" "LCloningMachine$Bytes;" ∈ wsG := inG (i := 262) (by decide +kernel) (by decide +kernel)
theorem fl_X8_34 : Cond.fieldLink RX8 34 "CloningMachine" "packed" "LCloningMachine$Bytes;" ∈ wsG := inG (i := 263) (by decide +kernel) (by decide +kernel)
theorem fl_X8_37 : Cond.fieldLink RX8 37 "CloningMachine" "unpacked" "LCloningMachine$Bytes;" ∈ wsG := inG (i := 264) (by decide +kernel) (by decide +kernel)
theorem fl_X8_45 : Cond.fieldLink RX8 45 "CloningMachine" "packer" "LCloningMachine$Packer;" ∈ wsG := inG (i := 265) (by decide +kernel) (by decide +kernel)
theorem fl_X8_52 : Cond.fieldLink RX8 52 "CloningMachine" "unpacker" "LCloningMachine$Unpacker;" ∈ wsG := inG (i := 266) (by decide +kernel) (by decide +kernel)
theorem fl_X8_59 : Cond.fieldLink RX8 59 "CloningMachine" "keptFirst" "LCloningMachine$Kept;" ∈ wsG := inG (i := 267) (by decide +kernel) (by decide +kernel)
theorem fl_X8_63 : Cond.fieldLink RX8 63 "CloningMachine" "keptSecond" "LCloningMachine$Kept;" ∈ wsG := inG (i := 268) (by decide +kernel) (by decide +kernel)
theorem fl_X8_66 : Cond.fieldLink RX8 66 "CloningMachine" "keptNumber" "I" ∈ wsG := inG (i := 269) (by decide +kernel) (by decide +kernel)
theorem ml_L_13 : Cond.methodLink RL 13 yX8_set ∈ wsG := inG (i := 291) (by decide +kernel) (by decide +kernel)
theorem im_X8_set : Cond.instanceMethod yX8_set ∈ wsG := inG (i := 292) (by decide +kernel) (by decide +kernel)
theorem se_X8_set : Cond.selects RX8 yX8_set yX8_set ∈ wsG := inG (i := 293) (by decide +kernel) (by decide +kernel)
theorem co_X8_set : Cond.code yX8_set cX8_set 4 (some .int) ∈ wsG := inG (i := 294) (by decide +kernel) (by decide +kernel)
theorem ml_X8_70 : Cond.methodLink RX8 70 yX5_allows ∈ wsG := inG (i := 295) (by decide +kernel) (by decide +kernel)
theorem st_X5_allows : Cond.static yX5_allows ∈ wsG := inG (i := 296) (by decide +kernel) (by decide +kernel)
theorem co_X5_allows : Cond.code yX5_allows cX5_allows 2 (some .boolean) ∈ wsG := inG (i := 297) (by decide +kernel) (by decide +kernel)
theorem ml_X8_74 : Cond.methodLink RX8 74 yX5_get ∈ wsG := inG (i := 302) (by decide +kernel) (by decide +kernel)
theorem ml_X8_78 : Cond.methodLink RX8 78 yX5_tell ∈ wsG := inG (i := 303) (by decide +kernel) (by decide +kernel)
theorem im_X5_tell : Cond.instanceMethod yX5_tell ∈ wsG := inG (i := 304) (by decide +kernel) (by decide +kernel)
theorem se_X5_tell : Cond.selects RX5 yX5_tell yX5_tell ∈ wsG := inG (i := 305) (by decide +kernel) (by decide +kernel)
theorem co_X5_tell : Cond.code yX5_tell cX5_tell 3 none ∈ wsG := inG (i := 306) (by decide +kernel) (by decide +kernel)
theorem ml_X8_82 : Cond.methodLink RX8 82 yX2_begin ∈ wsG := inG (i := 307) (by decide +kernel) (by decide +kernel)
theorem ml_L_18 : Cond.methodLink RL 18 yX8_renew ∈ wsG := inG (i := 308) (by decide +kernel) (by decide +kernel)
theorem im_X8_renew : Cond.instanceMethod yX8_renew ∈ wsG := inG (i := 309) (by decide +kernel) (by decide +kernel)
theorem se_X8_renew : Cond.selects RX8 yX8_renew yX8_renew ∈ wsG := inG (i := 310) (by decide +kernel) (by decide +kernel)
theorem co_X8_renew : Cond.code yX8_renew cX8_renew 1 (some .int) ∈ wsG := inG (i := 311) (by decide +kernel) (by decide +kernel)
theorem ml_L_23 : Cond.methodLink RL 23 yX8_write ∈ wsG := inG (i := 312) (by decide +kernel) (by decide +kernel)
theorem im_X8_write : Cond.instanceMethod yX8_write ∈ wsG := inG (i := 313) (by decide +kernel) (by decide +kernel)
theorem se_X8_write : Cond.selects RX8 yX8_write yX8_write ∈ wsG := inG (i := 314) (by decide +kernel) (by decide +kernel)
theorem co_X8_write : Cond.code yX8_write cX8_write 2 (some .int) ∈ wsG := inG (i := 315) (by decide +kernel) (by decide +kernel)
theorem ml_X8_88 : Cond.methodLink RX8 88 yX8_isByte ∈ wsG := inG (i := 316) (by decide +kernel) (by decide +kernel)
theorem st_X8_isByte : Cond.static yX8_isByte ∈ wsG := inG (i := 317) (by decide +kernel) (by decide +kernel)
theorem co_X8_isByte : Cond.code yX8_isByte cX8_isByte 1 (some .boolean) ∈ wsG := inG (i := 318) (by decide +kernel) (by decide +kernel)
theorem ml_X8_92 : Cond.methodLink RX8 92 yX0_length ∈ wsG := inG (i := 319) (by decide +kernel) (by decide +kernel)
theorem im_X0_length : Cond.instanceMethod yX0_length ∈ wsG := inG (i := 320) (by decide +kernel) (by decide +kernel)
theorem se_X0_length : Cond.selects RX0 yX0_length yX0_length ∈ wsG := inG (i := 321) (by decide +kernel) (by decide +kernel)
theorem co_X0_length : Cond.code yX0_length cX0_length 1 (some .int) ∈ wsG := inG (i := 322) (by decide +kernel) (by decide +kernel)
theorem ml_X8_96 : Cond.methodLink RX8 96 yX0_add ∈ wsG := inG (i := 323) (by decide +kernel) (by decide +kernel)
theorem im_X0_add : Cond.instanceMethod yX0_add ∈ wsG := inG (i := 324) (by decide +kernel) (by decide +kernel)
theorem se_X0_add : Cond.selects RX0 yX0_add yX0_add ∈ wsG := inG (i := 325) (by decide +kernel) (by decide +kernel)
theorem co_X0_add : Cond.code yX0_add cX0_add 2 none ∈ wsG := inG (i := 326) (by decide +kernel) (by decide +kernel)
theorem ml_X0_29 : Cond.methodLink RX0 29 yX4_put ∈ wsG := inG (i := 327) (by decide +kernel) (by decide +kernel)
theorem ml_L_28 : Cond.methodLink RL 28 yX8_wipe ∈ wsG := inG (i := 328) (by decide +kernel) (by decide +kernel)
theorem im_X8_wipe : Cond.instanceMethod yX8_wipe ∈ wsG := inG (i := 329) (by decide +kernel) (by decide +kernel)
theorem se_X8_wipe : Cond.selects RX8 yX8_wipe yX8_wipe ∈ wsG := inG (i := 330) (by decide +kernel) (by decide +kernel)
theorem co_X8_wipe : Cond.code yX8_wipe cX8_wipe 2 (some .int) ∈ wsG := inG (i := 331) (by decide +kernel) (by decide +kernel)
theorem ml_X8_99 : Cond.methodLink RX8 99 yX0_clear ∈ wsG := inG (i := 332) (by decide +kernel) (by decide +kernel)
theorem im_X0_clear : Cond.instanceMethod yX0_clear ∈ wsG := inG (i := 333) (by decide +kernel) (by decide +kernel)
theorem se_X0_clear : Cond.selects RX0 yX0_clear yX0_clear ∈ wsG := inG (i := 334) (by decide +kernel) (by decide +kernel)
theorem co_X0_clear : Cond.code yX0_clear cX0_clear 1 none ∈ wsG := inG (i := 335) (by decide +kernel) (by decide +kernel)
theorem ml_L_32 : Cond.methodLink RL 32 yX8_pack ∈ wsG := inG (i := 336) (by decide +kernel) (by decide +kernel)
theorem im_X8_pack : Cond.instanceMethod yX8_pack ∈ wsG := inG (i := 337) (by decide +kernel) (by decide +kernel)
theorem se_X8_pack : Cond.selects RX8 yX8_pack yX8_pack ∈ wsG := inG (i := 338) (by decide +kernel) (by decide +kernel)
theorem co_X8_pack : Cond.code yX8_pack cX8_pack 2 (some .int) ∈ wsG := inG (i := 339) (by decide +kernel) (by decide +kernel)
theorem ml_X8_102 : Cond.methodLink RX8 102 yX3_open ∈ wsG := inG (i := 340) (by decide +kernel) (by decide +kernel)
theorem im_X3_open : Cond.instanceMethod yX3_open ∈ wsG := inG (i := 341) (by decide +kernel) (by decide +kernel)
theorem se_X3_open : Cond.selects RX3 yX3_open yX3_open ∈ wsG := inG (i := 342) (by decide +kernel) (by decide +kernel)
theorem co_X3_open : Cond.code yX3_open cX3_open 1 none ∈ wsG := inG (i := 343) (by decide +kernel) (by decide +kernel)
theorem ml_X3_39 : Cond.methodLink RX3 39 yX2_begin ∈ wsG := inG (i := 344) (by decide +kernel) (by decide +kernel)
theorem ml_X3_42 : Cond.methodLink RX3 42 yX6_open ∈ wsG := inG (i := 345) (by decide +kernel) (by decide +kernel)
theorem im_X6_open : Cond.instanceMethod yX6_open ∈ wsG := inG (i := 346) (by decide +kernel) (by decide +kernel)
theorem se_X6_open : Cond.selects RX6 yX6_open yX6_open ∈ wsG := inG (i := 347) (by decide +kernel) (by decide +kernel)
theorem co_X6_open : Cond.code yX6_open cX6_open 1 none ∈ wsG := inG (i := 348) (by decide +kernel) (by decide +kernel)
theorem ck_X6_15 : Cond.constantLong RX6 15 (4294967295 : Int64) ∈ wsG := inG (i := 349) (by decide +kernel) (by decide +kernel)
theorem ml_X3_45 : Cond.methodLink RX3 45 yX0_clear ∈ wsG := inG (i := 350) (by decide +kernel) (by decide +kernel)
theorem ml_X8_105 : Cond.methodLink RX8 105 yX0_get ∈ wsG := inG (i := 351) (by decide +kernel) (by decide +kernel)
theorem im_X0_get : Cond.instanceMethod yX0_get ∈ wsG := inG (i := 352) (by decide +kernel) (by decide +kernel)
theorem se_X0_get : Cond.selects RX0 yX0_get yX0_get ∈ wsG := inG (i := 353) (by decide +kernel) (by decide +kernel)
theorem co_X0_get : Cond.code yX0_get cX0_get 2 (some .int) ∈ wsG := inG (i := 354) (by decide +kernel) (by decide +kernel)
theorem ml_X0_25 : Cond.methodLink RX0 25 yX4_get ∈ wsG := inG (i := 355) (by decide +kernel) (by decide +kernel)
theorem ml_X8_106 : Cond.methodLink RX8 106 yX3_packByte ∈ wsG := inG (i := 356) (by decide +kernel) (by decide +kernel)
theorem im_X3_packByte : Cond.instanceMethod yX3_packByte ∈ wsG := inG (i := 357) (by decide +kernel) (by decide +kernel)
theorem se_X3_packByte : Cond.selects RX3 yX3_packByte yX3_packByte ∈ wsG := inG (i := 358) (by decide +kernel) (by decide +kernel)
theorem co_X3_packByte : Cond.code yX3_packByte cX3_packByte 4 none ∈ wsG := inG (i := 359) (by decide +kernel) (by decide +kernel)
theorem ml_X3_53 : Cond.methodLink RX3 53 yX5_turned ∈ wsG := inG (i := 360) (by decide +kernel) (by decide +kernel)
theorem im_X5_turned : Cond.instanceMethod yX5_turned ∈ wsG := inG (i := 361) (by decide +kernel) (by decide +kernel)
theorem se_X5_turned : Cond.selects RX5 yX5_turned yX5_turned ∈ wsG := inG (i := 362) (by decide +kernel) (by decide +kernel)
theorem co_X5_turned : Cond.code yX5_turned cX5_turned 4 (some .int) ∈ wsG := inG (i := 363) (by decide +kernel) (by decide +kernel)
theorem ml_X5_42 : Cond.methodLink RX5 42 yX5_get ∈ wsG := inG (i := 364) (by decide +kernel) (by decide +kernel)
theorem st_X8_bitFromHighest : Cond.static yX8_bitFromHighest ∈ wsG := inG (i := 366) (by decide +kernel) (by decide +kernel)
theorem co_X8_bitFromHighest : Cond.code yX8_bitFromHighest cX8_bitFromHighest 3 (some .int) ∈ wsG := inG (i := 367) (by decide +kernel) (by decide +kernel)
theorem ml_X3_63 : Cond.methodLink RX3 63 yX3_packBit ∈ wsG := inG (i := 368) (by decide +kernel) (by decide +kernel)
theorem im_X3_packBit : Cond.instanceMethod yX3_packBit ∈ wsG := inG (i := 370) (by decide +kernel) (by decide +kernel)
theorem co_X3_packBit : Cond.code yX3_packBit cX3_packBit 3 none ∈ wsG := inG (i := 371) (by decide +kernel) (by decide +kernel)
theorem ml_X3_71 : Cond.methodLink RX3 71 yX2_chance ∈ wsG := inG (i := 372) (by decide +kernel) (by decide +kernel)
theorem im_X2_chance : Cond.instanceMethod yX2_chance ∈ wsG := inG (i := 373) (by decide +kernel) (by decide +kernel)
theorem se_X2_chance : Cond.selects RX2 yX2_chance yX2_chance ∈ wsG := inG (i := 374) (by decide +kernel) (by decide +kernel)
theorem co_X2_chance : Cond.code yX2_chance cX2_chance 5 (some .int) ∈ wsG := inG (i := 375) (by decide +kernel) (by decide +kernel)
theorem ck_X2_93 : Cond.constantLong RX2 93 (2 : Int64) ∈ wsG := inG (i := 376) (by decide +kernel) (by decide +kernel)
theorem ml_X2_90 : Cond.methodLink RX2 90 yX2_countBy ∈ wsG := inG (i := 377) (by decide +kernel) (by decide +kernel)
theorem im_X2_countBy : Cond.instanceMethod yX2_countBy ∈ wsG := inG (i := 378) (by decide +kernel) (by decide +kernel)
theorem se_X2_countBy : Cond.selects RX2 yX2_countBy yX2_countBy ∈ wsG := inG (i := 379) (by decide +kernel) (by decide +kernel)
theorem co_X2_countBy : Cond.code yX2_countBy cX2_countBy 3 (some .int) ∈ wsG := inG (i := 380) (by decide +kernel) (by decide +kernel)
theorem ml_X2_79 : Cond.methodLink RX2 79 yX4_get ∈ wsG := inG (i := 381) (by decide +kernel) (by decide +kernel)
theorem ck_X2_95 : Cond.constantLong RX2 95 (4096 : Int64) ∈ wsG := inG (i := 382) (by decide +kernel) (by decide +kernel)
theorem ml_X2_80 : Cond.methodLink RX2 80 yX2_bothCounts ∈ wsG := inG (i := 383) (by decide +kernel) (by decide +kernel)
theorem im_X2_bothCounts : Cond.instanceMethod yX2_bothCounts ∈ wsG := inG (i := 385) (by decide +kernel) (by decide +kernel)
theorem co_X2_bothCounts : Cond.code yX2_bothCounts cX2_bothCounts 2 (some .int) ∈ wsG := inG (i := 386) (by decide +kernel) (by decide +kernel)
theorem st_X8_cutQuotient : Cond.static yX8_cutQuotient ∈ wsG := inG (i := 388) (by decide +kernel) (by decide +kernel)
theorem co_X8_cutQuotient : Cond.code yX8_cutQuotient cX8_cutQuotient 4 (some .int) ∈ wsG := inG (i := 389) (by decide +kernel) (by decide +kernel)
theorem ml_X2_97 : Cond.methodLink RX2 97 Lib.Math.min.name ∈ wsG := inG (i := 390) (by decide +kernel) (by decide +kernel)
theorem st_Math_min : Cond.static Lib.Math.min.name ∈ wsG := inG (i := 391) (by decide +kernel) (by decide +kernel)
theorem co_Math_min : Cond.code Lib.Math.min.name Lib.Math.min.code 2 (some .int) ∈ wsG := inG (i := 392) (by decide +kernel) (by decide +kernel)
theorem ml_X2_102 : Cond.methodLink RX2 102 Lib.Math.max.name ∈ wsG := inG (i := 393) (by decide +kernel) (by decide +kernel)
theorem ml_X3_74 : Cond.methodLink RX3 74 yX6_middle ∈ wsG := inG (i := 394) (by decide +kernel) (by decide +kernel)
theorem im_X6_middle : Cond.instanceMethod yX6_middle ∈ wsG := inG (i := 395) (by decide +kernel) (by decide +kernel)
theorem se_X6_middle : Cond.selects RX6 yX6_middle yX6_middle ∈ wsG := inG (i := 396) (by decide +kernel) (by decide +kernel)
theorem co_X6_middle : Cond.code yX6_middle cX6_middle 2 (some .long) ∈ wsG := inG (i := 397) (by decide +kernel) (by decide +kernel)
theorem ck_X6_20 : Cond.constantLong RX6 20 (4096 : Int64) ∈ wsG := inG (i := 398) (by decide +kernel) (by decide +kernel)
theorem ml_X3_78 : Cond.methodLink RX3 78 yX6_narrow ∈ wsG := inG (i := 399) (by decide +kernel) (by decide +kernel)
theorem im_X6_narrow : Cond.instanceMethod yX6_narrow ∈ wsG := inG (i := 400) (by decide +kernel) (by decide +kernel)
theorem se_X6_narrow : Cond.selects RX6 yX6_narrow yX6_narrow ∈ wsG := inG (i := 401) (by decide +kernel) (by decide +kernel)
theorem co_X6_narrow : Cond.code yX6_narrow cX6_narrow 4 none ∈ wsG := inG (i := 402) (by decide +kernel) (by decide +kernel)
theorem ml_X3_82 : Cond.methodLink RX3 82 yX6_topIsSettled ∈ wsG := inG (i := 403) (by decide +kernel) (by decide +kernel)
theorem im_X6_topIsSettled : Cond.instanceMethod yX6_topIsSettled ∈ wsG := inG (i := 404) (by decide +kernel) (by decide +kernel)
theorem se_X6_topIsSettled : Cond.selects RX6 yX6_topIsSettled yX6_topIsSettled ∈ wsG := inG (i := 405) (by decide +kernel) (by decide +kernel)
theorem co_X6_topIsSettled : Cond.code yX6_topIsSettled cX6_topIsSettled 1 (some .boolean) ∈ wsG := inG (i := 406) (by decide +kernel) (by decide +kernel)
theorem ck_X6_22 : Cond.constantLong RX6 22 (16777216 : Int64) ∈ wsG := inG (i := 407) (by decide +kernel) (by decide +kernel)
theorem ml_X3_50 : Cond.methodLink RX3 50 yX3_putTop ∈ wsG := inG (i := 408) (by decide +kernel) (by decide +kernel)
theorem im_X3_putTop : Cond.instanceMethod yX3_putTop ∈ wsG := inG (i := 410) (by decide +kernel) (by decide +kernel)
theorem co_X3_putTop : Cond.code yX3_putTop cX3_putTop 1 none ∈ wsG := inG (i := 411) (by decide +kernel) (by decide +kernel)
theorem ml_X3_89 : Cond.methodLink RX3 89 yX6_topOfLow ∈ wsG := inG (i := 412) (by decide +kernel) (by decide +kernel)
theorem im_X6_topOfLow : Cond.instanceMethod yX6_topOfLow ∈ wsG := inG (i := 413) (by decide +kernel) (by decide +kernel)
theorem se_X6_topOfLow : Cond.selects RX6 yX6_topOfLow yX6_topOfLow ∈ wsG := inG (i := 414) (by decide +kernel) (by decide +kernel)
theorem co_X6_topOfLow : Cond.code yX6_topOfLow cX6_topOfLow 1 (some .int) ∈ wsG := inG (i := 415) (by decide +kernel) (by decide +kernel)
theorem ml_X3_93 : Cond.methodLink RX3 93 yX0_add ∈ wsG := inG (i := 416) (by decide +kernel) (by decide +kernel)
theorem ml_X3_96 : Cond.methodLink RX3 96 yX6_loseTop ∈ wsG := inG (i := 417) (by decide +kernel) (by decide +kernel)
theorem im_X6_loseTop : Cond.instanceMethod yX6_loseTop ∈ wsG := inG (i := 418) (by decide +kernel) (by decide +kernel)
theorem se_X6_loseTop : Cond.selects RX6 yX6_loseTop yX6_loseTop ∈ wsG := inG (i := 419) (by decide +kernel) (by decide +kernel)
theorem co_X6_loseTop : Cond.code yX6_loseTop cX6_loseTop 1 none ∈ wsG := inG (i := 420) (by decide +kernel) (by decide +kernel)
theorem ck_X6_24 : Cond.constantLong RX6 24 (256 : Int64) ∈ wsG := inG (i := 421) (by decide +kernel) (by decide +kernel)
theorem ck_X6_26 : Cond.constantLong RX6 26 (4294967296 : Int64) ∈ wsG := inG (i := 422) (by decide +kernel) (by decide +kernel)
theorem ck_X6_28 : Cond.constantLong RX6 28 (255 : Int64) ∈ wsG := inG (i := 423) (by decide +kernel) (by decide +kernel)
theorem ml_X3_86 : Cond.methodLink RX3 86 yX2_feed ∈ wsG := inG (i := 424) (by decide +kernel) (by decide +kernel)
theorem im_X2_feed : Cond.instanceMethod yX2_feed ∈ wsG := inG (i := 425) (by decide +kernel) (by decide +kernel)
theorem se_X2_feed : Cond.selects RX2 yX2_feed yX2_feed ∈ wsG := inG (i := 426) (by decide +kernel) (by decide +kernel)
theorem co_X2_feed : Cond.code yX2_feed cX2_feed 6 none ∈ wsG := inG (i := 427) (by decide +kernel) (by decide +kernel)
theorem ml_X2_83 : Cond.methodLink RX2 83 yX2_cloneFrom ∈ wsG := inG (i := 428) (by decide +kernel) (by decide +kernel)
theorem im_X2_cloneFrom : Cond.instanceMethod yX2_cloneFrom ∈ wsG := inG (i := 430) (by decide +kernel) (by decide +kernel)
theorem co_X2_cloneFrom : Cond.code yX2_cloneFrom cX2_cloneFrom 9 (some .int) ∈ wsG := inG (i := 431) (by decide +kernel) (by decide +kernel)
theorem ml_X8_109 : Cond.methodLink RX8 109 yX3_close ∈ wsG := inG (i := 432) (by decide +kernel) (by decide +kernel)
theorem im_X3_close : Cond.instanceMethod yX3_close ∈ wsG := inG (i := 433) (by decide +kernel) (by decide +kernel)
theorem se_X3_close : Cond.selects RX3 yX3_close yX3_close ∈ wsG := inG (i := 434) (by decide +kernel) (by decide +kernel)
theorem co_X3_close : Cond.code yX3_close cX3_close 2 none ∈ wsG := inG (i := 435) (by decide +kernel) (by decide +kernel)
theorem ml_L_36 : Cond.methodLink RL 36 yX8_unpack ∈ wsG := inG (i := 436) (by decide +kernel) (by decide +kernel)
theorem im_X8_unpack : Cond.instanceMethod yX8_unpack ∈ wsG := inG (i := 437) (by decide +kernel) (by decide +kernel)
theorem se_X8_unpack : Cond.selects RX8 yX8_unpack yX8_unpack ∈ wsG := inG (i := 438) (by decide +kernel) (by decide +kernel)
theorem co_X8_unpack : Cond.code yX8_unpack cX8_unpack 3 (some .int) ∈ wsG := inG (i := 439) (by decide +kernel) (by decide +kernel)
theorem ml_X8_112 : Cond.methodLink RX8 112 yX7_open ∈ wsG := inG (i := 440) (by decide +kernel) (by decide +kernel)
theorem im_X7_open : Cond.instanceMethod yX7_open ∈ wsG := inG (i := 441) (by decide +kernel) (by decide +kernel)
theorem se_X7_open : Cond.selects RX7 yX7_open yX7_open ∈ wsG := inG (i := 442) (by decide +kernel) (by decide +kernel)
theorem co_X7_open : Cond.code yX7_open cX7_open 2 none ∈ wsG := inG (i := 443) (by decide +kernel) (by decide +kernel)
theorem ml_X7_47 : Cond.methodLink RX7 47 yX2_begin ∈ wsG := inG (i := 444) (by decide +kernel) (by decide +kernel)
theorem ml_X7_50 : Cond.methodLink RX7 50 yX6_open ∈ wsG := inG (i := 445) (by decide +kernel) (by decide +kernel)
theorem ml_X7_53 : Cond.methodLink RX7 53 yX7_pullByte ∈ wsG := inG (i := 446) (by decide +kernel) (by decide +kernel)
theorem im_X7_pullByte : Cond.instanceMethod yX7_pullByte ∈ wsG := inG (i := 448) (by decide +kernel) (by decide +kernel)
theorem co_X7_pullByte : Cond.code yX7_pullByte cX7_pullByte 1 none ∈ wsG := inG (i := 449) (by decide +kernel) (by decide +kernel)
theorem ck_X7_102 : Cond.constantLong RX7 102 (256 : Int64) ∈ wsG := inG (i := 450) (by decide +kernel) (by decide +kernel)
theorem ml_X7_104 : Cond.methodLink RX7 104 yX0_get ∈ wsG := inG (i := 451) (by decide +kernel) (by decide +kernel)
theorem ck_X7_107 : Cond.constantLong RX7 107 (4294967296 : Int64) ∈ wsG := inG (i := 452) (by decide +kernel) (by decide +kernel)
theorem ml_X8_113 : Cond.methodLink RX8 113 yX7_unpackByte ∈ wsG := inG (i := 453) (by decide +kernel) (by decide +kernel)
theorem im_X7_unpackByte : Cond.instanceMethod yX7_unpackByte ∈ wsG := inG (i := 454) (by decide +kernel) (by decide +kernel)
theorem se_X7_unpackByte : Cond.selects RX7 yX7_unpackByte yX7_unpackByte ∈ wsG := inG (i := 455) (by decide +kernel) (by decide +kernel)
theorem co_X7_unpackByte : Cond.code yX7_unpackByte cX7_unpackByte 3 (some .int) ∈ wsG := inG (i := 456) (by decide +kernel) (by decide +kernel)
theorem ml_X7_68 : Cond.methodLink RX7 68 yX7_unpackBit ∈ wsG := inG (i := 457) (by decide +kernel) (by decide +kernel)
theorem im_X7_unpackBit : Cond.instanceMethod yX7_unpackBit ∈ wsG := inG (i := 459) (by decide +kernel) (by decide +kernel)
theorem co_X7_unpackBit : Cond.code yX7_unpackBit cX7_unpackBit 5 (some .int) ∈ wsG := inG (i := 460) (by decide +kernel) (by decide +kernel)
theorem ml_X7_80 : Cond.methodLink RX7 80 yX2_chance ∈ wsG := inG (i := 461) (by decide +kernel) (by decide +kernel)
theorem ml_X7_83 : Cond.methodLink RX7 83 yX6_middle ∈ wsG := inG (i := 462) (by decide +kernel) (by decide +kernel)
theorem ml_X7_87 : Cond.methodLink RX7 87 yX6_narrow ∈ wsG := inG (i := 463) (by decide +kernel) (by decide +kernel)
theorem ml_X7_91 : Cond.methodLink RX7 91 yX6_topIsSettled ∈ wsG := inG (i := 464) (by decide +kernel) (by decide +kernel)
theorem ml_X7_95 : Cond.methodLink RX7 95 yX6_loseTop ∈ wsG := inG (i := 465) (by decide +kernel) (by decide +kernel)
theorem ml_X7_98 : Cond.methodLink RX7 98 yX2_feed ∈ wsG := inG (i := 466) (by decide +kernel) (by decide +kernel)
theorem ml_X7_71 : Cond.methodLink RX7 71 yX5_turned ∈ wsG := inG (i := 467) (by decide +kernel) (by decide +kernel)
theorem ml_X8_116 : Cond.methodLink RX8 116 yX7_bytesRead ∈ wsG := inG (i := 468) (by decide +kernel) (by decide +kernel)
theorem im_X7_bytesRead : Cond.instanceMethod yX7_bytesRead ∈ wsG := inG (i := 469) (by decide +kernel) (by decide +kernel)
theorem se_X7_bytesRead : Cond.selects RX7 yX7_bytesRead yX7_bytesRead ∈ wsG := inG (i := 470) (by decide +kernel) (by decide +kernel)
theorem co_X7_bytesRead : Cond.code yX7_bytesRead cX7_bytesRead 1 (some .int) ∈ wsG := inG (i := 471) (by decide +kernel) (by decide +kernel)
theorem ml_X7_56 : Cond.methodLink RX7 56 yX0_length ∈ wsG := inG (i := 472) (by decide +kernel) (by decide +kernel)
theorem ml_X7_62 : Cond.methodLink RX7 62 Lib.Math.min.name ∈ wsG := inG (i := 473) (by decide +kernel) (by decide +kernel)
theorem ml_L_40 : Cond.methodLink RL 40 yX8_spoil ∈ wsG := inG (i := 474) (by decide +kernel) (by decide +kernel)
theorem im_X8_spoil : Cond.instanceMethod yX8_spoil ∈ wsG := inG (i := 475) (by decide +kernel) (by decide +kernel)
theorem se_X8_spoil : Cond.selects RX8 yX8_spoil yX8_spoil ∈ wsG := inG (i := 476) (by decide +kernel) (by decide +kernel)
theorem co_X8_spoil : Cond.code yX8_spoil cX8_spoil 4 (some .int) ∈ wsG := inG (i := 477) (by decide +kernel) (by decide +kernel)
theorem ml_X8_119 : Cond.methodLink RX8 119 yX0_put ∈ wsG := inG (i := 478) (by decide +kernel) (by decide +kernel)
theorem im_X0_put : Cond.instanceMethod yX0_put ∈ wsG := inG (i := 479) (by decide +kernel) (by decide +kernel)
theorem se_X0_put : Cond.selects RX0 yX0_put yX0_put ∈ wsG := inG (i := 480) (by decide +kernel) (by decide +kernel)
theorem co_X0_put : Cond.code yX0_put cX0_put 3 none ∈ wsG := inG (i := 481) (by decide +kernel) (by decide +kernel)
theorem ml_L_44 : Cond.methodLink RL 44 yX8_at ∈ wsG := inG (i := 482) (by decide +kernel) (by decide +kernel)
theorem im_X8_at : Cond.instanceMethod yX8_at ∈ wsG := inG (i := 483) (by decide +kernel) (by decide +kernel)
theorem se_X8_at : Cond.selects RX8 yX8_at yX8_at ∈ wsG := inG (i := 484) (by decide +kernel) (by decide +kernel)
theorem co_X8_at : Cond.code yX8_at cX8_at 4 (some .int) ∈ wsG := inG (i := 485) (by decide +kernel) (by decide +kernel)
theorem ml_L_48 : Cond.methodLink RL 48 yX8_alike ∈ wsG := inG (i := 486) (by decide +kernel) (by decide +kernel)
theorem im_X8_alike : Cond.instanceMethod yX8_alike ∈ wsG := inG (i := 487) (by decide +kernel) (by decide +kernel)
theorem se_X8_alike : Cond.selects RX8 yX8_alike yX8_alike ∈ wsG := inG (i := 488) (by decide +kernel) (by decide +kernel)
theorem co_X8_alike : Cond.code yX8_alike cX8_alike 3 (some .int) ∈ wsG := inG (i := 489) (by decide +kernel) (by decide +kernel)
theorem ml_X8_122 : Cond.methodLink RX8 122 Lib.Math.min.name ∈ wsG := inG (i := 490) (by decide +kernel) (by decide +kernel)
theorem ml_L_52 : Cond.methodLink RL 52 yX8_grew ∈ wsG := inG (i := 491) (by decide +kernel) (by decide +kernel)
theorem im_X8_grew : Cond.instanceMethod yX8_grew ∈ wsG := inG (i := 492) (by decide +kernel) (by decide +kernel)
theorem se_X8_grew : Cond.selects RX8 yX8_grew yX8_grew ∈ wsG := inG (i := 493) (by decide +kernel) (by decide +kernel)
theorem co_X8_grew : Cond.code yX8_grew cX8_grew 5 (some .int) ∈ wsG := inG (i := 494) (by decide +kernel) (by decide +kernel)
theorem ml_L_56 : Cond.methodLink RL 56 yX8_bit ∈ wsG := inG (i := 495) (by decide +kernel) (by decide +kernel)
theorem im_X8_bit : Cond.instanceMethod yX8_bit ∈ wsG := inG (i := 496) (by decide +kernel) (by decide +kernel)
theorem se_X8_bit : Cond.selects RX8 yX8_bit yX8_bit ∈ wsG := inG (i := 497) (by decide +kernel) (by decide +kernel)
theorem co_X8_bit : Cond.code yX8_bit cX8_bit 2 (some .int) ∈ wsG := inG (i := 498) (by decide +kernel) (by decide +kernel)
theorem ml_X8_143 : Cond.methodLink RX8 143 yX2_feed ∈ wsG := inG (i := 499) (by decide +kernel) (by decide +kernel)
theorem ml_L_60 : Cond.methodLink RL 60 yX8_take ∈ wsG := inG (i := 500) (by decide +kernel) (by decide +kernel)
theorem im_X8_take : Cond.instanceMethod yX8_take ∈ wsG := inG (i := 501) (by decide +kernel) (by decide +kernel)
theorem se_X8_take : Cond.selects RX8 yX8_take yX8_take ∈ wsG := inG (i := 502) (by decide +kernel) (by decide +kernel)
theorem co_X8_take : Cond.code yX8_take cX8_take 4 (some .int) ∈ wsG := inG (i := 503) (by decide +kernel) (by decide +kernel)
theorem ml_X8_149 : Cond.methodLink RX8 149 yX5_turned ∈ wsG := inG (i := 504) (by decide +kernel) (by decide +kernel)
theorem ml_X8_152 : Cond.methodLink RX8 152 yX8_bitFromHighest ∈ wsG := inG (i := 505) (by decide +kernel) (by decide +kernel)
theorem ml_L_64 : Cond.methodLink RL 64 yX8_state ∈ wsG := inG (i := 506) (by decide +kernel) (by decide +kernel)
theorem im_X8_state : Cond.instanceMethod yX8_state ∈ wsG := inG (i := 507) (by decide +kernel) (by decide +kernel)
theorem se_X8_state : Cond.selects RX8 yX8_state yX8_state ∈ wsG := inG (i := 508) (by decide +kernel) (by decide +kernel)
theorem co_X8_state : Cond.code yX8_state cX8_state 3 (some .int) ∈ wsG := inG (i := 509) (by decide +kernel) (by decide +kernel)
theorem ml_X8_156 : Cond.methodLink RX8 156 yX2_countBy ∈ wsG := inG (i := 510) (by decide +kernel) (by decide +kernel)
theorem ml_X8_159 : Cond.methodLink RX8 159 yX2_nextBy ∈ wsG := inG (i := 511) (by decide +kernel) (by decide +kernel)
theorem im_X2_nextBy : Cond.instanceMethod yX2_nextBy ∈ wsG := inG (i := 512) (by decide +kernel) (by decide +kernel)
theorem se_X2_nextBy : Cond.selects RX2 yX2_nextBy yX2_nextBy ∈ wsG := inG (i := 513) (by decide +kernel) (by decide +kernel)
theorem co_X2_nextBy : Cond.code yX2_nextBy cX2_nextBy 3 (some .int) ∈ wsG := inG (i := 514) (by decide +kernel) (by decide +kernel)
theorem ml_X8_162 : Cond.methodLink RX8 162 yX2_chance ∈ wsG := inG (i := 515) (by decide +kernel) (by decide +kernel)
theorem ml_X8_165 : Cond.methodLink RX8 165 yX2_flowInto ∈ wsG := inG (i := 516) (by decide +kernel) (by decide +kernel)
theorem im_X2_flowInto : Cond.instanceMethod yX2_flowInto ∈ wsG := inG (i := 517) (by decide +kernel) (by decide +kernel)
theorem se_X2_flowInto : Cond.selects RX2 yX2_flowInto yX2_flowInto ∈ wsG := inG (i := 518) (by decide +kernel) (by decide +kernel)
theorem co_X2_flowInto : Cond.code yX2_flowInto cX2_flowInto 2 (some .int) ∈ wsG := inG (i := 519) (by decide +kernel) (by decide +kernel)
theorem ml_X2_114 : Cond.methodLink RX2 114 yX2_reckonFlows ∈ wsG := inG (i := 520) (by decide +kernel) (by decide +kernel)
theorem im_X2_reckonFlows : Cond.instanceMethod yX2_reckonFlows ∈ wsG := inG (i := 522) (by decide +kernel) (by decide +kernel)
theorem co_X2_reckonFlows : Cond.code yX2_reckonFlows cX2_reckonFlows 3 none ∈ wsG := inG (i := 523) (by decide +kernel) (by decide +kernel)
theorem ml_X8_168 : Cond.methodLink RX8 168 yX2_lineOf ∈ wsG := inG (i := 524) (by decide +kernel) (by decide +kernel)
theorem im_X2_lineOf : Cond.instanceMethod yX2_lineOf ∈ wsG := inG (i := 525) (by decide +kernel) (by decide +kernel)
theorem se_X2_lineOf : Cond.selects RX2 yX2_lineOf yX2_lineOf ∈ wsG := inG (i := 526) (by decide +kernel) (by decide +kernel)
theorem co_X2_lineOf : Cond.code yX2_lineOf cX2_lineOf 2 (some .int) ∈ wsG := inG (i := 527) (by decide +kernel) (by decide +kernel)
theorem ml_X8_171 : Cond.methodLink RX8 171 yX2_originOf ∈ wsG := inG (i := 528) (by decide +kernel) (by decide +kernel)
theorem im_X2_originOf : Cond.instanceMethod yX2_originOf ∈ wsG := inG (i := 529) (by decide +kernel) (by decide +kernel)
theorem se_X2_originOf : Cond.selects RX2 yX2_originOf yX2_originOf ∈ wsG := inG (i := 530) (by decide +kernel) (by decide +kernel)
theorem co_X2_originOf : Cond.code yX2_originOf cX2_originOf 2 (some .int) ∈ wsG := inG (i := 531) (by decide +kernel) (by decide +kernel)
theorem ml_L_68 : Cond.methodLink RL 68 yX8_live ∈ wsG := inG (i := 532) (by decide +kernel) (by decide +kernel)
theorem im_X8_live : Cond.instanceMethod yX8_live ∈ wsG := inG (i := 533) (by decide +kernel) (by decide +kernel)
theorem se_X8_live : Cond.selects RX8 yX8_live yX8_live ∈ wsG := inG (i := 534) (by decide +kernel) (by decide +kernel)
theorem co_X8_live : Cond.code yX8_live cX8_live 2 (some .int) ∈ wsG := inG (i := 535) (by decide +kernel) (by decide +kernel)
theorem ml_X8_177 : Cond.methodLink RX8 177 yX2_allCounts ∈ wsG := inG (i := 536) (by decide +kernel) (by decide +kernel)
theorem im_X2_allCounts : Cond.instanceMethod yX2_allCounts ∈ wsG := inG (i := 537) (by decide +kernel) (by decide +kernel)
theorem se_X2_allCounts : Cond.selects RX2 yX2_allCounts yX2_allCounts ∈ wsG := inG (i := 538) (by decide +kernel) (by decide +kernel)
theorem co_X2_allCounts : Cond.code yX2_allCounts cX2_allCounts 3 (some .int) ∈ wsG := inG (i := 539) (by decide +kernel) (by decide +kernel)
theorem ml_X8_180 : Cond.methodLink RX8 180 yX2_statesWithoutFlow ∈ wsG := inG (i := 540) (by decide +kernel) (by decide +kernel)
theorem im_X2_statesWithoutFlow : Cond.instanceMethod yX2_statesWithoutFlow ∈ wsG := inG (i := 541) (by decide +kernel) (by decide +kernel)
theorem se_X2_statesWithoutFlow : Cond.selects RX2 yX2_statesWithoutFlow yX2_statesWithoutFlow ∈ wsG := inG (i := 542) (by decide +kernel) (by decide +kernel)
theorem co_X2_statesWithoutFlow : Cond.code yX2_statesWithoutFlow cX2_statesWithoutFlow 3 (some .int) ∈ wsG := inG (i := 543) (by decide +kernel) (by decide +kernel)
theorem ml_X8_183 : Cond.methodLink RX8 183 yX2_longestLine ∈ wsG := inG (i := 544) (by decide +kernel) (by decide +kernel)
theorem im_X2_longestLine : Cond.instanceMethod yX2_longestLine ∈ wsG := inG (i := 545) (by decide +kernel) (by decide +kernel)
theorem se_X2_longestLine : Cond.selects RX2 yX2_longestLine yX2_longestLine ∈ wsG := inG (i := 546) (by decide +kernel) (by decide +kernel)
theorem co_X2_longestLine : Cond.code yX2_longestLine cX2_longestLine 3 (some .int) ∈ wsG := inG (i := 547) (by decide +kernel) (by decide +kernel)
theorem ml_L_72 : Cond.methodLink RL 72 yX8_likely ∈ wsG := inG (i := 548) (by decide +kernel) (by decide +kernel)
theorem im_X8_likely : Cond.instanceMethod yX8_likely ∈ wsG := inG (i := 549) (by decide +kernel) (by decide +kernel)
theorem se_X8_likely : Cond.selects RX8 yX8_likely yX8_likely ∈ wsG := inG (i := 550) (by decide +kernel) (by decide +kernel)
theorem co_X8_likely : Cond.code yX8_likely cX8_likely 4 (some .int) ∈ wsG := inG (i := 551) (by decide +kernel) (by decide +kernel)
theorem ml_X8_186 : Cond.methodLink RX8 186 yX2_likelyBit ∈ wsG := inG (i := 552) (by decide +kernel) (by decide +kernel)
theorem im_X2_likelyBit : Cond.instanceMethod yX2_likelyBit ∈ wsG := inG (i := 553) (by decide +kernel) (by decide +kernel)
theorem se_X2_likelyBit : Cond.selects RX2 yX2_likelyBit yX2_likelyBit ∈ wsG := inG (i := 554) (by decide +kernel) (by decide +kernel)
theorem co_X2_likelyBit : Cond.code yX2_likelyBit cX2_likelyBit 2 (some .int) ∈ wsG := inG (i := 555) (by decide +kernel) (by decide +kernel)
theorem ml_L_76 : Cond.methodLink RL 76 yX8_guess ∈ wsG := inG (i := 556) (by decide +kernel) (by decide +kernel)
theorem im_X8_guess : Cond.instanceMethod yX8_guess ∈ wsG := inG (i := 557) (by decide +kernel) (by decide +kernel)
theorem se_X8_guess : Cond.selects RX8 yX8_guess yX8_guess ∈ wsG := inG (i := 558) (by decide +kernel) (by decide +kernel)
theorem co_X8_guess : Cond.code yX8_guess cX8_guess 5 (some .int) ∈ wsG := inG (i := 559) (by decide +kernel) (by decide +kernel)
theorem ml_L_80 : Cond.methodLink RL 80 yX8_cost ∈ wsG := inG (i := 560) (by decide +kernel) (by decide +kernel)
theorem im_X8_cost : Cond.instanceMethod yX8_cost ∈ wsG := inG (i := 561) (by decide +kernel) (by decide +kernel)
theorem se_X8_cost : Cond.selects RX8 yX8_cost yX8_cost ∈ wsG := inG (i := 562) (by decide +kernel) (by decide +kernel)
theorem co_X8_cost : Cond.code yX8_cost cX8_cost 3 (some .int) ∈ wsG := inG (i := 563) (by decide +kernel) (by decide +kernel)
theorem ck_X8_189 : Cond.constant RX8 189 (65535 : Int32) ∈ wsG := inG (i := 564) (by decide +kernel) (by decide +kernel)
theorem ml_X8_190 : Cond.methodLink RX8 190 yX2_costOf ∈ wsG := inG (i := 565) (by decide +kernel) (by decide +kernel)
theorem im_X2_costOf : Cond.instanceMethod yX2_costOf ∈ wsG := inG (i := 566) (by decide +kernel) (by decide +kernel)
theorem se_X2_costOf : Cond.selects RX2 yX2_costOf yX2_costOf ∈ wsG := inG (i := 567) (by decide +kernel) (by decide +kernel)
theorem co_X2_costOf : Cond.code yX2_costOf cX2_costOf 9 (some .int) ∈ wsG := inG (i := 568) (by decide +kernel) (by decide +kernel)
theorem ml_X2_108 : Cond.methodLink RX2 108 yX2_chance ∈ wsG := inG (i := 570) (by decide +kernel) (by decide +kernel)
theorem ml_X2_111 : Cond.methodLink RX2 111 yX2_nextBy ∈ wsG := inG (i := 571) (by decide +kernel) (by decide +kernel)
theorem ml_L_84 : Cond.methodLink RL 84 yX8_cheapest ∈ wsG := inG (i := 572) (by decide +kernel) (by decide +kernel)
theorem im_X8_cheapest : Cond.instanceMethod yX8_cheapest ∈ wsG := inG (i := 573) (by decide +kernel) (by decide +kernel)
theorem se_X8_cheapest : Cond.selects RX8 yX8_cheapest yX8_cheapest ∈ wsG := inG (i := 574) (by decide +kernel) (by decide +kernel)
theorem co_X8_cheapest : Cond.code yX8_cheapest cX8_cheapest 6 (some .int) ∈ wsG := inG (i := 575) (by decide +kernel) (by decide +kernel)
theorem ml_X8_193 : Cond.methodLink RX8 193 yX8_costOfByte ∈ wsG := inG (i := 576) (by decide +kernel) (by decide +kernel)
theorem im_X8_costOfByte : Cond.instanceMethod yX8_costOfByte ∈ wsG := inG (i := 578) (by decide +kernel) (by decide +kernel)
theorem co_X8_costOfByte : Cond.code yX8_costOfByte cX8_costOfByte 2 (some .int) ∈ wsG := inG (i := 579) (by decide +kernel) (by decide +kernel)
theorem ml_L_88 : Cond.methodLink RL 88 yX8_keep ∈ wsG := inG (i := 580) (by decide +kernel) (by decide +kernel)
theorem im_X8_keep : Cond.instanceMethod yX8_keep ∈ wsG := inG (i := 581) (by decide +kernel) (by decide +kernel)
theorem se_X8_keep : Cond.selects RX8 yX8_keep yX8_keep ∈ wsG := inG (i := 582) (by decide +kernel) (by decide +kernel)
theorem co_X8_keep : Cond.code yX8_keep cX8_keep 2 (some .int) ∈ wsG := inG (i := 583) (by decide +kernel) (by decide +kernel)
theorem ml_X8_196 : Cond.methodLink RX8 196 yX8_keptPlace ∈ wsG := inG (i := 584) (by decide +kernel) (by decide +kernel)
theorem im_X8_keptPlace : Cond.instanceMethod yX8_keptPlace ∈ wsG := inG (i := 586) (by decide +kernel) (by decide +kernel)
theorem co_X8_keptPlace : Cond.code yX8_keptPlace cX8_keptPlace 2 (some (.object "CloningMachine$Kept")) ∈ wsG := inG (i := 587) (by decide +kernel) (by decide +kernel)
theorem ml_X8_201 : Cond.methodLink RX8 201 yX5_copyFrom ∈ wsG := inG (i := 588) (by decide +kernel) (by decide +kernel)
theorem im_X5_copyFrom : Cond.instanceMethod yX5_copyFrom ∈ wsG := inG (i := 589) (by decide +kernel) (by decide +kernel)
theorem se_X5_copyFrom : Cond.selects RX5 yX5_copyFrom yX5_copyFrom ∈ wsG := inG (i := 590) (by decide +kernel) (by decide +kernel)
theorem co_X5_copyFrom : Cond.code yX5_copyFrom cX5_copyFrom 2 none ∈ wsG := inG (i := 591) (by decide +kernel) (by decide +kernel)
theorem ml_X5_38 : Cond.methodLink RX5 38 yX4_copyFrom ∈ wsG := inG (i := 592) (by decide +kernel) (by decide +kernel)
theorem im_X4_copyFrom : Cond.instanceMethod yX4_copyFrom ∈ wsG := inG (i := 593) (by decide +kernel) (by decide +kernel)
theorem se_X4_copyFrom : Cond.selects RX4 yX4_copyFrom yX4_copyFrom ∈ wsG := inG (i := 594) (by decide +kernel) (by decide +kernel)
theorem co_X4_copyFrom : Cond.code yX4_copyFrom cX4_copyFrom 4 none ∈ wsG := inG (i := 595) (by decide +kernel) (by decide +kernel)
theorem ml_X4_19 : Cond.methodLink RX4 19 yX4_get ∈ wsG := inG (i := 596) (by decide +kernel) (by decide +kernel)
theorem ml_X4_23 : Cond.methodLink RX4 23 yX4_put ∈ wsG := inG (i := 597) (by decide +kernel) (by decide +kernel)
theorem ml_X8_205 : Cond.methodLink RX8 205 yX2_copyFrom ∈ wsG := inG (i := 598) (by decide +kernel) (by decide +kernel)
theorem im_X2_copyFrom : Cond.instanceMethod yX2_copyFrom ∈ wsG := inG (i := 599) (by decide +kernel) (by decide +kernel)
theorem se_X2_copyFrom : Cond.selects RX2 yX2_copyFrom yX2_copyFrom ∈ wsG := inG (i := 600) (by decide +kernel) (by decide +kernel)
theorem co_X2_copyFrom : Cond.code yX2_copyFrom cX2_copyFrom 2 none ∈ wsG := inG (i := 601) (by decide +kernel) (by decide +kernel)
theorem ml_X2_117 : Cond.methodLink RX2 117 yX4_copyFrom ∈ wsG := inG (i := 602) (by decide +kernel) (by decide +kernel)
theorem ml_L_92 : Cond.methodLink RL 92 yX8_back ∈ wsG := inG (i := 603) (by decide +kernel) (by decide +kernel)
theorem im_X8_back : Cond.instanceMethod yX8_back ∈ wsG := inG (i := 604) (by decide +kernel) (by decide +kernel)
theorem se_X8_back : Cond.selects RX8 yX8_back yX8_back ∈ wsG := inG (i := 605) (by decide +kernel) (by decide +kernel)
theorem co_X8_back : Cond.code yX8_back cX8_back 2 (some .int) ∈ wsG := inG (i := 606) (by decide +kernel) (by decide +kernel)
theorem ml_L_96 : Cond.methodLink RL 96 yX8_count ∈ wsG := inG (i := 607) (by decide +kernel) (by decide +kernel)
theorem im_X8_count : Cond.instanceMethod yX8_count ∈ wsG := inG (i := 608) (by decide +kernel) (by decide +kernel)
theorem se_X8_count : Cond.selects RX8 yX8_count yX8_count ∈ wsG := inG (i := 609) (by decide +kernel) (by decide +kernel)
theorem co_X8_count : Cond.code yX8_count cX8_count 2 (some .int) ∈ wsG := inG (i := 610) (by decide +kernel) (by decide +kernel)
theorem cl_L_10 : Cond.classLink RL 10 RX9 ∈ wsG := inG (i := 611) (by decide +kernel) (by decide +kernel)
theorem is_X9 : Cond.instantiable RX9 14 ∈ wsG := inG (i := 612) (by decide +kernel) (by decide +kernel)
theorem ml_L_12 : Cond.methodLink RL 12 yX9_init ∈ wsG := inG (i := 613) (by decide +kernel) (by decide +kernel)
theorem im_X9_init : Cond.instanceMethod yX9_init ∈ wsG := inG (i := 614) (by decide +kernel) (by decide +kernel)
theorem co_X9_init : Cond.code yX9_init cX9_init 1 none ∈ wsG := inG (i := 615) (by decide +kernel) (by decide +kernel)
theorem ml_X9_1 : Cond.methodLink RX9 1 objectInit ∈ wsG := inG (i := 616) (by decide +kernel) (by decide +kernel)
theorem ml_X9_25 : Cond.methodLink RX9 25 yX9_renews ∈ wsG := inG (i := 617) (by decide +kernel) (by decide +kernel)
theorem im_X9_renews : Cond.instanceMethod yX9_renews ∈ wsG := inG (i := 619) (by decide +kernel) (by decide +kernel)
theorem co_X9_renews : Cond.code yX9_renews cX9_renews 2 none ∈ wsG := inG (i := 620) (by decide +kernel) (by decide +kernel)
theorem ml_X9_29 : Cond.methodLink RX9 29 yX9_lays ∈ wsG := inG (i := 621) (by decide +kernel) (by decide +kernel)
theorem im_X9_lays : Cond.instanceMethod yX9_lays ∈ wsG := inG (i := 623) (by decide +kernel) (by decide +kernel)
theorem co_X9_lays : Cond.code yX9_lays cX9_lays 8 none ∈ wsG := inG (i := 624) (by decide +kernel) (by decide +kernel)
theorem fl_X9_7 : Cond.fieldLink RX9 7 "CloningMachineModel" "m" "[I" ∈ wsG := inG (i := 625) (by decide +kernel) (by decide +kernel)
theorem fl_X9_138 : Cond.fieldLink RX9 138 "CloningMachineModel" "kept" "I" ∈ wsG := inG (i := 626) (by decide +kernel) (by decide +kernel)
theorem fl_X9_13 : Cond.fieldLink RX9 13 "CloningMachineModel" "input" "[I" ∈ wsG := inG (i := 627) (by decide +kernel) (by decide +kernel)
theorem fl_X9_58 : Cond.fieldLink RX9 58 "CloningMachineModel" "inputMany" "I" ∈ wsG := inG (i := 628) (by decide +kernel) (by decide +kernel)
theorem fl_X9_16 : Cond.fieldLink RX9 16 "CloningMachineModel" "pack" "[I" ∈ wsG := inG (i := 629) (by decide +kernel) (by decide +kernel)
theorem fl_X9_80 : Cond.fieldLink RX9 80 "CloningMachineModel" "packMany" "I" ∈ wsG := inG (i := 630) (by decide +kernel) (by decide +kernel)
theorem fl_X9_19 : Cond.fieldLink RX9 19 "CloningMachineModel" "out" "[I" ∈ wsG := inG (i := 631) (by decide +kernel) (by decide +kernel)
theorem fl_X9_111 : Cond.fieldLink RX9 111 "CloningMachineModel" "outMany" "I" ∈ wsG := inG (i := 632) (by decide +kernel) (by decide +kernel)
theorem fl_X9_22 : Cond.fieldLink RX9 22 "CloningMachineModel" "grown" "[I" ∈ wsG := inG (i := 633) (by decide +kernel) (by decide +kernel)
theorem fl_X9_62 : Cond.fieldLink RX9 62 "CloningMachineModel" "low" "J" ∈ wsG := inG (i := 634) (by decide +kernel) (by decide +kernel)
theorem fl_X9_68 : Cond.fieldLink RX9 68 "CloningMachineModel" "high" "J" ∈ wsG := inG (i := 635) (by decide +kernel) (by decide +kernel)
theorem fl_X9_83 : Cond.fieldLink RX9 83 "CloningMachineModel" "code" "J" ∈ wsG := inG (i := 636) (by decide +kernel) (by decide +kernel)
theorem fl_X9_88 : Cond.fieldLink RX9 88 "CloningMachineModel" "from" "I" ∈ wsG := inG (i := 637) (by decide +kernel) (by decide +kernel)
theorem fl_X9_127 : Cond.fieldLink RX9 127 "CloningMachineModel" "spot" "I" ∈ wsG := inG (i := 638) (by decide +kernel) (by decide +kernel)
theorem ml_L_17 : Cond.methodLink RL 17 yX9_set ∈ wsG := inG (i := 668) (by decide +kernel) (by decide +kernel)
theorem im_X9_set : Cond.instanceMethod yX9_set ∈ wsG := inG (i := 669) (by decide +kernel) (by decide +kernel)
theorem se_X9_set : Cond.selects RX9 yX9_set yX9_set ∈ wsG := inG (i := 670) (by decide +kernel) (by decide +kernel)
theorem co_X9_set : Cond.code yX9_set cX9_set 5 (some .int) ∈ wsG := inG (i := 671) (by decide +kernel) (by decide +kernel)
theorem ck_X9_40 : Cond.constantLong RX9 40 (2 : Int64) ∈ wsG := inG (i := 672) (by decide +kernel) (by decide +kernel)
theorem ml_X9_46 : Cond.methodLink RX9 46 yX9_in ∈ wsG := inG (i := 673) (by decide +kernel) (by decide +kernel)
theorem st_X9_in : Cond.static yX9_in ∈ wsG := inG (i := 674) (by decide +kernel) (by decide +kernel)
theorem co_X9_in : Cond.code yX9_in cX9_in 6 (some .boolean) ∈ wsG := inG (i := 675) (by decide +kernel) (by decide +kernel)
theorem ck_X9_50 : Cond.constantLong RX9 50 (200 : Int64) ∈ wsG := inG (i := 676) (by decide +kernel) (by decide +kernel)
theorem ck_X9_52 : Cond.constantLong RX9 52 (40 : Int64) ∈ wsG := inG (i := 677) (by decide +kernel) (by decide +kernel)
theorem ck_X9_54 : Cond.constantLong RX9 54 (250 : Int64) ∈ wsG := inG (i := 678) (by decide +kernel) (by decide +kernel)
theorem ml_L_22 : Cond.methodLink RL 22 yX9_renew ∈ wsG := inG (i := 679) (by decide +kernel) (by decide +kernel)
theorem im_X9_renew : Cond.instanceMethod yX9_renew ∈ wsG := inG (i := 680) (by decide +kernel) (by decide +kernel)
theorem se_X9_renew : Cond.selects RX9 yX9_renew yX9_renew ∈ wsG := inG (i := 681) (by decide +kernel) (by decide +kernel)
theorem co_X9_renew : Cond.code yX9_renew cX9_renew 1 (some .int) ∈ wsG := inG (i := 682) (by decide +kernel) (by decide +kernel)
theorem ml_L_27 : Cond.methodLink RL 27 yX9_write ∈ wsG := inG (i := 683) (by decide +kernel) (by decide +kernel)
theorem im_X9_write : Cond.instanceMethod yX9_write ∈ wsG := inG (i := 684) (by decide +kernel) (by decide +kernel)
theorem se_X9_write : Cond.selects RX9 yX9_write yX9_write ∈ wsG := inG (i := 685) (by decide +kernel) (by decide +kernel)
theorem co_X9_write : Cond.code yX9_write cX9_write 2 (some .int) ∈ wsG := inG (i := 686) (by decide +kernel) (by decide +kernel)
theorem ck_X9_56 : Cond.constantLong RX9 56 (255 : Int64) ∈ wsG := inG (i := 687) (by decide +kernel) (by decide +kernel)
theorem ml_L_31 : Cond.methodLink RL 31 yX9_wipe ∈ wsG := inG (i := 688) (by decide +kernel) (by decide +kernel)
theorem im_X9_wipe : Cond.instanceMethod yX9_wipe ∈ wsG := inG (i := 689) (by decide +kernel) (by decide +kernel)
theorem se_X9_wipe : Cond.selects RX9 yX9_wipe yX9_wipe ∈ wsG := inG (i := 690) (by decide +kernel) (by decide +kernel)
theorem co_X9_wipe : Cond.code yX9_wipe cX9_wipe 2 (some .int) ∈ wsG := inG (i := 691) (by decide +kernel) (by decide +kernel)
theorem ml_L_35 : Cond.methodLink RL 35 yX9_pack ∈ wsG := inG (i := 692) (by decide +kernel) (by decide +kernel)
theorem im_X9_pack : Cond.instanceMethod yX9_pack ∈ wsG := inG (i := 693) (by decide +kernel) (by decide +kernel)
theorem se_X9_pack : Cond.selects RX9 yX9_pack yX9_pack ∈ wsG := inG (i := 694) (by decide +kernel) (by decide +kernel)
theorem co_X9_pack : Cond.code yX9_pack cX9_pack 3 (some .int) ∈ wsG := inG (i := 695) (by decide +kernel) (by decide +kernel)
theorem ml_X9_95 : Cond.methodLink RX9 95 yX9_begins ∈ wsG := inG (i := 696) (by decide +kernel) (by decide +kernel)
theorem im_X9_begins : Cond.instanceMethod yX9_begins ∈ wsG := inG (i := 698) (by decide +kernel) (by decide +kernel)
theorem co_X9_begins : Cond.code yX9_begins cX9_begins 2 none ∈ wsG := inG (i := 699) (by decide +kernel) (by decide +kernel)
theorem ck_X9_66 : Cond.constantLong RX9 66 (4294967295 : Int64) ∈ wsG := inG (i := 700) (by decide +kernel) (by decide +kernel)
theorem ml_X9_98 : Cond.methodLink RX9 98 yX9_place ∈ wsG := inG (i := 701) (by decide +kernel) (by decide +kernel)
theorem im_X9_place : Cond.instanceMethod yX9_place ∈ wsG := inG (i := 703) (by decide +kernel) (by decide +kernel)
theorem co_X9_place : Cond.code yX9_place cX9_place 2 (some .int) ∈ wsG := inG (i := 704) (by decide +kernel) (by decide +kernel)
theorem ml_X9_102 : Cond.methodLink RX9 102 yX9_narrows ∈ wsG := inG (i := 705) (by decide +kernel) (by decide +kernel)
theorem im_X9_narrows : Cond.instanceMethod yX9_narrows ∈ wsG := inG (i := 707) (by decide +kernel) (by decide +kernel)
theorem co_X9_narrows : Cond.code yX9_narrows cX9_narrows 5 none ∈ wsG := inG (i := 708) (by decide +kernel) (by decide +kernel)
theorem ml_X9_74 : Cond.methodLink RX9 74 yX9_middle ∈ wsG := inG (i := 709) (by decide +kernel) (by decide +kernel)
theorem im_X9_middle : Cond.instanceMethod yX9_middle ∈ wsG := inG (i := 711) (by decide +kernel) (by decide +kernel)
theorem co_X9_middle : Cond.code yX9_middle cX9_middle 1 (some .long) ∈ wsG := inG (i := 712) (by decide +kernel) (by decide +kernel)
theorem ck_X9_42 : Cond.constantLong RX9 42 (4096 : Int64) ∈ wsG := inG (i := 713) (by decide +kernel) (by decide +kernel)
theorem ml_X9_71 : Cond.methodLink RX9 71 yX9_chance ∈ wsG := inG (i := 714) (by decide +kernel) (by decide +kernel)
theorem im_X9_chance : Cond.instanceMethod yX9_chance ∈ wsG := inG (i := 716) (by decide +kernel) (by decide +kernel)
theorem co_X9_chance : Cond.code yX9_chance cX9_chance 5 (some .int) ∈ wsG := inG (i := 717) (by decide +kernel) (by decide +kernel)
theorem ml_X9_32 : Cond.methodLink RX9 32 yX9_both ∈ wsG := inG (i := 718) (by decide +kernel) (by decide +kernel)
theorem im_X9_both : Cond.instanceMethod yX9_both ∈ wsG := inG (i := 720) (by decide +kernel) (by decide +kernel)
theorem co_X9_both : Cond.code yX9_both cX9_both 3 (some .int) ∈ wsG := inG (i := 721) (by decide +kernel) (by decide +kernel)
theorem ck_X9_44 : Cond.constantLong RX9 44 (4095 : Int64) ∈ wsG := inG (i := 722) (by decide +kernel) (by decide +kernel)
theorem ck_X9_78 : Cond.constantLong RX9 78 (16777216 : Int64) ∈ wsG := inG (i := 723) (by decide +kernel) (by decide +kernel)
theorem ck_X9_86 : Cond.constantLong RX9 86 (256 : Int64) ∈ wsG := inG (i := 724) (by decide +kernel) (by decide +kernel)
theorem ml_X9_91 : Cond.methodLink RX9 91 yX9_takes ∈ wsG := inG (i := 725) (by decide +kernel) (by decide +kernel)
theorem im_X9_takes : Cond.instanceMethod yX9_takes ∈ wsG := inG (i := 727) (by decide +kernel) (by decide +kernel)
theorem co_X9_takes : Cond.code yX9_takes cX9_takes 7 none ∈ wsG := inG (i := 728) (by decide +kernel) (by decide +kernel)
theorem ml_X9_36 : Cond.methodLink RX9 36 yX9_clones ∈ wsG := inG (i := 729) (by decide +kernel) (by decide +kernel)
theorem im_X9_clones : Cond.instanceMethod yX9_clones ∈ wsG := inG (i := 731) (by decide +kernel) (by decide +kernel)
theorem co_X9_clones : Cond.code yX9_clones cX9_clones 10 none ∈ wsG := inG (i := 732) (by decide +kernel) (by decide +kernel)
theorem ml_X9_106 : Cond.methodLink RX9 106 yX9_notes ∈ wsG := inG (i := 733) (by decide +kernel) (by decide +kernel)
theorem im_X9_notes : Cond.instanceMethod yX9_notes ∈ wsG := inG (i := 735) (by decide +kernel) (by decide +kernel)
theorem co_X9_notes : Cond.code yX9_notes cX9_notes 2 none ∈ wsG := inG (i := 736) (by decide +kernel) (by decide +kernel)
theorem ml_L_39 : Cond.methodLink RL 39 yX9_unpack ∈ wsG := inG (i := 737) (by decide +kernel) (by decide +kernel)
theorem im_X9_unpack : Cond.instanceMethod yX9_unpack ∈ wsG := inG (i := 738) (by decide +kernel) (by decide +kernel)
theorem se_X9_unpack : Cond.selects RX9 yX9_unpack yX9_unpack ∈ wsG := inG (i := 739) (by decide +kernel) (by decide +kernel)
theorem co_X9_unpack : Cond.code yX9_unpack cX9_unpack 6 (some .int) ∈ wsG := inG (i := 740) (by decide +kernel) (by decide +kernel)
theorem ck_X9_109 : Cond.constantLong RX9 109 (60 : Int64) ∈ wsG := inG (i := 741) (by decide +kernel) (by decide +kernel)
theorem ml_L_43 : Cond.methodLink RL 43 yX9_spoil ∈ wsG := inG (i := 742) (by decide +kernel) (by decide +kernel)
theorem im_X9_spoil : Cond.instanceMethod yX9_spoil ∈ wsG := inG (i := 743) (by decide +kernel) (by decide +kernel)
theorem se_X9_spoil : Cond.selects RX9 yX9_spoil yX9_spoil ∈ wsG := inG (i := 744) (by decide +kernel) (by decide +kernel)
theorem co_X9_spoil : Cond.code yX9_spoil cX9_spoil 4 (some .int) ∈ wsG := inG (i := 745) (by decide +kernel) (by decide +kernel)
theorem ml_L_47 : Cond.methodLink RL 47 yX9_at ∈ wsG := inG (i := 746) (by decide +kernel) (by decide +kernel)
theorem im_X9_at : Cond.instanceMethod yX9_at ∈ wsG := inG (i := 747) (by decide +kernel) (by decide +kernel)
theorem se_X9_at : Cond.selects RX9 yX9_at yX9_at ∈ wsG := inG (i := 748) (by decide +kernel) (by decide +kernel)
theorem co_X9_at : Cond.code yX9_at cX9_at 3 (some .int) ∈ wsG := inG (i := 749) (by decide +kernel) (by decide +kernel)
theorem ml_L_51 : Cond.methodLink RL 51 yX9_alike ∈ wsG := inG (i := 750) (by decide +kernel) (by decide +kernel)
theorem im_X9_alike : Cond.instanceMethod yX9_alike ∈ wsG := inG (i := 751) (by decide +kernel) (by decide +kernel)
theorem se_X9_alike : Cond.selects RX9 yX9_alike yX9_alike ∈ wsG := inG (i := 752) (by decide +kernel) (by decide +kernel)
theorem co_X9_alike : Cond.code yX9_alike cX9_alike 2 (some .int) ∈ wsG := inG (i := 753) (by decide +kernel) (by decide +kernel)
theorem ml_L_55 : Cond.methodLink RL 55 yX9_grew ∈ wsG := inG (i := 754) (by decide +kernel) (by decide +kernel)
theorem im_X9_grew : Cond.instanceMethod yX9_grew ∈ wsG := inG (i := 755) (by decide +kernel) (by decide +kernel)
theorem se_X9_grew : Cond.selects RX9 yX9_grew yX9_grew ∈ wsG := inG (i := 756) (by decide +kernel) (by decide +kernel)
theorem co_X9_grew : Cond.code yX9_grew cX9_grew 3 (some .int) ∈ wsG := inG (i := 757) (by decide +kernel) (by decide +kernel)
theorem ml_L_59 : Cond.methodLink RL 59 yX9_bit ∈ wsG := inG (i := 758) (by decide +kernel) (by decide +kernel)
theorem im_X9_bit : Cond.instanceMethod yX9_bit ∈ wsG := inG (i := 759) (by decide +kernel) (by decide +kernel)
theorem se_X9_bit : Cond.selects RX9 yX9_bit yX9_bit ∈ wsG := inG (i := 760) (by decide +kernel) (by decide +kernel)
theorem co_X9_bit : Cond.code yX9_bit cX9_bit 2 (some .int) ∈ wsG := inG (i := 761) (by decide +kernel) (by decide +kernel)
theorem ml_L_63 : Cond.methodLink RL 63 yX9_take ∈ wsG := inG (i := 762) (by decide +kernel) (by decide +kernel)
theorem im_X9_take : Cond.instanceMethod yX9_take ∈ wsG := inG (i := 763) (by decide +kernel) (by decide +kernel)
theorem se_X9_take : Cond.selects RX9 yX9_take yX9_take ∈ wsG := inG (i := 764) (by decide +kernel) (by decide +kernel)
theorem co_X9_take : Cond.code yX9_take cX9_take 3 (some .int) ∈ wsG := inG (i := 765) (by decide +kernel) (by decide +kernel)
theorem ml_L_67 : Cond.methodLink RL 67 yX9_state ∈ wsG := inG (i := 766) (by decide +kernel) (by decide +kernel)
theorem im_X9_state : Cond.instanceMethod yX9_state ∈ wsG := inG (i := 767) (by decide +kernel) (by decide +kernel)
theorem se_X9_state : Cond.selects RX9 yX9_state yX9_state ∈ wsG := inG (i := 768) (by decide +kernel) (by decide +kernel)
theorem co_X9_state : Cond.code yX9_state cX9_state 3 (some .int) ∈ wsG := inG (i := 769) (by decide +kernel) (by decide +kernel)
theorem ck_X9_114 : Cond.constantLong RX9 114 (7 : Int64) ∈ wsG := inG (i := 770) (by decide +kernel) (by decide +kernel)
theorem ml_X9_116 : Cond.methodLink RX9 116 yX9_flow ∈ wsG := inG (i := 771) (by decide +kernel) (by decide +kernel)
theorem im_X9_flow : Cond.instanceMethod yX9_flow ∈ wsG := inG (i := 773) (by decide +kernel) (by decide +kernel)
theorem co_X9_flow : Cond.code yX9_flow cX9_flow 4 (some .int) ∈ wsG := inG (i := 774) (by decide +kernel) (by decide +kernel)
theorem ml_X9_119 : Cond.methodLink RX9 119 yX9_line ∈ wsG := inG (i := 775) (by decide +kernel) (by decide +kernel)
theorem im_X9_line : Cond.instanceMethod yX9_line ∈ wsG := inG (i := 777) (by decide +kernel) (by decide +kernel)
theorem co_X9_line : Cond.code yX9_line cX9_line 4 (some .int) ∈ wsG := inG (i := 778) (by decide +kernel) (by decide +kernel)
theorem ml_L_71 : Cond.methodLink RL 71 yX9_live ∈ wsG := inG (i := 779) (by decide +kernel) (by decide +kernel)
theorem im_X9_live : Cond.instanceMethod yX9_live ∈ wsG := inG (i := 780) (by decide +kernel) (by decide +kernel)
theorem se_X9_live : Cond.selects RX9 yX9_live yX9_live ∈ wsG := inG (i := 781) (by decide +kernel) (by decide +kernel)
theorem co_X9_live : Cond.code yX9_live cX9_live 6 (some .int) ∈ wsG := inG (i := 782) (by decide +kernel) (by decide +kernel)
theorem ml_L_75 : Cond.methodLink RL 75 yX9_likely ∈ wsG := inG (i := 783) (by decide +kernel) (by decide +kernel)
theorem im_X9_likely : Cond.instanceMethod yX9_likely ∈ wsG := inG (i := 784) (by decide +kernel) (by decide +kernel)
theorem se_X9_likely : Cond.selects RX9 yX9_likely yX9_likely ∈ wsG := inG (i := 785) (by decide +kernel) (by decide +kernel)
theorem co_X9_likely : Cond.code yX9_likely cX9_likely 4 (some .int) ∈ wsG := inG (i := 786) (by decide +kernel) (by decide +kernel)
theorem ck_X9_122 : Cond.constantLong RX9 122 (64 : Int64) ∈ wsG := inG (i := 787) (by decide +kernel) (by decide +kernel)
theorem ml_X9_124 : Cond.methodLink RX9 124 yX9_likelyBit ∈ wsG := inG (i := 788) (by decide +kernel) (by decide +kernel)
theorem im_X9_likelyBit : Cond.instanceMethod yX9_likelyBit ∈ wsG := inG (i := 790) (by decide +kernel) (by decide +kernel)
theorem co_X9_likelyBit : Cond.code yX9_likelyBit cX9_likelyBit 2 (some .int) ∈ wsG := inG (i := 791) (by decide +kernel) (by decide +kernel)
theorem ml_L_79 : Cond.methodLink RL 79 yX9_guess ∈ wsG := inG (i := 792) (by decide +kernel) (by decide +kernel)
theorem im_X9_guess : Cond.instanceMethod yX9_guess ∈ wsG := inG (i := 793) (by decide +kernel) (by decide +kernel)
theorem se_X9_guess : Cond.selects RX9 yX9_guess yX9_guess ∈ wsG := inG (i := 794) (by decide +kernel) (by decide +kernel)
theorem co_X9_guess : Cond.code yX9_guess cX9_guess 5 (some .int) ∈ wsG := inG (i := 795) (by decide +kernel) (by decide +kernel)
theorem ml_L_83 : Cond.methodLink RL 83 yX9_cost ∈ wsG := inG (i := 796) (by decide +kernel) (by decide +kernel)
theorem im_X9_cost : Cond.instanceMethod yX9_cost ∈ wsG := inG (i := 797) (by decide +kernel) (by decide +kernel)
theorem se_X9_cost : Cond.selects RX9 yX9_cost yX9_cost ∈ wsG := inG (i := 798) (by decide +kernel) (by decide +kernel)
theorem co_X9_cost : Cond.code yX9_cost cX9_cost 6 (some .int) ∈ wsG := inG (i := 799) (by decide +kernel) (by decide +kernel)
theorem ck_X9_130 : Cond.constantLong RX9 130 (65535 : Int64) ∈ wsG := inG (i := 800) (by decide +kernel) (by decide +kernel)
theorem ck_X9_132 : Cond.constantLong RX9 132 (16 : Int64) ∈ wsG := inG (i := 801) (by decide +kernel) (by decide +kernel)
theorem ml_X9_134 : Cond.methodLink RX9 134 yX9_costOf ∈ wsG := inG (i := 802) (by decide +kernel) (by decide +kernel)
theorem im_X9_costOf : Cond.instanceMethod yX9_costOf ∈ wsG := inG (i := 804) (by decide +kernel) (by decide +kernel)
theorem co_X9_costOf : Cond.code yX9_costOf cX9_costOf 3 (some .int) ∈ wsG := inG (i := 805) (by decide +kernel) (by decide +kernel)
theorem ml_L_87 : Cond.methodLink RL 87 yX9_cheapest ∈ wsG := inG (i := 806) (by decide +kernel) (by decide +kernel)
theorem im_X9_cheapest : Cond.instanceMethod yX9_cheapest ∈ wsG := inG (i := 807) (by decide +kernel) (by decide +kernel)
theorem se_X9_cheapest : Cond.selects RX9 yX9_cheapest yX9_cheapest ∈ wsG := inG (i := 808) (by decide +kernel) (by decide +kernel)
theorem co_X9_cheapest : Cond.code yX9_cheapest cX9_cheapest 8 (some .int) ∈ wsG := inG (i := 809) (by decide +kernel) (by decide +kernel)
theorem ck_X9_137 : Cond.constant RX9 137 (1000000 : Int32) ∈ wsG := inG (i := 810) (by decide +kernel) (by decide +kernel)
theorem ml_L_91 : Cond.methodLink RL 91 yX9_keep ∈ wsG := inG (i := 811) (by decide +kernel) (by decide +kernel)
theorem im_X9_keep : Cond.instanceMethod yX9_keep ∈ wsG := inG (i := 812) (by decide +kernel) (by decide +kernel)
theorem se_X9_keep : Cond.selects RX9 yX9_keep yX9_keep ∈ wsG := inG (i := 813) (by decide +kernel) (by decide +kernel)
theorem co_X9_keep : Cond.code yX9_keep cX9_keep 2 (some .int) ∈ wsG := inG (i := 814) (by decide +kernel) (by decide +kernel)
theorem ml_L_95 : Cond.methodLink RL 95 yX9_back ∈ wsG := inG (i := 815) (by decide +kernel) (by decide +kernel)
theorem im_X9_back : Cond.instanceMethod yX9_back ∈ wsG := inG (i := 816) (by decide +kernel) (by decide +kernel)
theorem se_X9_back : Cond.selects RX9 yX9_back yX9_back ∈ wsG := inG (i := 817) (by decide +kernel) (by decide +kernel)
theorem co_X9_back : Cond.code yX9_back cX9_back 2 (some .int) ∈ wsG := inG (i := 818) (by decide +kernel) (by decide +kernel)
theorem ml_L_99 : Cond.methodLink RL 99 yX9_count ∈ wsG := inG (i := 819) (by decide +kernel) (by decide +kernel)
theorem im_X9_count : Cond.instanceMethod yX9_count ∈ wsG := inG (i := 820) (by decide +kernel) (by decide +kernel)
theorem se_X9_count : Cond.selects RX9 yX9_count yX9_count ∈ wsG := inG (i := 821) (by decide +kernel) (by decide +kernel)
theorem co_X9_count : Cond.code yX9_count cX9_count 2 (some .int) ∈ wsG := inG (i := 822) (by decide +kernel) (by decide +kernel)
theorem se_X2_shapeAnew : Cond.selects RX2 yX2_shapeAnew yX2_shapeAnew ∈ wsG := inG (i := 0) (by decide +kernel) (by decide +kernel)
theorem se_X3_packBit : Cond.selects RX3 yX3_packBit yX3_packBit ∈ wsG := inG (i := 1) (by decide +kernel) (by decide +kernel)
theorem se_X2_bothCounts : Cond.selects RX2 yX2_bothCounts yX2_bothCounts ∈ wsG := inG (i := 2) (by decide +kernel) (by decide +kernel)
theorem se_X3_putTop : Cond.selects RX3 yX3_putTop yX3_putTop ∈ wsG := inG (i := 3) (by decide +kernel) (by decide +kernel)
theorem se_X2_cloneFrom : Cond.selects RX2 yX2_cloneFrom yX2_cloneFrom ∈ wsG := inG (i := 4) (by decide +kernel) (by decide +kernel)
theorem se_X7_pullByte : Cond.selects RX7 yX7_pullByte yX7_pullByte ∈ wsG := inG (i := 5) (by decide +kernel) (by decide +kernel)
theorem se_X7_unpackBit : Cond.selects RX7 yX7_unpackBit yX7_unpackBit ∈ wsG := inG (i := 6) (by decide +kernel) (by decide +kernel)
theorem se_X2_reckonFlows : Cond.selects RX2 yX2_reckonFlows yX2_reckonFlows ∈ wsG := inG (i := 7) (by decide +kernel) (by decide +kernel)
theorem se_X8_costOfByte : Cond.selects RX8 yX8_costOfByte yX8_costOfByte ∈ wsG := inG (i := 8) (by decide +kernel) (by decide +kernel)
theorem se_X8_keptPlace : Cond.selects RX8 yX8_keptPlace yX8_keptPlace ∈ wsG := inG (i := 9) (by decide +kernel) (by decide +kernel)
theorem se_X9_renews : Cond.selects RX9 yX9_renews yX9_renews ∈ wsG := inG (i := 10) (by decide +kernel) (by decide +kernel)
theorem se_X9_lays : Cond.selects RX9 yX9_lays yX9_lays ∈ wsG := inG (i := 11) (by decide +kernel) (by decide +kernel)
theorem se_X9_begins : Cond.selects RX9 yX9_begins yX9_begins ∈ wsG := inG (i := 12) (by decide +kernel) (by decide +kernel)
theorem se_X9_place : Cond.selects RX9 yX9_place yX9_place ∈ wsG := inG (i := 13) (by decide +kernel) (by decide +kernel)
theorem se_X9_narrows : Cond.selects RX9 yX9_narrows yX9_narrows ∈ wsG := inG (i := 14) (by decide +kernel) (by decide +kernel)
theorem se_X9_middle : Cond.selects RX9 yX9_middle yX9_middle ∈ wsG := inG (i := 15) (by decide +kernel) (by decide +kernel)
theorem se_X9_chance : Cond.selects RX9 yX9_chance yX9_chance ∈ wsG := inG (i := 16) (by decide +kernel) (by decide +kernel)
theorem se_X9_both : Cond.selects RX9 yX9_both yX9_both ∈ wsG := inG (i := 17) (by decide +kernel) (by decide +kernel)
theorem se_X9_takes : Cond.selects RX9 yX9_takes yX9_takes ∈ wsG := inG (i := 18) (by decide +kernel) (by decide +kernel)
theorem se_X9_clones : Cond.selects RX9 yX9_clones yX9_clones ∈ wsG := inG (i := 19) (by decide +kernel) (by decide +kernel)
theorem se_X9_notes : Cond.selects RX9 yX9_notes yX9_notes ∈ wsG := inG (i := 20) (by decide +kernel) (by decide +kernel)
theorem se_X9_flow : Cond.selects RX9 yX9_flow yX9_flow ∈ wsG := inG (i := 21) (by decide +kernel) (by decide +kernel)
theorem se_X9_line : Cond.selects RX9 yX9_line yX9_line ∈ wsG := inG (i := 22) (by decide +kernel) (by decide +kernel)
theorem se_X9_likelyBit : Cond.selects RX9 yX9_likelyBit yX9_likelyBit ∈ wsG := inG (i := 23) (by decide +kernel) (by decide +kernel)
theorem se_X9_costOf : Cond.selects RX9 yX9_costOf yX9_costOf ∈ wsG := inG (i := 24) (by decide +kernel) (by decide +kernel)
theorem inGX0 : ∀ w ∈ u_ws RX0 TX0 3, w ∈ wsG := inG_list [161, 163, 165] (by decide +kernel) (by decide +kernel)
theorem inGX1 : ∀ w ∈ u_ws RX1 TX1 2, w ∈ wsG := inG_list [255, 257] (by decide +kernel) (by decide +kernel)
theorem inGX2 : ∀ w ∈ u_ws RX2 TX2 11, w ∈ wsG := inG_list [127, 129, 131, 133, 135, 137, 139, 141, 143, 145, 147] (by decide +kernel) (by decide +kernel)
theorem inGX3 : ∀ w ∈ u_ws RX3 TX3 5, w ∈ wsG := inG_list [196, 198, 200, 202, 204] (by decide +kernel) (by decide +kernel)
theorem inGX4 : ∀ w ∈ u_ws RX4 TX4 1, w ∈ wsG := inG_list [63] (by decide +kernel) (by decide +kernel)
theorem inGX5 : ∀ w ∈ u_ws RX5 TX5 1, w ∈ wsG := inG_list [72] (by decide +kernel) (by decide +kernel)
theorem inGX6 : ∀ w ∈ u_ws RX6 TX6 2, w ∈ wsG := inG_list [182, 184] (by decide +kernel) (by decide +kernel)
theorem inGX7 : ∀ w ∈ u_ws RX7 TX7 7, w ∈ wsG := inG_list [226, 228, 230, 232, 234, 236, 238] (by decide +kernel) (by decide +kernel)
theorem inGX8 : ∀ w ∈ u_ws RX8 TX8 10, w ∈ wsG := inG_list [270, 272, 274, 276, 278, 280, 282, 284, 286, 288] (by decide +kernel) (by decide +kernel)
theorem inGX9 : ∀ w ∈ u_ws RX9 TX9 14, w ∈ wsG := inG_list [639, 641, 643, 645, 647, 649, 651, 653, 655, 657, 659, 661, 663, 665] (by decide +kernel) (by decide +kernel)
def nwL : List Cond := [Cond.fieldLinkNest RX5 11 RX8 "SETTING_AT_FIRST" "[I" RX8, Cond.fieldLinkNest RX8 85 RX2 "states" "I" RX8, Cond.fieldLinkNest RX7 77 RX2 "here" "I" RX8, Cond.fieldLinkNest RX3 67 RX2 "here" "I" RX8, Cond.fieldLinkNest RX8 146 RX2 "here" "I" RX8, Cond.fieldLinkNest RX8 174 RX2 "taken" "I" RX8, Cond.fieldLinkNest RX8 137 RX2 "clonings" "I" RX8, Cond.fieldLinkNest RX8 140 RX2 "drops" "I" RX8, Cond.methodLinkNest RX3 11 yX6_init RX8, Cond.fieldLinkNest RX8 133 RX3 "machine" "LCloningMachine$Machine;" RX8, Cond.fieldLinkNest RX8 128 RX3 "used" "Z" RX8, Cond.methodLinkNest RX7 11 yX6_init RX8, Cond.fieldLinkNest RX8 136 RX7 "machine" "LCloningMachine$Machine;" RX8, Cond.fieldLinkNest RX8 132 RX7 "used" "Z" RX8, Cond.methodLinkNest RX8 58 yX1_init RX8, Cond.fieldLinkNest RX8 200 RX1 "settings" "LCloningMachine$Settings;" RX8, Cond.fieldLinkNest RX8 204 RX1 "machine" "LCloningMachine$Machine;" RX8, Cond.fieldLinkNest RX5 28 RX8 "LEAST_SETTING" "[I" RX8, Cond.fieldLinkNest RX5 31 RX8 "GREATEST_SETTING" "[I" RX8, Cond.methodLinkNest RX3 59 yX8_bitFromHighest RX8, Cond.methodLinkNest RX2 86 yX8_cutQuotient RX8, Cond.methodLinkNest RX2 105 yX8_bitFromHighest RX8]
def nw (U : State) : Prop := ∀ w ∈ nwL, va_Nw w U
theorem nf_X5_11 {U : State} (h : nw U) : va_Nw (Cond.fieldLinkNest RX5 11 RX8 "SETTING_AT_FIRST" "[I" RX8) U := h _ (List.mem_of_getElem? (i := 0) rfl)
theorem nf_X8_85 {U : State} (h : nw U) : va_Nw (Cond.fieldLinkNest RX8 85 RX2 "states" "I" RX8) U := h _ (List.mem_of_getElem? (i := 1) rfl)
theorem nf_X7_77 {U : State} (h : nw U) : va_Nw (Cond.fieldLinkNest RX7 77 RX2 "here" "I" RX8) U := h _ (List.mem_of_getElem? (i := 2) rfl)
theorem nf_X3_67 {U : State} (h : nw U) : va_Nw (Cond.fieldLinkNest RX3 67 RX2 "here" "I" RX8) U := h _ (List.mem_of_getElem? (i := 3) rfl)
theorem nf_X8_146 {U : State} (h : nw U) : va_Nw (Cond.fieldLinkNest RX8 146 RX2 "here" "I" RX8) U := h _ (List.mem_of_getElem? (i := 4) rfl)
theorem nf_X8_174 {U : State} (h : nw U) : va_Nw (Cond.fieldLinkNest RX8 174 RX2 "taken" "I" RX8) U := h _ (List.mem_of_getElem? (i := 5) rfl)
theorem nf_X8_137 {U : State} (h : nw U) : va_Nw (Cond.fieldLinkNest RX8 137 RX2 "clonings" "I" RX8) U := h _ (List.mem_of_getElem? (i := 6) rfl)
theorem nf_X8_140 {U : State} (h : nw U) : va_Nw (Cond.fieldLinkNest RX8 140 RX2 "drops" "I" RX8) U := h _ (List.mem_of_getElem? (i := 7) rfl)
theorem nm_X3_11 {U : State} (h : nw U) : va_Nw (Cond.methodLinkNest RX3 11 yX6_init RX8) U := h _ (List.mem_of_getElem? (i := 8) rfl)
theorem nf_X8_133 {U : State} (h : nw U) : va_Nw (Cond.fieldLinkNest RX8 133 RX3 "machine" "LCloningMachine$Machine;" RX8) U := h _ (List.mem_of_getElem? (i := 9) rfl)
theorem nf_X8_128 {U : State} (h : nw U) : va_Nw (Cond.fieldLinkNest RX8 128 RX3 "used" "Z" RX8) U := h _ (List.mem_of_getElem? (i := 10) rfl)
theorem nm_X7_11 {U : State} (h : nw U) : va_Nw (Cond.methodLinkNest RX7 11 yX6_init RX8) U := h _ (List.mem_of_getElem? (i := 11) rfl)
theorem nf_X8_136 {U : State} (h : nw U) : va_Nw (Cond.fieldLinkNest RX8 136 RX7 "machine" "LCloningMachine$Machine;" RX8) U := h _ (List.mem_of_getElem? (i := 12) rfl)
theorem nf_X8_132 {U : State} (h : nw U) : va_Nw (Cond.fieldLinkNest RX8 132 RX7 "used" "Z" RX8) U := h _ (List.mem_of_getElem? (i := 13) rfl)
theorem nm_X8_58 {U : State} (h : nw U) : va_Nw (Cond.methodLinkNest RX8 58 yX1_init RX8) U := h _ (List.mem_of_getElem? (i := 14) rfl)
theorem nf_X8_200 {U : State} (h : nw U) : va_Nw (Cond.fieldLinkNest RX8 200 RX1 "settings" "LCloningMachine$Settings;" RX8) U := h _ (List.mem_of_getElem? (i := 15) rfl)
theorem nf_X8_204 {U : State} (h : nw U) : va_Nw (Cond.fieldLinkNest RX8 204 RX1 "machine" "LCloningMachine$Machine;" RX8) U := h _ (List.mem_of_getElem? (i := 16) rfl)
theorem nf_X5_28 {U : State} (h : nw U) : va_Nw (Cond.fieldLinkNest RX5 28 RX8 "LEAST_SETTING" "[I" RX8) U := h _ (List.mem_of_getElem? (i := 17) rfl)
theorem nf_X5_31 {U : State} (h : nw U) : va_Nw (Cond.fieldLinkNest RX5 31 RX8 "GREATEST_SETTING" "[I" RX8) U := h _ (List.mem_of_getElem? (i := 18) rfl)
theorem nm_X3_59 {U : State} (h : nw U) : va_Nw (Cond.methodLinkNest RX3 59 yX8_bitFromHighest RX8) U := h _ (List.mem_of_getElem? (i := 19) rfl)
theorem nm_X2_86 {U : State} (h : nw U) : va_Nw (Cond.methodLinkNest RX2 86 yX8_cutQuotient RX8) U := h _ (List.mem_of_getElem? (i := 20) rfl)
theorem nm_X2_105 {U : State} (h : nw U) : va_Nw (Cond.methodLinkNest RX2 105 yX8_bitFromHighest RX8) U := h _ (List.mem_of_getElem? (i := 21) rfl)
theorem nw_warm {s U : State} (hW : s.WarmedH U.vm) (h : nw s) : nw U := by
  intro w hw
  simp only [nwL, List.mem_cons, List.not_mem_nil, or_false] at hw
  rcases hw with rfl | rfl | rfl | rfl | rfl | rfl | rfl | rfl | rfl | rfl | rfl | rfl | rfl | rfl | rfl | rfl | rfl | rfl | rfl | rfl | rfl | rfl
  · exact va_Nw.warmF hW (nf_X5_11 h)
  · exact va_Nw.warmF hW (nf_X8_85 h)
  · exact va_Nw.warmF hW (nf_X7_77 h)
  · exact va_Nw.warmF hW (nf_X3_67 h)
  · exact va_Nw.warmF hW (nf_X8_146 h)
  · exact va_Nw.warmF hW (nf_X8_174 h)
  · exact va_Nw.warmF hW (nf_X8_137 h)
  · exact va_Nw.warmF hW (nf_X8_140 h)
  · exact va_Nw.warmM hW (nm_X3_11 h)
  · exact va_Nw.warmF hW (nf_X8_133 h)
  · exact va_Nw.warmF hW (nf_X8_128 h)
  · exact va_Nw.warmM hW (nm_X7_11 h)
  · exact va_Nw.warmF hW (nf_X8_136 h)
  · exact va_Nw.warmF hW (nf_X8_132 h)
  · exact va_Nw.warmM hW (nm_X8_58 h)
  · exact va_Nw.warmF hW (nf_X8_200 h)
  · exact va_Nw.warmF hW (nf_X8_204 h)
  · exact va_Nw.warmF hW (nf_X5_28 h)
  · exact va_Nw.warmF hW (nf_X5_31 h)
  · exact va_Nw.warmM hW (nm_X3_59 h)
  · exact va_Nw.warmM hW (nm_X2_86 h)
  · exact va_Nw.warmM hW (nm_X2_105 h)
theorem nw_calling {U : State} {g : JFrame} {mk : MethodId} {a : Array Value} (h : nw U) : nw (U.calling g mk a) := by
  intro w hw
  have h1 := h w hw
  simp only [nwL, List.mem_cons, List.not_mem_nil, or_false] at hw
  rcases hw with rfl | rfl | rfl | rfl | rfl | rfl | rfl | rfl | rfl | rfl | rfl | rfl | rfl | rfl | rfl | rfl | rfl | rfl | rfl | rfl | rfl | rfl <;> exact va_Nw.same rfl rfl h1
theorem nw_of {A : Array Value} {U : State} (h : ∀ w ∈ lw_tbl, w.before A U = true) : nw U := by
  intro w hw
  simp only [nwL, List.mem_cons, List.not_mem_nil, or_false] at hw
  rcases hw with rfl | rfl | rfl | rfl | rfl | rfl | rfl | rfl | rfl | rfl | rfl | rfl | rfl | rfl | rfl | rfl | rfl | rfl | rfl | rfl | rfl | rfl
  · exact va_Nw.of rfl (h _ (List.mem_of_getElem? (i := 53) (by decide +kernel)))
  · exact va_Nw.of rfl (h _ (List.mem_of_getElem? (i := 115) (by decide +kernel)))
  · exact va_Nw.of rfl (h _ (List.mem_of_getElem? (i := 118) (by decide +kernel)))
  · exact va_Nw.of rfl (h _ (List.mem_of_getElem? (i := 119) (by decide +kernel)))
  · exact va_Nw.of rfl (h _ (List.mem_of_getElem? (i := 120) (by decide +kernel)))
  · exact va_Nw.of rfl (h _ (List.mem_of_getElem? (i := 122) (by decide +kernel)))
  · exact va_Nw.of rfl (h _ (List.mem_of_getElem? (i := 124) (by decide +kernel)))
  · exact va_Nw.of rfl (h _ (List.mem_of_getElem? (i := 126) (by decide +kernel)))
  · exact va_Nw.of rfl (h _ (List.mem_of_getElem? (i := 176) (by decide +kernel)))
  · exact va_Nw.of rfl (h _ (List.mem_of_getElem? (i := 191) (by decide +kernel)))
  · exact va_Nw.of rfl (h _ (List.mem_of_getElem? (i := 195) (by decide +kernel)))
  · exact va_Nw.of rfl (h _ (List.mem_of_getElem? (i := 214) (by decide +kernel)))
  · exact va_Nw.of rfl (h _ (List.mem_of_getElem? (i := 219) (by decide +kernel)))
  · exact va_Nw.of rfl (h _ (List.mem_of_getElem? (i := 225) (by decide +kernel)))
  · exact va_Nw.of rfl (h _ (List.mem_of_getElem? (i := 243) (by decide +kernel)))
  · exact va_Nw.of rfl (h _ (List.mem_of_getElem? (i := 252) (by decide +kernel)))
  · exact va_Nw.of rfl (h _ (List.mem_of_getElem? (i := 254) (by decide +kernel)))
  · exact va_Nw.of rfl (h _ (List.mem_of_getElem? (i := 298) (by decide +kernel)))
  · exact va_Nw.of rfl (h _ (List.mem_of_getElem? (i := 300) (by decide +kernel)))
  · exact va_Nw.of rfl (h _ (List.mem_of_getElem? (i := 365) (by decide +kernel)))
  · exact va_Nw.of rfl (h _ (List.mem_of_getElem? (i := 387) (by decide +kernel)))
  · exact va_Nw.of rfl (h _ (List.mem_of_getElem? (i := 569) (by decide +kernel)))
end
section
/-! one world, one list of words: wrappers of the kit's rows -/
def gw (D : va_G) (cI : ClassId) (ws : va_W) (U : State) : Prop := va_P D vwCl ws U.heap ∧ va_K D vwCl [(cI, .int)] U ∧ nw U
theorem gw_blind {As : List Value} {D : va_G} {cI : ClassId} {ws : va_W} : FrameBlind (va_Pc As (gw D cI ws)) := fun a U g mk q => by
  obtain ⟨q0, qP, qK, qN⟩ := q
  exact ⟨q0, qP, va_K.moved (u := U) (U := U.calling g mk a) (Vm.Alike.refl U.vm) qK, nw_calling qN⟩
def gv (D : va_G) (cI : ClassId) (sz : Nat) (ws : va_W) (U : State) : Prop := U.heap.size = sz ∧ gw D cI ws U ∧ va_D (fun _ => True) ws
theorem gv_blind {As : List Value} {D : va_G} {cI : ClassId} {sz : Nat} {ws : va_W} : FrameBlind (va_Pc As (gv D cI sz ws)) := fun a U g mk q => by
  obtain ⟨q0, q1, ⟨qP, qK, qN⟩, qD⟩ := q
  exact ⟨q0, q1, ⟨qP, va_K.moved (u := U) (U := U.calling g mk a) (Vm.Alike.refl U.vm) qK, nw_calling qN⟩, qD⟩
/-- the world behind a method that writes -/
def gz (D : va_G) (A : Nat → Prop) (ws : va_W) (_ : Unit) (t : State) : Prop := va_P D vwCl ws t.heap ∧ va_D A ws
theorem fm_of_map {ws wc : va_W} {is : List Nat} (h : is.map (fun i => ws[i]?) = wc.map some) : is.filterMap (fun i => ws[i]?) = wc := by
  have h1 : is.filterMap (fun i => ws[i]?) = (is.map (fun i => ws[i]?)).filterMap id := by rw [List.filterMap_map]; rfl
  rw [h1, h, List.filterMap_map]
  simp
section KK
variable {p : Program} {l : Launch} {e : Env} {R : Room} {s : State} {m : MethodId} {args : Array Value} {below : List Frame} {meth : Method} {c : Code} {H : Heap} {locs : List Loc} {cells slots : Nat} {Q : State → Prop}
variable {D : va_G} {cI : ClassId} {y : MethodName} {bytes cc : ByteArray} {maxL nL n index pc : Nat} {ret : Option FieldType} {rm : Room} {own C host : String} {b : Addr} {As rest st0 : List Value} {ls : Array Slot} {Wc Wc' Ws Wr W2 : va_W} {ci : Nat} {cfs : List Value} {T : u_T} {N : Nat} {H0 : Heap} {A : Nat → Prop}
/-- what a callee's name must be -/
abbrev okV (y : MethodName) (C : String) (n : Nat) : Prop := y.cls = C ∧ y.cls ≠ "java/lang/invoke/MethodHandle" ∧ y.cls ≠ "java/lang/invoke/VarHandle" ∧ (parseMethodDescriptor y.desc).map (fun d => d.parameters.length) = some n
theorem k_preV (hK : va_K D vwCl [(cI, .int)] s) (hN : nw s) (hP : va_P D vwCl Wc H) (he : Wc[0]? = some (b, .inr (ci, cfs))) (hc : vwCl[ci]? = some (C, T, N)) : PreV s H C b (va_Pc (.ref b :: As) (gw D cI Wc)) As :=
  ⟨gw_blind, va_recv hK hP (ci := ci) (q0 := 0) hc he, fun U hU hW => ⟨rfl, by rw [hU]; exact hP, va_K.moved hW.alike hK, nw_warm hW hN⟩⟩
theorem k_preS (hK : va_K D vwCl [(cI, .int)] s) (hN : nw s) (hP : va_P D vwCl Wc H) : PreS s H (va_Pc As (gw D cI Wc)) As :=
  ⟨gw_blind, fun U hU hW => ⟨rfl, by rw [hU]; exact hP, va_K.moved hW.alike hK, nw_warm hW hN⟩⟩
theorem k_preVw (hK : va_K D vwCl [(cI, .int)] s) (hN : nw s) (hP : va_P D vwCl Wc H) (hD : va_D A Wc) (he : Wc[0]? = some (b, .inr (ci, cfs))) (hc : vwCl[ci]? = some (C, T, N)) : PreV s H C b (va_Pc (.ref b :: As) (gv D cI H.size Wc)) As :=
  ⟨gv_blind, va_recv hK hP (ci := ci) (q0 := 0) hc he, fun U hU hW => ⟨rfl, by rw [hU], ⟨by rw [hU]; exact hP, va_K.moved hW.alike hK, nw_warm hW hN⟩, hD.weaken (fun _ _ _ _ => trivial)⟩⟩
/-- a call that only reads, virtual: int, long -/
theorem k_roVi {r : Int32} (S : CallFix p m c cc nL s args wsG own) (hM : Met l y (.code y bytes maxL ret :: wsG) rm (va_Pc (.ref b :: As) (gw D cI Wc)) (vp_Si (fun x => x = r)) 0 0 (fun _ => False)) (hG : GoodIn wsG (wsV own index C y (.code y bytes maxL ret :: wsG))) (hd : okV y C n) (hrm : rm.cells = 0 ∧ rm.slots = 0) (hR : rm.frames + 1 ≤ R.frames ∧ 8 + (maxL + 11) + rm.locals ≤ R.locals) (hK : va_K D vwCl [(cI, .int)] s) (hN : nw s) (hP : va_P D vwCl Wc H) (he : Wc[0]? = some (b, .inr (ci, cfs))) (hc : vwCl[ci]? = some (C, T, N)) (hn : As.length = n) (hls : ls.size = nL) (hst : st0 = As.reverse ++ .ref b :: rest) (hcat : (rest.map fun v => v.category).sum ≤ 8) (hf : cells ≤ R.cells ∧ slots ≤ R.slots) (hdg : decode cc pc = .ok (.invokevirtual index, 3))
    (kk : W p l e R s m args below meth c H locs cells slots Q (F0 m (pc + 3) ls (.int r :: rest))) : W p l e R s m args below meth c H locs cells slots Q (F0 m pc ls st0) := by
  subst hst
  exact vp_callSi (va_Run.run (va_runV (As := As) (rest := rest) S hM (cwV n S.2.2.2.2 hG rfl hrm.1 hrm.2 hd hR) (k_preV hK hN hP he hc) rfl hn hls rfl (lv_room hcat) hdg hf)) (fun r' hr' => by subst hr'; exact kk)
theorem k_roVl {r : Int64} (S : CallFix p m c cc nL s args wsG own) (hM : Met l y (.code y bytes maxL ret :: wsG) rm (va_Pc (.ref b :: As) (gw D cI Wc)) (vp_Sl (fun x => x = r)) 0 0 (fun _ => False)) (hG : GoodIn wsG (wsV own index C y (.code y bytes maxL ret :: wsG))) (hd : okV y C n) (hrm : rm.cells = 0 ∧ rm.slots = 0) (hR : rm.frames + 1 ≤ R.frames ∧ 8 + (maxL + 11) + rm.locals ≤ R.locals) (hK : va_K D vwCl [(cI, .int)] s) (hN : nw s) (hP : va_P D vwCl Wc H) (he : Wc[0]? = some (b, .inr (ci, cfs))) (hc : vwCl[ci]? = some (C, T, N)) (hn : As.length = n) (hls : ls.size = nL) (hst : st0 = As.reverse ++ .ref b :: rest) (hcat : (rest.map fun v => v.category).sum ≤ 8) (hf : cells ≤ R.cells ∧ slots ≤ R.slots) (hdg : decode cc pc = .ok (.invokevirtual index, 3))
    (kk : W p l e R s m args below meth c H locs cells slots Q (F0 m (pc + 3) ls (.long r :: rest))) : W p l e R s m args below meth c H locs cells slots Q (F0 m pc ls st0) := by
  subst hst
  exact vp_callSl (va_Run.run (va_runV (As := As) (rest := rest) S hM (cwV n S.2.2.2.2 hG rfl hrm.1 hrm.2 hd hR) (k_preV hK hN hP he hc) rfl hn hls rfl (lv_room hcat) hdg hf)) (fun r' hr' => by subst hr'; exact kk)
/-- .. that answers one of its references -/
theorem k_roVr {r : Nat} (S : CallFix p m c cc nL s args wsG own) (hM : Met l y (.code y bytes maxL ret :: wsG) rm (va_Pc (.ref b :: As) (gw D cI Wc)) (va_Sr (fun x => x = r) Value.ref) 0 0 (fun _ => False)) (hG : GoodIn wsG (wsV own index C y (.code y bytes maxL ret :: wsG))) (hd : okV y C n) (hrm : rm.cells = 0 ∧ rm.slots = 0) (hR : rm.frames + 1 ≤ R.frames ∧ 8 + (maxL + 11) + rm.locals ≤ R.locals) (hK : va_K D vwCl [(cI, .int)] s) (hN : nw s) (hP : va_P D vwCl Wc H) (he : Wc[0]? = some (b, .inr (ci, cfs))) (hc : vwCl[ci]? = some (C, T, N)) (hn : As.length = n) (hls : ls.size = nL) (hst : st0 = As.reverse ++ .ref b :: rest) (hcat : (rest.map fun v => v.category).sum ≤ 8) (hf : cells ≤ R.cells ∧ slots ≤ R.slots) (hdg : decode cc pc = .ok (.invokevirtual index, 3))
    (kk : W p l e R s m args below meth c H locs cells slots Q (F0 m (pc + 3) ls (.ref r :: rest))) : W p l e R s m args below meth c H locs cells slots Q (F0 m pc ls st0) := by
  subst hst
  exact va_csr (va_Run.run (va_runV (As := As) (rest := rest) S hM (cwV n S.2.2.2.2 hG rfl hrm.1 hrm.2 hd hR) (k_preV hK hN hP he hc) rfl hn hls rfl (lv_room hcat) hdg hf)) (fun r' hr' => by subst hr'; exact kk)
/-- static, reading: by an ordinary link, and by a nest mate's -/
abbrev okS (y : MethodName) (n : Nat) : Prop := y.cls ≠ "java/lang/invoke/MethodHandle" ∧ y.cls ≠ "java/lang/invoke/VarHandle" ∧ (parseMethodDescriptor y.desc).map (fun d => d.parameters.length) = some n
theorem k_roSi {r : Int32} (S : CallFix p m c cc nL s args wsG own) (hM : Met l y (.code y bytes maxL ret :: wsG) rm (va_Pc As (gw D cI Wc)) (vp_Si (fun x => x = r)) 0 0 (fun _ => False)) (hG : GoodIn wsG (va_wsS own index y (.code y bytes maxL ret :: wsG))) (hd : okS y n) (hrm : rm.cells = 0 ∧ rm.slots = 0) (hR : rm.frames + 1 ≤ R.frames ∧ 8 + (maxL + 11) + rm.locals ≤ R.locals) (hK : va_K D vwCl [(cI, .int)] s) (hN : nw s) (hP : va_P D vwCl Wc H) (hn : As.length = n) (hls : ls.size = nL) (hst : st0 = As.reverse ++ rest) (hcat : (rest.map fun v => v.category).sum ≤ 8) (hf : cells ≤ R.cells ∧ slots ≤ R.slots) (hdg : decode cc pc = .ok (.invokestatic index, 3))
    (kk : W p l e R s m args below meth c H locs cells slots Q (F0 m (pc + 3) ls (.int r :: rest))) : W p l e R s m args below meth c H locs cells slots Q (F0 m pc ls st0) := by
  subst hst
  exact vp_callSi (va_Run.run (va_runS (As := As) (rest := rest) S hM (va_cwS n S.2.2.2.2 hG rfl hrm.1 hrm.2 hd hR) (k_preS hK hN hP) rfl hn hls rfl (lv_room hcat) hdg hf)) (fun r' hr' => by subst hr'; exact kk)
theorem k_roSNi {r : Int32} (S : CallFix p m c cc nL s args wsG own) (hM : Met l y (.code y bytes maxL ret :: wsG) rm (va_Pc As (gw D cI Wc)) (vp_Si (fun x => x = r)) 0 0 (fun _ => False)) (hG : GoodIn wsG (.code y bytes maxL ret :: wsG)) (hl : va_Nw (.methodLinkNest own index y host) s) (hst1 : Cond.static y ∈ wsG) (hini : Cond.initialized y.cls ∈ wsG) (hd : okS y n) (hrm : rm.cells = 0 ∧ rm.slots = 0) (hR : rm.frames + 1 ≤ R.frames ∧ 8 + (maxL + 11) + rm.locals ≤ R.locals) (hK : va_K D vwCl [(cI, .int)] s) (hN : nw s) (hP : va_P D vwCl Wc H) (hn : As.length = n) (hls : ls.size = nL) (hst : st0 = As.reverse ++ rest) (hcat : (rest.map fun v => v.category).sum ≤ 8) (hf : cells ≤ R.cells ∧ slots ≤ R.slots) (hdg : decode cc pc = .ok (.invokestatic index, 3))
    (kk : W p l e R s m args below meth c H locs cells slots Q (F0 m (pc + 3) ls (.int r :: rest))) : W p l e R s m args below meth c H locs cells slots Q (F0 m pc ls st0) := by
  subst hst
  exact vp_callSi (va_Run.run (va_runSN (As := As) (rest := rest) S hM ⟨va_cnB n S.2.2.2.2 hG rfl hrm.1 hrm.2 hl (S.2.2.2.2 _ hini) hd hR, S.2.2.2.2 _ hst1, trivial⟩ (k_preS hK hN hP) rfl hn hls rfl (lv_room hcat) hdg hf)) (fun r' hr' => by subst hr'; exact kk)
/-- behind a call that writes: the caller's cells in their order again -/
theorem k_join {H1 : Heap} (hP : va_P D vwCl Ws H) (hD : va_D A Ws) (isC isR perm : List Nat) (hC : isC.map (fun i => Ws[i]?) = Wc.map some) (hRr : isR.map (fun i => Ws[i]?) = Wr.map some) (hn1 : va_nd isR = true) (hdis : ∀ i ∈ isR, i ∉ isC) (hp : perm.map (fun i => (Wr ++ Wc')[i]?) = W2.map some) (hn2 : va_nd perm = true) (hk : ∀ q : Nat, q < H.size → ¬ va_A Wc H.size q → H1[q]? = H[q]?) (hF : ∀ q, va_A Wc H.size q → A q) (hP1 : va_P D vwCl Wc' H1) (hD1 : va_D (va_A Wc H.size) Wc') : va_P D vwCl W2 H1 ∧ va_D A W2 := by
  obtain ⟨g1, g2⟩ := va_join hP hD isC isR hC hRr hn1 hdis hk hF hP1 hD1
  exact ⟨g1.sub perm (fm_of_map hp), g2.sub perm hn2 hp⟩
theorem k_rwVi {r : Int32} (S : CallFix p m c cc nL s args wsG own) (hM : Met l y (.code y bytes maxL ret :: wsG) rm (va_Pc (.ref b :: As) (gv D cI H.size Wc)) (va_Qi (fun x (_ : Unit) => x = r) (gz D (va_A Wc H.size) Wc') (va_A Wc H.size)) 0 0 (va_A Wc H.size)) (hG : GoodIn wsG (wsV own index C y (.code y bytes maxL ret :: wsG))) (hd : okV y C n) (hrm : rm.cells = 0 ∧ rm.slots = 0) (hR : rm.frames + 1 ≤ R.frames ∧ 8 + (maxL + 11) + rm.locals ≤ R.locals) (hK : va_K D vwCl [(cI, .int)] s) (hN : nw s) (hP : va_P D vwCl Ws H) (hD : va_D A Ws) (hS : va_S A H0 H locs) (hA : ∀ q, H0.size ≤ q → A q) (isC isR perm : List Nat) (hnC : va_nd isC = true) (hC : isC.map (fun i => Ws[i]?) = Wc.map some) (hRr : isR.map (fun i => Ws[i]?) = Wr.map some) (hn1 : va_nd isR = true) (hdis : ∀ i ∈ isR, i ∉ isC) (hp : perm.map (fun i => (Wr ++ Wc')[i]?) = W2.map some) (hn2 : va_nd perm = true) (he : Wc[0]? = some (b, .inr (ci, cfs))) (hc : vwCl[ci]? = some (C, T, N)) (hn : As.length = n) (hls : ls.size = nL) (hst : st0 = As.reverse ++ .ref b :: rest) (hcat : (rest.map fun v => v.category).sum ≤ 8) (hf : cells ≤ R.cells ∧ slots ≤ R.slots) (hdg : decode cc pc = .ok (.invokevirtual index, 3))
    (kk : ∀ (H1 : Heap) (locs1 : List Loc), va_P D vwCl W2 H1 → va_D A W2 → va_S A H0 H1 locs1 → W p l e R s m args below meth c H1 locs1 cells slots Q (F0 m (pc + 3) ls (.int r :: rest))) : W p l e R s m args below meth c H locs cells slots Q (F0 m pc ls st0) := by
  subst hst
  have hF := va_free (wc := Wc) hD hS hA isC hC
  refine va_calli (va_runV (As := As) (rest := rest) S hM (cwV n S.2.2.2.2 hG rfl hrm.1 hrm.2 hd hR) (k_preVw hK hN (hP.sub isC (fm_of_map hC)) (hD.sub isC hnC hC) he hc) rfl hn hls rfl (lv_room hcat) hdg hf) hS (fun q _ h => hF q h) hF (fun r' u t H1 locs1 ht hvm hw hB hz1 hk1 hS1 => ?_)
  subst hw
  obtain ⟨hP1, hD1⟩ := hB
  rw [ht] at hP1
  obtain ⟨g1, g2⟩ := k_join hP hD isC isR perm hC hRr hn1 hdis hp hn2 hk1 hF hP1 hD1
  exact kk H1 locs1 g1 g2 hS1
theorem k_rwVv (S : CallFix p m c cc nL s args wsG own) (hM : Met l y (.code y bytes maxL ret :: wsG) rm (va_Pc (.ref b :: As) (gv D cI H.size Wc)) (va_Qv (fun (_ : Unit) => True) (gz D (va_A Wc H.size) Wc') (va_A Wc H.size)) 0 0 (va_A Wc H.size)) (hG : GoodIn wsG (wsV own index C y (.code y bytes maxL ret :: wsG))) (hd : okV y C n) (hrm : rm.cells = 0 ∧ rm.slots = 0) (hR : rm.frames + 1 ≤ R.frames ∧ 8 + (maxL + 11) + rm.locals ≤ R.locals) (hK : va_K D vwCl [(cI, .int)] s) (hN : nw s) (hP : va_P D vwCl Ws H) (hD : va_D A Ws) (hS : va_S A H0 H locs) (hA : ∀ q, H0.size ≤ q → A q) (isC isR perm : List Nat) (hnC : va_nd isC = true) (hC : isC.map (fun i => Ws[i]?) = Wc.map some) (hRr : isR.map (fun i => Ws[i]?) = Wr.map some) (hn1 : va_nd isR = true) (hdis : ∀ i ∈ isR, i ∉ isC) (hp : perm.map (fun i => (Wr ++ Wc')[i]?) = W2.map some) (hn2 : va_nd perm = true) (he : Wc[0]? = some (b, .inr (ci, cfs))) (hc : vwCl[ci]? = some (C, T, N)) (hn : As.length = n) (hls : ls.size = nL) (hst : st0 = As.reverse ++ .ref b :: rest) (hcat : (rest.map fun v => v.category).sum ≤ 8) (hf : cells ≤ R.cells ∧ slots ≤ R.slots) (hdg : decode cc pc = .ok (.invokevirtual index, 3))
    (kk : ∀ (H1 : Heap) (locs1 : List Loc), va_P D vwCl W2 H1 → va_D A W2 → va_S A H0 H1 locs1 → W p l e R s m args below meth c H1 locs1 cells slots Q (F0 m (pc + 3) ls rest)) : W p l e R s m args below meth c H locs cells slots Q (F0 m pc ls st0) := by
  subst hst
  have hF := va_free (wc := Wc) hD hS hA isC hC
  refine va_callv (va_runV (As := As) (rest := rest) S hM (cwV n S.2.2.2.2 hG rfl hrm.1 hrm.2 hd hR) (k_preVw hK hN (hP.sub isC (fm_of_map hC)) (hD.sub isC hnC hC) he hc) rfl hn hls rfl (lv_room hcat) hdg hf) hS (fun q _ h => hF q h) hF (fun u t H1 locs1 ht hvm hw hB hz1 hk1 hS1 => ?_)
  obtain ⟨hP1, hD1⟩ := hB
  rw [ht] at hP1
  obtain ⟨g1, g2⟩ := k_join hP hD isC isR perm hC hRr hn1 hdis hp hn2 hk1 hF hP1 hD1
  exact kk H1 locs1 g1 g2 hS1
end KK
section KI
variable {l : Launch} {y : MethodName} {cc : ByteArray} {maxL : Nat} {ret : Option FieldType} {rm : Room} {D : va_G} {cI : ClassId} {As : List Value} {Ws Ws' : va_W} {own : String} {lv : List (Nat × Value)}
/-- a method that only reads, from its entry -/
theorem k_ro {Qc : Array Value → State → Outcome → State → Prop} (hy : plainName y.cls = true) (ho : y.cls = own) (hlen : (lg_sl As).length ≤ maxL) (hlv : lv_args 0 As = lv)
    (body : ∀ (p : Program) (e : Env) (s : State) (m : MethodId) (below : List Frame) (meth : Method) (c : Code) (ls : Array Slot), CallFix p m c cc maxL s As.toArray wsG own → meth.sig.returnType = ret → meth.locks = false → va_K D vwCl [(cI, .int)] s → nw s → va_P D vwCl Ws s.heap → lv_has ls maxL lv → W p l e (headSpec (.code y cc maxL ret :: wsG) rm).room s m As.toArray below meth c s.heap [] 0 0 (MQ below Qc As.toArray s 0 0 (fun _ => False)) (F0 m 0 ls [])) : Met l y (.code y cc maxL ret :: wsG) rm (va_Pc As (gw D cI Ws)) Qc 0 0 (fun _ => False) := by
  refine Met.ofW (cc := cc) (maxL := maxL) (ret := ret) hy rfl ?_
  intro p e s m args below meth c s₁ B hml hv
  obtain ⟨rfl, hP, hK, hN⟩ := hv
  have hts := atoms_spec (ws := .code y cc maxL ret :: wsG) B.pre
  have hown : s.vm.findClass y.cls = some m.cls := findClass_of_methodNamed B.named
  have hl := lv_entry As (n := maxL) hlen
  rw [lg_entry_eq]
  subst ho
  subst hlv
  exact body p e s m below meth c _ ⟨B.exec, B.bytes, hml, hown, fun w h => hts w (List.mem_cons_of_mem _ h)⟩ B.returns B.notSynchronized hK hN hP hl
/-- a method that writes, from its entry -/
theorem k_rw {Qc : (Nat → Prop) → Array Value → State → Outcome → State → Prop} {sz : Nat} (hy : plainName y.cls = true) (ho : y.cls = own) (hlen : (lg_sl As).length ≤ maxL) (hlv : lv_args 0 As = lv)
    (body : ∀ (p : Program) (e : Env) (s : State) (m : MethodId) (below : List Frame) (meth : Method) (c : Code) (ls : Array Slot) (A : Nat → Prop), CallFix p m c cc maxL s As.toArray wsG own → meth.sig.returnType = ret → meth.locks = false → va_K D vwCl [(cI, .int)] s → nw s → va_P D vwCl Ws s.heap → va_D A Ws → va_S A s.heap s.heap [] → (∀ q, s.heap.size ≤ q → A q) → lv_has ls maxL lv → W p l e (headSpec (.code y cc maxL ret :: wsG) rm).room s m As.toArray below meth c s.heap [] 0 0 (MQ below (Qc A) As.toArray s 0 0 A) (F0 m 0 ls [])) : Met l y (.code y cc maxL ret :: wsG) rm (va_Pc As (gv D cI sz Ws)) (Qc (va_A Ws sz)) 0 0 (va_A Ws sz) := by
  refine Met.ofW (cc := cc) (maxL := maxL) (ret := ret) hy rfl ?_
  intro p e s m args below meth c s₁ B hml hv
  obtain ⟨rfl, hsz, ⟨hP, hK, hN⟩, hD0⟩ := hv
  subst hsz
  have hts := atoms_spec (ws := .code y cc maxL ret :: wsG) B.pre
  have hown : s.vm.findClass y.cls = some m.cls := findClass_of_methodNamed B.named
  have hl := lv_entry As (n := maxL) hlen
  rw [lg_entry_eq]
  subst ho
  subst hlv
  exact body p e s m below meth c _ (va_A Ws s.heap.size) ⟨B.exec, B.bytes, hml, hown, fun w h => hts w (List.mem_cons_of_mem _ h)⟩ B.returns B.notSynchronized hK hN hP (hD0.self (sz := s.heap.size)) va_S.rf (fun q h => Or.inr h) hl
end KI
section KR
variable {p : Program} {l : Launch} {e : Env} {R : Room} {s : State} {m : MethodId} {args : Array Value} {below : List Frame} {meth : Method} {c : Code} {H : Heap} {locs : List Loc} {D : va_G} {cc : ByteArray} {pc : Nat} {ls : Array Slot} {A : Nat → Prop} {Ws : va_W}
theorem k_reti {r v : Int32} (hx : p.tables.exec = Jvm.exec) (hb : c.code = cc) (hr : meth.sig.returnType = some .int) (hlocks : meth.locks = false) (hv : v = r) (hdg : decode cc pc = .ok (.ireturn, 1)) : W p l e R s m args below meth c s.heap [] 0 0 (MQ below (vp_Si (fun x => x = r)) args s 0 0 (fun _ => False)) (F0 m pc ls [.int v]) :=
  W.iret (v := v) hx hb hr (fun t ht hW => ⟨v, rfl, hv, ht⟩) (fun q h => by cases h) hdg hlocks
theorem k_retz {r v : Int32} (hx : p.tables.exec = Jvm.exec) (hb : c.code = cc) (hr : meth.sig.returnType = some .boolean) (hlocks : meth.locks = false) (hn : narrow .boolean (.int v) = .int v) (hv : v = r) (hdg : decode cc pc = .ok (.ireturn, 1)) : W p l e R s m args below meth c s.heap [] 0 0 (MQ below (vp_Si (fun x => x = r)) args s 0 0 (fun _ => False)) (F0 m pc ls [.int v]) :=
  W.zret (v := v) hx hb hr hn (fun t ht hW => ⟨v, rfl, hv, ht⟩) (fun q h => by cases h) hdg hlocks
theorem k_retl {r v : Int64} (hx : p.tables.exec = Jvm.exec) (hb : c.code = cc) (hr : meth.sig.returnType = some .long) (hlocks : meth.locks = false) (hv : v = r) (hdg : decode cc pc = .ok (.lreturn, 1)) : W p l e R s m args below meth c s.heap [] 0 0 (MQ below (vp_Sl (fun x => x = r)) args s 0 0 (fun _ => False)) (F0 m pc ls [.long v]) :=
  W.lret (v := v) hx hb hr (fun t ht hW => ⟨v, rfl, hv, ht⟩) (fun q h => by cases h) hdg hlocks
theorem k_retr {r v : Nat} {nm : String} (hx : p.tables.exec = Jvm.exec) (hb : c.code = cc) (hr : meth.sig.returnType = some (.object nm)) (hlocks : meth.locks = false) (hv : v = r) (hdg : decode cc pc = .ok (.areturn, 1)) : W p l e R s m args below meth c s.heap [] 0 0 (MQ below (va_Sr (fun x => x = r) Value.ref) args s 0 0 (fun _ => False)) (F0 m pc ls [.ref v]) :=
  W.aret (v := .ref v) hx hb hr (Or.inl ⟨_, rfl⟩) (Or.inr ⟨_, rfl⟩) (fun t ht hW => ⟨v, rfl, hv, ht⟩) (fun q h => by cases h) hdg hlocks
theorem k_wreti {r v : Int32} (hx : p.tables.exec = Jvm.exec) (hb : c.code = cc) (hr : meth.sig.returnType = some .int) (hlocks : meth.locks = false) (hv : v = r) (hP : va_P D vwCl Ws H) (hD : va_D A Ws) (hS : va_S A s.heap H locs) (hdg : decode cc pc = .ok (.ireturn, 1)) : W p l e R s m args below meth c H locs 0 0 (MQ below (va_Qi (fun x (_ : Unit) => x = r) (gz D A Ws) A) args s 0 0 A) (F0 m pc ls [.int v]) :=
  W.iret (v := v) hx hb hr (fun t ht hW => ⟨⟨v, (), rfl, hv, by rw [ht]; exact hP, hD⟩, hS.F ht⟩) hS.2.2 hdg hlocks
theorem k_wretv (hx : p.tables.exec = Jvm.exec) (hb : c.code = cc) (hr : meth.sig.returnType = none) (hlocks : meth.locks = false) (hP : va_P D vwCl Ws H) (hD : va_D A Ws) (hS : va_S A s.heap H locs) (hdg : decode cc pc = .ok (.return_, 1)) : W p l e R s m args below meth c H locs 0 0 (MQ below (va_Qv (fun (_ : Unit) => True) (gz D A Ws) A) args s 0 0 A) (F0 m pc ls []) :=
  W.vret hx hb hr (fun t ht hW => ⟨⟨(), rfl, trivial, by rw [ht]; exact hP, hD⟩, hS.F ht⟩) hS.2.2 hdg hlocks
end KR
/-! binding of answers, one to twelve parts -/
def bi1 {α β : Type} (o : Option α) (k : α → Option β) : Option β := o.bind k
theorem bd1 {α β : Type} {o : Option α} {k : α → Option β} {x : β} (h : bi1 o k = some x) : ∃ a, o = some a ∧ k a = some x := Option.bind_eq_some_iff.mp h
def bi2 {α0 α1 β : Type} (o : Option (α0 × α1)) (k : α0 → α1 → Option β) : Option β := o.bind (fun z => k (z.1) (z.2))
theorem bd2 {α0 α1 β : Type} {o : Option (α0 × α1)} {k : α0 → α1 → Option β} {x : β} (h : bi2 o k = some x) : ∃ a0 a1, o = some (a0, a1) ∧ k a0 a1 = some x := by
  obtain ⟨⟨a0, a1⟩, h1, h2⟩ := Option.bind_eq_some_iff.mp h
  exact ⟨a0, a1, h1, h2⟩
def bi3 {α0 α1 α2 β : Type} (o : Option (α0 × α1 × α2)) (k : α0 → α1 → α2 → Option β) : Option β := o.bind (fun z => k (z.1) (z.2.1) (z.2.2))
theorem bd3 {α0 α1 α2 β : Type} {o : Option (α0 × α1 × α2)} {k : α0 → α1 → α2 → Option β} {x : β} (h : bi3 o k = some x) : ∃ a0 a1 a2, o = some (a0, a1, a2) ∧ k a0 a1 a2 = some x := by
  obtain ⟨⟨a0, a1, a2⟩, h1, h2⟩ := Option.bind_eq_some_iff.mp h
  exact ⟨a0, a1, a2, h1, h2⟩
def bi4 {α0 α1 α2 α3 β : Type} (o : Option (α0 × α1 × α2 × α3)) (k : α0 → α1 → α2 → α3 → Option β) : Option β := o.bind (fun z => k (z.1) (z.2.1) (z.2.2.1) (z.2.2.2))
theorem bd4 {α0 α1 α2 α3 β : Type} {o : Option (α0 × α1 × α2 × α3)} {k : α0 → α1 → α2 → α3 → Option β} {x : β} (h : bi4 o k = some x) : ∃ a0 a1 a2 a3, o = some (a0, a1, a2, a3) ∧ k a0 a1 a2 a3 = some x := by
  obtain ⟨⟨a0, a1, a2, a3⟩, h1, h2⟩ := Option.bind_eq_some_iff.mp h
  exact ⟨a0, a1, a2, a3, h1, h2⟩
def bi5 {α0 α1 α2 α3 α4 β : Type} (o : Option (α0 × α1 × α2 × α3 × α4)) (k : α0 → α1 → α2 → α3 → α4 → Option β) : Option β := o.bind (fun z => k (z.1) (z.2.1) (z.2.2.1) (z.2.2.2.1) (z.2.2.2.2))
theorem bd5 {α0 α1 α2 α3 α4 β : Type} {o : Option (α0 × α1 × α2 × α3 × α4)} {k : α0 → α1 → α2 → α3 → α4 → Option β} {x : β} (h : bi5 o k = some x) : ∃ a0 a1 a2 a3 a4, o = some (a0, a1, a2, a3, a4) ∧ k a0 a1 a2 a3 a4 = some x := by
  obtain ⟨⟨a0, a1, a2, a3, a4⟩, h1, h2⟩ := Option.bind_eq_some_iff.mp h
  exact ⟨a0, a1, a2, a3, a4, h1, h2⟩
def bi6 {α0 α1 α2 α3 α4 α5 β : Type} (o : Option (α0 × α1 × α2 × α3 × α4 × α5)) (k : α0 → α1 → α2 → α3 → α4 → α5 → Option β) : Option β := o.bind (fun z => k (z.1) (z.2.1) (z.2.2.1) (z.2.2.2.1) (z.2.2.2.2.1) (z.2.2.2.2.2))
theorem bd6 {α0 α1 α2 α3 α4 α5 β : Type} {o : Option (α0 × α1 × α2 × α3 × α4 × α5)} {k : α0 → α1 → α2 → α3 → α4 → α5 → Option β} {x : β} (h : bi6 o k = some x) : ∃ a0 a1 a2 a3 a4 a5, o = some (a0, a1, a2, a3, a4, a5) ∧ k a0 a1 a2 a3 a4 a5 = some x := by
  obtain ⟨⟨a0, a1, a2, a3, a4, a5⟩, h1, h2⟩ := Option.bind_eq_some_iff.mp h
  exact ⟨a0, a1, a2, a3, a4, a5, h1, h2⟩
def bi7 {α0 α1 α2 α3 α4 α5 α6 β : Type} (o : Option (α0 × α1 × α2 × α3 × α4 × α5 × α6)) (k : α0 → α1 → α2 → α3 → α4 → α5 → α6 → Option β) : Option β := o.bind (fun z => k (z.1) (z.2.1) (z.2.2.1) (z.2.2.2.1) (z.2.2.2.2.1) (z.2.2.2.2.2.1) (z.2.2.2.2.2.2))
theorem bd7 {α0 α1 α2 α3 α4 α5 α6 β : Type} {o : Option (α0 × α1 × α2 × α3 × α4 × α5 × α6)} {k : α0 → α1 → α2 → α3 → α4 → α5 → α6 → Option β} {x : β} (h : bi7 o k = some x) : ∃ a0 a1 a2 a3 a4 a5 a6, o = some (a0, a1, a2, a3, a4, a5, a6) ∧ k a0 a1 a2 a3 a4 a5 a6 = some x := by
  obtain ⟨⟨a0, a1, a2, a3, a4, a5, a6⟩, h1, h2⟩ := Option.bind_eq_some_iff.mp h
  exact ⟨a0, a1, a2, a3, a4, a5, a6, h1, h2⟩
def bi8 {α0 α1 α2 α3 α4 α5 α6 α7 β : Type} (o : Option (α0 × α1 × α2 × α3 × α4 × α5 × α6 × α7)) (k : α0 → α1 → α2 → α3 → α4 → α5 → α6 → α7 → Option β) : Option β := o.bind (fun z => k (z.1) (z.2.1) (z.2.2.1) (z.2.2.2.1) (z.2.2.2.2.1) (z.2.2.2.2.2.1) (z.2.2.2.2.2.2.1) (z.2.2.2.2.2.2.2))
theorem bd8 {α0 α1 α2 α3 α4 α5 α6 α7 β : Type} {o : Option (α0 × α1 × α2 × α3 × α4 × α5 × α6 × α7)} {k : α0 → α1 → α2 → α3 → α4 → α5 → α6 → α7 → Option β} {x : β} (h : bi8 o k = some x) : ∃ a0 a1 a2 a3 a4 a5 a6 a7, o = some (a0, a1, a2, a3, a4, a5, a6, a7) ∧ k a0 a1 a2 a3 a4 a5 a6 a7 = some x := by
  obtain ⟨⟨a0, a1, a2, a3, a4, a5, a6, a7⟩, h1, h2⟩ := Option.bind_eq_some_iff.mp h
  exact ⟨a0, a1, a2, a3, a4, a5, a6, a7, h1, h2⟩
def bi9 {α0 α1 α2 α3 α4 α5 α6 α7 α8 β : Type} (o : Option (α0 × α1 × α2 × α3 × α4 × α5 × α6 × α7 × α8)) (k : α0 → α1 → α2 → α3 → α4 → α5 → α6 → α7 → α8 → Option β) : Option β := o.bind (fun z => k (z.1) (z.2.1) (z.2.2.1) (z.2.2.2.1) (z.2.2.2.2.1) (z.2.2.2.2.2.1) (z.2.2.2.2.2.2.1) (z.2.2.2.2.2.2.2.1) (z.2.2.2.2.2.2.2.2))
theorem bd9 {α0 α1 α2 α3 α4 α5 α6 α7 α8 β : Type} {o : Option (α0 × α1 × α2 × α3 × α4 × α5 × α6 × α7 × α8)} {k : α0 → α1 → α2 → α3 → α4 → α5 → α6 → α7 → α8 → Option β} {x : β} (h : bi9 o k = some x) : ∃ a0 a1 a2 a3 a4 a5 a6 a7 a8, o = some (a0, a1, a2, a3, a4, a5, a6, a7, a8) ∧ k a0 a1 a2 a3 a4 a5 a6 a7 a8 = some x := by
  obtain ⟨⟨a0, a1, a2, a3, a4, a5, a6, a7, a8⟩, h1, h2⟩ := Option.bind_eq_some_iff.mp h
  exact ⟨a0, a1, a2, a3, a4, a5, a6, a7, a8, h1, h2⟩
def bi10 {α0 α1 α2 α3 α4 α5 α6 α7 α8 α9 β : Type} (o : Option (α0 × α1 × α2 × α3 × α4 × α5 × α6 × α7 × α8 × α9)) (k : α0 → α1 → α2 → α3 → α4 → α5 → α6 → α7 → α8 → α9 → Option β) : Option β := o.bind (fun z => k (z.1) (z.2.1) (z.2.2.1) (z.2.2.2.1) (z.2.2.2.2.1) (z.2.2.2.2.2.1) (z.2.2.2.2.2.2.1) (z.2.2.2.2.2.2.2.1) (z.2.2.2.2.2.2.2.2.1) (z.2.2.2.2.2.2.2.2.2))
theorem bd10 {α0 α1 α2 α3 α4 α5 α6 α7 α8 α9 β : Type} {o : Option (α0 × α1 × α2 × α3 × α4 × α5 × α6 × α7 × α8 × α9)} {k : α0 → α1 → α2 → α3 → α4 → α5 → α6 → α7 → α8 → α9 → Option β} {x : β} (h : bi10 o k = some x) : ∃ a0 a1 a2 a3 a4 a5 a6 a7 a8 a9, o = some (a0, a1, a2, a3, a4, a5, a6, a7, a8, a9) ∧ k a0 a1 a2 a3 a4 a5 a6 a7 a8 a9 = some x := by
  obtain ⟨⟨a0, a1, a2, a3, a4, a5, a6, a7, a8, a9⟩, h1, h2⟩ := Option.bind_eq_some_iff.mp h
  exact ⟨a0, a1, a2, a3, a4, a5, a6, a7, a8, a9, h1, h2⟩
def bi11 {α0 α1 α2 α3 α4 α5 α6 α7 α8 α9 α10 β : Type} (o : Option (α0 × α1 × α2 × α3 × α4 × α5 × α6 × α7 × α8 × α9 × α10)) (k : α0 → α1 → α2 → α3 → α4 → α5 → α6 → α7 → α8 → α9 → α10 → Option β) : Option β := o.bind (fun z => k (z.1) (z.2.1) (z.2.2.1) (z.2.2.2.1) (z.2.2.2.2.1) (z.2.2.2.2.2.1) (z.2.2.2.2.2.2.1) (z.2.2.2.2.2.2.2.1) (z.2.2.2.2.2.2.2.2.1) (z.2.2.2.2.2.2.2.2.2.1) (z.2.2.2.2.2.2.2.2.2.2))
theorem bd11 {α0 α1 α2 α3 α4 α5 α6 α7 α8 α9 α10 β : Type} {o : Option (α0 × α1 × α2 × α3 × α4 × α5 × α6 × α7 × α8 × α9 × α10)} {k : α0 → α1 → α2 → α3 → α4 → α5 → α6 → α7 → α8 → α9 → α10 → Option β} {x : β} (h : bi11 o k = some x) : ∃ a0 a1 a2 a3 a4 a5 a6 a7 a8 a9 a10, o = some (a0, a1, a2, a3, a4, a5, a6, a7, a8, a9, a10) ∧ k a0 a1 a2 a3 a4 a5 a6 a7 a8 a9 a10 = some x := by
  obtain ⟨⟨a0, a1, a2, a3, a4, a5, a6, a7, a8, a9, a10⟩, h1, h2⟩ := Option.bind_eq_some_iff.mp h
  exact ⟨a0, a1, a2, a3, a4, a5, a6, a7, a8, a9, a10, h1, h2⟩
def bi12 {α0 α1 α2 α3 α4 α5 α6 α7 α8 α9 α10 α11 β : Type} (o : Option (α0 × α1 × α2 × α3 × α4 × α5 × α6 × α7 × α8 × α9 × α10 × α11)) (k : α0 → α1 → α2 → α3 → α4 → α5 → α6 → α7 → α8 → α9 → α10 → α11 → Option β) : Option β := o.bind (fun z => k (z.1) (z.2.1) (z.2.2.1) (z.2.2.2.1) (z.2.2.2.2.1) (z.2.2.2.2.2.1) (z.2.2.2.2.2.2.1) (z.2.2.2.2.2.2.2.1) (z.2.2.2.2.2.2.2.2.1) (z.2.2.2.2.2.2.2.2.2.1) (z.2.2.2.2.2.2.2.2.2.2.1) (z.2.2.2.2.2.2.2.2.2.2.2))
theorem bd12 {α0 α1 α2 α3 α4 α5 α6 α7 α8 α9 α10 α11 β : Type} {o : Option (α0 × α1 × α2 × α3 × α4 × α5 × α6 × α7 × α8 × α9 × α10 × α11)} {k : α0 → α1 → α2 → α3 → α4 → α5 → α6 → α7 → α8 → α9 → α10 → α11 → Option β} {x : β} (h : bi12 o k = some x) : ∃ a0 a1 a2 a3 a4 a5 a6 a7 a8 a9 a10 a11, o = some (a0, a1, a2, a3, a4, a5, a6, a7, a8, a9, a10, a11) ∧ k a0 a1 a2 a3 a4 a5 a6 a7 a8 a9 a10 a11 = some x := by
  obtain ⟨⟨a0, a1, a2, a3, a4, a5, a6, a7, a8, a9, a10, a11⟩, h1, h2⟩ := Option.bind_eq_some_iff.mp h
  exact ⟨a0, a1, a2, a3, a4, a5, a6, a7, a8, a9, a10, a11, h1, h2⟩
def bi13 {α0 α1 α2 α3 α4 α5 α6 α7 α8 α9 α10 α11 α12 β : Type} (o : Option (α0 × α1 × α2 × α3 × α4 × α5 × α6 × α7 × α8 × α9 × α10 × α11 × α12)) (k : α0 → α1 → α2 → α3 → α4 → α5 → α6 → α7 → α8 → α9 → α10 → α11 → α12 → Option β) : Option β := o.bind (fun z => k (z.1) (z.2.1) (z.2.2.1) (z.2.2.2.1) (z.2.2.2.2.1) (z.2.2.2.2.2.1) (z.2.2.2.2.2.2.1) (z.2.2.2.2.2.2.2.1) (z.2.2.2.2.2.2.2.2.1) (z.2.2.2.2.2.2.2.2.2.1) (z.2.2.2.2.2.2.2.2.2.2.1) (z.2.2.2.2.2.2.2.2.2.2.2.1) (z.2.2.2.2.2.2.2.2.2.2.2.2))
theorem bd13 {α0 α1 α2 α3 α4 α5 α6 α7 α8 α9 α10 α11 α12 β : Type} {o : Option (α0 × α1 × α2 × α3 × α4 × α5 × α6 × α7 × α8 × α9 × α10 × α11 × α12)} {k : α0 → α1 → α2 → α3 → α4 → α5 → α6 → α7 → α8 → α9 → α10 → α11 → α12 → Option β} {x : β} (h : bi13 o k = some x) : ∃ a0 a1 a2 a3 a4 a5 a6 a7 a8 a9 a10 a11 a12, o = some (a0, a1, a2, a3, a4, a5, a6, a7, a8, a9, a10, a11, a12) ∧ k a0 a1 a2 a3 a4 a5 a6 a7 a8 a9 a10 a11 a12 = some x := by
  obtain ⟨⟨a0, a1, a2, a3, a4, a5, a6, a7, a8, a9, a10, a11, a12⟩, h1, h2⟩ := Option.bind_eq_some_iff.mp h
  exact ⟨a0, a1, a2, a3, a4, a5, a6, a7, a8, a9, a10, a11, a12, h1, h2⟩
def bi14 {α0 α1 α2 α3 α4 α5 α6 α7 α8 α9 α10 α11 α12 α13 β : Type} (o : Option (α0 × α1 × α2 × α3 × α4 × α5 × α6 × α7 × α8 × α9 × α10 × α11 × α12 × α13)) (k : α0 → α1 → α2 → α3 → α4 → α5 → α6 → α7 → α8 → α9 → α10 → α11 → α12 → α13 → Option β) : Option β := o.bind (fun z => k (z.1) (z.2.1) (z.2.2.1) (z.2.2.2.1) (z.2.2.2.2.1) (z.2.2.2.2.2.1) (z.2.2.2.2.2.2.1) (z.2.2.2.2.2.2.2.1) (z.2.2.2.2.2.2.2.2.1) (z.2.2.2.2.2.2.2.2.2.1) (z.2.2.2.2.2.2.2.2.2.2.1) (z.2.2.2.2.2.2.2.2.2.2.2.1) (z.2.2.2.2.2.2.2.2.2.2.2.2.1) (z.2.2.2.2.2.2.2.2.2.2.2.2.2))
theorem bd14 {α0 α1 α2 α3 α4 α5 α6 α7 α8 α9 α10 α11 α12 α13 β : Type} {o : Option (α0 × α1 × α2 × α3 × α4 × α5 × α6 × α7 × α8 × α9 × α10 × α11 × α12 × α13)} {k : α0 → α1 → α2 → α3 → α4 → α5 → α6 → α7 → α8 → α9 → α10 → α11 → α12 → α13 → Option β} {x : β} (h : bi14 o k = some x) : ∃ a0 a1 a2 a3 a4 a5 a6 a7 a8 a9 a10 a11 a12 a13, o = some (a0, a1, a2, a3, a4, a5, a6, a7, a8, a9, a10, a11, a12, a13) ∧ k a0 a1 a2 a3 a4 a5 a6 a7 a8 a9 a10 a11 a12 a13 = some x := by
  obtain ⟨⟨a0, a1, a2, a3, a4, a5, a6, a7, a8, a9, a10, a11, a12, a13⟩, h1, h2⟩ := Option.bind_eq_some_iff.mp h
  exact ⟨a0, a1, a2, a3, a4, a5, a6, a7, a8, a9, a10, a11, a12, a13, h1, h2⟩
end
section
theorem zz_last : True := trivial
end
