section
-- ===== PART A: goes FIRST, ahead of the names: the tables' words, and 'selects' of the private methods out of them =====
/-- a private method of a class that the tables say can be made, by its rows of tables_1 -/
def lw_okq (q : MethodName × Nat) : Prop := (q.1.cls ≠ "java/lang/invoke/MethodHandle" ∧ q.1.cls ≠ "java/lang/invoke/VarHandle") ∧ Cond.instantiable q.1.cls q.2 ∈ tables_1 ∧ Cond.privateMethod q.1 ∈ tables_1 ∧ Cond.instanceMethod q.1 ∈ tables_1
theorem lw_p0 : lw_okq (⟨"CellCurrents", "cellAt", "(II)LCellCurrents$Cell;"⟩, 17) := ⟨⟨by decide +kernel, by decide +kernel⟩, List.mem_of_getElem? (i := 12) (by decide +kernel), List.mem_of_getElem? (i := 330) (by decide +kernel), List.mem_of_getElem? (i := 331) (by decide +kernel)⟩
theorem lw_p1 : lw_okq (⟨"CellCurrents", "sideAt", "(I)LCellCurrents$Side;"⟩, 17) := ⟨⟨by decide +kernel, by decide +kernel⟩, List.mem_of_getElem? (i := 12) (by decide +kernel), List.mem_of_getElem? (i := 357) (by decide +kernel), List.mem_of_getElem? (i := 358) (by decide +kernel)⟩
theorem lw_p2 : lw_okq (⟨"CellCurrents", "waterAt", "(II)LCellCurrents$Cell;"⟩, 17) := ⟨⟨by decide +kernel, by decide +kernel⟩, List.mem_of_getElem? (i := 12) (by decide +kernel), List.mem_of_getElem? (i := 376) (by decide +kernel), List.mem_of_getElem? (i := 377) (by decide +kernel)⟩
theorem lw_p3 : lw_okq (⟨"CellCurrents", "step", "(D)V"⟩, 17) := ⟨⟨by decide +kernel, by decide +kernel⟩, List.mem_of_getElem? (i := 12) (by decide +kernel), List.mem_of_getElem? (i := 385) (by decide +kernel), List.mem_of_getElem? (i := 386) (by decide +kernel)⟩
theorem lw_p4 : lw_okq (⟨"CellCurrents$Face", "surfaceOf", "(LCellCurrents$Cell;)D"⟩, 6) := ⟨⟨by decide +kernel, by decide +kernel⟩, List.mem_of_getElem? (i := 141) (by decide +kernel), List.mem_of_getElem? (i := 424) (by decide +kernel), List.mem_of_getElem? (i := 425) (by decide +kernel)⟩
theorem lw_p5 : lw_okq (⟨"CellCurrents$Face", "lesserParts", "()J"⟩, 6) := ⟨⟨by decide +kernel, by decide +kernel⟩, List.mem_of_getElem? (i := 141) (by decide +kernel), List.mem_of_getElem? (i := 434) (by decide +kernel), List.mem_of_getElem? (i := 435) (by decide +kernel)⟩
theorem lw_p6 : lw_okq (⟨"CellCurrents$Face", "limited", "(J)J"⟩, 6) := ⟨⟨by decide +kernel, by decide +kernel⟩, List.mem_of_getElem? (i := 141) (by decide +kernel), List.mem_of_getElem? (i := 443) (by decide +kernel), List.mem_of_getElem? (i := 444) (by decide +kernel)⟩
theorem lw_p7 : lw_okq (⟨"CellCurrents", "isLayer", "(I)Z"⟩, 17) := ⟨⟨by decide +kernel, by decide +kernel⟩, List.mem_of_getElem? (i := 12) (by decide +kernel), List.mem_of_getElem? (i := 504) (by decide +kernel), List.mem_of_getElem? (i := 505) (by decide +kernel)⟩
theorem lw_p8 : lw_okq (⟨"CellCurrents", "allParts", "()J"⟩, 17) := ⟨⟨by decide +kernel, by decide +kernel⟩, List.mem_of_getElem? (i := 12) (by decide +kernel), List.mem_of_getElem? (i := 514) (by decide +kernel), List.mem_of_getElem? (i := 515) (by decide +kernel)⟩
theorem lw_p9 : lw_okq (⟨"CellCurrents$TideTable", "addUp", "(I)V"⟩, 9) := ⟨⟨by decide +kernel, by decide +kernel⟩, List.mem_of_getElem? (i := 237) (by decide +kernel), List.mem_of_getElem? (i := 571) (by decide +kernel), List.mem_of_getElem? (i := 572) (by decide +kernel)⟩
theorem lw_p10 : lw_okq (⟨"CellCurrents$TideTable", "fillSaws", "(DI)V"⟩, 9) := ⟨⟨by decide +kernel, by decide +kernel⟩, List.mem_of_getElem? (i := 237) (by decide +kernel), List.mem_of_getElem? (i := 575) (by decide +kernel), List.mem_of_getElem? (i := 576) (by decide +kernel)⟩
theorem lw_p11 : lw_okq (⟨"CellCurrents$TideTable", "clearBelow", "(I)I"⟩, 9) := ⟨⟨by decide +kernel, by decide +kernel⟩, List.mem_of_getElem? (i := 237) (by decide +kernel), List.mem_of_getElem? (i := 582) (by decide +kernel), List.mem_of_getElem? (i := 583) (by decide +kernel)⟩
theorem lw_p12 : lw_okq (⟨"CellCurrents$TideTable", "subtractRow", "(IIDI)V"⟩, 9) := ⟨⟨by decide +kernel, by decide +kernel⟩, List.mem_of_getElem? (i := 237) (by decide +kernel), List.mem_of_getElem? (i := 588) (by decide +kernel), List.mem_of_getElem? (i := 589) (by decide +kernel)⟩
theorem lw_p13 : lw_okq (⟨"CellCurrents$TideTable", "solveUpwards", "(I)V"⟩, 9) := ⟨⟨by decide +kernel, by decide +kernel⟩, List.mem_of_getElem? (i := 237) (by decide +kernel), List.mem_of_getElem? (i := 592) (by decide +kernel), List.mem_of_getElem? (i := 593) (by decide +kernel)⟩
theorem lw_p14 : lw_okq (⟨"CellCurrents$State", "cellsIn", "([LCellCurrents$Cell;)I"⟩, 10) := ⟨⟨by decide +kernel, by decide +kernel⟩, List.mem_of_getElem? (i := 199) (by decide +kernel), List.mem_of_getElem? (i := 620) (by decide +kernel), List.mem_of_getElem? (i := 621) (by decide +kernel)⟩
theorem lw_p15 : lw_okq (⟨"CellCurrentsModel", "isCell", "(II)Z"⟩, 50) := ⟨⟨by decide +kernel, by decide +kernel⟩, List.mem_of_getElem? (i := 674) (by decide +kernel), List.mem_of_getElem? (i := 836) (by decide +kernel), List.mem_of_getElem? (i := 837) (by decide +kernel)⟩
def lw_privs_1 : List (MethodName × Nat) := [(⟨"CellCurrents", "cellAt", "(II)LCellCurrents$Cell;"⟩, 17), (⟨"CellCurrents", "sideAt", "(I)LCellCurrents$Side;"⟩, 17), (⟨"CellCurrents", "waterAt", "(II)LCellCurrents$Cell;"⟩, 17), (⟨"CellCurrents", "step", "(D)V"⟩, 17), (⟨"CellCurrents$Face", "surfaceOf", "(LCellCurrents$Cell;)D"⟩, 6), (⟨"CellCurrents$Face", "lesserParts", "()J"⟩, 6), (⟨"CellCurrents$Face", "limited", "(J)J"⟩, 6), (⟨"CellCurrents", "isLayer", "(I)Z"⟩, 17), (⟨"CellCurrents", "allParts", "()J"⟩, 17), (⟨"CellCurrents$TideTable", "addUp", "(I)V"⟩, 9), (⟨"CellCurrents$TideTable", "fillSaws", "(DI)V"⟩, 9), (⟨"CellCurrents$TideTable", "clearBelow", "(I)I"⟩, 9), (⟨"CellCurrents$TideTable", "subtractRow", "(IIDI)V"⟩, 9), (⟨"CellCurrents$TideTable", "solveUpwards", "(I)V"⟩, 9), (⟨"CellCurrents$State", "cellsIn", "([LCellCurrents$Cell;)I"⟩, 10), (⟨"CellCurrentsModel", "isCell", "(II)Z"⟩, 50)]
theorem lw_r1 : ∀ q ∈ lw_privs_1, lw_okq q := List.forall_mem_cons.mpr ⟨lw_p0, List.forall_mem_cons.mpr ⟨lw_p1, List.forall_mem_cons.mpr ⟨lw_p2, List.forall_mem_cons.mpr ⟨lw_p3, List.forall_mem_cons.mpr ⟨lw_p4, List.forall_mem_cons.mpr ⟨lw_p5, List.forall_mem_cons.mpr ⟨lw_p6, List.forall_mem_cons.mpr ⟨lw_p7, List.forall_mem_cons.mpr ⟨lw_p8, List.forall_mem_cons.mpr ⟨lw_p9, List.forall_mem_cons.mpr ⟨lw_p10, List.forall_mem_cons.mpr ⟨lw_p11, List.forall_mem_cons.mpr ⟨lw_p12, List.forall_mem_cons.mpr ⟨lw_p13, List.forall_mem_cons.mpr ⟨lw_p14, List.forall_mem_cons.mpr ⟨lw_p15, fun _ h => absurd h List.not_mem_nil⟩⟩⟩⟩⟩⟩⟩⟩⟩⟩⟩⟩⟩⟩⟩⟩
theorem lw_p16 : lw_okq (⟨"CellCurrentsModel", "isAtSide", "(III)Z"⟩, 50) := ⟨⟨by decide +kernel, by decide +kernel⟩, List.mem_of_getElem? (i := 674) (by decide +kernel), List.mem_of_getElem? (i := 849) (by decide +kernel), List.mem_of_getElem? (i := 850) (by decide +kernel)⟩
theorem lw_p17 : lw_okq (⟨"CellCurrentsModel", "isWater", "(II)Z"⟩, 50) := ⟨⟨by decide +kernel, by decide +kernel⟩, List.mem_of_getElem? (i := 674) (by decide +kernel), List.mem_of_getElem? (i := 871) (by decide +kernel), List.mem_of_getElem? (i := 872) (by decide +kernel)⟩
theorem lw_p18 : lw_okq (⟨"CellCurrentsModel", "step", "(D)V"⟩, 50) := ⟨⟨by decide +kernel, by decide +kernel⟩, List.mem_of_getElem? (i := 674) (by decide +kernel), List.mem_of_getElem? (i := 880) (by decide +kernel), List.mem_of_getElem? (i := 881) (by decide +kernel)⟩
theorem lw_p19 : lw_okq (⟨"CellCurrentsModel", "hasFace", "(III)Z"⟩, 50) := ⟨⟨by decide +kernel, by decide +kernel⟩, List.mem_of_getElem? (i := 674) (by decide +kernel), List.mem_of_getElem? (i := 884) (by decide +kernel), List.mem_of_getElem? (i := 885) (by decide +kernel)⟩
theorem lw_p20 : lw_okq (⟨"CellCurrentsModel", "flow", "(IIIIDD)V"⟩, 50) := ⟨⟨by decide +kernel, by decide +kernel⟩, List.mem_of_getElem? (i := 674) (by decide +kernel), List.mem_of_getElem? (i := 888) (by decide +kernel), List.mem_of_getElem? (i := 889) (by decide +kernel)⟩
theorem lw_p21 : lw_okq (⟨"CellCurrentsModel", "levelOf", "(I)D"⟩, 50) := ⟨⟨by decide +kernel, by decide +kernel⟩, List.mem_of_getElem? (i := 674) (by decide +kernel), List.mem_of_getElem? (i := 892) (by decide +kernel), List.mem_of_getElem? (i := 893) (by decide +kernel)⟩
theorem lw_p22 : lw_okq (⟨"CellCurrentsModel", "hasSideFace", "(III)Z"⟩, 50) := ⟨⟨by decide +kernel, by decide +kernel⟩, List.mem_of_getElem? (i := 674) (by decide +kernel), List.mem_of_getElem? (i := 908) (by decide +kernel), List.mem_of_getElem? (i := 909) (by decide +kernel)⟩
theorem lw_p23 : lw_okq (⟨"CellCurrentsModel", "isOpen", "(I)Z"⟩, 50) := ⟨⟨by decide +kernel, by decide +kernel⟩, List.mem_of_getElem? (i := 674) (by decide +kernel), List.mem_of_getElem? (i := 912) (by decide +kernel), List.mem_of_getElem? (i := 913) (by decide +kernel)⟩
theorem lw_p24 : lw_okq (⟨"CellCurrentsModel", "outside", "(I)D"⟩, 50) := ⟨⟨by decide +kernel, by decide +kernel⟩, List.mem_of_getElem? (i := 674) (by decide +kernel), List.mem_of_getElem? (i := 916) (by decide +kernel), List.mem_of_getElem? (i := 917) (by decide +kernel)⟩
theorem lw_p25 : lw_okq (⟨"CellCurrentsModel", "change", "(IID)V"⟩, 50) := ⟨⟨by decide +kernel, by decide +kernel⟩, List.mem_of_getElem? (i := 674) (by decide +kernel), List.mem_of_getElem? (i := 926) (by decide +kernel), List.mem_of_getElem? (i := 927) (by decide +kernel)⟩
theorem lw_p26 : lw_okq (⟨"CellCurrentsModel", "pass", "(IIJI)V"⟩, 50) := ⟨⟨by decide +kernel, by decide +kernel⟩, List.mem_of_getElem? (i := 674) (by decide +kernel), List.mem_of_getElem? (i := 930) (by decide +kernel), List.mem_of_getElem? (i := 931) (by decide +kernel)⟩
theorem lw_p27 : lw_okq (⟨"CellCurrentsModel", "isLayer", "(I)Z"⟩, 50) := ⟨⟨by decide +kernel, by decide +kernel⟩, List.mem_of_getElem? (i := 674) (by decide +kernel), List.mem_of_getElem? (i := 955) (by decide +kernel), List.mem_of_getElem? (i := 956) (by decide +kernel)⟩
theorem lw_p28 : lw_okq (⟨"CellCurrentsModel", "total", "()J"⟩, 50) := ⟨⟨by decide +kernel, by decide +kernel⟩, List.mem_of_getElem? (i := 674) (by decide +kernel), List.mem_of_getElem? (i := 964) (by decide +kernel), List.mem_of_getElem? (i := 965) (by decide +kernel)⟩
def lw_privs_2 : List (MethodName × Nat) := [(⟨"CellCurrentsModel", "isAtSide", "(III)Z"⟩, 50), (⟨"CellCurrentsModel", "isWater", "(II)Z"⟩, 50), (⟨"CellCurrentsModel", "step", "(D)V"⟩, 50), (⟨"CellCurrentsModel", "hasFace", "(III)Z"⟩, 50), (⟨"CellCurrentsModel", "flow", "(IIIIDD)V"⟩, 50), (⟨"CellCurrentsModel", "levelOf", "(I)D"⟩, 50), (⟨"CellCurrentsModel", "hasSideFace", "(III)Z"⟩, 50), (⟨"CellCurrentsModel", "isOpen", "(I)Z"⟩, 50), (⟨"CellCurrentsModel", "outside", "(I)D"⟩, 50), (⟨"CellCurrentsModel", "change", "(IID)V"⟩, 50), (⟨"CellCurrentsModel", "pass", "(IIJI)V"⟩, 50), (⟨"CellCurrentsModel", "isLayer", "(I)Z"⟩, 50), (⟨"CellCurrentsModel", "total", "()J"⟩, 50)]
theorem lw_r2 : ∀ q ∈ lw_privs_2, lw_okq q := List.forall_mem_cons.mpr ⟨lw_p16, List.forall_mem_cons.mpr ⟨lw_p17, List.forall_mem_cons.mpr ⟨lw_p18, List.forall_mem_cons.mpr ⟨lw_p19, List.forall_mem_cons.mpr ⟨lw_p20, List.forall_mem_cons.mpr ⟨lw_p21, List.forall_mem_cons.mpr ⟨lw_p22, List.forall_mem_cons.mpr ⟨lw_p23, List.forall_mem_cons.mpr ⟨lw_p24, List.forall_mem_cons.mpr ⟨lw_p25, List.forall_mem_cons.mpr ⟨lw_p26, List.forall_mem_cons.mpr ⟨lw_p27, List.forall_mem_cons.mpr ⟨lw_p28, fun _ h => absurd h List.not_mem_nil⟩⟩⟩⟩⟩⟩⟩⟩⟩⟩⟩⟩⟩
def lw_privs : List (MethodName × Nat) := lw_privs_1 ++ (lw_privs_2)
def lw_tbl : List Cond := k2_sels lw_privs ++ tables_1
theorem lw_privs_ok : ∀ q ∈ lw_privs, lw_okq q := by
  show ∀ q ∈ lw_privs_1 ++ (lw_privs_2), lw_okq q
  exact List.forall_mem_append.mpr ⟨lw_r1, lw_r2⟩
/-- the streams that the claim lets the run draw from -/
abbrev lw_cs : List Choice := [Jvm.Choice.named "NaN.bits"]
theorem lw_bits : nanBits ∈ lw_cs := by first | decide | exact List.mem_cons_self | simp [lw_cs, nanBits]
-- ===== end of PART A; then your names; then what follows =====
end
section
def RX0 : String := "CellCurrents$Cell"
def TX0 : u_T := fun k => match k with
  | 0 => ("CellCurrents$Cell", "water", "Z", false)
  | 1 => ("CellCurrents$Cell", "metres", "D", false)
  | 2 => ("CellCurrents$Cell", "parts", "J", false)
  | 3 => ("CellCurrents$Cell", "warmth", "D", false)
  | 4 => ("CellCurrents$Cell", "saltiness", "D", false)
  | 5 => ("CellCurrents$Cell", "silt", "D", false)
  | 6 => ("CellCurrents$Cell", "riverRate", "D", false)
  | 7 => ("CellCurrents$Cell", "beds", "LCellCurrents$Nest;", false)
  | 8 => ("CellCurrents$Cell", "gauged", "Z", false)
  | 9 => ("CellCurrents$Cell", "gaugeLevel", "D", false)
  | 10 => ("CellCurrents$Cell", "partsAtFirst", "J", false)
  | 11 => ("CellCurrents$Cell", "surfaceAtFirst", "D", false)
  | 12 => ("CellCurrents$Cell", "heat", "D", false)
  | 13 => ("CellCurrents$Cell", "brine", "D", false)
  | _ => ("CellCurrents$Cell", "fastest", "D", false)
def tyX0 : Nat → FieldType := fun k => match k with
  | 0 => .boolean
  | 1 => .double
  | 2 => .long
  | 3 => .double
  | 4 => .double
  | 5 => .double
  | 6 => .double
  | 7 => .object "CellCurrents$Nest"
  | 8 => .boolean
  | 9 => .double
  | 10 => .long
  | 11 => .double
  | 12 => .double
  | 13 => .double
  | _ => .double
abbrev wsX00 : List Cond := u_ws RX0 TX0 15
theorem nmX0 : ∀ a, a < 15 → ∀ b, b < 15 → a ≠ b → (TX0 a).2.1 ≠ (TX0 b).2.1 := by decide +kernel
theorem tyX0_ok : ∀ k, k < 15 → parseFieldDescriptor (TX0 k).2.2.1 = some (tyX0 k) := by decide +kernel
abbrev cX0_init : ByteArray := prog_2_method_1_code
def yX0_init : MethodName := ⟨RX0, "<init>", "()V"⟩
abbrev cX0_become : ByteArray := prog_2_method_2_code
def yX0_become : MethodName := ⟨RX0, "become", "(D)V"⟩
abbrev cX0_surface : ByteArray := prog_2_method_3_code
def yX0_surface : MethodName := ⟨RX0, "surface", "()D"⟩
abbrev cX0_isDry : ByteArray := prog_2_method_4_code
def yX0_isDry : MethodName := ⟨RX0, "isDry", "()Z"⟩
abbrev cX0_beginStep : ByteArray := prog_2_method_5_code
def yX0_beginStep : MethodName := ⟨RX0, "beginStep", "()V"⟩
abbrev cX0_feel : ByteArray := prog_2_method_6_code
def yX0_feel : MethodName := ⟨RX0, "feel", "(D)V"⟩
abbrev cX0_gain : ByteArray := prog_2_method_7_code
def yX0_gain : MethodName := ⟨RX0, "gain", "(JDD)V"⟩
abbrev cX0_lose : ByteArray := prog_2_method_8_code
def yX0_lose : MethodName := ⟨RX0, "lose", "(J)V"⟩
abbrev cX0_takeRiver : ByteArray := prog_2_method_9_code
def yX0_takeRiver : MethodName := ⟨RX0, "takeRiver", "(D)J"⟩
abbrev cX0_endStep : ByteArray := prog_2_method_10_code
def yX0_endStep : MethodName := ⟨RX0, "endStep", "(D)V"⟩
def RX1 : String := "CellCurrents$Face"
def TX1 : u_T := fun k => match k with
  | 0 => ("CellCurrents$Face", "before", "LCellCurrents$Cell;", true)
  | 1 => ("CellCurrents$Face", "behind", "LCellCurrents$Cell;", true)
  | 2 => ("CellCurrents$Face", "side", "LCellCurrents$Side;", true)
  | 3 => ("CellCurrents$Face", "axis", "I", true)
  | 4 => ("CellCurrents$Face", "speed", "D", false)
  | _ => ("CellCurrents$Face", "flow", "J", false)
def tyX1 : Nat → FieldType := fun k => match k with
  | 0 => .object "CellCurrents$Cell"
  | 1 => .object "CellCurrents$Cell"
  | 2 => .object "CellCurrents$Side"
  | 3 => .int
  | 4 => .double
  | _ => .long
abbrev wsX10 : List Cond := u_ws RX1 TX1 6
theorem nmX1 : ∀ a, a < 6 → ∀ b, b < 6 → a ≠ b → (TX1 a).2.1 ≠ (TX1 b).2.1 := by decide +kernel
theorem tyX1_ok : ∀ k, k < 6 → parseFieldDescriptor (TX1 k).2.2.1 = some (tyX1 k) := by decide +kernel
abbrev cX1_init : ByteArray := prog_3_method_1_code
def yX1_init : MethodName := ⟨RX1, "<init>", "([LCellCurrents$Cell;IILCellCurrents$Side;I)V"⟩
abbrev cX1_exists : ByteArray := prog_3_method_2_code
def yX1_exists : MethodName := ⟨RX1, "exists", "()Z"⟩
abbrev cX1_restAt : ByteArray := prog_3_method_3_code
def yX1_restAt : MethodName := ⟨RX1, "restAt", "(LCellCurrents$Cell;)V"⟩
abbrev cX1_settle : ByteArray := prog_3_method_4_code
def yX1_settle : MethodName := ⟨RX1, "settle", "(DD)V"⟩
abbrev cX1_carry : ByteArray := prog_3_method_5_code
def yX1_carry : MethodName := ⟨RX1, "carry", "()V"⟩
abbrev cX1_surfaceOf : ByteArray := prog_3_method_6_code
def yX1_surfaceOf : MethodName := ⟨RX1, "surfaceOf", "(LCellCurrents$Cell;)D"⟩
abbrev cX1_lesserParts : ByteArray := prog_3_method_7_code
def yX1_lesserParts : MethodName := ⟨RX1, "lesserParts", "()J"⟩
abbrev cX1_limited : ByteArray := prog_3_method_8_code
def yX1_limited : MethodName := ⟨RX1, "limited", "(J)J"⟩
abbrev cX1_isWater : ByteArray := prog_3_method_9_code
def yX1_isWater : MethodName := ⟨RX1, "isWater", "(LCellCurrents$Cell;)Z"⟩
def RX2 : String := "CellCurrents$Nest"
def TX2 : u_T := fun k => match k with
  | 0 => ("CellCurrents$Nest", "shares", "[J", true)
  | 1 => ("CellCurrents$Nest", "home", "LCellCurrents$Cell;", false)
  | _ => ("CellCurrents$Nest", "count", "I", false)
def tyX2 : Nat → FieldType := fun k => match k with
  | 0 => .array .long
  | 1 => .object "CellCurrents$Cell"
  | _ => .int
abbrev wsX20 : List Cond := u_ws RX2 TX2 3
theorem nmX2 : ∀ a, a < 3 → ∀ b, b < 3 → a ≠ b → (TX2 a).2.1 ≠ (TX2 b).2.1 := by decide +kernel
theorem tyX2_ok : ∀ k, k < 3 → parseFieldDescriptor (TX2 k).2.2.1 = some (tyX2 k) := by decide +kernel
abbrev cX2_init : ByteArray := prog_4_method_1_code
def yX2_init : MethodName := ⟨RX2, "<init>", "()V"⟩
abbrev cX2_settleIn : ByteArray := prog_4_method_2_code
def yX2_settleIn : MethodName := ⟨RX2, "settleIn", "(LCellCurrents$Cell;I)V"⟩
abbrev cX2_leave : ByteArray := prog_4_method_3_code
def yX2_leave : MethodName := ⟨RX2, "leave", "()V"⟩
abbrev cX2_grow : ByteArray := prog_4_method_4_code
def yX2_grow : MethodName := ⟨RX2, "grow", "(J)V"⟩
abbrev cX2_agrees : ByteArray := prog_4_method_5_code
def yX2_agrees : MethodName := ⟨RX2, "agrees", "()Z"⟩
def RX3 : String := "CellCurrents$Side"
def TX3 : u_T := fun k => match k with
  | 0 => ("CellCurrents$Side", "sizes", "[D", true)
  | 1 => ("CellCurrents$Side", "phases", "[D", true)
  | 2 => ("CellCurrents$Side", "open", "Z", false)
  | 3 => ("CellCurrents$Side", "surface", "D", false)
  | _ => ("CellCurrents$Side", "cameIn", "J", false)
def tyX3 : Nat → FieldType := fun k => match k with
  | 0 => .array .double
  | 1 => .array .double
  | 2 => .boolean
  | 3 => .double
  | _ => .long
abbrev wsX30 : List Cond := u_ws RX3 TX3 5
theorem nmX3 : ∀ a, a < 5 → ∀ b, b < 5 → a ≠ b → (TX3 a).2.1 ≠ (TX3 b).2.1 := by decide +kernel
theorem tyX3_ok : ∀ k, k < 5 → parseFieldDescriptor (TX3 k).2.2.1 = some (tyX3 k) := by decide +kernel
abbrev cX3_init : ByteArray := prog_5_method_1_code
def yX3_init : MethodName := ⟨RX3, "<init>", "()V"⟩
abbrev cX3_tell : ByteArray := prog_5_method_2_code
def yX3_tell : MethodName := ⟨RX3, "tell", "(IDD)V"⟩
abbrev cX3_stand : ByteArray := prog_5_method_3_code
def yX3_stand : MethodName := ⟨RX3, "stand", "(D)V"⟩
def RX4 : String := "CellCurrents$State"
def TX4 : u_T := fun k => match k with
  | 0 => ("CellCurrents$State", "parts", "[J", true)
  | 1 => ("CellCurrents$State", "warmth", "[D", true)
  | 2 => ("CellCurrents$State", "saltiness", "[D", true)
  | 3 => ("CellCurrents$State", "silt", "[D", true)
  | 4 => ("CellCurrents$State", "speeds", "[D", true)
  | 5 => ("CellCurrents$State", "shares", "[J", true)
  | 6 => ("CellCurrents$State", "cameIn", "[J", true)
  | 7 => ("CellCurrents$State", "time", "D", false)
  | 8 => ("CellCurrents$State", "fromRivers", "J", false)
  | _ => ("CellCurrents$State", "changes", "I", false)
def tyX4 : Nat → FieldType := fun k => match k with
  | 0 => .array .long
  | 1 => .array .double
  | 2 => .array .double
  | 3 => .array .double
  | 4 => .array .double
  | 5 => .array .long
  | 6 => .array .long
  | 7 => .double
  | 8 => .long
  | _ => .int
abbrev wsX40 : List Cond := u_ws RX4 TX4 10
theorem nmX4 : ∀ a, a < 10 → ∀ b, b < 10 → a ≠ b → (TX4 a).2.1 ≠ (TX4 b).2.1 := by decide +kernel
theorem tyX4_ok : ∀ k, k < 10 → parseFieldDescriptor (TX4 k).2.2.1 = some (tyX4 k) := by decide +kernel
abbrev cX4_init : ByteArray := prog_6_method_1_code
def yX4_init : MethodName := ⟨RX4, "<init>", "(II)V"⟩
abbrev cX4_keepCells : ByteArray := prog_6_method_2_code
def yX4_keepCells : MethodName := ⟨RX4, "keepCells", "([LCellCurrents$Cell;)V"⟩
abbrev cX4_giveCells : ByteArray := prog_6_method_3_code
def yX4_giveCells : MethodName := ⟨RX4, "giveCells", "([LCellCurrents$Cell;)V"⟩
abbrev cX4_keepFaces : ByteArray := prog_6_method_4_code
def yX4_keepFaces : MethodName := ⟨RX4, "keepFaces", "([LCellCurrents$Face;)V"⟩
abbrev cX4_giveFaces : ByteArray := prog_6_method_5_code
def yX4_giveFaces : MethodName := ⟨RX4, "giveFaces", "([LCellCurrents$Face;)V"⟩
abbrev cX4_keepNests : ByteArray := prog_6_method_6_code
def yX4_keepNests : MethodName := ⟨RX4, "keepNests", "([LCellCurrents$Nest;)V"⟩
abbrev cX4_giveNests : ByteArray := prog_6_method_7_code
def yX4_giveNests : MethodName := ⟨RX4, "giveNests", "([LCellCurrents$Nest;)V"⟩
abbrev cX4_keepSides : ByteArray := prog_6_method_8_code
def yX4_keepSides : MethodName := ⟨RX4, "keepSides", "([LCellCurrents$Side;)V"⟩
abbrev cX4_giveSides : ByteArray := prog_6_method_9_code
def yX4_giveSides : MethodName := ⟨RX4, "giveSides", "([LCellCurrents$Side;)V"⟩
abbrev cX4_cellsIn : ByteArray := prog_6_method_10_code
def yX4_cellsIn : MethodName := ⟨RX4, "cellsIn", "([LCellCurrents$Cell;)I"⟩
def RX5 : String := "CellCurrents$TideTable"
def TX5 : u_T := fun k => match k with
  | 0 => ("CellCurrents$TideTable", "hours", "[D", true)
  | 1 => ("CellCurrents$TideTable", "levels", "[D", true)
  | 2 => ("CellCurrents$TideTable", "sums", "[[D", true)
  | 3 => ("CellCurrents$TideTable", "sumsOfLevels", "[D", true)
  | 4 => ("CellCurrents$TideTable", "pivots", "[Z", true)
  | 5 => ("CellCurrents$TideTable", "saws", "[D", true)
  | 6 => ("CellCurrents$TideTable", "numbers", "[D", true)
  | 7 => ("CellCurrents$TideTable", "noted", "I", false)
  | _ => ("CellCurrents$TideTable", "fitted", "I", false)
def tyX5 : Nat → FieldType := fun k => match k with
  | 0 => .array .double
  | 1 => .array .double
  | 2 => .array (.array .double)
  | 3 => .array .double
  | 4 => .array .boolean
  | 5 => .array .double
  | 6 => .array .double
  | 7 => .int
  | _ => .int
abbrev wsX50 : List Cond := u_ws RX5 TX5 9
theorem nmX5 : ∀ a, a < 9 → ∀ b, b < 9 → a ≠ b → (TX5 a).2.1 ≠ (TX5 b).2.1 := by decide +kernel
theorem tyX5_ok : ∀ k, k < 9 → parseFieldDescriptor (TX5 k).2.2.1 = some (tyX5 k) := by decide +kernel
abbrev cX5_init : ByteArray := prog_7_method_1_code
def yX5_init : MethodName := ⟨RX5, "<init>", "()V"⟩
abbrev cX5_note : ByteArray := prog_7_method_2_code
def yX5_note : MethodName := ⟨RX5, "note", "(DD)Z"⟩
abbrev cX5_solve : ByteArray := prog_7_method_3_code
def yX5_solve : MethodName := ⟨RX5, "solve", "(I)I"⟩
abbrev cX5_heightAt : ByteArray := prog_7_method_4_code
def yX5_heightAt : MethodName := ⟨RX5, "heightAt", "(D)D"⟩
abbrev cX5_addUp : ByteArray := prog_7_method_5_code
def yX5_addUp : MethodName := ⟨RX5, "addUp", "(I)V"⟩
abbrev cX5_clearBelow : ByteArray := prog_7_method_6_code
def yX5_clearBelow : MethodName := ⟨RX5, "clearBelow", "(I)I"⟩
abbrev cX5_subtractRow : ByteArray := prog_7_method_7_code
def yX5_subtractRow : MethodName := ⟨RX5, "subtractRow", "(IIDI)V"⟩
abbrev cX5_solveUpwards : ByteArray := prog_7_method_8_code
def yX5_solveUpwards : MethodName := ⟨RX5, "solveUpwards", "(I)V"⟩
abbrev cX5_fillSaws : ByteArray := prog_7_method_9_code
def yX5_fillSaws : MethodName := ⟨RX5, "fillSaws", "(DI)V"⟩
def RX6 : String := "CellCurrents"
def TX6 : u_T := fun k => match k with
  | 0 => ("CellCurrents", "columns", "I", true)
  | 1 => ("CellCurrents", "rows", "I", true)
  | 2 => ("CellCurrents", "layerCount", "I", true)
  | 3 => ("CellCurrents", "cells", "[LCellCurrents$Cell;", true)
  | 4 => ("CellCurrents", "faces", "[LCellCurrents$Face;", true)
  | 5 => ("CellCurrents", "sides", "[LCellCurrents$Side;", true)
  | 6 => ("CellCurrents", "windAlong0", "[D", true)
  | 7 => ("CellCurrents", "windAlong1", "[D", true)
  | 8 => ("CellCurrents", "nests", "[LCellCurrents$Nest;", true)
  | 9 => ("CellCurrents", "states", "[LCellCurrents$State;", true)
  | 10 => ("CellCurrents", "tides", "LCellCurrents$TideTable;", true)
  | 11 => ("CellCurrents", "nestCount", "I", false)
  | 12 => ("CellCurrents", "stateCount", "I", false)
  | 13 => ("CellCurrents", "changes", "I", false)
  | 14 => ("CellCurrents", "time", "D", false)
  | 15 => ("CellCurrents", "told", "J", false)
  | _ => ("CellCurrents", "fromRivers", "J", false)
def tyX6 : Nat → FieldType := fun k => match k with
  | 0 => .int
  | 1 => .int
  | 2 => .int
  | 3 => .array (.object "CellCurrents$Cell")
  | 4 => .array (.object "CellCurrents$Face")
  | 5 => .array (.object "CellCurrents$Side")
  | 6 => .array .double
  | 7 => .array .double
  | 8 => .array (.object "CellCurrents$Nest")
  | 9 => .array (.object "CellCurrents$State")
  | 10 => .object "CellCurrents$TideTable"
  | 11 => .int
  | 12 => .int
  | 13 => .int
  | 14 => .double
  | 15 => .long
  | _ => .long
abbrev wsX60 : List Cond := u_ws RX6 TX6 17
theorem nmX6 : ∀ a, a < 17 → ∀ b, b < 17 → a ≠ b → (TX6 a).2.1 ≠ (TX6 b).2.1 := by decide +kernel
theorem tyX6_ok : ∀ k, k < 17 → parseFieldDescriptor (TX6 k).2.2.1 = some (tyX6 k) := by decide +kernel
abbrev cX6_init : ByteArray := prog_1_method_1_code
def yX6_init : MethodName := ⟨RX6, "<init>", "(III)V"⟩
abbrev cX6_depth : ByteArray := prog_1_method_2_code
def yX6_depth : MethodName := ⟨RX6, "depth", "(IID)Z"⟩
abbrev cX6_border : ByteArray := prog_1_method_3_code
def yX6_border : MethodName := ⟨RX6, "border", "(IIDD)Z"⟩
abbrev cX6_wind : ByteArray := prog_1_method_4_code
def yX6_wind : MethodName := ⟨RX6, "wind", "(IDD)Z"⟩
abbrev cX6_river : ByteArray := prog_1_method_5_code
def yX6_river : MethodName := ⟨RX6, "river", "(IID)Z"⟩
abbrev cX6_run : ByteArray := prog_1_method_6_code
def yX6_run : MethodName := ⟨RX6, "run", "(ID)I"⟩
abbrev cX6_level : ByteArray := prog_1_method_7_code
def yX6_level : MethodName := ⟨RX6, "level", "(II)D"⟩
abbrev cX6_speed : ByteArray := prog_1_method_8_code
def yX6_speed : MethodName := ⟨RX6, "speed", "(IIII)D"⟩
abbrev cX6_volume : ByteArray := prog_1_method_9_code
def yX6_volume : MethodName := ⟨RX6, "volume", "(I)J"⟩
abbrev cX6_through : ByteArray := prog_1_method_10_code
def yX6_through : MethodName := ⟨RX6, "through", "(II)J"⟩
abbrev cX6_kept : ByteArray := prog_1_method_11_code
def yX6_kept : MethodName := ⟨RX6, "kept", "()Z"⟩
abbrev cX6_warm : ByteArray := prog_1_method_12_code
def yX6_warm : MethodName := ⟨RX6, "warm", "(III)D"⟩
abbrev cX6_salt : ByteArray := prog_1_method_13_code
def yX6_salt : MethodName := ⟨RX6, "salt", "(III)D"⟩
abbrev cX6_dry : ByteArray := prog_1_method_14_code
def yX6_dry : MethodName := ⟨RX6, "dry", "(II)Z"⟩
abbrev cX6_nest : ByteArray := prog_1_method_15_code
def yX6_nest : MethodName := ⟨RX6, "nest", "(III)I"⟩
abbrev cX6_equal : ByteArray := prog_1_method_16_code
def yX6_equal : MethodName := ⟨RX6, "equal", "(I)Z"⟩
abbrev cX6_fit : ByteArray := prog_1_method_17_code
def yX6_fit : MethodName := ⟨RX6, "fit", "(I)I"⟩
abbrev cX6_gauge : ByteArray := prog_1_method_18_code
def yX6_gauge : MethodName := ⟨RX6, "gauge", "(IIDD)Z"⟩
abbrev cX6_tide : ByteArray := prog_1_method_19_code
def yX6_tide : MethodName := ⟨RX6, "tide", "(D)D"⟩
abbrev cX6_save : ByteArray := prog_1_method_20_code
def yX6_save : MethodName := ⟨RX6, "save", "()I"⟩
abbrev cX6_back : ByteArray := prog_1_method_21_code
def yX6_back : MethodName := ⟨RX6, "back", "(I)Z"⟩
abbrev cX6_ice : ByteArray := prog_1_method_22_code
def yX6_ice : MethodName := ⟨RX6, "ice", "(II)D"⟩
abbrev cX6_mud : ByteArray := prog_1_method_23_code
def yX6_mud : MethodName := ⟨RX6, "mud", "(II)D"⟩
abbrev cX6_differs : ByteArray := prog_1_method_24_code
def yX6_differs : MethodName := ⟨RX6, "differs", "(II)D"⟩
abbrev cX6_step : ByteArray := prog_1_method_25_code
def yX6_step : MethodName := ⟨RX6, "step", "(D)V"⟩
abbrev cX6_cellAt : ByteArray := prog_1_method_26_code
def yX6_cellAt : MethodName := ⟨RX6, "cellAt", "(II)LCellCurrents$Cell;"⟩
abbrev cX6_waterAt : ByteArray := prog_1_method_27_code
def yX6_waterAt : MethodName := ⟨RX6, "waterAt", "(II)LCellCurrents$Cell;"⟩
abbrev cX6_sideAt : ByteArray := prog_1_method_28_code
def yX6_sideAt : MethodName := ⟨RX6, "sideAt", "(I)LCellCurrents$Side;"⟩
abbrev cX6_isLayer : ByteArray := prog_1_method_29_code
def yX6_isLayer : MethodName := ⟨RX6, "isLayer", "(I)Z"⟩
abbrev cX6_allParts : ByteArray := prog_1_method_30_code
def yX6_allParts : MethodName := ⟨RX6, "allParts", "()J"⟩
abbrev cX6_limbOf : ByteArray := prog_1_method_31_code
def yX6_limbOf : MethodName := ⟨RX6, "limbOf", "(JI)J"⟩
abbrev cX6_noReading : ByteArray := prog_1_method_32_code
def yX6_noReading : MethodName := ⟨RX6, "noReading", "()D"⟩
abbrev cX6_between : ByteArray := prog_1_method_33_code
def yX6_between : MethodName := ⟨RX6, "between", "(II)I"⟩
abbrev cX6_inside : ByteArray := prog_1_method_34_code
def yX6_inside : MethodName := ⟨RX6, "inside", "(DDD)Z"⟩
abbrev cX6_sizeOf : ByteArray := prog_1_method_35_code
def yX6_sizeOf : MethodName := ⟨RX6, "sizeOf", "(D)D"⟩
abbrev cX6_saw : ByteArray := prog_1_method_36_code
def yX6_saw : MethodName := ⟨RX6, "saw", "(D)D"⟩
abbrev cX6_newCells : ByteArray := prog_1_method_37_code
def yX6_newCells : MethodName := ⟨RX6, "newCells", "(I)[LCellCurrents$Cell;"⟩
abbrev cX6_newSides : ByteArray := prog_1_method_38_code
def yX6_newSides : MethodName := ⟨RX6, "newSides", "()[LCellCurrents$Side;"⟩
abbrev cX6_newNests : ByteArray := prog_1_method_39_code
def yX6_newNests : MethodName := ⟨RX6, "newNests", "()[LCellCurrents$Nest;"⟩
abbrev cX6_newStates : ByteArray := prog_1_method_40_code
def yX6_newStates : MethodName := ⟨RX6, "newStates", "(II)[LCellCurrents$State;"⟩
abbrev cX6_faceCount : ByteArray := prog_1_method_41_code
def yX6_faceCount : MethodName := ⟨RX6, "faceCount", "(II)I"⟩
abbrev cX6_newFaces : ByteArray := prog_1_method_42_code
def yX6_newFaces : MethodName := ⟨RX6, "newFaces", "([LCellCurrents$Cell;[LCellCurrents$Side;II)[LCellCurrents$Face;"⟩
abbrev cX6_put : ByteArray := prog_1_method_43_code
def yX6_put : MethodName := ⟨RX6, "put", "([LCellCurrents$Face;ILCellCurrents$Face;)I"⟩
def RX7 : String := "CellCurrentsModel"
def TX7 : u_T := fun k => match k with
  | 0 => ("CellCurrentsModel", "wide", "I", true)
  | 1 => ("CellCurrentsModel", "high", "I", true)
  | 2 => ("CellCurrentsModel", "layers", "I", true)
  | 3 => ("CellCurrentsModel", "water", "[Z", true)
  | 4 => ("CellCurrentsModel", "depths", "[D", true)
  | 5 => ("CellCurrentsModel", "rivers", "[D", true)
  | 6 => ("CellCurrentsModel", "volumes", "[J", true)
  | 7 => ("CellCurrentsModel", "warmth", "[D", true)
  | 8 => ("CellCurrentsModel", "salts", "[D", true)
  | 9 => ("CellCurrentsModel", "muds", "[D", true)
  | 10 => ("CellCurrentsModel", "speeds", "[D", true)
  | 11 => ("CellCurrentsModel", "over", "[J", true)
  | 12 => ("CellCurrentsModel", "byRivers", "J", false)
  | 13 => ("CellCurrentsModel", "time", "D", false)
  | 14 => ("CellCurrentsModel", "told", "J", false)
  | 15 => ("CellCurrentsModel", "volumes0", "[J", true)
  | 16 => ("CellCurrentsModel", "warmth0", "[D", true)
  | 17 => ("CellCurrentsModel", "salts0", "[D", true)
  | 18 => ("CellCurrentsModel", "flows", "[J", true)
  | 19 => ("CellCurrentsModel", "heat", "D", false)
  | 20 => ("CellCurrentsModel", "brine", "D", false)
  | 21 => ("CellCurrentsModel", "fastest", "D", false)
  | 22 => ("CellCurrentsModel", "hasWave", "[Z", true)
  | 23 => ("CellCurrentsModel", "sizes", "[D", true)
  | 24 => ("CellCurrentsModel", "phases", "[D", true)
  | 25 => ("CellCurrentsModel", "windsX", "[D", true)
  | 26 => ("CellCurrentsModel", "windsY", "[D", true)
  | 27 => ("CellCurrentsModel", "nests", "I", false)
  | 28 => ("CellCurrentsModel", "nestCell", "[I", true)
  | 29 => ("CellCurrentsModel", "isNested", "[Z", true)
  | 30 => ("CellCurrentsModel", "isAlive", "[Z", true)
  | 31 => ("CellCurrentsModel", "gauges", "I", false)
  | 32 => ("CellCurrentsModel", "gaugeCell", "[I", true)
  | 33 => ("CellCurrentsModel", "gaugeHour", "[D", true)
  | 34 => ("CellCurrentsModel", "gaugeValue", "[D", true)
  | 35 => ("CellCurrentsModel", "a", "[D", true)
  | 36 => ("CellCurrentsModel", "b", "[D", true)
  | 37 => ("CellCurrentsModel", "fitted", "[D", true)
  | 38 => ("CellCurrentsModel", "fittedColumns", "I", false)
  | 39 => ("CellCurrentsModel", "saves", "I", false)
  | 40 => ("CellCurrentsModel", "changes", "I", false)
  | 41 => ("CellCurrentsModel", "savedChanges", "[I", true)
  | 42 => ("CellCurrentsModel", "savedVolumes", "[J", true)
  | 43 => ("CellCurrentsModel", "savedWarmth", "[D", true)
  | 44 => ("CellCurrentsModel", "savedSalts", "[D", true)
  | 45 => ("CellCurrentsModel", "savedMuds", "[D", true)
  | 46 => ("CellCurrentsModel", "savedSpeeds", "[D", true)
  | 47 => ("CellCurrentsModel", "savedOver", "[J", true)
  | 48 => ("CellCurrentsModel", "savedRivers", "[J", true)
  | _ => ("CellCurrentsModel", "savedTime", "[D", true)
def tyX7 : Nat → FieldType := fun k => match k with
  | 0 => .int
  | 1 => .int
  | 2 => .int
  | 3 => .array .boolean
  | 4 => .array .double
  | 5 => .array .double
  | 6 => .array .long
  | 7 => .array .double
  | 8 => .array .double
  | 9 => .array .double
  | 10 => .array .double
  | 11 => .array .long
  | 12 => .long
  | 13 => .double
  | 14 => .long
  | 15 => .array .long
  | 16 => .array .double
  | 17 => .array .double
  | 18 => .array .long
  | 19 => .double
  | 20 => .double
  | 21 => .double
  | 22 => .array .boolean
  | 23 => .array .double
  | 24 => .array .double
  | 25 => .array .double
  | 26 => .array .double
  | 27 => .int
  | 28 => .array .int
  | 29 => .array .boolean
  | 30 => .array .boolean
  | 31 => .int
  | 32 => .array .int
  | 33 => .array .double
  | 34 => .array .double
  | 35 => .array .double
  | 36 => .array .double
  | 37 => .array .double
  | 38 => .int
  | 39 => .int
  | 40 => .int
  | 41 => .array .int
  | 42 => .array .long
  | 43 => .array .double
  | 44 => .array .double
  | 45 => .array .double
  | 46 => .array .double
  | 47 => .array .long
  | 48 => .array .long
  | _ => .array .double
abbrev wsX70 : List Cond := u_ws RX7 TX7 50
theorem nmX7 : ∀ a, a < 50 → ∀ b, b < 50 → a ≠ b → (TX7 a).2.1 ≠ (TX7 b).2.1 := by decide +kernel
theorem tyX7_ok : ∀ k, k < 50 → parseFieldDescriptor (TX7 k).2.2.1 = some (tyX7 k) := by decide +kernel
abbrev cX7_init : ByteArray := prog_9_method_1_code
def yX7_init : MethodName := ⟨RX7, "<init>", "(III)V"⟩
abbrev cX7_isIn : ByteArray := prog_9_method_2_code
def yX7_isIn : MethodName := ⟨RX7, "isIn", "(DDD)Z"⟩
abbrev cX7_isCell : ByteArray := prog_9_method_3_code
def yX7_isCell : MethodName := ⟨RX7, "isCell", "(II)Z"⟩
abbrev cX7_at : ByteArray := prog_9_method_4_code
def yX7_at : MethodName := ⟨RX7, "at", "(II)I"⟩
abbrev cX7_isWater : ByteArray := prog_9_method_5_code
def yX7_isWater : MethodName := ⟨RX7, "isWater", "(II)Z"⟩
abbrev cX7_isOpen : ByteArray := prog_9_method_6_code
def yX7_isOpen : MethodName := ⟨RX7, "isOpen", "(I)Z"⟩
abbrev cX7_hasFace : ByteArray := prog_9_method_7_code
def yX7_hasFace : MethodName := ⟨RX7, "hasFace", "(III)Z"⟩
abbrev cX7_isAtSide : ByteArray := prog_9_method_8_code
def yX7_isAtSide : MethodName := ⟨RX7, "isAtSide", "(III)Z"⟩
abbrev cX7_sideFace : ByteArray := prog_9_method_9_code
def yX7_sideFace : MethodName := ⟨RX7, "sideFace", "(III)I"⟩
abbrev cX7_hasSideFace : ByteArray := prog_9_method_10_code
def yX7_hasSideFace : MethodName := ⟨RX7, "hasSideFace", "(III)Z"⟩
abbrev cX7_depth : ByteArray := prog_9_method_11_code
def yX7_depth : MethodName := ⟨RX7, "depth", "(IID)Z"⟩
abbrev cX7_border : ByteArray := prog_9_method_12_code
def yX7_border : MethodName := ⟨RX7, "border", "(IIDD)Z"⟩
abbrev cX7_wind : ByteArray := prog_9_method_13_code
def yX7_wind : MethodName := ⟨RX7, "wind", "(IDD)Z"⟩
abbrev cX7_river : ByteArray := prog_9_method_14_code
def yX7_river : MethodName := ⟨RX7, "river", "(IID)Z"⟩
abbrev cX7_saw : ByteArray := prog_9_method_15_code
def yX7_saw : MethodName := ⟨RX7, "saw", "(D)D"⟩
abbrev cX7_outside : ByteArray := prog_9_method_16_code
def yX7_outside : MethodName := ⟨RX7, "outside", "(I)D"⟩
abbrev cX7_levelOf : ByteArray := prog_9_method_17_code
def yX7_levelOf : MethodName := ⟨RX7, "levelOf", "(I)D"⟩
abbrev cX7_size : ByteArray := prog_9_method_18_code
def yX7_size : MethodName := ⟨RX7, "size", "(D)D"⟩
abbrev cX7_flow : ByteArray := prog_9_method_19_code
def yX7_flow : MethodName := ⟨RX7, "flow", "(IIIIDD)V"⟩
abbrev cX7_step : ByteArray := prog_9_method_20_code
def yX7_step : MethodName := ⟨RX7, "step", "(D)V"⟩
abbrev cX7_pass : ByteArray := prog_9_method_21_code
def yX7_pass : MethodName := ⟨RX7, "pass", "(IIJI)V"⟩
abbrev cX7_change : ByteArray := prog_9_method_22_code
def yX7_change : MethodName := ⟨RX7, "change", "(IID)V"⟩
abbrev cX7_run : ByteArray := prog_9_method_23_code
def yX7_run : MethodName := ⟨RX7, "run", "(ID)I"⟩
abbrev cX7_level : ByteArray := prog_9_method_24_code
def yX7_level : MethodName := ⟨RX7, "level", "(II)D"⟩
abbrev cX7_isLayer : ByteArray := prog_9_method_25_code
def yX7_isLayer : MethodName := ⟨RX7, "isLayer", "(I)Z"⟩
abbrev cX7_speed : ByteArray := prog_9_method_26_code
def yX7_speed : MethodName := ⟨RX7, "speed", "(IIII)D"⟩
abbrev cX7_total : ByteArray := prog_9_method_27_code
def yX7_total : MethodName := ⟨RX7, "total", "()J"⟩
abbrev cX7_limb : ByteArray := prog_9_method_28_code
def yX7_limb : MethodName := ⟨RX7, "limb", "(JI)J"⟩
abbrev cX7_volume : ByteArray := prog_9_method_29_code
def yX7_volume : MethodName := ⟨RX7, "volume", "(I)J"⟩
abbrev cX7_through : ByteArray := prog_9_method_30_code
def yX7_through : MethodName := ⟨RX7, "through", "(II)J"⟩
abbrev cX7_kept : ByteArray := prog_9_method_31_code
def yX7_kept : MethodName := ⟨RX7, "kept", "()Z"⟩
abbrev cX7_warm : ByteArray := prog_9_method_32_code
def yX7_warm : MethodName := ⟨RX7, "warm", "(III)D"⟩
abbrev cX7_salt : ByteArray := prog_9_method_33_code
def yX7_salt : MethodName := ⟨RX7, "salt", "(III)D"⟩
abbrev cX7_dry : ByteArray := prog_9_method_34_code
def yX7_dry : MethodName := ⟨RX7, "dry", "(II)Z"⟩
abbrev cX7_nest : ByteArray := prog_9_method_35_code
def yX7_nest : MethodName := ⟨RX7, "nest", "(III)I"⟩
abbrev cX7_equal : ByteArray := prog_9_method_36_code
def yX7_equal : MethodName := ⟨RX7, "equal", "(I)Z"⟩
abbrev cX7_ice : ByteArray := prog_9_method_37_code
def yX7_ice : MethodName := ⟨RX7, "ice", "(II)D"⟩
abbrev cX7_mud : ByteArray := prog_9_method_38_code
def yX7_mud : MethodName := ⟨RX7, "mud", "(II)D"⟩
abbrev cX7_differs : ByteArray := prog_9_method_39_code
def yX7_differs : MethodName := ⟨RX7, "differs", "(II)D"⟩
abbrev cX7_gauge : ByteArray := prog_9_method_40_code
def yX7_gauge : MethodName := ⟨RX7, "gauge", "(IIDD)Z"⟩
abbrev cX7_column : ByteArray := prog_9_method_41_code
def yX7_column : MethodName := ⟨RX7, "column", "(ID)D"⟩
abbrev cX7_fit : ByteArray := prog_9_method_42_code
def yX7_fit : MethodName := ⟨RX7, "fit", "(I)I"⟩
abbrev cX7_tide : ByteArray := prog_9_method_43_code
def yX7_tide : MethodName := ⟨RX7, "tide", "(D)D"⟩
abbrev cX7_save : ByteArray := prog_9_method_44_code
def yX7_save : MethodName := ⟨RX7, "save", "()I"⟩
abbrev cX7_back : ByteArray := prog_9_method_45_code
def yX7_back : MethodName := ⟨RX7, "back", "(I)Z"⟩
def RJxe99ae : String := "java/lang/Double"
def TJxe99ae : u_T := fun k => match k with
  | _ => ("", "", "", false)
def tyJxe99ae : Nat → FieldType := fun k => match k with
  | _ => .int
abbrev wsJxe99ae0 : List Cond := u_ws RJxe99ae TJxe99ae 0
theorem nmJxe99ae : ∀ a, a < 0 → ∀ b, b < 0 → a ≠ b → (TJxe99ae a).2.1 ≠ (TJxe99ae b).2.1 := by decide +kernel
theorem tyJxe99ae_ok : ∀ k, k < 0 → parseFieldDescriptor (TJxe99ae k).2.2.1 = some (tyJxe99ae k) := by decide +kernel
def RJ9 : String := "java/lang/Math"
def TJ9 : u_T := fun k => match k with
  | _ => ("", "", "", false)
def tyJ9 : Nat → FieldType := fun k => match k with
  | _ => .int
abbrev wsJ90 : List Cond := u_ws RJ9 TJ9 0
theorem nmJ9 : ∀ a, a < 0 → ∀ b, b < 0 → a ≠ b → (TJ9 a).2.1 ≠ (TJ9 b).2.1 := by decide +kernel
theorem tyJ9_ok : ∀ k, k < 0 → parseFieldDescriptor (TJ9 k).2.2.1 = some (tyJ9 k) := by decide +kernel
abbrev cJ9_floorMod_f86c9 : ByteArray := prog_11_method_52_code
def yJ9_floorMod_f86c9 : MethodName := ⟨RJ9, "floorMod", "(JJ)J"⟩
abbrev cJ9_max_7cf53 : ByteArray := prog_11_method_65_code
def yJ9_max_7cf53 : MethodName := ⟨RJ9, "max", "(II)I"⟩
abbrev cJ9_max_f86c9 : ByteArray := prog_11_method_66_code
def yJ9_max_f86c9 : MethodName := ⟨RJ9, "max", "(JJ)J"⟩
abbrev cJ9_max_eb370 : ByteArray := prog_11_method_68_code
def yJ9_max_eb370 : MethodName := ⟨RJ9, "max", "(DD)D"⟩
abbrev cJ9_min_7cf53 : ByteArray := prog_11_method_69_code
def yJ9_min_7cf53 : MethodName := ⟨RJ9, "min", "(II)I"⟩
abbrev cJ9_min_f86c9 : ByteArray := prog_11_method_70_code
def yJ9_min_f86c9 : MethodName := ⟨RJ9, "min", "(JJ)J"⟩
def RL : String := "CellCurrentsLaw"
abbrev cL_cell : ByteArray := method_2_code
def yL_cell : MethodName := ⟨RL, "cell", "([II)I"⟩
abbrev cL_law : ByteArray := code
def yL_law : MethodName := ⟨RL, "law", "([I)Z"⟩
abbrev vwCl : List vw_C := [(RX0, TX0, 15), (RX1, TX1, 6), (RX2, TX2, 3), (RX3, TX3, 5), (RX4, TX4, 10), (RX5, TX5, 9), (RX6, TX6, 17), (RX7, TX7, 50)]
theorem mm_pos {big ws : List Cond} (ps : List Nat) (hp : ws = ps.filterMap (fun i => big[i]?)) : ∀ w ∈ ws, w ∈ big := by
  intro w hw
  rw [hp] at hw
  obtain ⟨i, -, hi⟩ := List.mem_filterMap.mp hw
  exact List.mem_of_getElem? hi
set_option maxRecDepth 20000 in
theorem inX0 : ∀ w ∈ wsX00, w ∈ lw_tbl := mm_pos [100, 102, 104, 106, 108, 110, 112, 114, 116, 118, 120, 122, 124, 126, 128] (by decide +kernel)
set_option maxRecDepth 20000 in
theorem inX1 : ∀ w ∈ wsX10, w ∈ lw_tbl := mm_pos [185, 187, 189, 191, 193, 195] (by decide +kernel)
set_option maxRecDepth 20000 in
theorem inX2 : ∀ w ∈ wsX20, w ∈ lw_tbl := mm_pos [215, 217, 219] (by decide +kernel)
set_option maxRecDepth 20000 in
theorem inX3 : ∀ w ∈ wsX30, w ∈ lw_tbl := mm_pos [150, 152, 154, 156, 158] (by decide +kernel)
set_option maxRecDepth 20000 in
theorem inX4 : ∀ w ∈ wsX40, w ∈ lw_tbl := mm_pos [244, 246, 248, 250, 252, 254, 256, 258, 260, 262] (by decide +kernel)
set_option maxRecDepth 20000 in
theorem inX5 : ∀ w ∈ wsX50, w ∈ lw_tbl := mm_pos [282, 284, 286, 288, 290, 292, 294, 296, 298] (by decide +kernel)
set_option maxRecDepth 20000 in
theorem inX6 : ∀ w ∈ wsX60, w ∈ lw_tbl := mm_pos [319, 321, 323, 325, 327, 329, 331, 333, 335, 337, 339, 341, 343, 345, 347, 349, 351] (by decide +kernel)
set_option maxRecDepth 20000 in
theorem inX7 : ∀ w ∈ wsX70, w ∈ lw_tbl := mm_pos [758, 760, 762, 764, 766, 768, 770, 772, 774, 776, 778, 780, 782, 784, 786, 788, 790, 792, 794, 796, 798, 800, 802, 804, 806, 808, 810, 812, 814, 816, 818, 820, 822, 824, 826, 828, 830, 832, 834, 836, 838, 840, 842, 844, 846, 848, 850, 852, 854, 856] (by decide +kernel)
end
section
theorem dX0_init_0 : decode cX0_init 0 = .ok (.aload_n 0, 1) := by decide +kernel
theorem dX0_init_1 : decode cX0_init 1 = .ok (.invokespecial 3, 3) := by decide +kernel
theorem dX0_init_4 : decode cX0_init 4 = .ok (.return_, 1) := by decide +kernel
theorem dX0_become_0 : decode cX0_become 0 = .ok (.aload_n 0, 1) := by decide +kernel
theorem dX0_become_1 : decode cX0_become 1 = .ok (.dload_n 1, 1) := by decide +kernel
theorem dX0_become_2 : decode cX0_become 2 = .ok (.dconst 0, 1) := by decide +kernel
theorem dX0_become_3 : decode cX0_become 3 = .ok (.dcmp .l, 1) := by decide +kernel
theorem dX0_become_4 : decode cX0_become 4 = .ok (.ifCond .le 7, 3) := by decide +kernel
theorem dX0_become_7 : decode cX0_become 7 = .ok (.iconst 1, 1) := by decide +kernel
theorem dX0_become_8 : decode cX0_become 8 = .ok (.goto 4, 3) := by decide +kernel
theorem dX0_become_11 : decode cX0_become 11 = .ok (.iconst 0, 1) := by decide +kernel
theorem dX0_become_12 : decode cX0_become 12 = .ok (.putfield 9, 3) := by decide +kernel
theorem dX0_become_15 : decode cX0_become 15 = .ok (.aload_n 0, 1) := by decide +kernel
theorem dX0_become_16 : decode cX0_become 16 = .ok (.dload_n 1, 1) := by decide +kernel
theorem dX0_become_17 : decode cX0_become 17 = .ok (.putfield 15, 3) := by decide +kernel
theorem dX0_become_20 : decode cX0_become 20 = .ok (.aload_n 0, 1) := by decide +kernel
theorem dX0_become_21 : decode cX0_become 21 = .ok (.dload_n 1, 1) := by decide +kernel
theorem dX0_become_22 : decode cX0_become 22 = .ok (.ldc2_w 19, 3) := by decide +kernel
theorem dX0_become_25 : decode cX0_become 25 = .ok (.dmul, 1) := by decide +kernel
theorem dX0_become_26 : decode cX0_become 26 = .ok (.d2l, 1) := by decide +kernel
theorem dX0_become_27 : decode cX0_become 27 = .ok (.putfield 21, 3) := by decide +kernel
theorem dX0_become_30 : decode cX0_become 30 = .ok (.aload_n 0, 1) := by decide +kernel
theorem dX0_become_31 : decode cX0_become 31 = .ok (.ldc2_w 25, 3) := by decide +kernel
theorem dX0_become_34 : decode cX0_become 34 = .ok (.putfield 27, 3) := by decide +kernel
theorem dX0_become_37 : decode cX0_become 37 = .ok (.aload_n 0, 1) := by decide +kernel
theorem dX0_become_38 : decode cX0_become 38 = .ok (.ldc2_w 30, 3) := by decide +kernel
theorem dX0_become_41 : decode cX0_become 41 = .ok (.putfield 32, 3) := by decide +kernel
theorem dX0_become_44 : decode cX0_become 44 = .ok (.aload_n 0, 1) := by decide +kernel
theorem dX0_become_45 : decode cX0_become 45 = .ok (.dconst 0, 1) := by decide +kernel
theorem dX0_become_46 : decode cX0_become 46 = .ok (.putfield 35, 3) := by decide +kernel
theorem dX0_become_49 : decode cX0_become 49 = .ok (.aload_n 0, 1) := by decide +kernel
theorem dX0_become_50 : decode cX0_become 50 = .ok (.getfield 38, 3) := by decide +kernel
theorem dX0_become_53 : decode cX0_become 53 = .ok (.ifnull 15, 3) := by decide +kernel
theorem dX0_become_56 : decode cX0_become 56 = .ok (.aload_n 0, 1) := by decide +kernel
theorem dX0_become_57 : decode cX0_become 57 = .ok (.getfield 38, 3) := by decide +kernel
theorem dX0_become_60 : decode cX0_become 60 = .ok (.invokevirtual 42, 3) := by decide +kernel
theorem dX0_become_63 : decode cX0_become 63 = .ok (.aload_n 0, 1) := by decide +kernel
theorem dX0_become_64 : decode cX0_become 64 = .ok (.aconst_null, 1) := by decide +kernel
theorem dX0_become_65 : decode cX0_become 65 = .ok (.putfield 38, 3) := by decide +kernel
theorem dX0_become_68 : decode cX0_become 68 = .ok (.return_, 1) := by decide +kernel
theorem dX0_surface_0 : decode cX0_surface 0 = .ok (.aload_n 0, 1) := by decide +kernel
theorem dX0_surface_1 : decode cX0_surface 1 = .ok (.getfield 21, 3) := by decide +kernel
theorem dX0_surface_4 : decode cX0_surface 4 = .ok (.l2d, 1) := by decide +kernel
theorem dX0_surface_5 : decode cX0_surface 5 = .ok (.ldc2_w 47, 3) := by decide +kernel
theorem dX0_surface_8 : decode cX0_surface 8 = .ok (.dmul, 1) := by decide +kernel
theorem dX0_surface_9 : decode cX0_surface 9 = .ok (.aload_n 0, 1) := by decide +kernel
theorem dX0_surface_10 : decode cX0_surface 10 = .ok (.getfield 15, 3) := by decide +kernel
theorem dX0_surface_13 : decode cX0_surface 13 = .ok (.dsub, 1) := by decide +kernel
theorem dX0_surface_14 : decode cX0_surface 14 = .ok (.dreturn, 1) := by decide +kernel
theorem dX0_isDry_0 : decode cX0_isDry 0 = .ok (.aload_n 0, 1) := by decide +kernel
theorem dX0_isDry_1 : decode cX0_isDry 1 = .ok (.getfield 21, 3) := by decide +kernel
theorem dX0_isDry_4 : decode cX0_isDry 4 = .ok (.ldc2_w 49, 3) := by decide +kernel
theorem dX0_isDry_7 : decode cX0_isDry 7 = .ok (.lcmp, 1) := by decide +kernel
theorem dX0_isDry_8 : decode cX0_isDry 8 = .ok (.ifCond .ge 7, 3) := by decide +kernel
theorem dX0_isDry_11 : decode cX0_isDry 11 = .ok (.iconst 1, 1) := by decide +kernel
theorem dX0_isDry_12 : decode cX0_isDry 12 = .ok (.goto 4, 3) := by decide +kernel
theorem dX0_isDry_15 : decode cX0_isDry 15 = .ok (.iconst 0, 1) := by decide +kernel
theorem dX0_isDry_16 : decode cX0_isDry 16 = .ok (.ireturn, 1) := by decide +kernel
theorem dX0_beginStep_0 : decode cX0_beginStep 0 = .ok (.aload_n 0, 1) := by decide +kernel
theorem dX0_beginStep_1 : decode cX0_beginStep 1 = .ok (.aload_n 0, 1) := by decide +kernel
theorem dX0_beginStep_2 : decode cX0_beginStep 2 = .ok (.getfield 21, 3) := by decide +kernel
theorem dX0_beginStep_5 : decode cX0_beginStep 5 = .ok (.putfield 51, 3) := by decide +kernel
theorem dX0_beginStep_8 : decode cX0_beginStep 8 = .ok (.aload_n 0, 1) := by decide +kernel
theorem dX0_beginStep_9 : decode cX0_beginStep 9 = .ok (.aload_n 0, 1) := by decide +kernel
theorem dX0_beginStep_10 : decode cX0_beginStep 10 = .ok (.invokevirtual 54, 3) := by decide +kernel
theorem dX0_beginStep_13 : decode cX0_beginStep 13 = .ok (.putfield 58, 3) := by decide +kernel
theorem dX0_beginStep_16 : decode cX0_beginStep 16 = .ok (.aload_n 0, 1) := by decide +kernel
theorem dX0_beginStep_17 : decode cX0_beginStep 17 = .ok (.aload_n 0, 1) := by decide +kernel
theorem dX0_beginStep_18 : decode cX0_beginStep 18 = .ok (.getfield 27, 3) := by decide +kernel
theorem dX0_beginStep_21 : decode cX0_beginStep 21 = .ok (.aload_n 0, 1) := by decide +kernel
theorem dX0_beginStep_22 : decode cX0_beginStep 22 = .ok (.getfield 21, 3) := by decide +kernel
theorem dX0_beginStep_25 : decode cX0_beginStep 25 = .ok (.l2d, 1) := by decide +kernel
theorem dX0_beginStep_26 : decode cX0_beginStep 26 = .ok (.dmul, 1) := by decide +kernel
theorem dX0_beginStep_27 : decode cX0_beginStep 27 = .ok (.putfield 61, 3) := by decide +kernel
theorem dX0_beginStep_30 : decode cX0_beginStep 30 = .ok (.aload_n 0, 1) := by decide +kernel
theorem dX0_beginStep_31 : decode cX0_beginStep 31 = .ok (.aload_n 0, 1) := by decide +kernel
theorem dX0_beginStep_32 : decode cX0_beginStep 32 = .ok (.getfield 32, 3) := by decide +kernel
theorem dX0_beginStep_35 : decode cX0_beginStep 35 = .ok (.aload_n 0, 1) := by decide +kernel
theorem dX0_beginStep_36 : decode cX0_beginStep 36 = .ok (.getfield 21, 3) := by decide +kernel
theorem dX0_beginStep_39 : decode cX0_beginStep 39 = .ok (.l2d, 1) := by decide +kernel
theorem dX0_beginStep_40 : decode cX0_beginStep 40 = .ok (.dmul, 1) := by decide +kernel
theorem dX0_beginStep_41 : decode cX0_beginStep 41 = .ok (.putfield 64, 3) := by decide +kernel
theorem dX0_beginStep_44 : decode cX0_beginStep 44 = .ok (.aload_n 0, 1) := by decide +kernel
theorem dX0_beginStep_45 : decode cX0_beginStep 45 = .ok (.dconst 0, 1) := by decide +kernel
theorem dX0_beginStep_46 : decode cX0_beginStep 46 = .ok (.putfield 67, 3) := by decide +kernel
theorem dX0_beginStep_49 : decode cX0_beginStep 49 = .ok (.return_, 1) := by decide +kernel
theorem dX0_feel_0 : decode cX0_feel 0 = .ok (.dload_n 1, 1) := by decide +kernel
theorem dX0_feel_1 : decode cX0_feel 1 = .ok (.invokestatic 70, 3) := by decide +kernel
theorem dX0_feel_4 : decode cX0_feel 4 = .ok (.dstore_n 3, 1) := by decide +kernel
theorem dX0_feel_5 : decode cX0_feel 5 = .ok (.dload_n 3, 1) := by decide +kernel
theorem dX0_feel_6 : decode cX0_feel 6 = .ok (.aload_n 0, 1) := by decide +kernel
theorem dX0_feel_7 : decode cX0_feel 7 = .ok (.getfield 67, 3) := by decide +kernel
theorem dX0_feel_10 : decode cX0_feel 10 = .ok (.dcmp .l, 1) := by decide +kernel
theorem dX0_feel_11 : decode cX0_feel 11 = .ok (.ifCond .le 8, 3) := by decide +kernel
theorem dX0_feel_14 : decode cX0_feel 14 = .ok (.aload_n 0, 1) := by decide +kernel
theorem dX0_feel_15 : decode cX0_feel 15 = .ok (.dload_n 3, 1) := by decide +kernel
theorem dX0_feel_16 : decode cX0_feel 16 = .ok (.putfield 67, 3) := by decide +kernel
theorem dX0_feel_19 : decode cX0_feel 19 = .ok (.return_, 1) := by decide +kernel
theorem dX0_gain_0 : decode cX0_gain 0 = .ok (.aload_n 0, 1) := by decide +kernel
theorem dX0_gain_1 : decode cX0_gain 1 = .ok (.aload_n 0, 1) := by decide +kernel
theorem dX0_gain_2 : decode cX0_gain 2 = .ok (.getfield 21, 3) := by decide +kernel
theorem dX0_gain_5 : decode cX0_gain 5 = .ok (.lload_n 1, 1) := by decide +kernel
theorem dX0_gain_6 : decode cX0_gain 6 = .ok (.ladd, 1) := by decide +kernel
theorem dX0_gain_7 : decode cX0_gain 7 = .ok (.putfield 21, 3) := by decide +kernel
theorem dX0_gain_10 : decode cX0_gain 10 = .ok (.aload_n 0, 1) := by decide +kernel
theorem dX0_gain_11 : decode cX0_gain 11 = .ok (.aload_n 0, 1) := by decide +kernel
theorem dX0_gain_12 : decode cX0_gain 12 = .ok (.getfield 61, 3) := by decide +kernel
theorem dX0_gain_15 : decode cX0_gain 15 = .ok (.lload_n 1, 1) := by decide +kernel
theorem dX0_gain_16 : decode cX0_gain 16 = .ok (.l2d, 1) := by decide +kernel
theorem dX0_gain_17 : decode cX0_gain 17 = .ok (.dload_n 3, 1) := by decide +kernel
theorem dX0_gain_18 : decode cX0_gain 18 = .ok (.dmul, 1) := by decide +kernel
theorem dX0_gain_19 : decode cX0_gain 19 = .ok (.dadd, 1) := by decide +kernel
theorem dX0_gain_20 : decode cX0_gain 20 = .ok (.putfield 61, 3) := by decide +kernel
theorem dX0_gain_23 : decode cX0_gain 23 = .ok (.aload_n 0, 1) := by decide +kernel
theorem dX0_gain_24 : decode cX0_gain 24 = .ok (.aload_n 0, 1) := by decide +kernel
theorem dX0_gain_25 : decode cX0_gain 25 = .ok (.getfield 64, 3) := by decide +kernel
theorem dX0_gain_28 : decode cX0_gain 28 = .ok (.lload_n 1, 1) := by decide +kernel
theorem dX0_gain_29 : decode cX0_gain 29 = .ok (.l2d, 1) := by decide +kernel
theorem dX0_gain_30 : decode cX0_gain 30 = .ok (.dload 5, 2) := by decide +kernel
theorem dX0_gain_32 : decode cX0_gain 32 = .ok (.dmul, 1) := by decide +kernel
theorem dX0_gain_33 : decode cX0_gain 33 = .ok (.dadd, 1) := by decide +kernel
theorem dX0_gain_34 : decode cX0_gain 34 = .ok (.putfield 64, 3) := by decide +kernel
theorem dX0_gain_37 : decode cX0_gain 37 = .ok (.return_, 1) := by decide +kernel
theorem dX0_lose_0 : decode cX0_lose 0 = .ok (.aload_n 0, 1) := by decide +kernel
theorem dX0_lose_1 : decode cX0_lose 1 = .ok (.aload_n 0, 1) := by decide +kernel
theorem dX0_lose_2 : decode cX0_lose 2 = .ok (.getfield 21, 3) := by decide +kernel
theorem dX0_lose_5 : decode cX0_lose 5 = .ok (.lload_n 1, 1) := by decide +kernel
theorem dX0_lose_6 : decode cX0_lose 6 = .ok (.lsub, 1) := by decide +kernel
theorem dX0_lose_7 : decode cX0_lose 7 = .ok (.putfield 21, 3) := by decide +kernel
theorem dX0_lose_10 : decode cX0_lose 10 = .ok (.aload_n 0, 1) := by decide +kernel
theorem dX0_lose_11 : decode cX0_lose 11 = .ok (.aload_n 0, 1) := by decide +kernel
theorem dX0_lose_12 : decode cX0_lose 12 = .ok (.getfield 61, 3) := by decide +kernel
theorem dX0_lose_15 : decode cX0_lose 15 = .ok (.lload_n 1, 1) := by decide +kernel
theorem dX0_lose_16 : decode cX0_lose 16 = .ok (.l2d, 1) := by decide +kernel
theorem dX0_lose_17 : decode cX0_lose 17 = .ok (.aload_n 0, 1) := by decide +kernel
theorem dX0_lose_18 : decode cX0_lose 18 = .ok (.getfield 27, 3) := by decide +kernel
theorem dX0_lose_21 : decode cX0_lose 21 = .ok (.dmul, 1) := by decide +kernel
theorem dX0_lose_22 : decode cX0_lose 22 = .ok (.dsub, 1) := by decide +kernel
theorem dX0_lose_23 : decode cX0_lose 23 = .ok (.putfield 61, 3) := by decide +kernel
theorem dX0_lose_26 : decode cX0_lose 26 = .ok (.aload_n 0, 1) := by decide +kernel
theorem dX0_lose_27 : decode cX0_lose 27 = .ok (.aload_n 0, 1) := by decide +kernel
theorem dX0_lose_28 : decode cX0_lose 28 = .ok (.getfield 64, 3) := by decide +kernel
theorem dX0_lose_31 : decode cX0_lose 31 = .ok (.lload_n 1, 1) := by decide +kernel
theorem dX0_lose_32 : decode cX0_lose 32 = .ok (.l2d, 1) := by decide +kernel
theorem dX0_lose_33 : decode cX0_lose 33 = .ok (.aload_n 0, 1) := by decide +kernel
theorem dX0_lose_34 : decode cX0_lose 34 = .ok (.getfield 32, 3) := by decide +kernel
theorem dX0_lose_37 : decode cX0_lose 37 = .ok (.dmul, 1) := by decide +kernel
theorem dX0_lose_38 : decode cX0_lose 38 = .ok (.dsub, 1) := by decide +kernel
theorem dX0_lose_39 : decode cX0_lose 39 = .ok (.putfield 64, 3) := by decide +kernel
theorem dX0_lose_42 : decode cX0_lose 42 = .ok (.return_, 1) := by decide +kernel
theorem dX0_takeRiver_0 : decode cX0_takeRiver 0 = .ok (.aload_n 0, 1) := by decide +kernel
theorem dX0_takeRiver_1 : decode cX0_takeRiver 1 = .ok (.getfield 9, 3) := by decide +kernel
theorem dX0_takeRiver_4 : decode cX0_takeRiver 4 = .ok (.ifCond .ne 5, 3) := by decide +kernel
theorem dX0_takeRiver_7 : decode cX0_takeRiver 7 = .ok (.lconst 0, 1) := by decide +kernel
theorem dX0_takeRiver_8 : decode cX0_takeRiver 8 = .ok (.lreturn, 1) := by decide +kernel
theorem dX0_takeRiver_9 : decode cX0_takeRiver 9 = .ok (.aload_n 0, 1) := by decide +kernel
theorem dX0_takeRiver_10 : decode cX0_takeRiver 10 = .ok (.getfield 74, 3) := by decide +kernel
theorem dX0_takeRiver_13 : decode cX0_takeRiver 13 = .ok (.dload_n 1, 1) := by decide +kernel
theorem dX0_takeRiver_14 : decode cX0_takeRiver 14 = .ok (.dmul, 1) := by decide +kernel
theorem dX0_takeRiver_15 : decode cX0_takeRiver 15 = .ok (.d2l, 1) := by decide +kernel
theorem dX0_takeRiver_16 : decode cX0_takeRiver 16 = .ok (.lstore_n 3, 1) := by decide +kernel
theorem dX0_takeRiver_17 : decode cX0_takeRiver 17 = .ok (.aload_n 0, 1) := by decide +kernel
theorem dX0_takeRiver_18 : decode cX0_takeRiver 18 = .ok (.lload_n 3, 1) := by decide +kernel
theorem dX0_takeRiver_19 : decode cX0_takeRiver 19 = .ok (.ldc2_w 77, 3) := by decide +kernel
theorem dX0_takeRiver_22 : decode cX0_takeRiver 22 = .ok (.dconst 0, 1) := by decide +kernel
theorem dX0_takeRiver_23 : decode cX0_takeRiver 23 = .ok (.invokevirtual 79, 3) := by decide +kernel
theorem dX0_takeRiver_26 : decode cX0_takeRiver 26 = .ok (.lload_n 3, 1) := by decide +kernel
theorem dX0_takeRiver_27 : decode cX0_takeRiver 27 = .ok (.lreturn, 1) := by decide +kernel
theorem dX0_endStep_0 : decode cX0_endStep 0 = .ok (.aload_n 0, 1) := by decide +kernel
theorem dX0_endStep_1 : decode cX0_endStep 1 = .ok (.getfield 21, 3) := by decide +kernel
theorem dX0_endStep_4 : decode cX0_endStep 4 = .ok (.lconst 0, 1) := by decide +kernel
theorem dX0_endStep_5 : decode cX0_endStep 5 = .ok (.lcmp, 1) := by decide +kernel
theorem dX0_endStep_6 : decode cX0_endStep 6 = .ok (.ifCond .le 31, 3) := by decide +kernel
theorem dX0_endStep_9 : decode cX0_endStep 9 = .ok (.aload_n 0, 1) := by decide +kernel
theorem dX0_endStep_10 : decode cX0_endStep 10 = .ok (.aload_n 0, 1) := by decide +kernel
theorem dX0_endStep_11 : decode cX0_endStep 11 = .ok (.getfield 61, 3) := by decide +kernel
theorem dX0_endStep_14 : decode cX0_endStep 14 = .ok (.aload_n 0, 1) := by decide +kernel
theorem dX0_endStep_15 : decode cX0_endStep 15 = .ok (.getfield 21, 3) := by decide +kernel
theorem dX0_endStep_18 : decode cX0_endStep 18 = .ok (.l2d, 1) := by decide +kernel
theorem dX0_endStep_19 : decode cX0_endStep 19 = .ok (.ddiv, 1) := by decide +kernel
theorem dX0_endStep_20 : decode cX0_endStep 20 = .ok (.putfield 27, 3) := by decide +kernel
theorem dX0_endStep_23 : decode cX0_endStep 23 = .ok (.aload_n 0, 1) := by decide +kernel
theorem dX0_endStep_24 : decode cX0_endStep 24 = .ok (.aload_n 0, 1) := by decide +kernel
theorem dX0_endStep_25 : decode cX0_endStep 25 = .ok (.getfield 64, 3) := by decide +kernel
theorem dX0_endStep_28 : decode cX0_endStep 28 = .ok (.aload_n 0, 1) := by decide +kernel
theorem dX0_endStep_29 : decode cX0_endStep 29 = .ok (.getfield 21, 3) := by decide +kernel
theorem dX0_endStep_32 : decode cX0_endStep 32 = .ok (.l2d, 1) := by decide +kernel
theorem dX0_endStep_33 : decode cX0_endStep 33 = .ok (.ddiv, 1) := by decide +kernel
theorem dX0_endStep_34 : decode cX0_endStep 34 = .ok (.putfield 32, 3) := by decide +kernel
theorem dX0_endStep_37 : decode cX0_endStep 37 = .ok (.aload_n 0, 1) := by decide +kernel
theorem dX0_endStep_38 : decode cX0_endStep 38 = .ok (.getfield 67, 3) := by decide +kernel
theorem dX0_endStep_41 : decode cX0_endStep 41 = .ok (.ldc2_w 83, 3) := by decide +kernel
theorem dX0_endStep_44 : decode cX0_endStep 44 = .ok (.dcmp .l, 1) := by decide +kernel
theorem dX0_endStep_45 : decode cX0_endStep 45 = .ok (.ifCond .le 26, 3) := by decide +kernel
theorem dX0_endStep_48 : decode cX0_endStep 48 = .ok (.aload_n 0, 1) := by decide +kernel
theorem dX0_endStep_49 : decode cX0_endStep 49 = .ok (.aload_n 0, 1) := by decide +kernel
theorem dX0_endStep_50 : decode cX0_endStep 50 = .ok (.getfield 35, 3) := by decide +kernel
theorem dX0_endStep_53 : decode cX0_endStep 53 = .ok (.ldc2_w 47, 3) := by decide +kernel
theorem dX0_endStep_56 : decode cX0_endStep 56 = .ok (.dload_n 1, 1) := by decide +kernel
theorem dX0_endStep_57 : decode cX0_endStep 57 = .ok (.dmul, 1) := by decide +kernel
theorem dX0_endStep_58 : decode cX0_endStep 58 = .ok (.aload_n 0, 1) := by decide +kernel
theorem dX0_endStep_59 : decode cX0_endStep 59 = .ok (.getfield 67, 3) := by decide +kernel
theorem dX0_endStep_62 : decode cX0_endStep 62 = .ok (.ldc2_w 83, 3) := by decide +kernel
theorem dX0_endStep_65 : decode cX0_endStep 65 = .ok (.dsub, 1) := by decide +kernel
theorem dX0_endStep_66 : decode cX0_endStep 66 = .ok (.dmul, 1) := by decide +kernel
theorem dX0_endStep_67 : decode cX0_endStep 67 = .ok (.dadd, 1) := by decide +kernel
theorem dX0_endStep_68 : decode cX0_endStep 68 = .ok (.putfield 35, 3) := by decide +kernel
theorem dX0_endStep_71 : decode cX0_endStep 71 = .ok (.aload_n 0, 1) := by decide +kernel
theorem dX0_endStep_72 : decode cX0_endStep 72 = .ok (.getfield 38, 3) := by decide +kernel
theorem dX0_endStep_75 : decode cX0_endStep 75 = .ok (.ifnull 19, 3) := by decide +kernel
theorem dX0_endStep_78 : decode cX0_endStep 78 = .ok (.aload_n 0, 1) := by decide +kernel
theorem dX0_endStep_79 : decode cX0_endStep 79 = .ok (.getfield 38, 3) := by decide +kernel
theorem dX0_endStep_82 : decode cX0_endStep 82 = .ok (.aload_n 0, 1) := by decide +kernel
theorem dX0_endStep_83 : decode cX0_endStep 83 = .ok (.getfield 21, 3) := by decide +kernel
theorem dX0_endStep_86 : decode cX0_endStep 86 = .ok (.aload_n 0, 1) := by decide +kernel
theorem dX0_endStep_87 : decode cX0_endStep 87 = .ok (.getfield 51, 3) := by decide +kernel
theorem dX0_endStep_90 : decode cX0_endStep 90 = .ok (.lsub, 1) := by decide +kernel
theorem dX0_endStep_91 : decode cX0_endStep 91 = .ok (.invokevirtual 85, 3) := by decide +kernel
theorem dX0_endStep_94 : decode cX0_endStep 94 = .ok (.return_, 1) := by decide +kernel
end
section
theorem dX1_init_0 : decode cX1_init 0 = .ok (.aload_n 0, 1) := by decide +kernel
theorem dX1_init_1 : decode cX1_init 1 = .ok (.invokespecial 1, 3) := by decide +kernel
theorem dX1_init_4 : decode cX1_init 4 = .ok (.aload_n 0, 1) := by decide +kernel
theorem dX1_init_5 : decode cX1_init 5 = .ok (.iload_n 2, 1) := by decide +kernel
theorem dX1_init_6 : decode cX1_init 6 = .ok (.ifCond .lt 15, 3) := by decide +kernel
theorem dX1_init_9 : decode cX1_init 9 = .ok (.iload_n 2, 1) := by decide +kernel
theorem dX1_init_10 : decode cX1_init 10 = .ok (.aload_n 1, 1) := by decide +kernel
theorem dX1_init_11 : decode cX1_init 11 = .ok (.arraylength, 1) := by decide +kernel
theorem dX1_init_12 : decode cX1_init 12 = .ok (.if_icmp .ge 9, 3) := by decide +kernel
theorem dX1_init_15 : decode cX1_init 15 = .ok (.aload_n 1, 1) := by decide +kernel
theorem dX1_init_16 : decode cX1_init 16 = .ok (.iload_n 2, 1) := by decide +kernel
theorem dX1_init_17 : decode cX1_init 17 = .ok (.aaload, 1) := by decide +kernel
theorem dX1_init_18 : decode cX1_init 18 = .ok (.goto 4, 3) := by decide +kernel
theorem dX1_init_21 : decode cX1_init 21 = .ok (.aconst_null, 1) := by decide +kernel
theorem dX1_init_22 : decode cX1_init 22 = .ok (.putfield 7, 3) := by decide +kernel
theorem dX1_init_25 : decode cX1_init 25 = .ok (.aload_n 0, 1) := by decide +kernel
theorem dX1_init_26 : decode cX1_init 26 = .ok (.iload_n 3, 1) := by decide +kernel
theorem dX1_init_27 : decode cX1_init 27 = .ok (.ifCond .lt 15, 3) := by decide +kernel
theorem dX1_init_30 : decode cX1_init 30 = .ok (.iload_n 3, 1) := by decide +kernel
theorem dX1_init_31 : decode cX1_init 31 = .ok (.aload_n 1, 1) := by decide +kernel
theorem dX1_init_32 : decode cX1_init 32 = .ok (.arraylength, 1) := by decide +kernel
theorem dX1_init_33 : decode cX1_init 33 = .ok (.if_icmp .ge 9, 3) := by decide +kernel
theorem dX1_init_36 : decode cX1_init 36 = .ok (.aload_n 1, 1) := by decide +kernel
theorem dX1_init_37 : decode cX1_init 37 = .ok (.iload_n 3, 1) := by decide +kernel
theorem dX1_init_38 : decode cX1_init 38 = .ok (.aaload, 1) := by decide +kernel
theorem dX1_init_39 : decode cX1_init 39 = .ok (.goto 4, 3) := by decide +kernel
theorem dX1_init_42 : decode cX1_init 42 = .ok (.aconst_null, 1) := by decide +kernel
theorem dX1_init_43 : decode cX1_init 43 = .ok (.putfield 13, 3) := by decide +kernel
theorem dX1_init_46 : decode cX1_init 46 = .ok (.aload_n 0, 1) := by decide +kernel
theorem dX1_init_47 : decode cX1_init 47 = .ok (.aload 4, 2) := by decide +kernel
theorem dX1_init_49 : decode cX1_init 49 = .ok (.putfield 16, 3) := by decide +kernel
theorem dX1_init_52 : decode cX1_init 52 = .ok (.aload_n 0, 1) := by decide +kernel
theorem dX1_init_53 : decode cX1_init 53 = .ok (.iload 5, 2) := by decide +kernel
theorem dX1_init_55 : decode cX1_init 55 = .ok (.putfield 20, 3) := by decide +kernel
theorem dX1_init_58 : decode cX1_init 58 = .ok (.return_, 1) := by decide +kernel
theorem dX1_exists_0 : decode cX1_exists 0 = .ok (.aload_n 0, 1) := by decide +kernel
theorem dX1_exists_1 : decode cX1_exists 1 = .ok (.getfield 7, 3) := by decide +kernel
theorem dX1_exists_4 : decode cX1_exists 4 = .ok (.ifnull 10, 3) := by decide +kernel
theorem dX1_exists_7 : decode cX1_exists 7 = .ok (.aload_n 0, 1) := by decide +kernel
theorem dX1_exists_8 : decode cX1_exists 8 = .ok (.getfield 13, 3) := by decide +kernel
theorem dX1_exists_11 : decode cX1_exists 11 = .ok (.ifnonnull 46, 3) := by decide +kernel
theorem dX1_exists_14 : decode cX1_exists 14 = .ok (.aload_n 0, 1) := by decide +kernel
theorem dX1_exists_15 : decode cX1_exists 15 = .ok (.getfield 16, 3) := by decide +kernel
theorem dX1_exists_18 : decode cX1_exists 18 = .ok (.ifnull 37, 3) := by decide +kernel
theorem dX1_exists_21 : decode cX1_exists 21 = .ok (.aload_n 0, 1) := by decide +kernel
theorem dX1_exists_22 : decode cX1_exists 22 = .ok (.getfield 16, 3) := by decide +kernel
theorem dX1_exists_25 : decode cX1_exists 25 = .ok (.getfield 24, 3) := by decide +kernel
theorem dX1_exists_28 : decode cX1_exists 28 = .ok (.ifCond .eq 27, 3) := by decide +kernel
theorem dX1_exists_31 : decode cX1_exists 31 = .ok (.aload_n 0, 1) := by decide +kernel
theorem dX1_exists_32 : decode cX1_exists 32 = .ok (.getfield 7, 3) := by decide +kernel
theorem dX1_exists_35 : decode cX1_exists 35 = .ok (.invokestatic 30, 3) := by decide +kernel
theorem dX1_exists_38 : decode cX1_exists 38 = .ok (.ifCond .ne 13, 3) := by decide +kernel
theorem dX1_exists_41 : decode cX1_exists 41 = .ok (.aload_n 0, 1) := by decide +kernel
theorem dX1_exists_42 : decode cX1_exists 42 = .ok (.getfield 13, 3) := by decide +kernel
theorem dX1_exists_45 : decode cX1_exists 45 = .ok (.invokestatic 30, 3) := by decide +kernel
theorem dX1_exists_48 : decode cX1_exists 48 = .ok (.ifCond .eq 7, 3) := by decide +kernel
theorem dX1_exists_51 : decode cX1_exists 51 = .ok (.iconst 1, 1) := by decide +kernel
theorem dX1_exists_52 : decode cX1_exists 52 = .ok (.goto 4, 3) := by decide +kernel
theorem dX1_exists_55 : decode cX1_exists 55 = .ok (.iconst 0, 1) := by decide +kernel
theorem dX1_exists_56 : decode cX1_exists 56 = .ok (.ireturn, 1) := by decide +kernel
theorem dX1_exists_57 : decode cX1_exists 57 = .ok (.aload_n 0, 1) := by decide +kernel
theorem dX1_exists_58 : decode cX1_exists 58 = .ok (.getfield 7, 3) := by decide +kernel
theorem dX1_exists_61 : decode cX1_exists 61 = .ok (.getfield 34, 3) := by decide +kernel
theorem dX1_exists_64 : decode cX1_exists 64 = .ok (.ifCond .eq 17, 3) := by decide +kernel
theorem dX1_exists_67 : decode cX1_exists 67 = .ok (.aload_n 0, 1) := by decide +kernel
theorem dX1_exists_68 : decode cX1_exists 68 = .ok (.getfield 13, 3) := by decide +kernel
theorem dX1_exists_71 : decode cX1_exists 71 = .ok (.getfield 34, 3) := by decide +kernel
theorem dX1_exists_74 : decode cX1_exists 74 = .ok (.ifCond .eq 7, 3) := by decide +kernel
theorem dX1_exists_77 : decode cX1_exists 77 = .ok (.iconst 1, 1) := by decide +kernel
theorem dX1_exists_78 : decode cX1_exists 78 = .ok (.goto 4, 3) := by decide +kernel
theorem dX1_exists_81 : decode cX1_exists 81 = .ok (.iconst 0, 1) := by decide +kernel
theorem dX1_exists_82 : decode cX1_exists 82 = .ok (.ireturn, 1) := by decide +kernel
theorem dX1_restAt_0 : decode cX1_restAt 0 = .ok (.aload_n 0, 1) := by decide +kernel
theorem dX1_restAt_1 : decode cX1_restAt 1 = .ok (.getfield 7, 3) := by decide +kernel
theorem dX1_restAt_4 : decode cX1_restAt 4 = .ok (.aload_n 1, 1) := by decide +kernel
theorem dX1_restAt_5 : decode cX1_restAt 5 = .ok (.if_acmp .eq 11, 3) := by decide +kernel
theorem dX1_restAt_8 : decode cX1_restAt 8 = .ok (.aload_n 0, 1) := by decide +kernel
theorem dX1_restAt_9 : decode cX1_restAt 9 = .ok (.getfield 13, 3) := by decide +kernel
theorem dX1_restAt_12 : decode cX1_restAt 12 = .ok (.aload_n 1, 1) := by decide +kernel
theorem dX1_restAt_13 : decode cX1_restAt 13 = .ok (.if_acmp .ne 8, 3) := by decide +kernel
theorem dX1_restAt_16 : decode cX1_restAt 16 = .ok (.aload_n 0, 1) := by decide +kernel
theorem dX1_restAt_17 : decode cX1_restAt 17 = .ok (.dconst 0, 1) := by decide +kernel
theorem dX1_restAt_18 : decode cX1_restAt 18 = .ok (.putfield 39, 3) := by decide +kernel
theorem dX1_restAt_21 : decode cX1_restAt 21 = .ok (.return_, 1) := by decide +kernel
theorem dX1_settle_0 : decode cX1_settle 0 = .ok (.aload_n 0, 1) := by decide +kernel
theorem dX1_settle_1 : decode cX1_settle 1 = .ok (.lconst 0, 1) := by decide +kernel
theorem dX1_settle_2 : decode cX1_settle 2 = .ok (.putfield 43, 3) := by decide +kernel
theorem dX1_settle_5 : decode cX1_settle 5 = .ok (.aload_n 0, 1) := by decide +kernel
theorem dX1_settle_6 : decode cX1_settle 6 = .ok (.invokevirtual 47, 3) := by decide +kernel
theorem dX1_settle_9 : decode cX1_settle 9 = .ok (.ifCond .ne 4, 3) := by decide +kernel
theorem dX1_settle_12 : decode cX1_settle 12 = .ok (.return_, 1) := by decide +kernel
theorem dX1_settle_13 : decode cX1_settle 13 = .ok (.aload_n 0, 1) := by decide +kernel
theorem dX1_settle_14 : decode cX1_settle 14 = .ok (.aload_n 0, 1) := by decide +kernel
theorem dX1_settle_15 : decode cX1_settle 15 = .ok (.getfield 7, 3) := by decide +kernel
theorem dX1_settle_18 : decode cX1_settle 18 = .ok (.invokevirtual 51, 3) := by decide +kernel
theorem dX1_settle_21 : decode cX1_settle 21 = .ok (.aload_n 0, 1) := by decide +kernel
theorem dX1_settle_22 : decode cX1_settle 22 = .ok (.aload_n 0, 1) := by decide +kernel
theorem dX1_settle_23 : decode cX1_settle 23 = .ok (.getfield 13, 3) := by decide +kernel
theorem dX1_settle_26 : decode cX1_settle 26 = .ok (.invokevirtual 51, 3) := by decide +kernel
theorem dX1_settle_29 : decode cX1_settle 29 = .ok (.dsub, 1) := by decide +kernel
theorem dX1_settle_30 : decode cX1_settle 30 = .ok (.dstore 5, 2) := by decide +kernel
theorem dX1_settle_32 : decode cX1_settle 32 = .ok (.aload_n 0, 1) := by decide +kernel
theorem dX1_settle_33 : decode cX1_settle 33 = .ok (.aload_n 0, 1) := by decide +kernel
theorem dX1_settle_34 : decode cX1_settle 34 = .ok (.getfield 39, 3) := by decide +kernel
theorem dX1_settle_37 : decode cX1_settle 37 = .ok (.dload_n 1, 1) := by decide +kernel
theorem dX1_settle_38 : decode cX1_settle 38 = .ok (.ldc2_w 55, 3) := by decide +kernel
theorem dX1_settle_41 : decode cX1_settle 41 = .ok (.dload 5, 2) := by decide +kernel
theorem dX1_settle_43 : decode cX1_settle 43 = .ok (.dmul, 1) := by decide +kernel
theorem dX1_settle_44 : decode cX1_settle 44 = .ok (.ldc2_w 57, 3) := by decide +kernel
theorem dX1_settle_47 : decode cX1_settle 47 = .ok (.dload_n 3, 1) := by decide +kernel
theorem dX1_settle_48 : decode cX1_settle 48 = .ok (.dmul, 1) := by decide +kernel
theorem dX1_settle_49 : decode cX1_settle 49 = .ok (.dadd, 1) := by decide +kernel
theorem dX1_settle_50 : decode cX1_settle 50 = .ok (.dmul, 1) := by decide +kernel
theorem dX1_settle_51 : decode cX1_settle 51 = .ok (.dadd, 1) := by decide +kernel
theorem dX1_settle_52 : decode cX1_settle 52 = .ok (.dconst 1, 1) := by decide +kernel
theorem dX1_settle_53 : decode cX1_settle 53 = .ok (.ldc2_w 59, 3) := by decide +kernel
theorem dX1_settle_56 : decode cX1_settle 56 = .ok (.dload_n 1, 1) := by decide +kernel
theorem dX1_settle_57 : decode cX1_settle 57 = .ok (.dmul, 1) := by decide +kernel
theorem dX1_settle_58 : decode cX1_settle 58 = .ok (.aload_n 0, 1) := by decide +kernel
theorem dX1_settle_59 : decode cX1_settle 59 = .ok (.getfield 39, 3) := by decide +kernel
theorem dX1_settle_62 : decode cX1_settle 62 = .ok (.invokestatic 61, 3) := by decide +kernel
theorem dX1_settle_65 : decode cX1_settle 65 = .ok (.dmul, 1) := by decide +kernel
theorem dX1_settle_66 : decode cX1_settle 66 = .ok (.dadd, 1) := by decide +kernel
theorem dX1_settle_67 : decode cX1_settle 67 = .ok (.ddiv, 1) := by decide +kernel
theorem dX1_settle_68 : decode cX1_settle 68 = .ok (.putfield 39, 3) := by decide +kernel
theorem dX1_settle_71 : decode cX1_settle 71 = .ok (.aload_n 0, 1) := by decide +kernel
theorem dX1_settle_72 : decode cX1_settle 72 = .ok (.aload_n 0, 1) := by decide +kernel
theorem dX1_settle_73 : decode cX1_settle 73 = .ok (.aload_n 0, 1) := by decide +kernel
theorem dX1_settle_74 : decode cX1_settle 74 = .ok (.getfield 39, 3) := by decide +kernel
theorem dX1_settle_77 : decode cX1_settle 77 = .ok (.dload_n 1, 1) := by decide +kernel
theorem dX1_settle_78 : decode cX1_settle 78 = .ok (.dmul, 1) := by decide +kernel
theorem dX1_settle_79 : decode cX1_settle 79 = .ok (.aload_n 0, 1) := by decide +kernel
theorem dX1_settle_80 : decode cX1_settle 80 = .ok (.invokevirtual 67, 3) := by decide +kernel
theorem dX1_settle_83 : decode cX1_settle 83 = .ok (.l2d, 1) := by decide +kernel
theorem dX1_settle_84 : decode cX1_settle 84 = .ok (.ldc2_w 71, 3) := by decide +kernel
theorem dX1_settle_87 : decode cX1_settle 87 = .ok (.dmul, 1) := by decide +kernel
theorem dX1_settle_88 : decode cX1_settle 88 = .ok (.dmul, 1) := by decide +kernel
theorem dX1_settle_89 : decode cX1_settle 89 = .ok (.d2l, 1) := by decide +kernel
theorem dX1_settle_90 : decode cX1_settle 90 = .ok (.invokevirtual 73, 3) := by decide +kernel
theorem dX1_settle_93 : decode cX1_settle 93 = .ok (.putfield 43, 3) := by decide +kernel
theorem dX1_settle_96 : decode cX1_settle 96 = .ok (.aload_n 0, 1) := by decide +kernel
theorem dX1_settle_97 : decode cX1_settle 97 = .ok (.getfield 7, 3) := by decide +kernel
theorem dX1_settle_100 : decode cX1_settle 100 = .ok (.ifnull 14, 3) := by decide +kernel
theorem dX1_settle_103 : decode cX1_settle 103 = .ok (.aload_n 0, 1) := by decide +kernel
theorem dX1_settle_104 : decode cX1_settle 104 = .ok (.getfield 7, 3) := by decide +kernel
theorem dX1_settle_107 : decode cX1_settle 107 = .ok (.aload_n 0, 1) := by decide +kernel
theorem dX1_settle_108 : decode cX1_settle 108 = .ok (.getfield 39, 3) := by decide +kernel
theorem dX1_settle_111 : decode cX1_settle 111 = .ok (.invokevirtual 77, 3) := by decide +kernel
theorem dX1_settle_114 : decode cX1_settle 114 = .ok (.aload_n 0, 1) := by decide +kernel
theorem dX1_settle_115 : decode cX1_settle 115 = .ok (.getfield 13, 3) := by decide +kernel
theorem dX1_settle_118 : decode cX1_settle 118 = .ok (.ifnull 14, 3) := by decide +kernel
theorem dX1_settle_121 : decode cX1_settle 121 = .ok (.aload_n 0, 1) := by decide +kernel
theorem dX1_settle_122 : decode cX1_settle 122 = .ok (.getfield 13, 3) := by decide +kernel
theorem dX1_settle_125 : decode cX1_settle 125 = .ok (.aload_n 0, 1) := by decide +kernel
theorem dX1_settle_126 : decode cX1_settle 126 = .ok (.getfield 39, 3) := by decide +kernel
theorem dX1_settle_129 : decode cX1_settle 129 = .ok (.invokevirtual 77, 3) := by decide +kernel
theorem dX1_settle_132 : decode cX1_settle 132 = .ok (.return_, 1) := by decide +kernel
theorem dX1_carry_0 : decode cX1_carry 0 = .ok (.aload_n 0, 1) := by decide +kernel
theorem dX1_carry_1 : decode cX1_carry 1 = .ok (.getfield 43, 3) := by decide +kernel
theorem dX1_carry_4 : decode cX1_carry 4 = .ok (.lconst 0, 1) := by decide +kernel
theorem dX1_carry_5 : decode cX1_carry 5 = .ok (.lcmp, 1) := by decide +kernel
theorem dX1_carry_6 : decode cX1_carry 6 = .ok (.ifCond .ne 4, 3) := by decide +kernel
theorem dX1_carry_9 : decode cX1_carry 9 = .ok (.return_, 1) := by decide +kernel
theorem dX1_carry_10 : decode cX1_carry 10 = .ok (.aload_n 0, 1) := by decide +kernel
theorem dX1_carry_11 : decode cX1_carry 11 = .ok (.getfield 43, 3) := by decide +kernel
theorem dX1_carry_14 : decode cX1_carry 14 = .ok (.lconst 0, 1) := by decide +kernel
theorem dX1_carry_15 : decode cX1_carry 15 = .ok (.lcmp, 1) := by decide +kernel
theorem dX1_carry_16 : decode cX1_carry 16 = .ok (.ifCond .ge 10, 3) := by decide +kernel
theorem dX1_carry_19 : decode cX1_carry 19 = .ok (.aload_n 0, 1) := by decide +kernel
theorem dX1_carry_20 : decode cX1_carry 20 = .ok (.getfield 13, 3) := by decide +kernel
theorem dX1_carry_23 : decode cX1_carry 23 = .ok (.goto 7, 3) := by decide +kernel
theorem dX1_carry_26 : decode cX1_carry 26 = .ok (.aload_n 0, 1) := by decide +kernel
theorem dX1_carry_27 : decode cX1_carry 27 = .ok (.getfield 7, 3) := by decide +kernel
theorem dX1_carry_30 : decode cX1_carry 30 = .ok (.astore_n 1, 1) := by decide +kernel
theorem dX1_carry_31 : decode cX1_carry 31 = .ok (.aload_n 0, 1) := by decide +kernel
theorem dX1_carry_32 : decode cX1_carry 32 = .ok (.getfield 43, 3) := by decide +kernel
theorem dX1_carry_35 : decode cX1_carry 35 = .ok (.lconst 0, 1) := by decide +kernel
theorem dX1_carry_36 : decode cX1_carry 36 = .ok (.lcmp, 1) := by decide +kernel
theorem dX1_carry_37 : decode cX1_carry 37 = .ok (.ifCond .ge 10, 3) := by decide +kernel
theorem dX1_carry_40 : decode cX1_carry 40 = .ok (.aload_n 0, 1) := by decide +kernel
theorem dX1_carry_41 : decode cX1_carry 41 = .ok (.getfield 7, 3) := by decide +kernel
theorem dX1_carry_44 : decode cX1_carry 44 = .ok (.goto 7, 3) := by decide +kernel
theorem dX1_carry_47 : decode cX1_carry 47 = .ok (.aload_n 0, 1) := by decide +kernel
theorem dX1_carry_48 : decode cX1_carry 48 = .ok (.getfield 13, 3) := by decide +kernel
theorem dX1_carry_51 : decode cX1_carry 51 = .ok (.astore_n 2, 1) := by decide +kernel
theorem dX1_carry_52 : decode cX1_carry 52 = .ok (.aload_n 0, 1) := by decide +kernel
theorem dX1_carry_53 : decode cX1_carry 53 = .ok (.getfield 43, 3) := by decide +kernel
theorem dX1_carry_56 : decode cX1_carry 56 = .ok (.lconst 0, 1) := by decide +kernel
theorem dX1_carry_57 : decode cX1_carry 57 = .ok (.lcmp, 1) := by decide +kernel
theorem dX1_carry_58 : decode cX1_carry 58 = .ok (.ifCond .ge 11, 3) := by decide +kernel
theorem dX1_carry_61 : decode cX1_carry 61 = .ok (.aload_n 0, 1) := by decide +kernel
theorem dX1_carry_62 : decode cX1_carry 62 = .ok (.getfield 43, 3) := by decide +kernel
theorem dX1_carry_65 : decode cX1_carry 65 = .ok (.lneg, 1) := by decide +kernel
theorem dX1_carry_66 : decode cX1_carry 66 = .ok (.goto 7, 3) := by decide +kernel
theorem dX1_carry_69 : decode cX1_carry 69 = .ok (.aload_n 0, 1) := by decide +kernel
theorem dX1_carry_70 : decode cX1_carry 70 = .ok (.getfield 43, 3) := by decide +kernel
theorem dX1_carry_73 : decode cX1_carry 73 = .ok (.lstore_n 3, 1) := by decide +kernel
theorem dX1_carry_74 : decode cX1_carry 74 = .ok (.aload_n 2, 1) := by decide +kernel
theorem dX1_carry_75 : decode cX1_carry 75 = .ok (.ifnull 36, 3) := by decide +kernel
theorem dX1_carry_78 : decode cX1_carry 78 = .ok (.aload_n 2, 1) := by decide +kernel
theorem dX1_carry_79 : decode cX1_carry 79 = .ok (.lload_n 3, 1) := by decide +kernel
theorem dX1_carry_80 : decode cX1_carry 80 = .ok (.aload_n 1, 1) := by decide +kernel
theorem dX1_carry_81 : decode cX1_carry 81 = .ok (.ifnonnull 9, 3) := by decide +kernel
theorem dX1_carry_84 : decode cX1_carry 84 = .ok (.ldc2_w 81, 3) := by decide +kernel
theorem dX1_carry_87 : decode cX1_carry 87 = .ok (.goto 7, 3) := by decide +kernel
theorem dX1_carry_90 : decode cX1_carry 90 = .ok (.aload_n 1, 1) := by decide +kernel
theorem dX1_carry_91 : decode cX1_carry 91 = .ok (.getfield 83, 3) := by decide +kernel
theorem dX1_carry_94 : decode cX1_carry 94 = .ok (.aload_n 1, 1) := by decide +kernel
theorem dX1_carry_95 : decode cX1_carry 95 = .ok (.ifnonnull 9, 3) := by decide +kernel
theorem dX1_carry_98 : decode cX1_carry 98 = .ok (.ldc2_w 86, 3) := by decide +kernel
theorem dX1_carry_101 : decode cX1_carry 101 = .ok (.goto 7, 3) := by decide +kernel
theorem dX1_carry_104 : decode cX1_carry 104 = .ok (.aload_n 1, 1) := by decide +kernel
theorem dX1_carry_105 : decode cX1_carry 105 = .ok (.getfield 88, 3) := by decide +kernel
theorem dX1_carry_108 : decode cX1_carry 108 = .ok (.invokevirtual 91, 3) := by decide +kernel
theorem dX1_carry_111 : decode cX1_carry 111 = .ok (.aload_n 1, 1) := by decide +kernel
theorem dX1_carry_112 : decode cX1_carry 112 = .ok (.ifnull 8, 3) := by decide +kernel
theorem dX1_carry_115 : decode cX1_carry 115 = .ok (.aload_n 1, 1) := by decide +kernel
theorem dX1_carry_116 : decode cX1_carry 116 = .ok (.lload_n 3, 1) := by decide +kernel
theorem dX1_carry_117 : decode cX1_carry 117 = .ok (.invokevirtual 95, 3) := by decide +kernel
theorem dX1_carry_120 : decode cX1_carry 120 = .ok (.aload_n 0, 1) := by decide +kernel
theorem dX1_carry_121 : decode cX1_carry 121 = .ok (.getfield 16, 3) := by decide +kernel
theorem dX1_carry_124 : decode cX1_carry 124 = .ok (.ifnull 28, 3) := by decide +kernel
theorem dX1_carry_127 : decode cX1_carry 127 = .ok (.aload_n 0, 1) := by decide +kernel
theorem dX1_carry_128 : decode cX1_carry 128 = .ok (.getfield 16, 3) := by decide +kernel
theorem dX1_carry_131 : decode cX1_carry 131 = .ok (.aload_n 0, 1) := by decide +kernel
theorem dX1_carry_132 : decode cX1_carry 132 = .ok (.getfield 16, 3) := by decide +kernel
theorem dX1_carry_135 : decode cX1_carry 135 = .ok (.getfield 99, 3) := by decide +kernel
theorem dX1_carry_138 : decode cX1_carry 138 = .ok (.aload_n 1, 1) := by decide +kernel
theorem dX1_carry_139 : decode cX1_carry 139 = .ok (.ifnonnull 7, 3) := by decide +kernel
theorem dX1_carry_142 : decode cX1_carry 142 = .ok (.lload_n 3, 1) := by decide +kernel
theorem dX1_carry_143 : decode cX1_carry 143 = .ok (.goto 5, 3) := by decide +kernel
theorem dX1_carry_146 : decode cX1_carry 146 = .ok (.lload_n 3, 1) := by decide +kernel
theorem dX1_carry_147 : decode cX1_carry 147 = .ok (.lneg, 1) := by decide +kernel
theorem dX1_carry_148 : decode cX1_carry 148 = .ok (.ladd, 1) := by decide +kernel
theorem dX1_carry_149 : decode cX1_carry 149 = .ok (.putfield 99, 3) := by decide +kernel
theorem dX1_carry_152 : decode cX1_carry 152 = .ok (.return_, 1) := by decide +kernel
theorem dX1_surfaceOf_0 : decode cX1_surfaceOf 0 = .ok (.aload_n 1, 1) := by decide +kernel
theorem dX1_surfaceOf_1 : decode cX1_surfaceOf 1 = .ok (.ifnull 8, 3) := by decide +kernel
theorem dX1_surfaceOf_4 : decode cX1_surfaceOf 4 = .ok (.aload_n 1, 1) := by decide +kernel
theorem dX1_surfaceOf_5 : decode cX1_surfaceOf 5 = .ok (.getfield 102, 3) := by decide +kernel
theorem dX1_surfaceOf_8 : decode cX1_surfaceOf 8 = .ok (.dreturn, 1) := by decide +kernel
theorem dX1_surfaceOf_9 : decode cX1_surfaceOf 9 = .ok (.aload_n 0, 1) := by decide +kernel
theorem dX1_surfaceOf_10 : decode cX1_surfaceOf 10 = .ok (.getfield 16, 3) := by decide +kernel
theorem dX1_surfaceOf_13 : decode cX1_surfaceOf 13 = .ok (.ifnonnull 7, 3) := by decide +kernel
theorem dX1_surfaceOf_16 : decode cX1_surfaceOf 16 = .ok (.dconst 0, 1) := by decide +kernel
theorem dX1_surfaceOf_17 : decode cX1_surfaceOf 17 = .ok (.goto 10, 3) := by decide +kernel
theorem dX1_surfaceOf_20 : decode cX1_surfaceOf 20 = .ok (.aload_n 0, 1) := by decide +kernel
theorem dX1_surfaceOf_21 : decode cX1_surfaceOf 21 = .ok (.getfield 16, 3) := by decide +kernel
theorem dX1_surfaceOf_24 : decode cX1_surfaceOf 24 = .ok (.getfield 105, 3) := by decide +kernel
theorem dX1_surfaceOf_27 : decode cX1_surfaceOf 27 = .ok (.dreturn, 1) := by decide +kernel
theorem dX1_lesserParts_0 : decode cX1_lesserParts 0 = .ok (.ldc2_w 110, 3) := by decide +kernel
theorem dX1_lesserParts_3 : decode cX1_lesserParts 3 = .ok (.lstore_n 1, 1) := by decide +kernel
theorem dX1_lesserParts_4 : decode cX1_lesserParts 4 = .ok (.aload_n 0, 1) := by decide +kernel
theorem dX1_lesserParts_5 : decode cX1_lesserParts 5 = .ok (.getfield 7, 3) := by decide +kernel
theorem dX1_lesserParts_8 : decode cX1_lesserParts 8 = .ok (.ifnull 15, 3) := by decide +kernel
theorem dX1_lesserParts_11 : decode cX1_lesserParts 11 = .ok (.lload_n 1, 1) := by decide +kernel
theorem dX1_lesserParts_12 : decode cX1_lesserParts 12 = .ok (.aload_n 0, 1) := by decide +kernel
theorem dX1_lesserParts_13 : decode cX1_lesserParts 13 = .ok (.getfield 7, 3) := by decide +kernel
theorem dX1_lesserParts_16 : decode cX1_lesserParts 16 = .ok (.getfield 112, 3) := by decide +kernel
theorem dX1_lesserParts_19 : decode cX1_lesserParts 19 = .ok (.invokestatic 115, 3) := by decide +kernel
theorem dX1_lesserParts_22 : decode cX1_lesserParts 22 = .ok (.lstore_n 1, 1) := by decide +kernel
theorem dX1_lesserParts_23 : decode cX1_lesserParts 23 = .ok (.aload_n 0, 1) := by decide +kernel
theorem dX1_lesserParts_24 : decode cX1_lesserParts 24 = .ok (.getfield 13, 3) := by decide +kernel
theorem dX1_lesserParts_27 : decode cX1_lesserParts 27 = .ok (.ifnonnull 7, 3) := by decide +kernel
theorem dX1_lesserParts_30 : decode cX1_lesserParts 30 = .ok (.lload_n 1, 1) := by decide +kernel
theorem dX1_lesserParts_31 : decode cX1_lesserParts 31 = .ok (.goto 14, 3) := by decide +kernel
theorem dX1_lesserParts_34 : decode cX1_lesserParts 34 = .ok (.lload_n 1, 1) := by decide +kernel
theorem dX1_lesserParts_35 : decode cX1_lesserParts 35 = .ok (.aload_n 0, 1) := by decide +kernel
theorem dX1_lesserParts_36 : decode cX1_lesserParts 36 = .ok (.getfield 13, 3) := by decide +kernel
theorem dX1_lesserParts_39 : decode cX1_lesserParts 39 = .ok (.getfield 112, 3) := by decide +kernel
theorem dX1_lesserParts_42 : decode cX1_lesserParts 42 = .ok (.invokestatic 115, 3) := by decide +kernel
theorem dX1_lesserParts_45 : decode cX1_lesserParts 45 = .ok (.lreturn, 1) := by decide +kernel
theorem dX1_limited_0 : decode cX1_limited 0 = .ok (.lload_n 1, 1) := by decide +kernel
theorem dX1_limited_1 : decode cX1_limited 1 = .ok (.lconst 0, 1) := by decide +kernel
theorem dX1_limited_2 : decode cX1_limited 2 = .ok (.lcmp, 1) := by decide +kernel
theorem dX1_limited_3 : decode cX1_limited 3 = .ok (.ifCond .ge 10, 3) := by decide +kernel
theorem dX1_limited_6 : decode cX1_limited 6 = .ok (.aload_n 0, 1) := by decide +kernel
theorem dX1_limited_7 : decode cX1_limited 7 = .ok (.getfield 13, 3) := by decide +kernel
theorem dX1_limited_10 : decode cX1_limited 10 = .ok (.goto 7, 3) := by decide +kernel
theorem dX1_limited_13 : decode cX1_limited 13 = .ok (.aload_n 0, 1) := by decide +kernel
theorem dX1_limited_14 : decode cX1_limited 14 = .ok (.getfield 7, 3) := by decide +kernel
theorem dX1_limited_17 : decode cX1_limited 17 = .ok (.astore_n 3, 1) := by decide +kernel
theorem dX1_limited_18 : decode cX1_limited 18 = .ok (.aload_n 3, 1) := by decide +kernel
theorem dX1_limited_19 : decode cX1_limited 19 = .ok (.ifnonnull 5, 3) := by decide +kernel
theorem dX1_limited_22 : decode cX1_limited 22 = .ok (.lload_n 1, 1) := by decide +kernel
theorem dX1_limited_23 : decode cX1_limited 23 = .ok (.lreturn, 1) := by decide +kernel
theorem dX1_limited_24 : decode cX1_limited 24 = .ok (.aload_n 3, 1) := by decide +kernel
theorem dX1_limited_25 : decode cX1_limited 25 = .ok (.invokevirtual 121, 3) := by decide +kernel
theorem dX1_limited_28 : decode cX1_limited 28 = .ok (.ifCond .eq 5, 3) := by decide +kernel
theorem dX1_limited_31 : decode cX1_limited 31 = .ok (.lconst 0, 1) := by decide +kernel
theorem dX1_limited_32 : decode cX1_limited 32 = .ok (.lreturn, 1) := by decide +kernel
theorem dX1_limited_33 : decode cX1_limited 33 = .ok (.aload_n 3, 1) := by decide +kernel
theorem dX1_limited_34 : decode cX1_limited 34 = .ok (.getfield 112, 3) := by decide +kernel
theorem dX1_limited_37 : decode cX1_limited 37 = .ok (.ldc2_w 124, 3) := by decide +kernel
theorem dX1_limited_40 : decode cX1_limited 40 = .ok (.ldiv, 1) := by decide +kernel
theorem dX1_limited_41 : decode cX1_limited 41 = .ok (.lstore 4, 2) := by decide +kernel
theorem dX1_limited_43 : decode cX1_limited 43 = .ok (.lload 4, 2) := by decide +kernel
theorem dX1_limited_45 : decode cX1_limited 45 = .ok (.lneg, 1) := by decide +kernel
theorem dX1_limited_46 : decode cX1_limited 46 = .ok (.lload 4, 2) := by decide +kernel
theorem dX1_limited_48 : decode cX1_limited 48 = .ok (.lload_n 1, 1) := by decide +kernel
theorem dX1_limited_49 : decode cX1_limited 49 = .ok (.invokestatic 115, 3) := by decide +kernel
theorem dX1_limited_52 : decode cX1_limited 52 = .ok (.invokestatic 126, 3) := by decide +kernel
theorem dX1_limited_55 : decode cX1_limited 55 = .ok (.lreturn, 1) := by decide +kernel
theorem dX1_isWater_0 : decode cX1_isWater 0 = .ok (.aload_n 0, 1) := by decide +kernel
theorem dX1_isWater_1 : decode cX1_isWater 1 = .ok (.ifnull 14, 3) := by decide +kernel
theorem dX1_isWater_4 : decode cX1_isWater 4 = .ok (.aload_n 0, 1) := by decide +kernel
theorem dX1_isWater_5 : decode cX1_isWater 5 = .ok (.getfield 34, 3) := by decide +kernel
theorem dX1_isWater_8 : decode cX1_isWater 8 = .ok (.ifCond .eq 7, 3) := by decide +kernel
theorem dX1_isWater_11 : decode cX1_isWater 11 = .ok (.iconst 1, 1) := by decide +kernel
theorem dX1_isWater_12 : decode cX1_isWater 12 = .ok (.goto 4, 3) := by decide +kernel
theorem dX1_isWater_15 : decode cX1_isWater 15 = .ok (.iconst 0, 1) := by decide +kernel
theorem dX1_isWater_16 : decode cX1_isWater 16 = .ok (.ireturn, 1) := by decide +kernel
end
section
theorem dX2_init_0 : decode cX2_init 0 = .ok (.aload_n 0, 1) := by decide +kernel
theorem dX2_init_1 : decode cX2_init 1 = .ok (.invokespecial 3, 3) := by decide +kernel
theorem dX2_init_4 : decode cX2_init 4 = .ok (.aload_n 0, 1) := by decide +kernel
theorem dX2_init_5 : decode cX2_init 5 = .ok (.bipush 8, 2) := by decide +kernel
theorem dX2_init_7 : decode cX2_init 7 = .ok (.newarray .long, 2) := by decide +kernel
theorem dX2_init_9 : decode cX2_init 9 = .ok (.putfield 9, 3) := by decide +kernel
theorem dX2_init_12 : decode cX2_init 12 = .ok (.return_, 1) := by decide +kernel
theorem dX2_settleIn_0 : decode cX2_settleIn 0 = .ok (.aload_n 0, 1) := by decide +kernel
theorem dX2_settleIn_1 : decode cX2_settleIn 1 = .ok (.aload_n 1, 1) := by decide +kernel
theorem dX2_settleIn_2 : decode cX2_settleIn 2 = .ok (.putfield 15, 3) := by decide +kernel
theorem dX2_settleIn_5 : decode cX2_settleIn 5 = .ok (.aload_n 0, 1) := by decide +kernel
theorem dX2_settleIn_6 : decode cX2_settleIn 6 = .ok (.iload_n 2, 1) := by decide +kernel
theorem dX2_settleIn_7 : decode cX2_settleIn 7 = .ok (.putfield 19, 3) := by decide +kernel
theorem dX2_settleIn_10 : decode cX2_settleIn 10 = .ok (.aload_n 1, 1) := by decide +kernel
theorem dX2_settleIn_11 : decode cX2_settleIn 11 = .ok (.aload_n 0, 1) := by decide +kernel
theorem dX2_settleIn_12 : decode cX2_settleIn 12 = .ok (.putfield 23, 3) := by decide +kernel
theorem dX2_settleIn_15 : decode cX2_settleIn 15 = .ok (.aload_n 0, 1) := by decide +kernel
theorem dX2_settleIn_16 : decode cX2_settleIn 16 = .ok (.aload_n 1, 1) := by decide +kernel
theorem dX2_settleIn_17 : decode cX2_settleIn 17 = .ok (.getfield 29, 3) := by decide +kernel
theorem dX2_settleIn_20 : decode cX2_settleIn 20 = .ok (.invokevirtual 33, 3) := by decide +kernel
theorem dX2_settleIn_23 : decode cX2_settleIn 23 = .ok (.return_, 1) := by decide +kernel
theorem dX2_leave_0 : decode cX2_leave 0 = .ok (.aload_n 0, 1) := by decide +kernel
theorem dX2_leave_1 : decode cX2_leave 1 = .ok (.aconst_null, 1) := by decide +kernel
theorem dX2_leave_2 : decode cX2_leave 2 = .ok (.putfield 15, 3) := by decide +kernel
theorem dX2_leave_5 : decode cX2_leave 5 = .ok (.return_, 1) := by decide +kernel
theorem dX2_grow_0 : decode cX2_grow 0 = .ok (.aload_n 0, 1) := by decide +kernel
theorem dX2_grow_1 : decode cX2_grow 1 = .ok (.getfield 19, 3) := by decide +kernel
theorem dX2_grow_4 : decode cX2_grow 4 = .ok (.iconst 1, 1) := by decide +kernel
theorem dX2_grow_5 : decode cX2_grow 5 = .ok (.if_icmp .ge 4, 3) := by decide +kernel
theorem dX2_grow_8 : decode cX2_grow 8 = .ok (.return_, 1) := by decide +kernel
theorem dX2_grow_9 : decode cX2_grow 9 = .ok (.lload_n 1, 1) := by decide +kernel
theorem dX2_grow_10 : decode cX2_grow 10 = .ok (.aload_n 0, 1) := by decide +kernel
theorem dX2_grow_11 : decode cX2_grow 11 = .ok (.getfield 19, 3) := by decide +kernel
theorem dX2_grow_14 : decode cX2_grow 14 = .ok (.i2l, 1) := by decide +kernel
theorem dX2_grow_15 : decode cX2_grow 15 = .ok (.ldiv, 1) := by decide +kernel
theorem dX2_grow_16 : decode cX2_grow 16 = .ok (.lstore_n 3, 1) := by decide +kernel
theorem dX2_grow_17 : decode cX2_grow 17 = .ok (.lload_n 1, 1) := by decide +kernel
theorem dX2_grow_18 : decode cX2_grow 18 = .ok (.aload_n 0, 1) := by decide +kernel
theorem dX2_grow_19 : decode cX2_grow 19 = .ok (.getfield 19, 3) := by decide +kernel
theorem dX2_grow_22 : decode cX2_grow 22 = .ok (.i2l, 1) := by decide +kernel
theorem dX2_grow_23 : decode cX2_grow 23 = .ok (.lrem, 1) := by decide +kernel
theorem dX2_grow_24 : decode cX2_grow 24 = .ok (.lstore 5, 2) := by decide +kernel
theorem dX2_grow_26 : decode cX2_grow 26 = .ok (.lload 5, 2) := by decide +kernel
theorem dX2_grow_28 : decode cX2_grow 28 = .ok (.lconst 0, 1) := by decide +kernel
theorem dX2_grow_29 : decode cX2_grow 29 = .ok (.lcmp, 1) := by decide +kernel
theorem dX2_grow_30 : decode cX2_grow 30 = .ok (.ifCond .ge 9, 3) := by decide +kernel
theorem dX2_grow_33 : decode cX2_grow 33 = .ok (.ldc2_w 37, 3) := by decide +kernel
theorem dX2_grow_36 : decode cX2_grow 36 = .ok (.goto 4, 3) := by decide +kernel
theorem dX2_grow_39 : decode cX2_grow 39 = .ok (.lconst 1, 1) := by decide +kernel
theorem dX2_grow_40 : decode cX2_grow 40 = .ok (.lstore 7, 2) := by decide +kernel
theorem dX2_grow_42 : decode cX2_grow 42 = .ok (.iconst 0, 1) := by decide +kernel
theorem dX2_grow_43 : decode cX2_grow 43 = .ok (.istore 9, 2) := by decide +kernel
theorem dX2_grow_45 : decode cX2_grow 45 = .ok (.iload 9, 2) := by decide +kernel
theorem dX2_grow_47 : decode cX2_grow 47 = .ok (.aload_n 0, 1) := by decide +kernel
theorem dX2_grow_48 : decode cX2_grow 48 = .ok (.getfield 19, 3) := by decide +kernel
theorem dX2_grow_51 : decode cX2_grow 51 = .ok (.if_icmp .ge 54, 3) := by decide +kernel
theorem dX2_grow_54 : decode cX2_grow 54 = .ok (.iload 9, 2) := by decide +kernel
theorem dX2_grow_56 : decode cX2_grow 56 = .ok (.aload_n 0, 1) := by decide +kernel
theorem dX2_grow_57 : decode cX2_grow 57 = .ok (.getfield 9, 3) := by decide +kernel
theorem dX2_grow_60 : decode cX2_grow 60 = .ok (.arraylength, 1) := by decide +kernel
theorem dX2_grow_61 : decode cX2_grow 61 = .ok (.if_icmp .ge 44, 3) := by decide +kernel
theorem dX2_grow_64 : decode cX2_grow 64 = .ok (.aload_n 0, 1) := by decide +kernel
theorem dX2_grow_65 : decode cX2_grow 65 = .ok (.getfield 9, 3) := by decide +kernel
theorem dX2_grow_68 : decode cX2_grow 68 = .ok (.iload 9, 2) := by decide +kernel
theorem dX2_grow_70 : decode cX2_grow 70 = .ok (.aload_n 0, 1) := by decide +kernel
theorem dX2_grow_71 : decode cX2_grow 71 = .ok (.getfield 9, 3) := by decide +kernel
theorem dX2_grow_74 : decode cX2_grow 74 = .ok (.iload 9, 2) := by decide +kernel
theorem dX2_grow_76 : decode cX2_grow 76 = .ok (.laload, 1) := by decide +kernel
theorem dX2_grow_77 : decode cX2_grow 77 = .ok (.lload_n 3, 1) := by decide +kernel
theorem dX2_grow_78 : decode cX2_grow 78 = .ok (.ladd, 1) := by decide +kernel
theorem dX2_grow_79 : decode cX2_grow 79 = .ok (.iload 9, 2) := by decide +kernel
theorem dX2_grow_81 : decode cX2_grow 81 = .ok (.i2l, 1) := by decide +kernel
theorem dX2_grow_82 : decode cX2_grow 82 = .ok (.lload 5, 2) := by decide +kernel
theorem dX2_grow_84 : decode cX2_grow 84 = .ok (.lload 7, 2) := by decide +kernel
theorem dX2_grow_86 : decode cX2_grow 86 = .ok (.lmul, 1) := by decide +kernel
theorem dX2_grow_87 : decode cX2_grow 87 = .ok (.lcmp, 1) := by decide +kernel
theorem dX2_grow_88 : decode cX2_grow 88 = .ok (.ifCond .ge 8, 3) := by decide +kernel
theorem dX2_grow_91 : decode cX2_grow 91 = .ok (.lload 7, 2) := by decide +kernel
theorem dX2_grow_93 : decode cX2_grow 93 = .ok (.goto 4, 3) := by decide +kernel
theorem dX2_grow_96 : decode cX2_grow 96 = .ok (.lconst 0, 1) := by decide +kernel
theorem dX2_grow_97 : decode cX2_grow 97 = .ok (.ladd, 1) := by decide +kernel
theorem dX2_grow_98 : decode cX2_grow 98 = .ok (.lastore, 1) := by decide +kernel
theorem dX2_grow_99 : decode cX2_grow 99 = .ok (.iinc 9 1, 3) := by decide +kernel
theorem dX2_grow_102 : decode cX2_grow 102 = .ok (.goto (-57), 3) := by decide +kernel
theorem dX2_grow_105 : decode cX2_grow 105 = .ok (.return_, 1) := by decide +kernel
theorem dX2_agrees_0 : decode cX2_agrees 0 = .ok (.aload_n 0, 1) := by decide +kernel
theorem dX2_agrees_1 : decode cX2_agrees 1 = .ok (.getfield 15, 3) := by decide +kernel
theorem dX2_agrees_4 : decode cX2_agrees 4 = .ok (.ifnonnull 5, 3) := by decide +kernel
theorem dX2_agrees_7 : decode cX2_agrees 7 = .ok (.iconst 0, 1) := by decide +kernel
theorem dX2_agrees_8 : decode cX2_agrees 8 = .ok (.ireturn, 1) := by decide +kernel
theorem dX2_agrees_9 : decode cX2_agrees 9 = .ok (.lconst 0, 1) := by decide +kernel
theorem dX2_agrees_10 : decode cX2_agrees 10 = .ok (.lstore_n 1, 1) := by decide +kernel
theorem dX2_agrees_11 : decode cX2_agrees 11 = .ok (.iconst 0, 1) := by decide +kernel
theorem dX2_agrees_12 : decode cX2_agrees 12 = .ok (.istore_n 3, 1) := by decide +kernel
theorem dX2_agrees_13 : decode cX2_agrees 13 = .ok (.iload_n 3, 1) := by decide +kernel
theorem dX2_agrees_14 : decode cX2_agrees 14 = .ok (.aload_n 0, 1) := by decide +kernel
theorem dX2_agrees_15 : decode cX2_agrees 15 = .ok (.getfield 19, 3) := by decide +kernel
theorem dX2_agrees_18 : decode cX2_agrees 18 = .ok (.if_icmp .ge 27, 3) := by decide +kernel
theorem dX2_agrees_21 : decode cX2_agrees 21 = .ok (.iload_n 3, 1) := by decide +kernel
theorem dX2_agrees_22 : decode cX2_agrees 22 = .ok (.aload_n 0, 1) := by decide +kernel
theorem dX2_agrees_23 : decode cX2_agrees 23 = .ok (.getfield 9, 3) := by decide +kernel
theorem dX2_agrees_26 : decode cX2_agrees 26 = .ok (.arraylength, 1) := by decide +kernel
theorem dX2_agrees_27 : decode cX2_agrees 27 = .ok (.if_icmp .ge 18, 3) := by decide +kernel
theorem dX2_agrees_30 : decode cX2_agrees 30 = .ok (.lload_n 1, 1) := by decide +kernel
theorem dX2_agrees_31 : decode cX2_agrees 31 = .ok (.aload_n 0, 1) := by decide +kernel
theorem dX2_agrees_32 : decode cX2_agrees 32 = .ok (.getfield 9, 3) := by decide +kernel
theorem dX2_agrees_35 : decode cX2_agrees 35 = .ok (.iload_n 3, 1) := by decide +kernel
theorem dX2_agrees_36 : decode cX2_agrees 36 = .ok (.laload, 1) := by decide +kernel
theorem dX2_agrees_37 : decode cX2_agrees 37 = .ok (.ladd, 1) := by decide +kernel
theorem dX2_agrees_38 : decode cX2_agrees 38 = .ok (.lstore_n 1, 1) := by decide +kernel
theorem dX2_agrees_39 : decode cX2_agrees 39 = .ok (.iinc 3 1, 3) := by decide +kernel
theorem dX2_agrees_42 : decode cX2_agrees 42 = .ok (.goto (-29), 3) := by decide +kernel
theorem dX2_agrees_45 : decode cX2_agrees 45 = .ok (.lload_n 1, 1) := by decide +kernel
theorem dX2_agrees_46 : decode cX2_agrees 46 = .ok (.aload_n 0, 1) := by decide +kernel
theorem dX2_agrees_47 : decode cX2_agrees 47 = .ok (.getfield 15, 3) := by decide +kernel
theorem dX2_agrees_50 : decode cX2_agrees 50 = .ok (.getfield 29, 3) := by decide +kernel
theorem dX2_agrees_53 : decode cX2_agrees 53 = .ok (.lcmp, 1) := by decide +kernel
theorem dX2_agrees_54 : decode cX2_agrees 54 = .ok (.ifCond .ne 7, 3) := by decide +kernel
theorem dX2_agrees_57 : decode cX2_agrees 57 = .ok (.iconst 1, 1) := by decide +kernel
theorem dX2_agrees_58 : decode cX2_agrees 58 = .ok (.goto 4, 3) := by decide +kernel
theorem dX2_agrees_61 : decode cX2_agrees 61 = .ok (.iconst 0, 1) := by decide +kernel
theorem dX2_agrees_62 : decode cX2_agrees 62 = .ok (.ireturn, 1) := by decide +kernel
end
section
theorem dX3_init_0 : decode cX3_init 0 = .ok (.aload_n 0, 1) := by decide +kernel
theorem dX3_init_1 : decode cX3_init 1 = .ok (.invokespecial 3, 3) := by decide +kernel
theorem dX3_init_4 : decode cX3_init 4 = .ok (.aload_n 0, 1) := by decide +kernel
theorem dX3_init_5 : decode cX3_init 5 = .ok (.bipush 8, 2) := by decide +kernel
theorem dX3_init_7 : decode cX3_init 7 = .ok (.newarray .double, 2) := by decide +kernel
theorem dX3_init_9 : decode cX3_init 9 = .ok (.putfield 9, 3) := by decide +kernel
theorem dX3_init_12 : decode cX3_init 12 = .ok (.aload_n 0, 1) := by decide +kernel
theorem dX3_init_13 : decode cX3_init 13 = .ok (.bipush 8, 2) := by decide +kernel
theorem dX3_init_15 : decode cX3_init 15 = .ok (.newarray .double, 2) := by decide +kernel
theorem dX3_init_17 : decode cX3_init 17 = .ok (.putfield 15, 3) := by decide +kernel
theorem dX3_init_20 : decode cX3_init 20 = .ok (.return_, 1) := by decide +kernel
theorem dX3_tell_0 : decode cX3_tell 0 = .ok (.iload_n 1, 1) := by decide +kernel
theorem dX3_tell_1 : decode cX3_tell 1 = .ok (.ifCond .lt 21, 3) := by decide +kernel
theorem dX3_tell_4 : decode cX3_tell 4 = .ok (.iload_n 1, 1) := by decide +kernel
theorem dX3_tell_5 : decode cX3_tell 5 = .ok (.aload_n 0, 1) := by decide +kernel
theorem dX3_tell_6 : decode cX3_tell 6 = .ok (.getfield 9, 3) := by decide +kernel
theorem dX3_tell_9 : decode cX3_tell 9 = .ok (.arraylength, 1) := by decide +kernel
theorem dX3_tell_10 : decode cX3_tell 10 = .ok (.if_icmp .ge 12, 3) := by decide +kernel
theorem dX3_tell_13 : decode cX3_tell 13 = .ok (.iload_n 1, 1) := by decide +kernel
theorem dX3_tell_14 : decode cX3_tell 14 = .ok (.aload_n 0, 1) := by decide +kernel
theorem dX3_tell_15 : decode cX3_tell 15 = .ok (.getfield 15, 3) := by decide +kernel
theorem dX3_tell_18 : decode cX3_tell 18 = .ok (.arraylength, 1) := by decide +kernel
theorem dX3_tell_19 : decode cX3_tell 19 = .ok (.if_icmp .lt 4, 3) := by decide +kernel
theorem dX3_tell_22 : decode cX3_tell 22 = .ok (.return_, 1) := by decide +kernel
theorem dX3_tell_23 : decode cX3_tell 23 = .ok (.aload_n 0, 1) := by decide +kernel
theorem dX3_tell_24 : decode cX3_tell 24 = .ok (.getfield 9, 3) := by decide +kernel
theorem dX3_tell_27 : decode cX3_tell 27 = .ok (.iload_n 1, 1) := by decide +kernel
theorem dX3_tell_28 : decode cX3_tell 28 = .ok (.dload_n 2, 1) := by decide +kernel
theorem dX3_tell_29 : decode cX3_tell 29 = .ok (.dastore, 1) := by decide +kernel
theorem dX3_tell_30 : decode cX3_tell 30 = .ok (.aload_n 0, 1) := by decide +kernel
theorem dX3_tell_31 : decode cX3_tell 31 = .ok (.getfield 15, 3) := by decide +kernel
theorem dX3_tell_34 : decode cX3_tell 34 = .ok (.iload_n 1, 1) := by decide +kernel
theorem dX3_tell_35 : decode cX3_tell 35 = .ok (.dload 4, 2) := by decide +kernel
theorem dX3_tell_37 : decode cX3_tell 37 = .ok (.dastore, 1) := by decide +kernel
theorem dX3_tell_38 : decode cX3_tell 38 = .ok (.aload_n 0, 1) := by decide +kernel
theorem dX3_tell_39 : decode cX3_tell 39 = .ok (.iconst 1, 1) := by decide +kernel
theorem dX3_tell_40 : decode cX3_tell 40 = .ok (.putfield 18, 3) := by decide +kernel
theorem dX3_tell_43 : decode cX3_tell 43 = .ok (.return_, 1) := by decide +kernel
theorem dX3_stand_0 : decode cX3_stand 0 = .ok (.aload_n 0, 1) := by decide +kernel
theorem dX3_stand_1 : decode cX3_stand 1 = .ok (.dconst 0, 1) := by decide +kernel
theorem dX3_stand_2 : decode cX3_stand 2 = .ok (.putfield 22, 3) := by decide +kernel
theorem dX3_stand_5 : decode cX3_stand 5 = .ok (.iconst 0, 1) := by decide +kernel
theorem dX3_stand_6 : decode cX3_stand 6 = .ok (.istore_n 3, 1) := by decide +kernel
theorem dX3_stand_7 : decode cX3_stand 7 = .ok (.aload_n 0, 1) := by decide +kernel
theorem dX3_stand_8 : decode cX3_stand 8 = .ok (.getfield 18, 3) := by decide +kernel
theorem dX3_stand_11 : decode cX3_stand 11 = .ok (.ifCond .eq 74, 3) := by decide +kernel
theorem dX3_stand_14 : decode cX3_stand 14 = .ok (.iload_n 3, 1) := by decide +kernel
theorem dX3_stand_15 : decode cX3_stand 15 = .ok (.aload_n 0, 1) := by decide +kernel
theorem dX3_stand_16 : decode cX3_stand 16 = .ok (.getfield 9, 3) := by decide +kernel
theorem dX3_stand_19 : decode cX3_stand 19 = .ok (.arraylength, 1) := by decide +kernel
theorem dX3_stand_20 : decode cX3_stand 20 = .ok (.if_icmp .ge 65, 3) := by decide +kernel
theorem dX3_stand_23 : decode cX3_stand 23 = .ok (.iload_n 3, 1) := by decide +kernel
theorem dX3_stand_24 : decode cX3_stand 24 = .ok (.aload_n 0, 1) := by decide +kernel
theorem dX3_stand_25 : decode cX3_stand 25 = .ok (.getfield 15, 3) := by decide +kernel
theorem dX3_stand_28 : decode cX3_stand 28 = .ok (.arraylength, 1) := by decide +kernel
theorem dX3_stand_29 : decode cX3_stand 29 = .ok (.if_icmp .ge 56, 3) := by decide +kernel
theorem dX3_stand_32 : decode cX3_stand 32 = .ok (.aload_n 0, 1) := by decide +kernel
theorem dX3_stand_33 : decode cX3_stand 33 = .ok (.getfield 9, 3) := by decide +kernel
theorem dX3_stand_36 : decode cX3_stand 36 = .ok (.iload_n 3, 1) := by decide +kernel
theorem dX3_stand_37 : decode cX3_stand 37 = .ok (.daload, 1) := by decide +kernel
theorem dX3_stand_38 : decode cX3_stand 38 = .ok (.dconst 0, 1) := by decide +kernel
theorem dX3_stand_39 : decode cX3_stand 39 = .ok (.dcmp .l, 1) := by decide +kernel
theorem dX3_stand_40 : decode cX3_stand 40 = .ok (.ifCond .le 39, 3) := by decide +kernel
theorem dX3_stand_43 : decode cX3_stand 43 = .ok (.aload_n 0, 1) := by decide +kernel
theorem dX3_stand_44 : decode cX3_stand 44 = .ok (.aload_n 0, 1) := by decide +kernel
theorem dX3_stand_45 : decode cX3_stand 45 = .ok (.getfield 22, 3) := by decide +kernel
theorem dX3_stand_48 : decode cX3_stand 48 = .ok (.aload_n 0, 1) := by decide +kernel
theorem dX3_stand_49 : decode cX3_stand 49 = .ok (.getfield 9, 3) := by decide +kernel
theorem dX3_stand_52 : decode cX3_stand 52 = .ok (.iload_n 3, 1) := by decide +kernel
theorem dX3_stand_53 : decode cX3_stand 53 = .ok (.daload, 1) := by decide +kernel
theorem dX3_stand_54 : decode cX3_stand 54 = .ok (.dload_n 1, 1) := by decide +kernel
theorem dX3_stand_55 : decode cX3_stand 55 = .ok (.sipush 3600, 3) := by decide +kernel
theorem dX3_stand_58 : decode cX3_stand 58 = .ok (.iload_n 3, 1) := by decide +kernel
theorem dX3_stand_59 : decode cX3_stand 59 = .ok (.iconst 1, 1) := by decide +kernel
theorem dX3_stand_60 : decode cX3_stand 60 = .ok (.iadd, 1) := by decide +kernel
theorem dX3_stand_61 : decode cX3_stand 61 = .ok (.imul, 1) := by decide +kernel
theorem dX3_stand_62 : decode cX3_stand 62 = .ok (.i2d, 1) := by decide +kernel
theorem dX3_stand_63 : decode cX3_stand 63 = .ok (.ddiv, 1) := by decide +kernel
theorem dX3_stand_64 : decode cX3_stand 64 = .ok (.aload_n 0, 1) := by decide +kernel
theorem dX3_stand_65 : decode cX3_stand 65 = .ok (.getfield 15, 3) := by decide +kernel
theorem dX3_stand_68 : decode cX3_stand 68 = .ok (.iload_n 3, 1) := by decide +kernel
theorem dX3_stand_69 : decode cX3_stand 69 = .ok (.daload, 1) := by decide +kernel
theorem dX3_stand_70 : decode cX3_stand 70 = .ok (.dadd, 1) := by decide +kernel
theorem dX3_stand_71 : decode cX3_stand 71 = .ok (.invokestatic 26, 3) := by decide +kernel
theorem dX3_stand_74 : decode cX3_stand 74 = .ok (.dmul, 1) := by decide +kernel
theorem dX3_stand_75 : decode cX3_stand 75 = .ok (.dadd, 1) := by decide +kernel
theorem dX3_stand_76 : decode cX3_stand 76 = .ok (.putfield 22, 3) := by decide +kernel
theorem dX3_stand_79 : decode cX3_stand 79 = .ok (.iinc 3 1, 3) := by decide +kernel
theorem dX3_stand_82 : decode cX3_stand 82 = .ok (.goto (-75), 3) := by decide +kernel
theorem dX3_stand_85 : decode cX3_stand 85 = .ok (.return_, 1) := by decide +kernel
end
section
theorem dX4_init_0 : decode cX4_init 0 = .ok (.aload_n 0, 1) := by decide +kernel
theorem dX4_init_1 : decode cX4_init 1 = .ok (.invokespecial 3, 3) := by decide +kernel
theorem dX4_init_4 : decode cX4_init 4 = .ok (.aload_n 0, 1) := by decide +kernel
theorem dX4_init_5 : decode cX4_init 5 = .ok (.bipush 80, 2) := by decide +kernel
theorem dX4_init_7 : decode cX4_init 7 = .ok (.newarray .long, 2) := by decide +kernel
theorem dX4_init_9 : decode cX4_init 9 = .ok (.putfield 9, 3) := by decide +kernel
theorem dX4_init_12 : decode cX4_init 12 = .ok (.aload_n 0, 1) := by decide +kernel
theorem dX4_init_13 : decode cX4_init 13 = .ok (.iconst 4, 1) := by decide +kernel
theorem dX4_init_14 : decode cX4_init 14 = .ok (.newarray .long, 2) := by decide +kernel
theorem dX4_init_16 : decode cX4_init 16 = .ok (.putfield 15, 3) := by decide +kernel
theorem dX4_init_19 : decode cX4_init 19 = .ok (.aload_n 0, 1) := by decide +kernel
theorem dX4_init_20 : decode cX4_init 20 = .ok (.iconst (-1), 1) := by decide +kernel
theorem dX4_init_21 : decode cX4_init 21 = .ok (.putfield 18, 3) := by decide +kernel
theorem dX4_init_24 : decode cX4_init 24 = .ok (.aload_n 0, 1) := by decide +kernel
theorem dX4_init_25 : decode cX4_init 25 = .ok (.iload_n 1, 1) := by decide +kernel
theorem dX4_init_26 : decode cX4_init 26 = .ok (.newarray .long, 2) := by decide +kernel
theorem dX4_init_28 : decode cX4_init 28 = .ok (.putfield 22, 3) := by decide +kernel
theorem dX4_init_31 : decode cX4_init 31 = .ok (.aload_n 0, 1) := by decide +kernel
theorem dX4_init_32 : decode cX4_init 32 = .ok (.iload_n 1, 1) := by decide +kernel
theorem dX4_init_33 : decode cX4_init 33 = .ok (.newarray .double, 2) := by decide +kernel
theorem dX4_init_35 : decode cX4_init 35 = .ok (.putfield 25, 3) := by decide +kernel
theorem dX4_init_38 : decode cX4_init 38 = .ok (.aload_n 0, 1) := by decide +kernel
theorem dX4_init_39 : decode cX4_init 39 = .ok (.iload_n 1, 1) := by decide +kernel
theorem dX4_init_40 : decode cX4_init 40 = .ok (.newarray .double, 2) := by decide +kernel
theorem dX4_init_42 : decode cX4_init 42 = .ok (.putfield 29, 3) := by decide +kernel
theorem dX4_init_45 : decode cX4_init 45 = .ok (.aload_n 0, 1) := by decide +kernel
theorem dX4_init_46 : decode cX4_init 46 = .ok (.iload_n 1, 1) := by decide +kernel
theorem dX4_init_47 : decode cX4_init 47 = .ok (.newarray .double, 2) := by decide +kernel
theorem dX4_init_49 : decode cX4_init 49 = .ok (.putfield 32, 3) := by decide +kernel
theorem dX4_init_52 : decode cX4_init 52 = .ok (.aload_n 0, 1) := by decide +kernel
theorem dX4_init_53 : decode cX4_init 53 = .ok (.iload_n 2, 1) := by decide +kernel
theorem dX4_init_54 : decode cX4_init 54 = .ok (.newarray .double, 2) := by decide +kernel
theorem dX4_init_56 : decode cX4_init 56 = .ok (.putfield 35, 3) := by decide +kernel
theorem dX4_init_59 : decode cX4_init 59 = .ok (.return_, 1) := by decide +kernel
theorem dX4_keepCells_0 : decode cX4_keepCells 0 = .ok (.iconst 0, 1) := by decide +kernel
theorem dX4_keepCells_1 : decode cX4_keepCells 1 = .ok (.istore_n 2, 1) := by decide +kernel
theorem dX4_keepCells_2 : decode cX4_keepCells 2 = .ok (.iload_n 2, 1) := by decide +kernel
theorem dX4_keepCells_3 : decode cX4_keepCells 3 = .ok (.aload_n 0, 1) := by decide +kernel
theorem dX4_keepCells_4 : decode cX4_keepCells 4 = .ok (.aload_n 1, 1) := by decide +kernel
theorem dX4_keepCells_5 : decode cX4_keepCells 5 = .ok (.invokevirtual 38, 3) := by decide +kernel
theorem dX4_keepCells_8 : decode cX4_keepCells 8 = .ok (.if_icmp .ge 57, 3) := by decide +kernel
theorem dX4_keepCells_11 : decode cX4_keepCells 11 = .ok (.aload_n 0, 1) := by decide +kernel
theorem dX4_keepCells_12 : decode cX4_keepCells 12 = .ok (.getfield 22, 3) := by decide +kernel
theorem dX4_keepCells_15 : decode cX4_keepCells 15 = .ok (.iload_n 2, 1) := by decide +kernel
theorem dX4_keepCells_16 : decode cX4_keepCells 16 = .ok (.aload_n 1, 1) := by decide +kernel
theorem dX4_keepCells_17 : decode cX4_keepCells 17 = .ok (.iload_n 2, 1) := by decide +kernel
theorem dX4_keepCells_18 : decode cX4_keepCells 18 = .ok (.aaload, 1) := by decide +kernel
theorem dX4_keepCells_19 : decode cX4_keepCells 19 = .ok (.getfield 42, 3) := by decide +kernel
theorem dX4_keepCells_22 : decode cX4_keepCells 22 = .ok (.lastore, 1) := by decide +kernel
theorem dX4_keepCells_23 : decode cX4_keepCells 23 = .ok (.aload_n 0, 1) := by decide +kernel
theorem dX4_keepCells_24 : decode cX4_keepCells 24 = .ok (.getfield 25, 3) := by decide +kernel
theorem dX4_keepCells_27 : decode cX4_keepCells 27 = .ok (.iload_n 2, 1) := by decide +kernel
theorem dX4_keepCells_28 : decode cX4_keepCells 28 = .ok (.aload_n 1, 1) := by decide +kernel
theorem dX4_keepCells_29 : decode cX4_keepCells 29 = .ok (.iload_n 2, 1) := by decide +kernel
theorem dX4_keepCells_30 : decode cX4_keepCells 30 = .ok (.aaload, 1) := by decide +kernel
theorem dX4_keepCells_31 : decode cX4_keepCells 31 = .ok (.getfield 47, 3) := by decide +kernel
theorem dX4_keepCells_34 : decode cX4_keepCells 34 = .ok (.dastore, 1) := by decide +kernel
theorem dX4_keepCells_35 : decode cX4_keepCells 35 = .ok (.aload_n 0, 1) := by decide +kernel
theorem dX4_keepCells_36 : decode cX4_keepCells 36 = .ok (.getfield 29, 3) := by decide +kernel
theorem dX4_keepCells_39 : decode cX4_keepCells 39 = .ok (.iload_n 2, 1) := by decide +kernel
theorem dX4_keepCells_40 : decode cX4_keepCells 40 = .ok (.aload_n 1, 1) := by decide +kernel
theorem dX4_keepCells_41 : decode cX4_keepCells 41 = .ok (.iload_n 2, 1) := by decide +kernel
theorem dX4_keepCells_42 : decode cX4_keepCells 42 = .ok (.aaload, 1) := by decide +kernel
theorem dX4_keepCells_43 : decode cX4_keepCells 43 = .ok (.getfield 50, 3) := by decide +kernel
theorem dX4_keepCells_46 : decode cX4_keepCells 46 = .ok (.dastore, 1) := by decide +kernel
theorem dX4_keepCells_47 : decode cX4_keepCells 47 = .ok (.aload_n 0, 1) := by decide +kernel
theorem dX4_keepCells_48 : decode cX4_keepCells 48 = .ok (.getfield 32, 3) := by decide +kernel
theorem dX4_keepCells_51 : decode cX4_keepCells 51 = .ok (.iload_n 2, 1) := by decide +kernel
theorem dX4_keepCells_52 : decode cX4_keepCells 52 = .ok (.aload_n 1, 1) := by decide +kernel
theorem dX4_keepCells_53 : decode cX4_keepCells 53 = .ok (.iload_n 2, 1) := by decide +kernel
theorem dX4_keepCells_54 : decode cX4_keepCells 54 = .ok (.aaload, 1) := by decide +kernel
theorem dX4_keepCells_55 : decode cX4_keepCells 55 = .ok (.getfield 52, 3) := by decide +kernel
theorem dX4_keepCells_58 : decode cX4_keepCells 58 = .ok (.dastore, 1) := by decide +kernel
theorem dX4_keepCells_59 : decode cX4_keepCells 59 = .ok (.iinc 2 1, 3) := by decide +kernel
theorem dX4_keepCells_62 : decode cX4_keepCells 62 = .ok (.goto (-60), 3) := by decide +kernel
theorem dX4_keepCells_65 : decode cX4_keepCells 65 = .ok (.return_, 1) := by decide +kernel
theorem dX4_giveCells_0 : decode cX4_giveCells 0 = .ok (.iconst 0, 1) := by decide +kernel
theorem dX4_giveCells_1 : decode cX4_giveCells 1 = .ok (.istore_n 2, 1) := by decide +kernel
theorem dX4_giveCells_2 : decode cX4_giveCells 2 = .ok (.iload_n 2, 1) := by decide +kernel
theorem dX4_giveCells_3 : decode cX4_giveCells 3 = .ok (.aload_n 0, 1) := by decide +kernel
theorem dX4_giveCells_4 : decode cX4_giveCells 4 = .ok (.aload_n 1, 1) := by decide +kernel
theorem dX4_giveCells_5 : decode cX4_giveCells 5 = .ok (.invokevirtual 38, 3) := by decide +kernel
theorem dX4_giveCells_8 : decode cX4_giveCells 8 = .ok (.if_icmp .ge 57, 3) := by decide +kernel
theorem dX4_giveCells_11 : decode cX4_giveCells 11 = .ok (.aload_n 1, 1) := by decide +kernel
theorem dX4_giveCells_12 : decode cX4_giveCells 12 = .ok (.iload_n 2, 1) := by decide +kernel
theorem dX4_giveCells_13 : decode cX4_giveCells 13 = .ok (.aaload, 1) := by decide +kernel
theorem dX4_giveCells_14 : decode cX4_giveCells 14 = .ok (.aload_n 0, 1) := by decide +kernel
theorem dX4_giveCells_15 : decode cX4_giveCells 15 = .ok (.getfield 22, 3) := by decide +kernel
theorem dX4_giveCells_18 : decode cX4_giveCells 18 = .ok (.iload_n 2, 1) := by decide +kernel
theorem dX4_giveCells_19 : decode cX4_giveCells 19 = .ok (.laload, 1) := by decide +kernel
theorem dX4_giveCells_20 : decode cX4_giveCells 20 = .ok (.putfield 42, 3) := by decide +kernel
theorem dX4_giveCells_23 : decode cX4_giveCells 23 = .ok (.aload_n 1, 1) := by decide +kernel
theorem dX4_giveCells_24 : decode cX4_giveCells 24 = .ok (.iload_n 2, 1) := by decide +kernel
theorem dX4_giveCells_25 : decode cX4_giveCells 25 = .ok (.aaload, 1) := by decide +kernel
theorem dX4_giveCells_26 : decode cX4_giveCells 26 = .ok (.aload_n 0, 1) := by decide +kernel
theorem dX4_giveCells_27 : decode cX4_giveCells 27 = .ok (.getfield 25, 3) := by decide +kernel
theorem dX4_giveCells_30 : decode cX4_giveCells 30 = .ok (.iload_n 2, 1) := by decide +kernel
theorem dX4_giveCells_31 : decode cX4_giveCells 31 = .ok (.daload, 1) := by decide +kernel
theorem dX4_giveCells_32 : decode cX4_giveCells 32 = .ok (.putfield 47, 3) := by decide +kernel
theorem dX4_giveCells_35 : decode cX4_giveCells 35 = .ok (.aload_n 1, 1) := by decide +kernel
theorem dX4_giveCells_36 : decode cX4_giveCells 36 = .ok (.iload_n 2, 1) := by decide +kernel
theorem dX4_giveCells_37 : decode cX4_giveCells 37 = .ok (.aaload, 1) := by decide +kernel
theorem dX4_giveCells_38 : decode cX4_giveCells 38 = .ok (.aload_n 0, 1) := by decide +kernel
theorem dX4_giveCells_39 : decode cX4_giveCells 39 = .ok (.getfield 29, 3) := by decide +kernel
theorem dX4_giveCells_42 : decode cX4_giveCells 42 = .ok (.iload_n 2, 1) := by decide +kernel
theorem dX4_giveCells_43 : decode cX4_giveCells 43 = .ok (.daload, 1) := by decide +kernel
theorem dX4_giveCells_44 : decode cX4_giveCells 44 = .ok (.putfield 50, 3) := by decide +kernel
theorem dX4_giveCells_47 : decode cX4_giveCells 47 = .ok (.aload_n 1, 1) := by decide +kernel
theorem dX4_giveCells_48 : decode cX4_giveCells 48 = .ok (.iload_n 2, 1) := by decide +kernel
theorem dX4_giveCells_49 : decode cX4_giveCells 49 = .ok (.aaload, 1) := by decide +kernel
theorem dX4_giveCells_50 : decode cX4_giveCells 50 = .ok (.aload_n 0, 1) := by decide +kernel
theorem dX4_giveCells_51 : decode cX4_giveCells 51 = .ok (.getfield 32, 3) := by decide +kernel
theorem dX4_giveCells_54 : decode cX4_giveCells 54 = .ok (.iload_n 2, 1) := by decide +kernel
theorem dX4_giveCells_55 : decode cX4_giveCells 55 = .ok (.daload, 1) := by decide +kernel
theorem dX4_giveCells_56 : decode cX4_giveCells 56 = .ok (.putfield 52, 3) := by decide +kernel
theorem dX4_giveCells_59 : decode cX4_giveCells 59 = .ok (.iinc 2 1, 3) := by decide +kernel
theorem dX4_giveCells_62 : decode cX4_giveCells 62 = .ok (.goto (-60), 3) := by decide +kernel
theorem dX4_giveCells_65 : decode cX4_giveCells 65 = .ok (.return_, 1) := by decide +kernel
theorem dX4_keepFaces_0 : decode cX4_keepFaces 0 = .ok (.iconst 0, 1) := by decide +kernel
theorem dX4_keepFaces_1 : decode cX4_keepFaces 1 = .ok (.istore_n 2, 1) := by decide +kernel
theorem dX4_keepFaces_2 : decode cX4_keepFaces 2 = .ok (.iload_n 2, 1) := by decide +kernel
theorem dX4_keepFaces_3 : decode cX4_keepFaces 3 = .ok (.aload_n 1, 1) := by decide +kernel
theorem dX4_keepFaces_4 : decode cX4_keepFaces 4 = .ok (.arraylength, 1) := by decide +kernel
theorem dX4_keepFaces_5 : decode cX4_keepFaces 5 = .ok (.if_icmp .ge 30, 3) := by decide +kernel
theorem dX4_keepFaces_8 : decode cX4_keepFaces 8 = .ok (.iload_n 2, 1) := by decide +kernel
theorem dX4_keepFaces_9 : decode cX4_keepFaces 9 = .ok (.aload_n 0, 1) := by decide +kernel
theorem dX4_keepFaces_10 : decode cX4_keepFaces 10 = .ok (.getfield 35, 3) := by decide +kernel
theorem dX4_keepFaces_13 : decode cX4_keepFaces 13 = .ok (.arraylength, 1) := by decide +kernel
theorem dX4_keepFaces_14 : decode cX4_keepFaces 14 = .ok (.if_icmp .ge 21, 3) := by decide +kernel
theorem dX4_keepFaces_17 : decode cX4_keepFaces 17 = .ok (.aload_n 0, 1) := by decide +kernel
theorem dX4_keepFaces_18 : decode cX4_keepFaces 18 = .ok (.getfield 35, 3) := by decide +kernel
theorem dX4_keepFaces_21 : decode cX4_keepFaces 21 = .ok (.iload_n 2, 1) := by decide +kernel
theorem dX4_keepFaces_22 : decode cX4_keepFaces 22 = .ok (.aload_n 1, 1) := by decide +kernel
theorem dX4_keepFaces_23 : decode cX4_keepFaces 23 = .ok (.iload_n 2, 1) := by decide +kernel
theorem dX4_keepFaces_24 : decode cX4_keepFaces 24 = .ok (.aaload, 1) := by decide +kernel
theorem dX4_keepFaces_25 : decode cX4_keepFaces 25 = .ok (.getfield 54, 3) := by decide +kernel
theorem dX4_keepFaces_28 : decode cX4_keepFaces 28 = .ok (.dastore, 1) := by decide +kernel
theorem dX4_keepFaces_29 : decode cX4_keepFaces 29 = .ok (.iinc 2 1, 3) := by decide +kernel
theorem dX4_keepFaces_32 : decode cX4_keepFaces 32 = .ok (.goto (-30), 3) := by decide +kernel
theorem dX4_keepFaces_35 : decode cX4_keepFaces 35 = .ok (.return_, 1) := by decide +kernel
theorem dX4_giveFaces_0 : decode cX4_giveFaces 0 = .ok (.iconst 0, 1) := by decide +kernel
theorem dX4_giveFaces_1 : decode cX4_giveFaces 1 = .ok (.istore_n 2, 1) := by decide +kernel
theorem dX4_giveFaces_2 : decode cX4_giveFaces 2 = .ok (.iload_n 2, 1) := by decide +kernel
theorem dX4_giveFaces_3 : decode cX4_giveFaces 3 = .ok (.aload_n 1, 1) := by decide +kernel
theorem dX4_giveFaces_4 : decode cX4_giveFaces 4 = .ok (.arraylength, 1) := by decide +kernel
theorem dX4_giveFaces_5 : decode cX4_giveFaces 5 = .ok (.if_icmp .ge 30, 3) := by decide +kernel
theorem dX4_giveFaces_8 : decode cX4_giveFaces 8 = .ok (.iload_n 2, 1) := by decide +kernel
theorem dX4_giveFaces_9 : decode cX4_giveFaces 9 = .ok (.aload_n 0, 1) := by decide +kernel
theorem dX4_giveFaces_10 : decode cX4_giveFaces 10 = .ok (.getfield 35, 3) := by decide +kernel
theorem dX4_giveFaces_13 : decode cX4_giveFaces 13 = .ok (.arraylength, 1) := by decide +kernel
theorem dX4_giveFaces_14 : decode cX4_giveFaces 14 = .ok (.if_icmp .ge 21, 3) := by decide +kernel
theorem dX4_giveFaces_17 : decode cX4_giveFaces 17 = .ok (.aload_n 1, 1) := by decide +kernel
theorem dX4_giveFaces_18 : decode cX4_giveFaces 18 = .ok (.iload_n 2, 1) := by decide +kernel
theorem dX4_giveFaces_19 : decode cX4_giveFaces 19 = .ok (.aaload, 1) := by decide +kernel
theorem dX4_giveFaces_20 : decode cX4_giveFaces 20 = .ok (.aload_n 0, 1) := by decide +kernel
theorem dX4_giveFaces_21 : decode cX4_giveFaces 21 = .ok (.getfield 35, 3) := by decide +kernel
theorem dX4_giveFaces_24 : decode cX4_giveFaces 24 = .ok (.iload_n 2, 1) := by decide +kernel
theorem dX4_giveFaces_25 : decode cX4_giveFaces 25 = .ok (.daload, 1) := by decide +kernel
theorem dX4_giveFaces_26 : decode cX4_giveFaces 26 = .ok (.putfield 54, 3) := by decide +kernel
theorem dX4_giveFaces_29 : decode cX4_giveFaces 29 = .ok (.iinc 2 1, 3) := by decide +kernel
theorem dX4_giveFaces_32 : decode cX4_giveFaces 32 = .ok (.goto (-30), 3) := by decide +kernel
theorem dX4_giveFaces_35 : decode cX4_giveFaces 35 = .ok (.return_, 1) := by decide +kernel
theorem dX4_keepNests_0 : decode cX4_keepNests 0 = .ok (.iconst 0, 1) := by decide +kernel
theorem dX4_keepNests_1 : decode cX4_keepNests 1 = .ok (.istore_n 2, 1) := by decide +kernel
theorem dX4_keepNests_2 : decode cX4_keepNests 2 = .ok (.iload_n 2, 1) := by decide +kernel
theorem dX4_keepNests_3 : decode cX4_keepNests 3 = .ok (.aload_n 0, 1) := by decide +kernel
theorem dX4_keepNests_4 : decode cX4_keepNests 4 = .ok (.getfield 9, 3) := by decide +kernel
theorem dX4_keepNests_7 : decode cX4_keepNests 7 = .ok (.arraylength, 1) := by decide +kernel
theorem dX4_keepNests_8 : decode cX4_keepNests 8 = .ok (.if_icmp .ge 38, 3) := by decide +kernel
theorem dX4_keepNests_11 : decode cX4_keepNests 11 = .ok (.iload_n 2, 1) := by decide +kernel
theorem dX4_keepNests_12 : decode cX4_keepNests 12 = .ok (.bipush 8, 2) := by decide +kernel
theorem dX4_keepNests_14 : decode cX4_keepNests 14 = .ok (.idiv, 1) := by decide +kernel
theorem dX4_keepNests_15 : decode cX4_keepNests 15 = .ok (.aload_n 1, 1) := by decide +kernel
theorem dX4_keepNests_16 : decode cX4_keepNests 16 = .ok (.arraylength, 1) := by decide +kernel
theorem dX4_keepNests_17 : decode cX4_keepNests 17 = .ok (.if_icmp .ge 29, 3) := by decide +kernel
theorem dX4_keepNests_20 : decode cX4_keepNests 20 = .ok (.aload_n 0, 1) := by decide +kernel
theorem dX4_keepNests_21 : decode cX4_keepNests 21 = .ok (.getfield 9, 3) := by decide +kernel
theorem dX4_keepNests_24 : decode cX4_keepNests 24 = .ok (.iload_n 2, 1) := by decide +kernel
theorem dX4_keepNests_25 : decode cX4_keepNests 25 = .ok (.aload_n 1, 1) := by decide +kernel
theorem dX4_keepNests_26 : decode cX4_keepNests 26 = .ok (.iload_n 2, 1) := by decide +kernel
theorem dX4_keepNests_27 : decode cX4_keepNests 27 = .ok (.bipush 8, 2) := by decide +kernel
theorem dX4_keepNests_29 : decode cX4_keepNests 29 = .ok (.idiv, 1) := by decide +kernel
theorem dX4_keepNests_30 : decode cX4_keepNests 30 = .ok (.aaload, 1) := by decide +kernel
theorem dX4_keepNests_31 : decode cX4_keepNests 31 = .ok (.getfield 59, 3) := by decide +kernel
theorem dX4_keepNests_34 : decode cX4_keepNests 34 = .ok (.iload_n 2, 1) := by decide +kernel
theorem dX4_keepNests_35 : decode cX4_keepNests 35 = .ok (.bipush 8, 2) := by decide +kernel
theorem dX4_keepNests_37 : decode cX4_keepNests 37 = .ok (.irem, 1) := by decide +kernel
theorem dX4_keepNests_38 : decode cX4_keepNests 38 = .ok (.laload, 1) := by decide +kernel
theorem dX4_keepNests_39 : decode cX4_keepNests 39 = .ok (.lastore, 1) := by decide +kernel
theorem dX4_keepNests_40 : decode cX4_keepNests 40 = .ok (.iinc 2 1, 3) := by decide +kernel
theorem dX4_keepNests_43 : decode cX4_keepNests 43 = .ok (.goto (-41), 3) := by decide +kernel
theorem dX4_keepNests_46 : decode cX4_keepNests 46 = .ok (.return_, 1) := by decide +kernel
theorem dX4_giveNests_0 : decode cX4_giveNests 0 = .ok (.iconst 0, 1) := by decide +kernel
theorem dX4_giveNests_1 : decode cX4_giveNests 1 = .ok (.istore_n 2, 1) := by decide +kernel
theorem dX4_giveNests_2 : decode cX4_giveNests 2 = .ok (.iload_n 2, 1) := by decide +kernel
theorem dX4_giveNests_3 : decode cX4_giveNests 3 = .ok (.aload_n 0, 1) := by decide +kernel
theorem dX4_giveNests_4 : decode cX4_giveNests 4 = .ok (.getfield 9, 3) := by decide +kernel
theorem dX4_giveNests_7 : decode cX4_giveNests 7 = .ok (.arraylength, 1) := by decide +kernel
theorem dX4_giveNests_8 : decode cX4_giveNests 8 = .ok (.if_icmp .ge 38, 3) := by decide +kernel
theorem dX4_giveNests_11 : decode cX4_giveNests 11 = .ok (.iload_n 2, 1) := by decide +kernel
theorem dX4_giveNests_12 : decode cX4_giveNests 12 = .ok (.bipush 8, 2) := by decide +kernel
theorem dX4_giveNests_14 : decode cX4_giveNests 14 = .ok (.idiv, 1) := by decide +kernel
theorem dX4_giveNests_15 : decode cX4_giveNests 15 = .ok (.aload_n 1, 1) := by decide +kernel
theorem dX4_giveNests_16 : decode cX4_giveNests 16 = .ok (.arraylength, 1) := by decide +kernel
theorem dX4_giveNests_17 : decode cX4_giveNests 17 = .ok (.if_icmp .ge 29, 3) := by decide +kernel
theorem dX4_giveNests_20 : decode cX4_giveNests 20 = .ok (.aload_n 1, 1) := by decide +kernel
theorem dX4_giveNests_21 : decode cX4_giveNests 21 = .ok (.iload_n 2, 1) := by decide +kernel
theorem dX4_giveNests_22 : decode cX4_giveNests 22 = .ok (.bipush 8, 2) := by decide +kernel
theorem dX4_giveNests_24 : decode cX4_giveNests 24 = .ok (.idiv, 1) := by decide +kernel
theorem dX4_giveNests_25 : decode cX4_giveNests 25 = .ok (.aaload, 1) := by decide +kernel
theorem dX4_giveNests_26 : decode cX4_giveNests 26 = .ok (.getfield 59, 3) := by decide +kernel
theorem dX4_giveNests_29 : decode cX4_giveNests 29 = .ok (.iload_n 2, 1) := by decide +kernel
theorem dX4_giveNests_30 : decode cX4_giveNests 30 = .ok (.bipush 8, 2) := by decide +kernel
theorem dX4_giveNests_32 : decode cX4_giveNests 32 = .ok (.irem, 1) := by decide +kernel
theorem dX4_giveNests_33 : decode cX4_giveNests 33 = .ok (.aload_n 0, 1) := by decide +kernel
theorem dX4_giveNests_34 : decode cX4_giveNests 34 = .ok (.getfield 9, 3) := by decide +kernel
theorem dX4_giveNests_37 : decode cX4_giveNests 37 = .ok (.iload_n 2, 1) := by decide +kernel
theorem dX4_giveNests_38 : decode cX4_giveNests 38 = .ok (.laload, 1) := by decide +kernel
theorem dX4_giveNests_39 : decode cX4_giveNests 39 = .ok (.lastore, 1) := by decide +kernel
theorem dX4_giveNests_40 : decode cX4_giveNests 40 = .ok (.iinc 2 1, 3) := by decide +kernel
theorem dX4_giveNests_43 : decode cX4_giveNests 43 = .ok (.goto (-41), 3) := by decide +kernel
theorem dX4_giveNests_46 : decode cX4_giveNests 46 = .ok (.return_, 1) := by decide +kernel
theorem dX4_keepSides_0 : decode cX4_keepSides 0 = .ok (.iconst 0, 1) := by decide +kernel
theorem dX4_keepSides_1 : decode cX4_keepSides 1 = .ok (.istore_n 2, 1) := by decide +kernel
theorem dX4_keepSides_2 : decode cX4_keepSides 2 = .ok (.iload_n 2, 1) := by decide +kernel
theorem dX4_keepSides_3 : decode cX4_keepSides 3 = .ok (.aload_n 1, 1) := by decide +kernel
theorem dX4_keepSides_4 : decode cX4_keepSides 4 = .ok (.arraylength, 1) := by decide +kernel
theorem dX4_keepSides_5 : decode cX4_keepSides 5 = .ok (.if_icmp .ge 30, 3) := by decide +kernel
theorem dX4_keepSides_8 : decode cX4_keepSides 8 = .ok (.iload_n 2, 1) := by decide +kernel
theorem dX4_keepSides_9 : decode cX4_keepSides 9 = .ok (.aload_n 0, 1) := by decide +kernel
theorem dX4_keepSides_10 : decode cX4_keepSides 10 = .ok (.getfield 15, 3) := by decide +kernel
theorem dX4_keepSides_13 : decode cX4_keepSides 13 = .ok (.arraylength, 1) := by decide +kernel
theorem dX4_keepSides_14 : decode cX4_keepSides 14 = .ok (.if_icmp .ge 21, 3) := by decide +kernel
theorem dX4_keepSides_17 : decode cX4_keepSides 17 = .ok (.aload_n 0, 1) := by decide +kernel
theorem dX4_keepSides_18 : decode cX4_keepSides 18 = .ok (.getfield 15, 3) := by decide +kernel
theorem dX4_keepSides_21 : decode cX4_keepSides 21 = .ok (.iload_n 2, 1) := by decide +kernel
theorem dX4_keepSides_22 : decode cX4_keepSides 22 = .ok (.aload_n 1, 1) := by decide +kernel
theorem dX4_keepSides_23 : decode cX4_keepSides 23 = .ok (.iload_n 2, 1) := by decide +kernel
theorem dX4_keepSides_24 : decode cX4_keepSides 24 = .ok (.aaload, 1) := by decide +kernel
theorem dX4_keepSides_25 : decode cX4_keepSides 25 = .ok (.getfield 62, 3) := by decide +kernel
theorem dX4_keepSides_28 : decode cX4_keepSides 28 = .ok (.lastore, 1) := by decide +kernel
theorem dX4_keepSides_29 : decode cX4_keepSides 29 = .ok (.iinc 2 1, 3) := by decide +kernel
theorem dX4_keepSides_32 : decode cX4_keepSides 32 = .ok (.goto (-30), 3) := by decide +kernel
theorem dX4_keepSides_35 : decode cX4_keepSides 35 = .ok (.return_, 1) := by decide +kernel
theorem dX4_giveSides_0 : decode cX4_giveSides 0 = .ok (.iconst 0, 1) := by decide +kernel
theorem dX4_giveSides_1 : decode cX4_giveSides 1 = .ok (.istore_n 2, 1) := by decide +kernel
theorem dX4_giveSides_2 : decode cX4_giveSides 2 = .ok (.iload_n 2, 1) := by decide +kernel
theorem dX4_giveSides_3 : decode cX4_giveSides 3 = .ok (.aload_n 1, 1) := by decide +kernel
theorem dX4_giveSides_4 : decode cX4_giveSides 4 = .ok (.arraylength, 1) := by decide +kernel
theorem dX4_giveSides_5 : decode cX4_giveSides 5 = .ok (.if_icmp .ge 30, 3) := by decide +kernel
theorem dX4_giveSides_8 : decode cX4_giveSides 8 = .ok (.iload_n 2, 1) := by decide +kernel
theorem dX4_giveSides_9 : decode cX4_giveSides 9 = .ok (.aload_n 0, 1) := by decide +kernel
theorem dX4_giveSides_10 : decode cX4_giveSides 10 = .ok (.getfield 15, 3) := by decide +kernel
theorem dX4_giveSides_13 : decode cX4_giveSides 13 = .ok (.arraylength, 1) := by decide +kernel
theorem dX4_giveSides_14 : decode cX4_giveSides 14 = .ok (.if_icmp .ge 21, 3) := by decide +kernel
theorem dX4_giveSides_17 : decode cX4_giveSides 17 = .ok (.aload_n 1, 1) := by decide +kernel
theorem dX4_giveSides_18 : decode cX4_giveSides 18 = .ok (.iload_n 2, 1) := by decide +kernel
theorem dX4_giveSides_19 : decode cX4_giveSides 19 = .ok (.aaload, 1) := by decide +kernel
theorem dX4_giveSides_20 : decode cX4_giveSides 20 = .ok (.aload_n 0, 1) := by decide +kernel
theorem dX4_giveSides_21 : decode cX4_giveSides 21 = .ok (.getfield 15, 3) := by decide +kernel
theorem dX4_giveSides_24 : decode cX4_giveSides 24 = .ok (.iload_n 2, 1) := by decide +kernel
theorem dX4_giveSides_25 : decode cX4_giveSides 25 = .ok (.laload, 1) := by decide +kernel
theorem dX4_giveSides_26 : decode cX4_giveSides 26 = .ok (.putfield 62, 3) := by decide +kernel
theorem dX4_giveSides_29 : decode cX4_giveSides 29 = .ok (.iinc 2 1, 3) := by decide +kernel
theorem dX4_giveSides_32 : decode cX4_giveSides 32 = .ok (.goto (-30), 3) := by decide +kernel
theorem dX4_giveSides_35 : decode cX4_giveSides 35 = .ok (.return_, 1) := by decide +kernel
theorem dX4_cellsIn_0 : decode cX4_cellsIn 0 = .ok (.aload_n 1, 1) := by decide +kernel
theorem dX4_cellsIn_1 : decode cX4_cellsIn 1 = .ok (.arraylength, 1) := by decide +kernel
theorem dX4_cellsIn_2 : decode cX4_cellsIn 2 = .ok (.aload_n 0, 1) := by decide +kernel
theorem dX4_cellsIn_3 : decode cX4_cellsIn 3 = .ok (.getfield 22, 3) := by decide +kernel
theorem dX4_cellsIn_6 : decode cX4_cellsIn 6 = .ok (.arraylength, 1) := by decide +kernel
theorem dX4_cellsIn_7 : decode cX4_cellsIn 7 = .ok (.invokestatic 66, 3) := by decide +kernel
theorem dX4_cellsIn_10 : decode cX4_cellsIn 10 = .ok (.ireturn, 1) := by decide +kernel
end
section
theorem dX5_init_0 : decode cX5_init 0 = .ok (.aload_n 0, 1) := by decide +kernel
theorem dX5_init_1 : decode cX5_init 1 = .ok (.invokespecial 3, 3) := by decide +kernel
theorem dX5_init_4 : decode cX5_init 4 = .ok (.aload_n 0, 1) := by decide +kernel
theorem dX5_init_5 : decode cX5_init 5 = .ok (.bipush 40, 2) := by decide +kernel
theorem dX5_init_7 : decode cX5_init 7 = .ok (.newarray .double, 2) := by decide +kernel
theorem dX5_init_9 : decode cX5_init 9 = .ok (.putfield 9, 3) := by decide +kernel
theorem dX5_init_12 : decode cX5_init 12 = .ok (.aload_n 0, 1) := by decide +kernel
theorem dX5_init_13 : decode cX5_init 13 = .ok (.bipush 40, 2) := by decide +kernel
theorem dX5_init_15 : decode cX5_init 15 = .ok (.newarray .double, 2) := by decide +kernel
theorem dX5_init_17 : decode cX5_init 17 = .ok (.putfield 15, 3) := by decide +kernel
theorem dX5_init_20 : decode cX5_init 20 = .ok (.aload_n 0, 1) := by decide +kernel
theorem dX5_init_21 : decode cX5_init 21 = .ok (.iconst 5, 1) := by decide +kernel
theorem dX5_init_22 : decode cX5_init 22 = .ok (.iconst 5, 1) := by decide +kernel
theorem dX5_init_23 : decode cX5_init 23 = .ok (.multianewarray 18 2, 4) := by decide +kernel
theorem dX5_init_27 : decode cX5_init 27 = .ok (.putfield 20, 3) := by decide +kernel
theorem dX5_init_30 : decode cX5_init 30 = .ok (.aload_n 0, 1) := by decide +kernel
theorem dX5_init_31 : decode cX5_init 31 = .ok (.iconst 5, 1) := by decide +kernel
theorem dX5_init_32 : decode cX5_init 32 = .ok (.newarray .double, 2) := by decide +kernel
theorem dX5_init_34 : decode cX5_init 34 = .ok (.putfield 23, 3) := by decide +kernel
theorem dX5_init_37 : decode cX5_init 37 = .ok (.aload_n 0, 1) := by decide +kernel
theorem dX5_init_38 : decode cX5_init 38 = .ok (.iconst 5, 1) := by decide +kernel
theorem dX5_init_39 : decode cX5_init 39 = .ok (.newarray .boolean, 2) := by decide +kernel
theorem dX5_init_41 : decode cX5_init 41 = .ok (.putfield 26, 3) := by decide +kernel
theorem dX5_init_44 : decode cX5_init 44 = .ok (.aload_n 0, 1) := by decide +kernel
theorem dX5_init_45 : decode cX5_init 45 = .ok (.iconst 5, 1) := by decide +kernel
theorem dX5_init_46 : decode cX5_init 46 = .ok (.newarray .double, 2) := by decide +kernel
theorem dX5_init_48 : decode cX5_init 48 = .ok (.putfield 30, 3) := by decide +kernel
theorem dX5_init_51 : decode cX5_init 51 = .ok (.aload_n 0, 1) := by decide +kernel
theorem dX5_init_52 : decode cX5_init 52 = .ok (.iconst 5, 1) := by decide +kernel
theorem dX5_init_53 : decode cX5_init 53 = .ok (.newarray .double, 2) := by decide +kernel
theorem dX5_init_55 : decode cX5_init 55 = .ok (.putfield 33, 3) := by decide +kernel
theorem dX5_init_58 : decode cX5_init 58 = .ok (.return_, 1) := by decide +kernel
theorem dX5_note_0 : decode cX5_note 0 = .ok (.aload_n 0, 1) := by decide +kernel
theorem dX5_note_1 : decode cX5_note 1 = .ok (.getfield 36, 3) := by decide +kernel
theorem dX5_note_4 : decode cX5_note 4 = .ok (.istore 5, 2) := by decide +kernel
theorem dX5_note_6 : decode cX5_note 6 = .ok (.iload 5, 2) := by decide +kernel
theorem dX5_note_8 : decode cX5_note 8 = .ok (.ifCond .lt 23, 3) := by decide +kernel
theorem dX5_note_11 : decode cX5_note 11 = .ok (.iload 5, 2) := by decide +kernel
theorem dX5_note_13 : decode cX5_note 13 = .ok (.aload_n 0, 1) := by decide +kernel
theorem dX5_note_14 : decode cX5_note 14 = .ok (.getfield 9, 3) := by decide +kernel
theorem dX5_note_17 : decode cX5_note 17 = .ok (.arraylength, 1) := by decide +kernel
theorem dX5_note_18 : decode cX5_note 18 = .ok (.if_icmp .ge 13, 3) := by decide +kernel
theorem dX5_note_21 : decode cX5_note 21 = .ok (.iload 5, 2) := by decide +kernel
theorem dX5_note_23 : decode cX5_note 23 = .ok (.aload_n 0, 1) := by decide +kernel
theorem dX5_note_24 : decode cX5_note 24 = .ok (.getfield 15, 3) := by decide +kernel
theorem dX5_note_27 : decode cX5_note 27 = .ok (.arraylength, 1) := by decide +kernel
theorem dX5_note_28 : decode cX5_note 28 = .ok (.if_icmp .lt 5, 3) := by decide +kernel
theorem dX5_note_31 : decode cX5_note 31 = .ok (.iconst 0, 1) := by decide +kernel
theorem dX5_note_32 : decode cX5_note 32 = .ok (.ireturn, 1) := by decide +kernel
theorem dX5_note_33 : decode cX5_note 33 = .ok (.aload_n 0, 1) := by decide +kernel
theorem dX5_note_34 : decode cX5_note 34 = .ok (.getfield 9, 3) := by decide +kernel
theorem dX5_note_37 : decode cX5_note 37 = .ok (.iload 5, 2) := by decide +kernel
theorem dX5_note_39 : decode cX5_note 39 = .ok (.dload_n 1, 1) := by decide +kernel
theorem dX5_note_40 : decode cX5_note 40 = .ok (.dastore, 1) := by decide +kernel
theorem dX5_note_41 : decode cX5_note 41 = .ok (.aload_n 0, 1) := by decide +kernel
theorem dX5_note_42 : decode cX5_note 42 = .ok (.getfield 15, 3) := by decide +kernel
theorem dX5_note_45 : decode cX5_note 45 = .ok (.iload 5, 2) := by decide +kernel
theorem dX5_note_47 : decode cX5_note 47 = .ok (.dload_n 3, 1) := by decide +kernel
theorem dX5_note_48 : decode cX5_note 48 = .ok (.dastore, 1) := by decide +kernel
theorem dX5_note_49 : decode cX5_note 49 = .ok (.aload_n 0, 1) := by decide +kernel
theorem dX5_note_50 : decode cX5_note 50 = .ok (.iload 5, 2) := by decide +kernel
theorem dX5_note_52 : decode cX5_note 52 = .ok (.iconst 1, 1) := by decide +kernel
theorem dX5_note_53 : decode cX5_note 53 = .ok (.iadd, 1) := by decide +kernel
theorem dX5_note_54 : decode cX5_note 54 = .ok (.putfield 36, 3) := by decide +kernel
theorem dX5_note_57 : decode cX5_note 57 = .ok (.iconst 1, 1) := by decide +kernel
theorem dX5_note_58 : decode cX5_note 58 = .ok (.ireturn, 1) := by decide +kernel
theorem dX5_solve_0 : decode cX5_solve 0 = .ok (.iload_n 1, 1) := by decide +kernel
theorem dX5_solve_1 : decode cX5_solve 1 = .ok (.iconst 5, 1) := by decide +kernel
theorem dX5_solve_2 : decode cX5_solve 2 = .ok (.invokestatic 40, 3) := by decide +kernel
theorem dX5_solve_5 : decode cX5_solve 5 = .ok (.istore_n 2, 1) := by decide +kernel
theorem dX5_solve_6 : decode cX5_solve 6 = .ok (.aload_n 0, 1) := by decide +kernel
theorem dX5_solve_7 : decode cX5_solve 7 = .ok (.iload_n 2, 1) := by decide +kernel
theorem dX5_solve_8 : decode cX5_solve 8 = .ok (.invokevirtual 46, 3) := by decide +kernel
theorem dX5_solve_11 : decode cX5_solve 11 = .ok (.aload_n 0, 1) := by decide +kernel
theorem dX5_solve_12 : decode cX5_solve 12 = .ok (.iload_n 2, 1) := by decide +kernel
theorem dX5_solve_13 : decode cX5_solve 13 = .ok (.invokevirtual 50, 3) := by decide +kernel
theorem dX5_solve_16 : decode cX5_solve 16 = .ok (.istore_n 3, 1) := by decide +kernel
theorem dX5_solve_17 : decode cX5_solve 17 = .ok (.aload_n 0, 1) := by decide +kernel
theorem dX5_solve_18 : decode cX5_solve 18 = .ok (.iload_n 2, 1) := by decide +kernel
theorem dX5_solve_19 : decode cX5_solve 19 = .ok (.invokevirtual 54, 3) := by decide +kernel
theorem dX5_solve_22 : decode cX5_solve 22 = .ok (.aload_n 0, 1) := by decide +kernel
theorem dX5_solve_23 : decode cX5_solve 23 = .ok (.iload_n 2, 1) := by decide +kernel
theorem dX5_solve_24 : decode cX5_solve 24 = .ok (.putfield 57, 3) := by decide +kernel
theorem dX5_solve_27 : decode cX5_solve 27 = .ok (.iload_n 3, 1) := by decide +kernel
theorem dX5_solve_28 : decode cX5_solve 28 = .ok (.ireturn, 1) := by decide +kernel
theorem dX5_heightAt_0 : decode cX5_heightAt 0 = .ok (.aload_n 0, 1) := by decide +kernel
theorem dX5_heightAt_1 : decode cX5_heightAt 1 = .ok (.getfield 57, 3) := by decide +kernel
theorem dX5_heightAt_4 : decode cX5_heightAt 4 = .ok (.ifCond .ne 5, 3) := by decide +kernel
theorem dX5_heightAt_7 : decode cX5_heightAt 7 = .ok (.dconst 0, 1) := by decide +kernel
theorem dX5_heightAt_8 : decode cX5_heightAt 8 = .ok (.dreturn, 1) := by decide +kernel
theorem dX5_heightAt_9 : decode cX5_heightAt 9 = .ok (.aload_n 0, 1) := by decide +kernel
theorem dX5_heightAt_10 : decode cX5_heightAt 10 = .ok (.dload_n 1, 1) := by decide +kernel
theorem dX5_heightAt_11 : decode cX5_heightAt 11 = .ok (.aload_n 0, 1) := by decide +kernel
theorem dX5_heightAt_12 : decode cX5_heightAt 12 = .ok (.getfield 57, 3) := by decide +kernel
theorem dX5_heightAt_15 : decode cX5_heightAt 15 = .ok (.invokevirtual 60, 3) := by decide +kernel
theorem dX5_heightAt_18 : decode cX5_heightAt 18 = .ok (.aload_n 0, 1) := by decide +kernel
theorem dX5_heightAt_19 : decode cX5_heightAt 19 = .ok (.getfield 33, 3) := by decide +kernel
theorem dX5_heightAt_22 : decode cX5_heightAt 22 = .ok (.iconst 0, 1) := by decide +kernel
theorem dX5_heightAt_23 : decode cX5_heightAt 23 = .ok (.daload, 1) := by decide +kernel
theorem dX5_heightAt_24 : decode cX5_heightAt 24 = .ok (.dstore_n 3, 1) := by decide +kernel
theorem dX5_heightAt_25 : decode cX5_heightAt 25 = .ok (.iconst 1, 1) := by decide +kernel
theorem dX5_heightAt_26 : decode cX5_heightAt 26 = .ok (.istore 5, 2) := by decide +kernel
theorem dX5_heightAt_28 : decode cX5_heightAt 28 = .ok (.iload 5, 2) := by decide +kernel
theorem dX5_heightAt_30 : decode cX5_heightAt 30 = .ok (.aload_n 0, 1) := by decide +kernel
theorem dX5_heightAt_31 : decode cX5_heightAt 31 = .ok (.getfield 57, 3) := by decide +kernel
theorem dX5_heightAt_34 : decode cX5_heightAt 34 = .ok (.if_icmp .ge 37, 3) := by decide +kernel
theorem dX5_heightAt_37 : decode cX5_heightAt 37 = .ok (.iload 5, 2) := by decide +kernel
theorem dX5_heightAt_39 : decode cX5_heightAt 39 = .ok (.aload_n 0, 1) := by decide +kernel
theorem dX5_heightAt_40 : decode cX5_heightAt 40 = .ok (.getfield 33, 3) := by decide +kernel
theorem dX5_heightAt_43 : decode cX5_heightAt 43 = .ok (.arraylength, 1) := by decide +kernel
theorem dX5_heightAt_44 : decode cX5_heightAt 44 = .ok (.if_icmp .ge 27, 3) := by decide +kernel
theorem dX5_heightAt_47 : decode cX5_heightAt 47 = .ok (.dload_n 3, 1) := by decide +kernel
theorem dX5_heightAt_48 : decode cX5_heightAt 48 = .ok (.aload_n 0, 1) := by decide +kernel
theorem dX5_heightAt_49 : decode cX5_heightAt 49 = .ok (.getfield 33, 3) := by decide +kernel
theorem dX5_heightAt_52 : decode cX5_heightAt 52 = .ok (.iload 5, 2) := by decide +kernel
theorem dX5_heightAt_54 : decode cX5_heightAt 54 = .ok (.daload, 1) := by decide +kernel
theorem dX5_heightAt_55 : decode cX5_heightAt 55 = .ok (.aload_n 0, 1) := by decide +kernel
theorem dX5_heightAt_56 : decode cX5_heightAt 56 = .ok (.getfield 30, 3) := by decide +kernel
theorem dX5_heightAt_59 : decode cX5_heightAt 59 = .ok (.iload 5, 2) := by decide +kernel
theorem dX5_heightAt_61 : decode cX5_heightAt 61 = .ok (.daload, 1) := by decide +kernel
theorem dX5_heightAt_62 : decode cX5_heightAt 62 = .ok (.dmul, 1) := by decide +kernel
theorem dX5_heightAt_63 : decode cX5_heightAt 63 = .ok (.dadd, 1) := by decide +kernel
theorem dX5_heightAt_64 : decode cX5_heightAt 64 = .ok (.dstore_n 3, 1) := by decide +kernel
theorem dX5_heightAt_65 : decode cX5_heightAt 65 = .ok (.iinc 5 1, 3) := by decide +kernel
theorem dX5_heightAt_68 : decode cX5_heightAt 68 = .ok (.goto (-40), 3) := by decide +kernel
theorem dX5_heightAt_71 : decode cX5_heightAt 71 = .ok (.dload_n 3, 1) := by decide +kernel
theorem dX5_heightAt_72 : decode cX5_heightAt 72 = .ok (.dreturn, 1) := by decide +kernel
theorem dX5_addUp_0 : decode cX5_addUp 0 = .ok (.iconst 0, 1) := by decide +kernel
theorem dX5_addUp_1 : decode cX5_addUp 1 = .ok (.istore_n 2, 1) := by decide +kernel
theorem dX5_addUp_2 : decode cX5_addUp 2 = .ok (.iload_n 2, 1) := by decide +kernel
theorem dX5_addUp_3 : decode cX5_addUp 3 = .ok (.iload_n 1, 1) := by decide +kernel
theorem dX5_addUp_4 : decode cX5_addUp 4 = .ok (.if_icmp .ge 38, 3) := by decide +kernel
theorem dX5_addUp_7 : decode cX5_addUp 7 = .ok (.aload_n 0, 1) := by decide +kernel
theorem dX5_addUp_8 : decode cX5_addUp 8 = .ok (.getfield 23, 3) := by decide +kernel
theorem dX5_addUp_11 : decode cX5_addUp 11 = .ok (.iload_n 2, 1) := by decide +kernel
theorem dX5_addUp_12 : decode cX5_addUp 12 = .ok (.dconst 0, 1) := by decide +kernel
theorem dX5_addUp_13 : decode cX5_addUp 13 = .ok (.dastore, 1) := by decide +kernel
theorem dX5_addUp_14 : decode cX5_addUp 14 = .ok (.iconst 0, 1) := by decide +kernel
theorem dX5_addUp_15 : decode cX5_addUp 15 = .ok (.istore_n 3, 1) := by decide +kernel
theorem dX5_addUp_16 : decode cX5_addUp 16 = .ok (.iload_n 3, 1) := by decide +kernel
theorem dX5_addUp_17 : decode cX5_addUp 17 = .ok (.iload_n 1, 1) := by decide +kernel
theorem dX5_addUp_18 : decode cX5_addUp 18 = .ok (.if_icmp .ge 18, 3) := by decide +kernel
theorem dX5_addUp_21 : decode cX5_addUp 21 = .ok (.aload_n 0, 1) := by decide +kernel
theorem dX5_addUp_22 : decode cX5_addUp 22 = .ok (.getfield 20, 3) := by decide +kernel
theorem dX5_addUp_25 : decode cX5_addUp 25 = .ok (.iload_n 2, 1) := by decide +kernel
theorem dX5_addUp_26 : decode cX5_addUp 26 = .ok (.aaload, 1) := by decide +kernel
theorem dX5_addUp_27 : decode cX5_addUp 27 = .ok (.iload_n 3, 1) := by decide +kernel
theorem dX5_addUp_28 : decode cX5_addUp 28 = .ok (.dconst 0, 1) := by decide +kernel
theorem dX5_addUp_29 : decode cX5_addUp 29 = .ok (.dastore, 1) := by decide +kernel
theorem dX5_addUp_30 : decode cX5_addUp 30 = .ok (.iinc 3 1, 3) := by decide +kernel
theorem dX5_addUp_33 : decode cX5_addUp 33 = .ok (.goto (-17), 3) := by decide +kernel
theorem dX5_addUp_36 : decode cX5_addUp 36 = .ok (.iinc 2 1, 3) := by decide +kernel
theorem dX5_addUp_39 : decode cX5_addUp 39 = .ok (.goto (-37), 3) := by decide +kernel
theorem dX5_addUp_42 : decode cX5_addUp 42 = .ok (.iconst 0, 1) := by decide +kernel
theorem dX5_addUp_43 : decode cX5_addUp 43 = .ok (.istore_n 2, 1) := by decide +kernel
theorem dX5_addUp_44 : decode cX5_addUp 44 = .ok (.iload_n 2, 1) := by decide +kernel
theorem dX5_addUp_45 : decode cX5_addUp 45 = .ok (.aload_n 0, 1) := by decide +kernel
theorem dX5_addUp_46 : decode cX5_addUp 46 = .ok (.getfield 36, 3) := by decide +kernel
theorem dX5_addUp_49 : decode cX5_addUp 49 = .ok (.if_icmp .ge 116, 3) := by decide +kernel
theorem dX5_addUp_52 : decode cX5_addUp 52 = .ok (.iload_n 2, 1) := by decide +kernel
theorem dX5_addUp_53 : decode cX5_addUp 53 = .ok (.aload_n 0, 1) := by decide +kernel
theorem dX5_addUp_54 : decode cX5_addUp 54 = .ok (.getfield 9, 3) := by decide +kernel
theorem dX5_addUp_57 : decode cX5_addUp 57 = .ok (.arraylength, 1) := by decide +kernel
theorem dX5_addUp_58 : decode cX5_addUp 58 = .ok (.if_icmp .ge 107, 3) := by decide +kernel
theorem dX5_addUp_61 : decode cX5_addUp 61 = .ok (.aload_n 0, 1) := by decide +kernel
theorem dX5_addUp_62 : decode cX5_addUp 62 = .ok (.aload_n 0, 1) := by decide +kernel
theorem dX5_addUp_63 : decode cX5_addUp 63 = .ok (.getfield 9, 3) := by decide +kernel
theorem dX5_addUp_66 : decode cX5_addUp 66 = .ok (.iload_n 2, 1) := by decide +kernel
theorem dX5_addUp_67 : decode cX5_addUp 67 = .ok (.daload, 1) := by decide +kernel
theorem dX5_addUp_68 : decode cX5_addUp 68 = .ok (.iload_n 1, 1) := by decide +kernel
theorem dX5_addUp_69 : decode cX5_addUp 69 = .ok (.invokevirtual 60, 3) := by decide +kernel
theorem dX5_addUp_72 : decode cX5_addUp 72 = .ok (.iconst 0, 1) := by decide +kernel
theorem dX5_addUp_73 : decode cX5_addUp 73 = .ok (.istore_n 3, 1) := by decide +kernel
theorem dX5_addUp_74 : decode cX5_addUp 74 = .ok (.iload_n 3, 1) := by decide +kernel
theorem dX5_addUp_75 : decode cX5_addUp 75 = .ok (.iload_n 1, 1) := by decide +kernel
theorem dX5_addUp_76 : decode cX5_addUp 76 = .ok (.if_icmp .ge 83, 3) := by decide +kernel
theorem dX5_addUp_79 : decode cX5_addUp 79 = .ok (.aload_n 0, 1) := by decide +kernel
theorem dX5_addUp_80 : decode cX5_addUp 80 = .ok (.getfield 23, 3) := by decide +kernel
theorem dX5_addUp_83 : decode cX5_addUp 83 = .ok (.iload_n 3, 1) := by decide +kernel
theorem dX5_addUp_84 : decode cX5_addUp 84 = .ok (.aload_n 0, 1) := by decide +kernel
theorem dX5_addUp_85 : decode cX5_addUp 85 = .ok (.getfield 23, 3) := by decide +kernel
theorem dX5_addUp_88 : decode cX5_addUp 88 = .ok (.iload_n 3, 1) := by decide +kernel
theorem dX5_addUp_89 : decode cX5_addUp 89 = .ok (.daload, 1) := by decide +kernel
theorem dX5_addUp_90 : decode cX5_addUp 90 = .ok (.aload_n 0, 1) := by decide +kernel
theorem dX5_addUp_91 : decode cX5_addUp 91 = .ok (.getfield 30, 3) := by decide +kernel
theorem dX5_addUp_94 : decode cX5_addUp 94 = .ok (.iload_n 3, 1) := by decide +kernel
theorem dX5_addUp_95 : decode cX5_addUp 95 = .ok (.daload, 1) := by decide +kernel
theorem dX5_addUp_96 : decode cX5_addUp 96 = .ok (.aload_n 0, 1) := by decide +kernel
theorem dX5_addUp_97 : decode cX5_addUp 97 = .ok (.getfield 15, 3) := by decide +kernel
theorem dX5_addUp_100 : decode cX5_addUp 100 = .ok (.iload_n 2, 1) := by decide +kernel
theorem dX5_addUp_101 : decode cX5_addUp 101 = .ok (.daload, 1) := by decide +kernel
theorem dX5_addUp_102 : decode cX5_addUp 102 = .ok (.dmul, 1) := by decide +kernel
theorem dX5_addUp_103 : decode cX5_addUp 103 = .ok (.dadd, 1) := by decide +kernel
theorem dX5_addUp_104 : decode cX5_addUp 104 = .ok (.dastore, 1) := by decide +kernel
theorem dX5_addUp_105 : decode cX5_addUp 105 = .ok (.iconst 0, 1) := by decide +kernel
theorem dX5_addUp_106 : decode cX5_addUp 106 = .ok (.istore 4, 2) := by decide +kernel
theorem dX5_addUp_108 : decode cX5_addUp 108 = .ok (.iload 4, 2) := by decide +kernel
theorem dX5_addUp_110 : decode cX5_addUp 110 = .ok (.iload_n 1, 1) := by decide +kernel
theorem dX5_addUp_111 : decode cX5_addUp 111 = .ok (.if_icmp .ge 42, 3) := by decide +kernel
theorem dX5_addUp_114 : decode cX5_addUp 114 = .ok (.aload_n 0, 1) := by decide +kernel
theorem dX5_addUp_115 : decode cX5_addUp 115 = .ok (.getfield 20, 3) := by decide +kernel
theorem dX5_addUp_118 : decode cX5_addUp 118 = .ok (.iload_n 3, 1) := by decide +kernel
theorem dX5_addUp_119 : decode cX5_addUp 119 = .ok (.aaload, 1) := by decide +kernel
theorem dX5_addUp_120 : decode cX5_addUp 120 = .ok (.iload 4, 2) := by decide +kernel
theorem dX5_addUp_122 : decode cX5_addUp 122 = .ok (.aload_n 0, 1) := by decide +kernel
theorem dX5_addUp_123 : decode cX5_addUp 123 = .ok (.getfield 20, 3) := by decide +kernel
theorem dX5_addUp_126 : decode cX5_addUp 126 = .ok (.iload_n 3, 1) := by decide +kernel
theorem dX5_addUp_127 : decode cX5_addUp 127 = .ok (.aaload, 1) := by decide +kernel
theorem dX5_addUp_128 : decode cX5_addUp 128 = .ok (.iload 4, 2) := by decide +kernel
theorem dX5_addUp_130 : decode cX5_addUp 130 = .ok (.daload, 1) := by decide +kernel
theorem dX5_addUp_131 : decode cX5_addUp 131 = .ok (.aload_n 0, 1) := by decide +kernel
theorem dX5_addUp_132 : decode cX5_addUp 132 = .ok (.getfield 30, 3) := by decide +kernel
theorem dX5_addUp_135 : decode cX5_addUp 135 = .ok (.iload_n 3, 1) := by decide +kernel
theorem dX5_addUp_136 : decode cX5_addUp 136 = .ok (.daload, 1) := by decide +kernel
theorem dX5_addUp_137 : decode cX5_addUp 137 = .ok (.aload_n 0, 1) := by decide +kernel
theorem dX5_addUp_138 : decode cX5_addUp 138 = .ok (.getfield 30, 3) := by decide +kernel
theorem dX5_addUp_141 : decode cX5_addUp 141 = .ok (.iload 4, 2) := by decide +kernel
theorem dX5_addUp_143 : decode cX5_addUp 143 = .ok (.daload, 1) := by decide +kernel
theorem dX5_addUp_144 : decode cX5_addUp 144 = .ok (.dmul, 1) := by decide +kernel
theorem dX5_addUp_145 : decode cX5_addUp 145 = .ok (.dadd, 1) := by decide +kernel
theorem dX5_addUp_146 : decode cX5_addUp 146 = .ok (.dastore, 1) := by decide +kernel
theorem dX5_addUp_147 : decode cX5_addUp 147 = .ok (.iinc 4 1, 3) := by decide +kernel
theorem dX5_addUp_150 : decode cX5_addUp 150 = .ok (.goto (-42), 3) := by decide +kernel
theorem dX5_addUp_153 : decode cX5_addUp 153 = .ok (.iinc 3 1, 3) := by decide +kernel
theorem dX5_addUp_156 : decode cX5_addUp 156 = .ok (.goto (-82), 3) := by decide +kernel
theorem dX5_addUp_159 : decode cX5_addUp 159 = .ok (.iinc 2 1, 3) := by decide +kernel
theorem dX5_addUp_162 : decode cX5_addUp 162 = .ok (.goto (-118), 3) := by decide +kernel
theorem dX5_addUp_165 : decode cX5_addUp 165 = .ok (.return_, 1) := by decide +kernel
theorem dX5_clearBelow_0 : decode cX5_clearBelow 0 = .ok (.iconst 0, 1) := by decide +kernel
theorem dX5_clearBelow_1 : decode cX5_clearBelow 1 = .ok (.istore_n 2, 1) := by decide +kernel
theorem dX5_clearBelow_2 : decode cX5_clearBelow 2 = .ok (.iconst 0, 1) := by decide +kernel
theorem dX5_clearBelow_3 : decode cX5_clearBelow 3 = .ok (.istore_n 3, 1) := by decide +kernel
theorem dX5_clearBelow_4 : decode cX5_clearBelow 4 = .ok (.iload_n 3, 1) := by decide +kernel
theorem dX5_clearBelow_5 : decode cX5_clearBelow 5 = .ok (.iload_n 1, 1) := by decide +kernel
theorem dX5_clearBelow_6 : decode cX5_clearBelow 6 = .ok (.if_icmp .ge 91, 3) := by decide +kernel
theorem dX5_clearBelow_9 : decode cX5_clearBelow 9 = .ok (.aload_n 0, 1) := by decide +kernel
theorem dX5_clearBelow_10 : decode cX5_clearBelow 10 = .ok (.getfield 20, 3) := by decide +kernel
theorem dX5_clearBelow_13 : decode cX5_clearBelow 13 = .ok (.iload_n 3, 1) := by decide +kernel
theorem dX5_clearBelow_14 : decode cX5_clearBelow 14 = .ok (.aaload, 1) := by decide +kernel
theorem dX5_clearBelow_15 : decode cX5_clearBelow 15 = .ok (.iload_n 3, 1) := by decide +kernel
theorem dX5_clearBelow_16 : decode cX5_clearBelow 16 = .ok (.daload, 1) := by decide +kernel
theorem dX5_clearBelow_17 : decode cX5_clearBelow 17 = .ok (.dstore 4, 2) := by decide +kernel
theorem dX5_clearBelow_19 : decode cX5_clearBelow 19 = .ok (.aload_n 0, 1) := by decide +kernel
theorem dX5_clearBelow_20 : decode cX5_clearBelow 20 = .ok (.getfield 26, 3) := by decide +kernel
theorem dX5_clearBelow_23 : decode cX5_clearBelow 23 = .ok (.iload_n 3, 1) := by decide +kernel
theorem dX5_clearBelow_24 : decode cX5_clearBelow 24 = .ok (.dload 4, 2) := by decide +kernel
theorem dX5_clearBelow_26 : decode cX5_clearBelow 26 = .ok (.invokestatic 64, 3) := by decide +kernel
theorem dX5_clearBelow_29 : decode cX5_clearBelow 29 = .ok (.ldc2_w 68, 3) := by decide +kernel
theorem dX5_clearBelow_32 : decode cX5_clearBelow 32 = .ok (.dcmp .l, 1) := by decide +kernel
theorem dX5_clearBelow_33 : decode cX5_clearBelow 33 = .ok (.ifCond .le 7, 3) := by decide +kernel
theorem dX5_clearBelow_36 : decode cX5_clearBelow 36 = .ok (.iconst 1, 1) := by decide +kernel
theorem dX5_clearBelow_37 : decode cX5_clearBelow 37 = .ok (.goto 4, 3) := by decide +kernel
theorem dX5_clearBelow_40 : decode cX5_clearBelow 40 = .ok (.iconst 0, 1) := by decide +kernel
theorem dX5_clearBelow_41 : decode cX5_clearBelow 41 = .ok (.bastore, 1) := by decide +kernel
theorem dX5_clearBelow_42 : decode cX5_clearBelow 42 = .ok (.aload_n 0, 1) := by decide +kernel
theorem dX5_clearBelow_43 : decode cX5_clearBelow 43 = .ok (.getfield 26, 3) := by decide +kernel
theorem dX5_clearBelow_46 : decode cX5_clearBelow 46 = .ok (.iload_n 3, 1) := by decide +kernel
theorem dX5_clearBelow_47 : decode cX5_clearBelow 47 = .ok (.baload, 1) := by decide +kernel
theorem dX5_clearBelow_48 : decode cX5_clearBelow 48 = .ok (.ifCond .eq 43, 3) := by decide +kernel
theorem dX5_clearBelow_51 : decode cX5_clearBelow 51 = .ok (.iinc 2 1, 3) := by decide +kernel
theorem dX5_clearBelow_54 : decode cX5_clearBelow 54 = .ok (.iload_n 3, 1) := by decide +kernel
theorem dX5_clearBelow_55 : decode cX5_clearBelow 55 = .ok (.iconst 1, 1) := by decide +kernel
theorem dX5_clearBelow_56 : decode cX5_clearBelow 56 = .ok (.iadd, 1) := by decide +kernel
theorem dX5_clearBelow_57 : decode cX5_clearBelow 57 = .ok (.istore 6, 2) := by decide +kernel
theorem dX5_clearBelow_59 : decode cX5_clearBelow 59 = .ok (.iload 6, 2) := by decide +kernel
theorem dX5_clearBelow_61 : decode cX5_clearBelow 61 = .ok (.iload_n 1, 1) := by decide +kernel
theorem dX5_clearBelow_62 : decode cX5_clearBelow 62 = .ok (.if_icmp .ge 29, 3) := by decide +kernel
theorem dX5_clearBelow_65 : decode cX5_clearBelow 65 = .ok (.aload_n 0, 1) := by decide +kernel
theorem dX5_clearBelow_66 : decode cX5_clearBelow 66 = .ok (.iload 6, 2) := by decide +kernel
theorem dX5_clearBelow_68 : decode cX5_clearBelow 68 = .ok (.iload_n 3, 1) := by decide +kernel
theorem dX5_clearBelow_69 : decode cX5_clearBelow 69 = .ok (.aload_n 0, 1) := by decide +kernel
theorem dX5_clearBelow_70 : decode cX5_clearBelow 70 = .ok (.getfield 20, 3) := by decide +kernel
theorem dX5_clearBelow_73 : decode cX5_clearBelow 73 = .ok (.iload 6, 2) := by decide +kernel
theorem dX5_clearBelow_75 : decode cX5_clearBelow 75 = .ok (.aaload, 1) := by decide +kernel
theorem dX5_clearBelow_76 : decode cX5_clearBelow 76 = .ok (.iload_n 3, 1) := by decide +kernel
theorem dX5_clearBelow_77 : decode cX5_clearBelow 77 = .ok (.daload, 1) := by decide +kernel
theorem dX5_clearBelow_78 : decode cX5_clearBelow 78 = .ok (.dload 4, 2) := by decide +kernel
theorem dX5_clearBelow_80 : decode cX5_clearBelow 80 = .ok (.ddiv, 1) := by decide +kernel
theorem dX5_clearBelow_81 : decode cX5_clearBelow 81 = .ok (.iload_n 1, 1) := by decide +kernel
theorem dX5_clearBelow_82 : decode cX5_clearBelow 82 = .ok (.invokevirtual 70, 3) := by decide +kernel
theorem dX5_clearBelow_85 : decode cX5_clearBelow 85 = .ok (.iinc 6 1, 3) := by decide +kernel
theorem dX5_clearBelow_88 : decode cX5_clearBelow 88 = .ok (.goto (-29), 3) := by decide +kernel
theorem dX5_clearBelow_91 : decode cX5_clearBelow 91 = .ok (.iinc 3 1, 3) := by decide +kernel
theorem dX5_clearBelow_94 : decode cX5_clearBelow 94 = .ok (.goto (-90), 3) := by decide +kernel
theorem dX5_clearBelow_97 : decode cX5_clearBelow 97 = .ok (.iload_n 2, 1) := by decide +kernel
theorem dX5_clearBelow_98 : decode cX5_clearBelow 98 = .ok (.ireturn, 1) := by decide +kernel
theorem dX5_subtractRow_0 : decode cX5_subtractRow 0 = .ok (.iload_n 2, 1) := by decide +kernel
theorem dX5_subtractRow_1 : decode cX5_subtractRow 1 = .ok (.istore 6, 2) := by decide +kernel
theorem dX5_subtractRow_3 : decode cX5_subtractRow 3 = .ok (.iload 6, 2) := by decide +kernel
theorem dX5_subtractRow_5 : decode cX5_subtractRow 5 = .ok (.iload 5, 2) := by decide +kernel
theorem dX5_subtractRow_7 : decode cX5_subtractRow 7 = .ok (.if_icmp .ge 39, 3) := by decide +kernel
theorem dX5_subtractRow_10 : decode cX5_subtractRow 10 = .ok (.aload_n 0, 1) := by decide +kernel
theorem dX5_subtractRow_11 : decode cX5_subtractRow 11 = .ok (.getfield 20, 3) := by decide +kernel
theorem dX5_subtractRow_14 : decode cX5_subtractRow 14 = .ok (.iload_n 1, 1) := by decide +kernel
theorem dX5_subtractRow_15 : decode cX5_subtractRow 15 = .ok (.aaload, 1) := by decide +kernel
theorem dX5_subtractRow_16 : decode cX5_subtractRow 16 = .ok (.iload 6, 2) := by decide +kernel
theorem dX5_subtractRow_18 : decode cX5_subtractRow 18 = .ok (.aload_n 0, 1) := by decide +kernel
theorem dX5_subtractRow_19 : decode cX5_subtractRow 19 = .ok (.getfield 20, 3) := by decide +kernel
theorem dX5_subtractRow_22 : decode cX5_subtractRow 22 = .ok (.iload_n 1, 1) := by decide +kernel
theorem dX5_subtractRow_23 : decode cX5_subtractRow 23 = .ok (.aaload, 1) := by decide +kernel
theorem dX5_subtractRow_24 : decode cX5_subtractRow 24 = .ok (.iload 6, 2) := by decide +kernel
theorem dX5_subtractRow_26 : decode cX5_subtractRow 26 = .ok (.daload, 1) := by decide +kernel
theorem dX5_subtractRow_27 : decode cX5_subtractRow 27 = .ok (.dload_n 3, 1) := by decide +kernel
theorem dX5_subtractRow_28 : decode cX5_subtractRow 28 = .ok (.aload_n 0, 1) := by decide +kernel
theorem dX5_subtractRow_29 : decode cX5_subtractRow 29 = .ok (.getfield 20, 3) := by decide +kernel
theorem dX5_subtractRow_32 : decode cX5_subtractRow 32 = .ok (.iload_n 2, 1) := by decide +kernel
theorem dX5_subtractRow_33 : decode cX5_subtractRow 33 = .ok (.aaload, 1) := by decide +kernel
theorem dX5_subtractRow_34 : decode cX5_subtractRow 34 = .ok (.iload 6, 2) := by decide +kernel
theorem dX5_subtractRow_36 : decode cX5_subtractRow 36 = .ok (.daload, 1) := by decide +kernel
theorem dX5_subtractRow_37 : decode cX5_subtractRow 37 = .ok (.dmul, 1) := by decide +kernel
theorem dX5_subtractRow_38 : decode cX5_subtractRow 38 = .ok (.dsub, 1) := by decide +kernel
theorem dX5_subtractRow_39 : decode cX5_subtractRow 39 = .ok (.dastore, 1) := by decide +kernel
theorem dX5_subtractRow_40 : decode cX5_subtractRow 40 = .ok (.iinc 6 1, 3) := by decide +kernel
theorem dX5_subtractRow_43 : decode cX5_subtractRow 43 = .ok (.goto (-40), 3) := by decide +kernel
theorem dX5_subtractRow_46 : decode cX5_subtractRow 46 = .ok (.aload_n 0, 1) := by decide +kernel
theorem dX5_subtractRow_47 : decode cX5_subtractRow 47 = .ok (.getfield 23, 3) := by decide +kernel
theorem dX5_subtractRow_50 : decode cX5_subtractRow 50 = .ok (.iload_n 1, 1) := by decide +kernel
theorem dX5_subtractRow_51 : decode cX5_subtractRow 51 = .ok (.aload_n 0, 1) := by decide +kernel
theorem dX5_subtractRow_52 : decode cX5_subtractRow 52 = .ok (.getfield 23, 3) := by decide +kernel
theorem dX5_subtractRow_55 : decode cX5_subtractRow 55 = .ok (.iload_n 1, 1) := by decide +kernel
theorem dX5_subtractRow_56 : decode cX5_subtractRow 56 = .ok (.daload, 1) := by decide +kernel
theorem dX5_subtractRow_57 : decode cX5_subtractRow 57 = .ok (.dload_n 3, 1) := by decide +kernel
theorem dX5_subtractRow_58 : decode cX5_subtractRow 58 = .ok (.aload_n 0, 1) := by decide +kernel
theorem dX5_subtractRow_59 : decode cX5_subtractRow 59 = .ok (.getfield 23, 3) := by decide +kernel
theorem dX5_subtractRow_62 : decode cX5_subtractRow 62 = .ok (.iload_n 2, 1) := by decide +kernel
theorem dX5_subtractRow_63 : decode cX5_subtractRow 63 = .ok (.daload, 1) := by decide +kernel
theorem dX5_subtractRow_64 : decode cX5_subtractRow 64 = .ok (.dmul, 1) := by decide +kernel
theorem dX5_subtractRow_65 : decode cX5_subtractRow 65 = .ok (.dsub, 1) := by decide +kernel
theorem dX5_subtractRow_66 : decode cX5_subtractRow 66 = .ok (.dastore, 1) := by decide +kernel
theorem dX5_subtractRow_67 : decode cX5_subtractRow 67 = .ok (.return_, 1) := by decide +kernel
theorem dX5_solveUpwards_0 : decode cX5_solveUpwards 0 = .ok (.iload_n 1, 1) := by decide +kernel
theorem dX5_solveUpwards_1 : decode cX5_solveUpwards 1 = .ok (.iconst 1, 1) := by decide +kernel
theorem dX5_solveUpwards_2 : decode cX5_solveUpwards 2 = .ok (.isub, 1) := by decide +kernel
theorem dX5_solveUpwards_3 : decode cX5_solveUpwards 3 = .ok (.istore_n 2, 1) := by decide +kernel
theorem dX5_solveUpwards_4 : decode cX5_solveUpwards 4 = .ok (.iload_n 2, 1) := by decide +kernel
theorem dX5_solveUpwards_5 : decode cX5_solveUpwards 5 = .ok (.ifCond .lt 82, 3) := by decide +kernel
theorem dX5_solveUpwards_8 : decode cX5_solveUpwards 8 = .ok (.aload_n 0, 1) := by decide +kernel
theorem dX5_solveUpwards_9 : decode cX5_solveUpwards 9 = .ok (.getfield 23, 3) := by decide +kernel
theorem dX5_solveUpwards_12 : decode cX5_solveUpwards 12 = .ok (.iload_n 2, 1) := by decide +kernel
theorem dX5_solveUpwards_13 : decode cX5_solveUpwards 13 = .ok (.daload, 1) := by decide +kernel
theorem dX5_solveUpwards_14 : decode cX5_solveUpwards 14 = .ok (.dstore_n 3, 1) := by decide +kernel
theorem dX5_solveUpwards_15 : decode cX5_solveUpwards 15 = .ok (.iload_n 2, 1) := by decide +kernel
theorem dX5_solveUpwards_16 : decode cX5_solveUpwards 16 = .ok (.iconst 1, 1) := by decide +kernel
theorem dX5_solveUpwards_17 : decode cX5_solveUpwards 17 = .ok (.iadd, 1) := by decide +kernel
theorem dX5_solveUpwards_18 : decode cX5_solveUpwards 18 = .ok (.istore 5, 2) := by decide +kernel
theorem dX5_solveUpwards_20 : decode cX5_solveUpwards 20 = .ok (.iload 5, 2) := by decide +kernel
theorem dX5_solveUpwards_22 : decode cX5_solveUpwards 22 = .ok (.iload_n 1, 1) := by decide +kernel
theorem dX5_solveUpwards_23 : decode cX5_solveUpwards 23 = .ok (.if_icmp .ge 29, 3) := by decide +kernel
theorem dX5_solveUpwards_26 : decode cX5_solveUpwards 26 = .ok (.dload_n 3, 1) := by decide +kernel
theorem dX5_solveUpwards_27 : decode cX5_solveUpwards 27 = .ok (.aload_n 0, 1) := by decide +kernel
theorem dX5_solveUpwards_28 : decode cX5_solveUpwards 28 = .ok (.getfield 20, 3) := by decide +kernel
theorem dX5_solveUpwards_31 : decode cX5_solveUpwards 31 = .ok (.iload_n 2, 1) := by decide +kernel
theorem dX5_solveUpwards_32 : decode cX5_solveUpwards 32 = .ok (.aaload, 1) := by decide +kernel
theorem dX5_solveUpwards_33 : decode cX5_solveUpwards 33 = .ok (.iload 5, 2) := by decide +kernel
theorem dX5_solveUpwards_35 : decode cX5_solveUpwards 35 = .ok (.daload, 1) := by decide +kernel
theorem dX5_solveUpwards_36 : decode cX5_solveUpwards 36 = .ok (.aload_n 0, 1) := by decide +kernel
theorem dX5_solveUpwards_37 : decode cX5_solveUpwards 37 = .ok (.getfield 33, 3) := by decide +kernel
theorem dX5_solveUpwards_40 : decode cX5_solveUpwards 40 = .ok (.iload 5, 2) := by decide +kernel
theorem dX5_solveUpwards_42 : decode cX5_solveUpwards 42 = .ok (.daload, 1) := by decide +kernel
theorem dX5_solveUpwards_43 : decode cX5_solveUpwards 43 = .ok (.dmul, 1) := by decide +kernel
theorem dX5_solveUpwards_44 : decode cX5_solveUpwards 44 = .ok (.dsub, 1) := by decide +kernel
theorem dX5_solveUpwards_45 : decode cX5_solveUpwards 45 = .ok (.dstore_n 3, 1) := by decide +kernel
theorem dX5_solveUpwards_46 : decode cX5_solveUpwards 46 = .ok (.iinc 5 1, 3) := by decide +kernel
theorem dX5_solveUpwards_49 : decode cX5_solveUpwards 49 = .ok (.goto (-29), 3) := by decide +kernel
theorem dX5_solveUpwards_52 : decode cX5_solveUpwards 52 = .ok (.aload_n 0, 1) := by decide +kernel
theorem dX5_solveUpwards_53 : decode cX5_solveUpwards 53 = .ok (.getfield 33, 3) := by decide +kernel
theorem dX5_solveUpwards_56 : decode cX5_solveUpwards 56 = .ok (.iload_n 2, 1) := by decide +kernel
theorem dX5_solveUpwards_57 : decode cX5_solveUpwards 57 = .ok (.aload_n 0, 1) := by decide +kernel
theorem dX5_solveUpwards_58 : decode cX5_solveUpwards 58 = .ok (.getfield 26, 3) := by decide +kernel
theorem dX5_solveUpwards_61 : decode cX5_solveUpwards 61 = .ok (.iload_n 2, 1) := by decide +kernel
theorem dX5_solveUpwards_62 : decode cX5_solveUpwards 62 = .ok (.baload, 1) := by decide +kernel
theorem dX5_solveUpwards_63 : decode cX5_solveUpwards 63 = .ok (.ifCond .eq 16, 3) := by decide +kernel
theorem dX5_solveUpwards_66 : decode cX5_solveUpwards 66 = .ok (.dload_n 3, 1) := by decide +kernel
theorem dX5_solveUpwards_67 : decode cX5_solveUpwards 67 = .ok (.aload_n 0, 1) := by decide +kernel
theorem dX5_solveUpwards_68 : decode cX5_solveUpwards 68 = .ok (.getfield 20, 3) := by decide +kernel
theorem dX5_solveUpwards_71 : decode cX5_solveUpwards 71 = .ok (.iload_n 2, 1) := by decide +kernel
theorem dX5_solveUpwards_72 : decode cX5_solveUpwards 72 = .ok (.aaload, 1) := by decide +kernel
theorem dX5_solveUpwards_73 : decode cX5_solveUpwards 73 = .ok (.iload_n 2, 1) := by decide +kernel
theorem dX5_solveUpwards_74 : decode cX5_solveUpwards 74 = .ok (.daload, 1) := by decide +kernel
theorem dX5_solveUpwards_75 : decode cX5_solveUpwards 75 = .ok (.ddiv, 1) := by decide +kernel
theorem dX5_solveUpwards_76 : decode cX5_solveUpwards 76 = .ok (.goto 4, 3) := by decide +kernel
theorem dX5_solveUpwards_79 : decode cX5_solveUpwards 79 = .ok (.dconst 0, 1) := by decide +kernel
theorem dX5_solveUpwards_80 : decode cX5_solveUpwards 80 = .ok (.dastore, 1) := by decide +kernel
theorem dX5_solveUpwards_81 : decode cX5_solveUpwards 81 = .ok (.iinc 2 (-1), 3) := by decide +kernel
theorem dX5_solveUpwards_84 : decode cX5_solveUpwards 84 = .ok (.goto (-80), 3) := by decide +kernel
theorem dX5_solveUpwards_87 : decode cX5_solveUpwards 87 = .ok (.return_, 1) := by decide +kernel
theorem dX5_fillSaws_0 : decode cX5_fillSaws 0 = .ok (.dload_n 1, 1) := by decide +kernel
theorem dX5_fillSaws_1 : decode cX5_fillSaws 1 = .ok (.ldc2_w 74, 3) := by decide +kernel
theorem dX5_fillSaws_4 : decode cX5_fillSaws 4 = .ok (.dmul, 1) := by decide +kernel
theorem dX5_fillSaws_5 : decode cX5_fillSaws 5 = .ok (.dstore 4, 2) := by decide +kernel
theorem dX5_fillSaws_7 : decode cX5_fillSaws 7 = .ok (.aload_n 0, 1) := by decide +kernel
theorem dX5_fillSaws_8 : decode cX5_fillSaws 8 = .ok (.getfield 30, 3) := by decide +kernel
theorem dX5_fillSaws_11 : decode cX5_fillSaws 11 = .ok (.iconst 0, 1) := by decide +kernel
theorem dX5_fillSaws_12 : decode cX5_fillSaws 12 = .ok (.dconst 1, 1) := by decide +kernel
theorem dX5_fillSaws_13 : decode cX5_fillSaws 13 = .ok (.dastore, 1) := by decide +kernel
theorem dX5_fillSaws_14 : decode cX5_fillSaws 14 = .ok (.iconst 1, 1) := by decide +kernel
theorem dX5_fillSaws_15 : decode cX5_fillSaws 15 = .ok (.istore 6, 2) := by decide +kernel
theorem dX5_fillSaws_17 : decode cX5_fillSaws 17 = .ok (.iload 6, 2) := by decide +kernel
theorem dX5_fillSaws_19 : decode cX5_fillSaws 19 = .ok (.iconst 1, 1) := by decide +kernel
theorem dX5_fillSaws_20 : decode cX5_fillSaws 20 = .ok (.iadd, 1) := by decide +kernel
theorem dX5_fillSaws_21 : decode cX5_fillSaws 21 = .ok (.iload_n 3, 1) := by decide +kernel
theorem dX5_fillSaws_22 : decode cX5_fillSaws 22 = .ok (.if_icmp .ge 55, 3) := by decide +kernel
theorem dX5_fillSaws_25 : decode cX5_fillSaws 25 = .ok (.dload 4, 2) := by decide +kernel
theorem dX5_fillSaws_27 : decode cX5_fillSaws 27 = .ok (.sipush 3600, 3) := by decide +kernel
theorem dX5_fillSaws_30 : decode cX5_fillSaws 30 = .ok (.iload 6, 2) := by decide +kernel
theorem dX5_fillSaws_32 : decode cX5_fillSaws 32 = .ok (.iconst 1, 1) := by decide +kernel
theorem dX5_fillSaws_33 : decode cX5_fillSaws 33 = .ok (.iadd, 1) := by decide +kernel
theorem dX5_fillSaws_34 : decode cX5_fillSaws 34 = .ok (.iconst 2, 1) := by decide +kernel
theorem dX5_fillSaws_35 : decode cX5_fillSaws 35 = .ok (.idiv, 1) := by decide +kernel
theorem dX5_fillSaws_36 : decode cX5_fillSaws 36 = .ok (.imul, 1) := by decide +kernel
theorem dX5_fillSaws_37 : decode cX5_fillSaws 37 = .ok (.i2d, 1) := by decide +kernel
theorem dX5_fillSaws_38 : decode cX5_fillSaws 38 = .ok (.ddiv, 1) := by decide +kernel
theorem dX5_fillSaws_39 : decode cX5_fillSaws 39 = .ok (.dstore 7, 2) := by decide +kernel
theorem dX5_fillSaws_41 : decode cX5_fillSaws 41 = .ok (.aload_n 0, 1) := by decide +kernel
theorem dX5_fillSaws_42 : decode cX5_fillSaws 42 = .ok (.getfield 30, 3) := by decide +kernel
theorem dX5_fillSaws_45 : decode cX5_fillSaws 45 = .ok (.iload 6, 2) := by decide +kernel
theorem dX5_fillSaws_47 : decode cX5_fillSaws 47 = .ok (.dload 7, 2) := by decide +kernel
theorem dX5_fillSaws_49 : decode cX5_fillSaws 49 = .ok (.invokestatic 76, 3) := by decide +kernel
theorem dX5_fillSaws_52 : decode cX5_fillSaws 52 = .ok (.dastore, 1) := by decide +kernel
theorem dX5_fillSaws_53 : decode cX5_fillSaws 53 = .ok (.aload_n 0, 1) := by decide +kernel
theorem dX5_fillSaws_54 : decode cX5_fillSaws 54 = .ok (.getfield 30, 3) := by decide +kernel
theorem dX5_fillSaws_57 : decode cX5_fillSaws 57 = .ok (.iload 6, 2) := by decide +kernel
theorem dX5_fillSaws_59 : decode cX5_fillSaws 59 = .ok (.iconst 1, 1) := by decide +kernel
theorem dX5_fillSaws_60 : decode cX5_fillSaws 60 = .ok (.iadd, 1) := by decide +kernel
theorem dX5_fillSaws_61 : decode cX5_fillSaws 61 = .ok (.dload 7, 2) := by decide +kernel
theorem dX5_fillSaws_63 : decode cX5_fillSaws 63 = .ok (.ldc2_w 79, 3) := by decide +kernel
theorem dX5_fillSaws_66 : decode cX5_fillSaws 66 = .ok (.dadd, 1) := by decide +kernel
theorem dX5_fillSaws_67 : decode cX5_fillSaws 67 = .ok (.invokestatic 76, 3) := by decide +kernel
theorem dX5_fillSaws_70 : decode cX5_fillSaws 70 = .ok (.dastore, 1) := by decide +kernel
theorem dX5_fillSaws_71 : decode cX5_fillSaws 71 = .ok (.iinc 6 2, 3) := by decide +kernel
theorem dX5_fillSaws_74 : decode cX5_fillSaws 74 = .ok (.goto (-57), 3) := by decide +kernel
theorem dX5_fillSaws_77 : decode cX5_fillSaws 77 = .ok (.return_, 1) := by decide +kernel
end
section
theorem dX6_init_0 : decode cX6_init 0 = .ok (.aload_n 0, 1) := by decide +kernel
theorem dX6_init_1 : decode cX6_init 1 = .ok (.invokespecial 3, 3) := by decide +kernel
theorem dX6_init_4 : decode cX6_init 4 = .ok (.iload_n 1, 1) := by decide +kernel
theorem dX6_init_5 : decode cX6_init 5 = .ok (.bipush 12, 2) := by decide +kernel
theorem dX6_init_7 : decode cX6_init 7 = .ok (.invokestatic 9, 3) := by decide +kernel
theorem dX6_init_10 : decode cX6_init 10 = .ok (.istore 4, 2) := by decide +kernel
theorem dX6_init_12 : decode cX6_init 12 = .ok (.iload_n 2, 1) := by decide +kernel
theorem dX6_init_13 : decode cX6_init 13 = .ok (.bipush 12, 2) := by decide +kernel
theorem dX6_init_15 : decode cX6_init 15 = .ok (.invokestatic 9, 3) := by decide +kernel
theorem dX6_init_18 : decode cX6_init 18 = .ok (.istore 5, 2) := by decide +kernel
theorem dX6_init_20 : decode cX6_init 20 = .ok (.iload 4, 2) := by decide +kernel
theorem dX6_init_22 : decode cX6_init 22 = .ok (.iload 5, 2) := by decide +kernel
theorem dX6_init_24 : decode cX6_init 24 = .ok (.imul, 1) := by decide +kernel
theorem dX6_init_25 : decode cX6_init 25 = .ok (.invokestatic 13, 3) := by decide +kernel
theorem dX6_init_28 : decode cX6_init 28 = .ok (.astore 6, 2) := by decide +kernel
theorem dX6_init_30 : decode cX6_init 30 = .ok (.invokestatic 17, 3) := by decide +kernel
theorem dX6_init_33 : decode cX6_init 33 = .ok (.astore 7, 2) := by decide +kernel
theorem dX6_init_35 : decode cX6_init 35 = .ok (.aload_n 0, 1) := by decide +kernel
theorem dX6_init_36 : decode cX6_init 36 = .ok (.iload 4, 2) := by decide +kernel
theorem dX6_init_38 : decode cX6_init 38 = .ok (.putfield 21, 3) := by decide +kernel
theorem dX6_init_41 : decode cX6_init 41 = .ok (.aload_n 0, 1) := by decide +kernel
theorem dX6_init_42 : decode cX6_init 42 = .ok (.iload 5, 2) := by decide +kernel
theorem dX6_init_44 : decode cX6_init 44 = .ok (.putfield 25, 3) := by decide +kernel
theorem dX6_init_47 : decode cX6_init 47 = .ok (.aload_n 0, 1) := by decide +kernel
theorem dX6_init_48 : decode cX6_init 48 = .ok (.iload_n 3, 1) := by decide +kernel
theorem dX6_init_49 : decode cX6_init 49 = .ok (.iconst 4, 1) := by decide +kernel
theorem dX6_init_50 : decode cX6_init 50 = .ok (.invokestatic 9, 3) := by decide +kernel
theorem dX6_init_53 : decode cX6_init 53 = .ok (.putfield 28, 3) := by decide +kernel
theorem dX6_init_56 : decode cX6_init 56 = .ok (.aload_n 0, 1) := by decide +kernel
theorem dX6_init_57 : decode cX6_init 57 = .ok (.aload 6, 2) := by decide +kernel
theorem dX6_init_59 : decode cX6_init 59 = .ok (.putfield 31, 3) := by decide +kernel
theorem dX6_init_62 : decode cX6_init 62 = .ok (.aload_n 0, 1) := by decide +kernel
theorem dX6_init_63 : decode cX6_init 63 = .ok (.aload 7, 2) := by decide +kernel
theorem dX6_init_65 : decode cX6_init 65 = .ok (.putfield 35, 3) := by decide +kernel
theorem dX6_init_68 : decode cX6_init 68 = .ok (.aload_n 0, 1) := by decide +kernel
theorem dX6_init_69 : decode cX6_init 69 = .ok (.aload 6, 2) := by decide +kernel
theorem dX6_init_71 : decode cX6_init 71 = .ok (.aload 7, 2) := by decide +kernel
theorem dX6_init_73 : decode cX6_init 73 = .ok (.iload 4, 2) := by decide +kernel
theorem dX6_init_75 : decode cX6_init 75 = .ok (.iload 5, 2) := by decide +kernel
theorem dX6_init_77 : decode cX6_init 77 = .ok (.invokestatic 39, 3) := by decide +kernel
theorem dX6_init_80 : decode cX6_init 80 = .ok (.putfield 43, 3) := by decide +kernel
theorem dX6_init_83 : decode cX6_init 83 = .ok (.aload_n 0, 1) := by decide +kernel
theorem dX6_init_84 : decode cX6_init 84 = .ok (.bipush 24, 2) := by decide +kernel
theorem dX6_init_86 : decode cX6_init 86 = .ok (.newarray .double, 2) := by decide +kernel
theorem dX6_init_88 : decode cX6_init 88 = .ok (.putfield 47, 3) := by decide +kernel
theorem dX6_init_91 : decode cX6_init 91 = .ok (.aload_n 0, 1) := by decide +kernel
theorem dX6_init_92 : decode cX6_init 92 = .ok (.bipush 24, 2) := by decide +kernel
theorem dX6_init_94 : decode cX6_init 94 = .ok (.newarray .double, 2) := by decide +kernel
theorem dX6_init_96 : decode cX6_init 96 = .ok (.putfield 51, 3) := by decide +kernel
theorem dX6_init_99 : decode cX6_init 99 = .ok (.aload_n 0, 1) := by decide +kernel
theorem dX6_init_100 : decode cX6_init 100 = .ok (.invokestatic 54, 3) := by decide +kernel
theorem dX6_init_103 : decode cX6_init 103 = .ok (.putfield 58, 3) := by decide +kernel
theorem dX6_init_106 : decode cX6_init 106 = .ok (.aload_n 0, 1) := by decide +kernel
theorem dX6_init_107 : decode cX6_init 107 = .ok (.aload 6, 2) := by decide +kernel
theorem dX6_init_109 : decode cX6_init 109 = .ok (.arraylength, 1) := by decide +kernel
theorem dX6_init_110 : decode cX6_init 110 = .ok (.iload 4, 2) := by decide +kernel
theorem dX6_init_112 : decode cX6_init 112 = .ok (.iload 5, 2) := by decide +kernel
theorem dX6_init_114 : decode cX6_init 114 = .ok (.invokestatic 62, 3) := by decide +kernel
theorem dX6_init_117 : decode cX6_init 117 = .ok (.invokestatic 65, 3) := by decide +kernel
theorem dX6_init_120 : decode cX6_init 120 = .ok (.putfield 69, 3) := by decide +kernel
theorem dX6_init_123 : decode cX6_init 123 = .ok (.aload_n 0, 1) := by decide +kernel
theorem dX6_init_124 : decode cX6_init 124 = .ok (.new 73, 3) := by decide +kernel
theorem dX6_init_127 : decode cX6_init 127 = .ok (.dup, 1) := by decide +kernel
theorem dX6_init_128 : decode cX6_init 128 = .ok (.invokespecial 75, 3) := by decide +kernel
theorem dX6_init_131 : decode cX6_init 131 = .ok (.putfield 76, 3) := by decide +kernel
theorem dX6_init_134 : decode cX6_init 134 = .ok (.return_, 1) := by decide +kernel
theorem dX6_depth_0 : decode cX6_depth 0 = .ok (.aload_n 0, 1) := by decide +kernel
theorem dX6_depth_1 : decode cX6_depth 1 = .ok (.iload_n 1, 1) := by decide +kernel
theorem dX6_depth_2 : decode cX6_depth 2 = .ok (.iload_n 2, 1) := by decide +kernel
theorem dX6_depth_3 : decode cX6_depth 3 = .ok (.invokevirtual 80, 3) := by decide +kernel
theorem dX6_depth_6 : decode cX6_depth 6 = .ok (.astore 5, 2) := by decide +kernel
theorem dX6_depth_8 : decode cX6_depth 8 = .ok (.aload 5, 2) := by decide +kernel
theorem dX6_depth_10 : decode cX6_depth 10 = .ok (.ifnull 14, 3) := by decide +kernel
theorem dX6_depth_13 : decode cX6_depth 13 = .ok (.dload_n 3, 1) := by decide +kernel
theorem dX6_depth_14 : decode cX6_depth 14 = .ok (.dconst 0, 1) := by decide +kernel
theorem dX6_depth_15 : decode cX6_depth 15 = .ok (.ldc2_w 84, 3) := by decide +kernel
theorem dX6_depth_18 : decode cX6_depth 18 = .ok (.invokestatic 86, 3) := by decide +kernel
theorem dX6_depth_21 : decode cX6_depth 21 = .ok (.ifCond .ne 5, 3) := by decide +kernel
theorem dX6_depth_24 : decode cX6_depth 24 = .ok (.iconst 0, 1) := by decide +kernel
theorem dX6_depth_25 : decode cX6_depth 25 = .ok (.ireturn, 1) := by decide +kernel
theorem dX6_depth_26 : decode cX6_depth 26 = .ok (.aload_n 0, 1) := by decide +kernel
theorem dX6_depth_27 : decode cX6_depth 27 = .ok (.aload_n 0, 1) := by decide +kernel
theorem dX6_depth_28 : decode cX6_depth 28 = .ok (.getfield 90, 3) := by decide +kernel
theorem dX6_depth_31 : decode cX6_depth 31 = .ok (.aload 5, 2) := by decide +kernel
theorem dX6_depth_33 : decode cX6_depth 33 = .ok (.getfield 94, 3) := by decide +kernel
theorem dX6_depth_36 : decode cX6_depth 36 = .ok (.lsub, 1) := by decide +kernel
theorem dX6_depth_37 : decode cX6_depth 37 = .ok (.putfield 90, 3) := by decide +kernel
theorem dX6_depth_40 : decode cX6_depth 40 = .ok (.aload 5, 2) := by decide +kernel
theorem dX6_depth_42 : decode cX6_depth 42 = .ok (.dload_n 3, 1) := by decide +kernel
theorem dX6_depth_43 : decode cX6_depth 43 = .ok (.invokevirtual 99, 3) := by decide +kernel
theorem dX6_depth_46 : decode cX6_depth 46 = .ok (.aload_n 0, 1) := by decide +kernel
theorem dX6_depth_47 : decode cX6_depth 47 = .ok (.aload_n 0, 1) := by decide +kernel
theorem dX6_depth_48 : decode cX6_depth 48 = .ok (.getfield 90, 3) := by decide +kernel
theorem dX6_depth_51 : decode cX6_depth 51 = .ok (.aload 5, 2) := by decide +kernel
theorem dX6_depth_53 : decode cX6_depth 53 = .ok (.getfield 94, 3) := by decide +kernel
theorem dX6_depth_56 : decode cX6_depth 56 = .ok (.ladd, 1) := by decide +kernel
theorem dX6_depth_57 : decode cX6_depth 57 = .ok (.putfield 90, 3) := by decide +kernel
theorem dX6_depth_60 : decode cX6_depth 60 = .ok (.aload_n 0, 1) := by decide +kernel
theorem dX6_depth_61 : decode cX6_depth 61 = .ok (.getfield 43, 3) := by decide +kernel
theorem dX6_depth_64 : decode cX6_depth 64 = .ok (.astore 6, 2) := by decide +kernel
theorem dX6_depth_66 : decode cX6_depth 66 = .ok (.aload 6, 2) := by decide +kernel
theorem dX6_depth_68 : decode cX6_depth 68 = .ok (.arraylength, 1) := by decide +kernel
theorem dX6_depth_69 : decode cX6_depth 69 = .ok (.istore 7, 2) := by decide +kernel
theorem dX6_depth_71 : decode cX6_depth 71 = .ok (.iconst 0, 1) := by decide +kernel
theorem dX6_depth_72 : decode cX6_depth 72 = .ok (.istore 8, 2) := by decide +kernel
theorem dX6_depth_74 : decode cX6_depth 74 = .ok (.iload 8, 2) := by decide +kernel
theorem dX6_depth_76 : decode cX6_depth 76 = .ok (.iload 7, 2) := by decide +kernel
theorem dX6_depth_78 : decode cX6_depth 78 = .ok (.if_icmp .ge 23, 3) := by decide +kernel
theorem dX6_depth_81 : decode cX6_depth 81 = .ok (.aload 6, 2) := by decide +kernel
theorem dX6_depth_83 : decode cX6_depth 83 = .ok (.iload 8, 2) := by decide +kernel
theorem dX6_depth_85 : decode cX6_depth 85 = .ok (.aaload, 1) := by decide +kernel
theorem dX6_depth_86 : decode cX6_depth 86 = .ok (.astore 9, 2) := by decide +kernel
theorem dX6_depth_88 : decode cX6_depth 88 = .ok (.aload 9, 2) := by decide +kernel
theorem dX6_depth_90 : decode cX6_depth 90 = .ok (.aload 5, 2) := by decide +kernel
theorem dX6_depth_92 : decode cX6_depth 92 = .ok (.invokevirtual 103, 3) := by decide +kernel
theorem dX6_depth_95 : decode cX6_depth 95 = .ok (.iinc 8 1, 3) := by decide +kernel
theorem dX6_depth_98 : decode cX6_depth 98 = .ok (.goto (-24), 3) := by decide +kernel
theorem dX6_depth_101 : decode cX6_depth 101 = .ok (.aload_n 0, 1) := by decide +kernel
theorem dX6_depth_102 : decode cX6_depth 102 = .ok (.dup, 1) := by decide +kernel
theorem dX6_depth_103 : decode cX6_depth 103 = .ok (.getfield 109, 3) := by decide +kernel
theorem dX6_depth_106 : decode cX6_depth 106 = .ok (.iconst 1, 1) := by decide +kernel
theorem dX6_depth_107 : decode cX6_depth 107 = .ok (.iadd, 1) := by decide +kernel
theorem dX6_depth_108 : decode cX6_depth 108 = .ok (.putfield 109, 3) := by decide +kernel
theorem dX6_depth_111 : decode cX6_depth 111 = .ok (.iconst 1, 1) := by decide +kernel
theorem dX6_depth_112 : decode cX6_depth 112 = .ok (.ireturn, 1) := by decide +kernel
theorem dX6_border_0 : decode cX6_border 0 = .ok (.aload_n 0, 1) := by decide +kernel
theorem dX6_border_1 : decode cX6_border 1 = .ok (.iload_n 1, 1) := by decide +kernel
theorem dX6_border_2 : decode cX6_border 2 = .ok (.invokevirtual 112, 3) := by decide +kernel
theorem dX6_border_5 : decode cX6_border 5 = .ok (.astore 7, 2) := by decide +kernel
theorem dX6_border_7 : decode cX6_border 7 = .ok (.aload 7, 2) := by decide +kernel
theorem dX6_border_9 : decode cX6_border 9 = .ok (.ifnull 13, 3) := by decide +kernel
theorem dX6_border_12 : decode cX6_border 12 = .ok (.iload_n 2, 1) := by decide +kernel
theorem dX6_border_13 : decode cX6_border 13 = .ok (.ifCond .lt 9, 3) := by decide +kernel
theorem dX6_border_16 : decode cX6_border 16 = .ok (.iload_n 2, 1) := by decide +kernel
theorem dX6_border_17 : decode cX6_border 17 = .ok (.bipush 8, 2) := by decide +kernel
theorem dX6_border_19 : decode cX6_border 19 = .ok (.if_icmp .lt 5, 3) := by decide +kernel
theorem dX6_border_22 : decode cX6_border 22 = .ok (.iconst 0, 1) := by decide +kernel
theorem dX6_border_23 : decode cX6_border 23 = .ok (.ireturn, 1) := by decide +kernel
theorem dX6_border_24 : decode cX6_border 24 = .ok (.dload_n 3, 1) := by decide +kernel
theorem dX6_border_25 : decode cX6_border 25 = .ok (.dconst 0, 1) := by decide +kernel
theorem dX6_border_26 : decode cX6_border 26 = .ok (.ldc2_w 116, 3) := by decide +kernel
theorem dX6_border_29 : decode cX6_border 29 = .ok (.invokestatic 86, 3) := by decide +kernel
theorem dX6_border_32 : decode cX6_border 32 = .ok (.ifCond .eq 13, 3) := by decide +kernel
theorem dX6_border_35 : decode cX6_border 35 = .ok (.dload 5, 2) := by decide +kernel
theorem dX6_border_37 : decode cX6_border 37 = .ok (.dconst 0, 1) := by decide +kernel
theorem dX6_border_38 : decode cX6_border 38 = .ok (.dconst 1, 1) := by decide +kernel
theorem dX6_border_39 : decode cX6_border 39 = .ok (.invokestatic 86, 3) := by decide +kernel
theorem dX6_border_42 : decode cX6_border 42 = .ok (.ifCond .ne 5, 3) := by decide +kernel
theorem dX6_border_45 : decode cX6_border 45 = .ok (.iconst 0, 1) := by decide +kernel
theorem dX6_border_46 : decode cX6_border 46 = .ok (.ireturn, 1) := by decide +kernel
theorem dX6_border_47 : decode cX6_border 47 = .ok (.aload 7, 2) := by decide +kernel
theorem dX6_border_49 : decode cX6_border 49 = .ok (.iload_n 2, 1) := by decide +kernel
theorem dX6_border_50 : decode cX6_border 50 = .ok (.dload_n 3, 1) := by decide +kernel
theorem dX6_border_51 : decode cX6_border 51 = .ok (.dload 5, 2) := by decide +kernel
theorem dX6_border_53 : decode cX6_border 53 = .ok (.invokevirtual 118, 3) := by decide +kernel
theorem dX6_border_56 : decode cX6_border 56 = .ok (.iconst 1, 1) := by decide +kernel
theorem dX6_border_57 : decode cX6_border 57 = .ok (.ireturn, 1) := by decide +kernel
theorem dX6_wind_0 : decode cX6_wind 0 = .ok (.iload_n 1, 1) := by decide +kernel
theorem dX6_wind_1 : decode cX6_wind 1 = .ok (.ifCond .lt 9, 3) := by decide +kernel
theorem dX6_wind_4 : decode cX6_wind 4 = .ok (.iload_n 1, 1) := by decide +kernel
theorem dX6_wind_5 : decode cX6_wind 5 = .ok (.bipush 24, 2) := by decide +kernel
theorem dX6_wind_7 : decode cX6_wind 7 = .ok (.if_icmp .lt 5, 3) := by decide +kernel
theorem dX6_wind_10 : decode cX6_wind 10 = .ok (.iconst 0, 1) := by decide +kernel
theorem dX6_wind_11 : decode cX6_wind 11 = .ok (.ireturn, 1) := by decide +kernel
theorem dX6_wind_12 : decode cX6_wind 12 = .ok (.dload_n 2, 1) := by decide +kernel
theorem dX6_wind_13 : decode cX6_wind 13 = .ok (.ldc2_w 124, 3) := by decide +kernel
theorem dX6_wind_16 : decode cX6_wind 16 = .ok (.ldc2_w 126, 3) := by decide +kernel
theorem dX6_wind_19 : decode cX6_wind 19 = .ok (.invokestatic 86, 3) := by decide +kernel
theorem dX6_wind_22 : decode cX6_wind 22 = .ok (.ifCond .eq 17, 3) := by decide +kernel
theorem dX6_wind_25 : decode cX6_wind 25 = .ok (.dload 4, 2) := by decide +kernel
theorem dX6_wind_27 : decode cX6_wind 27 = .ok (.ldc2_w 124, 3) := by decide +kernel
theorem dX6_wind_30 : decode cX6_wind 30 = .ok (.ldc2_w 126, 3) := by decide +kernel
theorem dX6_wind_33 : decode cX6_wind 33 = .ok (.invokestatic 86, 3) := by decide +kernel
theorem dX6_wind_36 : decode cX6_wind 36 = .ok (.ifCond .ne 5, 3) := by decide +kernel
theorem dX6_wind_39 : decode cX6_wind 39 = .ok (.iconst 0, 1) := by decide +kernel
theorem dX6_wind_40 : decode cX6_wind 40 = .ok (.ireturn, 1) := by decide +kernel
theorem dX6_wind_41 : decode cX6_wind 41 = .ok (.aload_n 0, 1) := by decide +kernel
theorem dX6_wind_42 : decode cX6_wind 42 = .ok (.getfield 47, 3) := by decide +kernel
theorem dX6_wind_45 : decode cX6_wind 45 = .ok (.iload_n 1, 1) := by decide +kernel
theorem dX6_wind_46 : decode cX6_wind 46 = .ok (.dload_n 2, 1) := by decide +kernel
theorem dX6_wind_47 : decode cX6_wind 47 = .ok (.dastore, 1) := by decide +kernel
theorem dX6_wind_48 : decode cX6_wind 48 = .ok (.aload_n 0, 1) := by decide +kernel
theorem dX6_wind_49 : decode cX6_wind 49 = .ok (.getfield 51, 3) := by decide +kernel
theorem dX6_wind_52 : decode cX6_wind 52 = .ok (.iload_n 1, 1) := by decide +kernel
theorem dX6_wind_53 : decode cX6_wind 53 = .ok (.dload 4, 2) := by decide +kernel
theorem dX6_wind_55 : decode cX6_wind 55 = .ok (.dastore, 1) := by decide +kernel
theorem dX6_wind_56 : decode cX6_wind 56 = .ok (.iconst 1, 1) := by decide +kernel
theorem dX6_wind_57 : decode cX6_wind 57 = .ok (.ireturn, 1) := by decide +kernel
theorem dX6_river_0 : decode cX6_river 0 = .ok (.aload_n 0, 1) := by decide +kernel
theorem dX6_river_1 : decode cX6_river 1 = .ok (.iload_n 1, 1) := by decide +kernel
theorem dX6_river_2 : decode cX6_river 2 = .ok (.iload_n 2, 1) := by decide +kernel
theorem dX6_river_3 : decode cX6_river 3 = .ok (.invokevirtual 128, 3) := by decide +kernel
theorem dX6_river_6 : decode cX6_river 6 = .ok (.astore 5, 2) := by decide +kernel
theorem dX6_river_8 : decode cX6_river 8 = .ok (.aload 5, 2) := by decide +kernel
theorem dX6_river_10 : decode cX6_river 10 = .ok (.ifnull 14, 3) := by decide +kernel
theorem dX6_river_13 : decode cX6_river 13 = .ok (.dload_n 3, 1) := by decide +kernel
theorem dX6_river_14 : decode cX6_river 14 = .ok (.dconst 0, 1) := by decide +kernel
theorem dX6_river_15 : decode cX6_river 15 = .ok (.ldc2_w 84, 3) := by decide +kernel
theorem dX6_river_18 : decode cX6_river 18 = .ok (.invokestatic 86, 3) := by decide +kernel
theorem dX6_river_21 : decode cX6_river 21 = .ok (.ifCond .ne 5, 3) := by decide +kernel
theorem dX6_river_24 : decode cX6_river 24 = .ok (.iconst 0, 1) := by decide +kernel
theorem dX6_river_25 : decode cX6_river 25 = .ok (.ireturn, 1) := by decide +kernel
theorem dX6_river_26 : decode cX6_river 26 = .ok (.aload 5, 2) := by decide +kernel
theorem dX6_river_28 : decode cX6_river 28 = .ok (.dload_n 3, 1) := by decide +kernel
theorem dX6_river_29 : decode cX6_river 29 = .ok (.putfield 131, 3) := by decide +kernel
theorem dX6_river_32 : decode cX6_river 32 = .ok (.iconst 1, 1) := by decide +kernel
theorem dX6_river_33 : decode cX6_river 33 = .ok (.ireturn, 1) := by decide +kernel
theorem dX6_run_0 : decode cX6_run 0 = .ok (.iload_n 1, 1) := by decide +kernel
theorem dX6_run_1 : decode cX6_run 1 = .ok (.ifCond .lt 21, 3) := by decide +kernel
theorem dX6_run_4 : decode cX6_run 4 = .ok (.iload_n 1, 1) := by decide +kernel
theorem dX6_run_5 : decode cX6_run 5 = .ok (.sipush 200, 3) := by decide +kernel
theorem dX6_run_8 : decode cX6_run 8 = .ok (.if_icmp .gt 14, 3) := by decide +kernel
theorem dX6_run_11 : decode cX6_run 11 = .ok (.dload_n 2, 1) := by decide +kernel
theorem dX6_run_12 : decode cX6_run 12 = .ok (.dconst 1, 1) := by decide +kernel
theorem dX6_run_13 : decode cX6_run 13 = .ok (.ldc2_w 135, 3) := by decide +kernel
theorem dX6_run_16 : decode cX6_run 16 = .ok (.invokestatic 86, 3) := by decide +kernel
theorem dX6_run_19 : decode cX6_run 19 = .ok (.ifCond .ne 5, 3) := by decide +kernel
theorem dX6_run_22 : decode cX6_run 22 = .ok (.iconst (-1), 1) := by decide +kernel
theorem dX6_run_23 : decode cX6_run 23 = .ok (.ireturn, 1) := by decide +kernel
theorem dX6_run_24 : decode cX6_run 24 = .ok (.iconst 0, 1) := by decide +kernel
theorem dX6_run_25 : decode cX6_run 25 = .ok (.istore 4, 2) := by decide +kernel
theorem dX6_run_27 : decode cX6_run 27 = .ok (.iload 4, 2) := by decide +kernel
theorem dX6_run_29 : decode cX6_run 29 = .ok (.iload_n 1, 1) := by decide +kernel
theorem dX6_run_30 : decode cX6_run 30 = .ok (.if_icmp .ge 14, 3) := by decide +kernel
theorem dX6_run_33 : decode cX6_run 33 = .ok (.aload_n 0, 1) := by decide +kernel
theorem dX6_run_34 : decode cX6_run 34 = .ok (.dload_n 2, 1) := by decide +kernel
theorem dX6_run_35 : decode cX6_run 35 = .ok (.invokevirtual 137, 3) := by decide +kernel
theorem dX6_run_38 : decode cX6_run 38 = .ok (.iinc 4 1, 3) := by decide +kernel
theorem dX6_run_41 : decode cX6_run 41 = .ok (.goto (-14), 3) := by decide +kernel
theorem dX6_run_44 : decode cX6_run 44 = .ok (.iload_n 1, 1) := by decide +kernel
theorem dX6_run_45 : decode cX6_run 45 = .ok (.ireturn, 1) := by decide +kernel
theorem dX6_level_0 : decode cX6_level 0 = .ok (.aload_n 0, 1) := by decide +kernel
theorem dX6_level_1 : decode cX6_level 1 = .ok (.iload_n 1, 1) := by decide +kernel
theorem dX6_level_2 : decode cX6_level 2 = .ok (.iload_n 2, 1) := by decide +kernel
theorem dX6_level_3 : decode cX6_level 3 = .ok (.invokevirtual 128, 3) := by decide +kernel
theorem dX6_level_6 : decode cX6_level 6 = .ok (.astore_n 3, 1) := by decide +kernel
theorem dX6_level_7 : decode cX6_level 7 = .ok (.aload_n 3, 1) := by decide +kernel
theorem dX6_level_8 : decode cX6_level 8 = .ok (.ifnonnull 9, 3) := by decide +kernel
theorem dX6_level_11 : decode cX6_level 11 = .ok (.invokestatic 140, 3) := by decide +kernel
theorem dX6_level_14 : decode cX6_level 14 = .ok (.goto 7, 3) := by decide +kernel
theorem dX6_level_17 : decode cX6_level 17 = .ok (.aload_n 3, 1) := by decide +kernel
theorem dX6_level_18 : decode cX6_level 18 = .ok (.invokevirtual 144, 3) := by decide +kernel
theorem dX6_level_21 : decode cX6_level 21 = .ok (.dreturn, 1) := by decide +kernel
theorem dX6_speed_0 : decode cX6_speed 0 = .ok (.aload_n 0, 1) := by decide +kernel
theorem dX6_speed_1 : decode cX6_speed 1 = .ok (.iload_n 1, 1) := by decide +kernel
theorem dX6_speed_2 : decode cX6_speed 2 = .ok (.iload_n 2, 1) := by decide +kernel
theorem dX6_speed_3 : decode cX6_speed 3 = .ok (.invokevirtual 80, 3) := by decide +kernel
theorem dX6_speed_6 : decode cX6_speed 6 = .ok (.astore 5, 2) := by decide +kernel
theorem dX6_speed_8 : decode cX6_speed 8 = .ok (.aload 5, 2) := by decide +kernel
theorem dX6_speed_10 : decode cX6_speed 10 = .ok (.ifnull 11, 3) := by decide +kernel
theorem dX6_speed_13 : decode cX6_speed 13 = .ok (.aload_n 0, 1) := by decide +kernel
theorem dX6_speed_14 : decode cX6_speed 14 = .ok (.iload_n 3, 1) := by decide +kernel
theorem dX6_speed_15 : decode cX6_speed 15 = .ok (.invokevirtual 147, 3) := by decide +kernel
theorem dX6_speed_18 : decode cX6_speed 18 = .ok (.ifCond .ne 5, 3) := by decide +kernel
theorem dX6_speed_21 : decode cX6_speed 21 = .ok (.dconst 0, 1) := by decide +kernel
theorem dX6_speed_22 : decode cX6_speed 22 = .ok (.dreturn, 1) := by decide +kernel
theorem dX6_speed_23 : decode cX6_speed 23 = .ok (.aload_n 0, 1) := by decide +kernel
theorem dX6_speed_24 : decode cX6_speed 24 = .ok (.getfield 43, 3) := by decide +kernel
theorem dX6_speed_27 : decode cX6_speed 27 = .ok (.astore 6, 2) := by decide +kernel
theorem dX6_speed_29 : decode cX6_speed 29 = .ok (.aload 6, 2) := by decide +kernel
theorem dX6_speed_31 : decode cX6_speed 31 = .ok (.arraylength, 1) := by decide +kernel
theorem dX6_speed_32 : decode cX6_speed 32 = .ok (.istore 7, 2) := by decide +kernel
theorem dX6_speed_34 : decode cX6_speed 34 = .ok (.iconst 0, 1) := by decide +kernel
theorem dX6_speed_35 : decode cX6_speed 35 = .ok (.istore 8, 2) := by decide +kernel
theorem dX6_speed_37 : decode cX6_speed 37 = .ok (.iload 8, 2) := by decide +kernel
theorem dX6_speed_39 : decode cX6_speed 39 = .ok (.iload 7, 2) := by decide +kernel
theorem dX6_speed_41 : decode cX6_speed 41 = .ok (.if_icmp .ge 68, 3) := by decide +kernel
theorem dX6_speed_44 : decode cX6_speed 44 = .ok (.aload 6, 2) := by decide +kernel
theorem dX6_speed_46 : decode cX6_speed 46 = .ok (.iload 8, 2) := by decide +kernel
theorem dX6_speed_48 : decode cX6_speed 48 = .ok (.aaload, 1) := by decide +kernel
theorem dX6_speed_49 : decode cX6_speed 49 = .ok (.astore 9, 2) := by decide +kernel
theorem dX6_speed_51 : decode cX6_speed 51 = .ok (.aload 9, 2) := by decide +kernel
theorem dX6_speed_53 : decode cX6_speed 53 = .ok (.getfield 151, 3) := by decide +kernel
theorem dX6_speed_56 : decode cX6_speed 56 = .ok (.aload 5, 2) := by decide +kernel
theorem dX6_speed_58 : decode cX6_speed 58 = .ok (.if_acmp .ne 45, 3) := by decide +kernel
theorem dX6_speed_61 : decode cX6_speed 61 = .ok (.aload 9, 2) := by decide +kernel
theorem dX6_speed_63 : decode cX6_speed 63 = .ok (.getfield 155, 3) := by decide +kernel
theorem dX6_speed_66 : decode cX6_speed 66 = .ok (.iload 4, 2) := by decide +kernel
theorem dX6_speed_68 : decode cX6_speed 68 = .ok (.if_icmp .ne 35, 3) := by decide +kernel
theorem dX6_speed_71 : decode cX6_speed 71 = .ok (.aload 9, 2) := by decide +kernel
theorem dX6_speed_73 : decode cX6_speed 73 = .ok (.invokevirtual 158, 3) := by decide +kernel
theorem dX6_speed_76 : decode cX6_speed 76 = .ok (.ifCond .eq 27, 3) := by decide +kernel
theorem dX6_speed_79 : decode cX6_speed 79 = .ok (.aload 9, 2) := by decide +kernel
theorem dX6_speed_81 : decode cX6_speed 81 = .ok (.getfield 162, 3) := by decide +kernel
theorem dX6_speed_84 : decode cX6_speed 84 = .ok (.dconst 1, 1) := by decide +kernel
theorem dX6_speed_85 : decode cX6_speed 85 = .ok (.ldc2_w 165, 3) := by decide +kernel
theorem dX6_speed_88 : decode cX6_speed 88 = .ok (.aload_n 0, 1) := by decide +kernel
theorem dX6_speed_89 : decode cX6_speed 89 = .ok (.getfield 28, 3) := by decide +kernel
theorem dX6_speed_92 : decode cX6_speed 92 = .ok (.iconst 1, 1) := by decide +kernel
theorem dX6_speed_93 : decode cX6_speed 93 = .ok (.isub, 1) := by decide +kernel
theorem dX6_speed_94 : decode cX6_speed 94 = .ok (.iconst 2, 1) := by decide +kernel
theorem dX6_speed_95 : decode cX6_speed 95 = .ok (.iload_n 3, 1) := by decide +kernel
theorem dX6_speed_96 : decode cX6_speed 96 = .ok (.imul, 1) := by decide +kernel
theorem dX6_speed_97 : decode cX6_speed 97 = .ok (.isub, 1) := by decide +kernel
theorem dX6_speed_98 : decode cX6_speed 98 = .ok (.i2d, 1) := by decide +kernel
theorem dX6_speed_99 : decode cX6_speed 99 = .ok (.dmul, 1) := by decide +kernel
theorem dX6_speed_100 : decode cX6_speed 100 = .ok (.dadd, 1) := by decide +kernel
theorem dX6_speed_101 : decode cX6_speed 101 = .ok (.dmul, 1) := by decide +kernel
theorem dX6_speed_102 : decode cX6_speed 102 = .ok (.dreturn, 1) := by decide +kernel
theorem dX6_speed_103 : decode cX6_speed 103 = .ok (.iinc 8 1, 3) := by decide +kernel
theorem dX6_speed_106 : decode cX6_speed 106 = .ok (.goto (-69), 3) := by decide +kernel
theorem dX6_speed_109 : decode cX6_speed 109 = .ok (.dconst 0, 1) := by decide +kernel
theorem dX6_speed_110 : decode cX6_speed 110 = .ok (.dreturn, 1) := by decide +kernel
theorem dX6_volume_0 : decode cX6_volume 0 = .ok (.aload_n 0, 1) := by decide +kernel
theorem dX6_volume_1 : decode cX6_volume 1 = .ok (.invokevirtual 167, 3) := by decide +kernel
theorem dX6_volume_4 : decode cX6_volume 4 = .ok (.iload_n 1, 1) := by decide +kernel
theorem dX6_volume_5 : decode cX6_volume 5 = .ok (.invokestatic 171, 3) := by decide +kernel
theorem dX6_volume_8 : decode cX6_volume 8 = .ok (.lreturn, 1) := by decide +kernel
theorem dX6_through_0 : decode cX6_through 0 = .ok (.aload_n 0, 1) := by decide +kernel
theorem dX6_through_1 : decode cX6_through 1 = .ok (.iload_n 1, 1) := by decide +kernel
theorem dX6_through_2 : decode cX6_through 2 = .ok (.invokevirtual 112, 3) := by decide +kernel
theorem dX6_through_5 : decode cX6_through 5 = .ok (.astore_n 3, 1) := by decide +kernel
theorem dX6_through_6 : decode cX6_through 6 = .ok (.aload_n 3, 1) := by decide +kernel
theorem dX6_through_7 : decode cX6_through 7 = .ok (.ifnonnull 9, 3) := by decide +kernel
theorem dX6_through_10 : decode cX6_through 10 = .ok (.ldc2_w 175, 3) := by decide +kernel
theorem dX6_through_13 : decode cX6_through 13 = .ok (.goto 11, 3) := by decide +kernel
theorem dX6_through_16 : decode cX6_through 16 = .ok (.aload_n 3, 1) := by decide +kernel
theorem dX6_through_17 : decode cX6_through 17 = .ok (.getfield 177, 3) := by decide +kernel
theorem dX6_through_20 : decode cX6_through 20 = .ok (.iload_n 2, 1) := by decide +kernel
theorem dX6_through_21 : decode cX6_through 21 = .ok (.invokestatic 171, 3) := by decide +kernel
theorem dX6_through_24 : decode cX6_through 24 = .ok (.lreturn, 1) := by decide +kernel
theorem dX6_kept_0 : decode cX6_kept 0 = .ok (.aload_n 0, 1) := by decide +kernel
theorem dX6_kept_1 : decode cX6_kept 1 = .ok (.getfield 90, 3) := by decide +kernel
theorem dX6_kept_4 : decode cX6_kept 4 = .ok (.aload_n 0, 1) := by decide +kernel
theorem dX6_kept_5 : decode cX6_kept 5 = .ok (.getfield 180, 3) := by decide +kernel
theorem dX6_kept_8 : decode cX6_kept 8 = .ok (.ladd, 1) := by decide +kernel
theorem dX6_kept_9 : decode cX6_kept 9 = .ok (.lstore_n 1, 1) := by decide +kernel
theorem dX6_kept_10 : decode cX6_kept 10 = .ok (.aload_n 0, 1) := by decide +kernel
theorem dX6_kept_11 : decode cX6_kept 11 = .ok (.getfield 35, 3) := by decide +kernel
theorem dX6_kept_14 : decode cX6_kept 14 = .ok (.astore_n 3, 1) := by decide +kernel
theorem dX6_kept_15 : decode cX6_kept 15 = .ok (.aload_n 3, 1) := by decide +kernel
theorem dX6_kept_16 : decode cX6_kept 16 = .ok (.arraylength, 1) := by decide +kernel
theorem dX6_kept_17 : decode cX6_kept 17 = .ok (.istore 4, 2) := by decide +kernel
theorem dX6_kept_19 : decode cX6_kept 19 = .ok (.iconst 0, 1) := by decide +kernel
theorem dX6_kept_20 : decode cX6_kept 20 = .ok (.istore 5, 2) := by decide +kernel
theorem dX6_kept_22 : decode cX6_kept 22 = .ok (.iload 5, 2) := by decide +kernel
theorem dX6_kept_24 : decode cX6_kept 24 = .ok (.iload 4, 2) := by decide +kernel
theorem dX6_kept_26 : decode cX6_kept 26 = .ok (.if_icmp .ge 23, 3) := by decide +kernel
theorem dX6_kept_29 : decode cX6_kept 29 = .ok (.aload_n 3, 1) := by decide +kernel
theorem dX6_kept_30 : decode cX6_kept 30 = .ok (.iload 5, 2) := by decide +kernel
theorem dX6_kept_32 : decode cX6_kept 32 = .ok (.aaload, 1) := by decide +kernel
theorem dX6_kept_33 : decode cX6_kept 33 = .ok (.astore 6, 2) := by decide +kernel
theorem dX6_kept_35 : decode cX6_kept 35 = .ok (.lload_n 1, 1) := by decide +kernel
theorem dX6_kept_36 : decode cX6_kept 36 = .ok (.aload 6, 2) := by decide +kernel
theorem dX6_kept_38 : decode cX6_kept 38 = .ok (.getfield 177, 3) := by decide +kernel
theorem dX6_kept_41 : decode cX6_kept 41 = .ok (.ladd, 1) := by decide +kernel
theorem dX6_kept_42 : decode cX6_kept 42 = .ok (.lstore_n 1, 1) := by decide +kernel
theorem dX6_kept_43 : decode cX6_kept 43 = .ok (.iinc 5 1, 3) := by decide +kernel
theorem dX6_kept_46 : decode cX6_kept 46 = .ok (.goto (-24), 3) := by decide +kernel
theorem dX6_kept_49 : decode cX6_kept 49 = .ok (.aload_n 0, 1) := by decide +kernel
theorem dX6_kept_50 : decode cX6_kept 50 = .ok (.invokevirtual 167, 3) := by decide +kernel
theorem dX6_kept_53 : decode cX6_kept 53 = .ok (.lload_n 1, 1) := by decide +kernel
theorem dX6_kept_54 : decode cX6_kept 54 = .ok (.lcmp, 1) := by decide +kernel
theorem dX6_kept_55 : decode cX6_kept 55 = .ok (.ifCond .ne 7, 3) := by decide +kernel
theorem dX6_kept_58 : decode cX6_kept 58 = .ok (.iconst 1, 1) := by decide +kernel
theorem dX6_kept_59 : decode cX6_kept 59 = .ok (.goto 4, 3) := by decide +kernel
theorem dX6_kept_62 : decode cX6_kept 62 = .ok (.iconst 0, 1) := by decide +kernel
theorem dX6_kept_63 : decode cX6_kept 63 = .ok (.ireturn, 1) := by decide +kernel
theorem dX6_warm_0 : decode cX6_warm 0 = .ok (.aload_n 0, 1) := by decide +kernel
theorem dX6_warm_1 : decode cX6_warm 1 = .ok (.iload_n 1, 1) := by decide +kernel
theorem dX6_warm_2 : decode cX6_warm 2 = .ok (.iload_n 2, 1) := by decide +kernel
theorem dX6_warm_3 : decode cX6_warm 3 = .ok (.invokevirtual 128, 3) := by decide +kernel
theorem dX6_warm_6 : decode cX6_warm 6 = .ok (.astore 4, 2) := by decide +kernel
theorem dX6_warm_8 : decode cX6_warm 8 = .ok (.aload 4, 2) := by decide +kernel
theorem dX6_warm_10 : decode cX6_warm 10 = .ok (.ifnull 11, 3) := by decide +kernel
theorem dX6_warm_13 : decode cX6_warm 13 = .ok (.aload_n 0, 1) := by decide +kernel
theorem dX6_warm_14 : decode cX6_warm 14 = .ok (.iload_n 3, 1) := by decide +kernel
theorem dX6_warm_15 : decode cX6_warm 15 = .ok (.invokevirtual 147, 3) := by decide +kernel
theorem dX6_warm_18 : decode cX6_warm 18 = .ok (.ifCond .ne 7, 3) := by decide +kernel
theorem dX6_warm_21 : decode cX6_warm 21 = .ok (.invokestatic 140, 3) := by decide +kernel
theorem dX6_warm_24 : decode cX6_warm 24 = .ok (.dreturn, 1) := by decide +kernel
theorem dX6_warm_25 : decode cX6_warm 25 = .ok (.aload 4, 2) := by decide +kernel
theorem dX6_warm_27 : decode cX6_warm 27 = .ok (.getfield 183, 3) := by decide +kernel
theorem dX6_warm_30 : decode cX6_warm 30 = .ok (.ldc2_w 186, 3) := by decide +kernel
theorem dX6_warm_33 : decode cX6_warm 33 = .ok (.iload_n 3, 1) := by decide +kernel
theorem dX6_warm_34 : decode cX6_warm 34 = .ok (.i2d, 1) := by decide +kernel
theorem dX6_warm_35 : decode cX6_warm 35 = .ok (.dmul, 1) := by decide +kernel
theorem dX6_warm_36 : decode cX6_warm 36 = .ok (.dsub, 1) := by decide +kernel
theorem dX6_warm_37 : decode cX6_warm 37 = .ok (.dreturn, 1) := by decide +kernel
theorem dX6_salt_0 : decode cX6_salt 0 = .ok (.aload_n 0, 1) := by decide +kernel
theorem dX6_salt_1 : decode cX6_salt 1 = .ok (.iload_n 1, 1) := by decide +kernel
theorem dX6_salt_2 : decode cX6_salt 2 = .ok (.iload_n 2, 1) := by decide +kernel
theorem dX6_salt_3 : decode cX6_salt 3 = .ok (.invokevirtual 128, 3) := by decide +kernel
theorem dX6_salt_6 : decode cX6_salt 6 = .ok (.astore 4, 2) := by decide +kernel
theorem dX6_salt_8 : decode cX6_salt 8 = .ok (.aload 4, 2) := by decide +kernel
theorem dX6_salt_10 : decode cX6_salt 10 = .ok (.ifnull 11, 3) := by decide +kernel
theorem dX6_salt_13 : decode cX6_salt 13 = .ok (.aload_n 0, 1) := by decide +kernel
theorem dX6_salt_14 : decode cX6_salt 14 = .ok (.iload_n 3, 1) := by decide +kernel
theorem dX6_salt_15 : decode cX6_salt 15 = .ok (.invokevirtual 147, 3) := by decide +kernel
theorem dX6_salt_18 : decode cX6_salt 18 = .ok (.ifCond .ne 7, 3) := by decide +kernel
theorem dX6_salt_21 : decode cX6_salt 21 = .ok (.invokestatic 140, 3) := by decide +kernel
theorem dX6_salt_24 : decode cX6_salt 24 = .ok (.dreturn, 1) := by decide +kernel
theorem dX6_salt_25 : decode cX6_salt 25 = .ok (.aload 4, 2) := by decide +kernel
theorem dX6_salt_27 : decode cX6_salt 27 = .ok (.getfield 188, 3) := by decide +kernel
theorem dX6_salt_30 : decode cX6_salt 30 = .ok (.ldc2_w 191, 3) := by decide +kernel
theorem dX6_salt_33 : decode cX6_salt 33 = .ok (.iload_n 3, 1) := by decide +kernel
theorem dX6_salt_34 : decode cX6_salt 34 = .ok (.i2d, 1) := by decide +kernel
theorem dX6_salt_35 : decode cX6_salt 35 = .ok (.dmul, 1) := by decide +kernel
theorem dX6_salt_36 : decode cX6_salt 36 = .ok (.dadd, 1) := by decide +kernel
theorem dX6_salt_37 : decode cX6_salt 37 = .ok (.dreturn, 1) := by decide +kernel
theorem dX6_dry_0 : decode cX6_dry 0 = .ok (.aload_n 0, 1) := by decide +kernel
theorem dX6_dry_1 : decode cX6_dry 1 = .ok (.iload_n 1, 1) := by decide +kernel
theorem dX6_dry_2 : decode cX6_dry 2 = .ok (.iload_n 2, 1) := by decide +kernel
theorem dX6_dry_3 : decode cX6_dry 3 = .ok (.invokevirtual 128, 3) := by decide +kernel
theorem dX6_dry_6 : decode cX6_dry 6 = .ok (.astore_n 3, 1) := by decide +kernel
theorem dX6_dry_7 : decode cX6_dry 7 = .ok (.aload_n 3, 1) := by decide +kernel
theorem dX6_dry_8 : decode cX6_dry 8 = .ok (.ifnull 10, 3) := by decide +kernel
theorem dX6_dry_11 : decode cX6_dry 11 = .ok (.aload_n 3, 1) := by decide +kernel
theorem dX6_dry_12 : decode cX6_dry 12 = .ok (.invokevirtual 193, 3) := by decide +kernel
theorem dX6_dry_15 : decode cX6_dry 15 = .ok (.ifCond .eq 7, 3) := by decide +kernel
theorem dX6_dry_18 : decode cX6_dry 18 = .ok (.iconst 1, 1) := by decide +kernel
theorem dX6_dry_19 : decode cX6_dry 19 = .ok (.goto 4, 3) := by decide +kernel
theorem dX6_dry_22 : decode cX6_dry 22 = .ok (.iconst 0, 1) := by decide +kernel
theorem dX6_dry_23 : decode cX6_dry 23 = .ok (.ireturn, 1) := by decide +kernel
theorem dX6_nest_0 : decode cX6_nest 0 = .ok (.aload_n 0, 1) := by decide +kernel
theorem dX6_nest_1 : decode cX6_nest 1 = .ok (.iload_n 1, 1) := by decide +kernel
theorem dX6_nest_2 : decode cX6_nest 2 = .ok (.iload_n 2, 1) := by decide +kernel
theorem dX6_nest_3 : decode cX6_nest 3 = .ok (.invokevirtual 128, 3) := by decide +kernel
theorem dX6_nest_6 : decode cX6_nest 6 = .ok (.astore 4, 2) := by decide +kernel
theorem dX6_nest_8 : decode cX6_nest 8 = .ok (.aload 4, 2) := by decide +kernel
theorem dX6_nest_10 : decode cX6_nest 10 = .ok (.ifnull 22, 3) := by decide +kernel
theorem dX6_nest_13 : decode cX6_nest 13 = .ok (.aload 4, 2) := by decide +kernel
theorem dX6_nest_15 : decode cX6_nest 15 = .ok (.getfield 196, 3) := by decide +kernel
theorem dX6_nest_18 : decode cX6_nest 18 = .ok (.ifnonnull 14, 3) := by decide +kernel
theorem dX6_nest_21 : decode cX6_nest 21 = .ok (.iload_n 3, 1) := by decide +kernel
theorem dX6_nest_22 : decode cX6_nest 22 = .ok (.iconst 2, 1) := by decide +kernel
theorem dX6_nest_23 : decode cX6_nest 23 = .ok (.if_icmp .lt 9, 3) := by decide +kernel
theorem dX6_nest_26 : decode cX6_nest 26 = .ok (.iload_n 3, 1) := by decide +kernel
theorem dX6_nest_27 : decode cX6_nest 27 = .ok (.bipush 8, 2) := by decide +kernel
theorem dX6_nest_29 : decode cX6_nest 29 = .ok (.if_icmp .le 5, 3) := by decide +kernel
theorem dX6_nest_32 : decode cX6_nest 32 = .ok (.iconst (-1), 1) := by decide +kernel
theorem dX6_nest_33 : decode cX6_nest 33 = .ok (.ireturn, 1) := by decide +kernel
theorem dX6_nest_34 : decode cX6_nest 34 = .ok (.aload_n 0, 1) := by decide +kernel
theorem dX6_nest_35 : decode cX6_nest 35 = .ok (.getfield 200, 3) := by decide +kernel
theorem dX6_nest_38 : decode cX6_nest 38 = .ok (.istore 5, 2) := by decide +kernel
theorem dX6_nest_40 : decode cX6_nest 40 = .ok (.iload 5, 2) := by decide +kernel
theorem dX6_nest_42 : decode cX6_nest 42 = .ok (.ifCond .lt 13, 3) := by decide +kernel
theorem dX6_nest_45 : decode cX6_nest 45 = .ok (.iload 5, 2) := by decide +kernel
theorem dX6_nest_47 : decode cX6_nest 47 = .ok (.aload_n 0, 1) := by decide +kernel
theorem dX6_nest_48 : decode cX6_nest 48 = .ok (.getfield 58, 3) := by decide +kernel
theorem dX6_nest_51 : decode cX6_nest 51 = .ok (.arraylength, 1) := by decide +kernel
theorem dX6_nest_52 : decode cX6_nest 52 = .ok (.if_icmp .lt 5, 3) := by decide +kernel
theorem dX6_nest_55 : decode cX6_nest 55 = .ok (.iconst (-1), 1) := by decide +kernel
theorem dX6_nest_56 : decode cX6_nest 56 = .ok (.ireturn, 1) := by decide +kernel
theorem dX6_nest_57 : decode cX6_nest 57 = .ok (.aload_n 0, 1) := by decide +kernel
theorem dX6_nest_58 : decode cX6_nest 58 = .ok (.getfield 58, 3) := by decide +kernel
theorem dX6_nest_61 : decode cX6_nest 61 = .ok (.iload 5, 2) := by decide +kernel
theorem dX6_nest_63 : decode cX6_nest 63 = .ok (.aaload, 1) := by decide +kernel
theorem dX6_nest_64 : decode cX6_nest 64 = .ok (.aload 4, 2) := by decide +kernel
theorem dX6_nest_66 : decode cX6_nest 66 = .ok (.iload_n 3, 1) := by decide +kernel
theorem dX6_nest_67 : decode cX6_nest 67 = .ok (.invokevirtual 203, 3) := by decide +kernel
theorem dX6_nest_70 : decode cX6_nest 70 = .ok (.aload_n 0, 1) := by decide +kernel
theorem dX6_nest_71 : decode cX6_nest 71 = .ok (.iload 5, 2) := by decide +kernel
theorem dX6_nest_73 : decode cX6_nest 73 = .ok (.iconst 1, 1) := by decide +kernel
theorem dX6_nest_74 : decode cX6_nest 74 = .ok (.iadd, 1) := by decide +kernel
theorem dX6_nest_75 : decode cX6_nest 75 = .ok (.putfield 200, 3) := by decide +kernel
theorem dX6_nest_78 : decode cX6_nest 78 = .ok (.aload_n 0, 1) := by decide +kernel
theorem dX6_nest_79 : decode cX6_nest 79 = .ok (.dup, 1) := by decide +kernel
theorem dX6_nest_80 : decode cX6_nest 80 = .ok (.getfield 109, 3) := by decide +kernel
theorem dX6_nest_83 : decode cX6_nest 83 = .ok (.iconst 1, 1) := by decide +kernel
theorem dX6_nest_84 : decode cX6_nest 84 = .ok (.iadd, 1) := by decide +kernel
theorem dX6_nest_85 : decode cX6_nest 85 = .ok (.putfield 109, 3) := by decide +kernel
theorem dX6_nest_88 : decode cX6_nest 88 = .ok (.iload 5, 2) := by decide +kernel
theorem dX6_nest_90 : decode cX6_nest 90 = .ok (.ireturn, 1) := by decide +kernel
theorem dX6_equal_0 : decode cX6_equal 0 = .ok (.iload_n 1, 1) := by decide +kernel
theorem dX6_equal_1 : decode cX6_equal 1 = .ok (.ifCond .lt 28, 3) := by decide +kernel
theorem dX6_equal_4 : decode cX6_equal 4 = .ok (.iload_n 1, 1) := by decide +kernel
theorem dX6_equal_5 : decode cX6_equal 5 = .ok (.aload_n 0, 1) := by decide +kernel
theorem dX6_equal_6 : decode cX6_equal 6 = .ok (.getfield 58, 3) := by decide +kernel
theorem dX6_equal_9 : decode cX6_equal 9 = .ok (.arraylength, 1) := by decide +kernel
theorem dX6_equal_10 : decode cX6_equal 10 = .ok (.if_icmp .ge 19, 3) := by decide +kernel
theorem dX6_equal_13 : decode cX6_equal 13 = .ok (.aload_n 0, 1) := by decide +kernel
theorem dX6_equal_14 : decode cX6_equal 14 = .ok (.getfield 58, 3) := by decide +kernel
theorem dX6_equal_17 : decode cX6_equal 17 = .ok (.iload_n 1, 1) := by decide +kernel
theorem dX6_equal_18 : decode cX6_equal 18 = .ok (.aaload, 1) := by decide +kernel
theorem dX6_equal_19 : decode cX6_equal 19 = .ok (.invokevirtual 209, 3) := by decide +kernel
theorem dX6_equal_22 : decode cX6_equal 22 = .ok (.ifCond .eq 7, 3) := by decide +kernel
theorem dX6_equal_25 : decode cX6_equal 25 = .ok (.iconst 1, 1) := by decide +kernel
theorem dX6_equal_26 : decode cX6_equal 26 = .ok (.goto 4, 3) := by decide +kernel
theorem dX6_equal_29 : decode cX6_equal 29 = .ok (.iconst 0, 1) := by decide +kernel
theorem dX6_equal_30 : decode cX6_equal 30 = .ok (.ireturn, 1) := by decide +kernel
theorem dX6_fit_0 : decode cX6_fit 0 = .ok (.iload_n 1, 1) := by decide +kernel
theorem dX6_fit_1 : decode cX6_fit 1 = .ok (.ifCond .lt 8, 3) := by decide +kernel
theorem dX6_fit_4 : decode cX6_fit 4 = .ok (.iload_n 1, 1) := by decide +kernel
theorem dX6_fit_5 : decode cX6_fit 5 = .ok (.iconst 2, 1) := by decide +kernel
theorem dX6_fit_6 : decode cX6_fit 6 = .ok (.if_icmp .le 5, 3) := by decide +kernel
theorem dX6_fit_9 : decode cX6_fit 9 = .ok (.iconst (-1), 1) := by decide +kernel
theorem dX6_fit_10 : decode cX6_fit 10 = .ok (.ireturn, 1) := by decide +kernel
theorem dX6_fit_11 : decode cX6_fit 11 = .ok (.aload_n 0, 1) := by decide +kernel
theorem dX6_fit_12 : decode cX6_fit 12 = .ok (.getfield 76, 3) := by decide +kernel
theorem dX6_fit_15 : decode cX6_fit 15 = .ok (.iconst 1, 1) := by decide +kernel
theorem dX6_fit_16 : decode cX6_fit 16 = .ok (.iconst 2, 1) := by decide +kernel
theorem dX6_fit_17 : decode cX6_fit 17 = .ok (.iload_n 1, 1) := by decide +kernel
theorem dX6_fit_18 : decode cX6_fit 18 = .ok (.imul, 1) := by decide +kernel
theorem dX6_fit_19 : decode cX6_fit 19 = .ok (.iadd, 1) := by decide +kernel
theorem dX6_fit_20 : decode cX6_fit 20 = .ok (.invokevirtual 212, 3) := by decide +kernel
theorem dX6_fit_23 : decode cX6_fit 23 = .ok (.ireturn, 1) := by decide +kernel
theorem dX6_gauge_0 : decode cX6_gauge 0 = .ok (.aload_n 0, 1) := by decide +kernel
theorem dX6_gauge_1 : decode cX6_gauge 1 = .ok (.iload_n 1, 1) := by decide +kernel
theorem dX6_gauge_2 : decode cX6_gauge 2 = .ok (.iload_n 2, 1) := by decide +kernel
theorem dX6_gauge_3 : decode cX6_gauge 3 = .ok (.invokevirtual 80, 3) := by decide +kernel
theorem dX6_gauge_6 : decode cX6_gauge 6 = .ok (.astore 7, 2) := by decide +kernel
theorem dX6_gauge_8 : decode cX6_gauge 8 = .ok (.aload 7, 2) := by decide +kernel
theorem dX6_gauge_10 : decode cX6_gauge 10 = .ok (.ifnull 28, 3) := by decide +kernel
theorem dX6_gauge_13 : decode cX6_gauge 13 = .ok (.dload_n 3, 1) := by decide +kernel
theorem dX6_gauge_14 : decode cX6_gauge 14 = .ok (.dconst 0, 1) := by decide +kernel
theorem dX6_gauge_15 : decode cX6_gauge 15 = .ok (.ldc2_w 84, 3) := by decide +kernel
theorem dX6_gauge_18 : decode cX6_gauge 18 = .ok (.invokestatic 86, 3) := by decide +kernel
theorem dX6_gauge_21 : decode cX6_gauge 21 = .ok (.ifCond .eq 17, 3) := by decide +kernel
theorem dX6_gauge_24 : decode cX6_gauge 24 = .ok (.dload 5, 2) := by decide +kernel
theorem dX6_gauge_26 : decode cX6_gauge 26 = .ok (.ldc2_w 124, 3) := by decide +kernel
theorem dX6_gauge_29 : decode cX6_gauge 29 = .ok (.ldc2_w 126, 3) := by decide +kernel
theorem dX6_gauge_32 : decode cX6_gauge 32 = .ok (.invokestatic 86, 3) := by decide +kernel
theorem dX6_gauge_35 : decode cX6_gauge 35 = .ok (.ifCond .ne 5, 3) := by decide +kernel
theorem dX6_gauge_38 : decode cX6_gauge 38 = .ok (.iconst 0, 1) := by decide +kernel
theorem dX6_gauge_39 : decode cX6_gauge 39 = .ok (.ireturn, 1) := by decide +kernel
theorem dX6_gauge_40 : decode cX6_gauge 40 = .ok (.aload_n 0, 1) := by decide +kernel
theorem dX6_gauge_41 : decode cX6_gauge 41 = .ok (.getfield 76, 3) := by decide +kernel
theorem dX6_gauge_44 : decode cX6_gauge 44 = .ok (.dload_n 3, 1) := by decide +kernel
theorem dX6_gauge_45 : decode cX6_gauge 45 = .ok (.dload 5, 2) := by decide +kernel
theorem dX6_gauge_47 : decode cX6_gauge 47 = .ok (.invokevirtual 216, 3) := by decide +kernel
theorem dX6_gauge_50 : decode cX6_gauge 50 = .ok (.ifCond .ne 5, 3) := by decide +kernel
theorem dX6_gauge_53 : decode cX6_gauge 53 = .ok (.iconst 0, 1) := by decide +kernel
theorem dX6_gauge_54 : decode cX6_gauge 54 = .ok (.ireturn, 1) := by decide +kernel
theorem dX6_gauge_55 : decode cX6_gauge 55 = .ok (.aload 7, 2) := by decide +kernel
theorem dX6_gauge_57 : decode cX6_gauge 57 = .ok (.iconst 1, 1) := by decide +kernel
theorem dX6_gauge_58 : decode cX6_gauge 58 = .ok (.putfield 220, 3) := by decide +kernel
theorem dX6_gauge_61 : decode cX6_gauge 61 = .ok (.aload 7, 2) := by decide +kernel
theorem dX6_gauge_63 : decode cX6_gauge 63 = .ok (.dload 5, 2) := by decide +kernel
theorem dX6_gauge_65 : decode cX6_gauge 65 = .ok (.putfield 224, 3) := by decide +kernel
theorem dX6_gauge_68 : decode cX6_gauge 68 = .ok (.iconst 1, 1) := by decide +kernel
theorem dX6_gauge_69 : decode cX6_gauge 69 = .ok (.ireturn, 1) := by decide +kernel
theorem dX6_tide_0 : decode cX6_tide 0 = .ok (.dload_n 1, 1) := by decide +kernel
theorem dX6_tide_1 : decode cX6_tide 1 = .ok (.dconst 0, 1) := by decide +kernel
theorem dX6_tide_2 : decode cX6_tide 2 = .ok (.ldc2_w 84, 3) := by decide +kernel
theorem dX6_tide_5 : decode cX6_tide 5 = .ok (.invokestatic 86, 3) := by decide +kernel
theorem dX6_tide_8 : decode cX6_tide 8 = .ok (.ifCond .eq 14, 3) := by decide +kernel
theorem dX6_tide_11 : decode cX6_tide 11 = .ok (.aload_n 0, 1) := by decide +kernel
theorem dX6_tide_12 : decode cX6_tide 12 = .ok (.getfield 76, 3) := by decide +kernel
theorem dX6_tide_15 : decode cX6_tide 15 = .ok (.dload_n 1, 1) := by decide +kernel
theorem dX6_tide_16 : decode cX6_tide 16 = .ok (.invokevirtual 227, 3) := by decide +kernel
theorem dX6_tide_19 : decode cX6_tide 19 = .ok (.goto 4, 3) := by decide +kernel
theorem dX6_tide_22 : decode cX6_tide 22 = .ok (.dconst 0, 1) := by decide +kernel
theorem dX6_tide_23 : decode cX6_tide 23 = .ok (.dreturn, 1) := by decide +kernel
theorem dX6_save_0 : decode cX6_save 0 = .ok (.aload_n 0, 1) := by decide +kernel
theorem dX6_save_1 : decode cX6_save 1 = .ok (.getfield 231, 3) := by decide +kernel
theorem dX6_save_4 : decode cX6_save 4 = .ok (.istore_n 1, 1) := by decide +kernel
theorem dX6_save_5 : decode cX6_save 5 = .ok (.iload_n 1, 1) := by decide +kernel
theorem dX6_save_6 : decode cX6_save 6 = .ok (.ifCond .lt 12, 3) := by decide +kernel
theorem dX6_save_9 : decode cX6_save 9 = .ok (.iload_n 1, 1) := by decide +kernel
theorem dX6_save_10 : decode cX6_save 10 = .ok (.aload_n 0, 1) := by decide +kernel
theorem dX6_save_11 : decode cX6_save 11 = .ok (.getfield 69, 3) := by decide +kernel
theorem dX6_save_14 : decode cX6_save 14 = .ok (.arraylength, 1) := by decide +kernel
theorem dX6_save_15 : decode cX6_save 15 = .ok (.if_icmp .lt 5, 3) := by decide +kernel
theorem dX6_save_18 : decode cX6_save 18 = .ok (.iconst (-1), 1) := by decide +kernel
theorem dX6_save_19 : decode cX6_save 19 = .ok (.ireturn, 1) := by decide +kernel
theorem dX6_save_20 : decode cX6_save 20 = .ok (.aload_n 0, 1) := by decide +kernel
theorem dX6_save_21 : decode cX6_save 21 = .ok (.getfield 69, 3) := by decide +kernel
theorem dX6_save_24 : decode cX6_save 24 = .ok (.iload_n 1, 1) := by decide +kernel
theorem dX6_save_25 : decode cX6_save 25 = .ok (.aaload, 1) := by decide +kernel
theorem dX6_save_26 : decode cX6_save 26 = .ok (.astore_n 2, 1) := by decide +kernel
theorem dX6_save_27 : decode cX6_save 27 = .ok (.aload_n 2, 1) := by decide +kernel
theorem dX6_save_28 : decode cX6_save 28 = .ok (.aload_n 0, 1) := by decide +kernel
theorem dX6_save_29 : decode cX6_save 29 = .ok (.getfield 31, 3) := by decide +kernel
theorem dX6_save_32 : decode cX6_save 32 = .ok (.invokevirtual 234, 3) := by decide +kernel
theorem dX6_save_35 : decode cX6_save 35 = .ok (.aload_n 2, 1) := by decide +kernel
theorem dX6_save_36 : decode cX6_save 36 = .ok (.aload_n 0, 1) := by decide +kernel
theorem dX6_save_37 : decode cX6_save 37 = .ok (.getfield 43, 3) := by decide +kernel
theorem dX6_save_40 : decode cX6_save 40 = .ok (.invokevirtual 240, 3) := by decide +kernel
theorem dX6_save_43 : decode cX6_save 43 = .ok (.aload_n 2, 1) := by decide +kernel
theorem dX6_save_44 : decode cX6_save 44 = .ok (.aload_n 0, 1) := by decide +kernel
theorem dX6_save_45 : decode cX6_save 45 = .ok (.getfield 58, 3) := by decide +kernel
theorem dX6_save_48 : decode cX6_save 48 = .ok (.invokevirtual 244, 3) := by decide +kernel
theorem dX6_save_51 : decode cX6_save 51 = .ok (.aload_n 2, 1) := by decide +kernel
theorem dX6_save_52 : decode cX6_save 52 = .ok (.aload_n 0, 1) := by decide +kernel
theorem dX6_save_53 : decode cX6_save 53 = .ok (.getfield 35, 3) := by decide +kernel
theorem dX6_save_56 : decode cX6_save 56 = .ok (.invokevirtual 248, 3) := by decide +kernel
theorem dX6_save_59 : decode cX6_save 59 = .ok (.aload_n 2, 1) := by decide +kernel
theorem dX6_save_60 : decode cX6_save 60 = .ok (.aload_n 0, 1) := by decide +kernel
theorem dX6_save_61 : decode cX6_save 61 = .ok (.getfield 252, 3) := by decide +kernel
theorem dX6_save_64 : decode cX6_save 64 = .ok (.putfield 255, 3) := by decide +kernel
theorem dX6_save_67 : decode cX6_save 67 = .ok (.aload_n 2, 1) := by decide +kernel
theorem dX6_save_68 : decode cX6_save 68 = .ok (.aload_n 0, 1) := by decide +kernel
theorem dX6_save_69 : decode cX6_save 69 = .ok (.getfield 180, 3) := by decide +kernel
theorem dX6_save_72 : decode cX6_save 72 = .ok (.putfield 256, 3) := by decide +kernel
theorem dX6_save_75 : decode cX6_save 75 = .ok (.aload_n 2, 1) := by decide +kernel
theorem dX6_save_76 : decode cX6_save 76 = .ok (.aload_n 0, 1) := by decide +kernel
theorem dX6_save_77 : decode cX6_save 77 = .ok (.getfield 109, 3) := by decide +kernel
theorem dX6_save_80 : decode cX6_save 80 = .ok (.putfield 257, 3) := by decide +kernel
theorem dX6_save_83 : decode cX6_save 83 = .ok (.aload_n 0, 1) := by decide +kernel
theorem dX6_save_84 : decode cX6_save 84 = .ok (.iload_n 1, 1) := by decide +kernel
theorem dX6_save_85 : decode cX6_save 85 = .ok (.iconst 1, 1) := by decide +kernel
theorem dX6_save_86 : decode cX6_save 86 = .ok (.iadd, 1) := by decide +kernel
theorem dX6_save_87 : decode cX6_save 87 = .ok (.putfield 231, 3) := by decide +kernel
theorem dX6_save_90 : decode cX6_save 90 = .ok (.iload_n 1, 1) := by decide +kernel
theorem dX6_save_91 : decode cX6_save 91 = .ok (.ireturn, 1) := by decide +kernel
theorem dX6_back_0 : decode cX6_back 0 = .ok (.iload_n 1, 1) := by decide +kernel
theorem dX6_back_1 : decode cX6_back 1 = .ok (.ifCond .lt 12, 3) := by decide +kernel
theorem dX6_back_4 : decode cX6_back 4 = .ok (.iload_n 1, 1) := by decide +kernel
theorem dX6_back_5 : decode cX6_back 5 = .ok (.aload_n 0, 1) := by decide +kernel
theorem dX6_back_6 : decode cX6_back 6 = .ok (.getfield 69, 3) := by decide +kernel
theorem dX6_back_9 : decode cX6_back 9 = .ok (.arraylength, 1) := by decide +kernel
theorem dX6_back_10 : decode cX6_back 10 = .ok (.if_icmp .lt 5, 3) := by decide +kernel
theorem dX6_back_13 : decode cX6_back 13 = .ok (.iconst 0, 1) := by decide +kernel
theorem dX6_back_14 : decode cX6_back 14 = .ok (.ireturn, 1) := by decide +kernel
theorem dX6_back_15 : decode cX6_back 15 = .ok (.aload_n 0, 1) := by decide +kernel
theorem dX6_back_16 : decode cX6_back 16 = .ok (.getfield 69, 3) := by decide +kernel
theorem dX6_back_19 : decode cX6_back 19 = .ok (.iload_n 1, 1) := by decide +kernel
theorem dX6_back_20 : decode cX6_back 20 = .ok (.aaload, 1) := by decide +kernel
theorem dX6_back_21 : decode cX6_back 21 = .ok (.astore_n 2, 1) := by decide +kernel
theorem dX6_back_22 : decode cX6_back 22 = .ok (.aload_n 2, 1) := by decide +kernel
theorem dX6_back_23 : decode cX6_back 23 = .ok (.getfield 257, 3) := by decide +kernel
theorem dX6_back_26 : decode cX6_back 26 = .ok (.aload_n 0, 1) := by decide +kernel
theorem dX6_back_27 : decode cX6_back 27 = .ok (.getfield 109, 3) := by decide +kernel
theorem dX6_back_30 : decode cX6_back 30 = .ok (.if_icmp .eq 5, 3) := by decide +kernel
theorem dX6_back_33 : decode cX6_back 33 = .ok (.iconst 0, 1) := by decide +kernel
theorem dX6_back_34 : decode cX6_back 34 = .ok (.ireturn, 1) := by decide +kernel
theorem dX6_back_35 : decode cX6_back 35 = .ok (.aload_n 2, 1) := by decide +kernel
theorem dX6_back_36 : decode cX6_back 36 = .ok (.aload_n 0, 1) := by decide +kernel
theorem dX6_back_37 : decode cX6_back 37 = .ok (.getfield 31, 3) := by decide +kernel
theorem dX6_back_40 : decode cX6_back 40 = .ok (.invokevirtual 258, 3) := by decide +kernel
theorem dX6_back_43 : decode cX6_back 43 = .ok (.aload_n 2, 1) := by decide +kernel
theorem dX6_back_44 : decode cX6_back 44 = .ok (.aload_n 0, 1) := by decide +kernel
theorem dX6_back_45 : decode cX6_back 45 = .ok (.getfield 43, 3) := by decide +kernel
theorem dX6_back_48 : decode cX6_back 48 = .ok (.invokevirtual 261, 3) := by decide +kernel
theorem dX6_back_51 : decode cX6_back 51 = .ok (.aload_n 2, 1) := by decide +kernel
theorem dX6_back_52 : decode cX6_back 52 = .ok (.aload_n 0, 1) := by decide +kernel
theorem dX6_back_53 : decode cX6_back 53 = .ok (.getfield 58, 3) := by decide +kernel
theorem dX6_back_56 : decode cX6_back 56 = .ok (.invokevirtual 264, 3) := by decide +kernel
theorem dX6_back_59 : decode cX6_back 59 = .ok (.aload_n 2, 1) := by decide +kernel
theorem dX6_back_60 : decode cX6_back 60 = .ok (.aload_n 0, 1) := by decide +kernel
theorem dX6_back_61 : decode cX6_back 61 = .ok (.getfield 35, 3) := by decide +kernel
theorem dX6_back_64 : decode cX6_back 64 = .ok (.invokevirtual 267, 3) := by decide +kernel
theorem dX6_back_67 : decode cX6_back 67 = .ok (.aload_n 0, 1) := by decide +kernel
theorem dX6_back_68 : decode cX6_back 68 = .ok (.aload_n 2, 1) := by decide +kernel
theorem dX6_back_69 : decode cX6_back 69 = .ok (.getfield 255, 3) := by decide +kernel
theorem dX6_back_72 : decode cX6_back 72 = .ok (.putfield 252, 3) := by decide +kernel
theorem dX6_back_75 : decode cX6_back 75 = .ok (.aload_n 0, 1) := by decide +kernel
theorem dX6_back_76 : decode cX6_back 76 = .ok (.aload_n 2, 1) := by decide +kernel
theorem dX6_back_77 : decode cX6_back 77 = .ok (.getfield 256, 3) := by decide +kernel
theorem dX6_back_80 : decode cX6_back 80 = .ok (.putfield 180, 3) := by decide +kernel
theorem dX6_back_83 : decode cX6_back 83 = .ok (.iconst 1, 1) := by decide +kernel
theorem dX6_back_84 : decode cX6_back 84 = .ok (.ireturn, 1) := by decide +kernel
theorem dX6_ice_0 : decode cX6_ice 0 = .ok (.aload_n 0, 1) := by decide +kernel
theorem dX6_ice_1 : decode cX6_ice 1 = .ok (.iload_n 1, 1) := by decide +kernel
theorem dX6_ice_2 : decode cX6_ice 2 = .ok (.iload_n 2, 1) := by decide +kernel
theorem dX6_ice_3 : decode cX6_ice 3 = .ok (.invokevirtual 128, 3) := by decide +kernel
theorem dX6_ice_6 : decode cX6_ice 6 = .ok (.astore_n 3, 1) := by decide +kernel
theorem dX6_ice_7 : decode cX6_ice 7 = .ok (.aload_n 3, 1) := by decide +kernel
theorem dX6_ice_8 : decode cX6_ice 8 = .ok (.ifnonnull 5, 3) := by decide +kernel
theorem dX6_ice_11 : decode cX6_ice 11 = .ok (.dconst 0, 1) := by decide +kernel
theorem dX6_ice_12 : decode cX6_ice 12 = .ok (.dreturn, 1) := by decide +kernel
theorem dX6_ice_13 : decode cX6_ice 13 = .ok (.ldc2_w 270, 3) := by decide +kernel
theorem dX6_ice_16 : decode cX6_ice 16 = .ok (.ldc2_w 272, 3) := by decide +kernel
theorem dX6_ice_19 : decode cX6_ice 19 = .ok (.aload_n 3, 1) := by decide +kernel
theorem dX6_ice_20 : decode cX6_ice 20 = .ok (.getfield 183, 3) := by decide +kernel
theorem dX6_ice_23 : decode cX6_ice 23 = .ok (.dadd, 1) := by decide +kernel
theorem dX6_ice_24 : decode cX6_ice 24 = .ok (.dsub, 1) := by decide +kernel
theorem dX6_ice_25 : decode cX6_ice 25 = .ok (.ldc2_w 186, 3) := by decide +kernel
theorem dX6_ice_28 : decode cX6_ice 28 = .ok (.dmul, 1) := by decide +kernel
theorem dX6_ice_29 : decode cX6_ice 29 = .ok (.dstore 4, 2) := by decide +kernel
theorem dX6_ice_31 : decode cX6_ice 31 = .ok (.dload 4, 2) := by decide +kernel
theorem dX6_ice_33 : decode cX6_ice 33 = .ok (.dconst 0, 1) := by decide +kernel
theorem dX6_ice_34 : decode cX6_ice 34 = .ok (.dcmp .g, 1) := by decide +kernel
theorem dX6_ice_35 : decode cX6_ice 35 = .ok (.ifCond .ge 5, 3) := by decide +kernel
theorem dX6_ice_38 : decode cX6_ice 38 = .ok (.dconst 0, 1) := by decide +kernel
theorem dX6_ice_39 : decode cX6_ice 39 = .ok (.dreturn, 1) := by decide +kernel
theorem dX6_ice_40 : decode cX6_ice 40 = .ok (.dload 4, 2) := by decide +kernel
theorem dX6_ice_42 : decode cX6_ice 42 = .ok (.dconst 1, 1) := by decide +kernel
theorem dX6_ice_43 : decode cX6_ice 43 = .ok (.dcmp .l, 1) := by decide +kernel
theorem dX6_ice_44 : decode cX6_ice 44 = .ok (.ifCond .le 7, 3) := by decide +kernel
theorem dX6_ice_47 : decode cX6_ice 47 = .ok (.dconst 1, 1) := by decide +kernel
theorem dX6_ice_48 : decode cX6_ice 48 = .ok (.goto 5, 3) := by decide +kernel
theorem dX6_ice_51 : decode cX6_ice 51 = .ok (.dload 4, 2) := by decide +kernel
theorem dX6_ice_53 : decode cX6_ice 53 = .ok (.dreturn, 1) := by decide +kernel
theorem dX6_mud_0 : decode cX6_mud 0 = .ok (.aload_n 0, 1) := by decide +kernel
theorem dX6_mud_1 : decode cX6_mud 1 = .ok (.iload_n 1, 1) := by decide +kernel
theorem dX6_mud_2 : decode cX6_mud 2 = .ok (.iload_n 2, 1) := by decide +kernel
theorem dX6_mud_3 : decode cX6_mud 3 = .ok (.invokevirtual 128, 3) := by decide +kernel
theorem dX6_mud_6 : decode cX6_mud 6 = .ok (.astore_n 3, 1) := by decide +kernel
theorem dX6_mud_7 : decode cX6_mud 7 = .ok (.aload_n 3, 1) := by decide +kernel
theorem dX6_mud_8 : decode cX6_mud 8 = .ok (.ifnonnull 7, 3) := by decide +kernel
theorem dX6_mud_11 : decode cX6_mud 11 = .ok (.dconst 0, 1) := by decide +kernel
theorem dX6_mud_12 : decode cX6_mud 12 = .ok (.goto 7, 3) := by decide +kernel
theorem dX6_mud_15 : decode cX6_mud 15 = .ok (.aload_n 3, 1) := by decide +kernel
theorem dX6_mud_16 : decode cX6_mud 16 = .ok (.getfield 274, 3) := by decide +kernel
theorem dX6_mud_19 : decode cX6_mud 19 = .ok (.dreturn, 1) := by decide +kernel
theorem dX6_differs_0 : decode cX6_differs 0 = .ok (.aload_n 0, 1) := by decide +kernel
theorem dX6_differs_1 : decode cX6_differs 1 = .ok (.iload_n 1, 1) := by decide +kernel
theorem dX6_differs_2 : decode cX6_differs 2 = .ok (.iload_n 2, 1) := by decide +kernel
theorem dX6_differs_3 : decode cX6_differs 3 = .ok (.invokevirtual 128, 3) := by decide +kernel
theorem dX6_differs_6 : decode cX6_differs 6 = .ok (.astore_n 3, 1) := by decide +kernel
theorem dX6_differs_7 : decode cX6_differs 7 = .ok (.aload_n 3, 1) := by decide +kernel
theorem dX6_differs_8 : decode cX6_differs 8 = .ok (.ifnull 10, 3) := by decide +kernel
theorem dX6_differs_11 : decode cX6_differs 11 = .ok (.aload_n 3, 1) := by decide +kernel
theorem dX6_differs_12 : decode cX6_differs 12 = .ok (.getfield 220, 3) := by decide +kernel
theorem dX6_differs_15 : decode cX6_differs 15 = .ok (.ifCond .ne 5, 3) := by decide +kernel
theorem dX6_differs_18 : decode cX6_differs 18 = .ok (.dconst 0, 1) := by decide +kernel
theorem dX6_differs_19 : decode cX6_differs 19 = .ok (.dreturn, 1) := by decide +kernel
theorem dX6_differs_20 : decode cX6_differs 20 = .ok (.aload_n 3, 1) := by decide +kernel
theorem dX6_differs_21 : decode cX6_differs 21 = .ok (.getfield 224, 3) := by decide +kernel
theorem dX6_differs_24 : decode cX6_differs 24 = .ok (.aload_n 3, 1) := by decide +kernel
theorem dX6_differs_25 : decode cX6_differs 25 = .ok (.invokevirtual 144, 3) := by decide +kernel
theorem dX6_differs_28 : decode cX6_differs 28 = .ok (.dsub, 1) := by decide +kernel
theorem dX6_differs_29 : decode cX6_differs 29 = .ok (.dreturn, 1) := by decide +kernel
theorem dX6_step_0 : decode cX6_step 0 = .ok (.aload_n 0, 1) := by decide +kernel
theorem dX6_step_1 : decode cX6_step 1 = .ok (.getfield 252, 3) := by decide +kernel
theorem dX6_step_4 : decode cX6_step 4 = .ok (.ldc2_w 277, 3) := by decide +kernel
theorem dX6_step_7 : decode cX6_step 7 = .ok (.ddiv, 1) := by decide +kernel
theorem dX6_step_8 : decode cX6_step 8 = .ok (.d2l, 1) := by decide +kernel
theorem dX6_step_9 : decode cX6_step 9 = .ok (.ldc2_w 279, 3) := by decide +kernel
theorem dX6_step_12 : decode cX6_step 12 = .ok (.invokestatic 281, 3) := by decide +kernel
theorem dX6_step_15 : decode cX6_step 15 = .ok (.l2i, 1) := by decide +kernel
theorem dX6_step_16 : decode cX6_step 16 = .ok (.istore_n 3, 1) := by decide +kernel
theorem dX6_step_17 : decode cX6_step 17 = .ok (.aload_n 0, 1) := by decide +kernel
theorem dX6_step_18 : decode cX6_step 18 = .ok (.getfield 31, 3) := by decide +kernel
theorem dX6_step_21 : decode cX6_step 21 = .ok (.astore 4, 2) := by decide +kernel
theorem dX6_step_23 : decode cX6_step 23 = .ok (.aload 4, 2) := by decide +kernel
theorem dX6_step_25 : decode cX6_step 25 = .ok (.arraylength, 1) := by decide +kernel
theorem dX6_step_26 : decode cX6_step 26 = .ok (.istore 5, 2) := by decide +kernel
theorem dX6_step_28 : decode cX6_step 28 = .ok (.iconst 0, 1) := by decide +kernel
theorem dX6_step_29 : decode cX6_step 29 = .ok (.istore 6, 2) := by decide +kernel
theorem dX6_step_31 : decode cX6_step 31 = .ok (.iload 6, 2) := by decide +kernel
theorem dX6_step_33 : decode cX6_step 33 = .ok (.iload 5, 2) := by decide +kernel
theorem dX6_step_35 : decode cX6_step 35 = .ok (.if_icmp .ge 21, 3) := by decide +kernel
theorem dX6_step_38 : decode cX6_step 38 = .ok (.aload 4, 2) := by decide +kernel
theorem dX6_step_40 : decode cX6_step 40 = .ok (.iload 6, 2) := by decide +kernel
theorem dX6_step_42 : decode cX6_step 42 = .ok (.aaload, 1) := by decide +kernel
theorem dX6_step_43 : decode cX6_step 43 = .ok (.astore 7, 2) := by decide +kernel
theorem dX6_step_45 : decode cX6_step 45 = .ok (.aload 7, 2) := by decide +kernel
theorem dX6_step_47 : decode cX6_step 47 = .ok (.invokevirtual 287, 3) := by decide +kernel
theorem dX6_step_50 : decode cX6_step 50 = .ok (.iinc 6 1, 3) := by decide +kernel
theorem dX6_step_53 : decode cX6_step 53 = .ok (.goto (-22), 3) := by decide +kernel
theorem dX6_step_56 : decode cX6_step 56 = .ok (.aload_n 0, 1) := by decide +kernel
theorem dX6_step_57 : decode cX6_step 57 = .ok (.getfield 35, 3) := by decide +kernel
theorem dX6_step_60 : decode cX6_step 60 = .ok (.astore 4, 2) := by decide +kernel
theorem dX6_step_62 : decode cX6_step 62 = .ok (.aload 4, 2) := by decide +kernel
theorem dX6_step_64 : decode cX6_step 64 = .ok (.arraylength, 1) := by decide +kernel
theorem dX6_step_65 : decode cX6_step 65 = .ok (.istore 5, 2) := by decide +kernel
theorem dX6_step_67 : decode cX6_step 67 = .ok (.iconst 0, 1) := by decide +kernel
theorem dX6_step_68 : decode cX6_step 68 = .ok (.istore 6, 2) := by decide +kernel
theorem dX6_step_70 : decode cX6_step 70 = .ok (.iload 6, 2) := by decide +kernel
theorem dX6_step_72 : decode cX6_step 72 = .ok (.iload 5, 2) := by decide +kernel
theorem dX6_step_74 : decode cX6_step 74 = .ok (.if_icmp .ge 25, 3) := by decide +kernel
theorem dX6_step_77 : decode cX6_step 77 = .ok (.aload 4, 2) := by decide +kernel
theorem dX6_step_79 : decode cX6_step 79 = .ok (.iload 6, 2) := by decide +kernel
theorem dX6_step_81 : decode cX6_step 81 = .ok (.aaload, 1) := by decide +kernel
theorem dX6_step_82 : decode cX6_step 82 = .ok (.astore 7, 2) := by decide +kernel
theorem dX6_step_84 : decode cX6_step 84 = .ok (.aload 7, 2) := by decide +kernel
theorem dX6_step_86 : decode cX6_step 86 = .ok (.aload_n 0, 1) := by decide +kernel
theorem dX6_step_87 : decode cX6_step 87 = .ok (.getfield 252, 3) := by decide +kernel
theorem dX6_step_90 : decode cX6_step 90 = .ok (.invokevirtual 290, 3) := by decide +kernel
theorem dX6_step_93 : decode cX6_step 93 = .ok (.iinc 6 1, 3) := by decide +kernel
theorem dX6_step_96 : decode cX6_step 96 = .ok (.goto (-26), 3) := by decide +kernel
theorem dX6_step_99 : decode cX6_step 99 = .ok (.aload_n 0, 1) := by decide +kernel
theorem dX6_step_100 : decode cX6_step 100 = .ok (.getfield 43, 3) := by decide +kernel
theorem dX6_step_103 : decode cX6_step 103 = .ok (.astore 4, 2) := by decide +kernel
theorem dX6_step_105 : decode cX6_step 105 = .ok (.aload 4, 2) := by decide +kernel
theorem dX6_step_107 : decode cX6_step 107 = .ok (.arraylength, 1) := by decide +kernel
theorem dX6_step_108 : decode cX6_step 108 = .ok (.istore 5, 2) := by decide +kernel
theorem dX6_step_110 : decode cX6_step 110 = .ok (.iconst 0, 1) := by decide +kernel
theorem dX6_step_111 : decode cX6_step 111 = .ok (.istore 6, 2) := by decide +kernel
theorem dX6_step_113 : decode cX6_step 113 = .ok (.iload 6, 2) := by decide +kernel
theorem dX6_step_115 : decode cX6_step 115 = .ok (.iload 5, 2) := by decide +kernel
theorem dX6_step_117 : decode cX6_step 117 = .ok (.if_icmp .ge 45, 3) := by decide +kernel
theorem dX6_step_120 : decode cX6_step 120 = .ok (.aload 4, 2) := by decide +kernel
theorem dX6_step_122 : decode cX6_step 122 = .ok (.iload 6, 2) := by decide +kernel
theorem dX6_step_124 : decode cX6_step 124 = .ok (.aaload, 1) := by decide +kernel
theorem dX6_step_125 : decode cX6_step 125 = .ok (.astore 7, 2) := by decide +kernel
theorem dX6_step_127 : decode cX6_step 127 = .ok (.aload 7, 2) := by decide +kernel
theorem dX6_step_129 : decode cX6_step 129 = .ok (.dload_n 1, 1) := by decide +kernel
theorem dX6_step_130 : decode cX6_step 130 = .ok (.aload 7, 2) := by decide +kernel
theorem dX6_step_132 : decode cX6_step 132 = .ok (.getfield 155, 3) := by decide +kernel
theorem dX6_step_135 : decode cX6_step 135 = .ok (.ifCond .ne 12, 3) := by decide +kernel
theorem dX6_step_138 : decode cX6_step 138 = .ok (.aload_n 0, 1) := by decide +kernel
theorem dX6_step_139 : decode cX6_step 139 = .ok (.getfield 47, 3) := by decide +kernel
theorem dX6_step_142 : decode cX6_step 142 = .ok (.iload_n 3, 1) := by decide +kernel
theorem dX6_step_143 : decode cX6_step 143 = .ok (.daload, 1) := by decide +kernel
theorem dX6_step_144 : decode cX6_step 144 = .ok (.goto 9, 3) := by decide +kernel
theorem dX6_step_147 : decode cX6_step 147 = .ok (.aload_n 0, 1) := by decide +kernel
theorem dX6_step_148 : decode cX6_step 148 = .ok (.getfield 51, 3) := by decide +kernel
theorem dX6_step_151 : decode cX6_step 151 = .ok (.iload_n 3, 1) := by decide +kernel
theorem dX6_step_152 : decode cX6_step 152 = .ok (.daload, 1) := by decide +kernel
theorem dX6_step_153 : decode cX6_step 153 = .ok (.invokevirtual 293, 3) := by decide +kernel
theorem dX6_step_156 : decode cX6_step 156 = .ok (.iinc 6 1, 3) := by decide +kernel
theorem dX6_step_159 : decode cX6_step 159 = .ok (.goto (-46), 3) := by decide +kernel
theorem dX6_step_162 : decode cX6_step 162 = .ok (.aload_n 0, 1) := by decide +kernel
theorem dX6_step_163 : decode cX6_step 163 = .ok (.getfield 43, 3) := by decide +kernel
theorem dX6_step_166 : decode cX6_step 166 = .ok (.astore 4, 2) := by decide +kernel
theorem dX6_step_168 : decode cX6_step 168 = .ok (.aload 4, 2) := by decide +kernel
theorem dX6_step_170 : decode cX6_step 170 = .ok (.arraylength, 1) := by decide +kernel
theorem dX6_step_171 : decode cX6_step 171 = .ok (.istore 5, 2) := by decide +kernel
theorem dX6_step_173 : decode cX6_step 173 = .ok (.iconst 0, 1) := by decide +kernel
theorem dX6_step_174 : decode cX6_step 174 = .ok (.istore 6, 2) := by decide +kernel
theorem dX6_step_176 : decode cX6_step 176 = .ok (.iload 6, 2) := by decide +kernel
theorem dX6_step_178 : decode cX6_step 178 = .ok (.iload 5, 2) := by decide +kernel
theorem dX6_step_180 : decode cX6_step 180 = .ok (.if_icmp .ge 21, 3) := by decide +kernel
theorem dX6_step_183 : decode cX6_step 183 = .ok (.aload 4, 2) := by decide +kernel
theorem dX6_step_185 : decode cX6_step 185 = .ok (.iload 6, 2) := by decide +kernel
theorem dX6_step_187 : decode cX6_step 187 = .ok (.aaload, 1) := by decide +kernel
theorem dX6_step_188 : decode cX6_step 188 = .ok (.astore 7, 2) := by decide +kernel
theorem dX6_step_190 : decode cX6_step 190 = .ok (.aload 7, 2) := by decide +kernel
theorem dX6_step_192 : decode cX6_step 192 = .ok (.invokevirtual 297, 3) := by decide +kernel
theorem dX6_step_195 : decode cX6_step 195 = .ok (.iinc 6 1, 3) := by decide +kernel
theorem dX6_step_198 : decode cX6_step 198 = .ok (.goto (-22), 3) := by decide +kernel
theorem dX6_step_201 : decode cX6_step 201 = .ok (.aload_n 0, 1) := by decide +kernel
theorem dX6_step_202 : decode cX6_step 202 = .ok (.getfield 31, 3) := by decide +kernel
theorem dX6_step_205 : decode cX6_step 205 = .ok (.astore 4, 2) := by decide +kernel
theorem dX6_step_207 : decode cX6_step 207 = .ok (.aload 4, 2) := by decide +kernel
theorem dX6_step_209 : decode cX6_step 209 = .ok (.arraylength, 1) := by decide +kernel
theorem dX6_step_210 : decode cX6_step 210 = .ok (.istore 5, 2) := by decide +kernel
theorem dX6_step_212 : decode cX6_step 212 = .ok (.iconst 0, 1) := by decide +kernel
theorem dX6_step_213 : decode cX6_step 213 = .ok (.istore 6, 2) := by decide +kernel
theorem dX6_step_215 : decode cX6_step 215 = .ok (.iload 6, 2) := by decide +kernel
theorem dX6_step_217 : decode cX6_step 217 = .ok (.iload 5, 2) := by decide +kernel
theorem dX6_step_219 : decode cX6_step 219 = .ok (.if_icmp .ge 37, 3) := by decide +kernel
theorem dX6_step_222 : decode cX6_step 222 = .ok (.aload 4, 2) := by decide +kernel
theorem dX6_step_224 : decode cX6_step 224 = .ok (.iload 6, 2) := by decide +kernel
theorem dX6_step_226 : decode cX6_step 226 = .ok (.aaload, 1) := by decide +kernel
theorem dX6_step_227 : decode cX6_step 227 = .ok (.astore 7, 2) := by decide +kernel
theorem dX6_step_229 : decode cX6_step 229 = .ok (.aload_n 0, 1) := by decide +kernel
theorem dX6_step_230 : decode cX6_step 230 = .ok (.aload_n 0, 1) := by decide +kernel
theorem dX6_step_231 : decode cX6_step 231 = .ok (.getfield 180, 3) := by decide +kernel
theorem dX6_step_234 : decode cX6_step 234 = .ok (.aload 7, 2) := by decide +kernel
theorem dX6_step_236 : decode cX6_step 236 = .ok (.dload_n 1, 1) := by decide +kernel
theorem dX6_step_237 : decode cX6_step 237 = .ok (.invokevirtual 300, 3) := by decide +kernel
theorem dX6_step_240 : decode cX6_step 240 = .ok (.ladd, 1) := by decide +kernel
theorem dX6_step_241 : decode cX6_step 241 = .ok (.putfield 180, 3) := by decide +kernel
theorem dX6_step_244 : decode cX6_step 244 = .ok (.aload 7, 2) := by decide +kernel
theorem dX6_step_246 : decode cX6_step 246 = .ok (.dload_n 1, 1) := by decide +kernel
theorem dX6_step_247 : decode cX6_step 247 = .ok (.invokevirtual 304, 3) := by decide +kernel
theorem dX6_step_250 : decode cX6_step 250 = .ok (.iinc 6 1, 3) := by decide +kernel
theorem dX6_step_253 : decode cX6_step 253 = .ok (.goto (-38), 3) := by decide +kernel
theorem dX6_step_256 : decode cX6_step 256 = .ok (.aload_n 0, 1) := by decide +kernel
theorem dX6_step_257 : decode cX6_step 257 = .ok (.aload_n 0, 1) := by decide +kernel
theorem dX6_step_258 : decode cX6_step 258 = .ok (.getfield 252, 3) := by decide +kernel
theorem dX6_step_261 : decode cX6_step 261 = .ok (.dload_n 1, 1) := by decide +kernel
theorem dX6_step_262 : decode cX6_step 262 = .ok (.dadd, 1) := by decide +kernel
theorem dX6_step_263 : decode cX6_step 263 = .ok (.putfield 252, 3) := by decide +kernel
theorem dX6_step_266 : decode cX6_step 266 = .ok (.return_, 1) := by decide +kernel
theorem dX6_cellAt_0 : decode cX6_cellAt 0 = .ok (.iload_n 1, 1) := by decide +kernel
theorem dX6_cellAt_1 : decode cX6_cellAt 1 = .ok (.ifCond .lt 23, 3) := by decide +kernel
theorem dX6_cellAt_4 : decode cX6_cellAt 4 = .ok (.iload_n 1, 1) := by decide +kernel
theorem dX6_cellAt_5 : decode cX6_cellAt 5 = .ok (.aload_n 0, 1) := by decide +kernel
theorem dX6_cellAt_6 : decode cX6_cellAt 6 = .ok (.getfield 21, 3) := by decide +kernel
theorem dX6_cellAt_9 : decode cX6_cellAt 9 = .ok (.if_icmp .ge 15, 3) := by decide +kernel
theorem dX6_cellAt_12 : decode cX6_cellAt 12 = .ok (.iload_n 2, 1) := by decide +kernel
theorem dX6_cellAt_13 : decode cX6_cellAt 13 = .ok (.ifCond .lt 11, 3) := by decide +kernel
theorem dX6_cellAt_16 : decode cX6_cellAt 16 = .ok (.iload_n 2, 1) := by decide +kernel
theorem dX6_cellAt_17 : decode cX6_cellAt 17 = .ok (.aload_n 0, 1) := by decide +kernel
theorem dX6_cellAt_18 : decode cX6_cellAt 18 = .ok (.getfield 25, 3) := by decide +kernel
theorem dX6_cellAt_21 : decode cX6_cellAt 21 = .ok (.if_icmp .lt 5, 3) := by decide +kernel
theorem dX6_cellAt_24 : decode cX6_cellAt 24 = .ok (.aconst_null, 1) := by decide +kernel
theorem dX6_cellAt_25 : decode cX6_cellAt 25 = .ok (.areturn, 1) := by decide +kernel
theorem dX6_cellAt_26 : decode cX6_cellAt 26 = .ok (.iload_n 2, 1) := by decide +kernel
theorem dX6_cellAt_27 : decode cX6_cellAt 27 = .ok (.aload_n 0, 1) := by decide +kernel
theorem dX6_cellAt_28 : decode cX6_cellAt 28 = .ok (.getfield 21, 3) := by decide +kernel
theorem dX6_cellAt_31 : decode cX6_cellAt 31 = .ok (.imul, 1) := by decide +kernel
theorem dX6_cellAt_32 : decode cX6_cellAt 32 = .ok (.iload_n 1, 1) := by decide +kernel
theorem dX6_cellAt_33 : decode cX6_cellAt 33 = .ok (.iadd, 1) := by decide +kernel
theorem dX6_cellAt_34 : decode cX6_cellAt 34 = .ok (.istore_n 3, 1) := by decide +kernel
theorem dX6_cellAt_35 : decode cX6_cellAt 35 = .ok (.iload_n 3, 1) := by decide +kernel
theorem dX6_cellAt_36 : decode cX6_cellAt 36 = .ok (.aload_n 0, 1) := by decide +kernel
theorem dX6_cellAt_37 : decode cX6_cellAt 37 = .ok (.getfield 31, 3) := by decide +kernel
theorem dX6_cellAt_40 : decode cX6_cellAt 40 = .ok (.arraylength, 1) := by decide +kernel
theorem dX6_cellAt_41 : decode cX6_cellAt 41 = .ok (.if_icmp .ge 12, 3) := by decide +kernel
theorem dX6_cellAt_44 : decode cX6_cellAt 44 = .ok (.aload_n 0, 1) := by decide +kernel
theorem dX6_cellAt_45 : decode cX6_cellAt 45 = .ok (.getfield 31, 3) := by decide +kernel
theorem dX6_cellAt_48 : decode cX6_cellAt 48 = .ok (.iload_n 3, 1) := by decide +kernel
theorem dX6_cellAt_49 : decode cX6_cellAt 49 = .ok (.aaload, 1) := by decide +kernel
theorem dX6_cellAt_50 : decode cX6_cellAt 50 = .ok (.goto 4, 3) := by decide +kernel
theorem dX6_cellAt_53 : decode cX6_cellAt 53 = .ok (.aconst_null, 1) := by decide +kernel
theorem dX6_cellAt_54 : decode cX6_cellAt 54 = .ok (.areturn, 1) := by decide +kernel
theorem dX6_waterAt_0 : decode cX6_waterAt 0 = .ok (.aload_n 0, 1) := by decide +kernel
theorem dX6_waterAt_1 : decode cX6_waterAt 1 = .ok (.iload_n 1, 1) := by decide +kernel
theorem dX6_waterAt_2 : decode cX6_waterAt 2 = .ok (.iload_n 2, 1) := by decide +kernel
theorem dX6_waterAt_3 : decode cX6_waterAt 3 = .ok (.invokevirtual 80, 3) := by decide +kernel
theorem dX6_waterAt_6 : decode cX6_waterAt 6 = .ok (.astore_n 3, 1) := by decide +kernel
theorem dX6_waterAt_7 : decode cX6_waterAt 7 = .ok (.aload_n 3, 1) := by decide +kernel
theorem dX6_waterAt_8 : decode cX6_waterAt 8 = .ok (.ifnull 14, 3) := by decide +kernel
theorem dX6_waterAt_11 : decode cX6_waterAt 11 = .ok (.aload_n 3, 1) := by decide +kernel
theorem dX6_waterAt_12 : decode cX6_waterAt 12 = .ok (.getfield 307, 3) := by decide +kernel
theorem dX6_waterAt_15 : decode cX6_waterAt 15 = .ok (.ifCond .eq 7, 3) := by decide +kernel
theorem dX6_waterAt_18 : decode cX6_waterAt 18 = .ok (.aload_n 3, 1) := by decide +kernel
theorem dX6_waterAt_19 : decode cX6_waterAt 19 = .ok (.goto 4, 3) := by decide +kernel
theorem dX6_waterAt_22 : decode cX6_waterAt 22 = .ok (.aconst_null, 1) := by decide +kernel
theorem dX6_waterAt_23 : decode cX6_waterAt 23 = .ok (.areturn, 1) := by decide +kernel
theorem dX6_sideAt_0 : decode cX6_sideAt 0 = .ok (.iload_n 1, 1) := by decide +kernel
theorem dX6_sideAt_1 : decode cX6_sideAt 1 = .ok (.ifCond .lt 12, 3) := by decide +kernel
theorem dX6_sideAt_4 : decode cX6_sideAt 4 = .ok (.iload_n 1, 1) := by decide +kernel
theorem dX6_sideAt_5 : decode cX6_sideAt 5 = .ok (.aload_n 0, 1) := by decide +kernel
theorem dX6_sideAt_6 : decode cX6_sideAt 6 = .ok (.getfield 35, 3) := by decide +kernel
theorem dX6_sideAt_9 : decode cX6_sideAt 9 = .ok (.arraylength, 1) := by decide +kernel
theorem dX6_sideAt_10 : decode cX6_sideAt 10 = .ok (.if_icmp .lt 7, 3) := by decide +kernel
theorem dX6_sideAt_13 : decode cX6_sideAt 13 = .ok (.aconst_null, 1) := by decide +kernel
theorem dX6_sideAt_14 : decode cX6_sideAt 14 = .ok (.goto 9, 3) := by decide +kernel
theorem dX6_sideAt_17 : decode cX6_sideAt 17 = .ok (.aload_n 0, 1) := by decide +kernel
theorem dX6_sideAt_18 : decode cX6_sideAt 18 = .ok (.getfield 35, 3) := by decide +kernel
theorem dX6_sideAt_21 : decode cX6_sideAt 21 = .ok (.iload_n 1, 1) := by decide +kernel
theorem dX6_sideAt_22 : decode cX6_sideAt 22 = .ok (.aaload, 1) := by decide +kernel
end
section
theorem dX6_sideAt_23 : decode cX6_sideAt 23 = .ok (.areturn, 1) := by decide +kernel
theorem dX6_isLayer_0 : decode cX6_isLayer 0 = .ok (.iload_n 1, 1) := by decide +kernel
theorem dX6_isLayer_1 : decode cX6_isLayer 1 = .ok (.ifCond .lt 15, 3) := by decide +kernel
theorem dX6_isLayer_4 : decode cX6_isLayer 4 = .ok (.iload_n 1, 1) := by decide +kernel
theorem dX6_isLayer_5 : decode cX6_isLayer 5 = .ok (.aload_n 0, 1) := by decide +kernel
theorem dX6_isLayer_6 : decode cX6_isLayer 6 = .ok (.getfield 28, 3) := by decide +kernel
theorem dX6_isLayer_9 : decode cX6_isLayer 9 = .ok (.if_icmp .ge 7, 3) := by decide +kernel
theorem dX6_isLayer_12 : decode cX6_isLayer 12 = .ok (.iconst 1, 1) := by decide +kernel
theorem dX6_isLayer_13 : decode cX6_isLayer 13 = .ok (.goto 4, 3) := by decide +kernel
theorem dX6_isLayer_16 : decode cX6_isLayer 16 = .ok (.iconst 0, 1) := by decide +kernel
theorem dX6_isLayer_17 : decode cX6_isLayer 17 = .ok (.ireturn, 1) := by decide +kernel
theorem dX6_allParts_0 : decode cX6_allParts 0 = .ok (.lconst 0, 1) := by decide +kernel
theorem dX6_allParts_1 : decode cX6_allParts 1 = .ok (.lstore_n 1, 1) := by decide +kernel
theorem dX6_allParts_2 : decode cX6_allParts 2 = .ok (.aload_n 0, 1) := by decide +kernel
theorem dX6_allParts_3 : decode cX6_allParts 3 = .ok (.getfield 31, 3) := by decide +kernel
theorem dX6_allParts_6 : decode cX6_allParts 6 = .ok (.astore_n 3, 1) := by decide +kernel
theorem dX6_allParts_7 : decode cX6_allParts 7 = .ok (.aload_n 3, 1) := by decide +kernel
theorem dX6_allParts_8 : decode cX6_allParts 8 = .ok (.arraylength, 1) := by decide +kernel
theorem dX6_allParts_9 : decode cX6_allParts 9 = .ok (.istore 4, 2) := by decide +kernel
theorem dX6_allParts_11 : decode cX6_allParts 11 = .ok (.iconst 0, 1) := by decide +kernel
theorem dX6_allParts_12 : decode cX6_allParts 12 = .ok (.istore 5, 2) := by decide +kernel
theorem dX6_allParts_14 : decode cX6_allParts 14 = .ok (.iload 5, 2) := by decide +kernel
theorem dX6_allParts_16 : decode cX6_allParts 16 = .ok (.iload 4, 2) := by decide +kernel
theorem dX6_allParts_18 : decode cX6_allParts 18 = .ok (.if_icmp .ge 23, 3) := by decide +kernel
theorem dX6_allParts_21 : decode cX6_allParts 21 = .ok (.aload_n 3, 1) := by decide +kernel
theorem dX6_allParts_22 : decode cX6_allParts 22 = .ok (.iload 5, 2) := by decide +kernel
theorem dX6_allParts_24 : decode cX6_allParts 24 = .ok (.aaload, 1) := by decide +kernel
theorem dX6_allParts_25 : decode cX6_allParts 25 = .ok (.astore 6, 2) := by decide +kernel
theorem dX6_allParts_27 : decode cX6_allParts 27 = .ok (.lload_n 1, 1) := by decide +kernel
theorem dX6_allParts_28 : decode cX6_allParts 28 = .ok (.aload 6, 2) := by decide +kernel
theorem dX6_allParts_30 : decode cX6_allParts 30 = .ok (.getfield 94, 3) := by decide +kernel
theorem dX6_allParts_33 : decode cX6_allParts 33 = .ok (.ladd, 1) := by decide +kernel
theorem dX6_allParts_34 : decode cX6_allParts 34 = .ok (.lstore_n 1, 1) := by decide +kernel
theorem dX6_allParts_35 : decode cX6_allParts 35 = .ok (.iinc 5 1, 3) := by decide +kernel
theorem dX6_allParts_38 : decode cX6_allParts 38 = .ok (.goto (-24), 3) := by decide +kernel
theorem dX6_allParts_41 : decode cX6_allParts 41 = .ok (.lload_n 1, 1) := by decide +kernel
theorem dX6_allParts_42 : decode cX6_allParts 42 = .ok (.lreturn, 1) := by decide +kernel
theorem dX6_limbOf_0 : decode cX6_limbOf 0 = .ok (.iload_n 2, 1) := by decide +kernel
theorem dX6_limbOf_1 : decode cX6_limbOf 1 = .ok (.ifCond .ne 9, 3) := by decide +kernel
theorem dX6_limbOf_4 : decode cX6_limbOf 4 = .ok (.lload_n 0, 1) := by decide +kernel
theorem dX6_limbOf_5 : decode cX6_limbOf 5 = .ok (.ldc2_w 310, 3) := by decide +kernel
theorem dX6_limbOf_8 : decode cX6_limbOf 8 = .ok (.land, 1) := by decide +kernel
theorem dX6_limbOf_9 : decode cX6_limbOf 9 = .ok (.lreturn, 1) := by decide +kernel
theorem dX6_limbOf_10 : decode cX6_limbOf 10 = .ok (.iload_n 2, 1) := by decide +kernel
theorem dX6_limbOf_11 : decode cX6_limbOf 11 = .ok (.iconst 1, 1) := by decide +kernel
theorem dX6_limbOf_12 : decode cX6_limbOf 12 = .ok (.if_icmp .ne 10, 3) := by decide +kernel
theorem dX6_limbOf_15 : decode cX6_limbOf 15 = .ok (.lload_n 0, 1) := by decide +kernel
theorem dX6_limbOf_16 : decode cX6_limbOf 16 = .ok (.bipush 32, 2) := by decide +kernel
theorem dX6_limbOf_18 : decode cX6_limbOf 18 = .ok (.lshr, 1) := by decide +kernel
theorem dX6_limbOf_19 : decode cX6_limbOf 19 = .ok (.goto 6, 3) := by decide +kernel
theorem dX6_limbOf_22 : decode cX6_limbOf 22 = .ok (.ldc2_w 175, 3) := by decide +kernel
theorem dX6_limbOf_25 : decode cX6_limbOf 25 = .ok (.lreturn, 1) := by decide +kernel
theorem dX6_noReading_0 : decode cX6_noReading 0 = .ok (.ldc2_w 312, 3) := by decide +kernel
theorem dX6_noReading_3 : decode cX6_noReading 3 = .ok (.dreturn, 1) := by decide +kernel
theorem dX6_between_0 : decode cX6_between 0 = .ok (.iconst 1, 1) := by decide +kernel
theorem dX6_between_1 : decode cX6_between 1 = .ok (.iload_n 0, 1) := by decide +kernel
theorem dX6_between_2 : decode cX6_between 2 = .ok (.iload_n 1, 1) := by decide +kernel
theorem dX6_between_3 : decode cX6_between 3 = .ok (.invokestatic 314, 3) := by decide +kernel
theorem dX6_between_6 : decode cX6_between 6 = .ok (.invokestatic 317, 3) := by decide +kernel
theorem dX6_between_9 : decode cX6_between 9 = .ok (.ireturn, 1) := by decide +kernel
theorem dX6_inside_0 : decode cX6_inside 0 = .ok (.dload_n 0, 1) := by decide +kernel
theorem dX6_inside_1 : decode cX6_inside 1 = .ok (.dload_n 2, 1) := by decide +kernel
theorem dX6_inside_2 : decode cX6_inside 2 = .ok (.dcmp .l, 1) := by decide +kernel
theorem dX6_inside_3 : decode cX6_inside 3 = .ok (.ifCond .lt 14, 3) := by decide +kernel
theorem dX6_inside_6 : decode cX6_inside 6 = .ok (.dload_n 0, 1) := by decide +kernel
theorem dX6_inside_7 : decode cX6_inside 7 = .ok (.dload 4, 2) := by decide +kernel
theorem dX6_inside_9 : decode cX6_inside 9 = .ok (.dcmp .g, 1) := by decide +kernel
theorem dX6_inside_10 : decode cX6_inside 10 = .ok (.ifCond .gt 7, 3) := by decide +kernel
theorem dX6_inside_13 : decode cX6_inside 13 = .ok (.iconst 1, 1) := by decide +kernel
theorem dX6_inside_14 : decode cX6_inside 14 = .ok (.goto 4, 3) := by decide +kernel
theorem dX6_inside_17 : decode cX6_inside 17 = .ok (.iconst 0, 1) := by decide +kernel
theorem dX6_inside_18 : decode cX6_inside 18 = .ok (.ireturn, 1) := by decide +kernel
theorem dX6_sizeOf_0 : decode cX6_sizeOf 0 = .ok (.dload_n 0, 1) := by decide +kernel
theorem dX6_sizeOf_1 : decode cX6_sizeOf 1 = .ok (.dconst 0, 1) := by decide +kernel
theorem dX6_sizeOf_2 : decode cX6_sizeOf 2 = .ok (.dcmp .g, 1) := by decide +kernel
theorem dX6_sizeOf_3 : decode cX6_sizeOf 3 = .ok (.ifCond .ge 8, 3) := by decide +kernel
theorem dX6_sizeOf_6 : decode cX6_sizeOf 6 = .ok (.dload_n 0, 1) := by decide +kernel
theorem dX6_sizeOf_7 : decode cX6_sizeOf 7 = .ok (.dneg, 1) := by decide +kernel
theorem dX6_sizeOf_8 : decode cX6_sizeOf 8 = .ok (.goto 4, 3) := by decide +kernel
theorem dX6_sizeOf_11 : decode cX6_sizeOf 11 = .ok (.dload_n 0, 1) := by decide +kernel
theorem dX6_sizeOf_12 : decode cX6_sizeOf 12 = .ok (.dreturn, 1) := by decide +kernel
theorem dX6_saw_0 : decode cX6_saw 0 = .ok (.dload_n 0, 1) := by decide +kernel
theorem dX6_saw_1 : decode cX6_saw 1 = .ok (.dload_n 0, 1) := by decide +kernel
theorem dX6_saw_2 : decode cX6_saw 2 = .ok (.d2l, 1) := by decide +kernel
theorem dX6_saw_3 : decode cX6_saw 3 = .ok (.l2d, 1) := by decide +kernel
theorem dX6_saw_4 : decode cX6_saw 4 = .ok (.dsub, 1) := by decide +kernel
theorem dX6_saw_5 : decode cX6_saw 5 = .ok (.dstore_n 2, 1) := by decide +kernel
theorem dX6_saw_6 : decode cX6_saw 6 = .ok (.dload_n 2, 1) := by decide +kernel
theorem dX6_saw_7 : decode cX6_saw 7 = .ok (.ldc2_w 186, 3) := by decide +kernel
theorem dX6_saw_10 : decode cX6_saw 10 = .ok (.dcmp .g, 1) := by decide +kernel
theorem dX6_saw_11 : decode cX6_saw 11 = .ok (.ifCond .ge 13, 3) := by decide +kernel
theorem dX6_saw_14 : decode cX6_saw 14 = .ok (.dconst 1, 1) := by decide +kernel
theorem dX6_saw_15 : decode cX6_saw 15 = .ok (.ldc2_w 320, 3) := by decide +kernel
theorem dX6_saw_18 : decode cX6_saw 18 = .ok (.dload_n 2, 1) := by decide +kernel
theorem dX6_saw_19 : decode cX6_saw 19 = .ok (.dmul, 1) := by decide +kernel
theorem dX6_saw_20 : decode cX6_saw 20 = .ok (.dsub, 1) := by decide +kernel
theorem dX6_saw_21 : decode cX6_saw 21 = .ok (.goto 12, 3) := by decide +kernel
theorem dX6_saw_24 : decode cX6_saw 24 = .ok (.ldc2_w 320, 3) := by decide +kernel
theorem dX6_saw_27 : decode cX6_saw 27 = .ok (.dload_n 2, 1) := by decide +kernel
theorem dX6_saw_28 : decode cX6_saw 28 = .ok (.dmul, 1) := by decide +kernel
theorem dX6_saw_29 : decode cX6_saw 29 = .ok (.ldc2_w 322, 3) := by decide +kernel
theorem dX6_saw_32 : decode cX6_saw 32 = .ok (.dsub, 1) := by decide +kernel
theorem dX6_saw_33 : decode cX6_saw 33 = .ok (.dreturn, 1) := by decide +kernel
theorem dX6_newCells_0 : decode cX6_newCells 0 = .ok (.iload_n 0, 1) := by decide +kernel
theorem dX6_newCells_1 : decode cX6_newCells 1 = .ok (.anewarray 95, 3) := by decide +kernel
theorem dX6_newCells_4 : decode cX6_newCells 4 = .ok (.astore_n 1, 1) := by decide +kernel
theorem dX6_newCells_5 : decode cX6_newCells 5 = .ok (.iconst 0, 1) := by decide +kernel
theorem dX6_newCells_6 : decode cX6_newCells 6 = .ok (.istore_n 2, 1) := by decide +kernel
theorem dX6_newCells_7 : decode cX6_newCells 7 = .ok (.iload_n 2, 1) := by decide +kernel
theorem dX6_newCells_8 : decode cX6_newCells 8 = .ok (.aload_n 1, 1) := by decide +kernel
theorem dX6_newCells_9 : decode cX6_newCells 9 = .ok (.arraylength, 1) := by decide +kernel
theorem dX6_newCells_10 : decode cX6_newCells 10 = .ok (.if_icmp .ge 19, 3) := by decide +kernel
theorem dX6_newCells_13 : decode cX6_newCells 13 = .ok (.aload_n 1, 1) := by decide +kernel
theorem dX6_newCells_14 : decode cX6_newCells 14 = .ok (.iload_n 2, 1) := by decide +kernel
theorem dX6_newCells_15 : decode cX6_newCells 15 = .ok (.new 95, 3) := by decide +kernel
theorem dX6_newCells_18 : decode cX6_newCells 18 = .ok (.dup, 1) := by decide +kernel
theorem dX6_newCells_19 : decode cX6_newCells 19 = .ok (.invokespecial 324, 3) := by decide +kernel
theorem dX6_newCells_22 : decode cX6_newCells 22 = .ok (.aastore, 1) := by decide +kernel
theorem dX6_newCells_23 : decode cX6_newCells 23 = .ok (.iinc 2 1, 3) := by decide +kernel
theorem dX6_newCells_26 : decode cX6_newCells 26 = .ok (.goto (-19), 3) := by decide +kernel
theorem dX6_newCells_29 : decode cX6_newCells 29 = .ok (.aload_n 1, 1) := by decide +kernel
theorem dX6_newCells_30 : decode cX6_newCells 30 = .ok (.areturn, 1) := by decide +kernel
theorem dX6_newSides_0 : decode cX6_newSides 0 = .ok (.iconst 4, 1) := by decide +kernel
theorem dX6_newSides_1 : decode cX6_newSides 1 = .ok (.anewarray 119, 3) := by decide +kernel
theorem dX6_newSides_4 : decode cX6_newSides 4 = .ok (.astore_n 0, 1) := by decide +kernel
theorem dX6_newSides_5 : decode cX6_newSides 5 = .ok (.iconst 0, 1) := by decide +kernel
theorem dX6_newSides_6 : decode cX6_newSides 6 = .ok (.istore_n 1, 1) := by decide +kernel
theorem dX6_newSides_7 : decode cX6_newSides 7 = .ok (.iload_n 1, 1) := by decide +kernel
theorem dX6_newSides_8 : decode cX6_newSides 8 = .ok (.aload_n 0, 1) := by decide +kernel
theorem dX6_newSides_9 : decode cX6_newSides 9 = .ok (.arraylength, 1) := by decide +kernel
theorem dX6_newSides_10 : decode cX6_newSides 10 = .ok (.if_icmp .ge 19, 3) := by decide +kernel
theorem dX6_newSides_13 : decode cX6_newSides 13 = .ok (.aload_n 0, 1) := by decide +kernel
theorem dX6_newSides_14 : decode cX6_newSides 14 = .ok (.iload_n 1, 1) := by decide +kernel
theorem dX6_newSides_15 : decode cX6_newSides 15 = .ok (.new 119, 3) := by decide +kernel
theorem dX6_newSides_18 : decode cX6_newSides 18 = .ok (.dup, 1) := by decide +kernel
theorem dX6_newSides_19 : decode cX6_newSides 19 = .ok (.invokespecial 325, 3) := by decide +kernel
theorem dX6_newSides_22 : decode cX6_newSides 22 = .ok (.aastore, 1) := by decide +kernel
theorem dX6_newSides_23 : decode cX6_newSides 23 = .ok (.iinc 1 1, 3) := by decide +kernel
theorem dX6_newSides_26 : decode cX6_newSides 26 = .ok (.goto (-19), 3) := by decide +kernel
theorem dX6_newSides_29 : decode cX6_newSides 29 = .ok (.aload_n 0, 1) := by decide +kernel
theorem dX6_newSides_30 : decode cX6_newSides 30 = .ok (.areturn, 1) := by decide +kernel
theorem dX6_newNests_0 : decode cX6_newNests 0 = .ok (.bipush 10, 2) := by decide +kernel
theorem dX6_newNests_2 : decode cX6_newNests 2 = .ok (.anewarray 204, 3) := by decide +kernel
theorem dX6_newNests_5 : decode cX6_newNests 5 = .ok (.astore_n 0, 1) := by decide +kernel
theorem dX6_newNests_6 : decode cX6_newNests 6 = .ok (.iconst 0, 1) := by decide +kernel
theorem dX6_newNests_7 : decode cX6_newNests 7 = .ok (.istore_n 1, 1) := by decide +kernel
theorem dX6_newNests_8 : decode cX6_newNests 8 = .ok (.iload_n 1, 1) := by decide +kernel
theorem dX6_newNests_9 : decode cX6_newNests 9 = .ok (.aload_n 0, 1) := by decide +kernel
theorem dX6_newNests_10 : decode cX6_newNests 10 = .ok (.arraylength, 1) := by decide +kernel
theorem dX6_newNests_11 : decode cX6_newNests 11 = .ok (.if_icmp .ge 19, 3) := by decide +kernel
theorem dX6_newNests_14 : decode cX6_newNests 14 = .ok (.aload_n 0, 1) := by decide +kernel
theorem dX6_newNests_15 : decode cX6_newNests 15 = .ok (.iload_n 1, 1) := by decide +kernel
theorem dX6_newNests_16 : decode cX6_newNests 16 = .ok (.new 204, 3) := by decide +kernel
theorem dX6_newNests_19 : decode cX6_newNests 19 = .ok (.dup, 1) := by decide +kernel
theorem dX6_newNests_20 : decode cX6_newNests 20 = .ok (.invokespecial 326, 3) := by decide +kernel
theorem dX6_newNests_23 : decode cX6_newNests 23 = .ok (.aastore, 1) := by decide +kernel
theorem dX6_newNests_24 : decode cX6_newNests 24 = .ok (.iinc 1 1, 3) := by decide +kernel
theorem dX6_newNests_27 : decode cX6_newNests 27 = .ok (.goto (-19), 3) := by decide +kernel
theorem dX6_newNests_30 : decode cX6_newNests 30 = .ok (.aload_n 0, 1) := by decide +kernel
theorem dX6_newNests_31 : decode cX6_newNests 31 = .ok (.areturn, 1) := by decide +kernel
theorem dX6_newStates_0 : decode cX6_newStates 0 = .ok (.iconst 4, 1) := by decide +kernel
theorem dX6_newStates_1 : decode cX6_newStates 1 = .ok (.anewarray 235, 3) := by decide +kernel
theorem dX6_newStates_4 : decode cX6_newStates 4 = .ok (.astore_n 2, 1) := by decide +kernel
theorem dX6_newStates_5 : decode cX6_newStates 5 = .ok (.iconst 0, 1) := by decide +kernel
theorem dX6_newStates_6 : decode cX6_newStates 6 = .ok (.istore_n 3, 1) := by decide +kernel
theorem dX6_newStates_7 : decode cX6_newStates 7 = .ok (.iload_n 3, 1) := by decide +kernel
theorem dX6_newStates_8 : decode cX6_newStates 8 = .ok (.aload_n 2, 1) := by decide +kernel
theorem dX6_newStates_9 : decode cX6_newStates 9 = .ok (.arraylength, 1) := by decide +kernel
theorem dX6_newStates_10 : decode cX6_newStates 10 = .ok (.if_icmp .ge 21, 3) := by decide +kernel
theorem dX6_newStates_13 : decode cX6_newStates 13 = .ok (.aload_n 2, 1) := by decide +kernel
theorem dX6_newStates_14 : decode cX6_newStates 14 = .ok (.iload_n 3, 1) := by decide +kernel
theorem dX6_newStates_15 : decode cX6_newStates 15 = .ok (.new 235, 3) := by decide +kernel
theorem dX6_newStates_18 : decode cX6_newStates 18 = .ok (.dup, 1) := by decide +kernel
theorem dX6_newStates_19 : decode cX6_newStates 19 = .ok (.iload_n 0, 1) := by decide +kernel
theorem dX6_newStates_20 : decode cX6_newStates 20 = .ok (.iload_n 1, 1) := by decide +kernel
theorem dX6_newStates_21 : decode cX6_newStates 21 = .ok (.invokespecial 327, 3) := by decide +kernel
theorem dX6_newStates_24 : decode cX6_newStates 24 = .ok (.aastore, 1) := by decide +kernel
theorem dX6_newStates_25 : decode cX6_newStates 25 = .ok (.iinc 3 1, 3) := by decide +kernel
theorem dX6_newStates_28 : decode cX6_newStates 28 = .ok (.goto (-21), 3) := by decide +kernel
theorem dX6_newStates_31 : decode cX6_newStates 31 = .ok (.aload_n 2, 1) := by decide +kernel
theorem dX6_newStates_32 : decode cX6_newStates 32 = .ok (.areturn, 1) := by decide +kernel
theorem dX6_faceCount_0 : decode cX6_faceCount 0 = .ok (.iload_n 0, 1) := by decide +kernel
theorem dX6_faceCount_1 : decode cX6_faceCount 1 = .ok (.iconst 1, 1) := by decide +kernel
theorem dX6_faceCount_2 : decode cX6_faceCount 2 = .ok (.isub, 1) := by decide +kernel
theorem dX6_faceCount_3 : decode cX6_faceCount 3 = .ok (.iload_n 1, 1) := by decide +kernel
theorem dX6_faceCount_4 : decode cX6_faceCount 4 = .ok (.imul, 1) := by decide +kernel
theorem dX6_faceCount_5 : decode cX6_faceCount 5 = .ok (.iload_n 0, 1) := by decide +kernel
theorem dX6_faceCount_6 : decode cX6_faceCount 6 = .ok (.iload_n 1, 1) := by decide +kernel
theorem dX6_faceCount_7 : decode cX6_faceCount 7 = .ok (.iconst 1, 1) := by decide +kernel
theorem dX6_faceCount_8 : decode cX6_faceCount 8 = .ok (.isub, 1) := by decide +kernel
theorem dX6_faceCount_9 : decode cX6_faceCount 9 = .ok (.imul, 1) := by decide +kernel
theorem dX6_faceCount_10 : decode cX6_faceCount 10 = .ok (.iadd, 1) := by decide +kernel
theorem dX6_faceCount_11 : decode cX6_faceCount 11 = .ok (.iconst 2, 1) := by decide +kernel
theorem dX6_faceCount_12 : decode cX6_faceCount 12 = .ok (.iload_n 0, 1) := by decide +kernel
theorem dX6_faceCount_13 : decode cX6_faceCount 13 = .ok (.imul, 1) := by decide +kernel
theorem dX6_faceCount_14 : decode cX6_faceCount 14 = .ok (.iadd, 1) := by decide +kernel
theorem dX6_faceCount_15 : decode cX6_faceCount 15 = .ok (.iconst 2, 1) := by decide +kernel
theorem dX6_faceCount_16 : decode cX6_faceCount 16 = .ok (.iload_n 1, 1) := by decide +kernel
theorem dX6_faceCount_17 : decode cX6_faceCount 17 = .ok (.imul, 1) := by decide +kernel
theorem dX6_faceCount_18 : decode cX6_faceCount 18 = .ok (.iadd, 1) := by decide +kernel
theorem dX6_faceCount_19 : decode cX6_faceCount 19 = .ok (.ireturn, 1) := by decide +kernel
theorem dX6_newFaces_0 : decode cX6_newFaces 0 = .ok (.iload_n 2, 1) := by decide +kernel
theorem dX6_newFaces_1 : decode cX6_newFaces 1 = .ok (.iload_n 3, 1) := by decide +kernel
theorem dX6_newFaces_2 : decode cX6_newFaces 2 = .ok (.invokestatic 62, 3) := by decide +kernel
theorem dX6_newFaces_5 : decode cX6_newFaces 5 = .ok (.anewarray 104, 3) := by decide +kernel
theorem dX6_newFaces_8 : decode cX6_newFaces 8 = .ok (.astore 4, 2) := by decide +kernel
theorem dX6_newFaces_10 : decode cX6_newFaces 10 = .ok (.iconst 0, 1) := by decide +kernel
theorem dX6_newFaces_11 : decode cX6_newFaces 11 = .ok (.istore 5, 2) := by decide +kernel
theorem dX6_newFaces_13 : decode cX6_newFaces 13 = .ok (.iconst 0, 1) := by decide +kernel
theorem dX6_newFaces_14 : decode cX6_newFaces 14 = .ok (.istore 6, 2) := by decide +kernel
theorem dX6_newFaces_16 : decode cX6_newFaces 16 = .ok (.iload 6, 2) := by decide +kernel
theorem dX6_newFaces_18 : decode cX6_newFaces 18 = .ok (.iload_n 3, 1) := by decide +kernel
theorem dX6_newFaces_19 : decode cX6_newFaces 19 = .ok (.if_icmp .ge 60, 3) := by decide +kernel
theorem dX6_newFaces_22 : decode cX6_newFaces 22 = .ok (.iconst 0, 1) := by decide +kernel
theorem dX6_newFaces_23 : decode cX6_newFaces 23 = .ok (.istore 7, 2) := by decide +kernel
theorem dX6_newFaces_25 : decode cX6_newFaces 25 = .ok (.iload 7, 2) := by decide +kernel
theorem dX6_newFaces_27 : decode cX6_newFaces 27 = .ok (.iconst 1, 1) := by decide +kernel
theorem dX6_newFaces_28 : decode cX6_newFaces 28 = .ok (.iadd, 1) := by decide +kernel
theorem dX6_newFaces_29 : decode cX6_newFaces 29 = .ok (.iload_n 2, 1) := by decide +kernel
theorem dX6_newFaces_30 : decode cX6_newFaces 30 = .ok (.if_icmp .ge 43, 3) := by decide +kernel
theorem dX6_newFaces_33 : decode cX6_newFaces 33 = .ok (.iload 6, 2) := by decide +kernel
theorem dX6_newFaces_35 : decode cX6_newFaces 35 = .ok (.iload_n 2, 1) := by decide +kernel
theorem dX6_newFaces_36 : decode cX6_newFaces 36 = .ok (.imul, 1) := by decide +kernel
theorem dX6_newFaces_37 : decode cX6_newFaces 37 = .ok (.iload 7, 2) := by decide +kernel
theorem dX6_newFaces_39 : decode cX6_newFaces 39 = .ok (.iadd, 1) := by decide +kernel
theorem dX6_newFaces_40 : decode cX6_newFaces 40 = .ok (.istore 8, 2) := by decide +kernel
theorem dX6_newFaces_42 : decode cX6_newFaces 42 = .ok (.aload 4, 2) := by decide +kernel
theorem dX6_newFaces_44 : decode cX6_newFaces 44 = .ok (.iload 5, 2) := by decide +kernel
theorem dX6_newFaces_46 : decode cX6_newFaces 46 = .ok (.new 104, 3) := by decide +kernel
theorem dX6_newFaces_49 : decode cX6_newFaces 49 = .ok (.dup, 1) := by decide +kernel
theorem dX6_newFaces_50 : decode cX6_newFaces 50 = .ok (.aload_n 0, 1) := by decide +kernel
theorem dX6_newFaces_51 : decode cX6_newFaces 51 = .ok (.iload 8, 2) := by decide +kernel
theorem dX6_newFaces_53 : decode cX6_newFaces 53 = .ok (.iload 8, 2) := by decide +kernel
theorem dX6_newFaces_55 : decode cX6_newFaces 55 = .ok (.iconst 1, 1) := by decide +kernel
theorem dX6_newFaces_56 : decode cX6_newFaces 56 = .ok (.iadd, 1) := by decide +kernel
theorem dX6_newFaces_57 : decode cX6_newFaces 57 = .ok (.aconst_null, 1) := by decide +kernel
theorem dX6_newFaces_58 : decode cX6_newFaces 58 = .ok (.iconst 0, 1) := by decide +kernel
theorem dX6_newFaces_59 : decode cX6_newFaces 59 = .ok (.invokespecial 330, 3) := by decide +kernel
theorem dX6_newFaces_62 : decode cX6_newFaces 62 = .ok (.invokestatic 333, 3) := by decide +kernel
theorem dX6_newFaces_65 : decode cX6_newFaces 65 = .ok (.istore 5, 2) := by decide +kernel
theorem dX6_newFaces_67 : decode cX6_newFaces 67 = .ok (.iinc 7 1, 3) := by decide +kernel
theorem dX6_newFaces_70 : decode cX6_newFaces 70 = .ok (.goto (-45), 3) := by decide +kernel
theorem dX6_newFaces_73 : decode cX6_newFaces 73 = .ok (.iinc 6 1, 3) := by decide +kernel
theorem dX6_newFaces_76 : decode cX6_newFaces 76 = .ok (.goto (-60), 3) := by decide +kernel
theorem dX6_newFaces_79 : decode cX6_newFaces 79 = .ok (.iconst 0, 1) := by decide +kernel
theorem dX6_newFaces_80 : decode cX6_newFaces 80 = .ok (.istore 6, 2) := by decide +kernel
theorem dX6_newFaces_82 : decode cX6_newFaces 82 = .ok (.iload 6, 2) := by decide +kernel
theorem dX6_newFaces_84 : decode cX6_newFaces 84 = .ok (.iconst 1, 1) := by decide +kernel
theorem dX6_newFaces_85 : decode cX6_newFaces 85 = .ok (.iadd, 1) := by decide +kernel
theorem dX6_newFaces_86 : decode cX6_newFaces 86 = .ok (.iload_n 3, 1) := by decide +kernel
theorem dX6_newFaces_87 : decode cX6_newFaces 87 = .ok (.if_icmp .ge 58, 3) := by decide +kernel
theorem dX6_newFaces_90 : decode cX6_newFaces 90 = .ok (.iconst 0, 1) := by decide +kernel
theorem dX6_newFaces_91 : decode cX6_newFaces 91 = .ok (.istore 7, 2) := by decide +kernel
theorem dX6_newFaces_93 : decode cX6_newFaces 93 = .ok (.iload 7, 2) := by decide +kernel
theorem dX6_newFaces_95 : decode cX6_newFaces 95 = .ok (.iload_n 2, 1) := by decide +kernel
theorem dX6_newFaces_96 : decode cX6_newFaces 96 = .ok (.if_icmp .ge 43, 3) := by decide +kernel
theorem dX6_newFaces_99 : decode cX6_newFaces 99 = .ok (.iload 6, 2) := by decide +kernel
theorem dX6_newFaces_101 : decode cX6_newFaces 101 = .ok (.iload_n 2, 1) := by decide +kernel
theorem dX6_newFaces_102 : decode cX6_newFaces 102 = .ok (.imul, 1) := by decide +kernel
theorem dX6_newFaces_103 : decode cX6_newFaces 103 = .ok (.iload 7, 2) := by decide +kernel
theorem dX6_newFaces_105 : decode cX6_newFaces 105 = .ok (.iadd, 1) := by decide +kernel
theorem dX6_newFaces_106 : decode cX6_newFaces 106 = .ok (.istore 8, 2) := by decide +kernel
theorem dX6_newFaces_108 : decode cX6_newFaces 108 = .ok (.aload 4, 2) := by decide +kernel
theorem dX6_newFaces_110 : decode cX6_newFaces 110 = .ok (.iload 5, 2) := by decide +kernel
theorem dX6_newFaces_112 : decode cX6_newFaces 112 = .ok (.new 104, 3) := by decide +kernel
theorem dX6_newFaces_115 : decode cX6_newFaces 115 = .ok (.dup, 1) := by decide +kernel
theorem dX6_newFaces_116 : decode cX6_newFaces 116 = .ok (.aload_n 0, 1) := by decide +kernel
theorem dX6_newFaces_117 : decode cX6_newFaces 117 = .ok (.iload 8, 2) := by decide +kernel
theorem dX6_newFaces_119 : decode cX6_newFaces 119 = .ok (.iload 8, 2) := by decide +kernel
theorem dX6_newFaces_121 : decode cX6_newFaces 121 = .ok (.iload_n 2, 1) := by decide +kernel
theorem dX6_newFaces_122 : decode cX6_newFaces 122 = .ok (.iadd, 1) := by decide +kernel
theorem dX6_newFaces_123 : decode cX6_newFaces 123 = .ok (.aconst_null, 1) := by decide +kernel
theorem dX6_newFaces_124 : decode cX6_newFaces 124 = .ok (.iconst 1, 1) := by decide +kernel
theorem dX6_newFaces_125 : decode cX6_newFaces 125 = .ok (.invokespecial 330, 3) := by decide +kernel
theorem dX6_newFaces_128 : decode cX6_newFaces 128 = .ok (.invokestatic 333, 3) := by decide +kernel
theorem dX6_newFaces_131 : decode cX6_newFaces 131 = .ok (.istore 5, 2) := by decide +kernel
theorem dX6_newFaces_133 : decode cX6_newFaces 133 = .ok (.iinc 7 1, 3) := by decide +kernel
theorem dX6_newFaces_136 : decode cX6_newFaces 136 = .ok (.goto (-43), 3) := by decide +kernel
theorem dX6_newFaces_139 : decode cX6_newFaces 139 = .ok (.iinc 6 1, 3) := by decide +kernel
theorem dX6_newFaces_142 : decode cX6_newFaces 142 = .ok (.goto (-60), 3) := by decide +kernel
theorem dX6_newFaces_145 : decode cX6_newFaces 145 = .ok (.iconst 0, 1) := by decide +kernel
theorem dX6_newFaces_146 : decode cX6_newFaces 146 = .ok (.istore 6, 2) := by decide +kernel
theorem dX6_newFaces_148 : decode cX6_newFaces 148 = .ok (.iload 6, 2) := by decide +kernel
theorem dX6_newFaces_150 : decode cX6_newFaces 150 = .ok (.iload_n 3, 1) := by decide +kernel
theorem dX6_newFaces_151 : decode cX6_newFaces 151 = .ok (.if_icmp .ge 35, 3) := by decide +kernel
theorem dX6_newFaces_154 : decode cX6_newFaces 154 = .ok (.aload 4, 2) := by decide +kernel
theorem dX6_newFaces_156 : decode cX6_newFaces 156 = .ok (.iload 5, 2) := by decide +kernel
theorem dX6_newFaces_158 : decode cX6_newFaces 158 = .ok (.new 104, 3) := by decide +kernel
theorem dX6_newFaces_161 : decode cX6_newFaces 161 = .ok (.dup, 1) := by decide +kernel
theorem dX6_newFaces_162 : decode cX6_newFaces 162 = .ok (.aload_n 0, 1) := by decide +kernel
theorem dX6_newFaces_163 : decode cX6_newFaces 163 = .ok (.iconst (-1), 1) := by decide +kernel
theorem dX6_newFaces_164 : decode cX6_newFaces 164 = .ok (.iload 6, 2) := by decide +kernel
theorem dX6_newFaces_166 : decode cX6_newFaces 166 = .ok (.iload_n 2, 1) := by decide +kernel
theorem dX6_newFaces_167 : decode cX6_newFaces 167 = .ok (.imul, 1) := by decide +kernel
theorem dX6_newFaces_168 : decode cX6_newFaces 168 = .ok (.aload_n 1, 1) := by decide +kernel
theorem dX6_newFaces_169 : decode cX6_newFaces 169 = .ok (.iconst 0, 1) := by decide +kernel
theorem dX6_newFaces_170 : decode cX6_newFaces 170 = .ok (.aaload, 1) := by decide +kernel
theorem dX6_newFaces_171 : decode cX6_newFaces 171 = .ok (.iconst 0, 1) := by decide +kernel
theorem dX6_newFaces_172 : decode cX6_newFaces 172 = .ok (.invokespecial 330, 3) := by decide +kernel
theorem dX6_newFaces_175 : decode cX6_newFaces 175 = .ok (.invokestatic 333, 3) := by decide +kernel
theorem dX6_newFaces_178 : decode cX6_newFaces 178 = .ok (.istore 5, 2) := by decide +kernel
theorem dX6_newFaces_180 : decode cX6_newFaces 180 = .ok (.iinc 6 1, 3) := by decide +kernel
theorem dX6_newFaces_183 : decode cX6_newFaces 183 = .ok (.goto (-35), 3) := by decide +kernel
theorem dX6_newFaces_186 : decode cX6_newFaces 186 = .ok (.iconst 0, 1) := by decide +kernel
theorem dX6_newFaces_187 : decode cX6_newFaces 187 = .ok (.istore 6, 2) := by decide +kernel
theorem dX6_newFaces_189 : decode cX6_newFaces 189 = .ok (.iload 6, 2) := by decide +kernel
theorem dX6_newFaces_191 : decode cX6_newFaces 191 = .ok (.iload_n 3, 1) := by decide +kernel
theorem dX6_newFaces_192 : decode cX6_newFaces 192 = .ok (.if_icmp .ge 39, 3) := by decide +kernel
theorem dX6_newFaces_195 : decode cX6_newFaces 195 = .ok (.aload 4, 2) := by decide +kernel
theorem dX6_newFaces_197 : decode cX6_newFaces 197 = .ok (.iload 5, 2) := by decide +kernel
theorem dX6_newFaces_199 : decode cX6_newFaces 199 = .ok (.new 104, 3) := by decide +kernel
theorem dX6_newFaces_202 : decode cX6_newFaces 202 = .ok (.dup, 1) := by decide +kernel
theorem dX6_newFaces_203 : decode cX6_newFaces 203 = .ok (.aload_n 0, 1) := by decide +kernel
theorem dX6_newFaces_204 : decode cX6_newFaces 204 = .ok (.iload 6, 2) := by decide +kernel
theorem dX6_newFaces_206 : decode cX6_newFaces 206 = .ok (.iload_n 2, 1) := by decide +kernel
theorem dX6_newFaces_207 : decode cX6_newFaces 207 = .ok (.imul, 1) := by decide +kernel
theorem dX6_newFaces_208 : decode cX6_newFaces 208 = .ok (.iload_n 2, 1) := by decide +kernel
theorem dX6_newFaces_209 : decode cX6_newFaces 209 = .ok (.iadd, 1) := by decide +kernel
theorem dX6_newFaces_210 : decode cX6_newFaces 210 = .ok (.iconst 1, 1) := by decide +kernel
theorem dX6_newFaces_211 : decode cX6_newFaces 211 = .ok (.isub, 1) := by decide +kernel
theorem dX6_newFaces_212 : decode cX6_newFaces 212 = .ok (.iconst (-1), 1) := by decide +kernel
theorem dX6_newFaces_213 : decode cX6_newFaces 213 = .ok (.aload_n 1, 1) := by decide +kernel
theorem dX6_newFaces_214 : decode cX6_newFaces 214 = .ok (.iconst 1, 1) := by decide +kernel
theorem dX6_newFaces_215 : decode cX6_newFaces 215 = .ok (.aaload, 1) := by decide +kernel
theorem dX6_newFaces_216 : decode cX6_newFaces 216 = .ok (.iconst 0, 1) := by decide +kernel
theorem dX6_newFaces_217 : decode cX6_newFaces 217 = .ok (.invokespecial 330, 3) := by decide +kernel
theorem dX6_newFaces_220 : decode cX6_newFaces 220 = .ok (.invokestatic 333, 3) := by decide +kernel
theorem dX6_newFaces_223 : decode cX6_newFaces 223 = .ok (.istore 5, 2) := by decide +kernel
theorem dX6_newFaces_225 : decode cX6_newFaces 225 = .ok (.iinc 6 1, 3) := by decide +kernel
theorem dX6_newFaces_228 : decode cX6_newFaces 228 = .ok (.goto (-39), 3) := by decide +kernel
theorem dX6_newFaces_231 : decode cX6_newFaces 231 = .ok (.iconst 0, 1) := by decide +kernel
theorem dX6_newFaces_232 : decode cX6_newFaces 232 = .ok (.istore 6, 2) := by decide +kernel
theorem dX6_newFaces_234 : decode cX6_newFaces 234 = .ok (.iload 6, 2) := by decide +kernel
theorem dX6_newFaces_236 : decode cX6_newFaces 236 = .ok (.iload_n 2, 1) := by decide +kernel
theorem dX6_newFaces_237 : decode cX6_newFaces 237 = .ok (.if_icmp .ge 33, 3) := by decide +kernel
theorem dX6_newFaces_240 : decode cX6_newFaces 240 = .ok (.aload 4, 2) := by decide +kernel
theorem dX6_newFaces_242 : decode cX6_newFaces 242 = .ok (.iload 5, 2) := by decide +kernel
theorem dX6_newFaces_244 : decode cX6_newFaces 244 = .ok (.new 104, 3) := by decide +kernel
theorem dX6_newFaces_247 : decode cX6_newFaces 247 = .ok (.dup, 1) := by decide +kernel
theorem dX6_newFaces_248 : decode cX6_newFaces 248 = .ok (.aload_n 0, 1) := by decide +kernel
theorem dX6_newFaces_249 : decode cX6_newFaces 249 = .ok (.iconst (-1), 1) := by decide +kernel
theorem dX6_newFaces_250 : decode cX6_newFaces 250 = .ok (.iload 6, 2) := by decide +kernel
theorem dX6_newFaces_252 : decode cX6_newFaces 252 = .ok (.aload_n 1, 1) := by decide +kernel
theorem dX6_newFaces_253 : decode cX6_newFaces 253 = .ok (.iconst 2, 1) := by decide +kernel
theorem dX6_newFaces_254 : decode cX6_newFaces 254 = .ok (.aaload, 1) := by decide +kernel
theorem dX6_newFaces_255 : decode cX6_newFaces 255 = .ok (.iconst 1, 1) := by decide +kernel
theorem dX6_newFaces_256 : decode cX6_newFaces 256 = .ok (.invokespecial 330, 3) := by decide +kernel
theorem dX6_newFaces_259 : decode cX6_newFaces 259 = .ok (.invokestatic 333, 3) := by decide +kernel
theorem dX6_newFaces_262 : decode cX6_newFaces 262 = .ok (.istore 5, 2) := by decide +kernel
theorem dX6_newFaces_264 : decode cX6_newFaces 264 = .ok (.iinc 6 1, 3) := by decide +kernel
theorem dX6_newFaces_267 : decode cX6_newFaces 267 = .ok (.goto (-33), 3) := by decide +kernel
theorem dX6_newFaces_270 : decode cX6_newFaces 270 = .ok (.iconst 0, 1) := by decide +kernel
theorem dX6_newFaces_271 : decode cX6_newFaces 271 = .ok (.istore 6, 2) := by decide +kernel
theorem dX6_newFaces_273 : decode cX6_newFaces 273 = .ok (.iload 6, 2) := by decide +kernel
theorem dX6_newFaces_275 : decode cX6_newFaces 275 = .ok (.iload_n 2, 1) := by decide +kernel
theorem dX6_newFaces_276 : decode cX6_newFaces 276 = .ok (.if_icmp .ge 39, 3) := by decide +kernel
theorem dX6_newFaces_279 : decode cX6_newFaces 279 = .ok (.aload 4, 2) := by decide +kernel
theorem dX6_newFaces_281 : decode cX6_newFaces 281 = .ok (.iload 5, 2) := by decide +kernel
theorem dX6_newFaces_283 : decode cX6_newFaces 283 = .ok (.new 104, 3) := by decide +kernel
theorem dX6_newFaces_286 : decode cX6_newFaces 286 = .ok (.dup, 1) := by decide +kernel
theorem dX6_newFaces_287 : decode cX6_newFaces 287 = .ok (.aload_n 0, 1) := by decide +kernel
theorem dX6_newFaces_288 : decode cX6_newFaces 288 = .ok (.iload_n 3, 1) := by decide +kernel
theorem dX6_newFaces_289 : decode cX6_newFaces 289 = .ok (.iconst 1, 1) := by decide +kernel
theorem dX6_newFaces_290 : decode cX6_newFaces 290 = .ok (.isub, 1) := by decide +kernel
theorem dX6_newFaces_291 : decode cX6_newFaces 291 = .ok (.iload_n 2, 1) := by decide +kernel
theorem dX6_newFaces_292 : decode cX6_newFaces 292 = .ok (.imul, 1) := by decide +kernel
theorem dX6_newFaces_293 : decode cX6_newFaces 293 = .ok (.iload 6, 2) := by decide +kernel
theorem dX6_newFaces_295 : decode cX6_newFaces 295 = .ok (.iadd, 1) := by decide +kernel
theorem dX6_newFaces_296 : decode cX6_newFaces 296 = .ok (.iconst (-1), 1) := by decide +kernel
theorem dX6_newFaces_297 : decode cX6_newFaces 297 = .ok (.aload_n 1, 1) := by decide +kernel
theorem dX6_newFaces_298 : decode cX6_newFaces 298 = .ok (.iconst 3, 1) := by decide +kernel
theorem dX6_newFaces_299 : decode cX6_newFaces 299 = .ok (.aaload, 1) := by decide +kernel
theorem dX6_newFaces_300 : decode cX6_newFaces 300 = .ok (.iconst 1, 1) := by decide +kernel
theorem dX6_newFaces_301 : decode cX6_newFaces 301 = .ok (.invokespecial 330, 3) := by decide +kernel
theorem dX6_newFaces_304 : decode cX6_newFaces 304 = .ok (.invokestatic 333, 3) := by decide +kernel
theorem dX6_newFaces_307 : decode cX6_newFaces 307 = .ok (.istore 5, 2) := by decide +kernel
theorem dX6_newFaces_309 : decode cX6_newFaces 309 = .ok (.iinc 6 1, 3) := by decide +kernel
theorem dX6_newFaces_312 : decode cX6_newFaces 312 = .ok (.goto (-39), 3) := by decide +kernel
theorem dX6_newFaces_315 : decode cX6_newFaces 315 = .ok (.aload 4, 2) := by decide +kernel
theorem dX6_newFaces_317 : decode cX6_newFaces 317 = .ok (.areturn, 1) := by decide +kernel
theorem dX6_put_0 : decode cX6_put 0 = .ok (.iload_n 1, 1) := by decide +kernel
theorem dX6_put_1 : decode cX6_put 1 = .ok (.ifCond .lt 13, 3) := by decide +kernel
theorem dX6_put_4 : decode cX6_put 4 = .ok (.iload_n 1, 1) := by decide +kernel
theorem dX6_put_5 : decode cX6_put 5 = .ok (.aload_n 0, 1) := by decide +kernel
theorem dX6_put_6 : decode cX6_put 6 = .ok (.arraylength, 1) := by decide +kernel
theorem dX6_put_7 : decode cX6_put 7 = .ok (.if_icmp .ge 7, 3) := by decide +kernel
theorem dX6_put_10 : decode cX6_put 10 = .ok (.aload_n 0, 1) := by decide +kernel
theorem dX6_put_11 : decode cX6_put 11 = .ok (.iload_n 1, 1) := by decide +kernel
theorem dX6_put_12 : decode cX6_put 12 = .ok (.aload_n 2, 1) := by decide +kernel
theorem dX6_put_13 : decode cX6_put 13 = .ok (.aastore, 1) := by decide +kernel
theorem dX6_put_14 : decode cX6_put 14 = .ok (.iload_n 1, 1) := by decide +kernel
theorem dX6_put_15 : decode cX6_put 15 = .ok (.iconst 1, 1) := by decide +kernel
theorem dX6_put_16 : decode cX6_put 16 = .ok (.iadd, 1) := by decide +kernel
theorem dX6_put_17 : decode cX6_put 17 = .ok (.ireturn, 1) := by decide +kernel
end
section
theorem dX7_init_0 : decode cX7_init 0 = .ok (.aload_n 0, 1) := by decide +kernel
theorem dX7_init_1 : decode cX7_init 1 = .ok (.invokespecial 1, 3) := by decide +kernel
theorem dX7_init_4 : decode cX7_init 4 = .ok (.aload_n 0, 1) := by decide +kernel
theorem dX7_init_5 : decode cX7_init 5 = .ok (.sipush 144, 3) := by decide +kernel
theorem dX7_init_8 : decode cX7_init 8 = .ok (.newarray .boolean, 2) := by decide +kernel
theorem dX7_init_10 : decode cX7_init 10 = .ok (.putfield 7, 3) := by decide +kernel
theorem dX7_init_13 : decode cX7_init 13 = .ok (.aload_n 0, 1) := by decide +kernel
theorem dX7_init_14 : decode cX7_init 14 = .ok (.sipush 144, 3) := by decide +kernel
theorem dX7_init_17 : decode cX7_init 17 = .ok (.newarray .double, 2) := by decide +kernel
theorem dX7_init_19 : decode cX7_init 19 = .ok (.putfield 13, 3) := by decide +kernel
theorem dX7_init_22 : decode cX7_init 22 = .ok (.aload_n 0, 1) := by decide +kernel
theorem dX7_init_23 : decode cX7_init 23 = .ok (.sipush 144, 3) := by decide +kernel
theorem dX7_init_26 : decode cX7_init 26 = .ok (.newarray .double, 2) := by decide +kernel
theorem dX7_init_28 : decode cX7_init 28 = .ok (.putfield 17, 3) := by decide +kernel
theorem dX7_init_31 : decode cX7_init 31 = .ok (.aload_n 0, 1) := by decide +kernel
theorem dX7_init_32 : decode cX7_init 32 = .ok (.sipush 144, 3) := by decide +kernel
theorem dX7_init_35 : decode cX7_init 35 = .ok (.newarray .long, 2) := by decide +kernel
theorem dX7_init_37 : decode cX7_init 37 = .ok (.putfield 20, 3) := by decide +kernel
theorem dX7_init_40 : decode cX7_init 40 = .ok (.aload_n 0, 1) := by decide +kernel
theorem dX7_init_41 : decode cX7_init 41 = .ok (.sipush 144, 3) := by decide +kernel
theorem dX7_init_44 : decode cX7_init 44 = .ok (.newarray .double, 2) := by decide +kernel
theorem dX7_init_46 : decode cX7_init 46 = .ok (.putfield 24, 3) := by decide +kernel
theorem dX7_init_49 : decode cX7_init 49 = .ok (.aload_n 0, 1) := by decide +kernel
theorem dX7_init_50 : decode cX7_init 50 = .ok (.sipush 144, 3) := by decide +kernel
theorem dX7_init_53 : decode cX7_init 53 = .ok (.newarray .double, 2) := by decide +kernel
theorem dX7_init_55 : decode cX7_init 55 = .ok (.putfield 27, 3) := by decide +kernel
theorem dX7_init_58 : decode cX7_init 58 = .ok (.aload_n 0, 1) := by decide +kernel
theorem dX7_init_59 : decode cX7_init 59 = .ok (.sipush 144, 3) := by decide +kernel
theorem dX7_init_62 : decode cX7_init 62 = .ok (.newarray .double, 2) := by decide +kernel
theorem dX7_init_64 : decode cX7_init 64 = .ok (.putfield 30, 3) := by decide +kernel
theorem dX7_init_67 : decode cX7_init 67 = .ok (.aload_n 0, 1) := by decide +kernel
theorem dX7_init_68 : decode cX7_init 68 = .ok (.sipush 336, 3) := by decide +kernel
theorem dX7_init_71 : decode cX7_init 71 = .ok (.newarray .double, 2) := by decide +kernel
theorem dX7_init_73 : decode cX7_init 73 = .ok (.putfield 33, 3) := by decide +kernel
theorem dX7_init_76 : decode cX7_init 76 = .ok (.aload_n 0, 1) := by decide +kernel
theorem dX7_init_77 : decode cX7_init 77 = .ok (.iconst 4, 1) := by decide +kernel
theorem dX7_init_78 : decode cX7_init 78 = .ok (.newarray .long, 2) := by decide +kernel
theorem dX7_init_80 : decode cX7_init 80 = .ok (.putfield 36, 3) := by decide +kernel
theorem dX7_init_83 : decode cX7_init 83 = .ok (.aload_n 0, 1) := by decide +kernel
theorem dX7_init_84 : decode cX7_init 84 = .ok (.sipush 144, 3) := by decide +kernel
theorem dX7_init_87 : decode cX7_init 87 = .ok (.newarray .long, 2) := by decide +kernel
theorem dX7_init_89 : decode cX7_init 89 = .ok (.putfield 39, 3) := by decide +kernel
theorem dX7_init_92 : decode cX7_init 92 = .ok (.aload_n 0, 1) := by decide +kernel
theorem dX7_init_93 : decode cX7_init 93 = .ok (.sipush 144, 3) := by decide +kernel
theorem dX7_init_96 : decode cX7_init 96 = .ok (.newarray .double, 2) := by decide +kernel
theorem dX7_init_98 : decode cX7_init 98 = .ok (.putfield 42, 3) := by decide +kernel
theorem dX7_init_101 : decode cX7_init 101 = .ok (.aload_n 0, 1) := by decide +kernel
theorem dX7_init_102 : decode cX7_init 102 = .ok (.sipush 144, 3) := by decide +kernel
theorem dX7_init_105 : decode cX7_init 105 = .ok (.newarray .double, 2) := by decide +kernel
theorem dX7_init_107 : decode cX7_init 107 = .ok (.putfield 45, 3) := by decide +kernel
theorem dX7_init_110 : decode cX7_init 110 = .ok (.aload_n 0, 1) := by decide +kernel
theorem dX7_init_111 : decode cX7_init 111 = .ok (.sipush 336, 3) := by decide +kernel
theorem dX7_init_114 : decode cX7_init 114 = .ok (.newarray .long, 2) := by decide +kernel
theorem dX7_init_116 : decode cX7_init 116 = .ok (.putfield 48, 3) := by decide +kernel
theorem dX7_init_119 : decode cX7_init 119 = .ok (.aload_n 0, 1) := by decide +kernel
theorem dX7_init_120 : decode cX7_init 120 = .ok (.bipush 32, 2) := by decide +kernel
theorem dX7_init_122 : decode cX7_init 122 = .ok (.newarray .boolean, 2) := by decide +kernel
theorem dX7_init_124 : decode cX7_init 124 = .ok (.putfield 51, 3) := by decide +kernel
theorem dX7_init_127 : decode cX7_init 127 = .ok (.aload_n 0, 1) := by decide +kernel
theorem dX7_init_128 : decode cX7_init 128 = .ok (.bipush 32, 2) := by decide +kernel
theorem dX7_init_130 : decode cX7_init 130 = .ok (.newarray .double, 2) := by decide +kernel
theorem dX7_init_132 : decode cX7_init 132 = .ok (.putfield 54, 3) := by decide +kernel
theorem dX7_init_135 : decode cX7_init 135 = .ok (.aload_n 0, 1) := by decide +kernel
theorem dX7_init_136 : decode cX7_init 136 = .ok (.bipush 32, 2) := by decide +kernel
theorem dX7_init_138 : decode cX7_init 138 = .ok (.newarray .double, 2) := by decide +kernel
theorem dX7_init_140 : decode cX7_init 140 = .ok (.putfield 57, 3) := by decide +kernel
theorem dX7_init_143 : decode cX7_init 143 = .ok (.aload_n 0, 1) := by decide +kernel
theorem dX7_init_144 : decode cX7_init 144 = .ok (.bipush 24, 2) := by decide +kernel
theorem dX7_init_146 : decode cX7_init 146 = .ok (.newarray .double, 2) := by decide +kernel
theorem dX7_init_148 : decode cX7_init 148 = .ok (.putfield 60, 3) := by decide +kernel
theorem dX7_init_151 : decode cX7_init 151 = .ok (.aload_n 0, 1) := by decide +kernel
theorem dX7_init_152 : decode cX7_init 152 = .ok (.bipush 24, 2) := by decide +kernel
theorem dX7_init_154 : decode cX7_init 154 = .ok (.newarray .double, 2) := by decide +kernel
theorem dX7_init_156 : decode cX7_init 156 = .ok (.putfield 63, 3) := by decide +kernel
theorem dX7_init_159 : decode cX7_init 159 = .ok (.aload_n 0, 1) := by decide +kernel
theorem dX7_init_160 : decode cX7_init 160 = .ok (.bipush 10, 2) := by decide +kernel
theorem dX7_init_162 : decode cX7_init 162 = .ok (.newarray .int, 2) := by decide +kernel
theorem dX7_init_164 : decode cX7_init 164 = .ok (.putfield 66, 3) := by decide +kernel
theorem dX7_init_167 : decode cX7_init 167 = .ok (.aload_n 0, 1) := by decide +kernel
theorem dX7_init_168 : decode cX7_init 168 = .ok (.sipush 144, 3) := by decide +kernel
theorem dX7_init_171 : decode cX7_init 171 = .ok (.newarray .boolean, 2) := by decide +kernel
theorem dX7_init_173 : decode cX7_init 173 = .ok (.putfield 70, 3) := by decide +kernel
theorem dX7_init_176 : decode cX7_init 176 = .ok (.aload_n 0, 1) := by decide +kernel
theorem dX7_init_177 : decode cX7_init 177 = .ok (.bipush 10, 2) := by decide +kernel
theorem dX7_init_179 : decode cX7_init 179 = .ok (.newarray .boolean, 2) := by decide +kernel
theorem dX7_init_181 : decode cX7_init 181 = .ok (.putfield 73, 3) := by decide +kernel
theorem dX7_init_184 : decode cX7_init 184 = .ok (.aload_n 0, 1) := by decide +kernel
theorem dX7_init_185 : decode cX7_init 185 = .ok (.bipush 40, 2) := by decide +kernel
theorem dX7_init_187 : decode cX7_init 187 = .ok (.newarray .int, 2) := by decide +kernel
theorem dX7_init_189 : decode cX7_init 189 = .ok (.putfield 76, 3) := by decide +kernel
theorem dX7_init_192 : decode cX7_init 192 = .ok (.aload_n 0, 1) := by decide +kernel
theorem dX7_init_193 : decode cX7_init 193 = .ok (.bipush 40, 2) := by decide +kernel
theorem dX7_init_195 : decode cX7_init 195 = .ok (.newarray .double, 2) := by decide +kernel
theorem dX7_init_197 : decode cX7_init 197 = .ok (.putfield 79, 3) := by decide +kernel
theorem dX7_init_200 : decode cX7_init 200 = .ok (.aload_n 0, 1) := by decide +kernel
theorem dX7_init_201 : decode cX7_init 201 = .ok (.bipush 40, 2) := by decide +kernel
theorem dX7_init_203 : decode cX7_init 203 = .ok (.newarray .double, 2) := by decide +kernel
theorem dX7_init_205 : decode cX7_init 205 = .ok (.putfield 82, 3) := by decide +kernel
theorem dX7_init_208 : decode cX7_init 208 = .ok (.aload_n 0, 1) := by decide +kernel
theorem dX7_init_209 : decode cX7_init 209 = .ok (.bipush 25, 2) := by decide +kernel
theorem dX7_init_211 : decode cX7_init 211 = .ok (.newarray .double, 2) := by decide +kernel
theorem dX7_init_213 : decode cX7_init 213 = .ok (.putfield 85, 3) := by decide +kernel
theorem dX7_init_216 : decode cX7_init 216 = .ok (.aload_n 0, 1) := by decide +kernel
theorem dX7_init_217 : decode cX7_init 217 = .ok (.iconst 5, 1) := by decide +kernel
theorem dX7_init_218 : decode cX7_init 218 = .ok (.newarray .double, 2) := by decide +kernel
theorem dX7_init_220 : decode cX7_init 220 = .ok (.putfield 88, 3) := by decide +kernel
theorem dX7_init_223 : decode cX7_init 223 = .ok (.aload_n 0, 1) := by decide +kernel
theorem dX7_init_224 : decode cX7_init 224 = .ok (.iconst 5, 1) := by decide +kernel
theorem dX7_init_225 : decode cX7_init 225 = .ok (.newarray .double, 2) := by decide +kernel
theorem dX7_init_227 : decode cX7_init 227 = .ok (.putfield 91, 3) := by decide +kernel
theorem dX7_init_230 : decode cX7_init 230 = .ok (.aload_n 0, 1) := by decide +kernel
theorem dX7_init_231 : decode cX7_init 231 = .ok (.iconst 4, 1) := by decide +kernel
theorem dX7_init_232 : decode cX7_init 232 = .ok (.newarray .int, 2) := by decide +kernel
theorem dX7_init_234 : decode cX7_init 234 = .ok (.putfield 94, 3) := by decide +kernel
theorem dX7_init_237 : decode cX7_init 237 = .ok (.aload_n 0, 1) := by decide +kernel
theorem dX7_init_238 : decode cX7_init 238 = .ok (.sipush 576, 3) := by decide +kernel
theorem dX7_init_241 : decode cX7_init 241 = .ok (.newarray .long, 2) := by decide +kernel
theorem dX7_init_243 : decode cX7_init 243 = .ok (.putfield 97, 3) := by decide +kernel
theorem dX7_init_246 : decode cX7_init 246 = .ok (.aload_n 0, 1) := by decide +kernel
theorem dX7_init_247 : decode cX7_init 247 = .ok (.sipush 576, 3) := by decide +kernel
theorem dX7_init_250 : decode cX7_init 250 = .ok (.newarray .double, 2) := by decide +kernel
theorem dX7_init_252 : decode cX7_init 252 = .ok (.putfield 100, 3) := by decide +kernel
theorem dX7_init_255 : decode cX7_init 255 = .ok (.aload_n 0, 1) := by decide +kernel
theorem dX7_init_256 : decode cX7_init 256 = .ok (.sipush 576, 3) := by decide +kernel
theorem dX7_init_259 : decode cX7_init 259 = .ok (.newarray .double, 2) := by decide +kernel
theorem dX7_init_261 : decode cX7_init 261 = .ok (.putfield 103, 3) := by decide +kernel
theorem dX7_init_264 : decode cX7_init 264 = .ok (.aload_n 0, 1) := by decide +kernel
theorem dX7_init_265 : decode cX7_init 265 = .ok (.sipush 576, 3) := by decide +kernel
theorem dX7_init_268 : decode cX7_init 268 = .ok (.newarray .double, 2) := by decide +kernel
theorem dX7_init_270 : decode cX7_init 270 = .ok (.putfield 106, 3) := by decide +kernel
theorem dX7_init_273 : decode cX7_init 273 = .ok (.aload_n 0, 1) := by decide +kernel
theorem dX7_init_274 : decode cX7_init 274 = .ok (.sipush 1344, 3) := by decide +kernel
theorem dX7_init_277 : decode cX7_init 277 = .ok (.newarray .double, 2) := by decide +kernel
theorem dX7_init_279 : decode cX7_init 279 = .ok (.putfield 109, 3) := by decide +kernel
theorem dX7_init_282 : decode cX7_init 282 = .ok (.aload_n 0, 1) := by decide +kernel
theorem dX7_init_283 : decode cX7_init 283 = .ok (.bipush 16, 2) := by decide +kernel
theorem dX7_init_285 : decode cX7_init 285 = .ok (.newarray .long, 2) := by decide +kernel
theorem dX7_init_287 : decode cX7_init 287 = .ok (.putfield 112, 3) := by decide +kernel
theorem dX7_init_290 : decode cX7_init 290 = .ok (.aload_n 0, 1) := by decide +kernel
theorem dX7_init_291 : decode cX7_init 291 = .ok (.iconst 4, 1) := by decide +kernel
theorem dX7_init_292 : decode cX7_init 292 = .ok (.newarray .long, 2) := by decide +kernel
theorem dX7_init_294 : decode cX7_init 294 = .ok (.putfield 115, 3) := by decide +kernel
theorem dX7_init_297 : decode cX7_init 297 = .ok (.aload_n 0, 1) := by decide +kernel
theorem dX7_init_298 : decode cX7_init 298 = .ok (.iconst 4, 1) := by decide +kernel
theorem dX7_init_299 : decode cX7_init 299 = .ok (.newarray .double, 2) := by decide +kernel
theorem dX7_init_301 : decode cX7_init 301 = .ok (.putfield 118, 3) := by decide +kernel
theorem dX7_init_304 : decode cX7_init 304 = .ok (.aload_n 0, 1) := by decide +kernel
theorem dX7_init_305 : decode cX7_init 305 = .ok (.iload_n 1, 1) := by decide +kernel
theorem dX7_init_306 : decode cX7_init 306 = .ok (.iconst 1, 1) := by decide +kernel
theorem dX7_init_307 : decode cX7_init 307 = .ok (.if_icmp .ge 7, 3) := by decide +kernel
theorem dX7_init_310 : decode cX7_init 310 = .ok (.iconst 1, 1) := by decide +kernel
theorem dX7_init_311 : decode cX7_init 311 = .ok (.goto 15, 3) := by decide +kernel
theorem dX7_init_314 : decode cX7_init 314 = .ok (.iload_n 1, 1) := by decide +kernel
theorem dX7_init_315 : decode cX7_init 315 = .ok (.bipush 12, 2) := by decide +kernel
theorem dX7_init_317 : decode cX7_init 317 = .ok (.if_icmp .le 8, 3) := by decide +kernel
theorem dX7_init_320 : decode cX7_init 320 = .ok (.bipush 12, 2) := by decide +kernel
theorem dX7_init_322 : decode cX7_init 322 = .ok (.goto 4, 3) := by decide +kernel
theorem dX7_init_325 : decode cX7_init 325 = .ok (.iload_n 1, 1) := by decide +kernel
theorem dX7_init_326 : decode cX7_init 326 = .ok (.putfield 121, 3) := by decide +kernel
theorem dX7_init_329 : decode cX7_init 329 = .ok (.aload_n 0, 1) := by decide +kernel
theorem dX7_init_330 : decode cX7_init 330 = .ok (.iload_n 2, 1) := by decide +kernel
theorem dX7_init_331 : decode cX7_init 331 = .ok (.iconst 1, 1) := by decide +kernel
theorem dX7_init_332 : decode cX7_init 332 = .ok (.if_icmp .ge 7, 3) := by decide +kernel
theorem dX7_init_335 : decode cX7_init 335 = .ok (.iconst 1, 1) := by decide +kernel
theorem dX7_init_336 : decode cX7_init 336 = .ok (.goto 15, 3) := by decide +kernel
theorem dX7_init_339 : decode cX7_init 339 = .ok (.iload_n 2, 1) := by decide +kernel
theorem dX7_init_340 : decode cX7_init 340 = .ok (.bipush 12, 2) := by decide +kernel
theorem dX7_init_342 : decode cX7_init 342 = .ok (.if_icmp .le 8, 3) := by decide +kernel
theorem dX7_init_345 : decode cX7_init 345 = .ok (.bipush 12, 2) := by decide +kernel
theorem dX7_init_347 : decode cX7_init 347 = .ok (.goto 4, 3) := by decide +kernel
theorem dX7_init_350 : decode cX7_init 350 = .ok (.iload_n 2, 1) := by decide +kernel
theorem dX7_init_351 : decode cX7_init 351 = .ok (.putfield 125, 3) := by decide +kernel
theorem dX7_init_354 : decode cX7_init 354 = .ok (.aload_n 0, 1) := by decide +kernel
theorem dX7_init_355 : decode cX7_init 355 = .ok (.iload_n 3, 1) := by decide +kernel
theorem dX7_init_356 : decode cX7_init 356 = .ok (.iconst 1, 1) := by decide +kernel
theorem dX7_init_357 : decode cX7_init 357 = .ok (.if_icmp .ge 7, 3) := by decide +kernel
theorem dX7_init_360 : decode cX7_init 360 = .ok (.iconst 1, 1) := by decide +kernel
theorem dX7_init_361 : decode cX7_init 361 = .ok (.goto 13, 3) := by decide +kernel
theorem dX7_init_364 : decode cX7_init 364 = .ok (.iload_n 3, 1) := by decide +kernel
theorem dX7_init_365 : decode cX7_init 365 = .ok (.iconst 4, 1) := by decide +kernel
theorem dX7_init_366 : decode cX7_init 366 = .ok (.if_icmp .le 7, 3) := by decide +kernel
theorem dX7_init_369 : decode cX7_init 369 = .ok (.iconst 4, 1) := by decide +kernel
theorem dX7_init_370 : decode cX7_init 370 = .ok (.goto 4, 3) := by decide +kernel
theorem dX7_init_373 : decode cX7_init 373 = .ok (.iload_n 3, 1) := by decide +kernel
theorem dX7_init_374 : decode cX7_init 374 = .ok (.putfield 128, 3) := by decide +kernel
theorem dX7_init_377 : decode cX7_init 377 = .ok (.return_, 1) := by decide +kernel
theorem dX7_isIn_0 : decode cX7_isIn 0 = .ok (.dload_n 0, 1) := by decide +kernel
theorem dX7_isIn_1 : decode cX7_isIn 1 = .ok (.dload_n 2, 1) := by decide +kernel
theorem dX7_isIn_2 : decode cX7_isIn 2 = .ok (.dcmp .l, 1) := by decide +kernel
theorem dX7_isIn_3 : decode cX7_isIn 3 = .ok (.ifCond .lt 14, 3) := by decide +kernel
theorem dX7_isIn_6 : decode cX7_isIn 6 = .ok (.dload_n 0, 1) := by decide +kernel
theorem dX7_isIn_7 : decode cX7_isIn 7 = .ok (.dload 4, 2) := by decide +kernel
theorem dX7_isIn_9 : decode cX7_isIn 9 = .ok (.dcmp .g, 1) := by decide +kernel
theorem dX7_isIn_10 : decode cX7_isIn 10 = .ok (.ifCond .gt 7, 3) := by decide +kernel
theorem dX7_isIn_13 : decode cX7_isIn 13 = .ok (.iconst 1, 1) := by decide +kernel
theorem dX7_isIn_14 : decode cX7_isIn 14 = .ok (.goto 4, 3) := by decide +kernel
theorem dX7_isIn_17 : decode cX7_isIn 17 = .ok (.iconst 0, 1) := by decide +kernel
theorem dX7_isIn_18 : decode cX7_isIn 18 = .ok (.ireturn, 1) := by decide +kernel
theorem dX7_isCell_0 : decode cX7_isCell 0 = .ok (.iload_n 1, 1) := by decide +kernel
theorem dX7_isCell_1 : decode cX7_isCell 1 = .ok (.ifCond .lt 27, 3) := by decide +kernel
theorem dX7_isCell_4 : decode cX7_isCell 4 = .ok (.iload_n 1, 1) := by decide +kernel
theorem dX7_isCell_5 : decode cX7_isCell 5 = .ok (.aload_n 0, 1) := by decide +kernel
theorem dX7_isCell_6 : decode cX7_isCell 6 = .ok (.getfield 121, 3) := by decide +kernel
theorem dX7_isCell_9 : decode cX7_isCell 9 = .ok (.if_icmp .ge 19, 3) := by decide +kernel
theorem dX7_isCell_12 : decode cX7_isCell 12 = .ok (.iload_n 2, 1) := by decide +kernel
theorem dX7_isCell_13 : decode cX7_isCell 13 = .ok (.ifCond .lt 15, 3) := by decide +kernel
theorem dX7_isCell_16 : decode cX7_isCell 16 = .ok (.iload_n 2, 1) := by decide +kernel
theorem dX7_isCell_17 : decode cX7_isCell 17 = .ok (.aload_n 0, 1) := by decide +kernel
theorem dX7_isCell_18 : decode cX7_isCell 18 = .ok (.getfield 125, 3) := by decide +kernel
theorem dX7_isCell_21 : decode cX7_isCell 21 = .ok (.if_icmp .ge 7, 3) := by decide +kernel
theorem dX7_isCell_24 : decode cX7_isCell 24 = .ok (.iconst 1, 1) := by decide +kernel
theorem dX7_isCell_25 : decode cX7_isCell 25 = .ok (.goto 4, 3) := by decide +kernel
theorem dX7_isCell_28 : decode cX7_isCell 28 = .ok (.iconst 0, 1) := by decide +kernel
theorem dX7_isCell_29 : decode cX7_isCell 29 = .ok (.ireturn, 1) := by decide +kernel
theorem dX7_at_0 : decode cX7_at 0 = .ok (.bipush 12, 2) := by decide +kernel
theorem dX7_at_2 : decode cX7_at 2 = .ok (.iload_n 1, 1) := by decide +kernel
theorem dX7_at_3 : decode cX7_at 3 = .ok (.imul, 1) := by decide +kernel
theorem dX7_at_4 : decode cX7_at 4 = .ok (.iload_n 0, 1) := by decide +kernel
theorem dX7_at_5 : decode cX7_at 5 = .ok (.iadd, 1) := by decide +kernel
theorem dX7_at_6 : decode cX7_at 6 = .ok (.ireturn, 1) := by decide +kernel
theorem dX7_isWater_0 : decode cX7_isWater 0 = .ok (.aload_n 0, 1) := by decide +kernel
theorem dX7_isWater_1 : decode cX7_isWater 1 = .ok (.iload_n 1, 1) := by decide +kernel
theorem dX7_isWater_2 : decode cX7_isWater 2 = .ok (.iload_n 2, 1) := by decide +kernel
theorem dX7_isWater_3 : decode cX7_isWater 3 = .ok (.invokevirtual 131, 3) := by decide +kernel
theorem dX7_isWater_6 : decode cX7_isWater 6 = .ok (.ifCond .eq 20, 3) := by decide +kernel
theorem dX7_isWater_9 : decode cX7_isWater 9 = .ok (.aload_n 0, 1) := by decide +kernel
theorem dX7_isWater_10 : decode cX7_isWater 10 = .ok (.getfield 7, 3) := by decide +kernel
theorem dX7_isWater_13 : decode cX7_isWater 13 = .ok (.iload_n 1, 1) := by decide +kernel
theorem dX7_isWater_14 : decode cX7_isWater 14 = .ok (.iload_n 2, 1) := by decide +kernel
theorem dX7_isWater_15 : decode cX7_isWater 15 = .ok (.invokestatic 135, 3) := by decide +kernel
theorem dX7_isWater_18 : decode cX7_isWater 18 = .ok (.baload, 1) := by decide +kernel
theorem dX7_isWater_19 : decode cX7_isWater 19 = .ok (.ifCond .eq 7, 3) := by decide +kernel
theorem dX7_isWater_22 : decode cX7_isWater 22 = .ok (.iconst 1, 1) := by decide +kernel
theorem dX7_isWater_23 : decode cX7_isWater 23 = .ok (.goto 4, 3) := by decide +kernel
theorem dX7_isWater_26 : decode cX7_isWater 26 = .ok (.iconst 0, 1) := by decide +kernel
theorem dX7_isWater_27 : decode cX7_isWater 27 = .ok (.ireturn, 1) := by decide +kernel
theorem dX7_isOpen_0 : decode cX7_isOpen 0 = .ok (.iconst 0, 1) := by decide +kernel
theorem dX7_isOpen_1 : decode cX7_isOpen 1 = .ok (.istore_n 2, 1) := by decide +kernel
theorem dX7_isOpen_2 : decode cX7_isOpen 2 = .ok (.iconst 0, 1) := by decide +kernel
theorem dX7_isOpen_3 : decode cX7_isOpen 3 = .ok (.istore_n 3, 1) := by decide +kernel
theorem dX7_isOpen_4 : decode cX7_isOpen 4 = .ok (.iload_n 3, 1) := by decide +kernel
theorem dX7_isOpen_5 : decode cX7_isOpen 5 = .ok (.bipush 8, 2) := by decide +kernel
theorem dX7_isOpen_7 : decode cX7_isOpen 7 = .ok (.if_icmp .ge 33, 3) := by decide +kernel
theorem dX7_isOpen_10 : decode cX7_isOpen 10 = .ok (.iload_n 2, 1) := by decide +kernel
theorem dX7_isOpen_11 : decode cX7_isOpen 11 = .ok (.ifCond .ne 17, 3) := by decide +kernel
theorem dX7_isOpen_14 : decode cX7_isOpen 14 = .ok (.aload_n 0, 1) := by decide +kernel
theorem dX7_isOpen_15 : decode cX7_isOpen 15 = .ok (.getfield 51, 3) := by decide +kernel
theorem dX7_isOpen_18 : decode cX7_isOpen 18 = .ok (.bipush 8, 2) := by decide +kernel
theorem dX7_isOpen_20 : decode cX7_isOpen 20 = .ok (.iload_n 1, 1) := by decide +kernel
theorem dX7_isOpen_21 : decode cX7_isOpen 21 = .ok (.imul, 1) := by decide +kernel
theorem dX7_isOpen_22 : decode cX7_isOpen 22 = .ok (.iload_n 3, 1) := by decide +kernel
theorem dX7_isOpen_23 : decode cX7_isOpen 23 = .ok (.iadd, 1) := by decide +kernel
theorem dX7_isOpen_24 : decode cX7_isOpen 24 = .ok (.baload, 1) := by decide +kernel
theorem dX7_isOpen_25 : decode cX7_isOpen 25 = .ok (.ifCond .eq 7, 3) := by decide +kernel
theorem dX7_isOpen_28 : decode cX7_isOpen 28 = .ok (.iconst 1, 1) := by decide +kernel
theorem dX7_isOpen_29 : decode cX7_isOpen 29 = .ok (.goto 4, 3) := by decide +kernel
theorem dX7_isOpen_32 : decode cX7_isOpen 32 = .ok (.iconst 0, 1) := by decide +kernel
theorem dX7_isOpen_33 : decode cX7_isOpen 33 = .ok (.istore_n 2, 1) := by decide +kernel
theorem dX7_isOpen_34 : decode cX7_isOpen 34 = .ok (.iinc 3 1, 3) := by decide +kernel
theorem dX7_isOpen_37 : decode cX7_isOpen 37 = .ok (.goto (-33), 3) := by decide +kernel
theorem dX7_isOpen_40 : decode cX7_isOpen 40 = .ok (.iload_n 2, 1) := by decide +kernel
theorem dX7_isOpen_41 : decode cX7_isOpen 41 = .ok (.ireturn, 1) := by decide +kernel
theorem dX7_hasFace_0 : decode cX7_hasFace 0 = .ok (.aload_n 0, 1) := by decide +kernel
theorem dX7_hasFace_1 : decode cX7_hasFace 1 = .ok (.iload_n 1, 1) := by decide +kernel
theorem dX7_hasFace_2 : decode cX7_hasFace 2 = .ok (.iload_n 2, 1) := by decide +kernel
theorem dX7_hasFace_3 : decode cX7_hasFace 3 = .ok (.invokevirtual 139, 3) := by decide +kernel
theorem dX7_hasFace_6 : decode cX7_hasFace 6 = .ok (.ifCond .eq 36, 3) := by decide +kernel
theorem dX7_hasFace_9 : decode cX7_hasFace 9 = .ok (.iload_n 3, 1) := by decide +kernel
theorem dX7_hasFace_10 : decode cX7_hasFace 10 = .ok (.ifCond .ne 17, 3) := by decide +kernel
theorem dX7_hasFace_13 : decode cX7_hasFace 13 = .ok (.aload_n 0, 1) := by decide +kernel
theorem dX7_hasFace_14 : decode cX7_hasFace 14 = .ok (.iload_n 1, 1) := by decide +kernel
theorem dX7_hasFace_15 : decode cX7_hasFace 15 = .ok (.iconst 1, 1) := by decide +kernel
theorem dX7_hasFace_16 : decode cX7_hasFace 16 = .ok (.iadd, 1) := by decide +kernel
theorem dX7_hasFace_17 : decode cX7_hasFace 17 = .ok (.iload_n 2, 1) := by decide +kernel
theorem dX7_hasFace_18 : decode cX7_hasFace 18 = .ok (.invokevirtual 139, 3) := by decide +kernel
theorem dX7_hasFace_21 : decode cX7_hasFace 21 = .ok (.ifCond .eq 21, 3) := by decide +kernel
theorem dX7_hasFace_24 : decode cX7_hasFace 24 = .ok (.goto 14, 3) := by decide +kernel
theorem dX7_hasFace_27 : decode cX7_hasFace 27 = .ok (.aload_n 0, 1) := by decide +kernel
theorem dX7_hasFace_28 : decode cX7_hasFace 28 = .ok (.iload_n 1, 1) := by decide +kernel
theorem dX7_hasFace_29 : decode cX7_hasFace 29 = .ok (.iload_n 2, 1) := by decide +kernel
theorem dX7_hasFace_30 : decode cX7_hasFace 30 = .ok (.iconst 1, 1) := by decide +kernel
theorem dX7_hasFace_31 : decode cX7_hasFace 31 = .ok (.iadd, 1) := by decide +kernel
theorem dX7_hasFace_32 : decode cX7_hasFace 32 = .ok (.invokevirtual 139, 3) := by decide +kernel
theorem dX7_hasFace_35 : decode cX7_hasFace 35 = .ok (.ifCond .eq 7, 3) := by decide +kernel
theorem dX7_hasFace_38 : decode cX7_hasFace 38 = .ok (.iconst 1, 1) := by decide +kernel
theorem dX7_hasFace_39 : decode cX7_hasFace 39 = .ok (.goto 4, 3) := by decide +kernel
theorem dX7_hasFace_42 : decode cX7_hasFace 42 = .ok (.iconst 0, 1) := by decide +kernel
theorem dX7_hasFace_43 : decode cX7_hasFace 43 = .ok (.ireturn, 1) := by decide +kernel
theorem dX7_isAtSide_0 : decode cX7_isAtSide 0 = .ok (.iload_n 3, 1) := by decide +kernel
theorem dX7_isAtSide_1 : decode cX7_isAtSide 1 = .ok (.ifCond .ne 15, 3) := by decide +kernel
theorem dX7_isAtSide_4 : decode cX7_isAtSide 4 = .ok (.iload_n 1, 1) := by decide +kernel
theorem dX7_isAtSide_5 : decode cX7_isAtSide 5 = .ok (.ifCond .ne 7, 3) := by decide +kernel
theorem dX7_isAtSide_8 : decode cX7_isAtSide 8 = .ok (.iconst 1, 1) := by decide +kernel
theorem dX7_isAtSide_9 : decode cX7_isAtSide 9 = .ok (.goto 62, 3) := by decide +kernel
theorem dX7_isAtSide_12 : decode cX7_isAtSide 12 = .ok (.iconst 0, 1) := by decide +kernel
theorem dX7_isAtSide_13 : decode cX7_isAtSide 13 = .ok (.goto 58, 3) := by decide +kernel
theorem dX7_isAtSide_16 : decode cX7_isAtSide 16 = .ok (.iload_n 3, 1) := by decide +kernel
theorem dX7_isAtSide_17 : decode cX7_isAtSide 17 = .ok (.iconst 1, 1) := by decide +kernel
theorem dX7_isAtSide_18 : decode cX7_isAtSide 18 = .ok (.if_icmp .ne 21, 3) := by decide +kernel
theorem dX7_isAtSide_21 : decode cX7_isAtSide 21 = .ok (.iload_n 1, 1) := by decide +kernel
theorem dX7_isAtSide_22 : decode cX7_isAtSide 22 = .ok (.aload_n 0, 1) := by decide +kernel
theorem dX7_isAtSide_23 : decode cX7_isAtSide 23 = .ok (.getfield 121, 3) := by decide +kernel
theorem dX7_isAtSide_26 : decode cX7_isAtSide 26 = .ok (.iconst 1, 1) := by decide +kernel
theorem dX7_isAtSide_27 : decode cX7_isAtSide 27 = .ok (.isub, 1) := by decide +kernel
theorem dX7_isAtSide_28 : decode cX7_isAtSide 28 = .ok (.if_icmp .ne 7, 3) := by decide +kernel
theorem dX7_isAtSide_31 : decode cX7_isAtSide 31 = .ok (.iconst 1, 1) := by decide +kernel
theorem dX7_isAtSide_32 : decode cX7_isAtSide 32 = .ok (.goto 39, 3) := by decide +kernel
theorem dX7_isAtSide_35 : decode cX7_isAtSide 35 = .ok (.iconst 0, 1) := by decide +kernel
theorem dX7_isAtSide_36 : decode cX7_isAtSide 36 = .ok (.goto 35, 3) := by decide +kernel
theorem dX7_isAtSide_39 : decode cX7_isAtSide 39 = .ok (.iload_n 3, 1) := by decide +kernel
theorem dX7_isAtSide_40 : decode cX7_isAtSide 40 = .ok (.iconst 2, 1) := by decide +kernel
theorem dX7_isAtSide_41 : decode cX7_isAtSide 41 = .ok (.if_icmp .ne 15, 3) := by decide +kernel
theorem dX7_isAtSide_44 : decode cX7_isAtSide 44 = .ok (.iload_n 2, 1) := by decide +kernel
theorem dX7_isAtSide_45 : decode cX7_isAtSide 45 = .ok (.ifCond .ne 7, 3) := by decide +kernel
theorem dX7_isAtSide_48 : decode cX7_isAtSide 48 = .ok (.iconst 1, 1) := by decide +kernel
theorem dX7_isAtSide_49 : decode cX7_isAtSide 49 = .ok (.goto 22, 3) := by decide +kernel
theorem dX7_isAtSide_52 : decode cX7_isAtSide 52 = .ok (.iconst 0, 1) := by decide +kernel
theorem dX7_isAtSide_53 : decode cX7_isAtSide 53 = .ok (.goto 18, 3) := by decide +kernel
theorem dX7_isAtSide_56 : decode cX7_isAtSide 56 = .ok (.iload_n 2, 1) := by decide +kernel
theorem dX7_isAtSide_57 : decode cX7_isAtSide 57 = .ok (.aload_n 0, 1) := by decide +kernel
theorem dX7_isAtSide_58 : decode cX7_isAtSide 58 = .ok (.getfield 125, 3) := by decide +kernel
theorem dX7_isAtSide_61 : decode cX7_isAtSide 61 = .ok (.iconst 1, 1) := by decide +kernel
theorem dX7_isAtSide_62 : decode cX7_isAtSide 62 = .ok (.isub, 1) := by decide +kernel
theorem dX7_isAtSide_63 : decode cX7_isAtSide 63 = .ok (.if_icmp .ne 7, 3) := by decide +kernel
theorem dX7_isAtSide_66 : decode cX7_isAtSide 66 = .ok (.iconst 1, 1) := by decide +kernel
theorem dX7_isAtSide_67 : decode cX7_isAtSide 67 = .ok (.goto 4, 3) := by decide +kernel
theorem dX7_isAtSide_70 : decode cX7_isAtSide 70 = .ok (.iconst 0, 1) := by decide +kernel
theorem dX7_isAtSide_71 : decode cX7_isAtSide 71 = .ok (.ireturn, 1) := by decide +kernel
theorem dX7_sideFace_0 : decode cX7_sideFace 0 = .ok (.sipush 288, 3) := by decide +kernel
theorem dX7_sideFace_3 : decode cX7_sideFace 3 = .ok (.bipush 12, 2) := by decide +kernel
theorem dX7_sideFace_5 : decode cX7_sideFace 5 = .ok (.iload_n 2, 1) := by decide +kernel
theorem dX7_sideFace_6 : decode cX7_sideFace 6 = .ok (.imul, 1) := by decide +kernel
theorem dX7_sideFace_7 : decode cX7_sideFace 7 = .ok (.iadd, 1) := by decide +kernel
theorem dX7_sideFace_8 : decode cX7_sideFace 8 = .ok (.iload_n 2, 1) := by decide +kernel
theorem dX7_sideFace_9 : decode cX7_sideFace 9 = .ok (.iconst 2, 1) := by decide +kernel
theorem dX7_sideFace_10 : decode cX7_sideFace 10 = .ok (.if_icmp .ge 7, 3) := by decide +kernel
theorem dX7_sideFace_13 : decode cX7_sideFace 13 = .ok (.iload_n 1, 1) := by decide +kernel
theorem dX7_sideFace_14 : decode cX7_sideFace 14 = .ok (.goto 4, 3) := by decide +kernel
theorem dX7_sideFace_17 : decode cX7_sideFace 17 = .ok (.iload_n 0, 1) := by decide +kernel
theorem dX7_sideFace_18 : decode cX7_sideFace 18 = .ok (.iadd, 1) := by decide +kernel
theorem dX7_sideFace_19 : decode cX7_sideFace 19 = .ok (.ireturn, 1) := by decide +kernel
theorem dX7_hasSideFace_0 : decode cX7_hasSideFace 0 = .ok (.aload_n 0, 1) := by decide +kernel
theorem dX7_hasSideFace_1 : decode cX7_hasSideFace 1 = .ok (.iload_n 1, 1) := by decide +kernel
theorem dX7_hasSideFace_2 : decode cX7_hasSideFace 2 = .ok (.iload_n 2, 1) := by decide +kernel
theorem dX7_hasSideFace_3 : decode cX7_hasSideFace 3 = .ok (.invokevirtual 139, 3) := by decide +kernel
theorem dX7_hasSideFace_6 : decode cX7_hasSideFace 6 = .ok (.ifCond .eq 25, 3) := by decide +kernel
theorem dX7_hasSideFace_9 : decode cX7_hasSideFace 9 = .ok (.aload_n 0, 1) := by decide +kernel
theorem dX7_hasSideFace_10 : decode cX7_hasSideFace 10 = .ok (.iload_n 1, 1) := by decide +kernel
theorem dX7_hasSideFace_11 : decode cX7_hasSideFace 11 = .ok (.iload_n 2, 1) := by decide +kernel
theorem dX7_hasSideFace_12 : decode cX7_hasSideFace 12 = .ok (.iload_n 3, 1) := by decide +kernel
theorem dX7_hasSideFace_13 : decode cX7_hasSideFace 13 = .ok (.invokevirtual 142, 3) := by decide +kernel
theorem dX7_hasSideFace_16 : decode cX7_hasSideFace 16 = .ok (.ifCond .eq 15, 3) := by decide +kernel
theorem dX7_hasSideFace_19 : decode cX7_hasSideFace 19 = .ok (.aload_n 0, 1) := by decide +kernel
theorem dX7_hasSideFace_20 : decode cX7_hasSideFace 20 = .ok (.iload_n 3, 1) := by decide +kernel
theorem dX7_hasSideFace_21 : decode cX7_hasSideFace 21 = .ok (.invokevirtual 146, 3) := by decide +kernel
theorem dX7_hasSideFace_24 : decode cX7_hasSideFace 24 = .ok (.ifCond .eq 7, 3) := by decide +kernel
theorem dX7_hasSideFace_27 : decode cX7_hasSideFace 27 = .ok (.iconst 1, 1) := by decide +kernel
theorem dX7_hasSideFace_28 : decode cX7_hasSideFace 28 = .ok (.goto 4, 3) := by decide +kernel
theorem dX7_hasSideFace_31 : decode cX7_hasSideFace 31 = .ok (.iconst 0, 1) := by decide +kernel
theorem dX7_hasSideFace_32 : decode cX7_hasSideFace 32 = .ok (.ireturn, 1) := by decide +kernel
theorem dX7_depth_0 : decode cX7_depth 0 = .ok (.aload_n 0, 1) := by decide +kernel
theorem dX7_depth_1 : decode cX7_depth 1 = .ok (.iload_n 1, 1) := by decide +kernel
theorem dX7_depth_2 : decode cX7_depth 2 = .ok (.iload_n 2, 1) := by decide +kernel
theorem dX7_depth_3 : decode cX7_depth 3 = .ok (.invokevirtual 131, 3) := by decide +kernel
theorem dX7_depth_6 : decode cX7_depth 6 = .ok (.ifCond .eq 14, 3) := by decide +kernel
theorem dX7_depth_9 : decode cX7_depth 9 = .ok (.dload_n 3, 1) := by decide +kernel
theorem dX7_depth_10 : decode cX7_depth 10 = .ok (.dconst 0, 1) := by decide +kernel
theorem dX7_depth_11 : decode cX7_depth 11 = .ok (.ldc2_w 150, 3) := by decide +kernel
theorem dX7_depth_14 : decode cX7_depth 14 = .ok (.invokestatic 152, 3) := by decide +kernel
theorem dX7_depth_17 : decode cX7_depth 17 = .ok (.ifCond .ne 5, 3) := by decide +kernel
theorem dX7_depth_20 : decode cX7_depth 20 = .ok (.iconst 0, 1) := by decide +kernel
theorem dX7_depth_21 : decode cX7_depth 21 = .ok (.ireturn, 1) := by decide +kernel
theorem dX7_depth_22 : decode cX7_depth 22 = .ok (.iload_n 1, 1) := by decide +kernel
theorem dX7_depth_23 : decode cX7_depth 23 = .ok (.iload_n 2, 1) := by decide +kernel
theorem dX7_depth_24 : decode cX7_depth 24 = .ok (.invokestatic 135, 3) := by decide +kernel
theorem dX7_depth_27 : decode cX7_depth 27 = .ok (.istore 5, 2) := by decide +kernel
theorem dX7_depth_29 : decode cX7_depth 29 = .ok (.aload_n 0, 1) := by decide +kernel
theorem dX7_depth_30 : decode cX7_depth 30 = .ok (.dup, 1) := by decide +kernel
theorem dX7_depth_31 : decode cX7_depth 31 = .ok (.getfield 156, 3) := by decide +kernel
theorem dX7_depth_34 : decode cX7_depth 34 = .ok (.aload_n 0, 1) := by decide +kernel
theorem dX7_depth_35 : decode cX7_depth 35 = .ok (.getfield 20, 3) := by decide +kernel
theorem dX7_depth_38 : decode cX7_depth 38 = .ok (.iload 5, 2) := by decide +kernel
theorem dX7_depth_40 : decode cX7_depth 40 = .ok (.laload, 1) := by decide +kernel
theorem dX7_depth_41 : decode cX7_depth 41 = .ok (.lsub, 1) := by decide +kernel
theorem dX7_depth_42 : decode cX7_depth 42 = .ok (.putfield 156, 3) := by decide +kernel
theorem dX7_depth_45 : decode cX7_depth 45 = .ok (.aload_n 0, 1) := by decide +kernel
theorem dX7_depth_46 : decode cX7_depth 46 = .ok (.getfield 7, 3) := by decide +kernel
theorem dX7_depth_49 : decode cX7_depth 49 = .ok (.iload 5, 2) := by decide +kernel
theorem dX7_depth_51 : decode cX7_depth 51 = .ok (.dload_n 3, 1) := by decide +kernel
theorem dX7_depth_52 : decode cX7_depth 52 = .ok (.dconst 0, 1) := by decide +kernel
theorem dX7_depth_53 : decode cX7_depth 53 = .ok (.dcmp .l, 1) := by decide +kernel
theorem dX7_depth_54 : decode cX7_depth 54 = .ok (.ifCond .le 7, 3) := by decide +kernel
theorem dX7_depth_57 : decode cX7_depth 57 = .ok (.iconst 1, 1) := by decide +kernel
theorem dX7_depth_58 : decode cX7_depth 58 = .ok (.goto 4, 3) := by decide +kernel
theorem dX7_depth_61 : decode cX7_depth 61 = .ok (.iconst 0, 1) := by decide +kernel
theorem dX7_depth_62 : decode cX7_depth 62 = .ok (.bastore, 1) := by decide +kernel
theorem dX7_depth_63 : decode cX7_depth 63 = .ok (.aload_n 0, 1) := by decide +kernel
theorem dX7_depth_64 : decode cX7_depth 64 = .ok (.getfield 13, 3) := by decide +kernel
theorem dX7_depth_67 : decode cX7_depth 67 = .ok (.iload 5, 2) := by decide +kernel
theorem dX7_depth_69 : decode cX7_depth 69 = .ok (.dload_n 3, 1) := by decide +kernel
theorem dX7_depth_70 : decode cX7_depth 70 = .ok (.dastore, 1) := by decide +kernel
theorem dX7_depth_71 : decode cX7_depth 71 = .ok (.aload_n 0, 1) := by decide +kernel
theorem dX7_depth_72 : decode cX7_depth 72 = .ok (.getfield 20, 3) := by decide +kernel
theorem dX7_depth_75 : decode cX7_depth 75 = .ok (.iload 5, 2) := by decide +kernel
theorem dX7_depth_77 : decode cX7_depth 77 = .ok (.dload_n 3, 1) := by decide +kernel
theorem dX7_depth_78 : decode cX7_depth 78 = .ok (.ldc2_w 150, 3) := by decide +kernel
theorem dX7_depth_81 : decode cX7_depth 81 = .ok (.dmul, 1) := by decide +kernel
theorem dX7_depth_82 : decode cX7_depth 82 = .ok (.d2l, 1) := by decide +kernel
theorem dX7_depth_83 : decode cX7_depth 83 = .ok (.lastore, 1) := by decide +kernel
theorem dX7_depth_84 : decode cX7_depth 84 = .ok (.aload_n 0, 1) := by decide +kernel
theorem dX7_depth_85 : decode cX7_depth 85 = .ok (.dup, 1) := by decide +kernel
theorem dX7_depth_86 : decode cX7_depth 86 = .ok (.getfield 156, 3) := by decide +kernel
theorem dX7_depth_89 : decode cX7_depth 89 = .ok (.aload_n 0, 1) := by decide +kernel
theorem dX7_depth_90 : decode cX7_depth 90 = .ok (.getfield 20, 3) := by decide +kernel
theorem dX7_depth_93 : decode cX7_depth 93 = .ok (.iload 5, 2) := by decide +kernel
theorem dX7_depth_95 : decode cX7_depth 95 = .ok (.laload, 1) := by decide +kernel
theorem dX7_depth_96 : decode cX7_depth 96 = .ok (.ladd, 1) := by decide +kernel
theorem dX7_depth_97 : decode cX7_depth 97 = .ok (.putfield 156, 3) := by decide +kernel
theorem dX7_depth_100 : decode cX7_depth 100 = .ok (.aload_n 0, 1) := by decide +kernel
theorem dX7_depth_101 : decode cX7_depth 101 = .ok (.getfield 24, 3) := by decide +kernel
theorem dX7_depth_104 : decode cX7_depth 104 = .ok (.iload 5, 2) := by decide +kernel
theorem dX7_depth_106 : decode cX7_depth 106 = .ok (.ldc2_w 160, 3) := by decide +kernel
theorem dX7_depth_109 : decode cX7_depth 109 = .ok (.dastore, 1) := by decide +kernel
theorem dX7_depth_110 : decode cX7_depth 110 = .ok (.aload_n 0, 1) := by decide +kernel
theorem dX7_depth_111 : decode cX7_depth 111 = .ok (.getfield 27, 3) := by decide +kernel
theorem dX7_depth_114 : decode cX7_depth 114 = .ok (.iload 5, 2) := by decide +kernel
theorem dX7_depth_116 : decode cX7_depth 116 = .ok (.ldc2_w 162, 3) := by decide +kernel
theorem dX7_depth_119 : decode cX7_depth 119 = .ok (.dastore, 1) := by decide +kernel
theorem dX7_depth_120 : decode cX7_depth 120 = .ok (.aload_n 0, 1) := by decide +kernel
theorem dX7_depth_121 : decode cX7_depth 121 = .ok (.getfield 30, 3) := by decide +kernel
theorem dX7_depth_124 : decode cX7_depth 124 = .ok (.iload 5, 2) := by decide +kernel
theorem dX7_depth_126 : decode cX7_depth 126 = .ok (.dconst 0, 1) := by decide +kernel
theorem dX7_depth_127 : decode cX7_depth 127 = .ok (.dastore, 1) := by decide +kernel
theorem dX7_depth_128 : decode cX7_depth 128 = .ok (.aload_n 0, 1) := by decide +kernel
theorem dX7_depth_129 : decode cX7_depth 129 = .ok (.getfield 33, 3) := by decide +kernel
theorem dX7_depth_132 : decode cX7_depth 132 = .ok (.iload 5, 2) := by decide +kernel
theorem dX7_depth_134 : decode cX7_depth 134 = .ok (.dconst 0, 1) := by decide +kernel
theorem dX7_depth_135 : decode cX7_depth 135 = .ok (.dastore, 1) := by decide +kernel
theorem dX7_depth_136 : decode cX7_depth 136 = .ok (.aload_n 0, 1) := by decide +kernel
theorem dX7_depth_137 : decode cX7_depth 137 = .ok (.getfield 33, 3) := by decide +kernel
theorem dX7_depth_140 : decode cX7_depth 140 = .ok (.sipush 144, 3) := by decide +kernel
theorem dX7_depth_143 : decode cX7_depth 143 = .ok (.iload 5, 2) := by decide +kernel
theorem dX7_depth_145 : decode cX7_depth 145 = .ok (.iadd, 1) := by decide +kernel
theorem dX7_depth_146 : decode cX7_depth 146 = .ok (.dconst 0, 1) := by decide +kernel
theorem dX7_depth_147 : decode cX7_depth 147 = .ok (.dastore, 1) := by decide +kernel
theorem dX7_depth_148 : decode cX7_depth 148 = .ok (.iload_n 1, 1) := by decide +kernel
theorem dX7_depth_149 : decode cX7_depth 149 = .ok (.ifCond .le 16, 3) := by decide +kernel
theorem dX7_depth_152 : decode cX7_depth 152 = .ok (.aload_n 0, 1) := by decide +kernel
theorem dX7_depth_153 : decode cX7_depth 153 = .ok (.getfield 33, 3) := by decide +kernel
theorem dX7_depth_156 : decode cX7_depth 156 = .ok (.iload_n 1, 1) := by decide +kernel
theorem dX7_depth_157 : decode cX7_depth 157 = .ok (.iconst 1, 1) := by decide +kernel
theorem dX7_depth_158 : decode cX7_depth 158 = .ok (.isub, 1) := by decide +kernel
theorem dX7_depth_159 : decode cX7_depth 159 = .ok (.iload_n 2, 1) := by decide +kernel
theorem dX7_depth_160 : decode cX7_depth 160 = .ok (.invokestatic 135, 3) := by decide +kernel
theorem dX7_depth_163 : decode cX7_depth 163 = .ok (.dconst 0, 1) := by decide +kernel
theorem dX7_depth_164 : decode cX7_depth 164 = .ok (.dastore, 1) := by decide +kernel
theorem dX7_depth_165 : decode cX7_depth 165 = .ok (.iload_n 2, 1) := by decide +kernel
theorem dX7_depth_166 : decode cX7_depth 166 = .ok (.ifCond .le 20, 3) := by decide +kernel
theorem dX7_depth_169 : decode cX7_depth 169 = .ok (.aload_n 0, 1) := by decide +kernel
theorem dX7_depth_170 : decode cX7_depth 170 = .ok (.getfield 33, 3) := by decide +kernel
theorem dX7_depth_173 : decode cX7_depth 173 = .ok (.sipush 144, 3) := by decide +kernel
theorem dX7_depth_176 : decode cX7_depth 176 = .ok (.iload_n 1, 1) := by decide +kernel
theorem dX7_depth_177 : decode cX7_depth 177 = .ok (.iload_n 2, 1) := by decide +kernel
theorem dX7_depth_178 : decode cX7_depth 178 = .ok (.iconst 1, 1) := by decide +kernel
theorem dX7_depth_179 : decode cX7_depth 179 = .ok (.isub, 1) := by decide +kernel
theorem dX7_depth_180 : decode cX7_depth 180 = .ok (.invokestatic 135, 3) := by decide +kernel
theorem dX7_depth_183 : decode cX7_depth 183 = .ok (.iadd, 1) := by decide +kernel
theorem dX7_depth_184 : decode cX7_depth 184 = .ok (.dconst 0, 1) := by decide +kernel
theorem dX7_depth_185 : decode cX7_depth 185 = .ok (.dastore, 1) := by decide +kernel
theorem dX7_depth_186 : decode cX7_depth 186 = .ok (.iconst 0, 1) := by decide +kernel
theorem dX7_depth_187 : decode cX7_depth 187 = .ok (.istore 6, 2) := by decide +kernel
theorem dX7_depth_189 : decode cX7_depth 189 = .ok (.iload 6, 2) := by decide +kernel
theorem dX7_depth_191 : decode cX7_depth 191 = .ok (.iconst 4, 1) := by decide +kernel
theorem dX7_depth_192 : decode cX7_depth 192 = .ok (.if_icmp .ge 33, 3) := by decide +kernel
theorem dX7_depth_195 : decode cX7_depth 195 = .ok (.aload_n 0, 1) := by decide +kernel
theorem dX7_depth_196 : decode cX7_depth 196 = .ok (.iload_n 1, 1) := by decide +kernel
theorem dX7_depth_197 : decode cX7_depth 197 = .ok (.iload_n 2, 1) := by decide +kernel
theorem dX7_depth_198 : decode cX7_depth 198 = .ok (.iload 6, 2) := by decide +kernel
theorem dX7_depth_200 : decode cX7_depth 200 = .ok (.invokevirtual 142, 3) := by decide +kernel
theorem dX7_depth_203 : decode cX7_depth 203 = .ok (.ifCond .eq 16, 3) := by decide +kernel
theorem dX7_depth_206 : decode cX7_depth 206 = .ok (.aload_n 0, 1) := by decide +kernel
theorem dX7_depth_207 : decode cX7_depth 207 = .ok (.getfield 33, 3) := by decide +kernel
theorem dX7_depth_210 : decode cX7_depth 210 = .ok (.iload_n 1, 1) := by decide +kernel
theorem dX7_depth_211 : decode cX7_depth 211 = .ok (.iload_n 2, 1) := by decide +kernel
theorem dX7_depth_212 : decode cX7_depth 212 = .ok (.iload 6, 2) := by decide +kernel
theorem dX7_depth_214 : decode cX7_depth 214 = .ok (.invokestatic 164, 3) := by decide +kernel
theorem dX7_depth_217 : decode cX7_depth 217 = .ok (.dconst 0, 1) := by decide +kernel
theorem dX7_depth_218 : decode cX7_depth 218 = .ok (.dastore, 1) := by decide +kernel
theorem dX7_depth_219 : decode cX7_depth 219 = .ok (.iinc 6 1, 3) := by decide +kernel
theorem dX7_depth_222 : decode cX7_depth 222 = .ok (.goto (-33), 3) := by decide +kernel
theorem dX7_depth_225 : decode cX7_depth 225 = .ok (.iconst 0, 1) := by decide +kernel
theorem dX7_depth_226 : decode cX7_depth 226 = .ok (.istore 6, 2) := by decide +kernel
theorem dX7_depth_228 : decode cX7_depth 228 = .ok (.iload 6, 2) := by decide +kernel
theorem dX7_depth_230 : decode cX7_depth 230 = .ok (.aload_n 0, 1) := by decide +kernel
theorem dX7_depth_231 : decode cX7_depth 231 = .ok (.getfield 168, 3) := by decide +kernel
theorem dX7_depth_234 : decode cX7_depth 234 = .ok (.if_icmp .ge 43, 3) := by decide +kernel
theorem dX7_depth_237 : decode cX7_depth 237 = .ok (.aload_n 0, 1) := by decide +kernel
theorem dX7_depth_238 : decode cX7_depth 238 = .ok (.getfield 73, 3) := by decide +kernel
theorem dX7_depth_241 : decode cX7_depth 241 = .ok (.iload 6, 2) := by decide +kernel
theorem dX7_depth_243 : decode cX7_depth 243 = .ok (.aload_n 0, 1) := by decide +kernel
theorem dX7_depth_244 : decode cX7_depth 244 = .ok (.getfield 73, 3) := by decide +kernel
theorem dX7_depth_247 : decode cX7_depth 247 = .ok (.iload 6, 2) := by decide +kernel
theorem dX7_depth_249 : decode cX7_depth 249 = .ok (.baload, 1) := by decide +kernel
theorem dX7_depth_250 : decode cX7_depth 250 = .ok (.ifCond .eq 19, 3) := by decide +kernel
theorem dX7_depth_253 : decode cX7_depth 253 = .ok (.aload_n 0, 1) := by decide +kernel
theorem dX7_depth_254 : decode cX7_depth 254 = .ok (.getfield 66, 3) := by decide +kernel
theorem dX7_depth_257 : decode cX7_depth 257 = .ok (.iload 6, 2) := by decide +kernel
theorem dX7_depth_259 : decode cX7_depth 259 = .ok (.iaload, 1) := by decide +kernel
theorem dX7_depth_260 : decode cX7_depth 260 = .ok (.iload 5, 2) := by decide +kernel
theorem dX7_depth_262 : decode cX7_depth 262 = .ok (.if_icmp .eq 7, 3) := by decide +kernel
theorem dX7_depth_265 : decode cX7_depth 265 = .ok (.iconst 1, 1) := by decide +kernel
theorem dX7_depth_266 : decode cX7_depth 266 = .ok (.goto 4, 3) := by decide +kernel
theorem dX7_depth_269 : decode cX7_depth 269 = .ok (.iconst 0, 1) := by decide +kernel
theorem dX7_depth_270 : decode cX7_depth 270 = .ok (.bastore, 1) := by decide +kernel
theorem dX7_depth_271 : decode cX7_depth 271 = .ok (.iinc 6 1, 3) := by decide +kernel
theorem dX7_depth_274 : decode cX7_depth 274 = .ok (.goto (-46), 3) := by decide +kernel
theorem dX7_depth_277 : decode cX7_depth 277 = .ok (.aload_n 0, 1) := by decide +kernel
theorem dX7_depth_278 : decode cX7_depth 278 = .ok (.getfield 70, 3) := by decide +kernel
theorem dX7_depth_281 : decode cX7_depth 281 = .ok (.iload 5, 2) := by decide +kernel
theorem dX7_depth_283 : decode cX7_depth 283 = .ok (.iconst 0, 1) := by decide +kernel
theorem dX7_depth_284 : decode cX7_depth 284 = .ok (.bastore, 1) := by decide +kernel
theorem dX7_depth_285 : decode cX7_depth 285 = .ok (.aload_n 0, 1) := by decide +kernel
theorem dX7_depth_286 : decode cX7_depth 286 = .ok (.dup, 1) := by decide +kernel
theorem dX7_depth_287 : decode cX7_depth 287 = .ok (.getfield 171, 3) := by decide +kernel
theorem dX7_depth_290 : decode cX7_depth 290 = .ok (.iconst 1, 1) := by decide +kernel
theorem dX7_depth_291 : decode cX7_depth 291 = .ok (.iadd, 1) := by decide +kernel
theorem dX7_depth_292 : decode cX7_depth 292 = .ok (.putfield 171, 3) := by decide +kernel
theorem dX7_depth_295 : decode cX7_depth 295 = .ok (.iconst 1, 1) := by decide +kernel
theorem dX7_depth_296 : decode cX7_depth 296 = .ok (.ireturn, 1) := by decide +kernel
theorem dX7_border_0 : decode cX7_border 0 = .ok (.iload_n 1, 1) := by decide +kernel
theorem dX7_border_1 : decode cX7_border 1 = .ok (.ifCond .lt 39, 3) := by decide +kernel
theorem dX7_border_4 : decode cX7_border 4 = .ok (.iload_n 1, 1) := by decide +kernel
theorem dX7_border_5 : decode cX7_border 5 = .ok (.iconst 3, 1) := by decide +kernel
theorem dX7_border_6 : decode cX7_border 6 = .ok (.if_icmp .gt 34, 3) := by decide +kernel
theorem dX7_border_9 : decode cX7_border 9 = .ok (.iload_n 2, 1) := by decide +kernel
theorem dX7_border_10 : decode cX7_border 10 = .ok (.ifCond .lt 30, 3) := by decide +kernel
theorem dX7_border_13 : decode cX7_border 13 = .ok (.iload_n 2, 1) := by decide +kernel
theorem dX7_border_14 : decode cX7_border 14 = .ok (.bipush 7, 2) := by decide +kernel
theorem dX7_border_16 : decode cX7_border 16 = .ok (.if_icmp .gt 24, 3) := by decide +kernel
theorem dX7_border_19 : decode cX7_border 19 = .ok (.dload_n 3, 1) := by decide +kernel
theorem dX7_border_20 : decode cX7_border 20 = .ok (.dconst 0, 1) := by decide +kernel
theorem dX7_border_21 : decode cX7_border 21 = .ok (.ldc2_w 174, 3) := by decide +kernel
theorem dX7_border_24 : decode cX7_border 24 = .ok (.invokestatic 152, 3) := by decide +kernel
theorem dX7_border_27 : decode cX7_border 27 = .ok (.ifCond .eq 13, 3) := by decide +kernel
theorem dX7_border_30 : decode cX7_border 30 = .ok (.dload 5, 2) := by decide +kernel
theorem dX7_border_32 : decode cX7_border 32 = .ok (.dconst 0, 1) := by decide +kernel
theorem dX7_border_33 : decode cX7_border 33 = .ok (.dconst 1, 1) := by decide +kernel
theorem dX7_border_34 : decode cX7_border 34 = .ok (.invokestatic 152, 3) := by decide +kernel
theorem dX7_border_37 : decode cX7_border 37 = .ok (.ifCond .ne 5, 3) := by decide +kernel
theorem dX7_border_40 : decode cX7_border 40 = .ok (.iconst 0, 1) := by decide +kernel
theorem dX7_border_41 : decode cX7_border 41 = .ok (.ireturn, 1) := by decide +kernel
theorem dX7_border_42 : decode cX7_border 42 = .ok (.aload_n 0, 1) := by decide +kernel
theorem dX7_border_43 : decode cX7_border 43 = .ok (.getfield 51, 3) := by decide +kernel
theorem dX7_border_46 : decode cX7_border 46 = .ok (.bipush 8, 2) := by decide +kernel
theorem dX7_border_48 : decode cX7_border 48 = .ok (.iload_n 1, 1) := by decide +kernel
theorem dX7_border_49 : decode cX7_border 49 = .ok (.imul, 1) := by decide +kernel
theorem dX7_border_50 : decode cX7_border 50 = .ok (.iload_n 2, 1) := by decide +kernel
theorem dX7_border_51 : decode cX7_border 51 = .ok (.iadd, 1) := by decide +kernel
theorem dX7_border_52 : decode cX7_border 52 = .ok (.iconst 1, 1) := by decide +kernel
theorem dX7_border_53 : decode cX7_border 53 = .ok (.bastore, 1) := by decide +kernel
theorem dX7_border_54 : decode cX7_border 54 = .ok (.aload_n 0, 1) := by decide +kernel
theorem dX7_border_55 : decode cX7_border 55 = .ok (.getfield 54, 3) := by decide +kernel
theorem dX7_border_58 : decode cX7_border 58 = .ok (.bipush 8, 2) := by decide +kernel
theorem dX7_border_60 : decode cX7_border 60 = .ok (.iload_n 1, 1) := by decide +kernel
theorem dX7_border_61 : decode cX7_border 61 = .ok (.imul, 1) := by decide +kernel
theorem dX7_border_62 : decode cX7_border 62 = .ok (.iload_n 2, 1) := by decide +kernel
theorem dX7_border_63 : decode cX7_border 63 = .ok (.iadd, 1) := by decide +kernel
theorem dX7_border_64 : decode cX7_border 64 = .ok (.dload_n 3, 1) := by decide +kernel
theorem dX7_border_65 : decode cX7_border 65 = .ok (.dastore, 1) := by decide +kernel
theorem dX7_border_66 : decode cX7_border 66 = .ok (.aload_n 0, 1) := by decide +kernel
theorem dX7_border_67 : decode cX7_border 67 = .ok (.getfield 57, 3) := by decide +kernel
theorem dX7_border_70 : decode cX7_border 70 = .ok (.bipush 8, 2) := by decide +kernel
theorem dX7_border_72 : decode cX7_border 72 = .ok (.iload_n 1, 1) := by decide +kernel
theorem dX7_border_73 : decode cX7_border 73 = .ok (.imul, 1) := by decide +kernel
theorem dX7_border_74 : decode cX7_border 74 = .ok (.iload_n 2, 1) := by decide +kernel
theorem dX7_border_75 : decode cX7_border 75 = .ok (.iadd, 1) := by decide +kernel
theorem dX7_border_76 : decode cX7_border 76 = .ok (.dload 5, 2) := by decide +kernel
theorem dX7_border_78 : decode cX7_border 78 = .ok (.dastore, 1) := by decide +kernel
theorem dX7_border_79 : decode cX7_border 79 = .ok (.iconst 1, 1) := by decide +kernel
theorem dX7_border_80 : decode cX7_border 80 = .ok (.ireturn, 1) := by decide +kernel
theorem dX7_wind_0 : decode cX7_wind 0 = .ok (.iload_n 1, 1) := by decide +kernel
theorem dX7_wind_1 : decode cX7_wind 1 = .ok (.ifCond .lt 36, 3) := by decide +kernel
theorem dX7_wind_4 : decode cX7_wind 4 = .ok (.iload_n 1, 1) := by decide +kernel
theorem dX7_wind_5 : decode cX7_wind 5 = .ok (.bipush 23, 2) := by decide +kernel
theorem dX7_wind_7 : decode cX7_wind 7 = .ok (.if_icmp .gt 30, 3) := by decide +kernel
theorem dX7_wind_10 : decode cX7_wind 10 = .ok (.dload_n 2, 1) := by decide +kernel
theorem dX7_wind_11 : decode cX7_wind 11 = .ok (.ldc2_w 176, 3) := by decide +kernel
theorem dX7_wind_14 : decode cX7_wind 14 = .ok (.ldc2_w 178, 3) := by decide +kernel
theorem dX7_wind_17 : decode cX7_wind 17 = .ok (.invokestatic 152, 3) := by decide +kernel
theorem dX7_wind_20 : decode cX7_wind 20 = .ok (.ifCond .eq 17, 3) := by decide +kernel
theorem dX7_wind_23 : decode cX7_wind 23 = .ok (.dload 4, 2) := by decide +kernel
theorem dX7_wind_25 : decode cX7_wind 25 = .ok (.ldc2_w 176, 3) := by decide +kernel
theorem dX7_wind_28 : decode cX7_wind 28 = .ok (.ldc2_w 178, 3) := by decide +kernel
theorem dX7_wind_31 : decode cX7_wind 31 = .ok (.invokestatic 152, 3) := by decide +kernel
theorem dX7_wind_34 : decode cX7_wind 34 = .ok (.ifCond .ne 5, 3) := by decide +kernel
theorem dX7_wind_37 : decode cX7_wind 37 = .ok (.iconst 0, 1) := by decide +kernel
theorem dX7_wind_38 : decode cX7_wind 38 = .ok (.ireturn, 1) := by decide +kernel
theorem dX7_wind_39 : decode cX7_wind 39 = .ok (.aload_n 0, 1) := by decide +kernel
theorem dX7_wind_40 : decode cX7_wind 40 = .ok (.getfield 60, 3) := by decide +kernel
theorem dX7_wind_43 : decode cX7_wind 43 = .ok (.iload_n 1, 1) := by decide +kernel
theorem dX7_wind_44 : decode cX7_wind 44 = .ok (.dload_n 2, 1) := by decide +kernel
theorem dX7_wind_45 : decode cX7_wind 45 = .ok (.dastore, 1) := by decide +kernel
theorem dX7_wind_46 : decode cX7_wind 46 = .ok (.aload_n 0, 1) := by decide +kernel
theorem dX7_wind_47 : decode cX7_wind 47 = .ok (.getfield 63, 3) := by decide +kernel
theorem dX7_wind_50 : decode cX7_wind 50 = .ok (.iload_n 1, 1) := by decide +kernel
theorem dX7_wind_51 : decode cX7_wind 51 = .ok (.dload 4, 2) := by decide +kernel
theorem dX7_wind_53 : decode cX7_wind 53 = .ok (.dastore, 1) := by decide +kernel
theorem dX7_wind_54 : decode cX7_wind 54 = .ok (.iconst 1, 1) := by decide +kernel
theorem dX7_wind_55 : decode cX7_wind 55 = .ok (.ireturn, 1) := by decide +kernel
theorem dX7_river_0 : decode cX7_river 0 = .ok (.aload_n 0, 1) := by decide +kernel
theorem dX7_river_1 : decode cX7_river 1 = .ok (.iload_n 1, 1) := by decide +kernel
theorem dX7_river_2 : decode cX7_river 2 = .ok (.iload_n 2, 1) := by decide +kernel
theorem dX7_river_3 : decode cX7_river 3 = .ok (.invokevirtual 139, 3) := by decide +kernel
theorem dX7_river_6 : decode cX7_river 6 = .ok (.ifCond .eq 14, 3) := by decide +kernel
theorem dX7_river_9 : decode cX7_river 9 = .ok (.dload_n 3, 1) := by decide +kernel
theorem dX7_river_10 : decode cX7_river 10 = .ok (.dconst 0, 1) := by decide +kernel
theorem dX7_river_11 : decode cX7_river 11 = .ok (.ldc2_w 150, 3) := by decide +kernel
theorem dX7_river_14 : decode cX7_river 14 = .ok (.invokestatic 152, 3) := by decide +kernel
theorem dX7_river_17 : decode cX7_river 17 = .ok (.ifCond .ne 5, 3) := by decide +kernel
theorem dX7_river_20 : decode cX7_river 20 = .ok (.iconst 0, 1) := by decide +kernel
theorem dX7_river_21 : decode cX7_river 21 = .ok (.ireturn, 1) := by decide +kernel
theorem dX7_river_22 : decode cX7_river 22 = .ok (.aload_n 0, 1) := by decide +kernel
theorem dX7_river_23 : decode cX7_river 23 = .ok (.getfield 17, 3) := by decide +kernel
theorem dX7_river_26 : decode cX7_river 26 = .ok (.iload_n 1, 1) := by decide +kernel
theorem dX7_river_27 : decode cX7_river 27 = .ok (.iload_n 2, 1) := by decide +kernel
theorem dX7_river_28 : decode cX7_river 28 = .ok (.invokestatic 135, 3) := by decide +kernel
theorem dX7_river_31 : decode cX7_river 31 = .ok (.dload_n 3, 1) := by decide +kernel
theorem dX7_river_32 : decode cX7_river 32 = .ok (.dastore, 1) := by decide +kernel
theorem dX7_river_33 : decode cX7_river 33 = .ok (.iconst 1, 1) := by decide +kernel
theorem dX7_river_34 : decode cX7_river 34 = .ok (.ireturn, 1) := by decide +kernel
theorem dX7_saw_0 : decode cX7_saw 0 = .ok (.dload_n 0, 1) := by decide +kernel
theorem dX7_saw_1 : decode cX7_saw 1 = .ok (.dload_n 0, 1) := by decide +kernel
theorem dX7_saw_2 : decode cX7_saw 2 = .ok (.d2l, 1) := by decide +kernel
theorem dX7_saw_3 : decode cX7_saw 3 = .ok (.l2d, 1) := by decide +kernel
theorem dX7_saw_4 : decode cX7_saw 4 = .ok (.dsub, 1) := by decide +kernel
theorem dX7_saw_5 : decode cX7_saw 5 = .ok (.dstore_n 2, 1) := by decide +kernel
theorem dX7_saw_6 : decode cX7_saw 6 = .ok (.dload_n 2, 1) := by decide +kernel
theorem dX7_saw_7 : decode cX7_saw 7 = .ok (.ldc2_w 180, 3) := by decide +kernel
theorem dX7_saw_10 : decode cX7_saw 10 = .ok (.dcmp .g, 1) := by decide +kernel
theorem dX7_saw_11 : decode cX7_saw 11 = .ok (.ifCond .ge 13, 3) := by decide +kernel
theorem dX7_saw_14 : decode cX7_saw 14 = .ok (.dconst 1, 1) := by decide +kernel
theorem dX7_saw_15 : decode cX7_saw 15 = .ok (.ldc2_w 182, 3) := by decide +kernel
theorem dX7_saw_18 : decode cX7_saw 18 = .ok (.dload_n 2, 1) := by decide +kernel
theorem dX7_saw_19 : decode cX7_saw 19 = .ok (.dmul, 1) := by decide +kernel
theorem dX7_saw_20 : decode cX7_saw 20 = .ok (.dsub, 1) := by decide +kernel
theorem dX7_saw_21 : decode cX7_saw 21 = .ok (.goto 12, 3) := by decide +kernel
theorem dX7_saw_24 : decode cX7_saw 24 = .ok (.ldc2_w 182, 3) := by decide +kernel
theorem dX7_saw_27 : decode cX7_saw 27 = .ok (.dload_n 2, 1) := by decide +kernel
theorem dX7_saw_28 : decode cX7_saw 28 = .ok (.dmul, 1) := by decide +kernel
theorem dX7_saw_29 : decode cX7_saw 29 = .ok (.ldc2_w 184, 3) := by decide +kernel
theorem dX7_saw_32 : decode cX7_saw 32 = .ok (.dsub, 1) := by decide +kernel
theorem dX7_saw_33 : decode cX7_saw 33 = .ok (.dreturn, 1) := by decide +kernel
theorem dX7_outside_0 : decode cX7_outside 0 = .ok (.dconst 0, 1) := by decide +kernel
theorem dX7_outside_1 : decode cX7_outside 1 = .ok (.dstore_n 2, 1) := by decide +kernel
theorem dX7_outside_2 : decode cX7_outside 2 = .ok (.iconst 0, 1) := by decide +kernel
theorem dX7_outside_3 : decode cX7_outside 3 = .ok (.istore 4, 2) := by decide +kernel
theorem dX7_outside_5 : decode cX7_outside 5 = .ok (.iload 4, 2) := by decide +kernel
theorem dX7_outside_7 : decode cX7_outside 7 = .ok (.bipush 8, 2) := by decide +kernel
theorem dX7_outside_9 : decode cX7_outside 9 = .ok (.if_icmp .ge 70, 3) := by decide +kernel
theorem dX7_outside_12 : decode cX7_outside 12 = .ok (.aload_n 0, 1) := by decide +kernel
theorem dX7_outside_13 : decode cX7_outside 13 = .ok (.getfield 51, 3) := by decide +kernel
theorem dX7_outside_16 : decode cX7_outside 16 = .ok (.bipush 8, 2) := by decide +kernel
theorem dX7_outside_18 : decode cX7_outside 18 = .ok (.iload_n 1, 1) := by decide +kernel
theorem dX7_outside_19 : decode cX7_outside 19 = .ok (.imul, 1) := by decide +kernel
theorem dX7_outside_20 : decode cX7_outside 20 = .ok (.iload 4, 2) := by decide +kernel
theorem dX7_outside_22 : decode cX7_outside 22 = .ok (.iadd, 1) := by decide +kernel
theorem dX7_outside_23 : decode cX7_outside 23 = .ok (.baload, 1) := by decide +kernel
theorem dX7_outside_24 : decode cX7_outside 24 = .ok (.ifCond .eq 49, 3) := by decide +kernel
theorem dX7_outside_27 : decode cX7_outside 27 = .ok (.dload_n 2, 1) := by decide +kernel
theorem dX7_outside_28 : decode cX7_outside 28 = .ok (.aload_n 0, 1) := by decide +kernel
theorem dX7_outside_29 : decode cX7_outside 29 = .ok (.getfield 54, 3) := by decide +kernel
theorem dX7_outside_32 : decode cX7_outside 32 = .ok (.bipush 8, 2) := by decide +kernel
theorem dX7_outside_34 : decode cX7_outside 34 = .ok (.iload_n 1, 1) := by decide +kernel
theorem dX7_outside_35 : decode cX7_outside 35 = .ok (.imul, 1) := by decide +kernel
theorem dX7_outside_36 : decode cX7_outside 36 = .ok (.iload 4, 2) := by decide +kernel
theorem dX7_outside_38 : decode cX7_outside 38 = .ok (.iadd, 1) := by decide +kernel
theorem dX7_outside_39 : decode cX7_outside 39 = .ok (.daload, 1) := by decide +kernel
theorem dX7_outside_40 : decode cX7_outside 40 = .ok (.aload_n 0, 1) := by decide +kernel
theorem dX7_outside_41 : decode cX7_outside 41 = .ok (.getfield 186, 3) := by decide +kernel
theorem dX7_outside_44 : decode cX7_outside 44 = .ok (.ldc2_w 190, 3) := by decide +kernel
theorem dX7_outside_47 : decode cX7_outside 47 = .ok (.iload 4, 2) := by decide +kernel
theorem dX7_outside_49 : decode cX7_outside 49 = .ok (.iconst 1, 1) := by decide +kernel
theorem dX7_outside_50 : decode cX7_outside 50 = .ok (.iadd, 1) := by decide +kernel
theorem dX7_outside_51 : decode cX7_outside 51 = .ok (.i2d, 1) := by decide +kernel
theorem dX7_outside_52 : decode cX7_outside 52 = .ok (.dmul, 1) := by decide +kernel
theorem dX7_outside_53 : decode cX7_outside 53 = .ok (.ddiv, 1) := by decide +kernel
theorem dX7_outside_54 : decode cX7_outside 54 = .ok (.aload_n 0, 1) := by decide +kernel
theorem dX7_outside_55 : decode cX7_outside 55 = .ok (.getfield 57, 3) := by decide +kernel
theorem dX7_outside_58 : decode cX7_outside 58 = .ok (.bipush 8, 2) := by decide +kernel
theorem dX7_outside_60 : decode cX7_outside 60 = .ok (.iload_n 1, 1) := by decide +kernel
theorem dX7_outside_61 : decode cX7_outside 61 = .ok (.imul, 1) := by decide +kernel
theorem dX7_outside_62 : decode cX7_outside 62 = .ok (.iload 4, 2) := by decide +kernel
theorem dX7_outside_64 : decode cX7_outside 64 = .ok (.iadd, 1) := by decide +kernel
theorem dX7_outside_65 : decode cX7_outside 65 = .ok (.daload, 1) := by decide +kernel
theorem dX7_outside_66 : decode cX7_outside 66 = .ok (.dadd, 1) := by decide +kernel
theorem dX7_outside_67 : decode cX7_outside 67 = .ok (.invokestatic 192, 3) := by decide +kernel
theorem dX7_outside_70 : decode cX7_outside 70 = .ok (.dmul, 1) := by decide +kernel
theorem dX7_outside_71 : decode cX7_outside 71 = .ok (.dadd, 1) := by decide +kernel
theorem dX7_outside_72 : decode cX7_outside 72 = .ok (.dstore_n 2, 1) := by decide +kernel
theorem dX7_outside_73 : decode cX7_outside 73 = .ok (.iinc 4 1, 3) := by decide +kernel
theorem dX7_outside_76 : decode cX7_outside 76 = .ok (.goto (-71), 3) := by decide +kernel
theorem dX7_outside_79 : decode cX7_outside 79 = .ok (.dload_n 2, 1) := by decide +kernel
theorem dX7_outside_80 : decode cX7_outside 80 = .ok (.dreturn, 1) := by decide +kernel
theorem dX7_levelOf_0 : decode cX7_levelOf 0 = .ok (.aload_n 0, 1) := by decide +kernel
theorem dX7_levelOf_1 : decode cX7_levelOf 1 = .ok (.getfield 20, 3) := by decide +kernel
theorem dX7_levelOf_4 : decode cX7_levelOf 4 = .ok (.iload_n 1, 1) := by decide +kernel
theorem dX7_levelOf_5 : decode cX7_levelOf 5 = .ok (.laload, 1) := by decide +kernel
theorem dX7_levelOf_6 : decode cX7_levelOf 6 = .ok (.l2d, 1) := by decide +kernel
theorem dX7_levelOf_7 : decode cX7_levelOf 7 = .ok (.ldc2_w 196, 3) := by decide +kernel
theorem dX7_levelOf_10 : decode cX7_levelOf 10 = .ok (.dmul, 1) := by decide +kernel
theorem dX7_levelOf_11 : decode cX7_levelOf 11 = .ok (.aload_n 0, 1) := by decide +kernel
theorem dX7_levelOf_12 : decode cX7_levelOf 12 = .ok (.getfield 13, 3) := by decide +kernel
theorem dX7_levelOf_15 : decode cX7_levelOf 15 = .ok (.iload_n 1, 1) := by decide +kernel
theorem dX7_levelOf_16 : decode cX7_levelOf 16 = .ok (.daload, 1) := by decide +kernel
theorem dX7_levelOf_17 : decode cX7_levelOf 17 = .ok (.dsub, 1) := by decide +kernel
theorem dX7_levelOf_18 : decode cX7_levelOf 18 = .ok (.dreturn, 1) := by decide +kernel
theorem dX7_size_0 : decode cX7_size 0 = .ok (.dload_n 0, 1) := by decide +kernel
theorem dX7_size_1 : decode cX7_size 1 = .ok (.dconst 0, 1) := by decide +kernel
theorem dX7_size_2 : decode cX7_size 2 = .ok (.dcmp .g, 1) := by decide +kernel
theorem dX7_size_3 : decode cX7_size 3 = .ok (.ifCond .ge 9, 3) := by decide +kernel
theorem dX7_size_6 : decode cX7_size 6 = .ok (.dconst 0, 1) := by decide +kernel
theorem dX7_size_7 : decode cX7_size 7 = .ok (.dload_n 0, 1) := by decide +kernel
theorem dX7_size_8 : decode cX7_size 8 = .ok (.dsub, 1) := by decide +kernel
theorem dX7_size_9 : decode cX7_size 9 = .ok (.goto 4, 3) := by decide +kernel
theorem dX7_size_12 : decode cX7_size 12 = .ok (.dload_n 0, 1) := by decide +kernel
theorem dX7_size_13 : decode cX7_size 13 = .ok (.dreturn, 1) := by decide +kernel
theorem dX7_flow_0 : decode cX7_flow 0 = .ok (.iload_n 3, 1) := by decide +kernel
theorem dX7_flow_1 : decode cX7_flow 1 = .ok (.iconst (-1), 1) := by decide +kernel
theorem dX7_flow_2 : decode cX7_flow 2 = .ok (.if_icmp .ne 8, 3) := by decide +kernel
theorem dX7_flow_5 : decode cX7_flow 5 = .ok (.dload 5, 2) := by decide +kernel
theorem dX7_flow_7 : decode cX7_flow 7 = .ok (.goto 8, 3) := by decide +kernel
theorem dX7_flow_10 : decode cX7_flow 10 = .ok (.aload_n 0, 1) := by decide +kernel
theorem dX7_flow_11 : decode cX7_flow 11 = .ok (.iload_n 3, 1) := by decide +kernel
theorem dX7_flow_12 : decode cX7_flow 12 = .ok (.invokevirtual 198, 3) := by decide +kernel
theorem dX7_flow_15 : decode cX7_flow 15 = .ok (.iload 4, 2) := by decide +kernel
theorem dX7_flow_17 : decode cX7_flow 17 = .ok (.iconst (-1), 1) := by decide +kernel
theorem dX7_flow_18 : decode cX7_flow 18 = .ok (.if_icmp .ne 8, 3) := by decide +kernel
theorem dX7_flow_21 : decode cX7_flow 21 = .ok (.dload 5, 2) := by decide +kernel
theorem dX7_flow_23 : decode cX7_flow 23 = .ok (.goto 9, 3) := by decide +kernel
theorem dX7_flow_26 : decode cX7_flow 26 = .ok (.aload_n 0, 1) := by decide +kernel
theorem dX7_flow_27 : decode cX7_flow 27 = .ok (.iload 4, 2) := by decide +kernel
theorem dX7_flow_29 : decode cX7_flow 29 = .ok (.invokevirtual 198, 3) := by decide +kernel
theorem dX7_flow_32 : decode cX7_flow 32 = .ok (.dsub, 1) := by decide +kernel
theorem dX7_flow_33 : decode cX7_flow 33 = .ok (.dstore 9, 2) := by decide +kernel
theorem dX7_flow_35 : decode cX7_flow 35 = .ok (.aload_n 0, 1) := by decide +kernel
theorem dX7_flow_36 : decode cX7_flow 36 = .ok (.getfield 186, 3) := by decide +kernel
theorem dX7_flow_39 : decode cX7_flow 39 = .ok (.ldc2_w 190, 3) := by decide +kernel
theorem dX7_flow_42 : decode cX7_flow 42 = .ok (.ddiv, 1) := by decide +kernel
theorem dX7_flow_43 : decode cX7_flow 43 = .ok (.d2l, 1) := by decide +kernel
theorem dX7_flow_44 : decode cX7_flow 44 = .ok (.ldc2_w 202, 3) := by decide +kernel
theorem dX7_flow_47 : decode cX7_flow 47 = .ok (.lrem, 1) := by decide +kernel
theorem dX7_flow_48 : decode cX7_flow 48 = .ok (.l2i, 1) := by decide +kernel
theorem dX7_flow_49 : decode cX7_flow 49 = .ok (.istore 11, 2) := by decide +kernel
theorem dX7_flow_51 : decode cX7_flow 51 = .ok (.iload_n 2, 1) := by decide +kernel
theorem dX7_flow_52 : decode cX7_flow 52 = .ok (.ifCond .ne 13, 3) := by decide +kernel
theorem dX7_flow_55 : decode cX7_flow 55 = .ok (.aload_n 0, 1) := by decide +kernel
theorem dX7_flow_56 : decode cX7_flow 56 = .ok (.getfield 60, 3) := by decide +kernel
theorem dX7_flow_59 : decode cX7_flow 59 = .ok (.iload 11, 2) := by decide +kernel
theorem dX7_flow_61 : decode cX7_flow 61 = .ok (.daload, 1) := by decide +kernel
theorem dX7_flow_62 : decode cX7_flow 62 = .ok (.goto 10, 3) := by decide +kernel
theorem dX7_flow_65 : decode cX7_flow 65 = .ok (.aload_n 0, 1) := by decide +kernel
theorem dX7_flow_66 : decode cX7_flow 66 = .ok (.getfield 63, 3) := by decide +kernel
theorem dX7_flow_69 : decode cX7_flow 69 = .ok (.iload 11, 2) := by decide +kernel
theorem dX7_flow_71 : decode cX7_flow 71 = .ok (.daload, 1) := by decide +kernel
theorem dX7_flow_72 : decode cX7_flow 72 = .ok (.dstore 12, 2) := by decide +kernel
theorem dX7_flow_74 : decode cX7_flow 74 = .ok (.aload_n 0, 1) := by decide +kernel
theorem dX7_flow_75 : decode cX7_flow 75 = .ok (.getfield 33, 3) := by decide +kernel
theorem dX7_flow_78 : decode cX7_flow 78 = .ok (.iload_n 1, 1) := by decide +kernel
theorem dX7_flow_79 : decode cX7_flow 79 = .ok (.daload, 1) := by decide +kernel
theorem dX7_flow_80 : decode cX7_flow 80 = .ok (.dstore 14, 2) := by decide +kernel
theorem dX7_flow_82 : decode cX7_flow 82 = .ok (.dload 14, 2) := by decide +kernel
theorem dX7_flow_84 : decode cX7_flow 84 = .ok (.dload 7, 2) := by decide +kernel
theorem dX7_flow_86 : decode cX7_flow 86 = .ok (.ldc2_w 204, 3) := by decide +kernel
theorem dX7_flow_89 : decode cX7_flow 89 = .ok (.dload 9, 2) := by decide +kernel
theorem dX7_flow_91 : decode cX7_flow 91 = .ok (.dmul, 1) := by decide +kernel
theorem dX7_flow_92 : decode cX7_flow 92 = .ok (.ldc2_w 206, 3) := by decide +kernel
theorem dX7_flow_95 : decode cX7_flow 95 = .ok (.dload 12, 2) := by decide +kernel
theorem dX7_flow_97 : decode cX7_flow 97 = .ok (.dmul, 1) := by decide +kernel
theorem dX7_flow_98 : decode cX7_flow 98 = .ok (.dadd, 1) := by decide +kernel
theorem dX7_flow_99 : decode cX7_flow 99 = .ok (.dmul, 1) := by decide +kernel
theorem dX7_flow_100 : decode cX7_flow 100 = .ok (.dadd, 1) := by decide +kernel
theorem dX7_flow_101 : decode cX7_flow 101 = .ok (.dconst 1, 1) := by decide +kernel
theorem dX7_flow_102 : decode cX7_flow 102 = .ok (.ldc2_w 208, 3) := by decide +kernel
theorem dX7_flow_105 : decode cX7_flow 105 = .ok (.dload 7, 2) := by decide +kernel
theorem dX7_flow_107 : decode cX7_flow 107 = .ok (.dmul, 1) := by decide +kernel
theorem dX7_flow_108 : decode cX7_flow 108 = .ok (.dload 14, 2) := by decide +kernel
theorem dX7_flow_110 : decode cX7_flow 110 = .ok (.invokestatic 210, 3) := by decide +kernel
theorem dX7_flow_113 : decode cX7_flow 113 = .ok (.dmul, 1) := by decide +kernel
theorem dX7_flow_114 : decode cX7_flow 114 = .ok (.dadd, 1) := by decide +kernel
theorem dX7_flow_115 : decode cX7_flow 115 = .ok (.ddiv, 1) := by decide +kernel
theorem dX7_flow_116 : decode cX7_flow 116 = .ok (.dstore 14, 2) := by decide +kernel
theorem dX7_flow_118 : decode cX7_flow 118 = .ok (.aload_n 0, 1) := by decide +kernel
theorem dX7_flow_119 : decode cX7_flow 119 = .ok (.getfield 33, 3) := by decide +kernel
theorem dX7_flow_122 : decode cX7_flow 122 = .ok (.iload_n 1, 1) := by decide +kernel
theorem dX7_flow_123 : decode cX7_flow 123 = .ok (.dload 14, 2) := by decide +kernel
theorem dX7_flow_125 : decode cX7_flow 125 = .ok (.dastore, 1) := by decide +kernel
theorem dX7_flow_126 : decode cX7_flow 126 = .ok (.iload_n 3, 1) := by decide +kernel
theorem dX7_flow_127 : decode cX7_flow 127 = .ok (.iconst (-1), 1) := by decide +kernel
theorem dX7_flow_128 : decode cX7_flow 128 = .ok (.if_icmp .ne 13, 3) := by decide +kernel
theorem dX7_flow_131 : decode cX7_flow 131 = .ok (.aload_n 0, 1) := by decide +kernel
theorem dX7_flow_132 : decode cX7_flow 132 = .ok (.getfield 20, 3) := by decide +kernel
theorem dX7_flow_135 : decode cX7_flow 135 = .ok (.iload 4, 2) := by decide +kernel
theorem dX7_flow_137 : decode cX7_flow 137 = .ok (.laload, 1) := by decide +kernel
theorem dX7_flow_138 : decode cX7_flow 138 = .ok (.goto 34, 3) := by decide +kernel
theorem dX7_flow_141 : decode cX7_flow 141 = .ok (.iload 4, 2) := by decide +kernel
theorem dX7_flow_143 : decode cX7_flow 143 = .ok (.iconst (-1), 1) := by decide +kernel
theorem dX7_flow_144 : decode cX7_flow 144 = .ok (.if_icmp .ne 12, 3) := by decide +kernel
theorem dX7_flow_147 : decode cX7_flow 147 = .ok (.aload_n 0, 1) := by decide +kernel
theorem dX7_flow_148 : decode cX7_flow 148 = .ok (.getfield 20, 3) := by decide +kernel
theorem dX7_flow_151 : decode cX7_flow 151 = .ok (.iload_n 3, 1) := by decide +kernel
theorem dX7_flow_152 : decode cX7_flow 152 = .ok (.laload, 1) := by decide +kernel
theorem dX7_flow_153 : decode cX7_flow 153 = .ok (.goto 19, 3) := by decide +kernel
theorem dX7_flow_156 : decode cX7_flow 156 = .ok (.aload_n 0, 1) := by decide +kernel
theorem dX7_flow_157 : decode cX7_flow 157 = .ok (.getfield 20, 3) := by decide +kernel
theorem dX7_flow_160 : decode cX7_flow 160 = .ok (.iload_n 3, 1) := by decide +kernel
theorem dX7_flow_161 : decode cX7_flow 161 = .ok (.laload, 1) := by decide +kernel
theorem dX7_flow_162 : decode cX7_flow 162 = .ok (.aload_n 0, 1) := by decide +kernel
theorem dX7_flow_163 : decode cX7_flow 163 = .ok (.getfield 20, 3) := by decide +kernel
theorem dX7_flow_166 : decode cX7_flow 166 = .ok (.iload 4, 2) := by decide +kernel
theorem dX7_flow_168 : decode cX7_flow 168 = .ok (.laload, 1) := by decide +kernel
theorem dX7_flow_169 : decode cX7_flow 169 = .ok (.invokestatic 213, 3) := by decide +kernel
theorem dX7_flow_172 : decode cX7_flow 172 = .ok (.lstore 16, 2) := by decide +kernel
theorem dX7_flow_174 : decode cX7_flow 174 = .ok (.dload 14, 2) := by decide +kernel
theorem dX7_flow_176 : decode cX7_flow 176 = .ok (.dload 7, 2) := by decide +kernel
theorem dX7_flow_178 : decode cX7_flow 178 = .ok (.dmul, 1) := by decide +kernel
theorem dX7_flow_179 : decode cX7_flow 179 = .ok (.lload 16, 2) := by decide +kernel
theorem dX7_flow_181 : decode cX7_flow 181 = .ok (.l2d, 1) := by decide +kernel
theorem dX7_flow_182 : decode cX7_flow 182 = .ok (.ldc2_w 196, 3) := by decide +kernel
theorem dX7_flow_185 : decode cX7_flow 185 = .ok (.dmul, 1) := by decide +kernel
theorem dX7_flow_186 : decode cX7_flow 186 = .ok (.dmul, 1) := by decide +kernel
theorem dX7_flow_187 : decode cX7_flow 187 = .ok (.d2l, 1) := by decide +kernel
theorem dX7_flow_188 : decode cX7_flow 188 = .ok (.lstore 18, 2) := by decide +kernel
theorem dX7_flow_190 : decode cX7_flow 190 = .ok (.lload 18, 2) := by decide +kernel
theorem dX7_flow_192 : decode cX7_flow 192 = .ok (.lconst 0, 1) := by decide +kernel
theorem dX7_flow_193 : decode cX7_flow 193 = .ok (.lcmp, 1) := by decide +kernel
theorem dX7_flow_194 : decode cX7_flow 194 = .ok (.ifCond .le 7, 3) := by decide +kernel
theorem dX7_flow_197 : decode cX7_flow 197 = .ok (.iload_n 3, 1) := by decide +kernel
theorem dX7_flow_198 : decode cX7_flow 198 = .ok (.goto 5, 3) := by decide +kernel
theorem dX7_flow_201 : decode cX7_flow 201 = .ok (.iload 4, 2) := by decide +kernel
theorem dX7_flow_203 : decode cX7_flow 203 = .ok (.istore 20, 2) := by decide +kernel
theorem dX7_flow_205 : decode cX7_flow 205 = .ok (.iload 20, 2) := by decide +kernel
theorem dX7_flow_207 : decode cX7_flow 207 = .ok (.iconst (-1), 1) := by decide +kernel
theorem dX7_flow_208 : decode cX7_flow 208 = .ok (.if_icmp .eq 66, 3) := by decide +kernel
theorem dX7_flow_211 : decode cX7_flow 211 = .ok (.aload_n 0, 1) := by decide +kernel
theorem dX7_flow_212 : decode cX7_flow 212 = .ok (.getfield 20, 3) := by decide +kernel
theorem dX7_flow_215 : decode cX7_flow 215 = .ok (.iload 20, 2) := by decide +kernel
theorem dX7_flow_217 : decode cX7_flow 217 = .ok (.laload, 1) := by decide +kernel
theorem dX7_flow_218 : decode cX7_flow 218 = .ok (.ldc2_w 219, 3) := by decide +kernel
theorem dX7_flow_221 : decode cX7_flow 221 = .ok (.ldiv, 1) := by decide +kernel
theorem dX7_flow_222 : decode cX7_flow 222 = .ok (.lstore 21, 2) := by decide +kernel
theorem dX7_flow_224 : decode cX7_flow 224 = .ok (.aload_n 0, 1) := by decide +kernel
theorem dX7_flow_225 : decode cX7_flow 225 = .ok (.getfield 20, 3) := by decide +kernel
theorem dX7_flow_228 : decode cX7_flow 228 = .ok (.iload 20, 2) := by decide +kernel
theorem dX7_flow_230 : decode cX7_flow 230 = .ok (.laload, 1) := by decide +kernel
theorem dX7_flow_231 : decode cX7_flow 231 = .ok (.ldc2_w 221, 3) := by decide +kernel
theorem dX7_flow_234 : decode cX7_flow 234 = .ok (.lcmp, 1) := by decide +kernel
theorem dX7_flow_235 : decode cX7_flow 235 = .ok (.ifCond .ge 7, 3) := by decide +kernel
theorem dX7_flow_238 : decode cX7_flow 238 = .ok (.lconst 0, 1) := by decide +kernel
theorem dX7_flow_239 : decode cX7_flow 239 = .ok (.goto 33, 3) := by decide +kernel
theorem dX7_flow_242 : decode cX7_flow 242 = .ok (.lload 18, 2) := by decide +kernel
theorem dX7_flow_244 : decode cX7_flow 244 = .ok (.lload 21, 2) := by decide +kernel
theorem dX7_flow_246 : decode cX7_flow 246 = .ok (.lcmp, 1) := by decide +kernel
theorem dX7_flow_247 : decode cX7_flow 247 = .ok (.ifCond .le 8, 3) := by decide +kernel
theorem dX7_flow_250 : decode cX7_flow 250 = .ok (.lload 21, 2) := by decide +kernel
theorem dX7_flow_252 : decode cX7_flow 252 = .ok (.goto 20, 3) := by decide +kernel
theorem dX7_flow_255 : decode cX7_flow 255 = .ok (.lload 18, 2) := by decide +kernel
theorem dX7_flow_257 : decode cX7_flow 257 = .ok (.lload 21, 2) := by decide +kernel
theorem dX7_flow_259 : decode cX7_flow 259 = .ok (.lneg, 1) := by decide +kernel
theorem dX7_flow_260 : decode cX7_flow 260 = .ok (.lcmp, 1) := by decide +kernel
theorem dX7_flow_261 : decode cX7_flow 261 = .ok (.ifCond .ge 9, 3) := by decide +kernel
theorem dX7_flow_264 : decode cX7_flow 264 = .ok (.lload 21, 2) := by decide +kernel
theorem dX7_flow_266 : decode cX7_flow 266 = .ok (.lneg, 1) := by decide +kernel
theorem dX7_flow_267 : decode cX7_flow 267 = .ok (.goto 5, 3) := by decide +kernel
theorem dX7_flow_270 : decode cX7_flow 270 = .ok (.lload 18, 2) := by decide +kernel
theorem dX7_flow_272 : decode cX7_flow 272 = .ok (.lstore 18, 2) := by decide +kernel
theorem dX7_flow_274 : decode cX7_flow 274 = .ok (.aload_n 0, 1) := by decide +kernel
theorem dX7_flow_275 : decode cX7_flow 275 = .ok (.getfield 48, 3) := by decide +kernel
theorem dX7_flow_278 : decode cX7_flow 278 = .ok (.iload_n 1, 1) := by decide +kernel
theorem dX7_flow_279 : decode cX7_flow 279 = .ok (.lload 18, 2) := by decide +kernel
theorem dX7_flow_281 : decode cX7_flow 281 = .ok (.lastore, 1) := by decide +kernel
theorem dX7_flow_282 : decode cX7_flow 282 = .ok (.return_, 1) := by decide +kernel
theorem dX7_step_0 : decode cX7_step 0 = .ok (.iconst 0, 1) := by decide +kernel
theorem dX7_step_1 : decode cX7_step 1 = .ok (.istore_n 3, 1) := by decide +kernel
theorem dX7_step_2 : decode cX7_step 2 = .ok (.iload_n 3, 1) := by decide +kernel
theorem dX7_step_3 : decode cX7_step 3 = .ok (.sipush 336, 3) := by decide +kernel
theorem dX7_step_6 : decode cX7_step 6 = .ok (.if_icmp .ge 16, 3) := by decide +kernel
theorem dX7_step_9 : decode cX7_step 9 = .ok (.aload_n 0, 1) := by decide +kernel
theorem dX7_step_10 : decode cX7_step 10 = .ok (.getfield 48, 3) := by decide +kernel
theorem dX7_step_13 : decode cX7_step 13 = .ok (.iload_n 3, 1) := by decide +kernel
theorem dX7_step_14 : decode cX7_step 14 = .ok (.lconst 0, 1) := by decide +kernel
theorem dX7_step_15 : decode cX7_step 15 = .ok (.lastore, 1) := by decide +kernel
theorem dX7_step_16 : decode cX7_step 16 = .ok (.iinc 3 1, 3) := by decide +kernel
theorem dX7_step_19 : decode cX7_step 19 = .ok (.goto (-17), 3) := by decide +kernel
theorem dX7_step_22 : decode cX7_step 22 = .ok (.iconst 0, 1) := by decide +kernel
theorem dX7_step_23 : decode cX7_step 23 = .ok (.istore_n 3, 1) := by decide +kernel
theorem dX7_step_24 : decode cX7_step 24 = .ok (.iload_n 3, 1) := by decide +kernel
theorem dX7_step_25 : decode cX7_step 25 = .ok (.aload_n 0, 1) := by decide +kernel
theorem dX7_step_26 : decode cX7_step 26 = .ok (.getfield 125, 3) := by decide +kernel
theorem dX7_step_29 : decode cX7_step 29 = .ok (.if_icmp .ge 203, 3) := by decide +kernel
theorem dX7_step_32 : decode cX7_step 32 = .ok (.iconst 0, 1) := by decide +kernel
end
section
theorem dX7_step_33 : decode cX7_step 33 = .ok (.istore 4, 2) := by decide +kernel
theorem dX7_step_35 : decode cX7_step 35 = .ok (.iload 4, 2) := by decide +kernel
theorem dX7_step_37 : decode cX7_step 37 = .ok (.aload_n 0, 1) := by decide +kernel
theorem dX7_step_38 : decode cX7_step 38 = .ok (.getfield 121, 3) := by decide +kernel
theorem dX7_step_41 : decode cX7_step 41 = .ok (.if_icmp .ge 185, 3) := by decide +kernel
theorem dX7_step_44 : decode cX7_step 44 = .ok (.iconst 0, 1) := by decide +kernel
theorem dX7_step_45 : decode cX7_step 45 = .ok (.istore 5, 2) := by decide +kernel
theorem dX7_step_47 : decode cX7_step 47 = .ok (.iload 5, 2) := by decide +kernel
theorem dX7_step_49 : decode cX7_step 49 = .ok (.iconst 2, 1) := by decide +kernel
theorem dX7_step_50 : decode cX7_step 50 = .ok (.if_icmp .ge 72, 3) := by decide +kernel
theorem dX7_step_53 : decode cX7_step 53 = .ok (.aload_n 0, 1) := by decide +kernel
theorem dX7_step_54 : decode cX7_step 54 = .ok (.iload 4, 2) := by decide +kernel
theorem dX7_step_56 : decode cX7_step 56 = .ok (.iload_n 3, 1) := by decide +kernel
theorem dX7_step_57 : decode cX7_step 57 = .ok (.iload 5, 2) := by decide +kernel
theorem dX7_step_59 : decode cX7_step 59 = .ok (.invokevirtual 223, 3) := by decide +kernel
theorem dX7_step_62 : decode cX7_step 62 = .ok (.ifCond .eq 54, 3) := by decide +kernel
theorem dX7_step_65 : decode cX7_step 65 = .ok (.aload_n 0, 1) := by decide +kernel
theorem dX7_step_66 : decode cX7_step 66 = .ok (.sipush 144, 3) := by decide +kernel
theorem dX7_step_69 : decode cX7_step 69 = .ok (.iload 5, 2) := by decide +kernel
theorem dX7_step_71 : decode cX7_step 71 = .ok (.imul, 1) := by decide +kernel
theorem dX7_step_72 : decode cX7_step 72 = .ok (.iload 4, 2) := by decide +kernel
theorem dX7_step_74 : decode cX7_step 74 = .ok (.iload_n 3, 1) := by decide +kernel
theorem dX7_step_75 : decode cX7_step 75 = .ok (.invokestatic 135, 3) := by decide +kernel
theorem dX7_step_78 : decode cX7_step 78 = .ok (.iadd, 1) := by decide +kernel
theorem dX7_step_79 : decode cX7_step 79 = .ok (.iload 5, 2) := by decide +kernel
theorem dX7_step_81 : decode cX7_step 81 = .ok (.iload 4, 2) := by decide +kernel
theorem dX7_step_83 : decode cX7_step 83 = .ok (.iload_n 3, 1) := by decide +kernel
theorem dX7_step_84 : decode cX7_step 84 = .ok (.invokestatic 135, 3) := by decide +kernel
theorem dX7_step_87 : decode cX7_step 87 = .ok (.iload 5, 2) := by decide +kernel
theorem dX7_step_89 : decode cX7_step 89 = .ok (.ifCond .ne 14, 3) := by decide +kernel
theorem dX7_step_92 : decode cX7_step 92 = .ok (.iload 4, 2) := by decide +kernel
theorem dX7_step_94 : decode cX7_step 94 = .ok (.iconst 1, 1) := by decide +kernel
theorem dX7_step_95 : decode cX7_step 95 = .ok (.iadd, 1) := by decide +kernel
theorem dX7_step_96 : decode cX7_step 96 = .ok (.iload_n 3, 1) := by decide +kernel
theorem dX7_step_97 : decode cX7_step 97 = .ok (.invokestatic 135, 3) := by decide +kernel
theorem dX7_step_100 : decode cX7_step 100 = .ok (.goto 11, 3) := by decide +kernel
theorem dX7_step_103 : decode cX7_step 103 = .ok (.iload 4, 2) := by decide +kernel
theorem dX7_step_105 : decode cX7_step 105 = .ok (.iload_n 3, 1) := by decide +kernel
theorem dX7_step_106 : decode cX7_step 106 = .ok (.iconst 1, 1) := by decide +kernel
theorem dX7_step_107 : decode cX7_step 107 = .ok (.iadd, 1) := by decide +kernel
theorem dX7_step_108 : decode cX7_step 108 = .ok (.invokestatic 135, 3) := by decide +kernel
theorem dX7_step_111 : decode cX7_step 111 = .ok (.dconst 0, 1) := by decide +kernel
theorem dX7_step_112 : decode cX7_step 112 = .ok (.dload_n 1, 1) := by decide +kernel
theorem dX7_step_113 : decode cX7_step 113 = .ok (.invokevirtual 226, 3) := by decide +kernel
theorem dX7_step_116 : decode cX7_step 116 = .ok (.iinc 5 1, 3) := by decide +kernel
theorem dX7_step_119 : decode cX7_step 119 = .ok (.goto (-72), 3) := by decide +kernel
theorem dX7_step_122 : decode cX7_step 122 = .ok (.iconst 0, 1) := by decide +kernel
theorem dX7_step_123 : decode cX7_step 123 = .ok (.istore 5, 2) := by decide +kernel
theorem dX7_step_125 : decode cX7_step 125 = .ok (.iload 5, 2) := by decide +kernel
theorem dX7_step_127 : decode cX7_step 127 = .ok (.iconst 4, 1) := by decide +kernel
theorem dX7_step_128 : decode cX7_step 128 = .ok (.if_icmp .ge 92, 3) := by decide +kernel
theorem dX7_step_131 : decode cX7_step 131 = .ok (.aload_n 0, 1) := by decide +kernel
theorem dX7_step_132 : decode cX7_step 132 = .ok (.iload 4, 2) := by decide +kernel
theorem dX7_step_134 : decode cX7_step 134 = .ok (.iload_n 3, 1) := by decide +kernel
theorem dX7_step_135 : decode cX7_step 135 = .ok (.iload 5, 2) := by decide +kernel
theorem dX7_step_137 : decode cX7_step 137 = .ok (.invokevirtual 230, 3) := by decide +kernel
theorem dX7_step_140 : decode cX7_step 140 = .ok (.ifCond .eq 74, 3) := by decide +kernel
theorem dX7_step_143 : decode cX7_step 143 = .ok (.iload 5, 2) := by decide +kernel
theorem dX7_step_145 : decode cX7_step 145 = .ok (.ifCond .eq 9, 3) := by decide +kernel
theorem dX7_step_148 : decode cX7_step 148 = .ok (.iload 5, 2) := by decide +kernel
theorem dX7_step_150 : decode cX7_step 150 = .ok (.iconst 2, 1) := by decide +kernel
theorem dX7_step_151 : decode cX7_step 151 = .ok (.if_icmp .ne 7, 3) := by decide +kernel
theorem dX7_step_154 : decode cX7_step 154 = .ok (.iconst 1, 1) := by decide +kernel
theorem dX7_step_155 : decode cX7_step 155 = .ok (.goto 4, 3) := by decide +kernel
theorem dX7_step_158 : decode cX7_step 158 = .ok (.iconst 0, 1) := by decide +kernel
theorem dX7_step_159 : decode cX7_step 159 = .ok (.istore 6, 2) := by decide +kernel
theorem dX7_step_161 : decode cX7_step 161 = .ok (.aload_n 0, 1) := by decide +kernel
theorem dX7_step_162 : decode cX7_step 162 = .ok (.iload 4, 2) := by decide +kernel
theorem dX7_step_164 : decode cX7_step 164 = .ok (.iload_n 3, 1) := by decide +kernel
theorem dX7_step_165 : decode cX7_step 165 = .ok (.iload 5, 2) := by decide +kernel
theorem dX7_step_167 : decode cX7_step 167 = .ok (.invokestatic 164, 3) := by decide +kernel
theorem dX7_step_170 : decode cX7_step 170 = .ok (.iload 5, 2) := by decide +kernel
theorem dX7_step_172 : decode cX7_step 172 = .ok (.iconst 2, 1) := by decide +kernel
theorem dX7_step_173 : decode cX7_step 173 = .ok (.idiv, 1) := by decide +kernel
theorem dX7_step_174 : decode cX7_step 174 = .ok (.iload 6, 2) := by decide +kernel
theorem dX7_step_176 : decode cX7_step 176 = .ok (.ifCond .eq 7, 3) := by decide +kernel
theorem dX7_step_179 : decode cX7_step 179 = .ok (.iconst (-1), 1) := by decide +kernel
theorem dX7_step_180 : decode cX7_step 180 = .ok (.goto 9, 3) := by decide +kernel
theorem dX7_step_183 : decode cX7_step 183 = .ok (.iload 4, 2) := by decide +kernel
theorem dX7_step_185 : decode cX7_step 185 = .ok (.iload_n 3, 1) := by decide +kernel
theorem dX7_step_186 : decode cX7_step 186 = .ok (.invokestatic 135, 3) := by decide +kernel
theorem dX7_step_189 : decode cX7_step 189 = .ok (.iload 6, 2) := by decide +kernel
theorem dX7_step_191 : decode cX7_step 191 = .ok (.ifCond .eq 12, 3) := by decide +kernel
theorem dX7_step_194 : decode cX7_step 194 = .ok (.iload 4, 2) := by decide +kernel
theorem dX7_step_196 : decode cX7_step 196 = .ok (.iload_n 3, 1) := by decide +kernel
theorem dX7_step_197 : decode cX7_step 197 = .ok (.invokestatic 135, 3) := by decide +kernel
theorem dX7_step_200 : decode cX7_step 200 = .ok (.goto 4, 3) := by decide +kernel
theorem dX7_step_203 : decode cX7_step 203 = .ok (.iconst (-1), 1) := by decide +kernel
theorem dX7_step_204 : decode cX7_step 204 = .ok (.aload_n 0, 1) := by decide +kernel
theorem dX7_step_205 : decode cX7_step 205 = .ok (.iload 5, 2) := by decide +kernel
theorem dX7_step_207 : decode cX7_step 207 = .ok (.invokevirtual 233, 3) := by decide +kernel
theorem dX7_step_210 : decode cX7_step 210 = .ok (.dload_n 1, 1) := by decide +kernel
theorem dX7_step_211 : decode cX7_step 211 = .ok (.invokevirtual 226, 3) := by decide +kernel
theorem dX7_step_214 : decode cX7_step 214 = .ok (.iinc 5 1, 3) := by decide +kernel
theorem dX7_step_217 : decode cX7_step 217 = .ok (.goto (-92), 3) := by decide +kernel
theorem dX7_step_220 : decode cX7_step 220 = .ok (.iinc 4 1, 3) := by decide +kernel
theorem dX7_step_223 : decode cX7_step 223 = .ok (.goto (-188), 3) := by decide +kernel
theorem dX7_step_226 : decode cX7_step 226 = .ok (.iinc 3 1, 3) := by decide +kernel
theorem dX7_step_229 : decode cX7_step 229 = .ok (.goto (-205), 3) := by decide +kernel
theorem dX7_step_232 : decode cX7_step 232 = .ok (.iconst 0, 1) := by decide +kernel
theorem dX7_step_233 : decode cX7_step 233 = .ok (.istore_n 3, 1) := by decide +kernel
theorem dX7_step_234 : decode cX7_step 234 = .ok (.iload_n 3, 1) := by decide +kernel
theorem dX7_step_235 : decode cX7_step 235 = .ok (.sipush 144, 3) := by decide +kernel
theorem dX7_step_238 : decode cX7_step 238 = .ok (.if_icmp .ge 45, 3) := by decide +kernel
theorem dX7_step_241 : decode cX7_step 241 = .ok (.aload_n 0, 1) := by decide +kernel
theorem dX7_step_242 : decode cX7_step 242 = .ok (.getfield 39, 3) := by decide +kernel
theorem dX7_step_245 : decode cX7_step 245 = .ok (.iload_n 3, 1) := by decide +kernel
theorem dX7_step_246 : decode cX7_step 246 = .ok (.aload_n 0, 1) := by decide +kernel
theorem dX7_step_247 : decode cX7_step 247 = .ok (.getfield 20, 3) := by decide +kernel
theorem dX7_step_250 : decode cX7_step 250 = .ok (.iload_n 3, 1) := by decide +kernel
theorem dX7_step_251 : decode cX7_step 251 = .ok (.laload, 1) := by decide +kernel
theorem dX7_step_252 : decode cX7_step 252 = .ok (.lastore, 1) := by decide +kernel
theorem dX7_step_253 : decode cX7_step 253 = .ok (.aload_n 0, 1) := by decide +kernel
theorem dX7_step_254 : decode cX7_step 254 = .ok (.getfield 42, 3) := by decide +kernel
theorem dX7_step_257 : decode cX7_step 257 = .ok (.iload_n 3, 1) := by decide +kernel
theorem dX7_step_258 : decode cX7_step 258 = .ok (.aload_n 0, 1) := by decide +kernel
theorem dX7_step_259 : decode cX7_step 259 = .ok (.getfield 24, 3) := by decide +kernel
theorem dX7_step_262 : decode cX7_step 262 = .ok (.iload_n 3, 1) := by decide +kernel
theorem dX7_step_263 : decode cX7_step 263 = .ok (.daload, 1) := by decide +kernel
theorem dX7_step_264 : decode cX7_step 264 = .ok (.dastore, 1) := by decide +kernel
theorem dX7_step_265 : decode cX7_step 265 = .ok (.aload_n 0, 1) := by decide +kernel
theorem dX7_step_266 : decode cX7_step 266 = .ok (.getfield 45, 3) := by decide +kernel
theorem dX7_step_269 : decode cX7_step 269 = .ok (.iload_n 3, 1) := by decide +kernel
theorem dX7_step_270 : decode cX7_step 270 = .ok (.aload_n 0, 1) := by decide +kernel
theorem dX7_step_271 : decode cX7_step 271 = .ok (.getfield 27, 3) := by decide +kernel
theorem dX7_step_274 : decode cX7_step 274 = .ok (.iload_n 3, 1) := by decide +kernel
theorem dX7_step_275 : decode cX7_step 275 = .ok (.daload, 1) := by decide +kernel
theorem dX7_step_276 : decode cX7_step 276 = .ok (.dastore, 1) := by decide +kernel
theorem dX7_step_277 : decode cX7_step 277 = .ok (.iinc 3 1, 3) := by decide +kernel
theorem dX7_step_280 : decode cX7_step 280 = .ok (.goto (-46), 3) := by decide +kernel
theorem dX7_step_283 : decode cX7_step 283 = .ok (.iconst 0, 1) := by decide +kernel
theorem dX7_step_284 : decode cX7_step 284 = .ok (.istore_n 3, 1) := by decide +kernel
theorem dX7_step_285 : decode cX7_step 285 = .ok (.iload_n 3, 1) := by decide +kernel
theorem dX7_step_286 : decode cX7_step 286 = .ok (.aload_n 0, 1) := by decide +kernel
theorem dX7_step_287 : decode cX7_step 287 = .ok (.getfield 125, 3) := by decide +kernel
theorem dX7_step_290 : decode cX7_step 290 = .ok (.if_icmp .ge 45, 3) := by decide +kernel
theorem dX7_step_293 : decode cX7_step 293 = .ok (.iconst 0, 1) := by decide +kernel
theorem dX7_step_294 : decode cX7_step 294 = .ok (.istore 4, 2) := by decide +kernel
theorem dX7_step_296 : decode cX7_step 296 = .ok (.iload 4, 2) := by decide +kernel
theorem dX7_step_298 : decode cX7_step 298 = .ok (.aload_n 0, 1) := by decide +kernel
theorem dX7_step_299 : decode cX7_step 299 = .ok (.getfield 121, 3) := by decide +kernel
theorem dX7_step_302 : decode cX7_step 302 = .ok (.if_icmp .ge 27, 3) := by decide +kernel
theorem dX7_step_305 : decode cX7_step 305 = .ok (.aload_n 0, 1) := by decide +kernel
theorem dX7_step_306 : decode cX7_step 306 = .ok (.iload 4, 2) := by decide +kernel
theorem dX7_step_308 : decode cX7_step 308 = .ok (.iload_n 3, 1) := by decide +kernel
theorem dX7_step_309 : decode cX7_step 309 = .ok (.invokevirtual 139, 3) := by decide +kernel
theorem dX7_step_312 : decode cX7_step 312 = .ok (.ifCond .eq 11, 3) := by decide +kernel
theorem dX7_step_315 : decode cX7_step 315 = .ok (.aload_n 0, 1) := by decide +kernel
theorem dX7_step_316 : decode cX7_step 316 = .ok (.iload 4, 2) := by decide +kernel
theorem dX7_step_318 : decode cX7_step 318 = .ok (.iload_n 3, 1) := by decide +kernel
theorem dX7_step_319 : decode cX7_step 319 = .ok (.dload_n 1, 1) := by decide +kernel
theorem dX7_step_320 : decode cX7_step 320 = .ok (.invokevirtual 236, 3) := by decide +kernel
theorem dX7_step_323 : decode cX7_step 323 = .ok (.iinc 4 1, 3) := by decide +kernel
theorem dX7_step_326 : decode cX7_step 326 = .ok (.goto (-30), 3) := by decide +kernel
theorem dX7_step_329 : decode cX7_step 329 = .ok (.iinc 3 1, 3) := by decide +kernel
theorem dX7_step_332 : decode cX7_step 332 = .ok (.goto (-47), 3) := by decide +kernel
theorem dX7_step_335 : decode cX7_step 335 = .ok (.aload_n 0, 1) := by decide +kernel
theorem dX7_step_336 : decode cX7_step 336 = .ok (.aload_n 0, 1) := by decide +kernel
theorem dX7_step_337 : decode cX7_step 337 = .ok (.getfield 186, 3) := by decide +kernel
theorem dX7_step_340 : decode cX7_step 340 = .ok (.dload_n 1, 1) := by decide +kernel
theorem dX7_step_341 : decode cX7_step 341 = .ok (.dadd, 1) := by decide +kernel
theorem dX7_step_342 : decode cX7_step 342 = .ok (.putfield 186, 3) := by decide +kernel
theorem dX7_step_345 : decode cX7_step 345 = .ok (.return_, 1) := by decide +kernel
theorem dX7_pass_0 : decode cX7_pass 0 = .ok (.lload_n 3, 1) := by decide +kernel
theorem dX7_pass_1 : decode cX7_pass 1 = .ok (.lconst 0, 1) := by decide +kernel
theorem dX7_pass_2 : decode cX7_pass 2 = .ok (.lcmp, 1) := by decide +kernel
theorem dX7_pass_3 : decode cX7_pass 3 = .ok (.ifCond .le 68, 3) := by decide +kernel
theorem dX7_pass_6 : decode cX7_pass 6 = .ok (.aload_n 0, 1) := by decide +kernel
theorem dX7_pass_7 : decode cX7_pass 7 = .ok (.aload_n 0, 1) := by decide +kernel
theorem dX7_pass_8 : decode cX7_pass 8 = .ok (.getfield 240, 3) := by decide +kernel
theorem dX7_pass_11 : decode cX7_pass 11 = .ok (.lload_n 3, 1) := by decide +kernel
theorem dX7_pass_12 : decode cX7_pass 12 = .ok (.l2d, 1) := by decide +kernel
theorem dX7_pass_13 : decode cX7_pass 13 = .ok (.iload 5, 2) := by decide +kernel
theorem dX7_pass_15 : decode cX7_pass 15 = .ok (.iconst (-1), 1) := by decide +kernel
theorem dX7_pass_16 : decode cX7_pass 16 = .ok (.if_icmp .ne 9, 3) := by decide +kernel
theorem dX7_pass_19 : decode cX7_pass 19 = .ok (.ldc2_w 243, 3) := by decide +kernel
theorem dX7_pass_22 : decode cX7_pass 22 = .ok (.goto 10, 3) := by decide +kernel
theorem dX7_pass_25 : decode cX7_pass 25 = .ok (.aload_n 0, 1) := by decide +kernel
theorem dX7_pass_26 : decode cX7_pass 26 = .ok (.getfield 42, 3) := by decide +kernel
theorem dX7_pass_29 : decode cX7_pass 29 = .ok (.iload 5, 2) := by decide +kernel
theorem dX7_pass_31 : decode cX7_pass 31 = .ok (.daload, 1) := by decide +kernel
theorem dX7_pass_32 : decode cX7_pass 32 = .ok (.dmul, 1) := by decide +kernel
theorem dX7_pass_33 : decode cX7_pass 33 = .ok (.dadd, 1) := by decide +kernel
theorem dX7_pass_34 : decode cX7_pass 34 = .ok (.putfield 240, 3) := by decide +kernel
theorem dX7_pass_37 : decode cX7_pass 37 = .ok (.aload_n 0, 1) := by decide +kernel
theorem dX7_pass_38 : decode cX7_pass 38 = .ok (.aload_n 0, 1) := by decide +kernel
theorem dX7_pass_39 : decode cX7_pass 39 = .ok (.getfield 245, 3) := by decide +kernel
theorem dX7_pass_42 : decode cX7_pass 42 = .ok (.lload_n 3, 1) := by decide +kernel
theorem dX7_pass_43 : decode cX7_pass 43 = .ok (.l2d, 1) := by decide +kernel
theorem dX7_pass_44 : decode cX7_pass 44 = .ok (.iload 5, 2) := by decide +kernel
theorem dX7_pass_46 : decode cX7_pass 46 = .ok (.iconst (-1), 1) := by decide +kernel
theorem dX7_pass_47 : decode cX7_pass 47 = .ok (.if_icmp .ne 9, 3) := by decide +kernel
theorem dX7_pass_50 : decode cX7_pass 50 = .ok (.ldc2_w 248, 3) := by decide +kernel
theorem dX7_pass_53 : decode cX7_pass 53 = .ok (.goto 10, 3) := by decide +kernel
theorem dX7_pass_56 : decode cX7_pass 56 = .ok (.aload_n 0, 1) := by decide +kernel
theorem dX7_pass_57 : decode cX7_pass 57 = .ok (.getfield 45, 3) := by decide +kernel
theorem dX7_pass_60 : decode cX7_pass 60 = .ok (.iload 5, 2) := by decide +kernel
theorem dX7_pass_62 : decode cX7_pass 62 = .ok (.daload, 1) := by decide +kernel
theorem dX7_pass_63 : decode cX7_pass 63 = .ok (.dmul, 1) := by decide +kernel
theorem dX7_pass_64 : decode cX7_pass 64 = .ok (.dadd, 1) := by decide +kernel
theorem dX7_pass_65 : decode cX7_pass 65 = .ok (.putfield 245, 3) := by decide +kernel
theorem dX7_pass_68 : decode cX7_pass 68 = .ok (.goto 41, 3) := by decide +kernel
theorem dX7_pass_71 : decode cX7_pass 71 = .ok (.aload_n 0, 1) := by decide +kernel
theorem dX7_pass_72 : decode cX7_pass 72 = .ok (.aload_n 0, 1) := by decide +kernel
theorem dX7_pass_73 : decode cX7_pass 73 = .ok (.getfield 240, 3) := by decide +kernel
theorem dX7_pass_76 : decode cX7_pass 76 = .ok (.lload_n 3, 1) := by decide +kernel
theorem dX7_pass_77 : decode cX7_pass 77 = .ok (.lneg, 1) := by decide +kernel
theorem dX7_pass_78 : decode cX7_pass 78 = .ok (.l2d, 1) := by decide +kernel
theorem dX7_pass_79 : decode cX7_pass 79 = .ok (.aload_n 0, 1) := by decide +kernel
theorem dX7_pass_80 : decode cX7_pass 80 = .ok (.getfield 42, 3) := by decide +kernel
theorem dX7_pass_83 : decode cX7_pass 83 = .ok (.iload_n 1, 1) := by decide +kernel
theorem dX7_pass_84 : decode cX7_pass 84 = .ok (.daload, 1) := by decide +kernel
theorem dX7_pass_85 : decode cX7_pass 85 = .ok (.dmul, 1) := by decide +kernel
theorem dX7_pass_86 : decode cX7_pass 86 = .ok (.dsub, 1) := by decide +kernel
theorem dX7_pass_87 : decode cX7_pass 87 = .ok (.putfield 240, 3) := by decide +kernel
theorem dX7_pass_90 : decode cX7_pass 90 = .ok (.aload_n 0, 1) := by decide +kernel
theorem dX7_pass_91 : decode cX7_pass 91 = .ok (.aload_n 0, 1) := by decide +kernel
theorem dX7_pass_92 : decode cX7_pass 92 = .ok (.getfield 245, 3) := by decide +kernel
theorem dX7_pass_95 : decode cX7_pass 95 = .ok (.lload_n 3, 1) := by decide +kernel
theorem dX7_pass_96 : decode cX7_pass 96 = .ok (.lneg, 1) := by decide +kernel
theorem dX7_pass_97 : decode cX7_pass 97 = .ok (.l2d, 1) := by decide +kernel
theorem dX7_pass_98 : decode cX7_pass 98 = .ok (.aload_n 0, 1) := by decide +kernel
theorem dX7_pass_99 : decode cX7_pass 99 = .ok (.getfield 45, 3) := by decide +kernel
theorem dX7_pass_102 : decode cX7_pass 102 = .ok (.iload_n 1, 1) := by decide +kernel
theorem dX7_pass_103 : decode cX7_pass 103 = .ok (.daload, 1) := by decide +kernel
theorem dX7_pass_104 : decode cX7_pass 104 = .ok (.dmul, 1) := by decide +kernel
theorem dX7_pass_105 : decode cX7_pass 105 = .ok (.dsub, 1) := by decide +kernel
theorem dX7_pass_106 : decode cX7_pass 106 = .ok (.putfield 245, 3) := by decide +kernel
theorem dX7_pass_109 : decode cX7_pass 109 = .ok (.aload_n 0, 1) := by decide +kernel
theorem dX7_pass_110 : decode cX7_pass 110 = .ok (.getfield 20, 3) := by decide +kernel
theorem dX7_pass_113 : decode cX7_pass 113 = .ok (.iload_n 1, 1) := by decide +kernel
theorem dX7_pass_114 : decode cX7_pass 114 = .ok (.dup2, 1) := by decide +kernel
theorem dX7_pass_115 : decode cX7_pass 115 = .ok (.laload, 1) := by decide +kernel
theorem dX7_pass_116 : decode cX7_pass 116 = .ok (.lload_n 3, 1) := by decide +kernel
theorem dX7_pass_117 : decode cX7_pass 117 = .ok (.ladd, 1) := by decide +kernel
theorem dX7_pass_118 : decode cX7_pass 118 = .ok (.lastore, 1) := by decide +kernel
theorem dX7_pass_119 : decode cX7_pass 119 = .ok (.aload_n 0, 1) := by decide +kernel
theorem dX7_pass_120 : decode cX7_pass 120 = .ok (.aload_n 0, 1) := by decide +kernel
theorem dX7_pass_121 : decode cX7_pass 121 = .ok (.getfield 250, 3) := by decide +kernel
theorem dX7_pass_124 : decode cX7_pass 124 = .ok (.aload_n 0, 1) := by decide +kernel
theorem dX7_pass_125 : decode cX7_pass 125 = .ok (.getfield 33, 3) := by decide +kernel
theorem dX7_pass_128 : decode cX7_pass 128 = .ok (.iload_n 2, 1) := by decide +kernel
theorem dX7_pass_129 : decode cX7_pass 129 = .ok (.daload, 1) := by decide +kernel
theorem dX7_pass_130 : decode cX7_pass 130 = .ok (.invokestatic 210, 3) := by decide +kernel
theorem dX7_pass_133 : decode cX7_pass 133 = .ok (.invokestatic 253, 3) := by decide +kernel
theorem dX7_pass_136 : decode cX7_pass 136 = .ok (.putfield 250, 3) := by decide +kernel
theorem dX7_pass_139 : decode cX7_pass 139 = .ok (.return_, 1) := by decide +kernel
theorem dX7_change_0 : decode cX7_change 0 = .ok (.iload_n 1, 1) := by decide +kernel
theorem dX7_change_1 : decode cX7_change 1 = .ok (.iload_n 2, 1) := by decide +kernel
theorem dX7_change_2 : decode cX7_change 2 = .ok (.invokestatic 135, 3) := by decide +kernel
theorem dX7_change_5 : decode cX7_change 5 = .ok (.istore 5, 2) := by decide +kernel
theorem dX7_change_7 : decode cX7_change 7 = .ok (.aload_n 0, 1) := by decide +kernel
theorem dX7_change_8 : decode cX7_change 8 = .ok (.aload_n 0, 1) := by decide +kernel
theorem dX7_change_9 : decode cX7_change 9 = .ok (.getfield 42, 3) := by decide +kernel
theorem dX7_change_12 : decode cX7_change 12 = .ok (.iload 5, 2) := by decide +kernel
theorem dX7_change_14 : decode cX7_change 14 = .ok (.daload, 1) := by decide +kernel
theorem dX7_change_15 : decode cX7_change 15 = .ok (.aload_n 0, 1) := by decide +kernel
theorem dX7_change_16 : decode cX7_change 16 = .ok (.getfield 39, 3) := by decide +kernel
theorem dX7_change_19 : decode cX7_change 19 = .ok (.iload 5, 2) := by decide +kernel
theorem dX7_change_21 : decode cX7_change 21 = .ok (.laload, 1) := by decide +kernel
theorem dX7_change_22 : decode cX7_change 22 = .ok (.l2d, 1) := by decide +kernel
theorem dX7_change_23 : decode cX7_change 23 = .ok (.dmul, 1) := by decide +kernel
theorem dX7_change_24 : decode cX7_change 24 = .ok (.putfield 240, 3) := by decide +kernel
theorem dX7_change_27 : decode cX7_change 27 = .ok (.aload_n 0, 1) := by decide +kernel
theorem dX7_change_28 : decode cX7_change 28 = .ok (.aload_n 0, 1) := by decide +kernel
theorem dX7_change_29 : decode cX7_change 29 = .ok (.getfield 45, 3) := by decide +kernel
theorem dX7_change_32 : decode cX7_change 32 = .ok (.iload 5, 2) := by decide +kernel
theorem dX7_change_34 : decode cX7_change 34 = .ok (.daload, 1) := by decide +kernel
theorem dX7_change_35 : decode cX7_change 35 = .ok (.aload_n 0, 1) := by decide +kernel
theorem dX7_change_36 : decode cX7_change 36 = .ok (.getfield 39, 3) := by decide +kernel
theorem dX7_change_39 : decode cX7_change 39 = .ok (.iload 5, 2) := by decide +kernel
theorem dX7_change_41 : decode cX7_change 41 = .ok (.laload, 1) := by decide +kernel
theorem dX7_change_42 : decode cX7_change 42 = .ok (.l2d, 1) := by decide +kernel
theorem dX7_change_43 : decode cX7_change 43 = .ok (.dmul, 1) := by decide +kernel
theorem dX7_change_44 : decode cX7_change 44 = .ok (.putfield 245, 3) := by decide +kernel
theorem dX7_change_47 : decode cX7_change 47 = .ok (.aload_n 0, 1) := by decide +kernel
theorem dX7_change_48 : decode cX7_change 48 = .ok (.dconst 0, 1) := by decide +kernel
theorem dX7_change_49 : decode cX7_change 49 = .ok (.putfield 250, 3) := by decide +kernel
theorem dX7_change_52 : decode cX7_change 52 = .ok (.iload_n 1, 1) := by decide +kernel
theorem dX7_change_53 : decode cX7_change 53 = .ok (.ifCond .le 47, 3) := by decide +kernel
theorem dX7_change_56 : decode cX7_change 56 = .ok (.aload_n 0, 1) := by decide +kernel
theorem dX7_change_57 : decode cX7_change 57 = .ok (.iload_n 1, 1) := by decide +kernel
theorem dX7_change_58 : decode cX7_change 58 = .ok (.iconst 1, 1) := by decide +kernel
theorem dX7_change_59 : decode cX7_change 59 = .ok (.isub, 1) := by decide +kernel
theorem dX7_change_60 : decode cX7_change 60 = .ok (.iload_n 2, 1) := by decide +kernel
theorem dX7_change_61 : decode cX7_change 61 = .ok (.iconst 0, 1) := by decide +kernel
theorem dX7_change_62 : decode cX7_change 62 = .ok (.invokevirtual 223, 3) := by decide +kernel
theorem dX7_change_65 : decode cX7_change 65 = .ok (.ifCond .eq 35, 3) := by decide +kernel
theorem dX7_change_68 : decode cX7_change 68 = .ok (.aload_n 0, 1) := by decide +kernel
theorem dX7_change_69 : decode cX7_change 69 = .ok (.iload 5, 2) := by decide +kernel
theorem dX7_change_71 : decode cX7_change 71 = .ok (.iload_n 1, 1) := by decide +kernel
theorem dX7_change_72 : decode cX7_change 72 = .ok (.iconst 1, 1) := by decide +kernel
theorem dX7_change_73 : decode cX7_change 73 = .ok (.isub, 1) := by decide +kernel
theorem dX7_change_74 : decode cX7_change 74 = .ok (.iload_n 2, 1) := by decide +kernel
theorem dX7_change_75 : decode cX7_change 75 = .ok (.invokestatic 135, 3) := by decide +kernel
theorem dX7_change_78 : decode cX7_change 78 = .ok (.aload_n 0, 1) := by decide +kernel
theorem dX7_change_79 : decode cX7_change 79 = .ok (.getfield 48, 3) := by decide +kernel
theorem dX7_change_82 : decode cX7_change 82 = .ok (.iload_n 1, 1) := by decide +kernel
theorem dX7_change_83 : decode cX7_change 83 = .ok (.iconst 1, 1) := by decide +kernel
theorem dX7_change_84 : decode cX7_change 84 = .ok (.isub, 1) := by decide +kernel
theorem dX7_change_85 : decode cX7_change 85 = .ok (.iload_n 2, 1) := by decide +kernel
theorem dX7_change_86 : decode cX7_change 86 = .ok (.invokestatic 135, 3) := by decide +kernel
theorem dX7_change_89 : decode cX7_change 89 = .ok (.laload, 1) := by decide +kernel
theorem dX7_change_90 : decode cX7_change 90 = .ok (.iload_n 1, 1) := by decide +kernel
theorem dX7_change_91 : decode cX7_change 91 = .ok (.iconst 1, 1) := by decide +kernel
theorem dX7_change_92 : decode cX7_change 92 = .ok (.isub, 1) := by decide +kernel
theorem dX7_change_93 : decode cX7_change 93 = .ok (.iload_n 2, 1) := by decide +kernel
theorem dX7_change_94 : decode cX7_change 94 = .ok (.invokestatic 135, 3) := by decide +kernel
theorem dX7_change_97 : decode cX7_change 97 = .ok (.invokevirtual 257, 3) := by decide +kernel
theorem dX7_change_100 : decode cX7_change 100 = .ok (.aload_n 0, 1) := by decide +kernel
theorem dX7_change_101 : decode cX7_change 101 = .ok (.iload_n 1, 1) := by decide +kernel
theorem dX7_change_102 : decode cX7_change 102 = .ok (.iload_n 2, 1) := by decide +kernel
theorem dX7_change_103 : decode cX7_change 103 = .ok (.iconst 0, 1) := by decide +kernel
theorem dX7_change_104 : decode cX7_change 104 = .ok (.invokevirtual 223, 3) := by decide +kernel
theorem dX7_change_107 : decode cX7_change 107 = .ok (.ifCond .eq 26, 3) := by decide +kernel
theorem dX7_change_110 : decode cX7_change 110 = .ok (.aload_n 0, 1) := by decide +kernel
theorem dX7_change_111 : decode cX7_change 111 = .ok (.iload 5, 2) := by decide +kernel
theorem dX7_change_113 : decode cX7_change 113 = .ok (.iload 5, 2) := by decide +kernel
theorem dX7_change_115 : decode cX7_change 115 = .ok (.aload_n 0, 1) := by decide +kernel
theorem dX7_change_116 : decode cX7_change 116 = .ok (.getfield 48, 3) := by decide +kernel
theorem dX7_change_119 : decode cX7_change 119 = .ok (.iload 5, 2) := by decide +kernel
theorem dX7_change_121 : decode cX7_change 121 = .ok (.laload, 1) := by decide +kernel
theorem dX7_change_122 : decode cX7_change 122 = .ok (.lneg, 1) := by decide +kernel
theorem dX7_change_123 : decode cX7_change 123 = .ok (.iload_n 1, 1) := by decide +kernel
theorem dX7_change_124 : decode cX7_change 124 = .ok (.iconst 1, 1) := by decide +kernel
theorem dX7_change_125 : decode cX7_change 125 = .ok (.iadd, 1) := by decide +kernel
theorem dX7_change_126 : decode cX7_change 126 = .ok (.iload_n 2, 1) := by decide +kernel
theorem dX7_change_127 : decode cX7_change 127 = .ok (.invokestatic 135, 3) := by decide +kernel
theorem dX7_change_130 : decode cX7_change 130 = .ok (.invokevirtual 257, 3) := by decide +kernel
theorem dX7_change_133 : decode cX7_change 133 = .ok (.iload_n 2, 1) := by decide +kernel
theorem dX7_change_134 : decode cX7_change 134 = .ok (.ifCond .le 55, 3) := by decide +kernel
theorem dX7_change_137 : decode cX7_change 137 = .ok (.aload_n 0, 1) := by decide +kernel
theorem dX7_change_138 : decode cX7_change 138 = .ok (.iload_n 1, 1) := by decide +kernel
theorem dX7_change_139 : decode cX7_change 139 = .ok (.iload_n 2, 1) := by decide +kernel
theorem dX7_change_140 : decode cX7_change 140 = .ok (.iconst 1, 1) := by decide +kernel
theorem dX7_change_141 : decode cX7_change 141 = .ok (.isub, 1) := by decide +kernel
theorem dX7_change_142 : decode cX7_change 142 = .ok (.iconst 1, 1) := by decide +kernel
theorem dX7_change_143 : decode cX7_change 143 = .ok (.invokevirtual 223, 3) := by decide +kernel
theorem dX7_change_146 : decode cX7_change 146 = .ok (.ifCond .eq 43, 3) := by decide +kernel
theorem dX7_change_149 : decode cX7_change 149 = .ok (.aload_n 0, 1) := by decide +kernel
theorem dX7_change_150 : decode cX7_change 150 = .ok (.iload 5, 2) := by decide +kernel
theorem dX7_change_152 : decode cX7_change 152 = .ok (.sipush 144, 3) := by decide +kernel
theorem dX7_change_155 : decode cX7_change 155 = .ok (.iload_n 1, 1) := by decide +kernel
theorem dX7_change_156 : decode cX7_change 156 = .ok (.iload_n 2, 1) := by decide +kernel
theorem dX7_change_157 : decode cX7_change 157 = .ok (.iconst 1, 1) := by decide +kernel
theorem dX7_change_158 : decode cX7_change 158 = .ok (.isub, 1) := by decide +kernel
theorem dX7_change_159 : decode cX7_change 159 = .ok (.invokestatic 135, 3) := by decide +kernel
theorem dX7_change_162 : decode cX7_change 162 = .ok (.iadd, 1) := by decide +kernel
theorem dX7_change_163 : decode cX7_change 163 = .ok (.aload_n 0, 1) := by decide +kernel
theorem dX7_change_164 : decode cX7_change 164 = .ok (.getfield 48, 3) := by decide +kernel
theorem dX7_change_167 : decode cX7_change 167 = .ok (.sipush 144, 3) := by decide +kernel
theorem dX7_change_170 : decode cX7_change 170 = .ok (.iload_n 1, 1) := by decide +kernel
theorem dX7_change_171 : decode cX7_change 171 = .ok (.iload_n 2, 1) := by decide +kernel
theorem dX7_change_172 : decode cX7_change 172 = .ok (.iconst 1, 1) := by decide +kernel
theorem dX7_change_173 : decode cX7_change 173 = .ok (.isub, 1) := by decide +kernel
theorem dX7_change_174 : decode cX7_change 174 = .ok (.invokestatic 135, 3) := by decide +kernel
theorem dX7_change_177 : decode cX7_change 177 = .ok (.iadd, 1) := by decide +kernel
theorem dX7_change_178 : decode cX7_change 178 = .ok (.laload, 1) := by decide +kernel
theorem dX7_change_179 : decode cX7_change 179 = .ok (.iload_n 1, 1) := by decide +kernel
theorem dX7_change_180 : decode cX7_change 180 = .ok (.iload_n 2, 1) := by decide +kernel
theorem dX7_change_181 : decode cX7_change 181 = .ok (.iconst 1, 1) := by decide +kernel
theorem dX7_change_182 : decode cX7_change 182 = .ok (.isub, 1) := by decide +kernel
theorem dX7_change_183 : decode cX7_change 183 = .ok (.invokestatic 135, 3) := by decide +kernel
theorem dX7_change_186 : decode cX7_change 186 = .ok (.invokevirtual 257, 3) := by decide +kernel
theorem dX7_change_189 : decode cX7_change 189 = .ok (.aload_n 0, 1) := by decide +kernel
theorem dX7_change_190 : decode cX7_change 190 = .ok (.iload_n 1, 1) := by decide +kernel
theorem dX7_change_191 : decode cX7_change 191 = .ok (.iload_n 2, 1) := by decide +kernel
theorem dX7_change_192 : decode cX7_change 192 = .ok (.iconst 1, 1) := by decide +kernel
theorem dX7_change_193 : decode cX7_change 193 = .ok (.invokevirtual 223, 3) := by decide +kernel
theorem dX7_change_196 : decode cX7_change 196 = .ok (.ifCond .eq 34, 3) := by decide +kernel
theorem dX7_change_199 : decode cX7_change 199 = .ok (.aload_n 0, 1) := by decide +kernel
theorem dX7_change_200 : decode cX7_change 200 = .ok (.iload 5, 2) := by decide +kernel
theorem dX7_change_202 : decode cX7_change 202 = .ok (.sipush 144, 3) := by decide +kernel
theorem dX7_change_205 : decode cX7_change 205 = .ok (.iload 5, 2) := by decide +kernel
theorem dX7_change_207 : decode cX7_change 207 = .ok (.iadd, 1) := by decide +kernel
theorem dX7_change_208 : decode cX7_change 208 = .ok (.aload_n 0, 1) := by decide +kernel
theorem dX7_change_209 : decode cX7_change 209 = .ok (.getfield 48, 3) := by decide +kernel
theorem dX7_change_212 : decode cX7_change 212 = .ok (.sipush 144, 3) := by decide +kernel
theorem dX7_change_215 : decode cX7_change 215 = .ok (.iload 5, 2) := by decide +kernel
theorem dX7_change_217 : decode cX7_change 217 = .ok (.iadd, 1) := by decide +kernel
theorem dX7_change_218 : decode cX7_change 218 = .ok (.laload, 1) := by decide +kernel
theorem dX7_change_219 : decode cX7_change 219 = .ok (.lneg, 1) := by decide +kernel
theorem dX7_change_220 : decode cX7_change 220 = .ok (.iload_n 1, 1) := by decide +kernel
theorem dX7_change_221 : decode cX7_change 221 = .ok (.iload_n 2, 1) := by decide +kernel
theorem dX7_change_222 : decode cX7_change 222 = .ok (.iconst 1, 1) := by decide +kernel
theorem dX7_change_223 : decode cX7_change 223 = .ok (.iadd, 1) := by decide +kernel
theorem dX7_change_224 : decode cX7_change 224 = .ok (.invokestatic 135, 3) := by decide +kernel
theorem dX7_change_227 : decode cX7_change 227 = .ok (.invokevirtual 257, 3) := by decide +kernel
theorem dX7_change_230 : decode cX7_change 230 = .ok (.iconst 0, 1) := by decide +kernel
theorem dX7_change_231 : decode cX7_change 231 = .ok (.istore 6, 2) := by decide +kernel
theorem dX7_change_233 : decode cX7_change 233 = .ok (.iload 6, 2) := by decide +kernel
theorem dX7_change_235 : decode cX7_change 235 = .ok (.iconst 4, 1) := by decide +kernel
theorem dX7_change_236 : decode cX7_change 236 = .ok (.if_icmp .ge 83, 3) := by decide +kernel
theorem dX7_change_239 : decode cX7_change 239 = .ok (.aload_n 0, 1) := by decide +kernel
theorem dX7_change_240 : decode cX7_change 240 = .ok (.iload_n 1, 1) := by decide +kernel
theorem dX7_change_241 : decode cX7_change 241 = .ok (.iload_n 2, 1) := by decide +kernel
theorem dX7_change_242 : decode cX7_change 242 = .ok (.iload 6, 2) := by decide +kernel
theorem dX7_change_244 : decode cX7_change 244 = .ok (.invokevirtual 230, 3) := by decide +kernel
theorem dX7_change_247 : decode cX7_change 247 = .ok (.ifCond .eq 66, 3) := by decide +kernel
theorem dX7_change_250 : decode cX7_change 250 = .ok (.iload_n 1, 1) := by decide +kernel
theorem dX7_change_251 : decode cX7_change 251 = .ok (.iload_n 2, 1) := by decide +kernel
theorem dX7_change_252 : decode cX7_change 252 = .ok (.iload 6, 2) := by decide +kernel
theorem dX7_change_254 : decode cX7_change 254 = .ok (.invokestatic 164, 3) := by decide +kernel
theorem dX7_change_257 : decode cX7_change 257 = .ok (.istore 7, 2) := by decide +kernel
theorem dX7_change_259 : decode cX7_change 259 = .ok (.iload 6, 2) := by decide +kernel
theorem dX7_change_261 : decode cX7_change 261 = .ok (.ifCond .eq 9, 3) := by decide +kernel
theorem dX7_change_264 : decode cX7_change 264 = .ok (.iload 6, 2) := by decide +kernel
theorem dX7_change_266 : decode cX7_change 266 = .ok (.iconst 2, 1) := by decide +kernel
theorem dX7_change_267 : decode cX7_change 267 = .ok (.if_icmp .ne 13, 3) := by decide +kernel
theorem dX7_change_270 : decode cX7_change 270 = .ok (.aload_n 0, 1) := by decide +kernel
theorem dX7_change_271 : decode cX7_change 271 = .ok (.getfield 48, 3) := by decide +kernel
theorem dX7_change_274 : decode cX7_change 274 = .ok (.iload 7, 2) := by decide +kernel
theorem dX7_change_276 : decode cX7_change 276 = .ok (.laload, 1) := by decide +kernel
theorem dX7_change_277 : decode cX7_change 277 = .ok (.goto 11, 3) := by decide +kernel
theorem dX7_change_280 : decode cX7_change 280 = .ok (.aload_n 0, 1) := by decide +kernel
theorem dX7_change_281 : decode cX7_change 281 = .ok (.getfield 48, 3) := by decide +kernel
theorem dX7_change_284 : decode cX7_change 284 = .ok (.iload 7, 2) := by decide +kernel
theorem dX7_change_286 : decode cX7_change 286 = .ok (.laload, 1) := by decide +kernel
theorem dX7_change_287 : decode cX7_change 287 = .ok (.lneg, 1) := by decide +kernel
theorem dX7_change_288 : decode cX7_change 288 = .ok (.lstore 8, 2) := by decide +kernel
theorem dX7_change_290 : decode cX7_change 290 = .ok (.aload_n 0, 1) := by decide +kernel
theorem dX7_change_291 : decode cX7_change 291 = .ok (.iload 5, 2) := by decide +kernel
theorem dX7_change_293 : decode cX7_change 293 = .ok (.iload 7, 2) := by decide +kernel
theorem dX7_change_295 : decode cX7_change 295 = .ok (.lload 8, 2) := by decide +kernel
theorem dX7_change_297 : decode cX7_change 297 = .ok (.iconst (-1), 1) := by decide +kernel
theorem dX7_change_298 : decode cX7_change 298 = .ok (.invokevirtual 257, 3) := by decide +kernel
theorem dX7_change_301 : decode cX7_change 301 = .ok (.aload_n 0, 1) := by decide +kernel
theorem dX7_change_302 : decode cX7_change 302 = .ok (.getfield 36, 3) := by decide +kernel
theorem dX7_change_305 : decode cX7_change 305 = .ok (.iload 6, 2) := by decide +kernel
theorem dX7_change_307 : decode cX7_change 307 = .ok (.dup2, 1) := by decide +kernel
theorem dX7_change_308 : decode cX7_change 308 = .ok (.laload, 1) := by decide +kernel
theorem dX7_change_309 : decode cX7_change 309 = .ok (.lload 8, 2) := by decide +kernel
theorem dX7_change_311 : decode cX7_change 311 = .ok (.ladd, 1) := by decide +kernel
theorem dX7_change_312 : decode cX7_change 312 = .ok (.lastore, 1) := by decide +kernel
theorem dX7_change_313 : decode cX7_change 313 = .ok (.iinc 6 1, 3) := by decide +kernel
theorem dX7_change_316 : decode cX7_change 316 = .ok (.goto (-83), 3) := by decide +kernel
theorem dX7_change_319 : decode cX7_change 319 = .ok (.aload_n 0, 1) := by decide +kernel
theorem dX7_change_320 : decode cX7_change 320 = .ok (.getfield 17, 3) := by decide +kernel
theorem dX7_change_323 : decode cX7_change 323 = .ok (.iload 5, 2) := by decide +kernel
theorem dX7_change_325 : decode cX7_change 325 = .ok (.daload, 1) := by decide +kernel
theorem dX7_change_326 : decode cX7_change 326 = .ok (.dload_n 3, 1) := by decide +kernel
theorem dX7_change_327 : decode cX7_change 327 = .ok (.dmul, 1) := by decide +kernel
theorem dX7_change_328 : decode cX7_change 328 = .ok (.d2l, 1) := by decide +kernel
theorem dX7_change_329 : decode cX7_change 329 = .ok (.lstore 6, 2) := by decide +kernel
theorem dX7_change_331 : decode cX7_change 331 = .ok (.aload_n 0, 1) := by decide +kernel
theorem dX7_change_332 : decode cX7_change 332 = .ok (.getfield 20, 3) := by decide +kernel
theorem dX7_change_335 : decode cX7_change 335 = .ok (.iload 5, 2) := by decide +kernel
theorem dX7_change_337 : decode cX7_change 337 = .ok (.dup2, 1) := by decide +kernel
theorem dX7_change_338 : decode cX7_change 338 = .ok (.laload, 1) := by decide +kernel
theorem dX7_change_339 : decode cX7_change 339 = .ok (.lload 6, 2) := by decide +kernel
theorem dX7_change_341 : decode cX7_change 341 = .ok (.ladd, 1) := by decide +kernel
theorem dX7_change_342 : decode cX7_change 342 = .ok (.lastore, 1) := by decide +kernel
theorem dX7_change_343 : decode cX7_change 343 = .ok (.aload_n 0, 1) := by decide +kernel
theorem dX7_change_344 : decode cX7_change 344 = .ok (.dup, 1) := by decide +kernel
theorem dX7_change_345 : decode cX7_change 345 = .ok (.getfield 261, 3) := by decide +kernel
theorem dX7_change_348 : decode cX7_change 348 = .ok (.lload 6, 2) := by decide +kernel
theorem dX7_change_350 : decode cX7_change 350 = .ok (.ladd, 1) := by decide +kernel
theorem dX7_change_351 : decode cX7_change 351 = .ok (.putfield 261, 3) := by decide +kernel
theorem dX7_change_354 : decode cX7_change 354 = .ok (.aload_n 0, 1) := by decide +kernel
theorem dX7_change_355 : decode cX7_change 355 = .ok (.aload_n 0, 1) := by decide +kernel
theorem dX7_change_356 : decode cX7_change 356 = .ok (.getfield 240, 3) := by decide +kernel
theorem dX7_change_359 : decode cX7_change 359 = .ok (.lload 6, 2) := by decide +kernel
theorem dX7_change_361 : decode cX7_change 361 = .ok (.l2d, 1) := by decide +kernel
theorem dX7_change_362 : decode cX7_change 362 = .ok (.ldc2_w 264, 3) := by decide +kernel
theorem dX7_change_365 : decode cX7_change 365 = .ok (.dmul, 1) := by decide +kernel
theorem dX7_change_366 : decode cX7_change 366 = .ok (.dadd, 1) := by decide +kernel
theorem dX7_change_367 : decode cX7_change 367 = .ok (.putfield 240, 3) := by decide +kernel
theorem dX7_change_370 : decode cX7_change 370 = .ok (.aload_n 0, 1) := by decide +kernel
theorem dX7_change_371 : decode cX7_change 371 = .ok (.aload_n 0, 1) := by decide +kernel
theorem dX7_change_372 : decode cX7_change 372 = .ok (.getfield 245, 3) := by decide +kernel
theorem dX7_change_375 : decode cX7_change 375 = .ok (.lload 6, 2) := by decide +kernel
theorem dX7_change_377 : decode cX7_change 377 = .ok (.l2d, 1) := by decide +kernel
theorem dX7_change_378 : decode cX7_change 378 = .ok (.dconst 0, 1) := by decide +kernel
theorem dX7_change_379 : decode cX7_change 379 = .ok (.dmul, 1) := by decide +kernel
theorem dX7_change_380 : decode cX7_change 380 = .ok (.dadd, 1) := by decide +kernel
theorem dX7_change_381 : decode cX7_change 381 = .ok (.putfield 245, 3) := by decide +kernel
theorem dX7_change_384 : decode cX7_change 384 = .ok (.aload_n 0, 1) := by decide +kernel
theorem dX7_change_385 : decode cX7_change 385 = .ok (.getfield 20, 3) := by decide +kernel
theorem dX7_change_388 : decode cX7_change 388 = .ok (.iload 5, 2) := by decide +kernel
theorem dX7_change_390 : decode cX7_change 390 = .ok (.laload, 1) := by decide +kernel
theorem dX7_change_391 : decode cX7_change 391 = .ok (.lconst 0, 1) := by decide +kernel
theorem dX7_change_392 : decode cX7_change 392 = .ok (.lcmp, 1) := by decide +kernel
theorem dX7_change_393 : decode cX7_change 393 = .ok (.ifCond .le 43, 3) := by decide +kernel
theorem dX7_change_396 : decode cX7_change 396 = .ok (.aload_n 0, 1) := by decide +kernel
theorem dX7_change_397 : decode cX7_change 397 = .ok (.getfield 24, 3) := by decide +kernel
theorem dX7_change_400 : decode cX7_change 400 = .ok (.iload 5, 2) := by decide +kernel
theorem dX7_change_402 : decode cX7_change 402 = .ok (.aload_n 0, 1) := by decide +kernel
theorem dX7_change_403 : decode cX7_change 403 = .ok (.getfield 240, 3) := by decide +kernel
theorem dX7_change_406 : decode cX7_change 406 = .ok (.aload_n 0, 1) := by decide +kernel
theorem dX7_change_407 : decode cX7_change 407 = .ok (.getfield 20, 3) := by decide +kernel
theorem dX7_change_410 : decode cX7_change 410 = .ok (.iload 5, 2) := by decide +kernel
theorem dX7_change_412 : decode cX7_change 412 = .ok (.laload, 1) := by decide +kernel
theorem dX7_change_413 : decode cX7_change 413 = .ok (.l2d, 1) := by decide +kernel
theorem dX7_change_414 : decode cX7_change 414 = .ok (.ddiv, 1) := by decide +kernel
theorem dX7_change_415 : decode cX7_change 415 = .ok (.dastore, 1) := by decide +kernel
theorem dX7_change_416 : decode cX7_change 416 = .ok (.aload_n 0, 1) := by decide +kernel
theorem dX7_change_417 : decode cX7_change 417 = .ok (.getfield 27, 3) := by decide +kernel
theorem dX7_change_420 : decode cX7_change 420 = .ok (.iload 5, 2) := by decide +kernel
theorem dX7_change_422 : decode cX7_change 422 = .ok (.aload_n 0, 1) := by decide +kernel
theorem dX7_change_423 : decode cX7_change 423 = .ok (.getfield 245, 3) := by decide +kernel
theorem dX7_change_426 : decode cX7_change 426 = .ok (.aload_n 0, 1) := by decide +kernel
theorem dX7_change_427 : decode cX7_change 427 = .ok (.getfield 20, 3) := by decide +kernel
theorem dX7_change_430 : decode cX7_change 430 = .ok (.iload 5, 2) := by decide +kernel
theorem dX7_change_432 : decode cX7_change 432 = .ok (.laload, 1) := by decide +kernel
theorem dX7_change_433 : decode cX7_change 433 = .ok (.l2d, 1) := by decide +kernel
theorem dX7_change_434 : decode cX7_change 434 = .ok (.ddiv, 1) := by decide +kernel
theorem dX7_change_435 : decode cX7_change 435 = .ok (.dastore, 1) := by decide +kernel
theorem dX7_change_436 : decode cX7_change 436 = .ok (.aload_n 0, 1) := by decide +kernel
theorem dX7_change_437 : decode cX7_change 437 = .ok (.getfield 250, 3) := by decide +kernel
theorem dX7_change_440 : decode cX7_change 440 = .ok (.ldc2_w 266, 3) := by decide +kernel
theorem dX7_change_443 : decode cX7_change 443 = .ok (.dcmp .l, 1) := by decide +kernel
theorem dX7_change_444 : decode cX7_change 444 = .ok (.ifCond .le 32, 3) := by decide +kernel
theorem dX7_change_447 : decode cX7_change 447 = .ok (.aload_n 0, 1) := by decide +kernel
theorem dX7_change_448 : decode cX7_change 448 = .ok (.getfield 30, 3) := by decide +kernel
theorem dX7_change_451 : decode cX7_change 451 = .ok (.iload 5, 2) := by decide +kernel
theorem dX7_change_453 : decode cX7_change 453 = .ok (.aload_n 0, 1) := by decide +kernel
theorem dX7_change_454 : decode cX7_change 454 = .ok (.getfield 30, 3) := by decide +kernel
theorem dX7_change_457 : decode cX7_change 457 = .ok (.iload 5, 2) := by decide +kernel
theorem dX7_change_459 : decode cX7_change 459 = .ok (.daload, 1) := by decide +kernel
theorem dX7_change_460 : decode cX7_change 460 = .ok (.ldc2_w 196, 3) := by decide +kernel
theorem dX7_change_463 : decode cX7_change 463 = .ok (.dload_n 3, 1) := by decide +kernel
theorem dX7_change_464 : decode cX7_change 464 = .ok (.dmul, 1) := by decide +kernel
theorem dX7_change_465 : decode cX7_change 465 = .ok (.aload_n 0, 1) := by decide +kernel
theorem dX7_change_466 : decode cX7_change 466 = .ok (.getfield 250, 3) := by decide +kernel
theorem dX7_change_469 : decode cX7_change 469 = .ok (.ldc2_w 266, 3) := by decide +kernel
theorem dX7_change_472 : decode cX7_change 472 = .ok (.dsub, 1) := by decide +kernel
theorem dX7_change_473 : decode cX7_change 473 = .ok (.dmul, 1) := by decide +kernel
theorem dX7_change_474 : decode cX7_change 474 = .ok (.dadd, 1) := by decide +kernel
theorem dX7_change_475 : decode cX7_change 475 = .ok (.dastore, 1) := by decide +kernel
theorem dX7_change_476 : decode cX7_change 476 = .ok (.return_, 1) := by decide +kernel
theorem dX7_run_0 : decode cX7_run 0 = .ok (.iload_n 1, 1) := by decide +kernel
theorem dX7_run_1 : decode cX7_run 1 = .ok (.ifCond .lt 21, 3) := by decide +kernel
theorem dX7_run_4 : decode cX7_run 4 = .ok (.iload_n 1, 1) := by decide +kernel
theorem dX7_run_5 : decode cX7_run 5 = .ok (.sipush 200, 3) := by decide +kernel
theorem dX7_run_8 : decode cX7_run 8 = .ok (.if_icmp .gt 14, 3) := by decide +kernel
theorem dX7_run_11 : decode cX7_run 11 = .ok (.dload_n 2, 1) := by decide +kernel
theorem dX7_run_12 : decode cX7_run 12 = .ok (.dconst 1, 1) := by decide +kernel
theorem dX7_run_13 : decode cX7_run 13 = .ok (.ldc2_w 268, 3) := by decide +kernel
theorem dX7_run_16 : decode cX7_run 16 = .ok (.invokestatic 152, 3) := by decide +kernel
theorem dX7_run_19 : decode cX7_run 19 = .ok (.ifCond .ne 5, 3) := by decide +kernel
theorem dX7_run_22 : decode cX7_run 22 = .ok (.iconst (-1), 1) := by decide +kernel
theorem dX7_run_23 : decode cX7_run 23 = .ok (.ireturn, 1) := by decide +kernel
theorem dX7_run_24 : decode cX7_run 24 = .ok (.iconst 0, 1) := by decide +kernel
theorem dX7_run_25 : decode cX7_run 25 = .ok (.istore 4, 2) := by decide +kernel
theorem dX7_run_27 : decode cX7_run 27 = .ok (.iload 4, 2) := by decide +kernel
theorem dX7_run_29 : decode cX7_run 29 = .ok (.iload_n 1, 1) := by decide +kernel
theorem dX7_run_30 : decode cX7_run 30 = .ok (.if_icmp .ge 14, 3) := by decide +kernel
theorem dX7_run_33 : decode cX7_run 33 = .ok (.aload_n 0, 1) := by decide +kernel
theorem dX7_run_34 : decode cX7_run 34 = .ok (.dload_n 2, 1) := by decide +kernel
theorem dX7_run_35 : decode cX7_run 35 = .ok (.invokevirtual 270, 3) := by decide +kernel
theorem dX7_run_38 : decode cX7_run 38 = .ok (.iinc 4 1, 3) := by decide +kernel
theorem dX7_run_41 : decode cX7_run 41 = .ok (.goto (-14), 3) := by decide +kernel
theorem dX7_run_44 : decode cX7_run 44 = .ok (.iload_n 1, 1) := by decide +kernel
theorem dX7_run_45 : decode cX7_run 45 = .ok (.ireturn, 1) := by decide +kernel
theorem dX7_level_0 : decode cX7_level 0 = .ok (.aload_n 0, 1) := by decide +kernel
theorem dX7_level_1 : decode cX7_level 1 = .ok (.iload_n 1, 1) := by decide +kernel
theorem dX7_level_2 : decode cX7_level 2 = .ok (.iload_n 2, 1) := by decide +kernel
theorem dX7_level_3 : decode cX7_level 3 = .ok (.invokevirtual 139, 3) := by decide +kernel
theorem dX7_level_6 : decode cX7_level 6 = .ok (.ifCond .eq 15, 3) := by decide +kernel
theorem dX7_level_9 : decode cX7_level 9 = .ok (.aload_n 0, 1) := by decide +kernel
theorem dX7_level_10 : decode cX7_level 10 = .ok (.iload_n 1, 1) := by decide +kernel
theorem dX7_level_11 : decode cX7_level 11 = .ok (.iload_n 2, 1) := by decide +kernel
theorem dX7_level_12 : decode cX7_level 12 = .ok (.invokestatic 135, 3) := by decide +kernel
theorem dX7_level_15 : decode cX7_level 15 = .ok (.invokevirtual 198, 3) := by decide +kernel
theorem dX7_level_18 : decode cX7_level 18 = .ok (.goto 6, 3) := by decide +kernel
theorem dX7_level_21 : decode cX7_level 21 = .ok (.ldc2_w 274, 3) := by decide +kernel
theorem dX7_level_24 : decode cX7_level 24 = .ok (.dreturn, 1) := by decide +kernel
theorem dX7_isLayer_0 : decode cX7_isLayer 0 = .ok (.iload_n 1, 1) := by decide +kernel
theorem dX7_isLayer_1 : decode cX7_isLayer 1 = .ok (.ifCond .lt 15, 3) := by decide +kernel
theorem dX7_isLayer_4 : decode cX7_isLayer 4 = .ok (.iload_n 1, 1) := by decide +kernel
theorem dX7_isLayer_5 : decode cX7_isLayer 5 = .ok (.aload_n 0, 1) := by decide +kernel
theorem dX7_isLayer_6 : decode cX7_isLayer 6 = .ok (.getfield 128, 3) := by decide +kernel
theorem dX7_isLayer_9 : decode cX7_isLayer 9 = .ok (.if_icmp .ge 7, 3) := by decide +kernel
theorem dX7_isLayer_12 : decode cX7_isLayer 12 = .ok (.iconst 1, 1) := by decide +kernel
theorem dX7_isLayer_13 : decode cX7_isLayer 13 = .ok (.goto 4, 3) := by decide +kernel
theorem dX7_isLayer_16 : decode cX7_isLayer 16 = .ok (.iconst 0, 1) := by decide +kernel
theorem dX7_isLayer_17 : decode cX7_isLayer 17 = .ok (.ireturn, 1) := by decide +kernel
theorem dX7_speed_0 : decode cX7_speed 0 = .ok (.aload_n 0, 1) := by decide +kernel
theorem dX7_speed_1 : decode cX7_speed 1 = .ok (.iload_n 1, 1) := by decide +kernel
theorem dX7_speed_2 : decode cX7_speed 2 = .ok (.iload_n 2, 1) := by decide +kernel
theorem dX7_speed_3 : decode cX7_speed 3 = .ok (.invokevirtual 139, 3) := by decide +kernel
theorem dX7_speed_6 : decode cX7_speed 6 = .ok (.ifCond .eq 22, 3) := by decide +kernel
theorem dX7_speed_9 : decode cX7_speed 9 = .ok (.aload_n 0, 1) := by decide +kernel
theorem dX7_speed_10 : decode cX7_speed 10 = .ok (.iload_n 3, 1) := by decide +kernel
theorem dX7_speed_11 : decode cX7_speed 11 = .ok (.invokevirtual 276, 3) := by decide +kernel
theorem dX7_speed_14 : decode cX7_speed 14 = .ok (.ifCond .eq 14, 3) := by decide +kernel
theorem dX7_speed_17 : decode cX7_speed 17 = .ok (.iload 4, 2) := by decide +kernel
theorem dX7_speed_19 : decode cX7_speed 19 = .ok (.ifCond .lt 9, 3) := by decide +kernel
theorem dX7_speed_22 : decode cX7_speed 22 = .ok (.iload 4, 2) := by decide +kernel
theorem dX7_speed_24 : decode cX7_speed 24 = .ok (.iconst 1, 1) := by decide +kernel
theorem dX7_speed_25 : decode cX7_speed 25 = .ok (.if_icmp .le 5, 3) := by decide +kernel
theorem dX7_speed_28 : decode cX7_speed 28 = .ok (.dconst 0, 1) := by decide +kernel
theorem dX7_speed_29 : decode cX7_speed 29 = .ok (.dreturn, 1) := by decide +kernel
theorem dX7_speed_30 : decode cX7_speed 30 = .ok (.iload 4, 2) := by decide +kernel
theorem dX7_speed_32 : decode cX7_speed 32 = .ok (.ifCond .ne 7, 3) := by decide +kernel
theorem dX7_speed_35 : decode cX7_speed 35 = .ok (.iconst 1, 1) := by decide +kernel
theorem dX7_speed_36 : decode cX7_speed 36 = .ok (.goto 4, 3) := by decide +kernel
theorem dX7_speed_39 : decode cX7_speed 39 = .ok (.iconst 3, 1) := by decide +kernel
theorem dX7_speed_40 : decode cX7_speed 40 = .ok (.istore 5, 2) := by decide +kernel
theorem dX7_speed_42 : decode cX7_speed 42 = .ok (.aload_n 0, 1) := by decide +kernel
theorem dX7_speed_43 : decode cX7_speed 43 = .ok (.iload_n 1, 1) := by decide +kernel
theorem dX7_speed_44 : decode cX7_speed 44 = .ok (.iload_n 2, 1) := by decide +kernel
theorem dX7_speed_45 : decode cX7_speed 45 = .ok (.iload 4, 2) := by decide +kernel
theorem dX7_speed_47 : decode cX7_speed 47 = .ok (.invokevirtual 223, 3) := by decide +kernel
theorem dX7_speed_50 : decode cX7_speed 50 = .ok (.ifCond .eq 23, 3) := by decide +kernel
theorem dX7_speed_53 : decode cX7_speed 53 = .ok (.aload_n 0, 1) := by decide +kernel
theorem dX7_speed_54 : decode cX7_speed 54 = .ok (.getfield 33, 3) := by decide +kernel
theorem dX7_speed_57 : decode cX7_speed 57 = .ok (.sipush 144, 3) := by decide +kernel
theorem dX7_speed_60 : decode cX7_speed 60 = .ok (.iload 4, 2) := by decide +kernel
theorem dX7_speed_62 : decode cX7_speed 62 = .ok (.imul, 1) := by decide +kernel
theorem dX7_speed_63 : decode cX7_speed 63 = .ok (.iload_n 1, 1) := by decide +kernel
theorem dX7_speed_64 : decode cX7_speed 64 = .ok (.iload_n 2, 1) := by decide +kernel
theorem dX7_speed_65 : decode cX7_speed 65 = .ok (.invokestatic 135, 3) := by decide +kernel
theorem dX7_speed_68 : decode cX7_speed 68 = .ok (.iadd, 1) := by decide +kernel
theorem dX7_speed_69 : decode cX7_speed 69 = .ok (.daload, 1) := by decide +kernel
theorem dX7_speed_70 : decode cX7_speed 70 = .ok (.goto 30, 3) := by decide +kernel
theorem dX7_speed_73 : decode cX7_speed 73 = .ok (.aload_n 0, 1) := by decide +kernel
theorem dX7_speed_74 : decode cX7_speed 74 = .ok (.iload_n 1, 1) := by decide +kernel
theorem dX7_speed_75 : decode cX7_speed 75 = .ok (.iload_n 2, 1) := by decide +kernel
theorem dX7_speed_76 : decode cX7_speed 76 = .ok (.iload 5, 2) := by decide +kernel
theorem dX7_speed_78 : decode cX7_speed 78 = .ok (.invokevirtual 230, 3) := by decide +kernel
theorem dX7_speed_81 : decode cX7_speed 81 = .ok (.ifCond .eq 18, 3) := by decide +kernel
theorem dX7_speed_84 : decode cX7_speed 84 = .ok (.aload_n 0, 1) := by decide +kernel
theorem dX7_speed_85 : decode cX7_speed 85 = .ok (.getfield 33, 3) := by decide +kernel
theorem dX7_speed_88 : decode cX7_speed 88 = .ok (.iload_n 1, 1) := by decide +kernel
theorem dX7_speed_89 : decode cX7_speed 89 = .ok (.iload_n 2, 1) := by decide +kernel
theorem dX7_speed_90 : decode cX7_speed 90 = .ok (.iload 5, 2) := by decide +kernel
theorem dX7_speed_92 : decode cX7_speed 92 = .ok (.invokestatic 164, 3) := by decide +kernel
theorem dX7_speed_95 : decode cX7_speed 95 = .ok (.daload, 1) := by decide +kernel
theorem dX7_speed_96 : decode cX7_speed 96 = .ok (.goto 4, 3) := by decide +kernel
theorem dX7_speed_99 : decode cX7_speed 99 = .ok (.dconst 0, 1) := by decide +kernel
theorem dX7_speed_100 : decode cX7_speed 100 = .ok (.dstore 6, 2) := by decide +kernel
theorem dX7_speed_102 : decode cX7_speed 102 = .ok (.dload 6, 2) := by decide +kernel
theorem dX7_speed_104 : decode cX7_speed 104 = .ok (.dconst 1, 1) := by decide +kernel
theorem dX7_speed_105 : decode cX7_speed 105 = .ok (.ldc2_w 279, 3) := by decide +kernel
theorem dX7_speed_108 : decode cX7_speed 108 = .ok (.aload_n 0, 1) := by decide +kernel
theorem dX7_speed_109 : decode cX7_speed 109 = .ok (.getfield 128, 3) := by decide +kernel
theorem dX7_speed_112 : decode cX7_speed 112 = .ok (.iconst 1, 1) := by decide +kernel
theorem dX7_speed_113 : decode cX7_speed 113 = .ok (.isub, 1) := by decide +kernel
theorem dX7_speed_114 : decode cX7_speed 114 = .ok (.iconst 2, 1) := by decide +kernel
theorem dX7_speed_115 : decode cX7_speed 115 = .ok (.iload_n 3, 1) := by decide +kernel
theorem dX7_speed_116 : decode cX7_speed 116 = .ok (.imul, 1) := by decide +kernel
theorem dX7_speed_117 : decode cX7_speed 117 = .ok (.isub, 1) := by decide +kernel
theorem dX7_speed_118 : decode cX7_speed 118 = .ok (.i2d, 1) := by decide +kernel
theorem dX7_speed_119 : decode cX7_speed 119 = .ok (.dmul, 1) := by decide +kernel
theorem dX7_speed_120 : decode cX7_speed 120 = .ok (.dadd, 1) := by decide +kernel
theorem dX7_speed_121 : decode cX7_speed 121 = .ok (.dmul, 1) := by decide +kernel
theorem dX7_speed_122 : decode cX7_speed 122 = .ok (.dreturn, 1) := by decide +kernel
theorem dX7_total_0 : decode cX7_total 0 = .ok (.lconst 0, 1) := by decide +kernel
theorem dX7_total_1 : decode cX7_total 1 = .ok (.lstore_n 1, 1) := by decide +kernel
theorem dX7_total_2 : decode cX7_total 2 = .ok (.iconst 0, 1) := by decide +kernel
theorem dX7_total_3 : decode cX7_total 3 = .ok (.istore_n 3, 1) := by decide +kernel
theorem dX7_total_4 : decode cX7_total 4 = .ok (.iload_n 3, 1) := by decide +kernel
theorem dX7_total_5 : decode cX7_total 5 = .ok (.sipush 144, 3) := by decide +kernel
theorem dX7_total_8 : decode cX7_total 8 = .ok (.if_icmp .ge 18, 3) := by decide +kernel
theorem dX7_total_11 : decode cX7_total 11 = .ok (.lload_n 1, 1) := by decide +kernel
theorem dX7_total_12 : decode cX7_total 12 = .ok (.aload_n 0, 1) := by decide +kernel
theorem dX7_total_13 : decode cX7_total 13 = .ok (.getfield 20, 3) := by decide +kernel
theorem dX7_total_16 : decode cX7_total 16 = .ok (.iload_n 3, 1) := by decide +kernel
theorem dX7_total_17 : decode cX7_total 17 = .ok (.laload, 1) := by decide +kernel
theorem dX7_total_18 : decode cX7_total 18 = .ok (.ladd, 1) := by decide +kernel
theorem dX7_total_19 : decode cX7_total 19 = .ok (.lstore_n 1, 1) := by decide +kernel
theorem dX7_total_20 : decode cX7_total 20 = .ok (.iinc 3 1, 3) := by decide +kernel
theorem dX7_total_23 : decode cX7_total 23 = .ok (.goto (-19), 3) := by decide +kernel
theorem dX7_total_26 : decode cX7_total 26 = .ok (.lload_n 1, 1) := by decide +kernel
theorem dX7_total_27 : decode cX7_total 27 = .ok (.lreturn, 1) := by decide +kernel
theorem dX7_limb_0 : decode cX7_limb 0 = .ok (.iload_n 2, 1) := by decide +kernel
theorem dX7_limb_1 : decode cX7_limb 1 = .ok (.ifCond .ne 11, 3) := by decide +kernel
theorem dX7_limb_4 : decode cX7_limb 4 = .ok (.lload_n 0, 1) := by decide +kernel
theorem dX7_limb_5 : decode cX7_limb 5 = .ok (.ldc2_w 281, 3) := by decide +kernel
theorem dX7_limb_8 : decode cX7_limb 8 = .ok (.land, 1) := by decide +kernel
theorem dX7_limb_9 : decode cX7_limb 9 = .ok (.goto 18, 3) := by decide +kernel
theorem dX7_limb_12 : decode cX7_limb 12 = .ok (.iload_n 2, 1) := by decide +kernel
theorem dX7_limb_13 : decode cX7_limb 13 = .ok (.iconst 1, 1) := by decide +kernel
theorem dX7_limb_14 : decode cX7_limb 14 = .ok (.if_icmp .ne 10, 3) := by decide +kernel
theorem dX7_limb_17 : decode cX7_limb 17 = .ok (.lload_n 0, 1) := by decide +kernel
theorem dX7_limb_18 : decode cX7_limb 18 = .ok (.bipush 32, 2) := by decide +kernel
theorem dX7_limb_20 : decode cX7_limb 20 = .ok (.lshr, 1) := by decide +kernel
theorem dX7_limb_21 : decode cX7_limb 21 = .ok (.goto 6, 3) := by decide +kernel
theorem dX7_limb_24 : decode cX7_limb 24 = .ok (.ldc2_w 283, 3) := by decide +kernel
theorem dX7_limb_27 : decode cX7_limb 27 = .ok (.lreturn, 1) := by decide +kernel
theorem dX7_volume_0 : decode cX7_volume 0 = .ok (.aload_n 0, 1) := by decide +kernel
theorem dX7_volume_1 : decode cX7_volume 1 = .ok (.invokevirtual 285, 3) := by decide +kernel
theorem dX7_volume_4 : decode cX7_volume 4 = .ok (.iload_n 1, 1) := by decide +kernel
theorem dX7_volume_5 : decode cX7_volume 5 = .ok (.invokestatic 289, 3) := by decide +kernel
theorem dX7_volume_8 : decode cX7_volume 8 = .ok (.lreturn, 1) := by decide +kernel
theorem dX7_through_0 : decode cX7_through 0 = .ok (.iload_n 1, 1) := by decide +kernel
theorem dX7_through_1 : decode cX7_through 1 = .ok (.ifCond .lt 8, 3) := by decide +kernel
theorem dX7_through_4 : decode cX7_through 4 = .ok (.iload_n 1, 1) := by decide +kernel
theorem dX7_through_5 : decode cX7_through 5 = .ok (.iconst 3, 1) := by decide +kernel
theorem dX7_through_6 : decode cX7_through 6 = .ok (.if_icmp .le 9, 3) := by decide +kernel
theorem dX7_through_9 : decode cX7_through 9 = .ok (.ldc2_w 283, 3) := by decide +kernel
theorem dX7_through_12 : decode cX7_through 12 = .ok (.goto 13, 3) := by decide +kernel
theorem dX7_through_15 : decode cX7_through 15 = .ok (.aload_n 0, 1) := by decide +kernel
theorem dX7_through_16 : decode cX7_through 16 = .ok (.getfield 36, 3) := by decide +kernel
theorem dX7_through_19 : decode cX7_through 19 = .ok (.iload_n 1, 1) := by decide +kernel
theorem dX7_through_20 : decode cX7_through 20 = .ok (.laload, 1) := by decide +kernel
theorem dX7_through_21 : decode cX7_through 21 = .ok (.iload_n 2, 1) := by decide +kernel
theorem dX7_through_22 : decode cX7_through 22 = .ok (.invokestatic 289, 3) := by decide +kernel
theorem dX7_through_25 : decode cX7_through 25 = .ok (.lreturn, 1) := by decide +kernel
theorem dX7_kept_0 : decode cX7_kept 0 = .ok (.aload_n 0, 1) := by decide +kernel
theorem dX7_kept_1 : decode cX7_kept 1 = .ok (.invokevirtual 285, 3) := by decide +kernel
theorem dX7_kept_4 : decode cX7_kept 4 = .ok (.aload_n 0, 1) := by decide +kernel
theorem dX7_kept_5 : decode cX7_kept 5 = .ok (.getfield 156, 3) := by decide +kernel
theorem dX7_kept_8 : decode cX7_kept 8 = .ok (.aload_n 0, 1) := by decide +kernel
theorem dX7_kept_9 : decode cX7_kept 9 = .ok (.getfield 36, 3) := by decide +kernel
theorem dX7_kept_12 : decode cX7_kept 12 = .ok (.iconst 0, 1) := by decide +kernel
theorem dX7_kept_13 : decode cX7_kept 13 = .ok (.laload, 1) := by decide +kernel
theorem dX7_kept_14 : decode cX7_kept 14 = .ok (.ladd, 1) := by decide +kernel
theorem dX7_kept_15 : decode cX7_kept 15 = .ok (.aload_n 0, 1) := by decide +kernel
theorem dX7_kept_16 : decode cX7_kept 16 = .ok (.getfield 36, 3) := by decide +kernel
theorem dX7_kept_19 : decode cX7_kept 19 = .ok (.iconst 1, 1) := by decide +kernel
theorem dX7_kept_20 : decode cX7_kept 20 = .ok (.laload, 1) := by decide +kernel
theorem dX7_kept_21 : decode cX7_kept 21 = .ok (.ladd, 1) := by decide +kernel
theorem dX7_kept_22 : decode cX7_kept 22 = .ok (.aload_n 0, 1) := by decide +kernel
theorem dX7_kept_23 : decode cX7_kept 23 = .ok (.getfield 36, 3) := by decide +kernel
theorem dX7_kept_26 : decode cX7_kept 26 = .ok (.iconst 2, 1) := by decide +kernel
theorem dX7_kept_27 : decode cX7_kept 27 = .ok (.laload, 1) := by decide +kernel
theorem dX7_kept_28 : decode cX7_kept 28 = .ok (.ladd, 1) := by decide +kernel
theorem dX7_kept_29 : decode cX7_kept 29 = .ok (.aload_n 0, 1) := by decide +kernel
theorem dX7_kept_30 : decode cX7_kept 30 = .ok (.getfield 36, 3) := by decide +kernel
theorem dX7_kept_33 : decode cX7_kept 33 = .ok (.iconst 3, 1) := by decide +kernel
theorem dX7_kept_34 : decode cX7_kept 34 = .ok (.laload, 1) := by decide +kernel
theorem dX7_kept_35 : decode cX7_kept 35 = .ok (.ladd, 1) := by decide +kernel
theorem dX7_kept_36 : decode cX7_kept 36 = .ok (.aload_n 0, 1) := by decide +kernel
theorem dX7_kept_37 : decode cX7_kept 37 = .ok (.getfield 261, 3) := by decide +kernel
theorem dX7_kept_40 : decode cX7_kept 40 = .ok (.ladd, 1) := by decide +kernel
theorem dX7_kept_41 : decode cX7_kept 41 = .ok (.lcmp, 1) := by decide +kernel
theorem dX7_kept_42 : decode cX7_kept 42 = .ok (.ifCond .ne 7, 3) := by decide +kernel
theorem dX7_kept_45 : decode cX7_kept 45 = .ok (.iconst 1, 1) := by decide +kernel
theorem dX7_kept_46 : decode cX7_kept 46 = .ok (.goto 4, 3) := by decide +kernel
theorem dX7_kept_49 : decode cX7_kept 49 = .ok (.iconst 0, 1) := by decide +kernel
theorem dX7_kept_50 : decode cX7_kept 50 = .ok (.ireturn, 1) := by decide +kernel
theorem dX7_warm_0 : decode cX7_warm 0 = .ok (.aload_n 0, 1) := by decide +kernel
theorem dX7_warm_1 : decode cX7_warm 1 = .ok (.iload_n 1, 1) := by decide +kernel
theorem dX7_warm_2 : decode cX7_warm 2 = .ok (.iload_n 2, 1) := by decide +kernel
theorem dX7_warm_3 : decode cX7_warm 3 = .ok (.invokevirtual 139, 3) := by decide +kernel
theorem dX7_warm_6 : decode cX7_warm 6 = .ok (.ifCond .eq 31, 3) := by decide +kernel
theorem dX7_warm_9 : decode cX7_warm 9 = .ok (.aload_n 0, 1) := by decide +kernel
theorem dX7_warm_10 : decode cX7_warm 10 = .ok (.iload_n 3, 1) := by decide +kernel
theorem dX7_warm_11 : decode cX7_warm 11 = .ok (.invokevirtual 276, 3) := by decide +kernel
theorem dX7_warm_14 : decode cX7_warm 14 = .ok (.ifCond .eq 23, 3) := by decide +kernel
theorem dX7_warm_17 : decode cX7_warm 17 = .ok (.aload_n 0, 1) := by decide +kernel
theorem dX7_warm_18 : decode cX7_warm 18 = .ok (.getfield 24, 3) := by decide +kernel
theorem dX7_warm_21 : decode cX7_warm 21 = .ok (.iload_n 1, 1) := by decide +kernel
theorem dX7_warm_22 : decode cX7_warm 22 = .ok (.iload_n 2, 1) := by decide +kernel
theorem dX7_warm_23 : decode cX7_warm 23 = .ok (.invokestatic 135, 3) := by decide +kernel
theorem dX7_warm_26 : decode cX7_warm 26 = .ok (.daload, 1) := by decide +kernel
theorem dX7_warm_27 : decode cX7_warm 27 = .ok (.ldc2_w 180, 3) := by decide +kernel
theorem dX7_warm_30 : decode cX7_warm 30 = .ok (.iload_n 3, 1) := by decide +kernel
theorem dX7_warm_31 : decode cX7_warm 31 = .ok (.i2d, 1) := by decide +kernel
theorem dX7_warm_32 : decode cX7_warm 32 = .ok (.dmul, 1) := by decide +kernel
theorem dX7_warm_33 : decode cX7_warm 33 = .ok (.dsub, 1) := by decide +kernel
theorem dX7_warm_34 : decode cX7_warm 34 = .ok (.goto 6, 3) := by decide +kernel
theorem dX7_warm_37 : decode cX7_warm 37 = .ok (.ldc2_w 274, 3) := by decide +kernel
theorem dX7_warm_40 : decode cX7_warm 40 = .ok (.dreturn, 1) := by decide +kernel
theorem dX7_salt_0 : decode cX7_salt 0 = .ok (.aload_n 0, 1) := by decide +kernel
theorem dX7_salt_1 : decode cX7_salt 1 = .ok (.iload_n 1, 1) := by decide +kernel
theorem dX7_salt_2 : decode cX7_salt 2 = .ok (.iload_n 2, 1) := by decide +kernel
theorem dX7_salt_3 : decode cX7_salt 3 = .ok (.invokevirtual 139, 3) := by decide +kernel
theorem dX7_salt_6 : decode cX7_salt 6 = .ok (.ifCond .eq 31, 3) := by decide +kernel
theorem dX7_salt_9 : decode cX7_salt 9 = .ok (.aload_n 0, 1) := by decide +kernel
theorem dX7_salt_10 : decode cX7_salt 10 = .ok (.iload_n 3, 1) := by decide +kernel
theorem dX7_salt_11 : decode cX7_salt 11 = .ok (.invokevirtual 276, 3) := by decide +kernel
theorem dX7_salt_14 : decode cX7_salt 14 = .ok (.ifCond .eq 23, 3) := by decide +kernel
theorem dX7_salt_17 : decode cX7_salt 17 = .ok (.aload_n 0, 1) := by decide +kernel
theorem dX7_salt_18 : decode cX7_salt 18 = .ok (.getfield 27, 3) := by decide +kernel
theorem dX7_salt_21 : decode cX7_salt 21 = .ok (.iload_n 1, 1) := by decide +kernel
theorem dX7_salt_22 : decode cX7_salt 22 = .ok (.iload_n 2, 1) := by decide +kernel
theorem dX7_salt_23 : decode cX7_salt 23 = .ok (.invokestatic 135, 3) := by decide +kernel
theorem dX7_salt_26 : decode cX7_salt 26 = .ok (.daload, 1) := by decide +kernel
theorem dX7_salt_27 : decode cX7_salt 27 = .ok (.ldc2_w 293, 3) := by decide +kernel
theorem dX7_salt_30 : decode cX7_salt 30 = .ok (.iload_n 3, 1) := by decide +kernel
theorem dX7_salt_31 : decode cX7_salt 31 = .ok (.i2d, 1) := by decide +kernel
theorem dX7_salt_32 : decode cX7_salt 32 = .ok (.dmul, 1) := by decide +kernel
theorem dX7_salt_33 : decode cX7_salt 33 = .ok (.dadd, 1) := by decide +kernel
theorem dX7_salt_34 : decode cX7_salt 34 = .ok (.goto 6, 3) := by decide +kernel
theorem dX7_salt_37 : decode cX7_salt 37 = .ok (.ldc2_w 274, 3) := by decide +kernel
theorem dX7_salt_40 : decode cX7_salt 40 = .ok (.dreturn, 1) := by decide +kernel
theorem dX7_dry_0 : decode cX7_dry 0 = .ok (.aload_n 0, 1) := by decide +kernel
theorem dX7_dry_1 : decode cX7_dry 1 = .ok (.iload_n 1, 1) := by decide +kernel
theorem dX7_dry_2 : decode cX7_dry 2 = .ok (.iload_n 2, 1) := by decide +kernel
theorem dX7_dry_3 : decode cX7_dry 3 = .ok (.invokevirtual 139, 3) := by decide +kernel
theorem dX7_dry_6 : decode cX7_dry 6 = .ok (.ifCond .eq 20, 3) := by decide +kernel
theorem dX7_dry_9 : decode cX7_dry 9 = .ok (.aload_n 0, 1) := by decide +kernel
theorem dX7_dry_10 : decode cX7_dry 10 = .ok (.getfield 20, 3) := by decide +kernel
theorem dX7_dry_13 : decode cX7_dry 13 = .ok (.iload_n 1, 1) := by decide +kernel
theorem dX7_dry_14 : decode cX7_dry 14 = .ok (.iload_n 2, 1) := by decide +kernel
theorem dX7_dry_15 : decode cX7_dry 15 = .ok (.invokestatic 135, 3) := by decide +kernel
theorem dX7_dry_18 : decode cX7_dry 18 = .ok (.laload, 1) := by decide +kernel
theorem dX7_dry_19 : decode cX7_dry 19 = .ok (.ldc2_w 221, 3) := by decide +kernel
theorem dX7_dry_22 : decode cX7_dry 22 = .ok (.lcmp, 1) := by decide +kernel
theorem dX7_dry_23 : decode cX7_dry 23 = .ok (.ifCond .ge 7, 3) := by decide +kernel
theorem dX7_dry_26 : decode cX7_dry 26 = .ok (.iconst 1, 1) := by decide +kernel
theorem dX7_dry_27 : decode cX7_dry 27 = .ok (.goto 4, 3) := by decide +kernel
theorem dX7_dry_30 : decode cX7_dry 30 = .ok (.iconst 0, 1) := by decide +kernel
theorem dX7_dry_31 : decode cX7_dry 31 = .ok (.ireturn, 1) := by decide +kernel
theorem dX7_nest_0 : decode cX7_nest 0 = .ok (.aload_n 0, 1) := by decide +kernel
theorem dX7_nest_1 : decode cX7_nest 1 = .ok (.iload_n 1, 1) := by decide +kernel
theorem dX7_nest_2 : decode cX7_nest 2 = .ok (.iload_n 2, 1) := by decide +kernel
theorem dX7_nest_3 : decode cX7_nest 3 = .ok (.invokevirtual 139, 3) := by decide +kernel
theorem dX7_nest_6 : decode cX7_nest 6 = .ok (.ifCond .eq 36, 3) := by decide +kernel
theorem dX7_nest_9 : decode cX7_nest 9 = .ok (.aload_n 0, 1) := by decide +kernel
theorem dX7_nest_10 : decode cX7_nest 10 = .ok (.getfield 70, 3) := by decide +kernel
theorem dX7_nest_13 : decode cX7_nest 13 = .ok (.iload_n 1, 1) := by decide +kernel
theorem dX7_nest_14 : decode cX7_nest 14 = .ok (.iload_n 2, 1) := by decide +kernel
theorem dX7_nest_15 : decode cX7_nest 15 = .ok (.invokestatic 135, 3) := by decide +kernel
theorem dX7_nest_18 : decode cX7_nest 18 = .ok (.baload, 1) := by decide +kernel
theorem dX7_nest_19 : decode cX7_nest 19 = .ok (.ifCond .ne 23, 3) := by decide +kernel
theorem dX7_nest_22 : decode cX7_nest 22 = .ok (.iload_n 3, 1) := by decide +kernel
theorem dX7_nest_23 : decode cX7_nest 23 = .ok (.iconst 2, 1) := by decide +kernel
theorem dX7_nest_24 : decode cX7_nest 24 = .ok (.if_icmp .lt 18, 3) := by decide +kernel
theorem dX7_nest_27 : decode cX7_nest 27 = .ok (.iload_n 3, 1) := by decide +kernel
theorem dX7_nest_28 : decode cX7_nest 28 = .ok (.bipush 8, 2) := by decide +kernel
theorem dX7_nest_30 : decode cX7_nest 30 = .ok (.if_icmp .gt 12, 3) := by decide +kernel
theorem dX7_nest_33 : decode cX7_nest 33 = .ok (.aload_n 0, 1) := by decide +kernel
theorem dX7_nest_34 : decode cX7_nest 34 = .ok (.getfield 168, 3) := by decide +kernel
theorem dX7_nest_37 : decode cX7_nest 37 = .ok (.bipush 10, 2) := by decide +kernel
theorem dX7_nest_39 : decode cX7_nest 39 = .ok (.if_icmp .ne 5, 3) := by decide +kernel
theorem dX7_nest_42 : decode cX7_nest 42 = .ok (.iconst (-1), 1) := by decide +kernel
theorem dX7_nest_43 : decode cX7_nest 43 = .ok (.ireturn, 1) := by decide +kernel
theorem dX7_nest_44 : decode cX7_nest 44 = .ok (.aload_n 0, 1) := by decide +kernel
theorem dX7_nest_45 : decode cX7_nest 45 = .ok (.getfield 66, 3) := by decide +kernel
theorem dX7_nest_48 : decode cX7_nest 48 = .ok (.aload_n 0, 1) := by decide +kernel
theorem dX7_nest_49 : decode cX7_nest 49 = .ok (.getfield 168, 3) := by decide +kernel
theorem dX7_nest_52 : decode cX7_nest 52 = .ok (.iload_n 1, 1) := by decide +kernel
theorem dX7_nest_53 : decode cX7_nest 53 = .ok (.iload_n 2, 1) := by decide +kernel
theorem dX7_nest_54 : decode cX7_nest 54 = .ok (.invokestatic 135, 3) := by decide +kernel
theorem dX7_nest_57 : decode cX7_nest 57 = .ok (.iastore, 1) := by decide +kernel
theorem dX7_nest_58 : decode cX7_nest 58 = .ok (.aload_n 0, 1) := by decide +kernel
theorem dX7_nest_59 : decode cX7_nest 59 = .ok (.getfield 73, 3) := by decide +kernel
theorem dX7_nest_62 : decode cX7_nest 62 = .ok (.aload_n 0, 1) := by decide +kernel
theorem dX7_nest_63 : decode cX7_nest 63 = .ok (.getfield 168, 3) := by decide +kernel
theorem dX7_nest_66 : decode cX7_nest 66 = .ok (.iconst 1, 1) := by decide +kernel
theorem dX7_nest_67 : decode cX7_nest 67 = .ok (.bastore, 1) := by decide +kernel
theorem dX7_nest_68 : decode cX7_nest 68 = .ok (.aload_n 0, 1) := by decide +kernel
theorem dX7_nest_69 : decode cX7_nest 69 = .ok (.getfield 70, 3) := by decide +kernel
theorem dX7_nest_72 : decode cX7_nest 72 = .ok (.iload_n 1, 1) := by decide +kernel
theorem dX7_nest_73 : decode cX7_nest 73 = .ok (.iload_n 2, 1) := by decide +kernel
theorem dX7_nest_74 : decode cX7_nest 74 = .ok (.invokestatic 135, 3) := by decide +kernel
theorem dX7_nest_77 : decode cX7_nest 77 = .ok (.iconst 1, 1) := by decide +kernel
theorem dX7_nest_78 : decode cX7_nest 78 = .ok (.bastore, 1) := by decide +kernel
theorem dX7_nest_79 : decode cX7_nest 79 = .ok (.aload_n 0, 1) := by decide +kernel
theorem dX7_nest_80 : decode cX7_nest 80 = .ok (.dup, 1) := by decide +kernel
theorem dX7_nest_81 : decode cX7_nest 81 = .ok (.getfield 168, 3) := by decide +kernel
theorem dX7_nest_84 : decode cX7_nest 84 = .ok (.iconst 1, 1) := by decide +kernel
theorem dX7_nest_85 : decode cX7_nest 85 = .ok (.iadd, 1) := by decide +kernel
theorem dX7_nest_86 : decode cX7_nest 86 = .ok (.putfield 168, 3) := by decide +kernel
theorem dX7_nest_89 : decode cX7_nest 89 = .ok (.aload_n 0, 1) := by decide +kernel
theorem dX7_nest_90 : decode cX7_nest 90 = .ok (.dup, 1) := by decide +kernel
theorem dX7_nest_91 : decode cX7_nest 91 = .ok (.getfield 171, 3) := by decide +kernel
theorem dX7_nest_94 : decode cX7_nest 94 = .ok (.iconst 1, 1) := by decide +kernel
theorem dX7_nest_95 : decode cX7_nest 95 = .ok (.iadd, 1) := by decide +kernel
theorem dX7_nest_96 : decode cX7_nest 96 = .ok (.putfield 171, 3) := by decide +kernel
theorem dX7_nest_99 : decode cX7_nest 99 = .ok (.aload_n 0, 1) := by decide +kernel
theorem dX7_nest_100 : decode cX7_nest 100 = .ok (.getfield 168, 3) := by decide +kernel
theorem dX7_nest_103 : decode cX7_nest 103 = .ok (.iconst 1, 1) := by decide +kernel
theorem dX7_nest_104 : decode cX7_nest 104 = .ok (.isub, 1) := by decide +kernel
theorem dX7_nest_105 : decode cX7_nest 105 = .ok (.ireturn, 1) := by decide +kernel
theorem dX7_equal_0 : decode cX7_equal 0 = .ok (.iload_n 1, 1) := by decide +kernel
theorem dX7_equal_1 : decode cX7_equal 1 = .ok (.ifCond .lt 24, 3) := by decide +kernel
theorem dX7_equal_4 : decode cX7_equal 4 = .ok (.iload_n 1, 1) := by decide +kernel
theorem dX7_equal_5 : decode cX7_equal 5 = .ok (.aload_n 0, 1) := by decide +kernel
theorem dX7_equal_6 : decode cX7_equal 6 = .ok (.getfield 168, 3) := by decide +kernel
theorem dX7_equal_9 : decode cX7_equal 9 = .ok (.if_icmp .ge 16, 3) := by decide +kernel
theorem dX7_equal_12 : decode cX7_equal 12 = .ok (.aload_n 0, 1) := by decide +kernel
theorem dX7_equal_13 : decode cX7_equal 13 = .ok (.getfield 73, 3) := by decide +kernel
theorem dX7_equal_16 : decode cX7_equal 16 = .ok (.iload_n 1, 1) := by decide +kernel
theorem dX7_equal_17 : decode cX7_equal 17 = .ok (.baload, 1) := by decide +kernel
theorem dX7_equal_18 : decode cX7_equal 18 = .ok (.ifCond .eq 7, 3) := by decide +kernel
theorem dX7_equal_21 : decode cX7_equal 21 = .ok (.iconst 1, 1) := by decide +kernel
theorem dX7_equal_22 : decode cX7_equal 22 = .ok (.goto 4, 3) := by decide +kernel
theorem dX7_equal_25 : decode cX7_equal 25 = .ok (.iconst 0, 1) := by decide +kernel
theorem dX7_equal_26 : decode cX7_equal 26 = .ok (.ireturn, 1) := by decide +kernel
theorem dX7_ice_0 : decode cX7_ice 0 = .ok (.aload_n 0, 1) := by decide +kernel
theorem dX7_ice_1 : decode cX7_ice 1 = .ok (.iload_n 1, 1) := by decide +kernel
theorem dX7_ice_2 : decode cX7_ice 2 = .ok (.iload_n 2, 1) := by decide +kernel
theorem dX7_ice_3 : decode cX7_ice 3 = .ok (.invokevirtual 139, 3) := by decide +kernel
theorem dX7_ice_6 : decode cX7_ice 6 = .ok (.ifCond .ne 5, 3) := by decide +kernel
theorem dX7_ice_9 : decode cX7_ice 9 = .ok (.dconst 0, 1) := by decide +kernel
theorem dX7_ice_10 : decode cX7_ice 10 = .ok (.dreturn, 1) := by decide +kernel
theorem dX7_ice_11 : decode cX7_ice 11 = .ok (.ldc2_w 295, 3) := by decide +kernel
theorem dX7_ice_14 : decode cX7_ice 14 = .ok (.ldc2_w 297, 3) := by decide +kernel
theorem dX7_ice_17 : decode cX7_ice 17 = .ok (.aload_n 0, 1) := by decide +kernel
theorem dX7_ice_18 : decode cX7_ice 18 = .ok (.getfield 24, 3) := by decide +kernel
theorem dX7_ice_21 : decode cX7_ice 21 = .ok (.iload_n 1, 1) := by decide +kernel
theorem dX7_ice_22 : decode cX7_ice 22 = .ok (.iload_n 2, 1) := by decide +kernel
theorem dX7_ice_23 : decode cX7_ice 23 = .ok (.invokestatic 135, 3) := by decide +kernel
theorem dX7_ice_26 : decode cX7_ice 26 = .ok (.daload, 1) := by decide +kernel
theorem dX7_ice_27 : decode cX7_ice 27 = .ok (.dadd, 1) := by decide +kernel
theorem dX7_ice_28 : decode cX7_ice 28 = .ok (.dsub, 1) := by decide +kernel
theorem dX7_ice_29 : decode cX7_ice 29 = .ok (.ldc2_w 180, 3) := by decide +kernel
theorem dX7_ice_32 : decode cX7_ice 32 = .ok (.dmul, 1) := by decide +kernel
theorem dX7_ice_33 : decode cX7_ice 33 = .ok (.dstore_n 3, 1) := by decide +kernel
theorem dX7_ice_34 : decode cX7_ice 34 = .ok (.dload_n 3, 1) := by decide +kernel
theorem dX7_ice_35 : decode cX7_ice 35 = .ok (.dconst 0, 1) := by decide +kernel
theorem dX7_ice_36 : decode cX7_ice 36 = .ok (.dcmp .g, 1) := by decide +kernel
theorem dX7_ice_37 : decode cX7_ice 37 = .ok (.ifCond .ge 7, 3) := by decide +kernel
theorem dX7_ice_40 : decode cX7_ice 40 = .ok (.dconst 0, 1) := by decide +kernel
theorem dX7_ice_41 : decode cX7_ice 41 = .ok (.goto 14, 3) := by decide +kernel
end
section
theorem dX7_ice_44 : decode cX7_ice 44 = .ok (.dload_n 3, 1) := by decide +kernel
theorem dX7_ice_45 : decode cX7_ice 45 = .ok (.dconst 1, 1) := by decide +kernel
theorem dX7_ice_46 : decode cX7_ice 46 = .ok (.dcmp .l, 1) := by decide +kernel
theorem dX7_ice_47 : decode cX7_ice 47 = .ok (.ifCond .le 7, 3) := by decide +kernel
theorem dX7_ice_50 : decode cX7_ice 50 = .ok (.dconst 1, 1) := by decide +kernel
theorem dX7_ice_51 : decode cX7_ice 51 = .ok (.goto 4, 3) := by decide +kernel
theorem dX7_ice_54 : decode cX7_ice 54 = .ok (.dload_n 3, 1) := by decide +kernel
theorem dX7_ice_55 : decode cX7_ice 55 = .ok (.dreturn, 1) := by decide +kernel
theorem dX7_mud_0 : decode cX7_mud 0 = .ok (.aload_n 0, 1) := by decide +kernel
theorem dX7_mud_1 : decode cX7_mud 1 = .ok (.iload_n 1, 1) := by decide +kernel
theorem dX7_mud_2 : decode cX7_mud 2 = .ok (.iload_n 2, 1) := by decide +kernel
theorem dX7_mud_3 : decode cX7_mud 3 = .ok (.invokevirtual 139, 3) := by decide +kernel
theorem dX7_mud_6 : decode cX7_mud 6 = .ok (.ifCond .eq 16, 3) := by decide +kernel
theorem dX7_mud_9 : decode cX7_mud 9 = .ok (.aload_n 0, 1) := by decide +kernel
theorem dX7_mud_10 : decode cX7_mud 10 = .ok (.getfield 30, 3) := by decide +kernel
theorem dX7_mud_13 : decode cX7_mud 13 = .ok (.iload_n 1, 1) := by decide +kernel
theorem dX7_mud_14 : decode cX7_mud 14 = .ok (.iload_n 2, 1) := by decide +kernel
theorem dX7_mud_15 : decode cX7_mud 15 = .ok (.invokestatic 135, 3) := by decide +kernel
theorem dX7_mud_18 : decode cX7_mud 18 = .ok (.daload, 1) := by decide +kernel
theorem dX7_mud_19 : decode cX7_mud 19 = .ok (.goto 4, 3) := by decide +kernel
theorem dX7_mud_22 : decode cX7_mud 22 = .ok (.dconst 0, 1) := by decide +kernel
theorem dX7_mud_23 : decode cX7_mud 23 = .ok (.dreturn, 1) := by decide +kernel
theorem dX7_differs_0 : decode cX7_differs 0 = .ok (.dconst 0, 1) := by decide +kernel
theorem dX7_differs_1 : decode cX7_differs 1 = .ok (.dstore_n 3, 1) := by decide +kernel
theorem dX7_differs_2 : decode cX7_differs 2 = .ok (.iconst 0, 1) := by decide +kernel
theorem dX7_differs_3 : decode cX7_differs 3 = .ok (.istore 5, 2) := by decide +kernel
theorem dX7_differs_5 : decode cX7_differs 5 = .ok (.iload 5, 2) := by decide +kernel
theorem dX7_differs_7 : decode cX7_differs 7 = .ok (.aload_n 0, 1) := by decide +kernel
theorem dX7_differs_8 : decode cX7_differs 8 = .ok (.getfield 299, 3) := by decide +kernel
theorem dX7_differs_11 : decode cX7_differs 11 = .ok (.if_icmp .ge 55, 3) := by decide +kernel
theorem dX7_differs_14 : decode cX7_differs 14 = .ok (.aload_n 0, 1) := by decide +kernel
theorem dX7_differs_15 : decode cX7_differs 15 = .ok (.iload_n 1, 1) := by decide +kernel
theorem dX7_differs_16 : decode cX7_differs 16 = .ok (.iload_n 2, 1) := by decide +kernel
theorem dX7_differs_17 : decode cX7_differs 17 = .ok (.invokevirtual 139, 3) := by decide +kernel
theorem dX7_differs_20 : decode cX7_differs 20 = .ok (.ifCond .eq 46, 3) := by decide +kernel
theorem dX7_differs_23 : decode cX7_differs 23 = .ok (.aload_n 0, 1) := by decide +kernel
theorem dX7_differs_24 : decode cX7_differs 24 = .ok (.getfield 76, 3) := by decide +kernel
theorem dX7_differs_27 : decode cX7_differs 27 = .ok (.iload 5, 2) := by decide +kernel
theorem dX7_differs_29 : decode cX7_differs 29 = .ok (.iaload, 1) := by decide +kernel
theorem dX7_differs_30 : decode cX7_differs 30 = .ok (.iload_n 1, 1) := by decide +kernel
theorem dX7_differs_31 : decode cX7_differs 31 = .ok (.iload_n 2, 1) := by decide +kernel
theorem dX7_differs_32 : decode cX7_differs 32 = .ok (.invokestatic 135, 3) := by decide +kernel
theorem dX7_differs_35 : decode cX7_differs 35 = .ok (.if_icmp .ne 23, 3) := by decide +kernel
theorem dX7_differs_38 : decode cX7_differs 38 = .ok (.aload_n 0, 1) := by decide +kernel
theorem dX7_differs_39 : decode cX7_differs 39 = .ok (.getfield 82, 3) := by decide +kernel
theorem dX7_differs_42 : decode cX7_differs 42 = .ok (.iload 5, 2) := by decide +kernel
theorem dX7_differs_44 : decode cX7_differs 44 = .ok (.daload, 1) := by decide +kernel
theorem dX7_differs_45 : decode cX7_differs 45 = .ok (.aload_n 0, 1) := by decide +kernel
theorem dX7_differs_46 : decode cX7_differs 46 = .ok (.iload_n 1, 1) := by decide +kernel
theorem dX7_differs_47 : decode cX7_differs 47 = .ok (.iload_n 2, 1) := by decide +kernel
theorem dX7_differs_48 : decode cX7_differs 48 = .ok (.invokestatic 135, 3) := by decide +kernel
theorem dX7_differs_51 : decode cX7_differs 51 = .ok (.invokevirtual 198, 3) := by decide +kernel
theorem dX7_differs_54 : decode cX7_differs 54 = .ok (.dsub, 1) := by decide +kernel
theorem dX7_differs_55 : decode cX7_differs 55 = .ok (.goto 4, 3) := by decide +kernel
theorem dX7_differs_58 : decode cX7_differs 58 = .ok (.dload_n 3, 1) := by decide +kernel
theorem dX7_differs_59 : decode cX7_differs 59 = .ok (.dstore_n 3, 1) := by decide +kernel
theorem dX7_differs_60 : decode cX7_differs 60 = .ok (.iinc 5 1, 3) := by decide +kernel
theorem dX7_differs_63 : decode cX7_differs 63 = .ok (.goto (-58), 3) := by decide +kernel
theorem dX7_differs_66 : decode cX7_differs 66 = .ok (.dload_n 3, 1) := by decide +kernel
theorem dX7_differs_67 : decode cX7_differs 67 = .ok (.dreturn, 1) := by decide +kernel
theorem dX7_gauge_0 : decode cX7_gauge 0 = .ok (.aload_n 0, 1) := by decide +kernel
theorem dX7_gauge_1 : decode cX7_gauge 1 = .ok (.iload_n 1, 1) := by decide +kernel
theorem dX7_gauge_2 : decode cX7_gauge 2 = .ok (.iload_n 2, 1) := by decide +kernel
theorem dX7_gauge_3 : decode cX7_gauge 3 = .ok (.invokevirtual 131, 3) := by decide +kernel
theorem dX7_gauge_6 : decode cX7_gauge 6 = .ok (.ifCond .eq 37, 3) := by decide +kernel
theorem dX7_gauge_9 : decode cX7_gauge 9 = .ok (.aload_n 0, 1) := by decide +kernel
theorem dX7_gauge_10 : decode cX7_gauge 10 = .ok (.getfield 299, 3) := by decide +kernel
theorem dX7_gauge_13 : decode cX7_gauge 13 = .ok (.bipush 40, 2) := by decide +kernel
theorem dX7_gauge_15 : decode cX7_gauge 15 = .ok (.if_icmp .eq 28, 3) := by decide +kernel
theorem dX7_gauge_18 : decode cX7_gauge 18 = .ok (.dload_n 3, 1) := by decide +kernel
theorem dX7_gauge_19 : decode cX7_gauge 19 = .ok (.dconst 0, 1) := by decide +kernel
theorem dX7_gauge_20 : decode cX7_gauge 20 = .ok (.ldc2_w 150, 3) := by decide +kernel
theorem dX7_gauge_23 : decode cX7_gauge 23 = .ok (.invokestatic 152, 3) := by decide +kernel
theorem dX7_gauge_26 : decode cX7_gauge 26 = .ok (.ifCond .eq 17, 3) := by decide +kernel
theorem dX7_gauge_29 : decode cX7_gauge 29 = .ok (.dload 5, 2) := by decide +kernel
theorem dX7_gauge_31 : decode cX7_gauge 31 = .ok (.ldc2_w 176, 3) := by decide +kernel
theorem dX7_gauge_34 : decode cX7_gauge 34 = .ok (.ldc2_w 178, 3) := by decide +kernel
theorem dX7_gauge_37 : decode cX7_gauge 37 = .ok (.invokestatic 152, 3) := by decide +kernel
theorem dX7_gauge_40 : decode cX7_gauge 40 = .ok (.ifCond .ne 5, 3) := by decide +kernel
theorem dX7_gauge_43 : decode cX7_gauge 43 = .ok (.iconst 0, 1) := by decide +kernel
theorem dX7_gauge_44 : decode cX7_gauge 44 = .ok (.ireturn, 1) := by decide +kernel
theorem dX7_gauge_45 : decode cX7_gauge 45 = .ok (.aload_n 0, 1) := by decide +kernel
theorem dX7_gauge_46 : decode cX7_gauge 46 = .ok (.getfield 76, 3) := by decide +kernel
theorem dX7_gauge_49 : decode cX7_gauge 49 = .ok (.aload_n 0, 1) := by decide +kernel
theorem dX7_gauge_50 : decode cX7_gauge 50 = .ok (.getfield 299, 3) := by decide +kernel
theorem dX7_gauge_53 : decode cX7_gauge 53 = .ok (.iload_n 1, 1) := by decide +kernel
theorem dX7_gauge_54 : decode cX7_gauge 54 = .ok (.iload_n 2, 1) := by decide +kernel
theorem dX7_gauge_55 : decode cX7_gauge 55 = .ok (.invokestatic 135, 3) := by decide +kernel
theorem dX7_gauge_58 : decode cX7_gauge 58 = .ok (.iastore, 1) := by decide +kernel
theorem dX7_gauge_59 : decode cX7_gauge 59 = .ok (.aload_n 0, 1) := by decide +kernel
theorem dX7_gauge_60 : decode cX7_gauge 60 = .ok (.getfield 79, 3) := by decide +kernel
theorem dX7_gauge_63 : decode cX7_gauge 63 = .ok (.aload_n 0, 1) := by decide +kernel
theorem dX7_gauge_64 : decode cX7_gauge 64 = .ok (.getfield 299, 3) := by decide +kernel
theorem dX7_gauge_67 : decode cX7_gauge 67 = .ok (.dload_n 3, 1) := by decide +kernel
theorem dX7_gauge_68 : decode cX7_gauge 68 = .ok (.dastore, 1) := by decide +kernel
theorem dX7_gauge_69 : decode cX7_gauge 69 = .ok (.aload_n 0, 1) := by decide +kernel
theorem dX7_gauge_70 : decode cX7_gauge 70 = .ok (.getfield 82, 3) := by decide +kernel
theorem dX7_gauge_73 : decode cX7_gauge 73 = .ok (.aload_n 0, 1) := by decide +kernel
theorem dX7_gauge_74 : decode cX7_gauge 74 = .ok (.getfield 299, 3) := by decide +kernel
theorem dX7_gauge_77 : decode cX7_gauge 77 = .ok (.dload 5, 2) := by decide +kernel
theorem dX7_gauge_79 : decode cX7_gauge 79 = .ok (.dastore, 1) := by decide +kernel
theorem dX7_gauge_80 : decode cX7_gauge 80 = .ok (.aload_n 0, 1) := by decide +kernel
theorem dX7_gauge_81 : decode cX7_gauge 81 = .ok (.dup, 1) := by decide +kernel
theorem dX7_gauge_82 : decode cX7_gauge 82 = .ok (.getfield 299, 3) := by decide +kernel
theorem dX7_gauge_85 : decode cX7_gauge 85 = .ok (.iconst 1, 1) := by decide +kernel
theorem dX7_gauge_86 : decode cX7_gauge 86 = .ok (.iadd, 1) := by decide +kernel
theorem dX7_gauge_87 : decode cX7_gauge 87 = .ok (.putfield 299, 3) := by decide +kernel
theorem dX7_gauge_90 : decode cX7_gauge 90 = .ok (.iconst 1, 1) := by decide +kernel
theorem dX7_gauge_91 : decode cX7_gauge 91 = .ok (.ireturn, 1) := by decide +kernel
theorem dX7_column_0 : decode cX7_column 0 = .ok (.iload_n 0, 1) := by decide +kernel
theorem dX7_column_1 : decode cX7_column 1 = .ok (.ifCond .ne 5, 3) := by decide +kernel
theorem dX7_column_4 : decode cX7_column 4 = .ok (.dconst 1, 1) := by decide +kernel
theorem dX7_column_5 : decode cX7_column 5 = .ok (.dreturn, 1) := by decide +kernel
theorem dX7_column_6 : decode cX7_column 6 = .ok (.dload_n 1, 1) := by decide +kernel
theorem dX7_column_7 : decode cX7_column 7 = .ok (.ldc2_w 190, 3) := by decide +kernel
theorem dX7_column_10 : decode cX7_column 10 = .ok (.dmul, 1) := by decide +kernel
theorem dX7_column_11 : decode cX7_column 11 = .ok (.iload_n 0, 1) := by decide +kernel
theorem dX7_column_12 : decode cX7_column 12 = .ok (.iconst 3, 1) := by decide +kernel
theorem dX7_column_13 : decode cX7_column 13 = .ok (.if_icmp .ge 9, 3) := by decide +kernel
theorem dX7_column_16 : decode cX7_column 16 = .ok (.ldc2_w 190, 3) := by decide +kernel
theorem dX7_column_19 : decode cX7_column 19 = .ok (.goto 6, 3) := by decide +kernel
theorem dX7_column_22 : decode cX7_column 22 = .ok (.ldc2_w 302, 3) := by decide +kernel
theorem dX7_column_25 : decode cX7_column 25 = .ok (.ddiv, 1) := by decide +kernel
theorem dX7_column_26 : decode cX7_column 26 = .ok (.dstore_n 3, 1) := by decide +kernel
theorem dX7_column_27 : decode cX7_column 27 = .ok (.iload_n 0, 1) := by decide +kernel
theorem dX7_column_28 : decode cX7_column 28 = .ok (.iconst 2, 1) := by decide +kernel
theorem dX7_column_29 : decode cX7_column 29 = .ok (.irem, 1) := by decide +kernel
theorem dX7_column_30 : decode cX7_column 30 = .ok (.iconst 1, 1) := by decide +kernel
theorem dX7_column_31 : decode cX7_column 31 = .ok (.if_icmp .ne 7, 3) := by decide +kernel
theorem dX7_column_34 : decode cX7_column 34 = .ok (.dload_n 3, 1) := by decide +kernel
theorem dX7_column_35 : decode cX7_column 35 = .ok (.goto 8, 3) := by decide +kernel
theorem dX7_column_38 : decode cX7_column 38 = .ok (.dload_n 3, 1) := by decide +kernel
theorem dX7_column_39 : decode cX7_column 39 = .ok (.ldc2_w 279, 3) := by decide +kernel
theorem dX7_column_42 : decode cX7_column 42 = .ok (.dadd, 1) := by decide +kernel
theorem dX7_column_43 : decode cX7_column 43 = .ok (.invokestatic 192, 3) := by decide +kernel
theorem dX7_column_46 : decode cX7_column 46 = .ok (.dreturn, 1) := by decide +kernel
theorem dX7_fit_0 : decode cX7_fit 0 = .ok (.iload_n 1, 1) := by decide +kernel
theorem dX7_fit_1 : decode cX7_fit 1 = .ok (.ifCond .lt 8, 3) := by decide +kernel
theorem dX7_fit_4 : decode cX7_fit 4 = .ok (.iload_n 1, 1) := by decide +kernel
theorem dX7_fit_5 : decode cX7_fit 5 = .ok (.iconst 2, 1) := by decide +kernel
theorem dX7_fit_6 : decode cX7_fit 6 = .ok (.if_icmp .le 5, 3) := by decide +kernel
theorem dX7_fit_9 : decode cX7_fit 9 = .ok (.iconst (-1), 1) := by decide +kernel
theorem dX7_fit_10 : decode cX7_fit 10 = .ok (.ireturn, 1) := by decide +kernel
theorem dX7_fit_11 : decode cX7_fit 11 = .ok (.iconst 1, 1) := by decide +kernel
theorem dX7_fit_12 : decode cX7_fit 12 = .ok (.iconst 2, 1) := by decide +kernel
theorem dX7_fit_13 : decode cX7_fit 13 = .ok (.iload_n 1, 1) := by decide +kernel
theorem dX7_fit_14 : decode cX7_fit 14 = .ok (.imul, 1) := by decide +kernel
theorem dX7_fit_15 : decode cX7_fit 15 = .ok (.iadd, 1) := by decide +kernel
theorem dX7_fit_16 : decode cX7_fit 16 = .ok (.istore_n 2, 1) := by decide +kernel
theorem dX7_fit_17 : decode cX7_fit 17 = .ok (.iconst 0, 1) := by decide +kernel
theorem dX7_fit_18 : decode cX7_fit 18 = .ok (.istore_n 3, 1) := by decide +kernel
theorem dX7_fit_19 : decode cX7_fit 19 = .ok (.iload_n 3, 1) := by decide +kernel
theorem dX7_fit_20 : decode cX7_fit 20 = .ok (.iload_n 2, 1) := by decide +kernel
theorem dX7_fit_21 : decode cX7_fit 21 = .ok (.if_icmp .ge 155, 3) := by decide +kernel
theorem dX7_fit_24 : decode cX7_fit 24 = .ok (.aload_n 0, 1) := by decide +kernel
theorem dX7_fit_25 : decode cX7_fit 25 = .ok (.getfield 88, 3) := by decide +kernel
theorem dX7_fit_28 : decode cX7_fit 28 = .ok (.iload_n 3, 1) := by decide +kernel
theorem dX7_fit_29 : decode cX7_fit 29 = .ok (.dconst 0, 1) := by decide +kernel
theorem dX7_fit_30 : decode cX7_fit 30 = .ok (.dastore, 1) := by decide +kernel
theorem dX7_fit_31 : decode cX7_fit 31 = .ok (.iconst 0, 1) := by decide +kernel
theorem dX7_fit_32 : decode cX7_fit 32 = .ok (.istore 4, 2) := by decide +kernel
theorem dX7_fit_34 : decode cX7_fit 34 = .ok (.iload 4, 2) := by decide +kernel
theorem dX7_fit_36 : decode cX7_fit 36 = .ok (.iload_n 2, 1) := by decide +kernel
theorem dX7_fit_37 : decode cX7_fit 37 = .ok (.if_icmp .ge 21, 3) := by decide +kernel
theorem dX7_fit_40 : decode cX7_fit 40 = .ok (.aload_n 0, 1) := by decide +kernel
theorem dX7_fit_41 : decode cX7_fit 41 = .ok (.getfield 85, 3) := by decide +kernel
theorem dX7_fit_44 : decode cX7_fit 44 = .ok (.iconst 5, 1) := by decide +kernel
theorem dX7_fit_45 : decode cX7_fit 45 = .ok (.iload_n 3, 1) := by decide +kernel
theorem dX7_fit_46 : decode cX7_fit 46 = .ok (.imul, 1) := by decide +kernel
theorem dX7_fit_47 : decode cX7_fit 47 = .ok (.iload 4, 2) := by decide +kernel
theorem dX7_fit_49 : decode cX7_fit 49 = .ok (.iadd, 1) := by decide +kernel
theorem dX7_fit_50 : decode cX7_fit 50 = .ok (.dconst 0, 1) := by decide +kernel
theorem dX7_fit_51 : decode cX7_fit 51 = .ok (.dastore, 1) := by decide +kernel
theorem dX7_fit_52 : decode cX7_fit 52 = .ok (.iinc 4 1, 3) := by decide +kernel
theorem dX7_fit_55 : decode cX7_fit 55 = .ok (.goto (-21), 3) := by decide +kernel
theorem dX7_fit_58 : decode cX7_fit 58 = .ok (.iconst 0, 1) := by decide +kernel
theorem dX7_fit_59 : decode cX7_fit 59 = .ok (.istore 4, 2) := by decide +kernel
theorem dX7_fit_61 : decode cX7_fit 61 = .ok (.iload 4, 2) := by decide +kernel
theorem dX7_fit_63 : decode cX7_fit 63 = .ok (.aload_n 0, 1) := by decide +kernel
theorem dX7_fit_64 : decode cX7_fit 64 = .ok (.getfield 299, 3) := by decide +kernel
theorem dX7_fit_67 : decode cX7_fit 67 = .ok (.if_icmp .ge 103, 3) := by decide +kernel
theorem dX7_fit_70 : decode cX7_fit 70 = .ok (.iconst 0, 1) := by decide +kernel
theorem dX7_fit_71 : decode cX7_fit 71 = .ok (.istore 5, 2) := by decide +kernel
theorem dX7_fit_73 : decode cX7_fit 73 = .ok (.iload 5, 2) := by decide +kernel
theorem dX7_fit_75 : decode cX7_fit 75 = .ok (.iload_n 2, 1) := by decide +kernel
theorem dX7_fit_76 : decode cX7_fit 76 = .ok (.if_icmp .ge 56, 3) := by decide +kernel
theorem dX7_fit_79 : decode cX7_fit 79 = .ok (.aload_n 0, 1) := by decide +kernel
theorem dX7_fit_80 : decode cX7_fit 80 = .ok (.getfield 85, 3) := by decide +kernel
theorem dX7_fit_83 : decode cX7_fit 83 = .ok (.iconst 5, 1) := by decide +kernel
theorem dX7_fit_84 : decode cX7_fit 84 = .ok (.iload_n 3, 1) := by decide +kernel
theorem dX7_fit_85 : decode cX7_fit 85 = .ok (.imul, 1) := by decide +kernel
theorem dX7_fit_86 : decode cX7_fit 86 = .ok (.iload 5, 2) := by decide +kernel
theorem dX7_fit_88 : decode cX7_fit 88 = .ok (.iadd, 1) := by decide +kernel
theorem dX7_fit_89 : decode cX7_fit 89 = .ok (.aload_n 0, 1) := by decide +kernel
theorem dX7_fit_90 : decode cX7_fit 90 = .ok (.getfield 85, 3) := by decide +kernel
theorem dX7_fit_93 : decode cX7_fit 93 = .ok (.iconst 5, 1) := by decide +kernel
theorem dX7_fit_94 : decode cX7_fit 94 = .ok (.iload_n 3, 1) := by decide +kernel
theorem dX7_fit_95 : decode cX7_fit 95 = .ok (.imul, 1) := by decide +kernel
theorem dX7_fit_96 : decode cX7_fit 96 = .ok (.iload 5, 2) := by decide +kernel
theorem dX7_fit_98 : decode cX7_fit 98 = .ok (.iadd, 1) := by decide +kernel
theorem dX7_fit_99 : decode cX7_fit 99 = .ok (.daload, 1) := by decide +kernel
theorem dX7_fit_100 : decode cX7_fit 100 = .ok (.iload_n 3, 1) := by decide +kernel
theorem dX7_fit_101 : decode cX7_fit 101 = .ok (.aload_n 0, 1) := by decide +kernel
theorem dX7_fit_102 : decode cX7_fit 102 = .ok (.getfield 79, 3) := by decide +kernel
theorem dX7_fit_105 : decode cX7_fit 105 = .ok (.iload 4, 2) := by decide +kernel
theorem dX7_fit_107 : decode cX7_fit 107 = .ok (.daload, 1) := by decide +kernel
theorem dX7_fit_108 : decode cX7_fit 108 = .ok (.invokestatic 304, 3) := by decide +kernel
theorem dX7_fit_111 : decode cX7_fit 111 = .ok (.iload 5, 2) := by decide +kernel
theorem dX7_fit_113 : decode cX7_fit 113 = .ok (.aload_n 0, 1) := by decide +kernel
theorem dX7_fit_114 : decode cX7_fit 114 = .ok (.getfield 79, 3) := by decide +kernel
theorem dX7_fit_117 : decode cX7_fit 117 = .ok (.iload 4, 2) := by decide +kernel
theorem dX7_fit_119 : decode cX7_fit 119 = .ok (.daload, 1) := by decide +kernel
theorem dX7_fit_120 : decode cX7_fit 120 = .ok (.invokestatic 304, 3) := by decide +kernel
theorem dX7_fit_123 : decode cX7_fit 123 = .ok (.dmul, 1) := by decide +kernel
theorem dX7_fit_124 : decode cX7_fit 124 = .ok (.dadd, 1) := by decide +kernel
theorem dX7_fit_125 : decode cX7_fit 125 = .ok (.dastore, 1) := by decide +kernel
theorem dX7_fit_126 : decode cX7_fit 126 = .ok (.iinc 5 1, 3) := by decide +kernel
theorem dX7_fit_129 : decode cX7_fit 129 = .ok (.goto (-56), 3) := by decide +kernel
theorem dX7_fit_132 : decode cX7_fit 132 = .ok (.aload_n 0, 1) := by decide +kernel
theorem dX7_fit_133 : decode cX7_fit 133 = .ok (.getfield 88, 3) := by decide +kernel
theorem dX7_fit_136 : decode cX7_fit 136 = .ok (.iload_n 3, 1) := by decide +kernel
theorem dX7_fit_137 : decode cX7_fit 137 = .ok (.aload_n 0, 1) := by decide +kernel
theorem dX7_fit_138 : decode cX7_fit 138 = .ok (.getfield 88, 3) := by decide +kernel
theorem dX7_fit_141 : decode cX7_fit 141 = .ok (.iload_n 3, 1) := by decide +kernel
theorem dX7_fit_142 : decode cX7_fit 142 = .ok (.daload, 1) := by decide +kernel
theorem dX7_fit_143 : decode cX7_fit 143 = .ok (.iload_n 3, 1) := by decide +kernel
theorem dX7_fit_144 : decode cX7_fit 144 = .ok (.aload_n 0, 1) := by decide +kernel
theorem dX7_fit_145 : decode cX7_fit 145 = .ok (.getfield 79, 3) := by decide +kernel
theorem dX7_fit_148 : decode cX7_fit 148 = .ok (.iload 4, 2) := by decide +kernel
theorem dX7_fit_150 : decode cX7_fit 150 = .ok (.daload, 1) := by decide +kernel
theorem dX7_fit_151 : decode cX7_fit 151 = .ok (.invokestatic 304, 3) := by decide +kernel
theorem dX7_fit_154 : decode cX7_fit 154 = .ok (.aload_n 0, 1) := by decide +kernel
theorem dX7_fit_155 : decode cX7_fit 155 = .ok (.getfield 82, 3) := by decide +kernel
theorem dX7_fit_158 : decode cX7_fit 158 = .ok (.iload 4, 2) := by decide +kernel
theorem dX7_fit_160 : decode cX7_fit 160 = .ok (.daload, 1) := by decide +kernel
theorem dX7_fit_161 : decode cX7_fit 161 = .ok (.dmul, 1) := by decide +kernel
theorem dX7_fit_162 : decode cX7_fit 162 = .ok (.dadd, 1) := by decide +kernel
theorem dX7_fit_163 : decode cX7_fit 163 = .ok (.dastore, 1) := by decide +kernel
theorem dX7_fit_164 : decode cX7_fit 164 = .ok (.iinc 4 1, 3) := by decide +kernel
theorem dX7_fit_167 : decode cX7_fit 167 = .ok (.goto (-106), 3) := by decide +kernel
theorem dX7_fit_170 : decode cX7_fit 170 = .ok (.iinc 3 1, 3) := by decide +kernel
theorem dX7_fit_173 : decode cX7_fit 173 = .ok (.goto (-154), 3) := by decide +kernel
theorem dX7_fit_176 : decode cX7_fit 176 = .ok (.iconst 0, 1) := by decide +kernel
theorem dX7_fit_177 : decode cX7_fit 177 = .ok (.istore_n 3, 1) := by decide +kernel
theorem dX7_fit_178 : decode cX7_fit 178 = .ok (.iconst 0, 1) := by decide +kernel
theorem dX7_fit_179 : decode cX7_fit 179 = .ok (.istore 4, 2) := by decide +kernel
theorem dX7_fit_181 : decode cX7_fit 181 = .ok (.iload 4, 2) := by decide +kernel
theorem dX7_fit_183 : decode cX7_fit 183 = .ok (.iload_n 2, 1) := by decide +kernel
theorem dX7_fit_184 : decode cX7_fit 184 = .ok (.if_icmp .ge 156, 3) := by decide +kernel
theorem dX7_fit_187 : decode cX7_fit 187 = .ok (.aload_n 0, 1) := by decide +kernel
theorem dX7_fit_188 : decode cX7_fit 188 = .ok (.getfield 85, 3) := by decide +kernel
theorem dX7_fit_191 : decode cX7_fit 191 = .ok (.bipush 6, 2) := by decide +kernel
theorem dX7_fit_193 : decode cX7_fit 193 = .ok (.iload 4, 2) := by decide +kernel
theorem dX7_fit_195 : decode cX7_fit 195 = .ok (.imul, 1) := by decide +kernel
theorem dX7_fit_196 : decode cX7_fit 196 = .ok (.daload, 1) := by decide +kernel
theorem dX7_fit_197 : decode cX7_fit 197 = .ok (.invokestatic 210, 3) := by decide +kernel
theorem dX7_fit_200 : decode cX7_fit 200 = .ok (.ldc2_w 308, 3) := by decide +kernel
theorem dX7_fit_203 : decode cX7_fit 203 = .ok (.dcmp .l, 1) := by decide +kernel
theorem dX7_fit_204 : decode cX7_fit 204 = .ok (.ifCond .le 130, 3) := by decide +kernel
theorem dX7_fit_207 : decode cX7_fit 207 = .ok (.iinc 3 1, 3) := by decide +kernel
theorem dX7_fit_210 : decode cX7_fit 210 = .ok (.iload 4, 2) := by decide +kernel
theorem dX7_fit_212 : decode cX7_fit 212 = .ok (.iconst 1, 1) := by decide +kernel
theorem dX7_fit_213 : decode cX7_fit 213 = .ok (.iadd, 1) := by decide +kernel
theorem dX7_fit_214 : decode cX7_fit 214 = .ok (.istore 5, 2) := by decide +kernel
theorem dX7_fit_216 : decode cX7_fit 216 = .ok (.iload 5, 2) := by decide +kernel
theorem dX7_fit_218 : decode cX7_fit 218 = .ok (.iload_n 2, 1) := by decide +kernel
theorem dX7_fit_219 : decode cX7_fit 219 = .ok (.if_icmp .ge 115, 3) := by decide +kernel
theorem dX7_fit_222 : decode cX7_fit 222 = .ok (.aload_n 0, 1) := by decide +kernel
theorem dX7_fit_223 : decode cX7_fit 223 = .ok (.getfield 85, 3) := by decide +kernel
theorem dX7_fit_226 : decode cX7_fit 226 = .ok (.iconst 5, 1) := by decide +kernel
theorem dX7_fit_227 : decode cX7_fit 227 = .ok (.iload 5, 2) := by decide +kernel
theorem dX7_fit_229 : decode cX7_fit 229 = .ok (.imul, 1) := by decide +kernel
theorem dX7_fit_230 : decode cX7_fit 230 = .ok (.iload 4, 2) := by decide +kernel
theorem dX7_fit_232 : decode cX7_fit 232 = .ok (.iadd, 1) := by decide +kernel
theorem dX7_fit_233 : decode cX7_fit 233 = .ok (.daload, 1) := by decide +kernel
theorem dX7_fit_234 : decode cX7_fit 234 = .ok (.aload_n 0, 1) := by decide +kernel
theorem dX7_fit_235 : decode cX7_fit 235 = .ok (.getfield 85, 3) := by decide +kernel
theorem dX7_fit_238 : decode cX7_fit 238 = .ok (.bipush 6, 2) := by decide +kernel
theorem dX7_fit_240 : decode cX7_fit 240 = .ok (.iload 4, 2) := by decide +kernel
theorem dX7_fit_242 : decode cX7_fit 242 = .ok (.imul, 1) := by decide +kernel
theorem dX7_fit_243 : decode cX7_fit 243 = .ok (.daload, 1) := by decide +kernel
theorem dX7_fit_244 : decode cX7_fit 244 = .ok (.ddiv, 1) := by decide +kernel
theorem dX7_fit_245 : decode cX7_fit 245 = .ok (.dstore 6, 2) := by decide +kernel
theorem dX7_fit_247 : decode cX7_fit 247 = .ok (.iload 4, 2) := by decide +kernel
theorem dX7_fit_249 : decode cX7_fit 249 = .ok (.istore 8, 2) := by decide +kernel
theorem dX7_fit_251 : decode cX7_fit 251 = .ok (.iload 8, 2) := by decide +kernel
theorem dX7_fit_253 : decode cX7_fit 253 = .ok (.iload_n 2, 1) := by decide +kernel
theorem dX7_fit_254 : decode cX7_fit 254 = .ok (.if_icmp .ge 49, 3) := by decide +kernel
theorem dX7_fit_257 : decode cX7_fit 257 = .ok (.aload_n 0, 1) := by decide +kernel
theorem dX7_fit_258 : decode cX7_fit 258 = .ok (.getfield 85, 3) := by decide +kernel
theorem dX7_fit_261 : decode cX7_fit 261 = .ok (.iconst 5, 1) := by decide +kernel
theorem dX7_fit_262 : decode cX7_fit 262 = .ok (.iload 5, 2) := by decide +kernel
theorem dX7_fit_264 : decode cX7_fit 264 = .ok (.imul, 1) := by decide +kernel
theorem dX7_fit_265 : decode cX7_fit 265 = .ok (.iload 8, 2) := by decide +kernel
theorem dX7_fit_267 : decode cX7_fit 267 = .ok (.iadd, 1) := by decide +kernel
theorem dX7_fit_268 : decode cX7_fit 268 = .ok (.aload_n 0, 1) := by decide +kernel
theorem dX7_fit_269 : decode cX7_fit 269 = .ok (.getfield 85, 3) := by decide +kernel
theorem dX7_fit_272 : decode cX7_fit 272 = .ok (.iconst 5, 1) := by decide +kernel
theorem dX7_fit_273 : decode cX7_fit 273 = .ok (.iload 5, 2) := by decide +kernel
theorem dX7_fit_275 : decode cX7_fit 275 = .ok (.imul, 1) := by decide +kernel
theorem dX7_fit_276 : decode cX7_fit 276 = .ok (.iload 8, 2) := by decide +kernel
theorem dX7_fit_278 : decode cX7_fit 278 = .ok (.iadd, 1) := by decide +kernel
theorem dX7_fit_279 : decode cX7_fit 279 = .ok (.daload, 1) := by decide +kernel
theorem dX7_fit_280 : decode cX7_fit 280 = .ok (.dload 6, 2) := by decide +kernel
theorem dX7_fit_282 : decode cX7_fit 282 = .ok (.aload_n 0, 1) := by decide +kernel
theorem dX7_fit_283 : decode cX7_fit 283 = .ok (.getfield 85, 3) := by decide +kernel
theorem dX7_fit_286 : decode cX7_fit 286 = .ok (.iconst 5, 1) := by decide +kernel
theorem dX7_fit_287 : decode cX7_fit 287 = .ok (.iload 4, 2) := by decide +kernel
theorem dX7_fit_289 : decode cX7_fit 289 = .ok (.imul, 1) := by decide +kernel
theorem dX7_fit_290 : decode cX7_fit 290 = .ok (.iload 8, 2) := by decide +kernel
theorem dX7_fit_292 : decode cX7_fit 292 = .ok (.iadd, 1) := by decide +kernel
theorem dX7_fit_293 : decode cX7_fit 293 = .ok (.daload, 1) := by decide +kernel
theorem dX7_fit_294 : decode cX7_fit 294 = .ok (.dmul, 1) := by decide +kernel
theorem dX7_fit_295 : decode cX7_fit 295 = .ok (.dsub, 1) := by decide +kernel
theorem dX7_fit_296 : decode cX7_fit 296 = .ok (.dastore, 1) := by decide +kernel
theorem dX7_fit_297 : decode cX7_fit 297 = .ok (.iinc 8 1, 3) := by decide +kernel
theorem dX7_fit_300 : decode cX7_fit 300 = .ok (.goto (-49), 3) := by decide +kernel
theorem dX7_fit_303 : decode cX7_fit 303 = .ok (.aload_n 0, 1) := by decide +kernel
theorem dX7_fit_304 : decode cX7_fit 304 = .ok (.getfield 88, 3) := by decide +kernel
theorem dX7_fit_307 : decode cX7_fit 307 = .ok (.iload 5, 2) := by decide +kernel
theorem dX7_fit_309 : decode cX7_fit 309 = .ok (.aload_n 0, 1) := by decide +kernel
theorem dX7_fit_310 : decode cX7_fit 310 = .ok (.getfield 88, 3) := by decide +kernel
theorem dX7_fit_313 : decode cX7_fit 313 = .ok (.iload 5, 2) := by decide +kernel
theorem dX7_fit_315 : decode cX7_fit 315 = .ok (.daload, 1) := by decide +kernel
theorem dX7_fit_316 : decode cX7_fit 316 = .ok (.dload 6, 2) := by decide +kernel
theorem dX7_fit_318 : decode cX7_fit 318 = .ok (.aload_n 0, 1) := by decide +kernel
theorem dX7_fit_319 : decode cX7_fit 319 = .ok (.getfield 88, 3) := by decide +kernel
theorem dX7_fit_322 : decode cX7_fit 322 = .ok (.iload 4, 2) := by decide +kernel
theorem dX7_fit_324 : decode cX7_fit 324 = .ok (.daload, 1) := by decide +kernel
theorem dX7_fit_325 : decode cX7_fit 325 = .ok (.dmul, 1) := by decide +kernel
theorem dX7_fit_326 : decode cX7_fit 326 = .ok (.dsub, 1) := by decide +kernel
theorem dX7_fit_327 : decode cX7_fit 327 = .ok (.dastore, 1) := by decide +kernel
theorem dX7_fit_328 : decode cX7_fit 328 = .ok (.iinc 5 1, 3) := by decide +kernel
theorem dX7_fit_331 : decode cX7_fit 331 = .ok (.goto (-115), 3) := by decide +kernel
theorem dX7_fit_334 : decode cX7_fit 334 = .ok (.iinc 4 1, 3) := by decide +kernel
theorem dX7_fit_337 : decode cX7_fit 337 = .ok (.goto (-156), 3) := by decide +kernel
theorem dX7_fit_340 : decode cX7_fit 340 = .ok (.iload_n 2, 1) := by decide +kernel
theorem dX7_fit_341 : decode cX7_fit 341 = .ok (.iconst 1, 1) := by decide +kernel
theorem dX7_fit_342 : decode cX7_fit 342 = .ok (.isub, 1) := by decide +kernel
theorem dX7_fit_343 : decode cX7_fit 343 = .ok (.istore 4, 2) := by decide +kernel
theorem dX7_fit_345 : decode cX7_fit 345 = .ok (.iload 4, 2) := by decide +kernel
theorem dX7_fit_347 : decode cX7_fit 347 = .ok (.ifCond .lt 105, 3) := by decide +kernel
theorem dX7_fit_350 : decode cX7_fit 350 = .ok (.aload_n 0, 1) := by decide +kernel
theorem dX7_fit_351 : decode cX7_fit 351 = .ok (.getfield 88, 3) := by decide +kernel
theorem dX7_fit_354 : decode cX7_fit 354 = .ok (.iload 4, 2) := by decide +kernel
theorem dX7_fit_356 : decode cX7_fit 356 = .ok (.daload, 1) := by decide +kernel
theorem dX7_fit_357 : decode cX7_fit 357 = .ok (.dstore 5, 2) := by decide +kernel
theorem dX7_fit_359 : decode cX7_fit 359 = .ok (.iload 4, 2) := by decide +kernel
theorem dX7_fit_361 : decode cX7_fit 361 = .ok (.iconst 1, 1) := by decide +kernel
theorem dX7_fit_362 : decode cX7_fit 362 = .ok (.iadd, 1) := by decide +kernel
theorem dX7_fit_363 : decode cX7_fit 363 = .ok (.istore 7, 2) := by decide +kernel
theorem dX7_fit_365 : decode cX7_fit 365 = .ok (.iload 7, 2) := by decide +kernel
theorem dX7_fit_367 : decode cX7_fit 367 = .ok (.iload_n 2, 1) := by decide +kernel
theorem dX7_fit_368 : decode cX7_fit 368 = .ok (.if_icmp .ge 34, 3) := by decide +kernel
theorem dX7_fit_371 : decode cX7_fit 371 = .ok (.dload 5, 2) := by decide +kernel
theorem dX7_fit_373 : decode cX7_fit 373 = .ok (.aload_n 0, 1) := by decide +kernel
theorem dX7_fit_374 : decode cX7_fit 374 = .ok (.getfield 85, 3) := by decide +kernel
theorem dX7_fit_377 : decode cX7_fit 377 = .ok (.iconst 5, 1) := by decide +kernel
theorem dX7_fit_378 : decode cX7_fit 378 = .ok (.iload 4, 2) := by decide +kernel
theorem dX7_fit_380 : decode cX7_fit 380 = .ok (.imul, 1) := by decide +kernel
theorem dX7_fit_381 : decode cX7_fit 381 = .ok (.iload 7, 2) := by decide +kernel
theorem dX7_fit_383 : decode cX7_fit 383 = .ok (.iadd, 1) := by decide +kernel
theorem dX7_fit_384 : decode cX7_fit 384 = .ok (.daload, 1) := by decide +kernel
theorem dX7_fit_385 : decode cX7_fit 385 = .ok (.aload_n 0, 1) := by decide +kernel
theorem dX7_fit_386 : decode cX7_fit 386 = .ok (.getfield 91, 3) := by decide +kernel
theorem dX7_fit_389 : decode cX7_fit 389 = .ok (.iload 7, 2) := by decide +kernel
theorem dX7_fit_391 : decode cX7_fit 391 = .ok (.daload, 1) := by decide +kernel
theorem dX7_fit_392 : decode cX7_fit 392 = .ok (.dmul, 1) := by decide +kernel
theorem dX7_fit_393 : decode cX7_fit 393 = .ok (.dsub, 1) := by decide +kernel
theorem dX7_fit_394 : decode cX7_fit 394 = .ok (.dstore 5, 2) := by decide +kernel
theorem dX7_fit_396 : decode cX7_fit 396 = .ok (.iinc 7 1, 3) := by decide +kernel
theorem dX7_fit_399 : decode cX7_fit 399 = .ok (.goto (-34), 3) := by decide +kernel
theorem dX7_fit_402 : decode cX7_fit 402 = .ok (.aload_n 0, 1) := by decide +kernel
theorem dX7_fit_403 : decode cX7_fit 403 = .ok (.getfield 91, 3) := by decide +kernel
theorem dX7_fit_406 : decode cX7_fit 406 = .ok (.iload 4, 2) := by decide +kernel
theorem dX7_fit_408 : decode cX7_fit 408 = .ok (.aload_n 0, 1) := by decide +kernel
theorem dX7_fit_409 : decode cX7_fit 409 = .ok (.getfield 85, 3) := by decide +kernel
theorem dX7_fit_412 : decode cX7_fit 412 = .ok (.bipush 6, 2) := by decide +kernel
theorem dX7_fit_414 : decode cX7_fit 414 = .ok (.iload 4, 2) := by decide +kernel
theorem dX7_fit_416 : decode cX7_fit 416 = .ok (.imul, 1) := by decide +kernel
theorem dX7_fit_417 : decode cX7_fit 417 = .ok (.daload, 1) := by decide +kernel
theorem dX7_fit_418 : decode cX7_fit 418 = .ok (.invokestatic 210, 3) := by decide +kernel
theorem dX7_fit_421 : decode cX7_fit 421 = .ok (.ldc2_w 308, 3) := by decide +kernel
theorem dX7_fit_424 : decode cX7_fit 424 = .ok (.dcmp .l, 1) := by decide +kernel
theorem dX7_fit_425 : decode cX7_fit 425 = .ok (.ifCond .le 19, 3) := by decide +kernel
theorem dX7_fit_428 : decode cX7_fit 428 = .ok (.dload 5, 2) := by decide +kernel
theorem dX7_fit_430 : decode cX7_fit 430 = .ok (.aload_n 0, 1) := by decide +kernel
theorem dX7_fit_431 : decode cX7_fit 431 = .ok (.getfield 85, 3) := by decide +kernel
theorem dX7_fit_434 : decode cX7_fit 434 = .ok (.bipush 6, 2) := by decide +kernel
theorem dX7_fit_436 : decode cX7_fit 436 = .ok (.iload 4, 2) := by decide +kernel
theorem dX7_fit_438 : decode cX7_fit 438 = .ok (.imul, 1) := by decide +kernel
theorem dX7_fit_439 : decode cX7_fit 439 = .ok (.daload, 1) := by decide +kernel
theorem dX7_fit_440 : decode cX7_fit 440 = .ok (.ddiv, 1) := by decide +kernel
theorem dX7_fit_441 : decode cX7_fit 441 = .ok (.goto 4, 3) := by decide +kernel
theorem dX7_fit_444 : decode cX7_fit 444 = .ok (.dconst 0, 1) := by decide +kernel
theorem dX7_fit_445 : decode cX7_fit 445 = .ok (.dastore, 1) := by decide +kernel
theorem dX7_fit_446 : decode cX7_fit 446 = .ok (.iinc 4 (-1), 3) := by decide +kernel
theorem dX7_fit_449 : decode cX7_fit 449 = .ok (.goto (-104), 3) := by decide +kernel
theorem dX7_fit_452 : decode cX7_fit 452 = .ok (.aload_n 0, 1) := by decide +kernel
theorem dX7_fit_453 : decode cX7_fit 453 = .ok (.iload_n 2, 1) := by decide +kernel
theorem dX7_fit_454 : decode cX7_fit 454 = .ok (.putfield 310, 3) := by decide +kernel
theorem dX7_fit_457 : decode cX7_fit 457 = .ok (.iload_n 3, 1) := by decide +kernel
theorem dX7_fit_458 : decode cX7_fit 458 = .ok (.ireturn, 1) := by decide +kernel
theorem dX7_tide_0 : decode cX7_tide 0 = .ok (.aload_n 0, 1) := by decide +kernel
theorem dX7_tide_1 : decode cX7_tide 1 = .ok (.getfield 310, 3) := by decide +kernel
theorem dX7_tide_4 : decode cX7_tide 4 = .ok (.ifCond .eq 14, 3) := by decide +kernel
theorem dX7_tide_7 : decode cX7_tide 7 = .ok (.dload_n 1, 1) := by decide +kernel
theorem dX7_tide_8 : decode cX7_tide 8 = .ok (.dconst 0, 1) := by decide +kernel
theorem dX7_tide_9 : decode cX7_tide 9 = .ok (.ldc2_w 150, 3) := by decide +kernel
theorem dX7_tide_12 : decode cX7_tide 12 = .ok (.invokestatic 152, 3) := by decide +kernel
theorem dX7_tide_15 : decode cX7_tide 15 = .ok (.ifCond .ne 5, 3) := by decide +kernel
theorem dX7_tide_18 : decode cX7_tide 18 = .ok (.dconst 0, 1) := by decide +kernel
theorem dX7_tide_19 : decode cX7_tide 19 = .ok (.dreturn, 1) := by decide +kernel
theorem dX7_tide_20 : decode cX7_tide 20 = .ok (.aload_n 0, 1) := by decide +kernel
theorem dX7_tide_21 : decode cX7_tide 21 = .ok (.getfield 91, 3) := by decide +kernel
theorem dX7_tide_24 : decode cX7_tide 24 = .ok (.iconst 0, 1) := by decide +kernel
theorem dX7_tide_25 : decode cX7_tide 25 = .ok (.daload, 1) := by decide +kernel
theorem dX7_tide_26 : decode cX7_tide 26 = .ok (.dstore_n 3, 1) := by decide +kernel
theorem dX7_tide_27 : decode cX7_tide 27 = .ok (.iconst 1, 1) := by decide +kernel
theorem dX7_tide_28 : decode cX7_tide 28 = .ok (.istore 5, 2) := by decide +kernel
theorem dX7_tide_30 : decode cX7_tide 30 = .ok (.iload 5, 2) := by decide +kernel
theorem dX7_tide_32 : decode cX7_tide 32 = .ok (.aload_n 0, 1) := by decide +kernel
theorem dX7_tide_33 : decode cX7_tide 33 = .ok (.getfield 310, 3) := by decide +kernel
theorem dX7_tide_36 : decode cX7_tide 36 = .ok (.if_icmp .ge 26, 3) := by decide +kernel
theorem dX7_tide_39 : decode cX7_tide 39 = .ok (.dload_n 3, 1) := by decide +kernel
theorem dX7_tide_40 : decode cX7_tide 40 = .ok (.aload_n 0, 1) := by decide +kernel
theorem dX7_tide_41 : decode cX7_tide 41 = .ok (.getfield 91, 3) := by decide +kernel
theorem dX7_tide_44 : decode cX7_tide 44 = .ok (.iload 5, 2) := by decide +kernel
theorem dX7_tide_46 : decode cX7_tide 46 = .ok (.daload, 1) := by decide +kernel
theorem dX7_tide_47 : decode cX7_tide 47 = .ok (.iload 5, 2) := by decide +kernel
theorem dX7_tide_49 : decode cX7_tide 49 = .ok (.dload_n 1, 1) := by decide +kernel
theorem dX7_tide_50 : decode cX7_tide 50 = .ok (.invokestatic 304, 3) := by decide +kernel
theorem dX7_tide_53 : decode cX7_tide 53 = .ok (.dmul, 1) := by decide +kernel
theorem dX7_tide_54 : decode cX7_tide 54 = .ok (.dadd, 1) := by decide +kernel
theorem dX7_tide_55 : decode cX7_tide 55 = .ok (.dstore_n 3, 1) := by decide +kernel
theorem dX7_tide_56 : decode cX7_tide 56 = .ok (.iinc 5 1, 3) := by decide +kernel
theorem dX7_tide_59 : decode cX7_tide 59 = .ok (.goto (-29), 3) := by decide +kernel
theorem dX7_tide_62 : decode cX7_tide 62 = .ok (.dload_n 3, 1) := by decide +kernel
theorem dX7_tide_63 : decode cX7_tide 63 = .ok (.dreturn, 1) := by decide +kernel
theorem dX7_save_0 : decode cX7_save 0 = .ok (.aload_n 0, 1) := by decide +kernel
theorem dX7_save_1 : decode cX7_save 1 = .ok (.getfield 313, 3) := by decide +kernel
theorem dX7_save_4 : decode cX7_save 4 = .ok (.iconst 4, 1) := by decide +kernel
theorem dX7_save_5 : decode cX7_save 5 = .ok (.if_icmp .ne 5, 3) := by decide +kernel
theorem dX7_save_8 : decode cX7_save 8 = .ok (.iconst (-1), 1) := by decide +kernel
theorem dX7_save_9 : decode cX7_save 9 = .ok (.ireturn, 1) := by decide +kernel
theorem dX7_save_10 : decode cX7_save 10 = .ok (.iconst 0, 1) := by decide +kernel
theorem dX7_save_11 : decode cX7_save 11 = .ok (.istore_n 1, 1) := by decide +kernel
theorem dX7_save_12 : decode cX7_save 12 = .ok (.iload_n 1, 1) := by decide +kernel
theorem dX7_save_13 : decode cX7_save 13 = .ok (.sipush 144, 3) := by decide +kernel
theorem dX7_save_16 : decode cX7_save 16 = .ok (.if_icmp .ge 93, 3) := by decide +kernel
theorem dX7_save_19 : decode cX7_save 19 = .ok (.aload_n 0, 1) := by decide +kernel
theorem dX7_save_20 : decode cX7_save 20 = .ok (.getfield 97, 3) := by decide +kernel
theorem dX7_save_23 : decode cX7_save 23 = .ok (.sipush 144, 3) := by decide +kernel
theorem dX7_save_26 : decode cX7_save 26 = .ok (.aload_n 0, 1) := by decide +kernel
theorem dX7_save_27 : decode cX7_save 27 = .ok (.getfield 313, 3) := by decide +kernel
theorem dX7_save_30 : decode cX7_save 30 = .ok (.imul, 1) := by decide +kernel
theorem dX7_save_31 : decode cX7_save 31 = .ok (.iload_n 1, 1) := by decide +kernel
theorem dX7_save_32 : decode cX7_save 32 = .ok (.iadd, 1) := by decide +kernel
theorem dX7_save_33 : decode cX7_save 33 = .ok (.aload_n 0, 1) := by decide +kernel
theorem dX7_save_34 : decode cX7_save 34 = .ok (.getfield 20, 3) := by decide +kernel
theorem dX7_save_37 : decode cX7_save 37 = .ok (.iload_n 1, 1) := by decide +kernel
theorem dX7_save_38 : decode cX7_save 38 = .ok (.laload, 1) := by decide +kernel
theorem dX7_save_39 : decode cX7_save 39 = .ok (.lastore, 1) := by decide +kernel
theorem dX7_save_40 : decode cX7_save 40 = .ok (.aload_n 0, 1) := by decide +kernel
theorem dX7_save_41 : decode cX7_save 41 = .ok (.getfield 100, 3) := by decide +kernel
theorem dX7_save_44 : decode cX7_save 44 = .ok (.sipush 144, 3) := by decide +kernel
theorem dX7_save_47 : decode cX7_save 47 = .ok (.aload_n 0, 1) := by decide +kernel
theorem dX7_save_48 : decode cX7_save 48 = .ok (.getfield 313, 3) := by decide +kernel
theorem dX7_save_51 : decode cX7_save 51 = .ok (.imul, 1) := by decide +kernel
theorem dX7_save_52 : decode cX7_save 52 = .ok (.iload_n 1, 1) := by decide +kernel
theorem dX7_save_53 : decode cX7_save 53 = .ok (.iadd, 1) := by decide +kernel
theorem dX7_save_54 : decode cX7_save 54 = .ok (.aload_n 0, 1) := by decide +kernel
theorem dX7_save_55 : decode cX7_save 55 = .ok (.getfield 24, 3) := by decide +kernel
theorem dX7_save_58 : decode cX7_save 58 = .ok (.iload_n 1, 1) := by decide +kernel
theorem dX7_save_59 : decode cX7_save 59 = .ok (.daload, 1) := by decide +kernel
theorem dX7_save_60 : decode cX7_save 60 = .ok (.dastore, 1) := by decide +kernel
theorem dX7_save_61 : decode cX7_save 61 = .ok (.aload_n 0, 1) := by decide +kernel
theorem dX7_save_62 : decode cX7_save 62 = .ok (.getfield 103, 3) := by decide +kernel
theorem dX7_save_65 : decode cX7_save 65 = .ok (.sipush 144, 3) := by decide +kernel
theorem dX7_save_68 : decode cX7_save 68 = .ok (.aload_n 0, 1) := by decide +kernel
theorem dX7_save_69 : decode cX7_save 69 = .ok (.getfield 313, 3) := by decide +kernel
theorem dX7_save_72 : decode cX7_save 72 = .ok (.imul, 1) := by decide +kernel
theorem dX7_save_73 : decode cX7_save 73 = .ok (.iload_n 1, 1) := by decide +kernel
theorem dX7_save_74 : decode cX7_save 74 = .ok (.iadd, 1) := by decide +kernel
theorem dX7_save_75 : decode cX7_save 75 = .ok (.aload_n 0, 1) := by decide +kernel
theorem dX7_save_76 : decode cX7_save 76 = .ok (.getfield 27, 3) := by decide +kernel
theorem dX7_save_79 : decode cX7_save 79 = .ok (.iload_n 1, 1) := by decide +kernel
theorem dX7_save_80 : decode cX7_save 80 = .ok (.daload, 1) := by decide +kernel
theorem dX7_save_81 : decode cX7_save 81 = .ok (.dastore, 1) := by decide +kernel
theorem dX7_save_82 : decode cX7_save 82 = .ok (.aload_n 0, 1) := by decide +kernel
theorem dX7_save_83 : decode cX7_save 83 = .ok (.getfield 106, 3) := by decide +kernel
theorem dX7_save_86 : decode cX7_save 86 = .ok (.sipush 144, 3) := by decide +kernel
theorem dX7_save_89 : decode cX7_save 89 = .ok (.aload_n 0, 1) := by decide +kernel
theorem dX7_save_90 : decode cX7_save 90 = .ok (.getfield 313, 3) := by decide +kernel
theorem dX7_save_93 : decode cX7_save 93 = .ok (.imul, 1) := by decide +kernel
theorem dX7_save_94 : decode cX7_save 94 = .ok (.iload_n 1, 1) := by decide +kernel
theorem dX7_save_95 : decode cX7_save 95 = .ok (.iadd, 1) := by decide +kernel
theorem dX7_save_96 : decode cX7_save 96 = .ok (.aload_n 0, 1) := by decide +kernel
theorem dX7_save_97 : decode cX7_save 97 = .ok (.getfield 30, 3) := by decide +kernel
theorem dX7_save_100 : decode cX7_save 100 = .ok (.iload_n 1, 1) := by decide +kernel
theorem dX7_save_101 : decode cX7_save 101 = .ok (.daload, 1) := by decide +kernel
theorem dX7_save_102 : decode cX7_save 102 = .ok (.dastore, 1) := by decide +kernel
theorem dX7_save_103 : decode cX7_save 103 = .ok (.iinc 1 1, 3) := by decide +kernel
theorem dX7_save_106 : decode cX7_save 106 = .ok (.goto (-94), 3) := by decide +kernel
theorem dX7_save_109 : decode cX7_save 109 = .ok (.iconst 0, 1) := by decide +kernel
theorem dX7_save_110 : decode cX7_save 110 = .ok (.istore_n 1, 1) := by decide +kernel
theorem dX7_save_111 : decode cX7_save 111 = .ok (.iload_n 1, 1) := by decide +kernel
theorem dX7_save_112 : decode cX7_save 112 = .ok (.sipush 336, 3) := by decide +kernel
theorem dX7_save_115 : decode cX7_save 115 = .ok (.if_icmp .ge 30, 3) := by decide +kernel
theorem dX7_save_118 : decode cX7_save 118 = .ok (.aload_n 0, 1) := by decide +kernel
theorem dX7_save_119 : decode cX7_save 119 = .ok (.getfield 109, 3) := by decide +kernel
theorem dX7_save_122 : decode cX7_save 122 = .ok (.sipush 336, 3) := by decide +kernel
theorem dX7_save_125 : decode cX7_save 125 = .ok (.aload_n 0, 1) := by decide +kernel
theorem dX7_save_126 : decode cX7_save 126 = .ok (.getfield 313, 3) := by decide +kernel
theorem dX7_save_129 : decode cX7_save 129 = .ok (.imul, 1) := by decide +kernel
theorem dX7_save_130 : decode cX7_save 130 = .ok (.iload_n 1, 1) := by decide +kernel
theorem dX7_save_131 : decode cX7_save 131 = .ok (.iadd, 1) := by decide +kernel
theorem dX7_save_132 : decode cX7_save 132 = .ok (.aload_n 0, 1) := by decide +kernel
theorem dX7_save_133 : decode cX7_save 133 = .ok (.getfield 33, 3) := by decide +kernel
theorem dX7_save_136 : decode cX7_save 136 = .ok (.iload_n 1, 1) := by decide +kernel
theorem dX7_save_137 : decode cX7_save 137 = .ok (.daload, 1) := by decide +kernel
theorem dX7_save_138 : decode cX7_save 138 = .ok (.dastore, 1) := by decide +kernel
theorem dX7_save_139 : decode cX7_save 139 = .ok (.iinc 1 1, 3) := by decide +kernel
theorem dX7_save_142 : decode cX7_save 142 = .ok (.goto (-31), 3) := by decide +kernel
theorem dX7_save_145 : decode cX7_save 145 = .ok (.iconst 0, 1) := by decide +kernel
theorem dX7_save_146 : decode cX7_save 146 = .ok (.istore_n 1, 1) := by decide +kernel
theorem dX7_save_147 : decode cX7_save 147 = .ok (.iload_n 1, 1) := by decide +kernel
theorem dX7_save_148 : decode cX7_save 148 = .ok (.iconst 4, 1) := by decide +kernel
theorem dX7_save_149 : decode cX7_save 149 = .ok (.if_icmp .ge 28, 3) := by decide +kernel
theorem dX7_save_152 : decode cX7_save 152 = .ok (.aload_n 0, 1) := by decide +kernel
theorem dX7_save_153 : decode cX7_save 153 = .ok (.getfield 112, 3) := by decide +kernel
theorem dX7_save_156 : decode cX7_save 156 = .ok (.iconst 4, 1) := by decide +kernel
theorem dX7_save_157 : decode cX7_save 157 = .ok (.aload_n 0, 1) := by decide +kernel
theorem dX7_save_158 : decode cX7_save 158 = .ok (.getfield 313, 3) := by decide +kernel
theorem dX7_save_161 : decode cX7_save 161 = .ok (.imul, 1) := by decide +kernel
theorem dX7_save_162 : decode cX7_save 162 = .ok (.iload_n 1, 1) := by decide +kernel
theorem dX7_save_163 : decode cX7_save 163 = .ok (.iadd, 1) := by decide +kernel
theorem dX7_save_164 : decode cX7_save 164 = .ok (.aload_n 0, 1) := by decide +kernel
theorem dX7_save_165 : decode cX7_save 165 = .ok (.getfield 36, 3) := by decide +kernel
theorem dX7_save_168 : decode cX7_save 168 = .ok (.iload_n 1, 1) := by decide +kernel
theorem dX7_save_169 : decode cX7_save 169 = .ok (.laload, 1) := by decide +kernel
theorem dX7_save_170 : decode cX7_save 170 = .ok (.lastore, 1) := by decide +kernel
theorem dX7_save_171 : decode cX7_save 171 = .ok (.iinc 1 1, 3) := by decide +kernel
theorem dX7_save_174 : decode cX7_save 174 = .ok (.goto (-27), 3) := by decide +kernel
theorem dX7_save_177 : decode cX7_save 177 = .ok (.aload_n 0, 1) := by decide +kernel
theorem dX7_save_178 : decode cX7_save 178 = .ok (.getfield 115, 3) := by decide +kernel
theorem dX7_save_181 : decode cX7_save 181 = .ok (.aload_n 0, 1) := by decide +kernel
theorem dX7_save_182 : decode cX7_save 182 = .ok (.getfield 313, 3) := by decide +kernel
theorem dX7_save_185 : decode cX7_save 185 = .ok (.aload_n 0, 1) := by decide +kernel
theorem dX7_save_186 : decode cX7_save 186 = .ok (.getfield 261, 3) := by decide +kernel
theorem dX7_save_189 : decode cX7_save 189 = .ok (.lastore, 1) := by decide +kernel
theorem dX7_save_190 : decode cX7_save 190 = .ok (.aload_n 0, 1) := by decide +kernel
theorem dX7_save_191 : decode cX7_save 191 = .ok (.getfield 118, 3) := by decide +kernel
theorem dX7_save_194 : decode cX7_save 194 = .ok (.aload_n 0, 1) := by decide +kernel
theorem dX7_save_195 : decode cX7_save 195 = .ok (.getfield 313, 3) := by decide +kernel
theorem dX7_save_198 : decode cX7_save 198 = .ok (.aload_n 0, 1) := by decide +kernel
theorem dX7_save_199 : decode cX7_save 199 = .ok (.getfield 186, 3) := by decide +kernel
theorem dX7_save_202 : decode cX7_save 202 = .ok (.dastore, 1) := by decide +kernel
theorem dX7_save_203 : decode cX7_save 203 = .ok (.aload_n 0, 1) := by decide +kernel
theorem dX7_save_204 : decode cX7_save 204 = .ok (.getfield 94, 3) := by decide +kernel
theorem dX7_save_207 : decode cX7_save 207 = .ok (.aload_n 0, 1) := by decide +kernel
theorem dX7_save_208 : decode cX7_save 208 = .ok (.getfield 313, 3) := by decide +kernel
theorem dX7_save_211 : decode cX7_save 211 = .ok (.aload_n 0, 1) := by decide +kernel
theorem dX7_save_212 : decode cX7_save 212 = .ok (.getfield 171, 3) := by decide +kernel
theorem dX7_save_215 : decode cX7_save 215 = .ok (.iastore, 1) := by decide +kernel
theorem dX7_save_216 : decode cX7_save 216 = .ok (.aload_n 0, 1) := by decide +kernel
theorem dX7_save_217 : decode cX7_save 217 = .ok (.dup, 1) := by decide +kernel
theorem dX7_save_218 : decode cX7_save 218 = .ok (.getfield 313, 3) := by decide +kernel
theorem dX7_save_221 : decode cX7_save 221 = .ok (.iconst 1, 1) := by decide +kernel
theorem dX7_save_222 : decode cX7_save 222 = .ok (.iadd, 1) := by decide +kernel
theorem dX7_save_223 : decode cX7_save 223 = .ok (.putfield 313, 3) := by decide +kernel
theorem dX7_save_226 : decode cX7_save 226 = .ok (.aload_n 0, 1) := by decide +kernel
theorem dX7_save_227 : decode cX7_save 227 = .ok (.getfield 313, 3) := by decide +kernel
theorem dX7_save_230 : decode cX7_save 230 = .ok (.iconst 1, 1) := by decide +kernel
theorem dX7_save_231 : decode cX7_save 231 = .ok (.isub, 1) := by decide +kernel
theorem dX7_save_232 : decode cX7_save 232 = .ok (.ireturn, 1) := by decide +kernel
theorem dX7_back_0 : decode cX7_back 0 = .ok (.iload_n 1, 1) := by decide +kernel
theorem dX7_back_1 : decode cX7_back 1 = .ok (.ifCond .lt 24, 3) := by decide +kernel
theorem dX7_back_4 : decode cX7_back 4 = .ok (.iload_n 1, 1) := by decide +kernel
theorem dX7_back_5 : decode cX7_back 5 = .ok (.aload_n 0, 1) := by decide +kernel
theorem dX7_back_6 : decode cX7_back 6 = .ok (.getfield 313, 3) := by decide +kernel
theorem dX7_back_9 : decode cX7_back 9 = .ok (.if_icmp .ge 16, 3) := by decide +kernel
theorem dX7_back_12 : decode cX7_back 12 = .ok (.aload_n 0, 1) := by decide +kernel
theorem dX7_back_13 : decode cX7_back 13 = .ok (.getfield 94, 3) := by decide +kernel
theorem dX7_back_16 : decode cX7_back 16 = .ok (.iload_n 1, 1) := by decide +kernel
theorem dX7_back_17 : decode cX7_back 17 = .ok (.iaload, 1) := by decide +kernel
theorem dX7_back_18 : decode cX7_back 18 = .ok (.aload_n 0, 1) := by decide +kernel
theorem dX7_back_19 : decode cX7_back 19 = .ok (.getfield 171, 3) := by decide +kernel
theorem dX7_back_22 : decode cX7_back 22 = .ok (.if_icmp .eq 5, 3) := by decide +kernel
theorem dX7_back_25 : decode cX7_back 25 = .ok (.iconst 0, 1) := by decide +kernel
theorem dX7_back_26 : decode cX7_back 26 = .ok (.ireturn, 1) := by decide +kernel
theorem dX7_back_27 : decode cX7_back 27 = .ok (.iconst 0, 1) := by decide +kernel
theorem dX7_back_28 : decode cX7_back 28 = .ok (.istore_n 2, 1) := by decide +kernel
theorem dX7_back_29 : decode cX7_back 29 = .ok (.iload_n 2, 1) := by decide +kernel
theorem dX7_back_30 : decode cX7_back 30 = .ok (.sipush 144, 3) := by decide +kernel
theorem dX7_back_33 : decode cX7_back 33 = .ok (.if_icmp .ge 81, 3) := by decide +kernel
theorem dX7_back_36 : decode cX7_back 36 = .ok (.aload_n 0, 1) := by decide +kernel
theorem dX7_back_37 : decode cX7_back 37 = .ok (.getfield 20, 3) := by decide +kernel
theorem dX7_back_40 : decode cX7_back 40 = .ok (.iload_n 2, 1) := by decide +kernel
theorem dX7_back_41 : decode cX7_back 41 = .ok (.aload_n 0, 1) := by decide +kernel
theorem dX7_back_42 : decode cX7_back 42 = .ok (.getfield 97, 3) := by decide +kernel
theorem dX7_back_45 : decode cX7_back 45 = .ok (.sipush 144, 3) := by decide +kernel
theorem dX7_back_48 : decode cX7_back 48 = .ok (.iload_n 1, 1) := by decide +kernel
theorem dX7_back_49 : decode cX7_back 49 = .ok (.imul, 1) := by decide +kernel
theorem dX7_back_50 : decode cX7_back 50 = .ok (.iload_n 2, 1) := by decide +kernel
theorem dX7_back_51 : decode cX7_back 51 = .ok (.iadd, 1) := by decide +kernel
theorem dX7_back_52 : decode cX7_back 52 = .ok (.laload, 1) := by decide +kernel
theorem dX7_back_53 : decode cX7_back 53 = .ok (.lastore, 1) := by decide +kernel
theorem dX7_back_54 : decode cX7_back 54 = .ok (.aload_n 0, 1) := by decide +kernel
theorem dX7_back_55 : decode cX7_back 55 = .ok (.getfield 24, 3) := by decide +kernel
theorem dX7_back_58 : decode cX7_back 58 = .ok (.iload_n 2, 1) := by decide +kernel
theorem dX7_back_59 : decode cX7_back 59 = .ok (.aload_n 0, 1) := by decide +kernel
theorem dX7_back_60 : decode cX7_back 60 = .ok (.getfield 100, 3) := by decide +kernel
theorem dX7_back_63 : decode cX7_back 63 = .ok (.sipush 144, 3) := by decide +kernel
theorem dX7_back_66 : decode cX7_back 66 = .ok (.iload_n 1, 1) := by decide +kernel
theorem dX7_back_67 : decode cX7_back 67 = .ok (.imul, 1) := by decide +kernel
theorem dX7_back_68 : decode cX7_back 68 = .ok (.iload_n 2, 1) := by decide +kernel
theorem dX7_back_69 : decode cX7_back 69 = .ok (.iadd, 1) := by decide +kernel
theorem dX7_back_70 : decode cX7_back 70 = .ok (.daload, 1) := by decide +kernel
theorem dX7_back_71 : decode cX7_back 71 = .ok (.dastore, 1) := by decide +kernel
theorem dX7_back_72 : decode cX7_back 72 = .ok (.aload_n 0, 1) := by decide +kernel
theorem dX7_back_73 : decode cX7_back 73 = .ok (.getfield 27, 3) := by decide +kernel
theorem dX7_back_76 : decode cX7_back 76 = .ok (.iload_n 2, 1) := by decide +kernel
theorem dX7_back_77 : decode cX7_back 77 = .ok (.aload_n 0, 1) := by decide +kernel
theorem dX7_back_78 : decode cX7_back 78 = .ok (.getfield 103, 3) := by decide +kernel
theorem dX7_back_81 : decode cX7_back 81 = .ok (.sipush 144, 3) := by decide +kernel
theorem dX7_back_84 : decode cX7_back 84 = .ok (.iload_n 1, 1) := by decide +kernel
theorem dX7_back_85 : decode cX7_back 85 = .ok (.imul, 1) := by decide +kernel
theorem dX7_back_86 : decode cX7_back 86 = .ok (.iload_n 2, 1) := by decide +kernel
theorem dX7_back_87 : decode cX7_back 87 = .ok (.iadd, 1) := by decide +kernel
theorem dX7_back_88 : decode cX7_back 88 = .ok (.daload, 1) := by decide +kernel
theorem dX7_back_89 : decode cX7_back 89 = .ok (.dastore, 1) := by decide +kernel
theorem dX7_back_90 : decode cX7_back 90 = .ok (.aload_n 0, 1) := by decide +kernel
theorem dX7_back_91 : decode cX7_back 91 = .ok (.getfield 30, 3) := by decide +kernel
theorem dX7_back_94 : decode cX7_back 94 = .ok (.iload_n 2, 1) := by decide +kernel
theorem dX7_back_95 : decode cX7_back 95 = .ok (.aload_n 0, 1) := by decide +kernel
theorem dX7_back_96 : decode cX7_back 96 = .ok (.getfield 106, 3) := by decide +kernel
theorem dX7_back_99 : decode cX7_back 99 = .ok (.sipush 144, 3) := by decide +kernel
theorem dX7_back_102 : decode cX7_back 102 = .ok (.iload_n 1, 1) := by decide +kernel
theorem dX7_back_103 : decode cX7_back 103 = .ok (.imul, 1) := by decide +kernel
theorem dX7_back_104 : decode cX7_back 104 = .ok (.iload_n 2, 1) := by decide +kernel
theorem dX7_back_105 : decode cX7_back 105 = .ok (.iadd, 1) := by decide +kernel
theorem dX7_back_106 : decode cX7_back 106 = .ok (.daload, 1) := by decide +kernel
theorem dX7_back_107 : decode cX7_back 107 = .ok (.dastore, 1) := by decide +kernel
theorem dX7_back_108 : decode cX7_back 108 = .ok (.iinc 2 1, 3) := by decide +kernel
theorem dX7_back_111 : decode cX7_back 111 = .ok (.goto (-82), 3) := by decide +kernel
theorem dX7_back_114 : decode cX7_back 114 = .ok (.iconst 0, 1) := by decide +kernel
theorem dX7_back_115 : decode cX7_back 115 = .ok (.istore_n 2, 1) := by decide +kernel
theorem dX7_back_116 : decode cX7_back 116 = .ok (.iload_n 2, 1) := by decide +kernel
theorem dX7_back_117 : decode cX7_back 117 = .ok (.sipush 336, 3) := by decide +kernel
theorem dX7_back_120 : decode cX7_back 120 = .ok (.if_icmp .ge 27, 3) := by decide +kernel
theorem dX7_back_123 : decode cX7_back 123 = .ok (.aload_n 0, 1) := by decide +kernel
theorem dX7_back_124 : decode cX7_back 124 = .ok (.getfield 33, 3) := by decide +kernel
theorem dX7_back_127 : decode cX7_back 127 = .ok (.iload_n 2, 1) := by decide +kernel
theorem dX7_back_128 : decode cX7_back 128 = .ok (.aload_n 0, 1) := by decide +kernel
theorem dX7_back_129 : decode cX7_back 129 = .ok (.getfield 109, 3) := by decide +kernel
theorem dX7_back_132 : decode cX7_back 132 = .ok (.sipush 336, 3) := by decide +kernel
theorem dX7_back_135 : decode cX7_back 135 = .ok (.iload_n 1, 1) := by decide +kernel
theorem dX7_back_136 : decode cX7_back 136 = .ok (.imul, 1) := by decide +kernel
theorem dX7_back_137 : decode cX7_back 137 = .ok (.iload_n 2, 1) := by decide +kernel
theorem dX7_back_138 : decode cX7_back 138 = .ok (.iadd, 1) := by decide +kernel
theorem dX7_back_139 : decode cX7_back 139 = .ok (.daload, 1) := by decide +kernel
theorem dX7_back_140 : decode cX7_back 140 = .ok (.dastore, 1) := by decide +kernel
theorem dX7_back_141 : decode cX7_back 141 = .ok (.iinc 2 1, 3) := by decide +kernel
theorem dX7_back_144 : decode cX7_back 144 = .ok (.goto (-28), 3) := by decide +kernel
theorem dX7_back_147 : decode cX7_back 147 = .ok (.iconst 0, 1) := by decide +kernel
theorem dX7_back_148 : decode cX7_back 148 = .ok (.istore_n 2, 1) := by decide +kernel
theorem dX7_back_149 : decode cX7_back 149 = .ok (.iload_n 2, 1) := by decide +kernel
theorem dX7_back_150 : decode cX7_back 150 = .ok (.iconst 4, 1) := by decide +kernel
theorem dX7_back_151 : decode cX7_back 151 = .ok (.if_icmp .ge 25, 3) := by decide +kernel
theorem dX7_back_154 : decode cX7_back 154 = .ok (.aload_n 0, 1) := by decide +kernel
theorem dX7_back_155 : decode cX7_back 155 = .ok (.getfield 36, 3) := by decide +kernel
theorem dX7_back_158 : decode cX7_back 158 = .ok (.iload_n 2, 1) := by decide +kernel
theorem dX7_back_159 : decode cX7_back 159 = .ok (.aload_n 0, 1) := by decide +kernel
theorem dX7_back_160 : decode cX7_back 160 = .ok (.getfield 112, 3) := by decide +kernel
theorem dX7_back_163 : decode cX7_back 163 = .ok (.iconst 4, 1) := by decide +kernel
theorem dX7_back_164 : decode cX7_back 164 = .ok (.iload_n 1, 1) := by decide +kernel
theorem dX7_back_165 : decode cX7_back 165 = .ok (.imul, 1) := by decide +kernel
theorem dX7_back_166 : decode cX7_back 166 = .ok (.iload_n 2, 1) := by decide +kernel
theorem dX7_back_167 : decode cX7_back 167 = .ok (.iadd, 1) := by decide +kernel
theorem dX7_back_168 : decode cX7_back 168 = .ok (.laload, 1) := by decide +kernel
theorem dX7_back_169 : decode cX7_back 169 = .ok (.lastore, 1) := by decide +kernel
theorem dX7_back_170 : decode cX7_back 170 = .ok (.iinc 2 1, 3) := by decide +kernel
theorem dX7_back_173 : decode cX7_back 173 = .ok (.goto (-24), 3) := by decide +kernel
theorem dX7_back_176 : decode cX7_back 176 = .ok (.aload_n 0, 1) := by decide +kernel
theorem dX7_back_177 : decode cX7_back 177 = .ok (.aload_n 0, 1) := by decide +kernel
theorem dX7_back_178 : decode cX7_back 178 = .ok (.getfield 115, 3) := by decide +kernel
theorem dX7_back_181 : decode cX7_back 181 = .ok (.iload_n 1, 1) := by decide +kernel
theorem dX7_back_182 : decode cX7_back 182 = .ok (.laload, 1) := by decide +kernel
theorem dX7_back_183 : decode cX7_back 183 = .ok (.putfield 261, 3) := by decide +kernel
theorem dX7_back_186 : decode cX7_back 186 = .ok (.aload_n 0, 1) := by decide +kernel
theorem dX7_back_187 : decode cX7_back 187 = .ok (.aload_n 0, 1) := by decide +kernel
theorem dX7_back_188 : decode cX7_back 188 = .ok (.getfield 118, 3) := by decide +kernel
theorem dX7_back_191 : decode cX7_back 191 = .ok (.iload_n 1, 1) := by decide +kernel
theorem dX7_back_192 : decode cX7_back 192 = .ok (.daload, 1) := by decide +kernel
theorem dX7_back_193 : decode cX7_back 193 = .ok (.putfield 186, 3) := by decide +kernel
theorem dX7_back_196 : decode cX7_back 196 = .ok (.iconst 1, 1) := by decide +kernel
theorem dX7_back_197 : decode cX7_back 197 = .ok (.ireturn, 1) := by decide +kernel
end
section
theorem dJ9_floorMod_f86c9_0 : decode cJ9_floorMod_f86c9 0 = .ok (.lload_n 0, 1) := by decide +kernel
theorem dJ9_floorMod_f86c9_1 : decode cJ9_floorMod_f86c9 1 = .ok (.lload_n 2, 1) := by decide +kernel
theorem dJ9_floorMod_f86c9_2 : decode cJ9_floorMod_f86c9 2 = .ok (.lrem, 1) := by decide +kernel
theorem dJ9_floorMod_f86c9_3 : decode cJ9_floorMod_f86c9 3 = .ok (.lstore 4, 2) := by decide +kernel
theorem dJ9_floorMod_f86c9_5 : decode cJ9_floorMod_f86c9 5 = .ok (.lload_n 0, 1) := by decide +kernel
theorem dJ9_floorMod_f86c9_6 : decode cJ9_floorMod_f86c9 6 = .ok (.lload_n 2, 1) := by decide +kernel
theorem dJ9_floorMod_f86c9_7 : decode cJ9_floorMod_f86c9 7 = .ok (.lxor, 1) := by decide +kernel
theorem dJ9_floorMod_f86c9_8 : decode cJ9_floorMod_f86c9 8 = .ok (.lconst 0, 1) := by decide +kernel
theorem dJ9_floorMod_f86c9_9 : decode cJ9_floorMod_f86c9 9 = .ok (.lcmp, 1) := by decide +kernel
theorem dJ9_floorMod_f86c9_10 : decode cJ9_floorMod_f86c9 10 = .ok (.ifCond .ge 15, 3) := by decide +kernel
theorem dJ9_floorMod_f86c9_13 : decode cJ9_floorMod_f86c9 13 = .ok (.lload 4, 2) := by decide +kernel
theorem dJ9_floorMod_f86c9_15 : decode cJ9_floorMod_f86c9 15 = .ok (.lconst 0, 1) := by decide +kernel
theorem dJ9_floorMod_f86c9_16 : decode cJ9_floorMod_f86c9 16 = .ok (.lcmp, 1) := by decide +kernel
theorem dJ9_floorMod_f86c9_17 : decode cJ9_floorMod_f86c9 17 = .ok (.ifCond .eq 8, 3) := by decide +kernel
theorem dJ9_floorMod_f86c9_20 : decode cJ9_floorMod_f86c9 20 = .ok (.lload 4, 2) := by decide +kernel
theorem dJ9_floorMod_f86c9_22 : decode cJ9_floorMod_f86c9 22 = .ok (.lload_n 2, 1) := by decide +kernel
theorem dJ9_floorMod_f86c9_23 : decode cJ9_floorMod_f86c9 23 = .ok (.ladd, 1) := by decide +kernel
theorem dJ9_floorMod_f86c9_24 : decode cJ9_floorMod_f86c9 24 = .ok (.lreturn, 1) := by decide +kernel
theorem dJ9_floorMod_f86c9_25 : decode cJ9_floorMod_f86c9 25 = .ok (.lload 4, 2) := by decide +kernel
theorem dJ9_floorMod_f86c9_27 : decode cJ9_floorMod_f86c9 27 = .ok (.lreturn, 1) := by decide +kernel
theorem dJ9_max_7cf53_0 : decode cJ9_max_7cf53 0 = .ok (.iload_n 0, 1) := by decide +kernel
theorem dJ9_max_7cf53_1 : decode cJ9_max_7cf53 1 = .ok (.iload_n 1, 1) := by decide +kernel
theorem dJ9_max_7cf53_2 : decode cJ9_max_7cf53 2 = .ok (.if_icmp .lt 7, 3) := by decide +kernel
theorem dJ9_max_7cf53_5 : decode cJ9_max_7cf53 5 = .ok (.iload_n 0, 1) := by decide +kernel
theorem dJ9_max_7cf53_6 : decode cJ9_max_7cf53 6 = .ok (.goto 4, 3) := by decide +kernel
theorem dJ9_max_7cf53_9 : decode cJ9_max_7cf53 9 = .ok (.iload_n 1, 1) := by decide +kernel
theorem dJ9_max_7cf53_10 : decode cJ9_max_7cf53 10 = .ok (.ireturn, 1) := by decide +kernel
theorem dJ9_max_f86c9_0 : decode cJ9_max_f86c9 0 = .ok (.lload_n 0, 1) := by decide +kernel
theorem dJ9_max_f86c9_1 : decode cJ9_max_f86c9 1 = .ok (.lload_n 2, 1) := by decide +kernel
theorem dJ9_max_f86c9_2 : decode cJ9_max_f86c9 2 = .ok (.lcmp, 1) := by decide +kernel
theorem dJ9_max_f86c9_3 : decode cJ9_max_f86c9 3 = .ok (.ifCond .lt 7, 3) := by decide +kernel
theorem dJ9_max_f86c9_6 : decode cJ9_max_f86c9 6 = .ok (.lload_n 0, 1) := by decide +kernel
theorem dJ9_max_f86c9_7 : decode cJ9_max_f86c9 7 = .ok (.goto 4, 3) := by decide +kernel
theorem dJ9_max_f86c9_10 : decode cJ9_max_f86c9 10 = .ok (.lload_n 2, 1) := by decide +kernel
theorem dJ9_max_f86c9_11 : decode cJ9_max_f86c9 11 = .ok (.lreturn, 1) := by decide +kernel
theorem dJ9_max_eb370_0 : decode cJ9_max_eb370 0 = .ok (.dload_n 0, 1) := by decide +kernel
theorem dJ9_max_eb370_1 : decode cJ9_max_eb370 1 = .ok (.dload_n 0, 1) := by decide +kernel
theorem dJ9_max_eb370_2 : decode cJ9_max_eb370 2 = .ok (.dcmp .l, 1) := by decide +kernel
theorem dJ9_max_eb370_3 : decode cJ9_max_eb370 3 = .ok (.ifCond .eq 5, 3) := by decide +kernel
theorem dJ9_max_eb370_6 : decode cJ9_max_eb370 6 = .ok (.dload_n 0, 1) := by decide +kernel
theorem dJ9_max_eb370_7 : decode cJ9_max_eb370 7 = .ok (.dreturn, 1) := by decide +kernel
theorem dJ9_max_eb370_8 : decode cJ9_max_eb370 8 = .ok (.dload_n 0, 1) := by decide +kernel
theorem dJ9_max_eb370_9 : decode cJ9_max_eb370 9 = .ok (.dconst 0, 1) := by decide +kernel
theorem dJ9_max_eb370_10 : decode cJ9_max_eb370 10 = .ok (.dcmp .l, 1) := by decide +kernel
theorem dJ9_max_eb370_11 : decode cJ9_max_eb370 11 = .ok (.ifCond .ne 22, 3) := by decide +kernel
theorem dJ9_max_eb370_14 : decode cJ9_max_eb370 14 = .ok (.dload_n 2, 1) := by decide +kernel
theorem dJ9_max_eb370_15 : decode cJ9_max_eb370 15 = .ok (.dconst 0, 1) := by decide +kernel
theorem dJ9_max_eb370_16 : decode cJ9_max_eb370 16 = .ok (.dcmp .l, 1) := by decide +kernel
theorem dJ9_max_eb370_17 : decode cJ9_max_eb370 17 = .ok (.ifCond .ne 16, 3) := by decide +kernel
theorem dJ9_max_eb370_20 : decode cJ9_max_eb370 20 = .ok (.dload_n 0, 1) := by decide +kernel
theorem dJ9_max_eb370_21 : decode cJ9_max_eb370 21 = .ok (.invokestatic 79, 3) := by decide +kernel
theorem dJ9_max_eb370_24 : decode cJ9_max_eb370 24 = .ok (.getstatic 174, 3) := by decide +kernel
theorem dJ9_max_eb370_27 : decode cJ9_max_eb370 27 = .ok (.lcmp, 1) := by decide +kernel
theorem dJ9_max_eb370_28 : decode cJ9_max_eb370 28 = .ok (.ifCond .ne 5, 3) := by decide +kernel
theorem dJ9_max_eb370_31 : decode cJ9_max_eb370 31 = .ok (.dload_n 2, 1) := by decide +kernel
theorem dJ9_max_eb370_32 : decode cJ9_max_eb370 32 = .ok (.dreturn, 1) := by decide +kernel
theorem dJ9_max_eb370_33 : decode cJ9_max_eb370 33 = .ok (.dload_n 0, 1) := by decide +kernel
theorem dJ9_max_eb370_34 : decode cJ9_max_eb370 34 = .ok (.dload_n 2, 1) := by decide +kernel
theorem dJ9_max_eb370_35 : decode cJ9_max_eb370 35 = .ok (.dcmp .l, 1) := by decide +kernel
theorem dJ9_max_eb370_36 : decode cJ9_max_eb370 36 = .ok (.ifCond .lt 7, 3) := by decide +kernel
theorem dJ9_max_eb370_39 : decode cJ9_max_eb370 39 = .ok (.dload_n 0, 1) := by decide +kernel
theorem dJ9_max_eb370_40 : decode cJ9_max_eb370 40 = .ok (.goto 4, 3) := by decide +kernel
theorem dJ9_max_eb370_43 : decode cJ9_max_eb370 43 = .ok (.dload_n 2, 1) := by decide +kernel
theorem dJ9_max_eb370_44 : decode cJ9_max_eb370 44 = .ok (.dreturn, 1) := by decide +kernel
theorem dJ9_min_7cf53_0 : decode cJ9_min_7cf53 0 = .ok (.iload_n 0, 1) := by decide +kernel
theorem dJ9_min_7cf53_1 : decode cJ9_min_7cf53 1 = .ok (.iload_n 1, 1) := by decide +kernel
theorem dJ9_min_7cf53_2 : decode cJ9_min_7cf53 2 = .ok (.if_icmp .gt 7, 3) := by decide +kernel
theorem dJ9_min_7cf53_5 : decode cJ9_min_7cf53 5 = .ok (.iload_n 0, 1) := by decide +kernel
theorem dJ9_min_7cf53_6 : decode cJ9_min_7cf53 6 = .ok (.goto 4, 3) := by decide +kernel
theorem dJ9_min_7cf53_9 : decode cJ9_min_7cf53 9 = .ok (.iload_n 1, 1) := by decide +kernel
theorem dJ9_min_7cf53_10 : decode cJ9_min_7cf53 10 = .ok (.ireturn, 1) := by decide +kernel
theorem dJ9_min_f86c9_0 : decode cJ9_min_f86c9 0 = .ok (.lload_n 0, 1) := by decide +kernel
theorem dJ9_min_f86c9_1 : decode cJ9_min_f86c9 1 = .ok (.lload_n 2, 1) := by decide +kernel
theorem dJ9_min_f86c9_2 : decode cJ9_min_f86c9 2 = .ok (.lcmp, 1) := by decide +kernel
theorem dJ9_min_f86c9_3 : decode cJ9_min_f86c9 3 = .ok (.ifCond .gt 7, 3) := by decide +kernel
theorem dJ9_min_f86c9_6 : decode cJ9_min_f86c9 6 = .ok (.lload_n 0, 1) := by decide +kernel
theorem dJ9_min_f86c9_7 : decode cJ9_min_f86c9 7 = .ok (.goto 4, 3) := by decide +kernel
theorem dJ9_min_f86c9_10 : decode cJ9_min_f86c9 10 = .ok (.lload_n 2, 1) := by decide +kernel
theorem dJ9_min_f86c9_11 : decode cJ9_min_f86c9 11 = .ok (.lreturn, 1) := by decide +kernel
end
section
theorem dL_cell_0 : decode cL_cell 0 = .ok (.iload_n 1, 1) := by decide +kernel
theorem dL_cell_1 : decode cL_cell 1 = .ok (.aload_n 0, 1) := by decide +kernel
theorem dL_cell_2 : decode cL_cell 2 = .ok (.arraylength, 1) := by decide +kernel
theorem dL_cell_3 : decode cL_cell 3 = .ok (.if_icmp .ge 9, 3) := by decide +kernel
theorem dL_cell_6 : decode cL_cell 6 = .ok (.aload_n 0, 1) := by decide +kernel
theorem dL_cell_7 : decode cL_cell 7 = .ok (.iload_n 1, 1) := by decide +kernel
theorem dL_cell_8 : decode cL_cell 8 = .ok (.iaload, 1) := by decide +kernel
theorem dL_cell_9 : decode cL_cell 9 = .ok (.goto 4, 3) := by decide +kernel
theorem dL_cell_12 : decode cL_cell 12 = .ok (.iconst 0, 1) := by decide +kernel
theorem dL_cell_13 : decode cL_cell 13 = .ok (.ireturn, 1) := by decide +kernel
theorem dL_law_0 : decode cL_law 0 = .ok (.new 7, 3) := by decide +kernel
theorem dL_law_3 : decode cL_law 3 = .ok (.dup, 1) := by decide +kernel
theorem dL_law_4 : decode cL_law 4 = .ok (.aload_n 0, 1) := by decide +kernel
theorem dL_law_5 : decode cL_law 5 = .ok (.iconst 0, 1) := by decide +kernel
theorem dL_law_6 : decode cL_law 6 = .ok (.invokestatic 9, 3) := by decide +kernel
theorem dL_law_9 : decode cL_law 9 = .ok (.aload_n 0, 1) := by decide +kernel
theorem dL_law_10 : decode cL_law 10 = .ok (.iconst 1, 1) := by decide +kernel
theorem dL_law_11 : decode cL_law 11 = .ok (.invokestatic 9, 3) := by decide +kernel
theorem dL_law_14 : decode cL_law 14 = .ok (.aload_n 0, 1) := by decide +kernel
theorem dL_law_15 : decode cL_law 15 = .ok (.iconst 2, 1) := by decide +kernel
theorem dL_law_16 : decode cL_law 16 = .ok (.invokestatic 9, 3) := by decide +kernel
theorem dL_law_19 : decode cL_law 19 = .ok (.invokespecial 15, 3) := by decide +kernel
theorem dL_law_22 : decode cL_law 22 = .ok (.astore_n 1, 1) := by decide +kernel
theorem dL_law_23 : decode cL_law 23 = .ok (.new 18, 3) := by decide +kernel
theorem dL_law_26 : decode cL_law 26 = .ok (.dup, 1) := by decide +kernel
theorem dL_law_27 : decode cL_law 27 = .ok (.aload_n 0, 1) := by decide +kernel
theorem dL_law_28 : decode cL_law 28 = .ok (.iconst 0, 1) := by decide +kernel
theorem dL_law_29 : decode cL_law 29 = .ok (.invokestatic 9, 3) := by decide +kernel
theorem dL_law_32 : decode cL_law 32 = .ok (.aload_n 0, 1) := by decide +kernel
theorem dL_law_33 : decode cL_law 33 = .ok (.iconst 1, 1) := by decide +kernel
theorem dL_law_34 : decode cL_law 34 = .ok (.invokestatic 9, 3) := by decide +kernel
theorem dL_law_37 : decode cL_law 37 = .ok (.aload_n 0, 1) := by decide +kernel
theorem dL_law_38 : decode cL_law 38 = .ok (.iconst 2, 1) := by decide +kernel
theorem dL_law_39 : decode cL_law 39 = .ok (.invokestatic 9, 3) := by decide +kernel
theorem dL_law_42 : decode cL_law 42 = .ok (.invokespecial 20, 3) := by decide +kernel
theorem dL_law_45 : decode cL_law 45 = .ok (.astore_n 2, 1) := by decide +kernel
theorem dL_law_46 : decode cL_law 46 = .ok (.iconst 3, 1) := by decide +kernel
theorem dL_law_47 : decode cL_law 47 = .ok (.istore_n 3, 1) := by decide +kernel
theorem dL_law_48 : decode cL_law 48 = .ok (.iload_n 3, 1) := by decide +kernel
theorem dL_law_49 : decode cL_law 49 = .ok (.aload_n 0, 1) := by decide +kernel
theorem dL_law_50 : decode cL_law 50 = .ok (.arraylength, 1) := by decide +kernel
theorem dL_law_51 : decode cL_law 51 = .ok (.iconst 5, 1) := by decide +kernel
theorem dL_law_52 : decode cL_law 52 = .ok (.isub, 1) := by decide +kernel
theorem dL_law_53 : decode cL_law 53 = .ok (.if_icmp .gt 1236, 3) := by decide +kernel
theorem dL_law_56 : decode cL_law 56 = .ok (.aload_n 0, 1) := by decide +kernel
theorem dL_law_57 : decode cL_law 57 = .ok (.iload_n 3, 1) := by decide +kernel
theorem dL_law_58 : decode cL_law 58 = .ok (.iaload, 1) := by decide +kernel
theorem dL_law_59 : decode cL_law 59 = .ok (.bipush 31, 2) := by decide +kernel
theorem dL_law_61 : decode cL_law 61 = .ok (.iand, 1) := by decide +kernel
theorem dL_law_62 : decode cL_law 62 = .ok (.tableswitch 1221 0 22 #[106, 159, 232, 295, 348, 391, 452, 533, 557, 591, 604, 675, 746, 779, 822, 845, 868, 941, 1002, 1015, 1038, 1099, 1160], 106) := by decide +kernel
theorem dL_law_168 : decode cL_law 168 = .ok (.aload_n 1, 1) := by decide +kernel
theorem dL_law_169 : decode cL_law 169 = .ok (.aload_n 0, 1) := by decide +kernel
theorem dL_law_170 : decode cL_law 170 = .ok (.iload_n 3, 1) := by decide +kernel
theorem dL_law_171 : decode cL_law 171 = .ok (.iconst 1, 1) := by decide +kernel
theorem dL_law_172 : decode cL_law 172 = .ok (.iadd, 1) := by decide +kernel
theorem dL_law_173 : decode cL_law 173 = .ok (.iaload, 1) := by decide +kernel
theorem dL_law_174 : decode cL_law 174 = .ok (.aload_n 0, 1) := by decide +kernel
theorem dL_law_175 : decode cL_law 175 = .ok (.iload_n 3, 1) := by decide +kernel
theorem dL_law_176 : decode cL_law 176 = .ok (.iconst 2, 1) := by decide +kernel
theorem dL_law_177 : decode cL_law 177 = .ok (.iadd, 1) := by decide +kernel
theorem dL_law_178 : decode cL_law 178 = .ok (.iaload, 1) := by decide +kernel
theorem dL_law_179 : decode cL_law 179 = .ok (.aload_n 0, 1) := by decide +kernel
theorem dL_law_180 : decode cL_law 180 = .ok (.iload_n 3, 1) := by decide +kernel
theorem dL_law_181 : decode cL_law 181 = .ok (.iconst 3, 1) := by decide +kernel
theorem dL_law_182 : decode cL_law 182 = .ok (.iadd, 1) := by decide +kernel
theorem dL_law_183 : decode cL_law 183 = .ok (.iaload, 1) := by decide +kernel
theorem dL_law_184 : decode cL_law 184 = .ok (.i2d, 1) := by decide +kernel
theorem dL_law_185 : decode cL_law 185 = .ok (.ldc2_w 21, 3) := by decide +kernel
theorem dL_law_188 : decode cL_law 188 = .ok (.dmul, 1) := by decide +kernel
theorem dL_law_189 : decode cL_law 189 = .ok (.invokevirtual 23, 3) := by decide +kernel
theorem dL_law_192 : decode cL_law 192 = .ok (.aload_n 2, 1) := by decide +kernel
theorem dL_law_193 : decode cL_law 193 = .ok (.aload_n 0, 1) := by decide +kernel
theorem dL_law_194 : decode cL_law 194 = .ok (.iload_n 3, 1) := by decide +kernel
theorem dL_law_195 : decode cL_law 195 = .ok (.iconst 1, 1) := by decide +kernel
theorem dL_law_196 : decode cL_law 196 = .ok (.iadd, 1) := by decide +kernel
theorem dL_law_197 : decode cL_law 197 = .ok (.iaload, 1) := by decide +kernel
theorem dL_law_198 : decode cL_law 198 = .ok (.aload_n 0, 1) := by decide +kernel
theorem dL_law_199 : decode cL_law 199 = .ok (.iload_n 3, 1) := by decide +kernel
theorem dL_law_200 : decode cL_law 200 = .ok (.iconst 2, 1) := by decide +kernel
theorem dL_law_201 : decode cL_law 201 = .ok (.iadd, 1) := by decide +kernel
theorem dL_law_202 : decode cL_law 202 = .ok (.iaload, 1) := by decide +kernel
theorem dL_law_203 : decode cL_law 203 = .ok (.aload_n 0, 1) := by decide +kernel
theorem dL_law_204 : decode cL_law 204 = .ok (.iload_n 3, 1) := by decide +kernel
theorem dL_law_205 : decode cL_law 205 = .ok (.iconst 3, 1) := by decide +kernel
theorem dL_law_206 : decode cL_law 206 = .ok (.iadd, 1) := by decide +kernel
theorem dL_law_207 : decode cL_law 207 = .ok (.iaload, 1) := by decide +kernel
theorem dL_law_208 : decode cL_law 208 = .ok (.i2d, 1) := by decide +kernel
theorem dL_law_209 : decode cL_law 209 = .ok (.ldc2_w 21, 3) := by decide +kernel
theorem dL_law_212 : decode cL_law 212 = .ok (.dmul, 1) := by decide +kernel
theorem dL_law_213 : decode cL_law 213 = .ok (.invokevirtual 27, 3) := by decide +kernel
theorem dL_law_216 : decode cL_law 216 = .ok (.if_icmp .eq 1067, 3) := by decide +kernel
theorem dL_law_219 : decode cL_law 219 = .ok (.iconst 0, 1) := by decide +kernel
theorem dL_law_220 : decode cL_law 220 = .ok (.ireturn, 1) := by decide +kernel
theorem dL_law_221 : decode cL_law 221 = .ok (.aload_n 1, 1) := by decide +kernel
theorem dL_law_222 : decode cL_law 222 = .ok (.aload_n 0, 1) := by decide +kernel
theorem dL_law_223 : decode cL_law 223 = .ok (.iload_n 3, 1) := by decide +kernel
theorem dL_law_224 : decode cL_law 224 = .ok (.iconst 1, 1) := by decide +kernel
theorem dL_law_225 : decode cL_law 225 = .ok (.iadd, 1) := by decide +kernel
theorem dL_law_226 : decode cL_law 226 = .ok (.iaload, 1) := by decide +kernel
theorem dL_law_227 : decode cL_law 227 = .ok (.aload_n 0, 1) := by decide +kernel
theorem dL_law_228 : decode cL_law 228 = .ok (.iload_n 3, 1) := by decide +kernel
theorem dL_law_229 : decode cL_law 229 = .ok (.iconst 2, 1) := by decide +kernel
theorem dL_law_230 : decode cL_law 230 = .ok (.iadd, 1) := by decide +kernel
theorem dL_law_231 : decode cL_law 231 = .ok (.iaload, 1) := by decide +kernel
theorem dL_law_232 : decode cL_law 232 = .ok (.aload_n 0, 1) := by decide +kernel
theorem dL_law_233 : decode cL_law 233 = .ok (.iload_n 3, 1) := by decide +kernel
theorem dL_law_234 : decode cL_law 234 = .ok (.iconst 3, 1) := by decide +kernel
theorem dL_law_235 : decode cL_law 235 = .ok (.iadd, 1) := by decide +kernel
theorem dL_law_236 : decode cL_law 236 = .ok (.iaload, 1) := by decide +kernel
theorem dL_law_237 : decode cL_law 237 = .ok (.i2d, 1) := by decide +kernel
theorem dL_law_238 : decode cL_law 238 = .ok (.ldc2_w 21, 3) := by decide +kernel
theorem dL_law_241 : decode cL_law 241 = .ok (.dmul, 1) := by decide +kernel
theorem dL_law_242 : decode cL_law 242 = .ok (.aload_n 0, 1) := by decide +kernel
theorem dL_law_243 : decode cL_law 243 = .ok (.iload_n 3, 1) := by decide +kernel
theorem dL_law_244 : decode cL_law 244 = .ok (.iconst 4, 1) := by decide +kernel
theorem dL_law_245 : decode cL_law 245 = .ok (.iadd, 1) := by decide +kernel
theorem dL_law_246 : decode cL_law 246 = .ok (.iaload, 1) := by decide +kernel
theorem dL_law_247 : decode cL_law 247 = .ok (.i2d, 1) := by decide +kernel
theorem dL_law_248 : decode cL_law 248 = .ok (.ldc2_w 21, 3) := by decide +kernel
theorem dL_law_251 : decode cL_law 251 = .ok (.dmul, 1) := by decide +kernel
theorem dL_law_252 : decode cL_law 252 = .ok (.invokevirtual 28, 3) := by decide +kernel
theorem dL_law_255 : decode cL_law 255 = .ok (.aload_n 2, 1) := by decide +kernel
theorem dL_law_256 : decode cL_law 256 = .ok (.aload_n 0, 1) := by decide +kernel
theorem dL_law_257 : decode cL_law 257 = .ok (.iload_n 3, 1) := by decide +kernel
theorem dL_law_258 : decode cL_law 258 = .ok (.iconst 1, 1) := by decide +kernel
theorem dL_law_259 : decode cL_law 259 = .ok (.iadd, 1) := by decide +kernel
theorem dL_law_260 : decode cL_law 260 = .ok (.iaload, 1) := by decide +kernel
theorem dL_law_261 : decode cL_law 261 = .ok (.aload_n 0, 1) := by decide +kernel
theorem dL_law_262 : decode cL_law 262 = .ok (.iload_n 3, 1) := by decide +kernel
theorem dL_law_263 : decode cL_law 263 = .ok (.iconst 2, 1) := by decide +kernel
theorem dL_law_264 : decode cL_law 264 = .ok (.iadd, 1) := by decide +kernel
theorem dL_law_265 : decode cL_law 265 = .ok (.iaload, 1) := by decide +kernel
theorem dL_law_266 : decode cL_law 266 = .ok (.aload_n 0, 1) := by decide +kernel
theorem dL_law_267 : decode cL_law 267 = .ok (.iload_n 3, 1) := by decide +kernel
theorem dL_law_268 : decode cL_law 268 = .ok (.iconst 3, 1) := by decide +kernel
theorem dL_law_269 : decode cL_law 269 = .ok (.iadd, 1) := by decide +kernel
theorem dL_law_270 : decode cL_law 270 = .ok (.iaload, 1) := by decide +kernel
theorem dL_law_271 : decode cL_law 271 = .ok (.i2d, 1) := by decide +kernel
theorem dL_law_272 : decode cL_law 272 = .ok (.ldc2_w 21, 3) := by decide +kernel
theorem dL_law_275 : decode cL_law 275 = .ok (.dmul, 1) := by decide +kernel
theorem dL_law_276 : decode cL_law 276 = .ok (.aload_n 0, 1) := by decide +kernel
theorem dL_law_277 : decode cL_law 277 = .ok (.iload_n 3, 1) := by decide +kernel
theorem dL_law_278 : decode cL_law 278 = .ok (.iconst 4, 1) := by decide +kernel
theorem dL_law_279 : decode cL_law 279 = .ok (.iadd, 1) := by decide +kernel
theorem dL_law_280 : decode cL_law 280 = .ok (.iaload, 1) := by decide +kernel
theorem dL_law_281 : decode cL_law 281 = .ok (.i2d, 1) := by decide +kernel
theorem dL_law_282 : decode cL_law 282 = .ok (.ldc2_w 21, 3) := by decide +kernel
theorem dL_law_285 : decode cL_law 285 = .ok (.dmul, 1) := by decide +kernel
theorem dL_law_286 : decode cL_law 286 = .ok (.invokevirtual 32, 3) := by decide +kernel
theorem dL_law_289 : decode cL_law 289 = .ok (.if_icmp .eq 994, 3) := by decide +kernel
theorem dL_law_292 : decode cL_law 292 = .ok (.iconst 0, 1) := by decide +kernel
theorem dL_law_293 : decode cL_law 293 = .ok (.ireturn, 1) := by decide +kernel
theorem dL_law_294 : decode cL_law 294 = .ok (.aload_n 1, 1) := by decide +kernel
theorem dL_law_295 : decode cL_law 295 = .ok (.aload_n 0, 1) := by decide +kernel
theorem dL_law_296 : decode cL_law 296 = .ok (.iload_n 3, 1) := by decide +kernel
theorem dL_law_297 : decode cL_law 297 = .ok (.iconst 1, 1) := by decide +kernel
theorem dL_law_298 : decode cL_law 298 = .ok (.iadd, 1) := by decide +kernel
theorem dL_law_299 : decode cL_law 299 = .ok (.iaload, 1) := by decide +kernel
theorem dL_law_300 : decode cL_law 300 = .ok (.aload_n 0, 1) := by decide +kernel
theorem dL_law_301 : decode cL_law 301 = .ok (.iload_n 3, 1) := by decide +kernel
theorem dL_law_302 : decode cL_law 302 = .ok (.iconst 2, 1) := by decide +kernel
theorem dL_law_303 : decode cL_law 303 = .ok (.iadd, 1) := by decide +kernel
theorem dL_law_304 : decode cL_law 304 = .ok (.iaload, 1) := by decide +kernel
theorem dL_law_305 : decode cL_law 305 = .ok (.i2d, 1) := by decide +kernel
theorem dL_law_306 : decode cL_law 306 = .ok (.ldc2_w 21, 3) := by decide +kernel
theorem dL_law_309 : decode cL_law 309 = .ok (.dmul, 1) := by decide +kernel
theorem dL_law_310 : decode cL_law 310 = .ok (.aload_n 0, 1) := by decide +kernel
theorem dL_law_311 : decode cL_law 311 = .ok (.iload_n 3, 1) := by decide +kernel
theorem dL_law_312 : decode cL_law 312 = .ok (.iconst 3, 1) := by decide +kernel
theorem dL_law_313 : decode cL_law 313 = .ok (.iadd, 1) := by decide +kernel
theorem dL_law_314 : decode cL_law 314 = .ok (.iaload, 1) := by decide +kernel
theorem dL_law_315 : decode cL_law 315 = .ok (.i2d, 1) := by decide +kernel
theorem dL_law_316 : decode cL_law 316 = .ok (.ldc2_w 21, 3) := by decide +kernel
theorem dL_law_319 : decode cL_law 319 = .ok (.dmul, 1) := by decide +kernel
theorem dL_law_320 : decode cL_law 320 = .ok (.invokevirtual 33, 3) := by decide +kernel
theorem dL_law_323 : decode cL_law 323 = .ok (.aload_n 2, 1) := by decide +kernel
theorem dL_law_324 : decode cL_law 324 = .ok (.aload_n 0, 1) := by decide +kernel
theorem dL_law_325 : decode cL_law 325 = .ok (.iload_n 3, 1) := by decide +kernel
theorem dL_law_326 : decode cL_law 326 = .ok (.iconst 1, 1) := by decide +kernel
theorem dL_law_327 : decode cL_law 327 = .ok (.iadd, 1) := by decide +kernel
theorem dL_law_328 : decode cL_law 328 = .ok (.iaload, 1) := by decide +kernel
theorem dL_law_329 : decode cL_law 329 = .ok (.aload_n 0, 1) := by decide +kernel
theorem dL_law_330 : decode cL_law 330 = .ok (.iload_n 3, 1) := by decide +kernel
theorem dL_law_331 : decode cL_law 331 = .ok (.iconst 2, 1) := by decide +kernel
theorem dL_law_332 : decode cL_law 332 = .ok (.iadd, 1) := by decide +kernel
theorem dL_law_333 : decode cL_law 333 = .ok (.iaload, 1) := by decide +kernel
theorem dL_law_334 : decode cL_law 334 = .ok (.i2d, 1) := by decide +kernel
theorem dL_law_335 : decode cL_law 335 = .ok (.ldc2_w 21, 3) := by decide +kernel
theorem dL_law_338 : decode cL_law 338 = .ok (.dmul, 1) := by decide +kernel
theorem dL_law_339 : decode cL_law 339 = .ok (.aload_n 0, 1) := by decide +kernel
theorem dL_law_340 : decode cL_law 340 = .ok (.iload_n 3, 1) := by decide +kernel
theorem dL_law_341 : decode cL_law 341 = .ok (.iconst 3, 1) := by decide +kernel
theorem dL_law_342 : decode cL_law 342 = .ok (.iadd, 1) := by decide +kernel
theorem dL_law_343 : decode cL_law 343 = .ok (.iaload, 1) := by decide +kernel
theorem dL_law_344 : decode cL_law 344 = .ok (.i2d, 1) := by decide +kernel
theorem dL_law_345 : decode cL_law 345 = .ok (.ldc2_w 21, 3) := by decide +kernel
theorem dL_law_348 : decode cL_law 348 = .ok (.dmul, 1) := by decide +kernel
theorem dL_law_349 : decode cL_law 349 = .ok (.invokevirtual 37, 3) := by decide +kernel
theorem dL_law_352 : decode cL_law 352 = .ok (.if_icmp .eq 931, 3) := by decide +kernel
theorem dL_law_355 : decode cL_law 355 = .ok (.iconst 0, 1) := by decide +kernel
theorem dL_law_356 : decode cL_law 356 = .ok (.ireturn, 1) := by decide +kernel
theorem dL_law_357 : decode cL_law 357 = .ok (.aload_n 1, 1) := by decide +kernel
theorem dL_law_358 : decode cL_law 358 = .ok (.aload_n 0, 1) := by decide +kernel
theorem dL_law_359 : decode cL_law 359 = .ok (.iload_n 3, 1) := by decide +kernel
theorem dL_law_360 : decode cL_law 360 = .ok (.iconst 1, 1) := by decide +kernel
theorem dL_law_361 : decode cL_law 361 = .ok (.iadd, 1) := by decide +kernel
theorem dL_law_362 : decode cL_law 362 = .ok (.iaload, 1) := by decide +kernel
theorem dL_law_363 : decode cL_law 363 = .ok (.aload_n 0, 1) := by decide +kernel
theorem dL_law_364 : decode cL_law 364 = .ok (.iload_n 3, 1) := by decide +kernel
theorem dL_law_365 : decode cL_law 365 = .ok (.iconst 2, 1) := by decide +kernel
theorem dL_law_366 : decode cL_law 366 = .ok (.iadd, 1) := by decide +kernel
theorem dL_law_367 : decode cL_law 367 = .ok (.iaload, 1) := by decide +kernel
theorem dL_law_368 : decode cL_law 368 = .ok (.aload_n 0, 1) := by decide +kernel
theorem dL_law_369 : decode cL_law 369 = .ok (.iload_n 3, 1) := by decide +kernel
theorem dL_law_370 : decode cL_law 370 = .ok (.iconst 3, 1) := by decide +kernel
theorem dL_law_371 : decode cL_law 371 = .ok (.iadd, 1) := by decide +kernel
theorem dL_law_372 : decode cL_law 372 = .ok (.iaload, 1) := by decide +kernel
theorem dL_law_373 : decode cL_law 373 = .ok (.i2d, 1) := by decide +kernel
theorem dL_law_374 : decode cL_law 374 = .ok (.ldc2_w 21, 3) := by decide +kernel
theorem dL_law_377 : decode cL_law 377 = .ok (.dmul, 1) := by decide +kernel
theorem dL_law_378 : decode cL_law 378 = .ok (.invokevirtual 38, 3) := by decide +kernel
theorem dL_law_381 : decode cL_law 381 = .ok (.aload_n 2, 1) := by decide +kernel
theorem dL_law_382 : decode cL_law 382 = .ok (.aload_n 0, 1) := by decide +kernel
theorem dL_law_383 : decode cL_law 383 = .ok (.iload_n 3, 1) := by decide +kernel
theorem dL_law_384 : decode cL_law 384 = .ok (.iconst 1, 1) := by decide +kernel
theorem dL_law_385 : decode cL_law 385 = .ok (.iadd, 1) := by decide +kernel
theorem dL_law_386 : decode cL_law 386 = .ok (.iaload, 1) := by decide +kernel
theorem dL_law_387 : decode cL_law 387 = .ok (.aload_n 0, 1) := by decide +kernel
theorem dL_law_388 : decode cL_law 388 = .ok (.iload_n 3, 1) := by decide +kernel
theorem dL_law_389 : decode cL_law 389 = .ok (.iconst 2, 1) := by decide +kernel
theorem dL_law_390 : decode cL_law 390 = .ok (.iadd, 1) := by decide +kernel
theorem dL_law_391 : decode cL_law 391 = .ok (.iaload, 1) := by decide +kernel
theorem dL_law_392 : decode cL_law 392 = .ok (.aload_n 0, 1) := by decide +kernel
theorem dL_law_393 : decode cL_law 393 = .ok (.iload_n 3, 1) := by decide +kernel
theorem dL_law_394 : decode cL_law 394 = .ok (.iconst 3, 1) := by decide +kernel
theorem dL_law_395 : decode cL_law 395 = .ok (.iadd, 1) := by decide +kernel
theorem dL_law_396 : decode cL_law 396 = .ok (.iaload, 1) := by decide +kernel
theorem dL_law_397 : decode cL_law 397 = .ok (.i2d, 1) := by decide +kernel
theorem dL_law_398 : decode cL_law 398 = .ok (.ldc2_w 21, 3) := by decide +kernel
theorem dL_law_401 : decode cL_law 401 = .ok (.dmul, 1) := by decide +kernel
theorem dL_law_402 : decode cL_law 402 = .ok (.invokevirtual 41, 3) := by decide +kernel
theorem dL_law_405 : decode cL_law 405 = .ok (.if_icmp .eq 878, 3) := by decide +kernel
theorem dL_law_408 : decode cL_law 408 = .ok (.iconst 0, 1) := by decide +kernel
theorem dL_law_409 : decode cL_law 409 = .ok (.ireturn, 1) := by decide +kernel
theorem dL_law_410 : decode cL_law 410 = .ok (.aload_n 1, 1) := by decide +kernel
theorem dL_law_411 : decode cL_law 411 = .ok (.aload_n 0, 1) := by decide +kernel
theorem dL_law_412 : decode cL_law 412 = .ok (.iload_n 3, 1) := by decide +kernel
theorem dL_law_413 : decode cL_law 413 = .ok (.iconst 1, 1) := by decide +kernel
theorem dL_law_414 : decode cL_law 414 = .ok (.iadd, 1) := by decide +kernel
theorem dL_law_415 : decode cL_law 415 = .ok (.iaload, 1) := by decide +kernel
theorem dL_law_416 : decode cL_law 416 = .ok (.aload_n 0, 1) := by decide +kernel
theorem dL_law_417 : decode cL_law 417 = .ok (.iload_n 3, 1) := by decide +kernel
theorem dL_law_418 : decode cL_law 418 = .ok (.iconst 2, 1) := by decide +kernel
theorem dL_law_419 : decode cL_law 419 = .ok (.iadd, 1) := by decide +kernel
theorem dL_law_420 : decode cL_law 420 = .ok (.iaload, 1) := by decide +kernel
theorem dL_law_421 : decode cL_law 421 = .ok (.i2d, 1) := by decide +kernel
theorem dL_law_422 : decode cL_law 422 = .ok (.ldc2_w 21, 3) := by decide +kernel
theorem dL_law_425 : decode cL_law 425 = .ok (.dmul, 1) := by decide +kernel
theorem dL_law_426 : decode cL_law 426 = .ok (.invokevirtual 42, 3) := by decide +kernel
theorem dL_law_429 : decode cL_law 429 = .ok (.aload_n 2, 1) := by decide +kernel
theorem dL_law_430 : decode cL_law 430 = .ok (.aload_n 0, 1) := by decide +kernel
theorem dL_law_431 : decode cL_law 431 = .ok (.iload_n 3, 1) := by decide +kernel
theorem dL_law_432 : decode cL_law 432 = .ok (.iconst 1, 1) := by decide +kernel
theorem dL_law_433 : decode cL_law 433 = .ok (.iadd, 1) := by decide +kernel
theorem dL_law_434 : decode cL_law 434 = .ok (.iaload, 1) := by decide +kernel
theorem dL_law_435 : decode cL_law 435 = .ok (.aload_n 0, 1) := by decide +kernel
theorem dL_law_436 : decode cL_law 436 = .ok (.iload_n 3, 1) := by decide +kernel
theorem dL_law_437 : decode cL_law 437 = .ok (.iconst 2, 1) := by decide +kernel
theorem dL_law_438 : decode cL_law 438 = .ok (.iadd, 1) := by decide +kernel
theorem dL_law_439 : decode cL_law 439 = .ok (.iaload, 1) := by decide +kernel
theorem dL_law_440 : decode cL_law 440 = .ok (.i2d, 1) := by decide +kernel
theorem dL_law_441 : decode cL_law 441 = .ok (.ldc2_w 21, 3) := by decide +kernel
theorem dL_law_444 : decode cL_law 444 = .ok (.dmul, 1) := by decide +kernel
theorem dL_law_445 : decode cL_law 445 = .ok (.invokevirtual 46, 3) := by decide +kernel
theorem dL_law_448 : decode cL_law 448 = .ok (.if_icmp .eq 835, 3) := by decide +kernel
theorem dL_law_451 : decode cL_law 451 = .ok (.iconst 0, 1) := by decide +kernel
theorem dL_law_452 : decode cL_law 452 = .ok (.ireturn, 1) := by decide +kernel
theorem dL_law_453 : decode cL_law 453 = .ok (.aload_n 1, 1) := by decide +kernel
theorem dL_law_454 : decode cL_law 454 = .ok (.aload_n 0, 1) := by decide +kernel
theorem dL_law_455 : decode cL_law 455 = .ok (.iload_n 3, 1) := by decide +kernel
theorem dL_law_456 : decode cL_law 456 = .ok (.iconst 1, 1) := by decide +kernel
theorem dL_law_457 : decode cL_law 457 = .ok (.iadd, 1) := by decide +kernel
theorem dL_law_458 : decode cL_law 458 = .ok (.iaload, 1) := by decide +kernel
theorem dL_law_459 : decode cL_law 459 = .ok (.aload_n 0, 1) := by decide +kernel
theorem dL_law_460 : decode cL_law 460 = .ok (.iload_n 3, 1) := by decide +kernel
theorem dL_law_461 : decode cL_law 461 = .ok (.iconst 2, 1) := by decide +kernel
theorem dL_law_462 : decode cL_law 462 = .ok (.iadd, 1) := by decide +kernel
theorem dL_law_463 : decode cL_law 463 = .ok (.iaload, 1) := by decide +kernel
theorem dL_law_464 : decode cL_law 464 = .ok (.invokevirtual 47, 3) := by decide +kernel
theorem dL_law_467 : decode cL_law 467 = .ok (.dstore 4, 2) := by decide +kernel
theorem dL_law_469 : decode cL_law 469 = .ok (.aload_n 2, 1) := by decide +kernel
theorem dL_law_470 : decode cL_law 470 = .ok (.aload_n 0, 1) := by decide +kernel
theorem dL_law_471 : decode cL_law 471 = .ok (.iload_n 3, 1) := by decide +kernel
theorem dL_law_472 : decode cL_law 472 = .ok (.iconst 1, 1) := by decide +kernel
theorem dL_law_473 : decode cL_law 473 = .ok (.iadd, 1) := by decide +kernel
theorem dL_law_474 : decode cL_law 474 = .ok (.iaload, 1) := by decide +kernel
theorem dL_law_475 : decode cL_law 475 = .ok (.aload_n 0, 1) := by decide +kernel
theorem dL_law_476 : decode cL_law 476 = .ok (.iload_n 3, 1) := by decide +kernel
theorem dL_law_477 : decode cL_law 477 = .ok (.iconst 2, 1) := by decide +kernel
theorem dL_law_478 : decode cL_law 478 = .ok (.iadd, 1) := by decide +kernel
theorem dL_law_479 : decode cL_law 479 = .ok (.iaload, 1) := by decide +kernel
theorem dL_law_480 : decode cL_law 480 = .ok (.invokevirtual 51, 3) := by decide +kernel
theorem dL_law_483 : decode cL_law 483 = .ok (.dstore 6, 2) := by decide +kernel
theorem dL_law_485 : decode cL_law 485 = .ok (.dload 4, 2) := by decide +kernel
theorem dL_law_487 : decode cL_law 487 = .ok (.dload 6, 2) := by decide +kernel
theorem dL_law_489 : decode cL_law 489 = .ok (.dcmp .l, 1) := by decide +kernel
theorem dL_law_490 : decode cL_law 490 = .ok (.ifCond .eq 21, 3) := by decide +kernel
theorem dL_law_493 : decode cL_law 493 = .ok (.dload 4, 2) := by decide +kernel
theorem dL_law_495 : decode cL_law 495 = .ok (.dload 4, 2) := by decide +kernel
theorem dL_law_497 : decode cL_law 497 = .ok (.dcmp .l, 1) := by decide +kernel
theorem dL_law_498 : decode cL_law 498 = .ok (.ifCond .eq 11, 3) := by decide +kernel
theorem dL_law_501 : decode cL_law 501 = .ok (.dload 6, 2) := by decide +kernel
theorem dL_law_503 : decode cL_law 503 = .ok (.dload 6, 2) := by decide +kernel
theorem dL_law_505 : decode cL_law 505 = .ok (.dcmp .l, 1) := by decide +kernel
theorem dL_law_506 : decode cL_law 506 = .ok (.ifCond .ne 5, 3) := by decide +kernel
theorem dL_law_509 : decode cL_law 509 = .ok (.iconst 0, 1) := by decide +kernel
theorem dL_law_510 : decode cL_law 510 = .ok (.ireturn, 1) := by decide +kernel
theorem dL_law_511 : decode cL_law 511 = .ok (.goto 772, 3) := by decide +kernel
theorem dL_law_514 : decode cL_law 514 = .ok (.aload_n 1, 1) := by decide +kernel
theorem dL_law_515 : decode cL_law 515 = .ok (.aload_n 0, 1) := by decide +kernel
theorem dL_law_516 : decode cL_law 516 = .ok (.iload_n 3, 1) := by decide +kernel
theorem dL_law_517 : decode cL_law 517 = .ok (.iconst 1, 1) := by decide +kernel
theorem dL_law_518 : decode cL_law 518 = .ok (.iadd, 1) := by decide +kernel
theorem dL_law_519 : decode cL_law 519 = .ok (.iaload, 1) := by decide +kernel
theorem dL_law_520 : decode cL_law 520 = .ok (.aload_n 0, 1) := by decide +kernel
theorem dL_law_521 : decode cL_law 521 = .ok (.iload_n 3, 1) := by decide +kernel
theorem dL_law_522 : decode cL_law 522 = .ok (.iconst 2, 1) := by decide +kernel
theorem dL_law_523 : decode cL_law 523 = .ok (.iadd, 1) := by decide +kernel
theorem dL_law_524 : decode cL_law 524 = .ok (.iaload, 1) := by decide +kernel
theorem dL_law_525 : decode cL_law 525 = .ok (.aload_n 0, 1) := by decide +kernel
theorem dL_law_526 : decode cL_law 526 = .ok (.iload_n 3, 1) := by decide +kernel
theorem dL_law_527 : decode cL_law 527 = .ok (.iconst 3, 1) := by decide +kernel
theorem dL_law_528 : decode cL_law 528 = .ok (.iadd, 1) := by decide +kernel
theorem dL_law_529 : decode cL_law 529 = .ok (.iaload, 1) := by decide +kernel
theorem dL_law_530 : decode cL_law 530 = .ok (.aload_n 0, 1) := by decide +kernel
theorem dL_law_531 : decode cL_law 531 = .ok (.iload_n 3, 1) := by decide +kernel
theorem dL_law_532 : decode cL_law 532 = .ok (.iconst 4, 1) := by decide +kernel
theorem dL_law_533 : decode cL_law 533 = .ok (.iadd, 1) := by decide +kernel
theorem dL_law_534 : decode cL_law 534 = .ok (.iaload, 1) := by decide +kernel
theorem dL_law_535 : decode cL_law 535 = .ok (.invokevirtual 52, 3) := by decide +kernel
theorem dL_law_538 : decode cL_law 538 = .ok (.dstore 4, 2) := by decide +kernel
theorem dL_law_540 : decode cL_law 540 = .ok (.aload_n 2, 1) := by decide +kernel
theorem dL_law_541 : decode cL_law 541 = .ok (.aload_n 0, 1) := by decide +kernel
theorem dL_law_542 : decode cL_law 542 = .ok (.iload_n 3, 1) := by decide +kernel
theorem dL_law_543 : decode cL_law 543 = .ok (.iconst 1, 1) := by decide +kernel
theorem dL_law_544 : decode cL_law 544 = .ok (.iadd, 1) := by decide +kernel
theorem dL_law_545 : decode cL_law 545 = .ok (.iaload, 1) := by decide +kernel
theorem dL_law_546 : decode cL_law 546 = .ok (.aload_n 0, 1) := by decide +kernel
theorem dL_law_547 : decode cL_law 547 = .ok (.iload_n 3, 1) := by decide +kernel
theorem dL_law_548 : decode cL_law 548 = .ok (.iconst 2, 1) := by decide +kernel
theorem dL_law_549 : decode cL_law 549 = .ok (.iadd, 1) := by decide +kernel
theorem dL_law_550 : decode cL_law 550 = .ok (.iaload, 1) := by decide +kernel
theorem dL_law_551 : decode cL_law 551 = .ok (.aload_n 0, 1) := by decide +kernel
theorem dL_law_552 : decode cL_law 552 = .ok (.iload_n 3, 1) := by decide +kernel
theorem dL_law_553 : decode cL_law 553 = .ok (.iconst 3, 1) := by decide +kernel
theorem dL_law_554 : decode cL_law 554 = .ok (.iadd, 1) := by decide +kernel
theorem dL_law_555 : decode cL_law 555 = .ok (.iaload, 1) := by decide +kernel
theorem dL_law_556 : decode cL_law 556 = .ok (.aload_n 0, 1) := by decide +kernel
theorem dL_law_557 : decode cL_law 557 = .ok (.iload_n 3, 1) := by decide +kernel
theorem dL_law_558 : decode cL_law 558 = .ok (.iconst 4, 1) := by decide +kernel
theorem dL_law_559 : decode cL_law 559 = .ok (.iadd, 1) := by decide +kernel
theorem dL_law_560 : decode cL_law 560 = .ok (.iaload, 1) := by decide +kernel
theorem dL_law_561 : decode cL_law 561 = .ok (.invokevirtual 56, 3) := by decide +kernel
theorem dL_law_564 : decode cL_law 564 = .ok (.dstore 6, 2) := by decide +kernel
theorem dL_law_566 : decode cL_law 566 = .ok (.dload 4, 2) := by decide +kernel
theorem dL_law_568 : decode cL_law 568 = .ok (.dload 6, 2) := by decide +kernel
theorem dL_law_570 : decode cL_law 570 = .ok (.dcmp .l, 1) := by decide +kernel
theorem dL_law_571 : decode cL_law 571 = .ok (.ifCond .eq 21, 3) := by decide +kernel
theorem dL_law_574 : decode cL_law 574 = .ok (.dload 4, 2) := by decide +kernel
theorem dL_law_576 : decode cL_law 576 = .ok (.dload 4, 2) := by decide +kernel
theorem dL_law_578 : decode cL_law 578 = .ok (.dcmp .l, 1) := by decide +kernel
theorem dL_law_579 : decode cL_law 579 = .ok (.ifCond .eq 11, 3) := by decide +kernel
theorem dL_law_582 : decode cL_law 582 = .ok (.dload 6, 2) := by decide +kernel
theorem dL_law_584 : decode cL_law 584 = .ok (.dload 6, 2) := by decide +kernel
theorem dL_law_586 : decode cL_law 586 = .ok (.dcmp .l, 1) := by decide +kernel
theorem dL_law_587 : decode cL_law 587 = .ok (.ifCond .ne 5, 3) := by decide +kernel
theorem dL_law_590 : decode cL_law 590 = .ok (.iconst 0, 1) := by decide +kernel
theorem dL_law_591 : decode cL_law 591 = .ok (.ireturn, 1) := by decide +kernel
theorem dL_law_592 : decode cL_law 592 = .ok (.goto 691, 3) := by decide +kernel
theorem dL_law_595 : decode cL_law 595 = .ok (.aload_n 1, 1) := by decide +kernel
theorem dL_law_596 : decode cL_law 596 = .ok (.aload_n 0, 1) := by decide +kernel
theorem dL_law_597 : decode cL_law 597 = .ok (.iload_n 3, 1) := by decide +kernel
theorem dL_law_598 : decode cL_law 598 = .ok (.iconst 1, 1) := by decide +kernel
theorem dL_law_599 : decode cL_law 599 = .ok (.iadd, 1) := by decide +kernel
theorem dL_law_600 : decode cL_law 600 = .ok (.iaload, 1) := by decide +kernel
theorem dL_law_601 : decode cL_law 601 = .ok (.invokevirtual 57, 3) := by decide +kernel
theorem dL_law_604 : decode cL_law 604 = .ok (.aload_n 2, 1) := by decide +kernel
theorem dL_law_605 : decode cL_law 605 = .ok (.aload_n 0, 1) := by decide +kernel
theorem dL_law_606 : decode cL_law 606 = .ok (.iload_n 3, 1) := by decide +kernel
theorem dL_law_607 : decode cL_law 607 = .ok (.iconst 1, 1) := by decide +kernel
theorem dL_law_608 : decode cL_law 608 = .ok (.iadd, 1) := by decide +kernel
theorem dL_law_609 : decode cL_law 609 = .ok (.iaload, 1) := by decide +kernel
theorem dL_law_610 : decode cL_law 610 = .ok (.invokevirtual 61, 3) := by decide +kernel
theorem dL_law_613 : decode cL_law 613 = .ok (.lcmp, 1) := by decide +kernel
theorem dL_law_614 : decode cL_law 614 = .ok (.ifCond .eq 669, 3) := by decide +kernel
theorem dL_law_617 : decode cL_law 617 = .ok (.iconst 0, 1) := by decide +kernel
theorem dL_law_618 : decode cL_law 618 = .ok (.ireturn, 1) := by decide +kernel
theorem dL_law_619 : decode cL_law 619 = .ok (.aload_n 1, 1) := by decide +kernel
theorem dL_law_620 : decode cL_law 620 = .ok (.aload_n 0, 1) := by decide +kernel
theorem dL_law_621 : decode cL_law 621 = .ok (.iload_n 3, 1) := by decide +kernel
theorem dL_law_622 : decode cL_law 622 = .ok (.iconst 1, 1) := by decide +kernel
theorem dL_law_623 : decode cL_law 623 = .ok (.iadd, 1) := by decide +kernel
theorem dL_law_624 : decode cL_law 624 = .ok (.iaload, 1) := by decide +kernel
theorem dL_law_625 : decode cL_law 625 = .ok (.aload_n 0, 1) := by decide +kernel
theorem dL_law_626 : decode cL_law 626 = .ok (.iload_n 3, 1) := by decide +kernel
theorem dL_law_627 : decode cL_law 627 = .ok (.iconst 2, 1) := by decide +kernel
theorem dL_law_628 : decode cL_law 628 = .ok (.iadd, 1) := by decide +kernel
theorem dL_law_629 : decode cL_law 629 = .ok (.iaload, 1) := by decide +kernel
theorem dL_law_630 : decode cL_law 630 = .ok (.invokevirtual 62, 3) := by decide +kernel
theorem dL_law_633 : decode cL_law 633 = .ok (.aload_n 2, 1) := by decide +kernel
theorem dL_law_634 : decode cL_law 634 = .ok (.aload_n 0, 1) := by decide +kernel
theorem dL_law_635 : decode cL_law 635 = .ok (.iload_n 3, 1) := by decide +kernel
theorem dL_law_636 : decode cL_law 636 = .ok (.iconst 1, 1) := by decide +kernel
theorem dL_law_637 : decode cL_law 637 = .ok (.iadd, 1) := by decide +kernel
theorem dL_law_638 : decode cL_law 638 = .ok (.iaload, 1) := by decide +kernel
theorem dL_law_639 : decode cL_law 639 = .ok (.aload_n 0, 1) := by decide +kernel
theorem dL_law_640 : decode cL_law 640 = .ok (.iload_n 3, 1) := by decide +kernel
theorem dL_law_641 : decode cL_law 641 = .ok (.iconst 2, 1) := by decide +kernel
theorem dL_law_642 : decode cL_law 642 = .ok (.iadd, 1) := by decide +kernel
theorem dL_law_643 : decode cL_law 643 = .ok (.iaload, 1) := by decide +kernel
theorem dL_law_644 : decode cL_law 644 = .ok (.invokevirtual 66, 3) := by decide +kernel
theorem dL_law_647 : decode cL_law 647 = .ok (.lcmp, 1) := by decide +kernel
theorem dL_law_648 : decode cL_law 648 = .ok (.ifCond .eq 635, 3) := by decide +kernel
theorem dL_law_651 : decode cL_law 651 = .ok (.iconst 0, 1) := by decide +kernel
theorem dL_law_652 : decode cL_law 652 = .ok (.ireturn, 1) := by decide +kernel
theorem dL_law_653 : decode cL_law 653 = .ok (.aload_n 1, 1) := by decide +kernel
theorem dL_law_654 : decode cL_law 654 = .ok (.invokevirtual 67, 3) := by decide +kernel
theorem dL_law_657 : decode cL_law 657 = .ok (.aload_n 2, 1) := by decide +kernel
theorem dL_law_658 : decode cL_law 658 = .ok (.invokevirtual 71, 3) := by decide +kernel
theorem dL_law_661 : decode cL_law 661 = .ok (.if_icmp .eq 622, 3) := by decide +kernel
theorem dL_law_664 : decode cL_law 664 = .ok (.iconst 0, 1) := by decide +kernel
theorem dL_law_665 : decode cL_law 665 = .ok (.ireturn, 1) := by decide +kernel
theorem dL_law_666 : decode cL_law 666 = .ok (.aload_n 1, 1) := by decide +kernel
theorem dL_law_667 : decode cL_law 667 = .ok (.aload_n 0, 1) := by decide +kernel
theorem dL_law_668 : decode cL_law 668 = .ok (.iload_n 3, 1) := by decide +kernel
theorem dL_law_669 : decode cL_law 669 = .ok (.iconst 1, 1) := by decide +kernel
theorem dL_law_670 : decode cL_law 670 = .ok (.iadd, 1) := by decide +kernel
theorem dL_law_671 : decode cL_law 671 = .ok (.iaload, 1) := by decide +kernel
theorem dL_law_672 : decode cL_law 672 = .ok (.aload_n 0, 1) := by decide +kernel
theorem dL_law_673 : decode cL_law 673 = .ok (.iload_n 3, 1) := by decide +kernel
theorem dL_law_674 : decode cL_law 674 = .ok (.iconst 2, 1) := by decide +kernel
theorem dL_law_675 : decode cL_law 675 = .ok (.iadd, 1) := by decide +kernel
theorem dL_law_676 : decode cL_law 676 = .ok (.iaload, 1) := by decide +kernel
theorem dL_law_677 : decode cL_law 677 = .ok (.aload_n 0, 1) := by decide +kernel
theorem dL_law_678 : decode cL_law 678 = .ok (.iload_n 3, 1) := by decide +kernel
theorem dL_law_679 : decode cL_law 679 = .ok (.iconst 3, 1) := by decide +kernel
theorem dL_law_680 : decode cL_law 680 = .ok (.iadd, 1) := by decide +kernel
theorem dL_law_681 : decode cL_law 681 = .ok (.iaload, 1) := by decide +kernel
theorem dL_law_682 : decode cL_law 682 = .ok (.invokevirtual 72, 3) := by decide +kernel
theorem dL_law_685 : decode cL_law 685 = .ok (.dstore 4, 2) := by decide +kernel
theorem dL_law_687 : decode cL_law 687 = .ok (.aload_n 2, 1) := by decide +kernel
theorem dL_law_688 : decode cL_law 688 = .ok (.aload_n 0, 1) := by decide +kernel
theorem dL_law_689 : decode cL_law 689 = .ok (.iload_n 3, 1) := by decide +kernel
theorem dL_law_690 : decode cL_law 690 = .ok (.iconst 1, 1) := by decide +kernel
theorem dL_law_691 : decode cL_law 691 = .ok (.iadd, 1) := by decide +kernel
theorem dL_law_692 : decode cL_law 692 = .ok (.iaload, 1) := by decide +kernel
theorem dL_law_693 : decode cL_law 693 = .ok (.aload_n 0, 1) := by decide +kernel
theorem dL_law_694 : decode cL_law 694 = .ok (.iload_n 3, 1) := by decide +kernel
theorem dL_law_695 : decode cL_law 695 = .ok (.iconst 2, 1) := by decide +kernel
theorem dL_law_696 : decode cL_law 696 = .ok (.iadd, 1) := by decide +kernel
theorem dL_law_697 : decode cL_law 697 = .ok (.iaload, 1) := by decide +kernel
theorem dL_law_698 : decode cL_law 698 = .ok (.aload_n 0, 1) := by decide +kernel
theorem dL_law_699 : decode cL_law 699 = .ok (.iload_n 3, 1) := by decide +kernel
theorem dL_law_700 : decode cL_law 700 = .ok (.iconst 3, 1) := by decide +kernel
theorem dL_law_701 : decode cL_law 701 = .ok (.iadd, 1) := by decide +kernel
theorem dL_law_702 : decode cL_law 702 = .ok (.iaload, 1) := by decide +kernel
theorem dL_law_703 : decode cL_law 703 = .ok (.invokevirtual 76, 3) := by decide +kernel
theorem dL_law_706 : decode cL_law 706 = .ok (.dstore 6, 2) := by decide +kernel
theorem dL_law_708 : decode cL_law 708 = .ok (.dload 4, 2) := by decide +kernel
theorem dL_law_710 : decode cL_law 710 = .ok (.dload 6, 2) := by decide +kernel
theorem dL_law_712 : decode cL_law 712 = .ok (.dcmp .l, 1) := by decide +kernel
theorem dL_law_713 : decode cL_law 713 = .ok (.ifCond .eq 21, 3) := by decide +kernel
theorem dL_law_716 : decode cL_law 716 = .ok (.dload 4, 2) := by decide +kernel
theorem dL_law_718 : decode cL_law 718 = .ok (.dload 4, 2) := by decide +kernel
theorem dL_law_720 : decode cL_law 720 = .ok (.dcmp .l, 1) := by decide +kernel
theorem dL_law_721 : decode cL_law 721 = .ok (.ifCond .eq 11, 3) := by decide +kernel
theorem dL_law_724 : decode cL_law 724 = .ok (.dload 6, 2) := by decide +kernel
theorem dL_law_726 : decode cL_law 726 = .ok (.dload 6, 2) := by decide +kernel
theorem dL_law_728 : decode cL_law 728 = .ok (.dcmp .l, 1) := by decide +kernel
theorem dL_law_729 : decode cL_law 729 = .ok (.ifCond .ne 5, 3) := by decide +kernel
theorem dL_law_732 : decode cL_law 732 = .ok (.iconst 0, 1) := by decide +kernel
theorem dL_law_733 : decode cL_law 733 = .ok (.ireturn, 1) := by decide +kernel
theorem dL_law_734 : decode cL_law 734 = .ok (.goto 549, 3) := by decide +kernel
theorem dL_law_737 : decode cL_law 737 = .ok (.aload_n 1, 1) := by decide +kernel
theorem dL_law_738 : decode cL_law 738 = .ok (.aload_n 0, 1) := by decide +kernel
theorem dL_law_739 : decode cL_law 739 = .ok (.iload_n 3, 1) := by decide +kernel
theorem dL_law_740 : decode cL_law 740 = .ok (.iconst 1, 1) := by decide +kernel
theorem dL_law_741 : decode cL_law 741 = .ok (.iadd, 1) := by decide +kernel
theorem dL_law_742 : decode cL_law 742 = .ok (.iaload, 1) := by decide +kernel
theorem dL_law_743 : decode cL_law 743 = .ok (.aload_n 0, 1) := by decide +kernel
theorem dL_law_744 : decode cL_law 744 = .ok (.iload_n 3, 1) := by decide +kernel
theorem dL_law_745 : decode cL_law 745 = .ok (.iconst 2, 1) := by decide +kernel
theorem dL_law_746 : decode cL_law 746 = .ok (.iadd, 1) := by decide +kernel
theorem dL_law_747 : decode cL_law 747 = .ok (.iaload, 1) := by decide +kernel
theorem dL_law_748 : decode cL_law 748 = .ok (.aload_n 0, 1) := by decide +kernel
theorem dL_law_749 : decode cL_law 749 = .ok (.iload_n 3, 1) := by decide +kernel
theorem dL_law_750 : decode cL_law 750 = .ok (.iconst 3, 1) := by decide +kernel
theorem dL_law_751 : decode cL_law 751 = .ok (.iadd, 1) := by decide +kernel
theorem dL_law_752 : decode cL_law 752 = .ok (.iaload, 1) := by decide +kernel
theorem dL_law_753 : decode cL_law 753 = .ok (.invokevirtual 77, 3) := by decide +kernel
theorem dL_law_756 : decode cL_law 756 = .ok (.dstore 4, 2) := by decide +kernel
theorem dL_law_758 : decode cL_law 758 = .ok (.aload_n 2, 1) := by decide +kernel
theorem dL_law_759 : decode cL_law 759 = .ok (.aload_n 0, 1) := by decide +kernel
theorem dL_law_760 : decode cL_law 760 = .ok (.iload_n 3, 1) := by decide +kernel
theorem dL_law_761 : decode cL_law 761 = .ok (.iconst 1, 1) := by decide +kernel
theorem dL_law_762 : decode cL_law 762 = .ok (.iadd, 1) := by decide +kernel
theorem dL_law_763 : decode cL_law 763 = .ok (.iaload, 1) := by decide +kernel
theorem dL_law_764 : decode cL_law 764 = .ok (.aload_n 0, 1) := by decide +kernel
theorem dL_law_765 : decode cL_law 765 = .ok (.iload_n 3, 1) := by decide +kernel
theorem dL_law_766 : decode cL_law 766 = .ok (.iconst 2, 1) := by decide +kernel
theorem dL_law_767 : decode cL_law 767 = .ok (.iadd, 1) := by decide +kernel
theorem dL_law_768 : decode cL_law 768 = .ok (.iaload, 1) := by decide +kernel
theorem dL_law_769 : decode cL_law 769 = .ok (.aload_n 0, 1) := by decide +kernel
theorem dL_law_770 : decode cL_law 770 = .ok (.iload_n 3, 1) := by decide +kernel
theorem dL_law_771 : decode cL_law 771 = .ok (.iconst 3, 1) := by decide +kernel
theorem dL_law_772 : decode cL_law 772 = .ok (.iadd, 1) := by decide +kernel
theorem dL_law_773 : decode cL_law 773 = .ok (.iaload, 1) := by decide +kernel
theorem dL_law_774 : decode cL_law 774 = .ok (.invokevirtual 80, 3) := by decide +kernel
theorem dL_law_777 : decode cL_law 777 = .ok (.dstore 6, 2) := by decide +kernel
theorem dL_law_779 : decode cL_law 779 = .ok (.dload 4, 2) := by decide +kernel
theorem dL_law_781 : decode cL_law 781 = .ok (.dload 6, 2) := by decide +kernel
theorem dL_law_783 : decode cL_law 783 = .ok (.dcmp .l, 1) := by decide +kernel
theorem dL_law_784 : decode cL_law 784 = .ok (.ifCond .eq 21, 3) := by decide +kernel
theorem dL_law_787 : decode cL_law 787 = .ok (.dload 4, 2) := by decide +kernel
theorem dL_law_789 : decode cL_law 789 = .ok (.dload 4, 2) := by decide +kernel
theorem dL_law_791 : decode cL_law 791 = .ok (.dcmp .l, 1) := by decide +kernel
theorem dL_law_792 : decode cL_law 792 = .ok (.ifCond .eq 11, 3) := by decide +kernel
theorem dL_law_795 : decode cL_law 795 = .ok (.dload 6, 2) := by decide +kernel
theorem dL_law_797 : decode cL_law 797 = .ok (.dload 6, 2) := by decide +kernel
theorem dL_law_799 : decode cL_law 799 = .ok (.dcmp .l, 1) := by decide +kernel
theorem dL_law_800 : decode cL_law 800 = .ok (.ifCond .ne 5, 3) := by decide +kernel
theorem dL_law_803 : decode cL_law 803 = .ok (.iconst 0, 1) := by decide +kernel
theorem dL_law_804 : decode cL_law 804 = .ok (.ireturn, 1) := by decide +kernel
theorem dL_law_805 : decode cL_law 805 = .ok (.goto 478, 3) := by decide +kernel
theorem dL_law_808 : decode cL_law 808 = .ok (.aload_n 1, 1) := by decide +kernel
theorem dL_law_809 : decode cL_law 809 = .ok (.aload_n 0, 1) := by decide +kernel
theorem dL_law_810 : decode cL_law 810 = .ok (.iload_n 3, 1) := by decide +kernel
theorem dL_law_811 : decode cL_law 811 = .ok (.iconst 1, 1) := by decide +kernel
theorem dL_law_812 : decode cL_law 812 = .ok (.iadd, 1) := by decide +kernel
theorem dL_law_813 : decode cL_law 813 = .ok (.iaload, 1) := by decide +kernel
theorem dL_law_814 : decode cL_law 814 = .ok (.aload_n 0, 1) := by decide +kernel
theorem dL_law_815 : decode cL_law 815 = .ok (.iload_n 3, 1) := by decide +kernel
theorem dL_law_816 : decode cL_law 816 = .ok (.iconst 2, 1) := by decide +kernel
theorem dL_law_817 : decode cL_law 817 = .ok (.iadd, 1) := by decide +kernel
theorem dL_law_818 : decode cL_law 818 = .ok (.iaload, 1) := by decide +kernel
theorem dL_law_819 : decode cL_law 819 = .ok (.invokevirtual 81, 3) := by decide +kernel
theorem dL_law_822 : decode cL_law 822 = .ok (.aload_n 2, 1) := by decide +kernel
theorem dL_law_823 : decode cL_law 823 = .ok (.aload_n 0, 1) := by decide +kernel
theorem dL_law_824 : decode cL_law 824 = .ok (.iload_n 3, 1) := by decide +kernel
theorem dL_law_825 : decode cL_law 825 = .ok (.iconst 1, 1) := by decide +kernel
theorem dL_law_826 : decode cL_law 826 = .ok (.iadd, 1) := by decide +kernel
theorem dL_law_827 : decode cL_law 827 = .ok (.iaload, 1) := by decide +kernel
theorem dL_law_828 : decode cL_law 828 = .ok (.aload_n 0, 1) := by decide +kernel
theorem dL_law_829 : decode cL_law 829 = .ok (.iload_n 3, 1) := by decide +kernel
theorem dL_law_830 : decode cL_law 830 = .ok (.iconst 2, 1) := by decide +kernel
theorem dL_law_831 : decode cL_law 831 = .ok (.iadd, 1) := by decide +kernel
theorem dL_law_832 : decode cL_law 832 = .ok (.iaload, 1) := by decide +kernel
theorem dL_law_833 : decode cL_law 833 = .ok (.invokevirtual 85, 3) := by decide +kernel
theorem dL_law_836 : decode cL_law 836 = .ok (.if_icmp .eq 447, 3) := by decide +kernel
theorem dL_law_839 : decode cL_law 839 = .ok (.iconst 0, 1) := by decide +kernel
theorem dL_law_840 : decode cL_law 840 = .ok (.ireturn, 1) := by decide +kernel
theorem dL_law_841 : decode cL_law 841 = .ok (.aload_n 1, 1) := by decide +kernel
theorem dL_law_842 : decode cL_law 842 = .ok (.aload_n 0, 1) := by decide +kernel
theorem dL_law_843 : decode cL_law 843 = .ok (.iload_n 3, 1) := by decide +kernel
theorem dL_law_844 : decode cL_law 844 = .ok (.iconst 1, 1) := by decide +kernel
theorem dL_law_845 : decode cL_law 845 = .ok (.iadd, 1) := by decide +kernel
theorem dL_law_846 : decode cL_law 846 = .ok (.iaload, 1) := by decide +kernel
theorem dL_law_847 : decode cL_law 847 = .ok (.aload_n 0, 1) := by decide +kernel
theorem dL_law_848 : decode cL_law 848 = .ok (.iload_n 3, 1) := by decide +kernel
theorem dL_law_849 : decode cL_law 849 = .ok (.iconst 2, 1) := by decide +kernel
theorem dL_law_850 : decode cL_law 850 = .ok (.iadd, 1) := by decide +kernel
theorem dL_law_851 : decode cL_law 851 = .ok (.iaload, 1) := by decide +kernel
theorem dL_law_852 : decode cL_law 852 = .ok (.aload_n 0, 1) := by decide +kernel
theorem dL_law_853 : decode cL_law 853 = .ok (.iload_n 3, 1) := by decide +kernel
theorem dL_law_854 : decode cL_law 854 = .ok (.iconst 3, 1) := by decide +kernel
theorem dL_law_855 : decode cL_law 855 = .ok (.iadd, 1) := by decide +kernel
theorem dL_law_856 : decode cL_law 856 = .ok (.iaload, 1) := by decide +kernel
theorem dL_law_857 : decode cL_law 857 = .ok (.invokevirtual 86, 3) := by decide +kernel
theorem dL_law_860 : decode cL_law 860 = .ok (.aload_n 2, 1) := by decide +kernel
theorem dL_law_861 : decode cL_law 861 = .ok (.aload_n 0, 1) := by decide +kernel
theorem dL_law_862 : decode cL_law 862 = .ok (.iload_n 3, 1) := by decide +kernel
theorem dL_law_863 : decode cL_law 863 = .ok (.iconst 1, 1) := by decide +kernel
theorem dL_law_864 : decode cL_law 864 = .ok (.iadd, 1) := by decide +kernel
theorem dL_law_865 : decode cL_law 865 = .ok (.iaload, 1) := by decide +kernel
theorem dL_law_866 : decode cL_law 866 = .ok (.aload_n 0, 1) := by decide +kernel
theorem dL_law_867 : decode cL_law 867 = .ok (.iload_n 3, 1) := by decide +kernel
theorem dL_law_868 : decode cL_law 868 = .ok (.iconst 2, 1) := by decide +kernel
theorem dL_law_869 : decode cL_law 869 = .ok (.iadd, 1) := by decide +kernel
theorem dL_law_870 : decode cL_law 870 = .ok (.iaload, 1) := by decide +kernel
theorem dL_law_871 : decode cL_law 871 = .ok (.aload_n 0, 1) := by decide +kernel
theorem dL_law_872 : decode cL_law 872 = .ok (.iload_n 3, 1) := by decide +kernel
theorem dL_law_873 : decode cL_law 873 = .ok (.iconst 3, 1) := by decide +kernel
theorem dL_law_874 : decode cL_law 874 = .ok (.iadd, 1) := by decide +kernel
theorem dL_law_875 : decode cL_law 875 = .ok (.iaload, 1) := by decide +kernel
theorem dL_law_876 : decode cL_law 876 = .ok (.invokevirtual 90, 3) := by decide +kernel
theorem dL_law_879 : decode cL_law 879 = .ok (.if_icmp .eq 404, 3) := by decide +kernel
theorem dL_law_882 : decode cL_law 882 = .ok (.iconst 0, 1) := by decide +kernel
theorem dL_law_883 : decode cL_law 883 = .ok (.ireturn, 1) := by decide +kernel
theorem dL_law_884 : decode cL_law 884 = .ok (.aload_n 1, 1) := by decide +kernel
theorem dL_law_885 : decode cL_law 885 = .ok (.aload_n 0, 1) := by decide +kernel
theorem dL_law_886 : decode cL_law 886 = .ok (.iload_n 3, 1) := by decide +kernel
theorem dL_law_887 : decode cL_law 887 = .ok (.iconst 1, 1) := by decide +kernel
theorem dL_law_888 : decode cL_law 888 = .ok (.iadd, 1) := by decide +kernel
theorem dL_law_889 : decode cL_law 889 = .ok (.iaload, 1) := by decide +kernel
theorem dL_law_890 : decode cL_law 890 = .ok (.invokevirtual 91, 3) := by decide +kernel
theorem dL_law_893 : decode cL_law 893 = .ok (.aload_n 2, 1) := by decide +kernel
theorem dL_law_894 : decode cL_law 894 = .ok (.aload_n 0, 1) := by decide +kernel
theorem dL_law_895 : decode cL_law 895 = .ok (.iload_n 3, 1) := by decide +kernel
theorem dL_law_896 : decode cL_law 896 = .ok (.iconst 1, 1) := by decide +kernel
theorem dL_law_897 : decode cL_law 897 = .ok (.iadd, 1) := by decide +kernel
theorem dL_law_898 : decode cL_law 898 = .ok (.iaload, 1) := by decide +kernel
theorem dL_law_899 : decode cL_law 899 = .ok (.invokevirtual 95, 3) := by decide +kernel
theorem dL_law_902 : decode cL_law 902 = .ok (.if_icmp .eq 381, 3) := by decide +kernel
theorem dL_law_905 : decode cL_law 905 = .ok (.iconst 0, 1) := by decide +kernel
theorem dL_law_906 : decode cL_law 906 = .ok (.ireturn, 1) := by decide +kernel
theorem dL_law_907 : decode cL_law 907 = .ok (.aload_n 1, 1) := by decide +kernel
theorem dL_law_908 : decode cL_law 908 = .ok (.aload_n 0, 1) := by decide +kernel
theorem dL_law_909 : decode cL_law 909 = .ok (.iload_n 3, 1) := by decide +kernel
theorem dL_law_910 : decode cL_law 910 = .ok (.iconst 1, 1) := by decide +kernel
theorem dL_law_911 : decode cL_law 911 = .ok (.iadd, 1) := by decide +kernel
theorem dL_law_912 : decode cL_law 912 = .ok (.iaload, 1) := by decide +kernel
theorem dL_law_913 : decode cL_law 913 = .ok (.invokevirtual 96, 3) := by decide +kernel
theorem dL_law_916 : decode cL_law 916 = .ok (.aload_n 2, 1) := by decide +kernel
theorem dL_law_917 : decode cL_law 917 = .ok (.aload_n 0, 1) := by decide +kernel
theorem dL_law_918 : decode cL_law 918 = .ok (.iload_n 3, 1) := by decide +kernel
theorem dL_law_919 : decode cL_law 919 = .ok (.iconst 1, 1) := by decide +kernel
theorem dL_law_920 : decode cL_law 920 = .ok (.iadd, 1) := by decide +kernel
theorem dL_law_921 : decode cL_law 921 = .ok (.iaload, 1) := by decide +kernel
theorem dL_law_922 : decode cL_law 922 = .ok (.invokevirtual 100, 3) := by decide +kernel
theorem dL_law_925 : decode cL_law 925 = .ok (.if_icmp .eq 358, 3) := by decide +kernel
theorem dL_law_928 : decode cL_law 928 = .ok (.iconst 0, 1) := by decide +kernel
theorem dL_law_929 : decode cL_law 929 = .ok (.ireturn, 1) := by decide +kernel
theorem dL_law_930 : decode cL_law 930 = .ok (.aload_n 1, 1) := by decide +kernel
theorem dL_law_931 : decode cL_law 931 = .ok (.aload_n 0, 1) := by decide +kernel
theorem dL_law_932 : decode cL_law 932 = .ok (.iload_n 3, 1) := by decide +kernel
theorem dL_law_933 : decode cL_law 933 = .ok (.iconst 1, 1) := by decide +kernel
theorem dL_law_934 : decode cL_law 934 = .ok (.iadd, 1) := by decide +kernel
theorem dL_law_935 : decode cL_law 935 = .ok (.iaload, 1) := by decide +kernel
theorem dL_law_936 : decode cL_law 936 = .ok (.aload_n 0, 1) := by decide +kernel
theorem dL_law_937 : decode cL_law 937 = .ok (.iload_n 3, 1) := by decide +kernel
theorem dL_law_938 : decode cL_law 938 = .ok (.iconst 2, 1) := by decide +kernel
theorem dL_law_939 : decode cL_law 939 = .ok (.iadd, 1) := by decide +kernel
theorem dL_law_940 : decode cL_law 940 = .ok (.iaload, 1) := by decide +kernel
theorem dL_law_941 : decode cL_law 941 = .ok (.aload_n 0, 1) := by decide +kernel
theorem dL_law_942 : decode cL_law 942 = .ok (.iload_n 3, 1) := by decide +kernel
theorem dL_law_943 : decode cL_law 943 = .ok (.iconst 3, 1) := by decide +kernel
theorem dL_law_944 : decode cL_law 944 = .ok (.iadd, 1) := by decide +kernel
theorem dL_law_945 : decode cL_law 945 = .ok (.iaload, 1) := by decide +kernel
theorem dL_law_946 : decode cL_law 946 = .ok (.i2d, 1) := by decide +kernel
theorem dL_law_947 : decode cL_law 947 = .ok (.ldc2_w 21, 3) := by decide +kernel
theorem dL_law_950 : decode cL_law 950 = .ok (.dmul, 1) := by decide +kernel
theorem dL_law_951 : decode cL_law 951 = .ok (.aload_n 0, 1) := by decide +kernel
theorem dL_law_952 : decode cL_law 952 = .ok (.iload_n 3, 1) := by decide +kernel
theorem dL_law_953 : decode cL_law 953 = .ok (.iconst 4, 1) := by decide +kernel
theorem dL_law_954 : decode cL_law 954 = .ok (.iadd, 1) := by decide +kernel
theorem dL_law_955 : decode cL_law 955 = .ok (.iaload, 1) := by decide +kernel
theorem dL_law_956 : decode cL_law 956 = .ok (.i2d, 1) := by decide +kernel
theorem dL_law_957 : decode cL_law 957 = .ok (.ldc2_w 21, 3) := by decide +kernel
theorem dL_law_960 : decode cL_law 960 = .ok (.dmul, 1) := by decide +kernel
theorem dL_law_961 : decode cL_law 961 = .ok (.invokevirtual 101, 3) := by decide +kernel
theorem dL_law_964 : decode cL_law 964 = .ok (.aload_n 2, 1) := by decide +kernel
theorem dL_law_965 : decode cL_law 965 = .ok (.aload_n 0, 1) := by decide +kernel
theorem dL_law_966 : decode cL_law 966 = .ok (.iload_n 3, 1) := by decide +kernel
theorem dL_law_967 : decode cL_law 967 = .ok (.iconst 1, 1) := by decide +kernel
theorem dL_law_968 : decode cL_law 968 = .ok (.iadd, 1) := by decide +kernel
theorem dL_law_969 : decode cL_law 969 = .ok (.iaload, 1) := by decide +kernel
theorem dL_law_970 : decode cL_law 970 = .ok (.aload_n 0, 1) := by decide +kernel
theorem dL_law_971 : decode cL_law 971 = .ok (.iload_n 3, 1) := by decide +kernel
theorem dL_law_972 : decode cL_law 972 = .ok (.iconst 2, 1) := by decide +kernel
theorem dL_law_973 : decode cL_law 973 = .ok (.iadd, 1) := by decide +kernel
theorem dL_law_974 : decode cL_law 974 = .ok (.iaload, 1) := by decide +kernel
theorem dL_law_975 : decode cL_law 975 = .ok (.aload_n 0, 1) := by decide +kernel
theorem dL_law_976 : decode cL_law 976 = .ok (.iload_n 3, 1) := by decide +kernel
theorem dL_law_977 : decode cL_law 977 = .ok (.iconst 3, 1) := by decide +kernel
theorem dL_law_978 : decode cL_law 978 = .ok (.iadd, 1) := by decide +kernel
theorem dL_law_979 : decode cL_law 979 = .ok (.iaload, 1) := by decide +kernel
theorem dL_law_980 : decode cL_law 980 = .ok (.i2d, 1) := by decide +kernel
theorem dL_law_981 : decode cL_law 981 = .ok (.ldc2_w 21, 3) := by decide +kernel
theorem dL_law_984 : decode cL_law 984 = .ok (.dmul, 1) := by decide +kernel
theorem dL_law_985 : decode cL_law 985 = .ok (.aload_n 0, 1) := by decide +kernel
theorem dL_law_986 : decode cL_law 986 = .ok (.iload_n 3, 1) := by decide +kernel
theorem dL_law_987 : decode cL_law 987 = .ok (.iconst 4, 1) := by decide +kernel
theorem dL_law_988 : decode cL_law 988 = .ok (.iadd, 1) := by decide +kernel
theorem dL_law_989 : decode cL_law 989 = .ok (.iaload, 1) := by decide +kernel
theorem dL_law_990 : decode cL_law 990 = .ok (.i2d, 1) := by decide +kernel
theorem dL_law_991 : decode cL_law 991 = .ok (.ldc2_w 21, 3) := by decide +kernel
theorem dL_law_994 : decode cL_law 994 = .ok (.dmul, 1) := by decide +kernel
theorem dL_law_995 : decode cL_law 995 = .ok (.invokevirtual 104, 3) := by decide +kernel
theorem dL_law_998 : decode cL_law 998 = .ok (.if_icmp .eq 285, 3) := by decide +kernel
theorem dL_law_1001 : decode cL_law 1001 = .ok (.iconst 0, 1) := by decide +kernel
theorem dL_law_1002 : decode cL_law 1002 = .ok (.ireturn, 1) := by decide +kernel
theorem dL_law_1003 : decode cL_law 1003 = .ok (.aload_n 1, 1) := by decide +kernel
theorem dL_law_1004 : decode cL_law 1004 = .ok (.aload_n 0, 1) := by decide +kernel
theorem dL_law_1005 : decode cL_law 1005 = .ok (.iload_n 3, 1) := by decide +kernel
theorem dL_law_1006 : decode cL_law 1006 = .ok (.iconst 1, 1) := by decide +kernel
theorem dL_law_1007 : decode cL_law 1007 = .ok (.iadd, 1) := by decide +kernel
theorem dL_law_1008 : decode cL_law 1008 = .ok (.iaload, 1) := by decide +kernel
theorem dL_law_1009 : decode cL_law 1009 = .ok (.i2d, 1) := by decide +kernel
theorem dL_law_1010 : decode cL_law 1010 = .ok (.ldc2_w 21, 3) := by decide +kernel
theorem dL_law_1013 : decode cL_law 1013 = .ok (.dmul, 1) := by decide +kernel
theorem dL_law_1014 : decode cL_law 1014 = .ok (.invokevirtual 105, 3) := by decide +kernel
theorem dL_law_1017 : decode cL_law 1017 = .ok (.dstore 4, 2) := by decide +kernel
theorem dL_law_1019 : decode cL_law 1019 = .ok (.aload_n 2, 1) := by decide +kernel
theorem dL_law_1020 : decode cL_law 1020 = .ok (.aload_n 0, 1) := by decide +kernel
theorem dL_law_1021 : decode cL_law 1021 = .ok (.iload_n 3, 1) := by decide +kernel
theorem dL_law_1022 : decode cL_law 1022 = .ok (.iconst 1, 1) := by decide +kernel
theorem dL_law_1023 : decode cL_law 1023 = .ok (.iadd, 1) := by decide +kernel
theorem dL_law_1024 : decode cL_law 1024 = .ok (.iaload, 1) := by decide +kernel
theorem dL_law_1025 : decode cL_law 1025 = .ok (.i2d, 1) := by decide +kernel
theorem dL_law_1026 : decode cL_law 1026 = .ok (.ldc2_w 21, 3) := by decide +kernel
theorem dL_law_1029 : decode cL_law 1029 = .ok (.dmul, 1) := by decide +kernel
theorem dL_law_1030 : decode cL_law 1030 = .ok (.invokevirtual 109, 3) := by decide +kernel
theorem dL_law_1033 : decode cL_law 1033 = .ok (.dstore 6, 2) := by decide +kernel
theorem dL_law_1035 : decode cL_law 1035 = .ok (.dload 4, 2) := by decide +kernel
theorem dL_law_1037 : decode cL_law 1037 = .ok (.dload 6, 2) := by decide +kernel
theorem dL_law_1039 : decode cL_law 1039 = .ok (.dcmp .l, 1) := by decide +kernel
theorem dL_law_1040 : decode cL_law 1040 = .ok (.ifCond .eq 21, 3) := by decide +kernel
theorem dL_law_1043 : decode cL_law 1043 = .ok (.dload 4, 2) := by decide +kernel
theorem dL_law_1045 : decode cL_law 1045 = .ok (.dload 4, 2) := by decide +kernel
theorem dL_law_1047 : decode cL_law 1047 = .ok (.dcmp .l, 1) := by decide +kernel
theorem dL_law_1048 : decode cL_law 1048 = .ok (.ifCond .eq 11, 3) := by decide +kernel
theorem dL_law_1051 : decode cL_law 1051 = .ok (.dload 6, 2) := by decide +kernel
theorem dL_law_1053 : decode cL_law 1053 = .ok (.dload 6, 2) := by decide +kernel
theorem dL_law_1055 : decode cL_law 1055 = .ok (.dcmp .l, 1) := by decide +kernel
theorem dL_law_1056 : decode cL_law 1056 = .ok (.ifCond .ne 5, 3) := by decide +kernel
theorem dL_law_1059 : decode cL_law 1059 = .ok (.iconst 0, 1) := by decide +kernel
theorem dL_law_1060 : decode cL_law 1060 = .ok (.ireturn, 1) := by decide +kernel
theorem dL_law_1061 : decode cL_law 1061 = .ok (.goto 222, 3) := by decide +kernel
theorem dL_law_1064 : decode cL_law 1064 = .ok (.aload_n 1, 1) := by decide +kernel
theorem dL_law_1065 : decode cL_law 1065 = .ok (.invokevirtual 110, 3) := by decide +kernel
theorem dL_law_1068 : decode cL_law 1068 = .ok (.aload_n 2, 1) := by decide +kernel
theorem dL_law_1069 : decode cL_law 1069 = .ok (.invokevirtual 114, 3) := by decide +kernel
theorem dL_law_1072 : decode cL_law 1072 = .ok (.if_icmp .eq 211, 3) := by decide +kernel
theorem dL_law_1075 : decode cL_law 1075 = .ok (.iconst 0, 1) := by decide +kernel
theorem dL_law_1076 : decode cL_law 1076 = .ok (.ireturn, 1) := by decide +kernel
theorem dL_law_1077 : decode cL_law 1077 = .ok (.aload_n 1, 1) := by decide +kernel
theorem dL_law_1078 : decode cL_law 1078 = .ok (.aload_n 0, 1) := by decide +kernel
theorem dL_law_1079 : decode cL_law 1079 = .ok (.iload_n 3, 1) := by decide +kernel
theorem dL_law_1080 : decode cL_law 1080 = .ok (.iconst 1, 1) := by decide +kernel
theorem dL_law_1081 : decode cL_law 1081 = .ok (.iadd, 1) := by decide +kernel
theorem dL_law_1082 : decode cL_law 1082 = .ok (.iaload, 1) := by decide +kernel
theorem dL_law_1083 : decode cL_law 1083 = .ok (.invokevirtual 115, 3) := by decide +kernel
theorem dL_law_1086 : decode cL_law 1086 = .ok (.aload_n 2, 1) := by decide +kernel
theorem dL_law_1087 : decode cL_law 1087 = .ok (.aload_n 0, 1) := by decide +kernel
theorem dL_law_1088 : decode cL_law 1088 = .ok (.iload_n 3, 1) := by decide +kernel
theorem dL_law_1089 : decode cL_law 1089 = .ok (.iconst 1, 1) := by decide +kernel
theorem dL_law_1090 : decode cL_law 1090 = .ok (.iadd, 1) := by decide +kernel
theorem dL_law_1091 : decode cL_law 1091 = .ok (.iaload, 1) := by decide +kernel
theorem dL_law_1092 : decode cL_law 1092 = .ok (.invokevirtual 118, 3) := by decide +kernel
theorem dL_law_1095 : decode cL_law 1095 = .ok (.if_icmp .eq 188, 3) := by decide +kernel
theorem dL_law_1098 : decode cL_law 1098 = .ok (.iconst 0, 1) := by decide +kernel
theorem dL_law_1099 : decode cL_law 1099 = .ok (.ireturn, 1) := by decide +kernel
theorem dL_law_1100 : decode cL_law 1100 = .ok (.aload_n 1, 1) := by decide +kernel
theorem dL_law_1101 : decode cL_law 1101 = .ok (.aload_n 0, 1) := by decide +kernel
theorem dL_law_1102 : decode cL_law 1102 = .ok (.iload_n 3, 1) := by decide +kernel
theorem dL_law_1103 : decode cL_law 1103 = .ok (.iconst 1, 1) := by decide +kernel
theorem dL_law_1104 : decode cL_law 1104 = .ok (.iadd, 1) := by decide +kernel
theorem dL_law_1105 : decode cL_law 1105 = .ok (.iaload, 1) := by decide +kernel
theorem dL_law_1106 : decode cL_law 1106 = .ok (.aload_n 0, 1) := by decide +kernel
theorem dL_law_1107 : decode cL_law 1107 = .ok (.iload_n 3, 1) := by decide +kernel
theorem dL_law_1108 : decode cL_law 1108 = .ok (.iconst 2, 1) := by decide +kernel
theorem dL_law_1109 : decode cL_law 1109 = .ok (.iadd, 1) := by decide +kernel
theorem dL_law_1110 : decode cL_law 1110 = .ok (.iaload, 1) := by decide +kernel
theorem dL_law_1111 : decode cL_law 1111 = .ok (.invokevirtual 119, 3) := by decide +kernel
theorem dL_law_1114 : decode cL_law 1114 = .ok (.dstore 4, 2) := by decide +kernel
theorem dL_law_1116 : decode cL_law 1116 = .ok (.aload_n 2, 1) := by decide +kernel
theorem dL_law_1117 : decode cL_law 1117 = .ok (.aload_n 0, 1) := by decide +kernel
theorem dL_law_1118 : decode cL_law 1118 = .ok (.iload_n 3, 1) := by decide +kernel
theorem dL_law_1119 : decode cL_law 1119 = .ok (.iconst 1, 1) := by decide +kernel
theorem dL_law_1120 : decode cL_law 1120 = .ok (.iadd, 1) := by decide +kernel
theorem dL_law_1121 : decode cL_law 1121 = .ok (.iaload, 1) := by decide +kernel
theorem dL_law_1122 : decode cL_law 1122 = .ok (.aload_n 0, 1) := by decide +kernel
theorem dL_law_1123 : decode cL_law 1123 = .ok (.iload_n 3, 1) := by decide +kernel
theorem dL_law_1124 : decode cL_law 1124 = .ok (.iconst 2, 1) := by decide +kernel
theorem dL_law_1125 : decode cL_law 1125 = .ok (.iadd, 1) := by decide +kernel
theorem dL_law_1126 : decode cL_law 1126 = .ok (.iaload, 1) := by decide +kernel
theorem dL_law_1127 : decode cL_law 1127 = .ok (.invokevirtual 122, 3) := by decide +kernel
theorem dL_law_1130 : decode cL_law 1130 = .ok (.dstore 6, 2) := by decide +kernel
theorem dL_law_1132 : decode cL_law 1132 = .ok (.dload 4, 2) := by decide +kernel
theorem dL_law_1134 : decode cL_law 1134 = .ok (.dload 6, 2) := by decide +kernel
theorem dL_law_1136 : decode cL_law 1136 = .ok (.dcmp .l, 1) := by decide +kernel
theorem dL_law_1137 : decode cL_law 1137 = .ok (.ifCond .eq 21, 3) := by decide +kernel
theorem dL_law_1140 : decode cL_law 1140 = .ok (.dload 4, 2) := by decide +kernel
theorem dL_law_1142 : decode cL_law 1142 = .ok (.dload 4, 2) := by decide +kernel
theorem dL_law_1144 : decode cL_law 1144 = .ok (.dcmp .l, 1) := by decide +kernel
theorem dL_law_1145 : decode cL_law 1145 = .ok (.ifCond .eq 11, 3) := by decide +kernel
theorem dL_law_1148 : decode cL_law 1148 = .ok (.dload 6, 2) := by decide +kernel
theorem dL_law_1150 : decode cL_law 1150 = .ok (.dload 6, 2) := by decide +kernel
theorem dL_law_1152 : decode cL_law 1152 = .ok (.dcmp .l, 1) := by decide +kernel
theorem dL_law_1153 : decode cL_law 1153 = .ok (.ifCond .ne 5, 3) := by decide +kernel
theorem dL_law_1156 : decode cL_law 1156 = .ok (.iconst 0, 1) := by decide +kernel
theorem dL_law_1157 : decode cL_law 1157 = .ok (.ireturn, 1) := by decide +kernel
theorem dL_law_1158 : decode cL_law 1158 = .ok (.goto 125, 3) := by decide +kernel
theorem dL_law_1161 : decode cL_law 1161 = .ok (.aload_n 1, 1) := by decide +kernel
theorem dL_law_1162 : decode cL_law 1162 = .ok (.aload_n 0, 1) := by decide +kernel
theorem dL_law_1163 : decode cL_law 1163 = .ok (.iload_n 3, 1) := by decide +kernel
theorem dL_law_1164 : decode cL_law 1164 = .ok (.iconst 1, 1) := by decide +kernel
theorem dL_law_1165 : decode cL_law 1165 = .ok (.iadd, 1) := by decide +kernel
theorem dL_law_1166 : decode cL_law 1166 = .ok (.iaload, 1) := by decide +kernel
theorem dL_law_1167 : decode cL_law 1167 = .ok (.aload_n 0, 1) := by decide +kernel
theorem dL_law_1168 : decode cL_law 1168 = .ok (.iload_n 3, 1) := by decide +kernel
theorem dL_law_1169 : decode cL_law 1169 = .ok (.iconst 2, 1) := by decide +kernel
theorem dL_law_1170 : decode cL_law 1170 = .ok (.iadd, 1) := by decide +kernel
theorem dL_law_1171 : decode cL_law 1171 = .ok (.iaload, 1) := by decide +kernel
theorem dL_law_1172 : decode cL_law 1172 = .ok (.invokevirtual 123, 3) := by decide +kernel
theorem dL_law_1175 : decode cL_law 1175 = .ok (.dstore 4, 2) := by decide +kernel
theorem dL_law_1177 : decode cL_law 1177 = .ok (.aload_n 2, 1) := by decide +kernel
theorem dL_law_1178 : decode cL_law 1178 = .ok (.aload_n 0, 1) := by decide +kernel
theorem dL_law_1179 : decode cL_law 1179 = .ok (.iload_n 3, 1) := by decide +kernel
theorem dL_law_1180 : decode cL_law 1180 = .ok (.iconst 1, 1) := by decide +kernel
theorem dL_law_1181 : decode cL_law 1181 = .ok (.iadd, 1) := by decide +kernel
theorem dL_law_1182 : decode cL_law 1182 = .ok (.iaload, 1) := by decide +kernel
theorem dL_law_1183 : decode cL_law 1183 = .ok (.aload_n 0, 1) := by decide +kernel
theorem dL_law_1184 : decode cL_law 1184 = .ok (.iload_n 3, 1) := by decide +kernel
theorem dL_law_1185 : decode cL_law 1185 = .ok (.iconst 2, 1) := by decide +kernel
theorem dL_law_1186 : decode cL_law 1186 = .ok (.iadd, 1) := by decide +kernel
theorem dL_law_1187 : decode cL_law 1187 = .ok (.iaload, 1) := by decide +kernel
theorem dL_law_1188 : decode cL_law 1188 = .ok (.invokevirtual 126, 3) := by decide +kernel
theorem dL_law_1191 : decode cL_law 1191 = .ok (.dstore 6, 2) := by decide +kernel
theorem dL_law_1193 : decode cL_law 1193 = .ok (.dload 4, 2) := by decide +kernel
theorem dL_law_1195 : decode cL_law 1195 = .ok (.dload 6, 2) := by decide +kernel
theorem dL_law_1197 : decode cL_law 1197 = .ok (.dcmp .l, 1) := by decide +kernel
theorem dL_law_1198 : decode cL_law 1198 = .ok (.ifCond .eq 21, 3) := by decide +kernel
theorem dL_law_1201 : decode cL_law 1201 = .ok (.dload 4, 2) := by decide +kernel
theorem dL_law_1203 : decode cL_law 1203 = .ok (.dload 4, 2) := by decide +kernel
theorem dL_law_1205 : decode cL_law 1205 = .ok (.dcmp .l, 1) := by decide +kernel
theorem dL_law_1206 : decode cL_law 1206 = .ok (.ifCond .eq 11, 3) := by decide +kernel
theorem dL_law_1209 : decode cL_law 1209 = .ok (.dload 6, 2) := by decide +kernel
theorem dL_law_1211 : decode cL_law 1211 = .ok (.dload 6, 2) := by decide +kernel
theorem dL_law_1213 : decode cL_law 1213 = .ok (.dcmp .l, 1) := by decide +kernel
theorem dL_law_1214 : decode cL_law 1214 = .ok (.ifCond .ne 5, 3) := by decide +kernel
theorem dL_law_1217 : decode cL_law 1217 = .ok (.iconst 0, 1) := by decide +kernel
theorem dL_law_1218 : decode cL_law 1218 = .ok (.ireturn, 1) := by decide +kernel
theorem dL_law_1219 : decode cL_law 1219 = .ok (.goto 64, 3) := by decide +kernel
theorem dL_law_1222 : decode cL_law 1222 = .ok (.aload_n 1, 1) := by decide +kernel
theorem dL_law_1223 : decode cL_law 1223 = .ok (.aload_n 0, 1) := by decide +kernel
theorem dL_law_1224 : decode cL_law 1224 = .ok (.iload_n 3, 1) := by decide +kernel
theorem dL_law_1225 : decode cL_law 1225 = .ok (.iconst 1, 1) := by decide +kernel
theorem dL_law_1226 : decode cL_law 1226 = .ok (.iadd, 1) := by decide +kernel
theorem dL_law_1227 : decode cL_law 1227 = .ok (.iaload, 1) := by decide +kernel
theorem dL_law_1228 : decode cL_law 1228 = .ok (.aload_n 0, 1) := by decide +kernel
theorem dL_law_1229 : decode cL_law 1229 = .ok (.iload_n 3, 1) := by decide +kernel
theorem dL_law_1230 : decode cL_law 1230 = .ok (.iconst 2, 1) := by decide +kernel
theorem dL_law_1231 : decode cL_law 1231 = .ok (.iadd, 1) := by decide +kernel
theorem dL_law_1232 : decode cL_law 1232 = .ok (.iaload, 1) := by decide +kernel
theorem dL_law_1233 : decode cL_law 1233 = .ok (.invokevirtual 127, 3) := by decide +kernel
theorem dL_law_1236 : decode cL_law 1236 = .ok (.dstore 4, 2) := by decide +kernel
theorem dL_law_1238 : decode cL_law 1238 = .ok (.aload_n 2, 1) := by decide +kernel
theorem dL_law_1239 : decode cL_law 1239 = .ok (.aload_n 0, 1) := by decide +kernel
theorem dL_law_1240 : decode cL_law 1240 = .ok (.iload_n 3, 1) := by decide +kernel
theorem dL_law_1241 : decode cL_law 1241 = .ok (.iconst 1, 1) := by decide +kernel
theorem dL_law_1242 : decode cL_law 1242 = .ok (.iadd, 1) := by decide +kernel
theorem dL_law_1243 : decode cL_law 1243 = .ok (.iaload, 1) := by decide +kernel
theorem dL_law_1244 : decode cL_law 1244 = .ok (.aload_n 0, 1) := by decide +kernel
theorem dL_law_1245 : decode cL_law 1245 = .ok (.iload_n 3, 1) := by decide +kernel
theorem dL_law_1246 : decode cL_law 1246 = .ok (.iconst 2, 1) := by decide +kernel
theorem dL_law_1247 : decode cL_law 1247 = .ok (.iadd, 1) := by decide +kernel
theorem dL_law_1248 : decode cL_law 1248 = .ok (.iaload, 1) := by decide +kernel
theorem dL_law_1249 : decode cL_law 1249 = .ok (.invokevirtual 130, 3) := by decide +kernel
theorem dL_law_1252 : decode cL_law 1252 = .ok (.dstore 6, 2) := by decide +kernel
theorem dL_law_1254 : decode cL_law 1254 = .ok (.dload 4, 2) := by decide +kernel
theorem dL_law_1256 : decode cL_law 1256 = .ok (.dload 6, 2) := by decide +kernel
theorem dL_law_1258 : decode cL_law 1258 = .ok (.dcmp .l, 1) := by decide +kernel
theorem dL_law_1259 : decode cL_law 1259 = .ok (.ifCond .eq 21, 3) := by decide +kernel
theorem dL_law_1262 : decode cL_law 1262 = .ok (.dload 4, 2) := by decide +kernel
theorem dL_law_1264 : decode cL_law 1264 = .ok (.dload 4, 2) := by decide +kernel
theorem dL_law_1266 : decode cL_law 1266 = .ok (.dcmp .l, 1) := by decide +kernel
theorem dL_law_1267 : decode cL_law 1267 = .ok (.ifCond .eq 11, 3) := by decide +kernel
theorem dL_law_1270 : decode cL_law 1270 = .ok (.dload 6, 2) := by decide +kernel
theorem dL_law_1272 : decode cL_law 1272 = .ok (.dload 6, 2) := by decide +kernel
theorem dL_law_1274 : decode cL_law 1274 = .ok (.dcmp .l, 1) := by decide +kernel
theorem dL_law_1275 : decode cL_law 1275 = .ok (.ifCond .ne 5, 3) := by decide +kernel
theorem dL_law_1278 : decode cL_law 1278 = .ok (.iconst 0, 1) := by decide +kernel
theorem dL_law_1279 : decode cL_law 1279 = .ok (.ireturn, 1) := by decide +kernel
theorem dL_law_1280 : decode cL_law 1280 = .ok (.goto 3, 3) := by decide +kernel
theorem dL_law_1283 : decode cL_law 1283 = .ok (.iinc 3 5, 3) := by decide +kernel
theorem dL_law_1286 : decode cL_law 1286 = .ok (.goto (-1238), 3) := by decide +kernel
theorem dL_law_1289 : decode cL_law 1289 = .ok (.iconst 1, 1) := by decide +kernel
theorem dL_law_1290 : decode cL_law 1290 = .ok (.ireturn, 1) := by decide +kernel
end
section
/-! doubles up to the bits of a NaN -/
def zcn (x : UInt64) : UInt64 := if isNaN64 x = true then 9221120237041090560 else x
theorem zcn_alike {x y : UInt64} (h : alike64 x y = true) : zcn x = zcn y := by
  unfold alike64 at h
  simp only [Bool.or_eq_true, Bool.and_eq_true, decide_eq_true_eq] at h
  rcases h with h | ⟨h1, h2⟩
  · rw [h]
  · unfold zcn
    rw [if_pos h1, if_pos h2]
theorem znan_bits (x : UInt64) : isNaN64 x = true ↔ FP.Core.dIsNaN x = true := by
  rw [FP.Core.isNaN_bits]
  unfold isNaN64
  rw [decide_eq_true_eq, gt_iff_lt, UInt64.lt_iff_toNat_lt, FP.Core.mask_toNat]
  exact Iff.rfl
theorem znan_val (x : UInt64) : isNaN64 x = true ↔ FP.Core.val64 x = .nan := (znan_bits x).trans (FP.Core.dIsNaN_iff x)
theorem zval_cn (x : UInt64) : FP.Core.val64 (zcn x) = FP.Core.val64 x := by
  unfold zcn
  split
  · rename_i h
    rw [(znan_val x).mp h]
    decide +kernel
  · rfl
theorem zcn_id {x : UInt64} (h : FP.Core.val64 x ≠ .nan) : zcn x = x := by
  unfold zcn
  rw [if_neg (fun q => h ((znan_val x).mp q))]
theorem zcn_cn (x : UInt64) : zcn (zcn x) = zcn x := by
  by_cases h : FP.Core.val64 x = .nan
  · have h1 := (znan_val x).mpr h
    have e : zcn x = 9221120237041090560 := by unfold zcn; rw [if_pos h1]
    rw [e]
    decide +kernel
  · rw [zcn_id h, zcn_id h]
theorem zadd_in (x y : UInt64) : FP.dadd (zcn x) (zcn y) = FP.dadd x y := by
  show UInt64.ofNat (FP.Core.encode FP.Core.b64 (FP.Core.round FP.Core.b64 (FP.Core.exactSum (FP.Core.val64 (zcn x)) (FP.Core.val64 (zcn y))))) = _
  rw [zval_cn, zval_cn]
  rfl
theorem zsub_in (x y : UInt64) : FP.dsub (zcn x) (zcn y) = FP.dsub x y := by
  show UInt64.ofNat (FP.Core.encode FP.Core.b64 (FP.Core.round FP.Core.b64 (FP.Core.exactSum (FP.Core.val64 (zcn x)) (FP.Core.negate (FP.Core.val64 (zcn y)))))) = _
  rw [zval_cn, zval_cn]
  rfl
theorem zmul_in (x y : UInt64) : FP.dmul (zcn x) (zcn y) = FP.dmul x y := by
  show UInt64.ofNat (FP.Core.encode FP.Core.b64 (FP.Core.round FP.Core.b64 (FP.Core.exactProduct (FP.Core.val64 (zcn x)) (FP.Core.val64 (zcn y))))) = _
  rw [zval_cn, zval_cn]
  rfl
theorem zdiv_in (x y : UInt64) : FP.ddiv (zcn x) (zcn y) = FP.ddiv x y := by
  show UInt64.ofNat (FP.Core.encode FP.Core.b64 (FP.Core.quotient FP.Core.b64 (FP.Core.val64 (zcn x)) (FP.Core.val64 (zcn y)))) = _
  rw [zval_cn, zval_cn]
  rfl
theorem zcmp_in (x y : UInt64) : FP.dcmp (zcn x) (zcn y) = FP.dcmp x y := by
  show FP.Core.order (FP.Core.val64 (zcn x)) (FP.Core.val64 (zcn y)) = _
  rw [zval_cn, zval_cn]
  rfl
theorem zd2l_in (x : UInt64) : FP.d2l (zcn x) = FP.d2l x := by
  show FP.Core.toL (FP.Core.val64 (zcn x)) = _
  rw [zval_cn]
  rfl
def zadd (x y : UInt64) : UInt64 := zcn (FP.dadd x y)
def zsub (x y : UInt64) : UInt64 := zcn (FP.dsub x y)
def zmul (x y : UInt64) : UInt64 := zcn (FP.dmul x y)
def zdiv (x y : UInt64) : UInt64 := zcn (FP.ddiv x y)
def zneg (x : UInt64) : UInt64 := zcn (FP.dneg x)
theorem zneg_nan (x : UInt64) : isNaN64 (FP.dneg x) = isNaN64 x := by
  have e : (FP.dneg x) &&& 0x7fffffffffffffff = x &&& 0x7fffffffffffffff := by
    unfold FP.dneg
    apply UInt64.toBitVec_inj.mp
    simp only [UInt64.toBitVec_and, UInt64.toBitVec_xor]
    apply BitVec.eq_of_getLsbD_eq
    intro i hi
    simp only [BitVec.getLsbD_and, BitVec.getLsbD_xor]
    have hk : ∀ k : Fin 64, ((UInt64.toBitVec 0x8000000000000000).getLsbD k.val && (UInt64.toBitVec 0x7fffffffffffffff).getLsbD k.val) = false := by decide +kernel
    have := hk ⟨i, hi⟩
    revert this
    cases x.toBitVec.getLsbD i <;> cases (UInt64.toBitVec 0x8000000000000000).getLsbD i <;> cases (UInt64.toBitVec 0x7fffffffffffffff).getLsbD i <;> simp
  unfold isNaN64
  rw [e]
theorem zneg_in (x : UInt64) : zcn (FP.dneg x) = zneg (zcn x) := by
  unfold zneg
  by_cases h : isNaN64 x = true
  · have h2 : isNaN64 (zcn x) = true := by rw [znan_val, zval_cn, ← znan_val]; exact h
    have a1 : isNaN64 (FP.dneg x) = true := by rw [zneg_nan]; exact h
    have a2 : isNaN64 (FP.dneg (zcn x)) = true := by rw [zneg_nan]; exact h2
    unfold zcn at a2 ⊢
    rw [if_pos a1, if_pos a2]
  · rw [zcn_id (fun q => h ((znan_val x).mpr q))]
/-! typed memory: by role and place -/
abbrev ZMem : Type := (Nat → Nat → Int32) × (Nat → Nat → Int64) × (Nat → Nat → UInt64) × (Nat → Nat → Option Nat)
def zup {α : Type} (f : Nat → Nat → α) (r k : Nat) (v : α) : Nat → Nat → α := fun a b => if a = r ∧ b = k then v else f a b
def zI (μ : ZMem) : Nat → Nat → Int32 := μ.1
def zL (μ : ZMem) : Nat → Nat → Int64 := μ.2.1
def zD (μ : ZMem) : Nat → Nat → UInt64 := μ.2.2.1
def zR (μ : ZMem) : Nat → Nat → Option Nat := μ.2.2.2
def zsI (μ : ZMem) (r k : Nat) (v : Int32) : ZMem := (zup μ.1 r k v, μ.2)
def zsL (μ : ZMem) (r k : Nat) (v : Int64) : ZMem := (μ.1, zup μ.2.1 r k v, μ.2.2)
def zsD (μ : ZMem) (r k : Nat) (v : UInt64) : ZMem := (μ.1, μ.2.1, zup μ.2.2.1 r k v, μ.2.2.2)
def zsR (μ : ZMem) (r k : Nat) (v : Option Nat) : ZMem := (μ.1, μ.2.1, μ.2.2.1, zup μ.2.2.2 r k v)
def zcM (μ : ZMem) : ZMem := (μ.1, μ.2.1, fun r k => zcn (μ.2.2.1 r k), μ.2.2.2)
theorem zup_same {α : Type} (f : Nat → Nat → α) (r k : Nat) (v : α) : zup f r k v r k = v := if_pos ⟨rfl, rfl⟩
theorem zup_ne {α : Type} (f : Nat → Nat → α) {r k a b : Nat} (v : α) (h : ¬ (a = r ∧ b = k)) : zup f r k v a b = f a b := if_neg h
theorem zup_row {α : Type} (f : Nat → Nat → α) {r a : Nat} (k : Nat) (v : α) (h : a ≠ r) : zup f r k v a = f a := funext fun b => if_neg (fun q => h q.1)
theorem zcM_sI (μ : ZMem) (r k : Nat) (v : Int32) : zcM (zsI μ r k v) = zsI (zcM μ) r k v := rfl
theorem zcM_sL (μ : ZMem) (r k : Nat) (v : Int64) : zcM (zsL μ r k v) = zsL (zcM μ) r k v := rfl
theorem zcM_sR (μ : ZMem) (r k : Nat) (v : Option Nat) : zcM (zsR μ r k v) = zsR (zcM μ) r k v := rfl
theorem zcM_sD (μ : ZMem) (r k : Nat) (v : UInt64) : zcM (zsD μ r k v) = zsD (zcM μ) r k (zcn v) := by
  have e : (fun a b => zcn (zup μ.2.2.1 r k v a b)) = zup (fun a b => zcn (μ.2.2.1 a b)) r k (zcn v) := by
    funext a b
    by_cases h : a = r ∧ b = k
    · obtain ⟨rfl, rfl⟩ := h
      rw [zup_same, zup_same]
    · rw [zup_ne _ _ h, zup_ne _ _ h]
  show (μ.1, μ.2.1, (fun a b => zcn (zup μ.2.2.1 r k v a b)), μ.2.2.2) = _
  rw [e]
  rfl
/-! what a world is: for each role its address and what stands there -/
abbrev ZG : Type := va_G × (Nat → ClassId) × (Nat → Nat) × (Nat → Nat) × List Nat × (Nat → Nat)
def zgD (g : ZG) : va_G := g.1
def zcy (g : ZG) : Nat → ClassId := g.2.1
def zkd (g : ZG) : Nat → Nat := g.2.2.1
def zln (g : ZG) : Nat → Nat := g.2.2.2.1
def zrs (g : ZG) : List Nat := g.2.2.2.2.1
def zad (g : ZG) : Nat → Nat := g.2.2.2.2.2
def zft (ci : Nat) : Nat → FieldType := match ci with
  | 0 => tyX0
  | 1 => tyX1
  | 2 => tyX2
  | 3 => tyX3
  | 4 => tyX4
  | 5 => tyX5
  | 6 => tyX6
  | _ => tyX7
def znf (ci : Nat) : Nat := match ci with
  | 0 => 15
  | 1 => 6
  | 2 => 3
  | 3 => 5
  | 4 => 10
  | 5 => 9
  | 6 => 17
  | _ => 50
def zsv (g : ZG) (μ : ZMem) (r k : Nat) : FieldType → Value
  | .int => .int (zI μ r k)
  | .boolean => .int (zI μ r k)
  | .long => .long (zL μ r k)
  | .double => .double (zD μ r k)
  | _ => va_rf ((zR μ r k).map (zad g))
def zpay (g : ZG) (μ : ZMem) (r kd : Nat) : (Nat → Int32) ⊕ (Nat → Int64) ⊕ (Nat → UInt32) ⊕ (Nat → UInt64) ⊕ (Nat → Option Nat) :=
  if kd = 8 then .inr (.inr (.inr (.inl (zD μ r)))) else if kd = 9 ∨ kd = 11 then .inl (zI μ r) else if kd = 10 then .inr (.inl (zL μ r)) else .inr (.inr (.inr (.inr (fun k => (zR μ r k).map (zad g)))))
def zfs (g : ZG) (μ : ZMem) (r ci : Nat) : List Value := (List.range (znf ci)).map (fun k => zsv g μ r k (zft ci k))
def zpc (g : ZG) (μ : ZMem) (r : Nat) : va_E := if zkd g r < 8 then .inr (zkd g r, zfs g μ r (zkd g r)) else .inl (zcy g (zkd g r), zln g r, zpay g μ r (zkd g r))
def zws (g : ZG) (μ : ZMem) : va_W := (zrs g).map (fun r => (zad g r, zpc g μ r))
def zRg (g : ZG) : Nat → Prop := fun q => ∃ r, r ∈ zrs g ∧ zad g r = q
def zAp (g : ZG) : Prop := ∀ (i j r r' : Nat), (zrs g)[i]? = some r → (zrs g)[j]? = some r' → zad g r = zad g r' → i = j
def ztys (g : ZG) : List (ClassId × FieldType) := [(zcy g 8, .double), (zcy g 9, .int), (zcy g 10, .long), (zcy g 11, .boolean), (zcy g 12, .object "CellCurrents$Cell"), (zcy g 13, .object "CellCurrents$Face"), (zcy g 14, .object "CellCurrents$Nest"), (zcy g 15, .object "CellCurrents$Side"), (zcy g 16, .object "CellCurrents$State"), (zcy g 17, .array .double)]
def zO (g : ZG) (kd r : Nat) : Prop := r ∈ zrs g ∧ zkd g r = kd
theorem zpc_obj {g : ZG} {μ : ZMem} {ci r : Nat} (h : zO g ci r) (hc : ci < 8) : zpc g μ r = .inr (ci, zfs g μ r ci) := by
  unfold zpc
  rw [h.2, if_pos hc]
theorem zpc_arr {g : ZG} {μ : ZMem} {kd r : Nat} (h : zO g kd r) (hc : 8 ≤ kd) : zpc g μ r = .inl (zcy g kd, zln g r, zpay g μ r kd) := by
  unfold zpc
  rw [h.2, if_neg (Nat.not_lt.mpr hc)]
theorem zws_at {g : ZG} {r : Nat} (h : r ∈ zrs g) : ∃ k : Nat, (zrs g)[k]? = some r ∧ ∀ μ : ZMem, (zws g μ)[k]? = some (zad g r, zpc g μ r) := by
  obtain ⟨k, hk⟩ := List.getElem?_of_mem h
  refine ⟨k, hk, fun μ => ?_⟩
  unfold zws
  rw [List.getElem?_map, hk]
  rfl
theorem zAp_inj {g : ZG} (hA : zAp g) {r r' : Nat} (h : r ∈ zrs g) (h' : r' ∈ zrs g) (e : zad g r = zad g r') : r = r' := by
  obtain ⟨i, hi⟩ := List.getElem?_of_mem h
  obtain ⟨j, hj⟩ := List.getElem?_of_mem h'
  have := hA i j r r' hi hj e
  subst this
  exact Option.some.inj (hi.symm.trans hj)
theorem zws_D {g : ZG} (hA : zAp g) (μ : ZMem) : va_D (zRg g) (zws g μ) := by
  refine ⟨fun i j p q hi hj e => ?_, fun k q hk => ?_⟩
  · unfold zws at hi hj
    rw [List.getElem?_map] at hi hj
    obtain ⟨r, hr, rfl⟩ := Option.map_eq_some_iff.mp hi
    obtain ⟨r', hr', rfl⟩ := Option.map_eq_some_iff.mp hj
    exact hA i j r r' hr hr' e
  · unfold zws at hk
    rw [List.getElem?_map] at hk
    obtain ⟨r, hr, rfl⟩ := Option.map_eq_some_iff.mp hk
    exact ⟨r, List.mem_of_getElem? hr, rfl⟩
theorem zws_set {g : ZG} (hA : zAp g) {μ μ' : ZMem} {k r : Nat} {e : va_E} (hk : (zrs g)[k]? = some r) (ho : ∀ r', r' ≠ r → zpc g μ' r' = zpc g μ r') (he : zpc g μ' r = e) : (zws g μ).set k (zad g r, e) = zws g μ' := by
  apply List.ext_getElem?
  intro j
  unfold zws
  rw [List.getElem?_set, List.getElem?_map, List.getElem?_map, List.length_map]
  by_cases hj : k = j
  · subst hj
    rw [if_pos rfl, if_pos (List.getElem?_eq_some_iff.mp hk).1, hk, ← he]
    rfl
  · rw [if_neg hj]
    cases hr : (zrs g)[j]? with
    | none => rfl
    | some r' =>
      have hne : r' ≠ r := fun q => hj (hA k j r r' hk hr (by rw [q]))
      show some (zad g r', zpc g μ r') = some (zad g r', zpc g μ' r')
      rw [ho r' hne]
theorem zpc_row {g : ZG} {μ μ' : ZMem} {r : Nat} (h1 : zI μ' r = zI μ r) (h2 : zL μ' r = zL μ r) (h3 : zD μ' r = zD μ r) (h4 : zR μ' r = zR μ r) : zpc g μ' r = zpc g μ r := by
  have e : ∀ k t, zsv g μ' r k t = zsv g μ r k t := by
    intro k t
    cases t <;> simp only [zsv, h1, h2, h3, h4]
  have e2 : ∀ ci, zfs g μ' r ci = zfs g μ r ci := by
    intro ci
    unfold zfs
    exact List.map_congr_left (fun k _ => e k _)
  have e3 : ∀ kd, zpay g μ' r kd = zpay g μ r kd := by
    intro kd
    unfold zpay
    rw [h1, h2, h3, h4]
  unfold zpc
  rw [e2, e3]
theorem zset_map (n k : Nat) (f f' : Nat → Value) (v : Value) (hk : f' k = v) (ho : ∀ j, j ≠ k → f' j = f j) : ((List.range n).map f).set k v = (List.range n).map f' := by
  apply List.ext_getElem?
  intro j
  rw [List.getElem?_set, List.getElem?_map, List.getElem?_map, List.length_map, List.length_range]
  by_cases hj : k = j
  · subst hj
    rw [if_pos rfl]
    by_cases hn : k < n
    · rw [if_pos hn, List.getElem?_range hn]
      show _ = some (f' k)
      rw [hk]
    · rw [if_neg hn, List.getElem?_eq_none (by rw [List.length_range]; omega)]
      rfl
  · rw [if_neg hj]
    cases hr : (List.range n)[j]? with
    | none => rfl
    | some i =>
      have : i = j := by
        have h1 := (List.getElem?_eq_some_iff.mp hr)
        obtain ⟨h2, h3⟩ := h1
        rw [List.getElem_range] at h3
        exact h3.symm
      subst this
      show some _ = some _
      rw [ho i (fun q => hj q.symm)]
theorem zfs_get {g : ZG} {μ : ZMem} {r ci k : Nat} (hk : k < znf ci) : (zfs g μ r ci)[k]? = some (zsv g μ r k (zft ci k)) := by
  unfold zfs
  rw [List.getElem?_map, List.getElem?_range hk]
  rfl
theorem zfs_len (g : ZG) (μ : ZMem) (r ci : Nat) : (zfs g μ r ci).length = znf ci := by
  unfold zfs
  rw [List.length_map, List.length_range]
theorem zfs_sI {g : ZG} {μ : ZMem} {r ci k : Nat} {v : Int32} (ht : zft ci k = .int ∨ zft ci k = .boolean) : (zfs g μ r ci).set k (.int v) = zfs g (zsI μ r k v) r ci := by
  unfold zfs
  apply zset_map
  · rcases ht with h | h <;> rw [h] <;> show Value.int (zup μ.1 r k v r k) = _ <;> rw [zup_same]
  · intro j hj
    cases zft ci j <;> first | rfl | (show Value.int (zup μ.1 r k v r j) = _; rw [zup_ne _ _ (fun q => hj q.2)]; rfl)
theorem zfs_sL {g : ZG} {μ : ZMem} {r ci k : Nat} {v : Int64} (ht : zft ci k = .long) : (zfs g μ r ci).set k (.long v) = zfs g (zsL μ r k v) r ci := by
  unfold zfs
  apply zset_map
  · rw [ht]; show Value.long (zup μ.2.1 r k v r k) = _; rw [zup_same]
  · intro j hj
    cases zft ci j <;> first | rfl | (show Value.long (zup μ.2.1 r k v r j) = _; rw [zup_ne _ _ (fun q => hj q.2)]; rfl)
theorem zfs_sD {g : ZG} {μ : ZMem} {r ci k : Nat} {v : UInt64} (ht : zft ci k = .double) : (zfs g μ r ci).set k (.double v) = zfs g (zsD μ r k v) r ci := by
  unfold zfs
  apply zset_map
  · rw [ht]; show Value.double (zup μ.2.2.1 r k v r k) = _; rw [zup_same]
  · intro j hj
    cases zft ci j <;> first | rfl | (show Value.double (zup μ.2.2.1 r k v r j) = _; rw [zup_ne _ _ (fun q => hj q.2)]; rfl)
def zref (t : FieldType) : Bool := match t with
  | .object _ => true
  | .array _ => true
  | _ => false
theorem zfs_sR {g : ZG} {μ : ZMem} {r ci k : Nat} {v : Option Nat} (ht : zref (zft ci k) = true) : (zfs g μ r ci).set k (va_rf (v.map (zad g))) = zfs g (zsR μ r k v) r ci := by
  unfold zfs
  apply zset_map
  · have e : zsv g (zsR μ r k v) r k (zft ci k) = va_rf ((zup μ.2.2.2 r k v r k).map (zad g)) := by
      revert ht
      cases zft ci k <;> intro ht <;> first | rfl | (exact absurd ht (by decide))
    rw [e, zup_same]
  · intro j hj
    cases zft ci j <;> first | rfl | (show va_rf ((zup μ.2.2.2 r k v r j).map (zad g)) = _; rw [zup_ne _ _ (fun q => hj q.2)]; rfl)
theorem zpc_oI {g : ZG} {μ : ZMem} {r k : Nat} {v : Int32} : ∀ r', r' ≠ r → zpc g (zsI μ r k v) r' = zpc g μ r' := fun r' h => zpc_row (zup_row _ _ _ h) rfl rfl rfl
theorem zpc_oL {g : ZG} {μ : ZMem} {r k : Nat} {v : Int64} : ∀ r', r' ≠ r → zpc g (zsL μ r k v) r' = zpc g μ r' := fun r' h => zpc_row rfl (zup_row _ _ _ h) rfl rfl
theorem zpc_oD {g : ZG} {μ : ZMem} {r k : Nat} {v : UInt64} : ∀ r', r' ≠ r → zpc g (zsD μ r k v) r' = zpc g μ r' := fun r' h => zpc_row rfl rfl (zup_row _ _ _ h) rfl
theorem zpc_oR {g : ZG} {μ : ZMem} {r k : Nat} {v : Option Nat} : ∀ r', r' ≠ r → zpc g (zsR μ r k v) r' = zpc g μ r' := fun r' h => zpc_row rfl rfl rfl (zup_row _ _ _ h)
end
section
/-! the abstract machine: locals and stack by value, doubles up to a NaN's bits, references by role -/
abbrev ZV : Type := Int32 ⊕ (Int64 ⊕ (UInt64 ⊕ Option Nat))
abbrev zi (x : Int32) : ZV := .inl x
abbrev zl (x : Int64) : ZV := .inr (.inl x)
abbrev zd (x : UInt64) : ZV := .inr (.inr (.inl x))
abbrev zr (x : Option Nat) : ZV := .inr (.inr (.inr x))
def zc2 : ZV → Bool
  | .inl _ => false
  | .inr (.inl _) => true
  | .inr (.inr (.inl _)) => true
  | .inr (.inr (.inr _)) => false
def zRv (g : ZG) (a : Value) : ZV → Prop
  | .inl x => a = .int x
  | .inr (.inl x) => a = .long x
  | .inr (.inr (.inl x)) => ∃ y, a = .double y ∧ zcn y = x
  | .inr (.inr (.inr x)) => a = va_rf (x.map (zad g))
def zSR (g : ZG) : List Value → List ZV → Prop
  | [], [] => True
  | a :: as, v :: vs => zRv g a v ∧ zSR g as vs
  | _, _ => False
theorem zSR_cons {g : ZG} {as : List Value} {v : ZV} {vs : List ZV} (h : zSR g as (v :: vs)) : ∃ a as', as = a :: as' ∧ zRv g a v ∧ zSR g as' vs := by
  cases as with
  | nil => exact h.elim
  | cons a as => exact ⟨a, as, rfl, h.1, h.2⟩
theorem zSR_nil {g : ZG} {as : List Value} (h : zSR g as []) : as = [] := by
  cases as with
  | nil => rfl
  | cons a as => exact h.elim
theorem zSR_app {g : ZG} : ∀ {as : List Value} {us vs : List ZV}, zSR g as (us ++ vs) → ∃ a1 a2, as = a1 ++ a2 ∧ zSR g a1 us ∧ zSR g a2 vs
  | as, [], vs, h => ⟨[], as, rfl, trivial, h⟩
  | [], u :: us, vs, h => h.elim
  | a :: as, u :: us, vs, h => by
    obtain ⟨a1, a2, e, h1, h2⟩ := zSR_app (us := us) h.2
    exact ⟨a :: a1, a2, by rw [e]; rfl, ⟨h.1, h1⟩, h2⟩
theorem zSR_cat {g : ZG} : ∀ {a1 a2 : List Value} {us vs : List ZV}, zSR g a1 us → zSR g a2 vs → zSR g (a1 ++ a2) (us ++ vs)
  | [], a2, [], vs, _, h2 => h2
  | [], _, _ :: _, _, h1, _ => h1.elim
  | _ :: _, _, [], _, h1, _ => h1.elim
  | a :: a1, a2, u :: us, vs, h1, h2 => ⟨h1.1, zSR_cat h1.2 h2⟩
theorem zSR_rev {g : ZG} : ∀ {as : List Value} {vs : List ZV}, zSR g as vs → zSR g as.reverse vs.reverse
  | [], [], _ => trivial
  | [], _ :: _, h => h.elim
  | _ :: _, [], h => h.elim
  | a :: as, v :: vs, h => by
    rw [List.reverse_cons, List.reverse_cons]
    exact zSR_cat (zSR_rev h.2) ⟨h.1, trivial⟩
theorem zSR_len {g : ZG} : ∀ {as : List Value} {vs : List ZV}, zSR g as vs → as.length = vs.length
  | [], [], _ => rfl
  | [], _ :: _, h => h.elim
  | _ :: _, [], h => h.elim
  | a :: as, v :: vs, h => by rw [List.length_cons, List.length_cons, zSR_len h.2]
theorem zRv_cat {g : ZG} {a : Value} : ∀ {v : ZV}, zRv g a v → (a.category = 2 ↔ zc2 v = true)
  | .inl x, h => by cases h; exact ⟨fun q => absurd (show (1 : Nat) = 2 from q) (by decide), fun q => absurd (show false = true from q) (by decide)⟩
  | .inr (.inl x), h => by cases h; exact ⟨fun _ => rfl, fun _ => rfl⟩
  | .inr (.inr (.inl x)), h => by obtain ⟨y, rfl, -⟩ := h; exact ⟨fun _ => rfl, fun _ => rfl⟩
  | .inr (.inr (.inr x)), h => by
    have e : a = va_rf (x.map (zad g)) := h
    subst e
    cases x <;> exact ⟨fun q => absurd (show (1 : Nat) = 2 from q) (by decide), fun q => absurd (show false = true from q) (by decide)⟩
theorem zRv_cat1 {g : ZG} {a : Value} : ∀ {v : ZV}, zRv g a v → zc2 v = false → a.category = 1
  | .inl x, h, _ => by cases h; rfl
  | .inr (.inl x), _, q => absurd q (by simp [zc2])
  | .inr (.inr (.inl x)), _, q => absurd q (by simp [zc2])
  | .inr (.inr (.inr x)), h, _ => by
    have e : a = va_rf (x.map (zad g)) := h
    subst e
    cases x <;> rfl
abbrev ZLS : Type := Nat → Option ZV
def zLR (g : ZG) (sl : Array Slot) (nL : Nat) (ls : ZLS) : Prop := ∃ lv : List (Nat × Value), lv_has sl nL lv ∧ ∀ (j : Nat) (v : ZV), ls j = some v → ∃ a, (j, a) ∈ lv ∧ zRv g a v
/-- a place of one word, or of two, is written -/
def zst1 (ls : ZLS) (i : Nat) (v : ZV) : ZLS := fun j => if j = i then some v else if j + 1 = i then (match ls j with | some w => (if zc2 w = true then none else some w) | none => none) else ls j
def zst2 (ls : ZLS) (i : Nat) (v : ZV) : ZLS := fun j => if j = i then some v else if j = i + 1 then none else if j + 1 = i then (match ls j with | some w => (if zc2 w = true then none else some w) | none => none) else ls j
def zarg : Nat → List ZV → ZLS
  | _, [] => fun _ => none
  | k, v :: vs => fun j => if j = k then some v else zarg (if zc2 v = true then k + 2 else k + 1) vs j
theorem zarg_in {g : ZG} : ∀ {as : List Value} {vs : List ZV} (k : Nat), zSR g as vs → ∀ (j : Nat) (v : ZV), zarg k vs j = some v → ∃ a, (j, a) ∈ lv_args k as ∧ zRv g a v
  | [], [], _, _, j, v, q => by cases q
  | [], _ :: _, _, h, _, _, _ => h.elim
  | _ :: _, [], _, h, _, _, _ => h.elim
  | a :: as, u :: us, k, h, j, v, q => by
    unfold zarg at q
    unfold lv_args
    by_cases hj : j = k
    · rw [if_pos hj] at q
      cases q
      subst hj
      exact ⟨a, List.mem_cons_self, h.1⟩
    · rw [if_neg hj] at q
      have e : (if zc2 u = true then k + 2 else k + 1) = (if a.category = 2 then k + 2 else k + 1) := by
        by_cases hc : a.category = 2
        · rw [if_pos hc, if_pos ((zRv_cat h.1).mp hc)]
        · rw [if_neg hc, if_neg (fun q => hc ((zRv_cat h.1).mpr q))]
      rw [e] at q
      obtain ⟨b, hb, hr⟩ := zarg_in _ h.2 j v q
      exact ⟨b, List.mem_cons_of_mem _ hb, hr⟩
theorem zLR_get {g : ZG} {sl : Array Slot} {nL : Nat} {ls : ZLS} (h : zLR g sl nL ls) {i : Nat} {v : ZV} (hv : ls i = some v) : ∃ a, sl[i]? = some (.val a) ∧ zRv g a v := by
  obtain ⟨lv, h1, h2⟩ := h
  obtain ⟨a, ha, hr⟩ := h2 i v hv
  exact ⟨a, h1.2.2 _ ha, hr⟩
theorem zLR_sub {g : ZG} {sl : Array Slot} {nL : Nat} {ls ls' : ZLS} (h : zLR g sl nL ls) (hs : ∀ j v, ls' j = some v → ls j = some v) : zLR g sl nL ls' := by
  obtain ⟨lv, h1, h2⟩ := h
  exact ⟨lv, h1, fun j v q => h2 j v (hs j v q)⟩
theorem zLR_st1 {g : ZG} {sl : Array Slot} {nL : Nat} {ls : ZLS} {lv : List (Nat × Value)} (h2 : ∀ (j : Nat) (v : ZV), ls j = some v → ∃ a, (j, a) ∈ lv ∧ zRv g a v) {i : Nat} {a : Value} {v : ZV} (ha : zRv g a v)
    (h : lv_has sl nL ((i, a) :: lv.filter (fun q => !(q.1 == i) && !(q.1 + 1 == i && q.2.category == 2)))) : zLR g sl nL (zst1 ls i v) := by
  refine ⟨_, h, fun j w q => ?_⟩
  unfold zst1 at q
  by_cases hj : j = i
  · rw [if_pos hj] at q
    cases q
    subst hj
    exact ⟨a, List.mem_cons_self, ha⟩
  · rw [if_neg hj] at q
    by_cases hj1 : j + 1 = i
    · rw [if_pos hj1] at q
      cases hls : ls j with
      | none => rw [hls] at q; cases q
      | some w' =>
        rw [hls] at q
        by_cases hc : zc2 w' = true
        · simp [hc] at q
        · simp [hc] at q
          subst q
          obtain ⟨b, hb, hr⟩ := h2 j w' hls
          refine ⟨b, List.mem_cons_of_mem _ (List.mem_filter.mpr ⟨hb, ?_⟩), hr⟩
          have hb2 : ¬ b.category = 2 := fun z => hc ((zRv_cat hr).mp z)
          simp [hj, hb2]
    · rw [if_neg hj1] at q
      obtain ⟨b, hb, hr⟩ := h2 j w q
      refine ⟨b, List.mem_cons_of_mem _ (List.mem_filter.mpr ⟨hb, ?_⟩), hr⟩
      simp [hj, hj1]
theorem zLR_st2 {g : ZG} {sl : Array Slot} {nL : Nat} {ls : ZLS} {lv : List (Nat × Value)} (h2 : ∀ (j : Nat) (v : ZV), ls j = some v → ∃ a, (j, a) ∈ lv ∧ zRv g a v) {i : Nat} {a : Value} {v : ZV} (ha : zRv g a v)
    (h : lv_has sl nL ((i, a) :: lv.filter (fun q => !(q.1 == i) && (!(q.1 == i + 1) && !(q.1 + 1 == i && q.2.category == 2))))) : zLR g sl nL (zst2 ls i v) := by
  refine ⟨_, h, fun j w q => ?_⟩
  unfold zst2 at q
  by_cases hj : j = i
  · rw [if_pos hj] at q
    cases q
    subst hj
    exact ⟨a, List.mem_cons_self, ha⟩
  · rw [if_neg hj] at q
    by_cases hj2 : j = i + 1
    · rw [if_pos hj2] at q
      cases q
    · rw [if_neg hj2] at q
      by_cases hj1 : j + 1 = i
      · rw [if_pos hj1] at q
        cases hls : ls j with
        | none => rw [hls] at q; cases q
        | some w' =>
          rw [hls] at q
          by_cases hc : zc2 w' = true
          · simp [hc] at q
          · simp [hc] at q
            subst q
            obtain ⟨b, hb, hr⟩ := h2 j w' hls
            refine ⟨b, List.mem_cons_of_mem _ (List.mem_filter.mpr ⟨hb, ?_⟩), hr⟩
            have hb2 : ¬ b.category = 2 := fun z => hc ((zRv_cat hr).mp z)
            simp [hj, hj2, hb2]
      · rw [if_neg hj1] at q
        obtain ⟨b, hb, hr⟩ := h2 j w q
        refine ⟨b, List.mem_cons_of_mem _ (List.mem_filter.mpr ⟨hb, ?_⟩), hr⟩
        simp [hj, hj1, hj2]
def lw_good : List Cond := lw_tbl.filter goodWord
def znest : List (String × Nat × MethodName × String) := [(RX5, 76, yX6_saw, RX6), (RX5, 64, yX6_sizeOf, RX6), (RX3, 26, yX6_saw, RX6), (RX1, 61, yX6_sizeOf, RX6), (RX0, 70, yX6_sizeOf, RX6)]
def zNst (U : State) : Prop := ∀ q ∈ znest, va_Nw (.methodLinkNest q.1 q.2.1 q.2.2.1 q.2.2.2) U
def zZs (g : ZG) (U : State) (H : Heap) : Prop := va_Z "java/lang/Math" "negativeZeroDoubleBits" "J" (.long (-9223372036854775808)) (zRg g) U H
/-- what a method's walk is about: its class, code, locals, type, room, and what is to be answered and left -/
abbrev ZK : Type := String × ByteArray × Nat × Option FieldType × Room × Option ZV × ZMem
abbrev zKo (K : ZK) : String := K.1
abbrev zKc (K : ZK) : ByteArray := K.2.1
abbrev zKn (K : ZK) : Nat := K.2.2.1
abbrev zKr (K : ZK) : Option FieldType := K.2.2.2.1
abbrev zKR (K : ZK) : Room := K.2.2.2.2.1
abbrev zKa (K : ZK) : Option ZV := K.2.2.2.2.2.1
abbrev zKm (K : ZK) : ZMem := K.2.2.2.2.2.2
def zRo (g : ZG) : Option Value → Option ZV → Prop
  | none, none => True
  | some a, some v => zRv g a v
  | _, _ => False
def zQC (g : ZG) (res : Option ZV) (μ' : ZMem) : Array Value → State → Outcome → State → Prop := fun _ st oc t => (∃ (w : Option Value) (μr : ZMem), oc = .returned w ∧ zRo g w res ∧ zcM μr = μ' ∧ va_P (zgD g) vwCl (zws g μr) t.heap) ∧ va_F (zRg g) st t
def zCX (g : ZG) (K : ZK) (p : Program) (s : State) (m : MethodId) (args : Array Value) (meth : Method) (c : Code) : Prop :=
  p.tables.exec = Jvm.exec ∧ c.code = zKc K ∧ c.maxLocals = zKn K ∧ s.vm.findClass (zKo K) = some m.cls ∧ (∀ w ∈ lw_good, w.before args s = true) ∧ meth.sig.returnType = zKr K ∧ meth.locks = false ∧ va_K (zgD g) vwCl (ztys g) s ∧ zAp g ∧ zNst s ∧ zZs g s s.heap
def zWA (g : ZG) (K : ZK) (pc : Nat) (ls : ZLS) (st : List ZV) (μ : ZMem) : Prop :=
  ∀ (l : Launch) (p : Program) (e : Env) (s : State) (m : MethodId) (args : Array Value) (below : List Frame) (meth : Method) (c : Code), zCX g K p s m args meth c →
  ∀ (d : Drawn) (H : Heap) (locs : List Loc) (sl : Array Slot) (stk : List Value) (μr : ZMem), s.drawn.sameBut d lw_cs → va_S (zRg g) s.heap H locs → va_P (zgD g) vwCl (zws g μr) H → zcM μr = μ → zLR g sl (zKn K) ls → zSR g stk st →
  W p l e (zKR K) (s.setDrawn d) m args below meth c H locs 0 0 (MQD lw_cs below (zQC g (zKa K) (zKm K)) args s 0 0 (zRg g)) (F0 m pc sl stk)
/-- fewer locals -/
theorem zWA_sub {g : ZG} {K : ZK} {pc : Nat} {ls ls' : ZLS} {st : List ZV} {μ : ZMem} (hs : ∀ j v, ls' j = some v → ls j = some v) (k : zWA g K pc ls' st μ) : zWA g K pc ls st μ :=
  fun l p e s m args below meth c C d H locs sl stk μr hd hS hP hμ hL hT => k l p e s m args below meth c C d H locs sl stk μr hd hS hP hμ (zLR_sub hL hs) hT
/-- locals as a list, and that they are there -/
def zls : List (Nat × ZV) → ZLS
  | [] => fun _ => none
  | q :: t => fun j => if j = q.1 then some q.2 else zls t j
def zhas (ls : ZLS) : List (Nat × ZV) → Prop
  | [] => True
  | q :: t => ls q.1 = some q.2 ∧ zhas ls t
theorem zhas_sub {ls : ZLS} : ∀ {t : List (Nat × ZV)}, zhas ls t → ∀ j v, zls t j = some v → ls j = some v
  | [], _, j, v, q => by cases q
  | x :: t, h, j, v, q => by
    unfold zls at q
    by_cases hj : j = x.1
    · rw [if_pos hj] at q
      cases q
      rw [hj]
      exact h.1
    · rw [if_neg hj] at q
      exact zhas_sub h.2 j v q
theorem zWA_to {g : ZG} {K : ZK} {pc : Nat} {ls : ZLS} {t : List (Nat × ZV)} {st : List ZV} {μ : ZMem} (k : zWA g K pc (zls t) st μ) (h : zhas ls t) : zWA g K pc ls st μ := zWA_sub (zhas_sub h) k
/-- a method's contract -/
def zCab (g : ZG) (own : String) (y : MethodName) (cc : ByteArray) (nL : Nat) (ret : Option FieldType) (R : Room) (As : List ZV) (μ : ZMem) (res : Option ZV) (μ' : ZMem) : Prop :=
  zAp g → ∀ (l : Launch) (as : List Value) (μr : ZMem), zSR g as As → zcM μr = μ → MetD lw_cs l y (.code y cc nL ret :: lw_good) R (va_Pc as (fun U => va_P (zgD g) vwCl (zws g μr) U.heap ∧ va_K (zgD g) vwCl (ztys g) U ∧ zNst U ∧ zZs g U U.heap)) (zQC g res μ') 0 0 (zRg g)
theorem zMetD {l : Launch} {y : MethodName} {ws ws' : List Cond} {rm : Room} {Pc : Array Value → State → Prop} {Qc : Array Value → State → Outcome → State → Prop} {mc ms : Nat} {free : Addr → Prop} {cc : ByteArray} {maxL : Nat} {ret : Option FieldType}
    (hy : plainFor y = true) (hw : ws = Cond.code y cc maxL ret :: ws')
    (body : ∀ p e s m args below meth c s₁, BodyLoose p l y (headSpec ws rm) cc maxL ret e s m args below meth c s₁ → c.maxLocals = maxL → Pc args s → s.drawn.sameBut s.drawn lw_cs →
      W p l e (headSpec ws rm).room (s.setDrawn s.drawn) m args below meth c s.heap [] 0 0 (MQD lw_cs below Qc args s mc ms free) (entryFrame m args maxL)) : MetD lw_cs l y ws rm Pc Qc mc ms free := by
  refine MetFree.of_bodySF (code := cc) (maxLocals := maxL) (ret := ret) hy ?_ ?_
  · intro args s m h hn
    obtain ⟨meth, c, h1, h2, h3, h4, h5, h6, -, -⟩ := Cond.code_spec hn (atoms_spec (ws := ws) h _ (by rw [hw]; exact List.mem_cons_self))
    exact ⟨meth, c, h1, h2, h3, h4, h5, h6⟩
  · intro p e s m args below meth c s₁ B hml hP _
    have hh0 : s₁.heap = s.heap := by rw [B.state]; rfl
    have X0 : Stand p l e (headSpec ws rm).room (s.setDrawn s.drawn) m args below meth c s₁ [] 0 0 := Stand.of_body B
    obtain ⟨t, a1, d, hd, oc, b1, b2, b3, b4⟩ := body p e s m args below meth c s₁ B hml hP (Drawn.sameBut.refl _ _) s₁ hh0 X0
    exact ⟨t, oc, a1, b1, b2, d, hd, b3, b4⟩
theorem zCab_of {g : ZG} {own : String} {y : MethodName} {cc : ByteArray} {nL : Nat} {ret : Option FieldType} {R : Room} {As : List ZV} {μ : ZMem} {res : Option ZV} {μ' : ZMem} (hy : plainFor y = true) (ho : own = y.cls) (hn : ∀ as, zSR g as As → (lg_sl as).length ≤ nL)
    (h : zWA g (own, cc, nL, ret, R, res, μ') 0 (zarg 0 As) [] μ) : zCab g own y cc nL ret R As μ res μ' := by
  intro hA l as μr hSR hμ
  refine zMetD (cc := cc) (maxL := nL) (ret := ret) hy rfl ?_
  intro p e s m args below meth c s₁ B hml hv hd0
  obtain ⟨rfl, hP, hK, hN, hZ⟩ := hv
  have hts := atoms_spec (ws := .code y cc nL ret :: lw_good) B.pre
  have hown : s.vm.findClass own = some m.cls := by rw [ho]; exact findClass_of_methodNamed B.named
  have hl := lv_entry as (n := nL) (hn as hSR)
  rw [lg_entry_eq]
  exact h l p e s m _ below meth c ⟨B.exec, B.bytes, hml, hown, fun w hw => hts w (List.mem_cons_of_mem _ hw), B.returns, B.notSynchronized, hK, hA, hN, hZ⟩ s.drawn s.heap [] _ [] μr hd0 va_S.rf hP hμ ⟨_, hl, zarg_in 0 hSR⟩ trivial

theorem zx_iadd {g : ZG} {K : ZK} {pc : Nat} {ls : ZLS} {st : List ZV} {μ : ZMem} {x y : Int32} (hd : decode (zKc K) pc = .ok (.iadd, 1))  (k : zWA g K (pc + 1) ls (zi (x + y) :: st) μ) : zWA g K (pc) ls (zi y :: zi x :: st) μ := by
  intro l p e s m args below meth c C d H locs sl stk μr hd0 hS hP hμ hL hT
  obtain ⟨a1, stkh1, rfl, h1, hT1⟩ := zSR_cons hT
  cases h1
  obtain ⟨a2, stkh2, rfl, h2, hT2⟩ := zSR_cons hT1
  cases h2
  exact lv_iadd C.1 C.2.1 hd  (k l p e s m args below meth c C d H locs sl _ μr hd0 hS hP hμ hL ⟨rfl, hT2⟩)
theorem zx_isub {g : ZG} {K : ZK} {pc : Nat} {ls : ZLS} {st : List ZV} {μ : ZMem} {x y : Int32} (hd : decode (zKc K) pc = .ok (.isub, 1))  (k : zWA g K (pc + 1) ls (zi (x - y) :: st) μ) : zWA g K (pc) ls (zi y :: zi x :: st) μ := by
  intro l p e s m args below meth c C d H locs sl stk μr hd0 hS hP hμ hL hT
  obtain ⟨a1, stkh1, rfl, h1, hT1⟩ := zSR_cons hT
  cases h1
  obtain ⟨a2, stkh2, rfl, h2, hT2⟩ := zSR_cons hT1
  cases h2
  exact lv_isub C.1 C.2.1 hd  (k l p e s m args below meth c C d H locs sl _ μr hd0 hS hP hμ hL ⟨rfl, hT2⟩)
theorem zx_imul {g : ZG} {K : ZK} {pc : Nat} {ls : ZLS} {st : List ZV} {μ : ZMem} {x y : Int32} (hd : decode (zKc K) pc = .ok (.imul, 1))  (k : zWA g K (pc + 1) ls (zi (x * y) :: st) μ) : zWA g K (pc) ls (zi y :: zi x :: st) μ := by
  intro l p e s m args below meth c C d H locs sl stk μr hd0 hS hP hμ hL hT
  obtain ⟨a1, stkh1, rfl, h1, hT1⟩ := zSR_cons hT
  cases h1
  obtain ⟨a2, stkh2, rfl, h2, hT2⟩ := zSR_cons hT1
  cases h2
  exact lv_imul C.1 C.2.1 hd  (k l p e s m args below meth c C d H locs sl _ μr hd0 hS hP hμ hL ⟨rfl, hT2⟩)
theorem zx_iand {g : ZG} {K : ZK} {pc : Nat} {ls : ZLS} {st : List ZV} {μ : ZMem} {x y : Int32} (hd : decode (zKc K) pc = .ok (.iand, 1))  (k : zWA g K (pc + 1) ls (zi (x &&& y) :: st) μ) : zWA g K (pc) ls (zi y :: zi x :: st) μ := by
  intro l p e s m args below meth c C d H locs sl stk μr hd0 hS hP hμ hL hT
  obtain ⟨a1, stkh1, rfl, h1, hT1⟩ := zSR_cons hT
  cases h1
  obtain ⟨a2, stkh2, rfl, h2, hT2⟩ := zSR_cons hT1
  cases h2
  exact lv_iand C.1 C.2.1 hd  (k l p e s m args below meth c C d H locs sl _ μr hd0 hS hP hμ hL ⟨rfl, hT2⟩)
theorem zx_idiv {g : ZG} {K : ZK} {pc : Nat} {ls : ZLS} {st : List ZV} {μ : ZMem} {x y : Int32} (hd : decode (zKc K) pc = .ok (.idiv, 1)) (hne : ¬ y = 0) (k : zWA g K (pc + 1) ls (zi (x / y) :: st) μ) : zWA g K (pc) ls (zi y :: zi x :: st) μ := by
  intro l p e s m args below meth c C d H locs sl stk μr hd0 hS hP hμ hL hT
  obtain ⟨a1, stkh1, rfl, h1, hT1⟩ := zSR_cons hT
  cases h1
  obtain ⟨a2, stkh2, rfl, h2, hT2⟩ := zSR_cons hT1
  cases h2
  exact lv_idiv C.1 C.2.1 hd hne (k l p e s m args below meth c C d H locs sl _ μr hd0 hS hP hμ hL ⟨rfl, hT2⟩)
theorem zx_irem {g : ZG} {K : ZK} {pc : Nat} {ls : ZLS} {st : List ZV} {μ : ZMem} {x y : Int32} (hd : decode (zKc K) pc = .ok (.irem, 1)) (hne : ¬ y = 0) (k : zWA g K (pc + 1) ls (zi (x - x / y * y) :: st) μ) : zWA g K (pc) ls (zi y :: zi x :: st) μ := by
  intro l p e s m args below meth c C d H locs sl stk μr hd0 hS hP hμ hL hT
  obtain ⟨a1, stkh1, rfl, h1, hT1⟩ := zSR_cons hT
  cases h1
  obtain ⟨a2, stkh2, rfl, h2, hT2⟩ := zSR_cons hT1
  cases h2
  exact lv_irem C.1 C.2.1 hd hne (k l p e s m args below meth c C d H locs sl _ μr hd0 hS hP hμ hL ⟨rfl, hT2⟩)
theorem zx_ladd {g : ZG} {K : ZK} {pc : Nat} {ls : ZLS} {st : List ZV} {μ : ZMem} {x y : Int64} (hd : decode (zKc K) pc = .ok (.ladd, 1))  (k : zWA g K (pc + 1) ls (zl (x + y) :: st) μ) : zWA g K (pc) ls (zl y :: zl x :: st) μ := by
  intro l p e s m args below meth c C d H locs sl stk μr hd0 hS hP hμ hL hT
  obtain ⟨a1, stkh1, rfl, h1, hT1⟩ := zSR_cons hT
  cases h1
  obtain ⟨a2, stkh2, rfl, h2, hT2⟩ := zSR_cons hT1
  cases h2
  exact lv_ladd C.1 C.2.1 hd  (k l p e s m args below meth c C d H locs sl _ μr hd0 hS hP hμ hL ⟨rfl, hT2⟩)
theorem zx_lsub {g : ZG} {K : ZK} {pc : Nat} {ls : ZLS} {st : List ZV} {μ : ZMem} {x y : Int64} (hd : decode (zKc K) pc = .ok (.lsub, 1))  (k : zWA g K (pc + 1) ls (zl (x - y) :: st) μ) : zWA g K (pc) ls (zl y :: zl x :: st) μ := by
  intro l p e s m args below meth c C d H locs sl stk μr hd0 hS hP hμ hL hT
  obtain ⟨a1, stkh1, rfl, h1, hT1⟩ := zSR_cons hT
  cases h1
  obtain ⟨a2, stkh2, rfl, h2, hT2⟩ := zSR_cons hT1
  cases h2
  exact lv_lsub C.1 C.2.1 hd  (k l p e s m args below meth c C d H locs sl _ μr hd0 hS hP hμ hL ⟨rfl, hT2⟩)
theorem zx_lmul {g : ZG} {K : ZK} {pc : Nat} {ls : ZLS} {st : List ZV} {μ : ZMem} {x y : Int64} (hd : decode (zKc K) pc = .ok (.lmul, 1))  (k : zWA g K (pc + 1) ls (zl (x * y) :: st) μ) : zWA g K (pc) ls (zl y :: zl x :: st) μ := by
  intro l p e s m args below meth c C d H locs sl stk μr hd0 hS hP hμ hL hT
  obtain ⟨a1, stkh1, rfl, h1, hT1⟩ := zSR_cons hT
  cases h1
  obtain ⟨a2, stkh2, rfl, h2, hT2⟩ := zSR_cons hT1
  cases h2
  exact lv_lmul C.1 C.2.1 hd  (k l p e s m args below meth c C d H locs sl _ μr hd0 hS hP hμ hL ⟨rfl, hT2⟩)
theorem zx_land {g : ZG} {K : ZK} {pc : Nat} {ls : ZLS} {st : List ZV} {μ : ZMem} {x y : Int64} (hd : decode (zKc K) pc = .ok (.land, 1))  (k : zWA g K (pc + 1) ls (zl (x &&& y) :: st) μ) : zWA g K (pc) ls (zl y :: zl x :: st) μ := by
  intro l p e s m args below meth c C d H locs sl stk μr hd0 hS hP hμ hL hT
  obtain ⟨a1, stkh1, rfl, h1, hT1⟩ := zSR_cons hT
  cases h1
  obtain ⟨a2, stkh2, rfl, h2, hT2⟩ := zSR_cons hT1
  cases h2
  exact lv_land C.1 C.2.1 hd  (k l p e s m args below meth c C d H locs sl _ μr hd0 hS hP hμ hL ⟨rfl, hT2⟩)
theorem zx_ldiv {g : ZG} {K : ZK} {pc : Nat} {ls : ZLS} {st : List ZV} {μ : ZMem} {x y : Int64} (hd : decode (zKc K) pc = .ok (.ldiv, 1)) (hne : ¬ y = 0) (k : zWA g K (pc + 1) ls (zl (x / y) :: st) μ) : zWA g K (pc) ls (zl y :: zl x :: st) μ := by
  intro l p e s m args below meth c C d H locs sl stk μr hd0 hS hP hμ hL hT
  obtain ⟨a1, stkh1, rfl, h1, hT1⟩ := zSR_cons hT
  cases h1
  obtain ⟨a2, stkh2, rfl, h2, hT2⟩ := zSR_cons hT1
  cases h2
  exact lv_ldiv C.1 C.2.1 hd hne (k l p e s m args below meth c C d H locs sl _ μr hd0 hS hP hμ hL ⟨rfl, hT2⟩)
theorem zx_lrem {g : ZG} {K : ZK} {pc : Nat} {ls : ZLS} {st : List ZV} {μ : ZMem} {x y : Int64} (hd : decode (zKc K) pc = .ok (.lrem, 1)) (hne : ¬ y = 0) (k : zWA g K (pc + 1) ls (zl (x - x / y * y) :: st) μ) : zWA g K (pc) ls (zl y :: zl x :: st) μ := by
  intro l p e s m args below meth c C d H locs sl stk μr hd0 hS hP hμ hL hT
  obtain ⟨a1, stkh1, rfl, h1, hT1⟩ := zSR_cons hT
  cases h1
  obtain ⟨a2, stkh2, rfl, h2, hT2⟩ := zSR_cons hT1
  cases h2
  exact lv_lrem C.1 C.2.1 hd hne (k l p e s m args below meth c C d H locs sl _ μr hd0 hS hP hμ hL ⟨rfl, hT2⟩)
theorem zx_lneg {g : ZG} {K : ZK} {pc : Nat} {ls : ZLS} {st : List ZV} {μ : ZMem} {x : Int64} (hd : decode (zKc K) pc = .ok (.lneg, 1)) (k : zWA g K (pc + 1) ls (zl (-x) :: st) μ) : zWA g K (pc) ls (zl x :: st) μ := by
  intro l p e s m args below meth c C d H locs sl stk μr hd0 hS hP hμ hL hT
  obtain ⟨a1, stkh1, rfl, h1, hT1⟩ := zSR_cons hT
  cases h1
  exact lv_lneg C.1 C.2.1 hd (k l p e s m args below meth c C d H locs sl _ μr hd0 hS hP hμ hL ⟨rfl, hT1⟩)
theorem zx_lshr {g : ZG} {K : ZK} {pc : Nat} {ls : ZLS} {st : List ZV} {μ : ZMem} {x : Int64} {y : Int32} (hd : decode (zKc K) pc = .ok (.lshr, 1)) (k : zWA g K (pc + 1) ls (zl (x >>> (y.toInt64 &&& 63)) :: st) μ) : zWA g K (pc) ls (zi y :: zl x :: st) μ := by
  intro l p e s m args below meth c C d H locs sl stk μr hd0 hS hP hμ hL hT
  obtain ⟨a1, stkh1, rfl, h1, hT1⟩ := zSR_cons hT
  cases h1
  obtain ⟨a2, stkh2, rfl, h2, hT2⟩ := zSR_cons hT1
  cases h2
  exact lv_lshr C.1 C.2.1 hd rfl (k l p e s m args below meth c C d H locs sl _ μr hd0 hS hP hμ hL ⟨rfl, hT2⟩)
theorem zx_i2l {g : ZG} {K : ZK} {pc : Nat} {ls : ZLS} {st : List ZV} {μ : ZMem} {x : Int32} (hd : decode (zKc K) pc = .ok (.i2l, 1)) (k : zWA g K (pc + 1) ls (zl x.toInt64 :: st) μ) : zWA g K (pc) ls (zi x :: st) μ := by
  intro l p e s m args below meth c C d H locs sl stk μr hd0 hS hP hμ hL hT
  obtain ⟨a1, stkh1, rfl, h1, hT1⟩ := zSR_cons hT
  cases h1
  exact lv_i2l C.1 C.2.1 hd rfl (k l p e s m args below meth c C d H locs sl _ μr hd0 hS hP hμ hL ⟨rfl, hT1⟩)
theorem zx_l2i {g : ZG} {K : ZK} {pc : Nat} {ls : ZLS} {st : List ZV} {μ : ZMem} {x : Int64} (hd : decode (zKc K) pc = .ok (.l2i, 1)) (k : zWA g K (pc + 1) ls (zi x.toInt32 :: st) μ) : zWA g K (pc) ls (zl x :: st) μ := by
  intro l p e s m args below meth c C d H locs sl stk μr hd0 hS hP hμ hL hT
  obtain ⟨a1, stkh1, rfl, h1, hT1⟩ := zSR_cons hT
  cases h1
  exact lv_l2i C.1 C.2.1 hd rfl (k l p e s m args below meth c C d H locs sl _ μr hd0 hS hP hμ hL ⟨rfl, hT1⟩)
theorem zl2d_cn (x : Int64) : zcn (FP.l2d x) = FP.l2d x := zcn_id (FP.Core.l2d_fin x).ne_nan
theorem zi2d_cn (x : Int32) : zcn (FP.i2d x) = FP.i2d x := by
  have e : FP.i2d x = FP.l2d x.toInt64 := FP.Core.i2d_l2d x
  rw [e]
  exact zl2d_cn _
theorem zx_i2d {g : ZG} {K : ZK} {pc : Nat} {ls : ZLS} {st : List ZV} {μ : ZMem} {x : Int32} (hd : decode (zKc K) pc = .ok (.i2d, 1)) (k : zWA g K (pc + 1) ls (zd (FP.i2d x) :: st) μ) : zWA g K (pc) ls (zi x :: st) μ := by
  intro l p e s m args below meth c C d H locs sl stk μr hd0 hS hP hμ hL hT
  obtain ⟨a1, stkh1, rfl, h1, hT1⟩ := zSR_cons hT
  cases h1
  exact lv_i2d C.1 C.2.1 hd (k l p e s m args below meth c C d H locs sl _ μr hd0 hS hP hμ hL ⟨⟨_, rfl, zi2d_cn x⟩, hT1⟩)
theorem zx_l2d {g : ZG} {K : ZK} {pc : Nat} {ls : ZLS} {st : List ZV} {μ : ZMem} {x : Int64} (hd : decode (zKc K) pc = .ok (.l2d, 1)) (k : zWA g K (pc + 1) ls (zd (FP.l2d x) :: st) μ) : zWA g K (pc) ls (zl x :: st) μ := by
  intro l p e s m args below meth c C d H locs sl stk μr hd0 hS hP hμ hL hT
  obtain ⟨a1, stkh1, rfl, h1, hT1⟩ := zSR_cons hT
  cases h1
  exact lv_l2d C.1 C.2.1 hd (k l p e s m args below meth c C d H locs sl _ μr hd0 hS hP hμ hL ⟨⟨_, rfl, zl2d_cn x⟩, hT1⟩)
theorem zx_d2l {g : ZG} {K : ZK} {pc : Nat} {ls : ZLS} {st : List ZV} {μ : ZMem} {x : UInt64} (hd : decode (zKc K) pc = .ok (.d2l, 1)) (k : zWA g K (pc + 1) ls (zl (FP.d2l x) :: st) μ) : zWA g K (pc) ls (zd x :: st) μ := by
  intro l p e s m args below meth c C d H locs sl stk μr hd0 hS hP hμ hL hT
  obtain ⟨a_y, stkh1, rfl, h1, hT1⟩ := zSR_cons hT
  obtain ⟨y, rfl, rfl⟩ := h1
  exact lv_d2l C.1 C.2.1 hd (k l p e s m args below meth c C d H locs sl _ μr hd0 hS hP hμ hL ⟨by rw [zd2l_in]; rfl, hT1⟩)
theorem zx_dadd {g : ZG} {K : ZK} {pc : Nat} {ls : ZLS} {st : List ZV} {μ : ZMem} {x y : UInt64} (hd : decode (zKc K) pc = .ok (.dadd, 1)) (k : zWA g K (pc + 1) ls (zd (zadd x y) :: st) μ) : zWA g K (pc) ls (zd y :: zd x :: st) μ := by
  intro l p e s m args below meth c C d H locs sl stk μr hd0 hS hP hμ hL hT
  obtain ⟨a_y2, stkh1, rfl, h1, hT1⟩ := zSR_cons hT
  obtain ⟨y2, rfl, rfl⟩ := h1
  obtain ⟨a_x2, stkh2, rfl, h2, hT2⟩ := zSR_cons hT1
  obtain ⟨x2, rfl, rfl⟩ := h2
  refine lv_dadd_any hd0 lw_bits C.1 C.2.1 hd (fun r d1 hal hd1 => ?_)
  exact (k l p e s m args below meth c C d1 H locs sl _ μr hd1 hS hP hμ hL ⟨⟨r, rfl, by unfold zadd; rw [zadd_in]; exact zcn_alike hal⟩, hT2⟩)
theorem zx_dsub {g : ZG} {K : ZK} {pc : Nat} {ls : ZLS} {st : List ZV} {μ : ZMem} {x y : UInt64} (hd : decode (zKc K) pc = .ok (.dsub, 1)) (k : zWA g K (pc + 1) ls (zd (zsub x y) :: st) μ) : zWA g K (pc) ls (zd y :: zd x :: st) μ := by
  intro l p e s m args below meth c C d H locs sl stk μr hd0 hS hP hμ hL hT
  obtain ⟨a_y2, stkh1, rfl, h1, hT1⟩ := zSR_cons hT
  obtain ⟨y2, rfl, rfl⟩ := h1
  obtain ⟨a_x2, stkh2, rfl, h2, hT2⟩ := zSR_cons hT1
  obtain ⟨x2, rfl, rfl⟩ := h2
  refine lv_dsub_any hd0 lw_bits C.1 C.2.1 hd (fun r d1 hal hd1 => ?_)
  exact (k l p e s m args below meth c C d1 H locs sl _ μr hd1 hS hP hμ hL ⟨⟨r, rfl, by unfold zsub; rw [zsub_in]; exact zcn_alike hal⟩, hT2⟩)
theorem zx_dmul {g : ZG} {K : ZK} {pc : Nat} {ls : ZLS} {st : List ZV} {μ : ZMem} {x y : UInt64} (hd : decode (zKc K) pc = .ok (.dmul, 1)) (k : zWA g K (pc + 1) ls (zd (zmul x y) :: st) μ) : zWA g K (pc) ls (zd y :: zd x :: st) μ := by
  intro l p e s m args below meth c C d H locs sl stk μr hd0 hS hP hμ hL hT
  obtain ⟨a_y2, stkh1, rfl, h1, hT1⟩ := zSR_cons hT
  obtain ⟨y2, rfl, rfl⟩ := h1
  obtain ⟨a_x2, stkh2, rfl, h2, hT2⟩ := zSR_cons hT1
  obtain ⟨x2, rfl, rfl⟩ := h2
  refine lv_dmul_any hd0 lw_bits C.1 C.2.1 hd (fun r d1 hal hd1 => ?_)
  exact (k l p e s m args below meth c C d1 H locs sl _ μr hd1 hS hP hμ hL ⟨⟨r, rfl, by unfold zmul; rw [zmul_in]; exact zcn_alike hal⟩, hT2⟩)
theorem zx_ddiv {g : ZG} {K : ZK} {pc : Nat} {ls : ZLS} {st : List ZV} {μ : ZMem} {x y : UInt64} (hd : decode (zKc K) pc = .ok (.ddiv, 1)) (k : zWA g K (pc + 1) ls (zd (zdiv x y) :: st) μ) : zWA g K (pc) ls (zd y :: zd x :: st) μ := by
  intro l p e s m args below meth c C d H locs sl stk μr hd0 hS hP hμ hL hT
  obtain ⟨a_y2, stkh1, rfl, h1, hT1⟩ := zSR_cons hT
  obtain ⟨y2, rfl, rfl⟩ := h1
  obtain ⟨a_x2, stkh2, rfl, h2, hT2⟩ := zSR_cons hT1
  obtain ⟨x2, rfl, rfl⟩ := h2
  refine lv_ddiv_any hd0 lw_bits C.1 C.2.1 hd (fun r d1 hal hd1 => ?_)
  exact (k l p e s m args below meth c C d1 H locs sl _ μr hd1 hS hP hμ hL ⟨⟨r, rfl, by unfold zdiv; rw [zdiv_in]; exact zcn_alike hal⟩, hT2⟩)
theorem zx_dneg {g : ZG} {K : ZK} {pc : Nat} {ls : ZLS} {st : List ZV} {μ : ZMem} {x : UInt64} (hd : decode (zKc K) pc = .ok (.dneg, 1)) (k : zWA g K (pc + 1) ls (zd (zneg x) :: st) μ) : zWA g K (pc) ls (zd x :: st) μ := by
  intro l p e s m args below meth c C d H locs sl stk μr hd0 hS hP hμ hL hT
  obtain ⟨a_y, stkh1, rfl, h1, hT1⟩ := zSR_cons hT
  obtain ⟨y, rfl, rfl⟩ := h1
  exact lv_dneg C.1 C.2.1 hd (k l p e s m args below meth c C d H locs sl _ μr hd0 hS hP hμ hL ⟨⟨_, rfl, zneg_in y⟩, hT1⟩)
theorem zx_dcmp {g : ZG} {K : ZK} {pc : Nat} {ls : ZLS} {st : List ZV} {μ : ZMem} {x y : UInt64} {op : CmpOp} (hd : decode (zKc K) pc = .ok (.dcmp op, 1)) (k : zWA g K (pc + 1) ls (zi (Op.cmpValue (FP.dcmp x y) op) :: st) μ) : zWA g K (pc) ls (zd y :: zd x :: st) μ := by
  intro l p e s m args below meth c C d H locs sl stk μr hd0 hS hP hμ hL hT
  obtain ⟨a_y2, stkh1, rfl, h1, hT1⟩ := zSR_cons hT
  obtain ⟨y2, rfl, rfl⟩ := h1
  obtain ⟨a_x2, stkh2, rfl, h2, hT2⟩ := zSR_cons hT1
  obtain ⟨x2, rfl, rfl⟩ := h2
  exact lv_dcmp C.1 C.2.1 hd (k l p e s m args below meth c C d H locs sl _ μr hd0 hS hP hμ hL ⟨by rw [zcmp_in]; rfl, hT2⟩)
theorem zx_lcmp {g : ZG} {K : ZK} {pc : Nat} {ls : ZLS} {st : List ZV} {μ : ZMem} {x y : Int64} (hd : decode (zKc K) pc = .ok (.lcmp, 1)) (k : zWA g K (pc + 1) ls (zi (lg_cmp x y) :: st) μ) : zWA g K (pc) ls (zl y :: zl x :: st) μ := by
  intro l p e s m args below meth c C d H locs sl stk μr hd0 hS hP hμ hL hT
  obtain ⟨a1, stkh1, rfl, h1, hT1⟩ := zSR_cons hT
  cases h1
  obtain ⟨a2, stkh2, rfl, h2, hT2⟩ := zSR_cons hT1
  cases h2
  exact W.lcmp C.1 C.2.1 hd (k l p e s m args below meth c C d H locs sl _ μr hd0 hS hP hμ hL ⟨rfl, hT2⟩)
theorem zx_iconst {g : ZG} {K : ZK} {pc : Nat} {ls : ZLS} {st : List ZV} {μ : ZMem} {n : Int} (v : Int32) (hd : decode (zKc K) pc = .ok (.iconst n, 1)) (hv : Int32.ofInt n = v) (k : zWA g K (pc + 1) ls (zi v :: st) μ) : zWA g K (pc) ls (st) μ := by
  intro l p e s m args below meth c C d H locs sl stk μr hd0 hS hP hμ hL hT
  exact lv_iconst C.1 C.2.1 hd hv (k l p e s m args below meth c C d H locs sl _ μr hd0 hS hP hμ hL ⟨rfl, hT⟩)
theorem zx_bipush {g : ZG} {K : ZK} {pc : Nat} {ls : ZLS} {st : List ZV} {μ : ZMem} {n : Int} (v : Int32) (hd : decode (zKc K) pc = .ok (.bipush n, 2)) (hv : (Int8.ofInt n).toInt32 = v) (k : zWA g K (pc + 2) ls (zi v :: st) μ) : zWA g K (pc) ls (st) μ := by
  intro l p e s m args below meth c C d H locs sl stk μr hd0 hS hP hμ hL hT
  exact lv_bipush C.1 C.2.1 hd hv (k l p e s m args below meth c C d H locs sl _ μr hd0 hS hP hμ hL ⟨rfl, hT⟩)
theorem zx_sipush {g : ZG} {K : ZK} {pc : Nat} {ls : ZLS} {st : List ZV} {μ : ZMem} {n : Int} (v : Int32) (hd : decode (zKc K) pc = .ok (.sipush n, 3)) (hv : (Int16.ofInt n).toInt32 = v) (k : zWA g K (pc + 3) ls (zi v :: st) μ) : zWA g K (pc) ls (st) μ := by
  intro l p e s m args below meth c C d H locs sl stk μr hd0 hS hP hμ hL hT
  exact lv_sipush C.1 C.2.1 hd hv (k l p e s m args below meth c C d H locs sl _ μr hd0 hS hP hμ hL ⟨rfl, hT⟩)
theorem zx_lconst {g : ZG} {K : ZK} {pc : Nat} {ls : ZLS} {st : List ZV} {μ : ZMem} {n : Fin 2} (v : Int64) (hd : decode (zKc K) pc = .ok (.lconst n, 1)) (hv : Int64.ofNat (n : Nat) = v) (k : zWA g K (pc + 1) ls (zl v :: st) μ) : zWA g K (pc) ls (st) μ := by
  intro l p e s m args below meth c C d H locs sl stk μr hd0 hS hP hμ hL hT
  exact lv_lconst C.1 C.2.1 hd hv (k l p e s m args below meth c C d H locs sl _ μr hd0 hS hP hμ hL ⟨rfl, hT⟩)
theorem zx_dconst0 {g : ZG} {K : ZK} {pc : Nat} {ls : ZLS} {st : List ZV} {μ : ZMem} (hd : decode (zKc K) pc = .ok (.dconst 0, 1)) (k : zWA g K (pc + 1) ls (zd 0 :: st) μ) : zWA g K (pc) ls (st) μ := by
  intro l p e s m args below meth c C d H locs sl stk μr hd0 hS hP hμ hL hT
  exact lv_dconst0 C.1 C.2.1 hd (k l p e s m args below meth c C d H locs sl _ μr hd0 hS hP hμ hL ⟨⟨_, rfl, by decide +kernel⟩, hT⟩)
theorem zx_dconst1 {g : ZG} {K : ZK} {pc : Nat} {ls : ZLS} {st : List ZV} {μ : ZMem} (hd : decode (zKc K) pc = .ok (.dconst 1, 1)) (k : zWA g K (pc + 1) ls (zd 4607182418800017408 :: st) μ) : zWA g K (pc) ls (st) μ := by
  intro l p e s m args below meth c C d H locs sl stk μr hd0 hS hP hμ hL hT
  exact lv_dconst1 C.1 C.2.1 hd (k l p e s m args below meth c C d H locs sl _ μr hd0 hS hP hμ hL ⟨⟨_, rfl, by decide +kernel⟩, hT⟩)
theorem zx_ldc2d {g : ZG} {K : ZK} {pc : Nat} {ls : ZLS} {st : List ZV} {μ : ZMem} {index : Nat} (v : UInt64) (hw : Jvm.Cond.constantDouble (zKo K) index v ∈ lw_good) (hv : zcn v = v) (hd : decode (zKc K) pc = .ok (.ldc2_w index, 3)) (k : zWA g K (pc + 3) ls (zd v :: st) μ) : zWA g K (pc) ls (st) μ := by
  intro l p e s m args below meth c C d H locs sl stk μr hd0 hS hP hμ hL hT
  exact lv_ldc2d C.1 C.2.1 C.2.2.2.1 (dr_words C.2.2.2.2.1 d _ hw) hd (k l p e s m args below meth c C d H locs sl _ μr hd0 hS hP hμ hL ⟨⟨_, rfl, hv⟩, hT⟩)
theorem zx_ldc2l {g : ZG} {K : ZK} {pc : Nat} {ls : ZLS} {st : List ZV} {μ : ZMem} {index : Nat} (v : Int64) (hw : Jvm.Cond.constantLong (zKo K) index v ∈ lw_good) (hd : decode (zKc K) pc = .ok (.ldc2_w index, 3)) (k : zWA g K (pc + 3) ls (zl v :: st) μ) : zWA g K (pc) ls (st) μ := by
  intro l p e s m args below meth c C d H locs sl stk μr hd0 hS hP hμ hL hT
  exact lv_ldc2 C.1 C.2.1 C.2.2.2.1 (dr_words C.2.2.2.2.1 d _ hw) hd (k l p e s m args below meth c C d H locs sl _ μr hd0 hS hP hμ hL ⟨rfl, hT⟩)
theorem zx_null {g : ZG} {K : ZK} {pc : Nat} {ls : ZLS} {st : List ZV} {μ : ZMem} (hd : decode (zKc K) pc = .ok (.aconst_null, 1)) (k : zWA g K (pc + 1) ls (zr none :: st) μ) : zWA g K (pc) ls (st) μ := by
  intro l p e s m args below meth c C d H locs sl stk μr hd0 hS hP hμ hL hT
  exact lv_null C.1 C.2.1 hd (k l p e s m args below meth c C d H locs sl _ μr hd0 hS hP hμ hL ⟨rfl, hT⟩)
theorem zx_dup {g : ZG} {K : ZK} {pc : Nat} {ls : ZLS} {st : List ZV} {μ : ZMem} {v : ZV} (hd : decode (zKc K) pc = .ok (.dup, 1)) (hv : zc2 v = false) (k : zWA g K (pc + 1) ls (v :: v :: st) μ) : zWA g K (pc) ls (v :: st) μ := by
  intro l p e s m args below meth c C d H locs sl stk μr hd0 hS hP hμ hL hT
  obtain ⟨a1, stk1, rfl, h1, hT1⟩ := zSR_cons hT
  exact lv_dup C.1 C.2.1 hd (zRv_cat1 h1 hv) (k l p e s m args below meth c C d H locs sl _ μr hd0 hS hP hμ hL ⟨h1, h1, hT1⟩)
theorem zx_dup2_11 {g : ZG} {K : ZK} {pc : Nat} {ls : ZLS} {st : List ZV} {μ : ZMem} {v w : ZV} (hd : decode (zKc K) pc = .ok (.dup2, 1)) (hv : zc2 v = false) (hw : zc2 w = false) (k : zWA g K (pc + 1) ls (v :: w :: v :: w :: st) μ) : zWA g K (pc) ls (v :: w :: st) μ := by
  intro l p e s m args below meth c C d H locs sl stk μr hd0 hS hP hμ hL hT
  obtain ⟨a1, stk1, rfl, h1, hT1⟩ := zSR_cons hT
  obtain ⟨a2, stk2, rfl, h2, hT2⟩ := zSR_cons hT1
  exact lv_dup2_11 C.1 C.2.1 hd (zRv_cat1 h1 hv) (zRv_cat1 h2 hw) (k l p e s m args below meth c C d H locs sl _ μr hd0 hS hP hμ hL ⟨h1, h2, h1, h2, hT2⟩)
theorem zx_iload_n {g : ZG} {K : ZK} {pc : Nat} {ls : ZLS} {st : List ZV} {μ : ZMem} {n : Fin 4} {i : Nat} {x : Int32} (hd : decode (zKc K) pc = .ok (.iload_n n, 1)) (hi : (n : Nat) = i) (hl : ls i = some (zi x)) (k : zWA g K (pc + 1) ls (zi x :: st) μ) : zWA g K (pc) ls (st) μ := by
  intro l p e s m args below meth c C d H locs sl stk μr hd0 hS hP hμ hL hT
  obtain ⟨a, ha, hr⟩ := zLR_get hL hl
  cases hr
  exact lv_iload_n C.1 C.2.1 hd hi ha (k l p e s m args below meth c C d H locs sl _ μr hd0 hS hP hμ hL ⟨rfl, hT⟩)
theorem zx_iload {g : ZG} {K : ZK} {pc : Nat} {ls : ZLS} {st : List ZV} {μ : ZMem} {i : Nat} {x : Int32} (hd : decode (zKc K) pc = .ok (.iload i, 2)) (hl : ls i = some (zi x)) (k : zWA g K (pc + 2) ls (zi x :: st) μ) : zWA g K (pc) ls (st) μ := by
  intro l p e s m args below meth c C d H locs sl stk μr hd0 hS hP hμ hL hT
  obtain ⟨a, ha, hr⟩ := zLR_get hL hl
  cases hr
  exact lv_iload C.1 C.2.1 hd ha (k l p e s m args below meth c C d H locs sl _ μr hd0 hS hP hμ hL ⟨rfl, hT⟩)
theorem zx_lload_n {g : ZG} {K : ZK} {pc : Nat} {ls : ZLS} {st : List ZV} {μ : ZMem} {n : Fin 4} {i : Nat} {x : Int64} (hd : decode (zKc K) pc = .ok (.lload_n n, 1)) (hi : (n : Nat) = i) (hl : ls i = some (zl x)) (k : zWA g K (pc + 1) ls (zl x :: st) μ) : zWA g K (pc) ls (st) μ := by
  intro l p e s m args below meth c C d H locs sl stk μr hd0 hS hP hμ hL hT
  obtain ⟨a, ha, hr⟩ := zLR_get hL hl
  cases hr
  exact lv_lload_n C.1 C.2.1 hd hi ha (k l p e s m args below meth c C d H locs sl _ μr hd0 hS hP hμ hL ⟨rfl, hT⟩)
theorem zx_lload {g : ZG} {K : ZK} {pc : Nat} {ls : ZLS} {st : List ZV} {μ : ZMem} {i : Nat} {x : Int64} (hd : decode (zKc K) pc = .ok (.lload i, 2)) (hl : ls i = some (zl x)) (k : zWA g K (pc + 2) ls (zl x :: st) μ) : zWA g K (pc) ls (st) μ := by
  intro l p e s m args below meth c C d H locs sl stk μr hd0 hS hP hμ hL hT
  obtain ⟨a, ha, hr⟩ := zLR_get hL hl
  cases hr
  exact lv_lload C.1 C.2.1 hd ha (k l p e s m args below meth c C d H locs sl _ μr hd0 hS hP hμ hL ⟨rfl, hT⟩)
theorem zx_dload_n {g : ZG} {K : ZK} {pc : Nat} {ls : ZLS} {st : List ZV} {μ : ZMem} {n : Fin 4} {i : Nat} {x : UInt64} (hd : decode (zKc K) pc = .ok (.dload_n n, 1)) (hi : (n : Nat) = i) (hl : ls i = some (zd x)) (k : zWA g K (pc + 1) ls (zd x :: st) μ) : zWA g K (pc) ls (st) μ := by
  intro l p e s m args below meth c C d H locs sl stk μr hd0 hS hP hμ hL hT
  obtain ⟨a, ha, y, rfl, hy⟩ := zLR_get hL hl
  exact lv_dload_n C.1 C.2.1 hd hi ha (k l p e s m args below meth c C d H locs sl _ μr hd0 hS hP hμ hL ⟨⟨y, rfl, hy⟩, hT⟩)
theorem zx_dload {g : ZG} {K : ZK} {pc : Nat} {ls : ZLS} {st : List ZV} {μ : ZMem} {i : Nat} {x : UInt64} (hd : decode (zKc K) pc = .ok (.dload i, 2)) (hl : ls i = some (zd x)) (k : zWA g K (pc + 2) ls (zd x :: st) μ) : zWA g K (pc) ls (st) μ := by
  intro l p e s m args below meth c C d H locs sl stk μr hd0 hS hP hμ hL hT
  obtain ⟨a, ha, y, rfl, hy⟩ := zLR_get hL hl
  exact lv_dload C.1 C.2.1 hd ha (k l p e s m args below meth c C d H locs sl _ μr hd0 hS hP hμ hL ⟨⟨y, rfl, hy⟩, hT⟩)
theorem zx_aload_n {g : ZG} {K : ZK} {pc : Nat} {ls : ZLS} {st : List ZV} {μ : ZMem} {n : Fin 4} {i : Nat} {x : Option Nat} (hd : decode (zKc K) pc = .ok (.aload_n n, 1)) (hi : (n : Nat) = i) (hl : ls i = some (zr x)) (k : zWA g K (pc + 1) ls (zr x :: st) μ) : zWA g K (pc) ls (st) μ := by
  intro l p e s m args below meth c C d H locs sl stk μr hd0 hS hP hμ hL hT
  obtain ⟨a, ha, hr⟩ := zLR_get hL hl
  have hr : a = va_rf (x.map (zad g)) := hr
  subst hr
  cases x with
  | none => exact lv_aload_nN C.1 C.2.1 hd hi ha (k l p e s m args below meth c C d H locs sl _ μr hd0 hS hP hμ hL ⟨rfl, hT⟩)
  | some r => exact lv_aload_n C.1 C.2.1 hd hi ha (k l p e s m args below meth c C d H locs sl _ μr hd0 hS hP hμ hL ⟨rfl, hT⟩)
theorem zx_aload {g : ZG} {K : ZK} {pc : Nat} {ls : ZLS} {st : List ZV} {μ : ZMem} {i : Nat} {x : Option Nat} (hd : decode (zKc K) pc = .ok (.aload i, 2))  (hl : ls i = some (zr x)) (k : zWA g K (pc + 2) ls (zr x :: st) μ) : zWA g K (pc) ls (st) μ := by
  intro l p e s m args below meth c C d H locs sl stk μr hd0 hS hP hμ hL hT
  obtain ⟨a, ha, hr⟩ := zLR_get hL hl
  have hr : a = va_rf (x.map (zad g)) := hr
  subst hr
  cases x with
  | none => exact lv_aloadN C.1 C.2.1 hd ha (k l p e s m args below meth c C d H locs sl _ μr hd0 hS hP hμ hL ⟨rfl, hT⟩)
  | some r => exact lv_aload C.1 C.2.1 hd ha (k l p e s m args below meth c C d H locs sl _ μr hd0 hS hP hμ hL ⟨rfl, hT⟩)
theorem zx_istore_n {g : ZG} {K : ZK} {pc : Nat} {ls : ZLS} {st : List ZV} {μ : ZMem} {n : Fin 4} {i : Nat} {x : Int32} (hd : decode (zKc K) pc = .ok (.istore_n n, 1)) (hi : (n : Nat) = i) (hn : i < zKn K) (k : zWA g K (pc + 1) (zst1 ls i (zi x)) (st) μ) : zWA g K (pc) ls (zi x :: st) μ := by
  intro l p e s m args below meth c C d H locs sl stk μr hd0 hS hP hμ hL hT
  obtain ⟨a1, stkh1, rfl, h1, hT1⟩ := zSR_cons hT
  cases h1
  obtain ⟨lv, hl1, hl2⟩ := hL
  exact lv_istore_n C.1 C.2.1 hd hi hl1 hn rfl (fun sl hl => k l p e s m args below meth c C d H locs sl _ μr hd0 hS hP hμ (zLR_st1 hl2 rfl hl) hT1)
theorem zx_istore {g : ZG} {K : ZK} {pc : Nat} {ls : ZLS} {st : List ZV} {μ : ZMem} {i : Nat} {x : Int32} (hd : decode (zKc K) pc = .ok (.istore i, 2))  (hn : i < zKn K) (k : zWA g K (pc + 2) (zst1 ls i (zi x)) (st) μ) : zWA g K (pc) ls (zi x :: st) μ := by
  intro l p e s m args below meth c C d H locs sl stk μr hd0 hS hP hμ hL hT
  obtain ⟨a1, stkh1, rfl, h1, hT1⟩ := zSR_cons hT
  cases h1
  obtain ⟨lv, hl1, hl2⟩ := hL
  exact lv_istore C.1 C.2.1 hd hl1 hn rfl (fun sl hl => k l p e s m args below meth c C d H locs sl _ μr hd0 hS hP hμ (zLR_st1 hl2 rfl hl) hT1)
theorem zx_lstore_n {g : ZG} {K : ZK} {pc : Nat} {ls : ZLS} {st : List ZV} {μ : ZMem} {n : Fin 4} {i : Nat} {x : Int64} (hd : decode (zKc K) pc = .ok (.lstore_n n, 1)) (hi : (n : Nat) = i) (hn : i + 1 < zKn K) (k : zWA g K (pc + 1) (zst2 ls i (zl x)) (st) μ) : zWA g K (pc) ls (zl x :: st) μ := by
  intro l p e s m args below meth c C d H locs sl stk μr hd0 hS hP hμ hL hT
  obtain ⟨a1, stkh1, rfl, h1, hT1⟩ := zSR_cons hT
  cases h1
  obtain ⟨lv, hl1, hl2⟩ := hL
  exact lv_lstore_n C.1 C.2.1 hd hi hl1 hn rfl (fun sl hl => k l p e s m args below meth c C d H locs sl _ μr hd0 hS hP hμ (zLR_st2 hl2 rfl hl) hT1)
theorem zx_lstore {g : ZG} {K : ZK} {pc : Nat} {ls : ZLS} {st : List ZV} {μ : ZMem} {i : Nat} {x : Int64} (hd : decode (zKc K) pc = .ok (.lstore i, 2))  (hn : i + 1 < zKn K) (k : zWA g K (pc + 2) (zst2 ls i (zl x)) (st) μ) : zWA g K (pc) ls (zl x :: st) μ := by
  intro l p e s m args below meth c C d H locs sl stk μr hd0 hS hP hμ hL hT
  obtain ⟨a1, stkh1, rfl, h1, hT1⟩ := zSR_cons hT
  cases h1
  obtain ⟨lv, hl1, hl2⟩ := hL
  exact lv_lstore C.1 C.2.1 hd hl1 hn rfl (fun sl hl => k l p e s m args below meth c C d H locs sl _ μr hd0 hS hP hμ (zLR_st2 hl2 rfl hl) hT1)
theorem zx_dstore_n {g : ZG} {K : ZK} {pc : Nat} {ls : ZLS} {st : List ZV} {μ : ZMem} {n : Fin 4} {i : Nat} {x : UInt64} (hd : decode (zKc K) pc = .ok (.dstore_n n, 1)) (hi : (n : Nat) = i) (hn : i + 1 < zKn K) (k : zWA g K (pc + 1) (zst2 ls i (zd x)) (st) μ) : zWA g K (pc) ls (zd x :: st) μ := by
  intro l p e s m args below meth c C d H locs sl stk μr hd0 hS hP hμ hL hT
  obtain ⟨a_y, stkh1, rfl, h1, hT1⟩ := zSR_cons hT
  obtain ⟨y, rfl, rfl⟩ := h1
  obtain ⟨lv, hl1, hl2⟩ := hL
  exact lv_dstore_n C.1 C.2.1 hd hi hl1 hn rfl (fun sl hl => k l p e s m args below meth c C d H locs sl _ μr hd0 hS hP hμ (zLR_st2 hl2 ⟨y, rfl, rfl⟩ hl) hT1)
theorem zx_dstore {g : ZG} {K : ZK} {pc : Nat} {ls : ZLS} {st : List ZV} {μ : ZMem} {i : Nat} {x : UInt64} (hd : decode (zKc K) pc = .ok (.dstore i, 2))  (hn : i + 1 < zKn K) (k : zWA g K (pc + 2) (zst2 ls i (zd x)) (st) μ) : zWA g K (pc) ls (zd x :: st) μ := by
  intro l p e s m args below meth c C d H locs sl stk μr hd0 hS hP hμ hL hT
  obtain ⟨a_y, stkh1, rfl, h1, hT1⟩ := zSR_cons hT
  obtain ⟨y, rfl, rfl⟩ := h1
  obtain ⟨lv, hl1, hl2⟩ := hL
  exact lv_dstore C.1 C.2.1 hd hl1 hn rfl (fun sl hl => k l p e s m args below meth c C d H locs sl _ μr hd0 hS hP hμ (zLR_st2 hl2 ⟨y, rfl, rfl⟩ hl) hT1)
theorem zx_astore_n {g : ZG} {K : ZK} {pc : Nat} {ls : ZLS} {st : List ZV} {μ : ZMem} {n : Fin 4} {i : Nat} {x : Option Nat} (hd : decode (zKc K) pc = .ok (.astore_n n, 1)) (hi : (n : Nat) = i) (hn : i < zKn K) (k : zWA g K (pc + 1) (zst1 ls i (zr x)) (st) μ) : zWA g K (pc) ls (zr x :: st) μ := by
  intro l p e s m args below meth c C d H locs sl stk μr hd0 hS hP hμ hL hT
  obtain ⟨a1, stk1, rfl, h1, hT1⟩ := zSR_cons hT
  have h1 : a1 = va_rf (x.map (zad g)) := h1
  subst h1
  obtain ⟨lv, hl1, hl2⟩ := hL
  cases x with
  | none => exact lv_astore_nN C.1 C.2.1 hd hi hl1 hn rfl (fun sl hl => k l p e s m args below meth c C d H locs sl _ μr hd0 hS hP hμ (zLR_st1 hl2 (v := zr none) rfl hl) hT1)
  | some r => exact lv_astore_n C.1 C.2.1 hd hi hl1 hn rfl (fun sl hl => k l p e s m args below meth c C d H locs sl _ μr hd0 hS hP hμ (zLR_st1 hl2 (v := zr (some r)) rfl hl) hT1)
theorem zx_astore {g : ZG} {K : ZK} {pc : Nat} {ls : ZLS} {st : List ZV} {μ : ZMem} {i : Nat} {x : Option Nat} (hd : decode (zKc K) pc = .ok (.astore i, 2))  (hn : i < zKn K) (k : zWA g K (pc + 2) (zst1 ls i (zr x)) (st) μ) : zWA g K (pc) ls (zr x :: st) μ := by
  intro l p e s m args below meth c C d H locs sl stk μr hd0 hS hP hμ hL hT
  obtain ⟨a1, stk1, rfl, h1, hT1⟩ := zSR_cons hT
  have h1 : a1 = va_rf (x.map (zad g)) := h1
  subst h1
  obtain ⟨lv, hl1, hl2⟩ := hL
  cases x with
  | none => exact lv_astoreN C.1 C.2.1 hd hl1 hn rfl (fun sl hl => k l p e s m args below meth c C d H locs sl _ μr hd0 hS hP hμ (zLR_st1 hl2 (v := zr none) rfl hl) hT1)
  | some r => exact lv_astore C.1 C.2.1 hd hl1 hn rfl (fun sl hl => k l p e s m args below meth c C d H locs sl _ μr hd0 hS hP hμ (zLR_st1 hl2 (v := zr (some r)) rfl hl) hT1)
theorem zx_iinc {g : ZG} {K : ZK} {pc : Nat} {ls : ZLS} {st : List ZV} {μ : ZMem} {i : Nat} {n : Int} {x : Int32} (v : Int32) (hd : decode (zKc K) pc = .ok (.iinc i n, 3)) (hl : ls i = some (zi x)) (hv : x + Int32.ofInt n = v) (hn : i < zKn K) (k : zWA g K (pc + 3) (zst1 ls i (zi v)) (st) μ) : zWA g K (pc) ls (st) μ := by
  intro l p e s m args below meth c C d H locs sl stk μr hd0 hS hP hμ hL hT
  obtain ⟨lv, hl1, hl2⟩ := hL
  obtain ⟨a, ha, hr⟩ := hl2 i _ hl
  cases hr
  obtain ⟨q, hq⟩ := List.getElem?_of_mem ha
  exact lv_iinc C.1 C.2.1 hd hl1 hq hv hn rfl (fun sl hl => k l p e s m args below meth c C d H locs sl _ μr hd0 hS hP hμ (zLR_st1 hl2 (v := zi v) rfl hl) hT)
theorem zx_if_eq {g : ZG} {K : ZK} {pc : Nat} {ls : ZLS} {st : List ZV} {μ : ZMem} {x : Int32} {off : Int} {tgt : Nat} (hd : decode (zKc K) pc = .ok (.ifCond .eq off, 3)) (ht : (pc : Int) + off = (tgt : Int)) (kt : x = 0 → zWA g K (tgt) ls (st) μ) (kf : ¬ x = 0 → zWA g K (pc + 3) ls (st) μ) : zWA g K (pc) ls (zi x :: st) μ := by
  intro l p e s m args below meth c C d H locs sl stk μr hd0 hS hP hμ hL hT
  obtain ⟨a1, stkh1, rfl, h1, hT1⟩ := zSR_cons hT
  cases h1
  exact lv_if_eq C.1 C.2.1 hd ht (fun q => kt q l p e s m args below meth c C d H locs sl _ μr hd0 hS hP hμ hL  hT1) (fun q => kf q l p e s m args below meth c C d H locs sl _ μr hd0 hS hP hμ hL  hT1)
theorem zx_icmp_eq {g : ZG} {K : ZK} {pc : Nat} {ls : ZLS} {st : List ZV} {μ : ZMem} {x y : Int32} {off : Int} {tgt : Nat} (hd : decode (zKc K) pc = .ok (.if_icmp .eq off, 3)) (ht : (pc : Int) + off = (tgt : Int)) (kt : x = y → zWA g K (tgt) ls (st) μ) (kf : ¬ x = y → zWA g K (pc + 3) ls (st) μ) : zWA g K (pc) ls (zi y :: zi x :: st) μ := by
  intro l p e s m args below meth c C d H locs sl stk μr hd0 hS hP hμ hL hT
  obtain ⟨a1, stkh1, rfl, h1, hT1⟩ := zSR_cons hT
  cases h1
  obtain ⟨a2, stkh2, rfl, h2, hT2⟩ := zSR_cons hT1
  cases h2
  exact lv_icmp_eq C.1 C.2.1 hd ht (fun q => kt q l p e s m args below meth c C d H locs sl _ μr hd0 hS hP hμ hL  hT2) (fun q => kf q l p e s m args below meth c C d H locs sl _ μr hd0 hS hP hμ hL  hT2)
theorem zx_if_ne {g : ZG} {K : ZK} {pc : Nat} {ls : ZLS} {st : List ZV} {μ : ZMem} {x : Int32} {off : Int} {tgt : Nat} (hd : decode (zKc K) pc = .ok (.ifCond .ne off, 3)) (ht : (pc : Int) + off = (tgt : Int)) (kt : ¬ x = 0 → zWA g K (tgt) ls (st) μ) (kf : x = 0 → zWA g K (pc + 3) ls (st) μ) : zWA g K (pc) ls (zi x :: st) μ := by
  intro l p e s m args below meth c C d H locs sl stk μr hd0 hS hP hμ hL hT
  obtain ⟨a1, stkh1, rfl, h1, hT1⟩ := zSR_cons hT
  cases h1
  exact lv_if_ne C.1 C.2.1 hd ht (fun q => kt q l p e s m args below meth c C d H locs sl _ μr hd0 hS hP hμ hL  hT1) (fun q => kf q l p e s m args below meth c C d H locs sl _ μr hd0 hS hP hμ hL  hT1)
theorem zx_icmp_ne {g : ZG} {K : ZK} {pc : Nat} {ls : ZLS} {st : List ZV} {μ : ZMem} {x y : Int32} {off : Int} {tgt : Nat} (hd : decode (zKc K) pc = .ok (.if_icmp .ne off, 3)) (ht : (pc : Int) + off = (tgt : Int)) (kt : ¬ x = y → zWA g K (tgt) ls (st) μ) (kf : x = y → zWA g K (pc + 3) ls (st) μ) : zWA g K (pc) ls (zi y :: zi x :: st) μ := by
  intro l p e s m args below meth c C d H locs sl stk μr hd0 hS hP hμ hL hT
  obtain ⟨a1, stkh1, rfl, h1, hT1⟩ := zSR_cons hT
  cases h1
  obtain ⟨a2, stkh2, rfl, h2, hT2⟩ := zSR_cons hT1
  cases h2
  exact lv_icmp_ne C.1 C.2.1 hd ht (fun q => kt q l p e s m args below meth c C d H locs sl _ μr hd0 hS hP hμ hL  hT2) (fun q => kf q l p e s m args below meth c C d H locs sl _ μr hd0 hS hP hμ hL  hT2)
theorem zx_if_lt {g : ZG} {K : ZK} {pc : Nat} {ls : ZLS} {st : List ZV} {μ : ZMem} {x : Int32} {off : Int} {tgt : Nat} (hd : decode (zKc K) pc = .ok (.ifCond .lt off, 3)) (ht : (pc : Int) + off = (tgt : Int)) (kt : x < 0 → zWA g K (tgt) ls (st) μ) (kf : ¬ x < 0 → zWA g K (pc + 3) ls (st) μ) : zWA g K (pc) ls (zi x :: st) μ := by
  intro l p e s m args below meth c C d H locs sl stk μr hd0 hS hP hμ hL hT
  obtain ⟨a1, stkh1, rfl, h1, hT1⟩ := zSR_cons hT
  cases h1
  exact lv_if_lt C.1 C.2.1 hd ht (fun q => kt q l p e s m args below meth c C d H locs sl _ μr hd0 hS hP hμ hL  hT1) (fun q => kf q l p e s m args below meth c C d H locs sl _ μr hd0 hS hP hμ hL  hT1)
theorem zx_icmp_lt {g : ZG} {K : ZK} {pc : Nat} {ls : ZLS} {st : List ZV} {μ : ZMem} {x y : Int32} {off : Int} {tgt : Nat} (hd : decode (zKc K) pc = .ok (.if_icmp .lt off, 3)) (ht : (pc : Int) + off = (tgt : Int)) (kt : x < y → zWA g K (tgt) ls (st) μ) (kf : ¬ x < y → zWA g K (pc + 3) ls (st) μ) : zWA g K (pc) ls (zi y :: zi x :: st) μ := by
  intro l p e s m args below meth c C d H locs sl stk μr hd0 hS hP hμ hL hT
  obtain ⟨a1, stkh1, rfl, h1, hT1⟩ := zSR_cons hT
  cases h1
  obtain ⟨a2, stkh2, rfl, h2, hT2⟩ := zSR_cons hT1
  cases h2
  exact lv_icmp_lt C.1 C.2.1 hd ht (fun q => kt q l p e s m args below meth c C d H locs sl _ μr hd0 hS hP hμ hL  hT2) (fun q => kf q l p e s m args below meth c C d H locs sl _ μr hd0 hS hP hμ hL  hT2)
theorem zx_if_ge {g : ZG} {K : ZK} {pc : Nat} {ls : ZLS} {st : List ZV} {μ : ZMem} {x : Int32} {off : Int} {tgt : Nat} (hd : decode (zKc K) pc = .ok (.ifCond .ge off, 3)) (ht : (pc : Int) + off = (tgt : Int)) (kt : 0 ≤ x → zWA g K (tgt) ls (st) μ) (kf : ¬ 0 ≤ x → zWA g K (pc + 3) ls (st) μ) : zWA g K (pc) ls (zi x :: st) μ := by
  intro l p e s m args below meth c C d H locs sl stk μr hd0 hS hP hμ hL hT
  obtain ⟨a1, stkh1, rfl, h1, hT1⟩ := zSR_cons hT
  cases h1
  exact lv_if_ge C.1 C.2.1 hd ht (fun q => kt q l p e s m args below meth c C d H locs sl _ μr hd0 hS hP hμ hL  hT1) (fun q => kf q l p e s m args below meth c C d H locs sl _ μr hd0 hS hP hμ hL  hT1)
theorem zx_icmp_ge {g : ZG} {K : ZK} {pc : Nat} {ls : ZLS} {st : List ZV} {μ : ZMem} {x y : Int32} {off : Int} {tgt : Nat} (hd : decode (zKc K) pc = .ok (.if_icmp .ge off, 3)) (ht : (pc : Int) + off = (tgt : Int)) (kt : y ≤ x → zWA g K (tgt) ls (st) μ) (kf : ¬ y ≤ x → zWA g K (pc + 3) ls (st) μ) : zWA g K (pc) ls (zi y :: zi x :: st) μ := by
  intro l p e s m args below meth c C d H locs sl stk μr hd0 hS hP hμ hL hT
  obtain ⟨a1, stkh1, rfl, h1, hT1⟩ := zSR_cons hT
  cases h1
  obtain ⟨a2, stkh2, rfl, h2, hT2⟩ := zSR_cons hT1
  cases h2
  exact lv_icmp_ge C.1 C.2.1 hd ht (fun q => kt q l p e s m args below meth c C d H locs sl _ μr hd0 hS hP hμ hL  hT2) (fun q => kf q l p e s m args below meth c C d H locs sl _ μr hd0 hS hP hμ hL  hT2)
theorem zx_if_gt {g : ZG} {K : ZK} {pc : Nat} {ls : ZLS} {st : List ZV} {μ : ZMem} {x : Int32} {off : Int} {tgt : Nat} (hd : decode (zKc K) pc = .ok (.ifCond .gt off, 3)) (ht : (pc : Int) + off = (tgt : Int)) (kt : 0 < x → zWA g K (tgt) ls (st) μ) (kf : ¬ 0 < x → zWA g K (pc + 3) ls (st) μ) : zWA g K (pc) ls (zi x :: st) μ := by
  intro l p e s m args below meth c C d H locs sl stk μr hd0 hS hP hμ hL hT
  obtain ⟨a1, stkh1, rfl, h1, hT1⟩ := zSR_cons hT
  cases h1
  exact lv_if_gt C.1 C.2.1 hd ht (fun q => kt q l p e s m args below meth c C d H locs sl _ μr hd0 hS hP hμ hL  hT1) (fun q => kf q l p e s m args below meth c C d H locs sl _ μr hd0 hS hP hμ hL  hT1)
theorem zx_icmp_gt {g : ZG} {K : ZK} {pc : Nat} {ls : ZLS} {st : List ZV} {μ : ZMem} {x y : Int32} {off : Int} {tgt : Nat} (hd : decode (zKc K) pc = .ok (.if_icmp .gt off, 3)) (ht : (pc : Int) + off = (tgt : Int)) (kt : y < x → zWA g K (tgt) ls (st) μ) (kf : ¬ y < x → zWA g K (pc + 3) ls (st) μ) : zWA g K (pc) ls (zi y :: zi x :: st) μ := by
  intro l p e s m args below meth c C d H locs sl stk μr hd0 hS hP hμ hL hT
  obtain ⟨a1, stkh1, rfl, h1, hT1⟩ := zSR_cons hT
  cases h1
  obtain ⟨a2, stkh2, rfl, h2, hT2⟩ := zSR_cons hT1
  cases h2
  exact lv_icmp_gt C.1 C.2.1 hd ht (fun q => kt q l p e s m args below meth c C d H locs sl _ μr hd0 hS hP hμ hL  hT2) (fun q => kf q l p e s m args below meth c C d H locs sl _ μr hd0 hS hP hμ hL  hT2)
theorem zx_if_le {g : ZG} {K : ZK} {pc : Nat} {ls : ZLS} {st : List ZV} {μ : ZMem} {x : Int32} {off : Int} {tgt : Nat} (hd : decode (zKc K) pc = .ok (.ifCond .le off, 3)) (ht : (pc : Int) + off = (tgt : Int)) (kt : x ≤ 0 → zWA g K (tgt) ls (st) μ) (kf : ¬ x ≤ 0 → zWA g K (pc + 3) ls (st) μ) : zWA g K (pc) ls (zi x :: st) μ := by
  intro l p e s m args below meth c C d H locs sl stk μr hd0 hS hP hμ hL hT
  obtain ⟨a1, stkh1, rfl, h1, hT1⟩ := zSR_cons hT
  cases h1
  exact lv_if_le C.1 C.2.1 hd ht (fun q => kt q l p e s m args below meth c C d H locs sl _ μr hd0 hS hP hμ hL  hT1) (fun q => kf q l p e s m args below meth c C d H locs sl _ μr hd0 hS hP hμ hL  hT1)
theorem zx_icmp_le {g : ZG} {K : ZK} {pc : Nat} {ls : ZLS} {st : List ZV} {μ : ZMem} {x y : Int32} {off : Int} {tgt : Nat} (hd : decode (zKc K) pc = .ok (.if_icmp .le off, 3)) (ht : (pc : Int) + off = (tgt : Int)) (kt : x ≤ y → zWA g K (tgt) ls (st) μ) (kf : ¬ x ≤ y → zWA g K (pc + 3) ls (st) μ) : zWA g K (pc) ls (zi y :: zi x :: st) μ := by
  intro l p e s m args below meth c C d H locs sl stk μr hd0 hS hP hμ hL hT
  obtain ⟨a1, stkh1, rfl, h1, hT1⟩ := zSR_cons hT
  cases h1
  obtain ⟨a2, stkh2, rfl, h2, hT2⟩ := zSR_cons hT1
  cases h2
  exact lv_icmp_le C.1 C.2.1 hd ht (fun q => kt q l p e s m args below meth c C d H locs sl _ μr hd0 hS hP hμ hL  hT2) (fun q => kf q l p e s m args below meth c C d H locs sl _ μr hd0 hS hP hμ hL  hT2)
theorem zx_goto {g : ZG} {K : ZK} {pc : Nat} {ls : ZLS} {st : List ZV} {μ : ZMem} {off : Int} {tgt : Nat} (hd : decode (zKc K) pc = .ok (.goto off, 3)) (ht : (pc : Int) + off = (tgt : Int)) (k : zWA g K (tgt) ls (st) μ) : zWA g K (pc) ls (st) μ := by
  intro l p e s m args below meth c C d H locs sl stk μr hd0 hS hP hμ hL hT
  exact lv_goto C.1 C.2.1 hd ht (k l p e s m args below meth c C d H locs sl _ μr hd0 hS hP hμ hL hT)
theorem zx_ifnull {g : ZG} {K : ZK} {pc : Nat} {ls : ZLS} {st : List ZV} {μ : ZMem} {x : Option Nat} {off : Int} {tgt : Nat} (hd : decode (zKc K) pc = .ok (.ifnull off, 3)) (ht : (pc : Int) + off = (tgt : Int)) (kn : x = none → zWA g K (tgt) ls (st) μ) (ks : ∀ r, x = some r → zWA g K (pc + 3) ls (st) μ) : zWA g K (pc) ls (zr x :: st) μ := by
  intro l p e s m args below meth c C d H locs sl stk μr hd0 hS hP hμ hL hT
  obtain ⟨a1, stk1, rfl, h1, hT1⟩ := zSR_cons hT
  have h1 : a1 = va_rf (x.map (zad g)) := h1
  subst h1
  cases x with
  | none => exact lv_ifnullN C.1 C.2.1 hd ht (kn rfl l p e s m args below meth c C d H locs sl _ μr hd0 hS hP hμ hL  hT1)
  | some r => exact lv_ifnull C.1 C.2.1 hd  (ks r rfl l p e s m args below meth c C d H locs sl _ μr hd0 hS hP hμ hL  hT1)
theorem zx_ifnonnull {g : ZG} {K : ZK} {pc : Nat} {ls : ZLS} {st : List ZV} {μ : ZMem} {x : Option Nat} {off : Int} {tgt : Nat} (hd : decode (zKc K) pc = .ok (.ifnonnull off, 3)) (ht : (pc : Int) + off = (tgt : Int)) (kn : x = none → zWA g K (pc + 3) ls (st) μ) (ks : ∀ r, x = some r → zWA g K (tgt) ls (st) μ) : zWA g K (pc) ls (zr x :: st) μ := by
  intro l p e s m args below meth c C d H locs sl stk μr hd0 hS hP hμ hL hT
  obtain ⟨a1, stk1, rfl, h1, hT1⟩ := zSR_cons hT
  have h1 : a1 = va_rf (x.map (zad g)) := h1
  subst h1
  cases x with
  | none => exact lv_ifnonnullN C.1 C.2.1 hd  (kn rfl l p e s m args below meth c C d H locs sl _ μr hd0 hS hP hμ hL  hT1)
  | some r => exact lv_ifnonnull C.1 C.2.1 hd ht (ks r rfl l p e s m args below meth c C d H locs sl _ μr hd0 hS hP hμ hL  hT1)
theorem zx_acmp_eq {g : ZG} {K : ZK} {pc : Nat} {ls : ZLS} {st : List ZV} {μ : ZMem} {x y : Option Nat} {off : Int} {tgt : Nat} (hd : decode (zKc K) pc = .ok (.if_acmp .eq off, 3)) (ht : (pc : Int) + off = (tgt : Int)) (hx : ∀ r, x = some r → r ∈ zrs g) (hy : ∀ r, y = some r → r ∈ zrs g) (kt : x = y → zWA g K (tgt) ls (st) μ) (kf : ¬ x = y → zWA g K (pc + 3) ls (st) μ) : zWA g K (pc) ls (zr y :: zr x :: st) μ := by
  intro l p e s m args below meth c C d H locs sl stk μr hd0 hS hP hμ hL hT
  obtain ⟨a1, stk1, rfl, h1, hT1⟩ := zSR_cons hT
  obtain ⟨a2, stk2, rfl, h2, hT2⟩ := zSR_cons hT1
  have h1 : a1 = va_rf (y.map (zad g)) := h1
  have h2 : a2 = va_rf (x.map (zad g)) := h2
  subst h1
  subst h2
  have hA : zAp g := C.2.2.2.2.2.2.2.2.1
  have hq : x.map (zad g) = y.map (zad g) → x = y := by
    intro h
    cases x with
    | none => cases y with
      | none => rfl
      | some b => cases h
    | some a => cases y with
      | none => cases h
      | some b => rw [zAp_inj hA (hx a rfl) (hy b rfl) (Option.some.inj h)]
  exact lv_acmp_eq C.1 C.2.1 hd ht (fun q => kt (hq q) l p e s m args below meth c C d H locs sl _ μr hd0 hS hP hμ hL  hT2) (fun q => kf (fun z => q (by rw [z])) l p e s m args below meth c C d H locs sl _ μr hd0 hS hP hμ hL  hT2)
theorem zx_acmp_ne {g : ZG} {K : ZK} {pc : Nat} {ls : ZLS} {st : List ZV} {μ : ZMem} {x y : Option Nat} {off : Int} {tgt : Nat} (hd : decode (zKc K) pc = .ok (.if_acmp .ne off, 3)) (ht : (pc : Int) + off = (tgt : Int)) (hx : ∀ r, x = some r → r ∈ zrs g) (hy : ∀ r, y = some r → r ∈ zrs g) (kt : ¬ x = y → zWA g K (tgt) ls (st) μ) (kf : x = y → zWA g K (pc + 3) ls (st) μ) : zWA g K (pc) ls (zr y :: zr x :: st) μ := by
  intro l p e s m args below meth c C d H locs sl stk μr hd0 hS hP hμ hL hT
  obtain ⟨a1, stk1, rfl, h1, hT1⟩ := zSR_cons hT
  obtain ⟨a2, stk2, rfl, h2, hT2⟩ := zSR_cons hT1
  have h1 : a1 = va_rf (y.map (zad g)) := h1
  have h2 : a2 = va_rf (x.map (zad g)) := h2
  subst h1
  subst h2
  have hA : zAp g := C.2.2.2.2.2.2.2.2.1
  have hq : x.map (zad g) = y.map (zad g) → x = y := by
    intro h
    cases x with
    | none => cases y with
      | none => rfl
      | some b => cases h
    | some a => cases y with
      | none => cases h
      | some b => rw [zAp_inj hA (hx a rfl) (hy b rfl) (Option.some.inj h)]
  exact lv_acmp_ne C.1 C.2.1 hd ht (fun q => kt (fun z => q (by rw [z])) l p e s m args below meth c C d H locs sl _ μr hd0 hS hP hμ hL  hT2) (fun q => kf (hq q) l p e s m args below meth c C d H locs sl _ μr hd0 hS hP hμ hL  hT2)
end
section
/-- what is known of a field's place in a constant pool: which class's which field -/
def zFd (own : String) (index ci k : Nat) (fin : Bool) : Prop := ∃ (C : String) (T : u_T) (N : Nat), vwCl[ci]? = some (C, T, N) ∧ N = znf ci ∧ ci < 8 ∧ (∀ w ∈ u_ws C T N, w ∈ lw_good) ∧ k < N ∧ Cond.fieldLink own index (T k).1 (T k).2.1 (T k).2.2.1 ∈ lw_good ∧ (∀ k, k < N → parseFieldDescriptor (T k).2.2.1 = some (zft ci k)) ∧ (∀ a, a < N → ∀ b, b < N → a ≠ b → (T a).2.1 ≠ (T b).2.1) ∧ (T k).2.2.2 = fin
theorem zgood_of {w : Cond} (h : w ∈ lw_good) : (w.onTables && w.keeps) = true ∨ ∃ ty, w = .arrayClass ty := good_of_word (List.mem_filter.mp h).2
theorem zgoodIn {y : MethodName} {bytes : ByteArray} {maxL : Nat} {ret : Option FieldType} (h : Cond.code y bytes maxL ret ∈ lw_good) : GoodIn lw_good (.code y bytes maxL ret :: lw_good) := by
  intro w hw
  rcases List.mem_cons.mp hw with rfl | hw
  · exact ⟨h, zgood_of h⟩
  · exact ⟨hw, zgood_of hw⟩
theorem zPc_blind (g : ZG) (μr : ZMem) (as : List Value) : FrameBlind (va_Pc as (fun U => va_P (zgD g) vwCl (zws g μr) U.heap ∧ va_K (zgD g) vwCl (ztys g) U ∧ zNst U ∧ zZs g U U.heap)) := fun a U gf mk q =>
  ⟨q.1, q.2.1, va_K.moved (u := U) (U := U.calling gf mk a) (Vm.Alike.refl U.vm) q.2.2.1, fun z hz => va_Nw.same rfl (rfl : U.vm = (U.calling gf mk a).vm) (q.2.2.2.1 z hz), va_Z.moved (u := U) (U := U.calling gf mk a) (Vm.Alike.refl U.vm) q.2.2.2.2⟩
theorem zPc_pre {g : ZG} {K : ZK} {p : Program} {s : State} {m : MethodId} {args : Array Value} {meth : Method} {c : Code} (C : zCX g K p s m args meth c) {d : Drawn} {H : Heap} {locs : List Loc} {μr : ZMem} (hS : va_S (zRg g) s.heap H locs) (hP : va_P (zgD g) vwCl (zws g μr) H) (as : List Value) :
    ∀ U : State, U.heap = H → (s.setDrawn d).WarmedH U.vm → va_Pc as (fun U => va_P (zgD g) vwCl (zws g μr) U.heap ∧ va_K (zgD g) vwCl (ztys g) U ∧ zNst U ∧ zZs g U U.heap) as.toArray U := fun U hU hW =>
  ⟨rfl, by rw [hU]; exact hP, va_K.moved hW.alike C.2.2.2.2.2.2.2.1, fun z hz => va_Nw.warmM hW ((Cond.before_setDrawn #[] s d _).trans (C.2.2.2.2.2.2.2.2.2.1 z hz)), by rw [hU]; exact va_Z.moved hW.alike (va_Z.kept C.2.2.2.2.2.2.2.2.2.2 hS.2.1)⟩
theorem zRo_list {g : ZG} {w : Option Value} {res : Option ZV} {rest : List Value} {st : List ZV} (h : zRo g w res) (hT : zSR g rest st) : zSR g (w.toList ++ rest) (res.toList ++ st) := by
  cases w with
  | none => cases res with
    | none => exact hT
    | some v => exact h.elim
  | some a => cases res with
    | none => exact h.elim
    | some v => exact ⟨h, hT⟩
theorem zcont {g : ZG} {K : ZK} {pc : Nat} {ls : ZLS} {st : List ZV} {res : Option ZV} {μ1 : ZMem} {l : Launch} {p : Program} {e : Env} {s : State} {m : MethodId} {args : Array Value} {below : List Frame} {meth : Method} {c : Code} (C : zCX g K p s m args meth c) {d : Drawn} {H : Heap} {locs : List Loc} {sl : Array Slot} {stk0 rest : List Value} {a : Array Value}
    (hd0 : s.drawn.sameBut d lw_cs) (hS : va_S (zRg g) s.heap H locs) (hL : zLR g sl (zKn K) ls) (hT : zSR g rest st)
    (hr : va_RunD lw_cs p l e (zKR K) (s.setDrawn d) m args below meth c H locs 0 0 0 0 (F0 m pc sl stk0) rest (zQC g res μ1 a) (zRg g)) (kk : zWA g K (pc + 3) ls (res.toList ++ st) μ1) :
    W p l e (zKR K) (s.setDrawn d) m args below meth c H locs 0 0 (MQD lw_cs below (zQC g (zKa K) (zKm K)) args s 0 0 (zRg g)) (F0 m pc sl stk0) := by
  intro T hT0 X
  obtain ⟨v, st₀, t, T', L, d', hd', h0, X', hL', e1, e2, ⟨⟨w, μ2, hw, hro, hμ2, hP2⟩, hz, hk⟩, stp⟩ := hr T hT0 X
  cases hw
  rw [h0] at hz hk
  obtain ⟨t2, a1, b1⟩ := kk l p e s m args below meth c C d' T'.heap (locs ++ L) sl (v.toList ++ rest) μ2 (hd0.trans hd')
    ⟨Nat.le_trans hS.1 (by rw [e1]; exact hz), fun q h1 h2 => by rw [e1, hk q (Nat.lt_of_lt_of_le h1 hS.1) h2]; exact hS.2.1 q h1 h2, fun q hq => by
      rcases List.mem_append.mp hq with h | h
      · exact hS.2.2 q h
      · exact hL' q h⟩ (by rw [e1]; exact hP2) hμ2 hL (zRo_list hro hT) T' rfl X'
  exact ⟨t2, stp t2 a1, b1⟩
def zwt (st : List ZV) : Nat := (st.map fun v => if zc2 v = true then 2 else 1).sum
theorem zwt_eq {g : ZG} : ∀ {as : List Value} {st : List ZV}, zSR g as st → (as.map fun v => v.category).sum = zwt st
  | [], [], _ => rfl
  | [], _ :: _, h => h.elim
  | _ :: _, [], h => h.elim
  | a :: as, v :: st, h => by
    show a.category + (as.map fun v => v.category).sum = (if zc2 v = true then 2 else 1) + zwt st
    rw [zwt_eq h.2]
    by_cases hc : zc2 v = true
    · rw [if_pos hc, (zRv_cat h.1).mpr hc]
    · rw [if_neg hc, zRv_cat1 h.1 (by simpa using hc)]
/-- a call's words: of an object's method, of a static one, of a nest mate's static one -/
def zLv (own : String) (index : Nat) (C : String) (y : MethodName) (bytes : ByteArray) (maxL : Nat) (ret : Option FieldType) (n : Nat) : Prop := Cond.methodLink own index y ∈ lw_good ∧ Cond.instanceMethod y ∈ lw_good ∧ Cond.selects C y y ∈ lw_good ∧ Cond.initialized y.cls ∈ lw_good ∧ Cond.code y bytes maxL ret ∈ lw_good ∧ (y.cls ≠ "java/lang/invoke/MethodHandle" ∧ y.cls ≠ "java/lang/invoke/VarHandle" ∧ (parseMethodDescriptor y.desc).map (fun d => d.parameters.length) = some n)
def zLs (own : String) (index : Nat) (y : MethodName) (bytes : ByteArray) (maxL : Nat) (ret : Option FieldType) (n : Nat) : Prop := Cond.methodLink own index y ∈ lw_good ∧ Cond.static y ∈ lw_good ∧ Cond.initialized y.cls ∈ lw_good ∧ Cond.code y bytes maxL ret ∈ lw_good ∧ (y.cls ≠ "java/lang/invoke/MethodHandle" ∧ y.cls ≠ "java/lang/invoke/VarHandle" ∧ (parseMethodDescriptor y.desc).map (fun d => d.parameters.length) = some n)
def zLn (own : String) (index : Nat) (y : MethodName) (host : String) (bytes : ByteArray) (maxL : Nat) (ret : Option FieldType) (n : Nat) : Prop := (own, index, y, host) ∈ znest ∧ Cond.static y ∈ lw_good ∧ Cond.initialized y.cls ∈ lw_good ∧ Cond.code y bytes maxL ret ∈ lw_good ∧ (y.cls ≠ "java/lang/invoke/MethodHandle" ∧ y.cls ≠ "java/lang/invoke/VarHandle" ∧ (parseMethodDescriptor y.desc).map (fun d => d.parameters.length) = some n)
def zRoom (K : ZK) (Rc : Room) (maxL : Nat) : Prop := Rc.cells = 0 ∧ Rc.slots = 0 ∧ Rc.frames + 1 ≤ (zKR K).frames ∧ 8 + (maxL + 11) + Rc.locals ≤ (zKR K).locals
theorem zx_callV {g : ZG} {K : ZK} {pc : Nat} {ls : ZLS} (st : List ZV) {μ : ZMem} {y : MethodName} {bytes : ByteArray} {maxL n index : Nat} {ret : Option FieldType} {Rc : Room} {As : List ZV} {res : Option ZV} {μ1 : ZMem} {st0 : List ZV} {ci r : Nat} {Cl : String} {T : u_T} {N : Nat} (hl : zLv (zKo K) index Cl y bytes maxL ret n) (hM : zCab g y.cls y bytes maxL ret Rc (zr (some r) :: As) μ res μ1) (hO : zO g ci r) (hc8 : ci < 8) (hcl : vwCl[ci]? = some (Cl, T, N)) (hst : st0 = As.reverse ++ (zr (some r) :: st)) (hn : As.length = n) (hR : zRoom K Rc maxL) (hw : zwt st ≤ 8) (hd : decode (zKc K) pc = .ok (.invokevirtual index, 3)) (kk : zWA g K (pc + 3) ls (res.toList ++ st) μ1) : zWA g K (pc) ls (st0) μ := by
  intro l p e s m args below meth c C d H locs sl stk μr hd0 hS hP hμ hL hT
  subst hst
  obtain ⟨as, stk2, rfl, hA, hT2⟩ := zSR_app (us := As.reverse) hT
  have hA2 : zSR g as.reverse As := by
    have := zSR_rev hA
    rwa [List.reverse_reverse] at this
  have hlen : as.reverse.length = n := (zSR_len hA2).trans hn
  obtain ⟨ar, stk3, rfl, hr, hT3⟩ := zSR_cons hT2
  have hr : ar = .ref (zad g r) := hr
  subst hr
  obtain ⟨q1, q2, q3, q4, q5, q6⟩ := hl
  obtain ⟨q0, hq0, hq⟩ := zws_at hO.1
  have hrec := va_recv (s := s.setDrawn d) C.2.2.2.2.2.2.2.1 hP hcl ((hq μr).trans (by rw [zpc_obj hO hc8]))
  have cb := callB_of (R := zKR K) (own := zKo K) n (dr_words C.2.2.2.2.1 d) (zgoodIn q5) rfl hR.1 hR.2.1 ((dr_words C.2.2.2.2.1 d) _ q4) ((dr_words C.2.2.2.2.1 d) _ q1) q6 hR.2.2
  exact zcont C hd0 hS hL hT3 (va_runV_D (As := as.reverse) (rest := stk3) ⟨C.1, C.2.1, C.2.2.1, C.2.2.2.1, (dr_words C.2.2.2.2.1 d)⟩ (hM C.2.2.2.2.2.2.2.2.1 l (.ref (zad g r) :: as.reverse) μr ⟨rfl, hA2⟩ hμ) ⟨cb, (dr_words C.2.2.2.2.1 d) _ q2, (dr_words C.2.2.2.2.1 d) _ q3⟩ ⟨zPc_blind g μr _, hrec, zPc_pre C hS hP _⟩ rfl hlen (by obtain ⟨lv, h1, -⟩ := hL; exact h1.1) (by rw [List.reverse_reverse]) (by show 2 * 0 + _ ≤ 8; rw [zwt_eq hT3]; omega) hd ⟨Nat.zero_le _, Nat.zero_le _⟩) kk
theorem zx_callS {g : ZG} {K : ZK} {pc : Nat} {ls : ZLS} (st : List ZV) {μ : ZMem} {y : MethodName} {bytes : ByteArray} {maxL n index : Nat} {ret : Option FieldType} {Rc : Room} {As : List ZV} {res : Option ZV} {μ1 : ZMem} {st0 : List ZV} (hl : zLs (zKo K) index y bytes maxL ret n) (hM : zCab g y.cls y bytes maxL ret Rc As μ res μ1) (hst : st0 = As.reverse ++ st) (hn : As.length = n) (hR : zRoom K Rc maxL) (hw : zwt st ≤ 8) (hd : decode (zKc K) pc = .ok (.invokestatic index, 3)) (kk : zWA g K (pc + 3) ls (res.toList ++ st) μ1) : zWA g K (pc) ls (st0) μ := by
  intro l p e s m args below meth c C d H locs sl stk μr hd0 hS hP hμ hL hT
  subst hst
  obtain ⟨as, stk2, rfl, hA, hT2⟩ := zSR_app (us := As.reverse) hT
  have hA2 : zSR g as.reverse As := by
    have := zSR_rev hA
    rwa [List.reverse_reverse] at this
  have hlen : as.reverse.length = n := (zSR_len hA2).trans hn
  obtain ⟨q1, q2, q4, q5, q6⟩ := hl
  have cb := callB_of (R := zKR K) (own := zKo K) n (dr_words C.2.2.2.2.1 d) (zgoodIn q5) rfl hR.1 hR.2.1 ((dr_words C.2.2.2.2.1 d) _ q4) ((dr_words C.2.2.2.2.1 d) _ q1) q6 hR.2.2
  exact zcont C hd0 hS hL hT2 (va_runS_D (As := as.reverse) (rest := stk2) ⟨C.1, C.2.1, C.2.2.1, C.2.2.2.1, (dr_words C.2.2.2.2.1 d)⟩ (hM C.2.2.2.2.2.2.2.2.1 l as.reverse μr hA2 hμ) ⟨cb, (dr_words C.2.2.2.2.1 d) _ q2⟩ ⟨zPc_blind g μr _, zPc_pre C hS hP _⟩ rfl hlen (by obtain ⟨lv, h1, -⟩ := hL; exact h1.1) (by rw [List.reverse_reverse]) (by show 2 * 0 + _ ≤ 8; rw [zwt_eq hT2]; omega) hd ⟨Nat.zero_le _, Nat.zero_le _⟩) kk
theorem zx_callN {g : ZG} {K : ZK} {pc : Nat} {ls : ZLS} (st : List ZV) {μ : ZMem} {y : MethodName} {bytes : ByteArray} {maxL n index : Nat} {ret : Option FieldType} {Rc : Room} {As : List ZV} {res : Option ZV} {μ1 : ZMem} {st0 : List ZV} {host : String} (hl : zLn (zKo K) index y host bytes maxL ret n) (hM : zCab g y.cls y bytes maxL ret Rc As μ res μ1) (hst : st0 = As.reverse ++ st) (hn : As.length = n) (hR : zRoom K Rc maxL) (hw : zwt st ≤ 8) (hd : decode (zKc K) pc = .ok (.invokestatic index, 3)) (kk : zWA g K (pc + 3) ls (res.toList ++ st) μ1) : zWA g K (pc) ls (st0) μ := by
  intro l p e s m args below meth c C d H locs sl stk μr hd0 hS hP hμ hL hT
  subst hst
  obtain ⟨as, stk2, rfl, hA, hT2⟩ := zSR_app (us := As.reverse) hT
  have hA2 : zSR g as.reverse As := by
    have := zSR_rev hA
    rwa [List.reverse_reverse] at this
  have hlen : as.reverse.length = n := (zSR_len hA2).trans hn
  obtain ⟨q1, q2, q4, q5, q6⟩ := hl
  have cb := va_cnB (R := zKR K) (own := zKo K) (host := host) n (dr_words C.2.2.2.2.1 d) (zgoodIn q5) rfl hR.1 hR.2.1 ((Cond.before_setDrawn #[] s d _).trans (C.2.2.2.2.2.2.2.2.2.1 _ q1)) ((dr_words C.2.2.2.2.1 d) _ q4) q6 hR.2.2
  exact zcont C hd0 hS hL hT2 (va_runSN_D (As := as.reverse) (rest := stk2) ⟨C.1, C.2.1, C.2.2.1, C.2.2.2.1, (dr_words C.2.2.2.2.1 d)⟩ (hM C.2.2.2.2.2.2.2.2.1 l as.reverse μr hA2 hμ) ⟨cb, (dr_words C.2.2.2.2.1 d) _ q2, trivial⟩ ⟨zPc_blind g μr _, zPc_pre C hS hP _⟩ rfl hlen (by obtain ⟨lv, h1, -⟩ := hL; exact h1.1) (by rw [List.reverse_reverse]) (by show 2 * 0 + _ ≤ 8; rw [zwt_eq hT2]; omega) hd ⟨Nat.zero_le _, Nat.zero_le _⟩) kk
theorem zx_getL {g : ZG} {K : ZK} {pc : Nat} {ls : ZLS} {st : List ZV} {μ : ZMem} {ci k r index : Nat} {fin : Bool} (hf : zFd (zKo K) index ci k fin) (hO : zO g ci r) (ht : zft ci k = .long) (hd : decode (zKc K) pc = .ok (.getfield index, 3)) (kk : zWA g K (pc + 3) ls (zl (zL μ r k) :: st) μ) : zWA g K (pc) ls (zr (some r) :: st) μ := by
  intro l p e s m args below meth c C d H locs sl stk μr hd0 hS hP hμ hL hT
  obtain ⟨a1, stk1, rfl, h1, hT1⟩ := zSR_cons hT
  have h1 : a1 = .ref (zad g r) := h1
  subst h1
  subst hμ
  obtain ⟨C0, T, N, q1, q2, q3, q4, q5, q6, -, -, -⟩ := hf
  obtain ⟨q0, hq0, hq⟩ := zws_at hO.1
  refine va_get (D := zgD g) (ci := ci) (v := zsv g μr r k (zft ci k)) (C := C0) (T := T) (N := N) C.1 C.2.1 (dr_words C.2.2.2.2.1 d) q4 C.2.2.2.1 C.2.2.2.2.2.2.2.1 hP q0 ((hq μr).trans (by rw [zpc_obj hO q3])) q1 k q5 ((dr_words C.2.2.2.2.1 d) _ q6) (fun _ h => h) (zfs_get (by rw [← q2]; exact q5)) hd ?_
  rw [ht]
  exact kk l p e s m args below meth c C d H locs sl _ μr hd0 hS hP rfl hL ⟨rfl, hT1⟩
theorem zx_getD {g : ZG} {K : ZK} {pc : Nat} {ls : ZLS} {st : List ZV} {μ : ZMem} {ci k r index : Nat} {fin : Bool} (hf : zFd (zKo K) index ci k fin) (hO : zO g ci r) (ht : zft ci k = .double) (hd : decode (zKc K) pc = .ok (.getfield index, 3)) (kk : zWA g K (pc + 3) ls (zd (zD μ r k) :: st) μ) : zWA g K (pc) ls (zr (some r) :: st) μ := by
  intro l p e s m args below meth c C d H locs sl stk μr hd0 hS hP hμ hL hT
  obtain ⟨a1, stk1, rfl, h1, hT1⟩ := zSR_cons hT
  have h1 : a1 = .ref (zad g r) := h1
  subst h1
  subst hμ
  obtain ⟨C0, T, N, q1, q2, q3, q4, q5, q6, -, -, -⟩ := hf
  obtain ⟨q0, hq0, hq⟩ := zws_at hO.1
  refine va_get (D := zgD g) (ci := ci) (v := zsv g μr r k (zft ci k)) (C := C0) (T := T) (N := N) C.1 C.2.1 (dr_words C.2.2.2.2.1 d) q4 C.2.2.2.1 C.2.2.2.2.2.2.2.1 hP q0 ((hq μr).trans (by rw [zpc_obj hO q3])) q1 k q5 ((dr_words C.2.2.2.2.1 d) _ q6) (fun _ h => h) (zfs_get (by rw [← q2]; exact q5)) hd ?_
  rw [ht]
  exact kk l p e s m args below meth c C d H locs sl _ μr hd0 hS hP rfl hL ⟨⟨_, rfl, rfl⟩, hT1⟩
theorem zx_getI {g : ZG} {K : ZK} {pc : Nat} {ls : ZLS} {st : List ZV} {μ : ZMem} {ci k r index : Nat} {fin : Bool} (hf : zFd (zKo K) index ci k fin) (hO : zO g ci r) (ht : zft ci k = .int ∨ zft ci k = .boolean) (hd : decode (zKc K) pc = .ok (.getfield index, 3)) (kk : zWA g K (pc + 3) ls (zi (zI μ r k) :: st) μ) : zWA g K (pc) ls (zr (some r) :: st) μ := by
  intro l p e s m args below meth c C d H locs sl stk μr hd0 hS hP hμ hL hT
  obtain ⟨a1, stk1, rfl, h1, hT1⟩ := zSR_cons hT
  have h1 : a1 = .ref (zad g r) := h1
  subst h1
  subst hμ
  obtain ⟨C0, T, N, q1, q2, q3, q4, q5, q6, -, -, -⟩ := hf
  obtain ⟨q0, hq0, hq⟩ := zws_at hO.1
  refine va_get (D := zgD g) (ci := ci) (v := zsv g μr r k (zft ci k)) (C := C0) (T := T) (N := N) C.1 C.2.1 (dr_words C.2.2.2.2.1 d) q4 C.2.2.2.1 C.2.2.2.2.2.2.2.1 hP q0 ((hq μr).trans (by rw [zpc_obj hO q3])) q1 k q5 ((dr_words C.2.2.2.2.1 d) _ q6) (fun _ h => h) (zfs_get (by rw [← q2]; exact q5)) hd ?_
  rcases ht with ht | ht
  · rw [ht]
    exact kk l p e s m args below meth c C d H locs sl _ μr hd0 hS hP rfl hL ⟨rfl, hT1⟩
  · rw [ht]
    exact kk l p e s m args below meth c C d H locs sl _ μr hd0 hS hP rfl hL ⟨rfl, hT1⟩
theorem zx_getR {g : ZG} {K : ZK} {pc : Nat} {ls : ZLS} {st : List ZV} {μ : ZMem} {ci k r index : Nat} {fin : Bool} (hf : zFd (zKo K) index ci k fin) (hO : zO g ci r) {o' : Option Nat} (hR : zR μ r k = o') (ht : zref (zft ci k) = true) (hd : decode (zKc K) pc = .ok (.getfield index, 3)) (kk : zWA g K (pc + 3) ls (zr o' :: st) μ) : zWA g K (pc) ls (zr (some r) :: st) μ := by
  intro l p e s m args below meth c C d H locs sl stk μr hd0 hS hP hμ hL hT
  obtain ⟨a1, stk1, rfl, h1, hT1⟩ := zSR_cons hT
  have h1 : a1 = .ref (zad g r) := h1
  subst h1
  subst hμ
  obtain ⟨C0, T, N, q1, q2, q3, q4, q5, q6, -, -, -⟩ := hf
  obtain ⟨q0, hq0, hq⟩ := zws_at hO.1
  refine va_get (D := zgD g) (ci := ci) (v := zsv g μr r k (zft ci k)) (C := C0) (T := T) (N := N) C.1 C.2.1 (dr_words C.2.2.2.2.1 d) q4 C.2.2.2.1 C.2.2.2.2.2.2.2.1 hP q0 ((hq μr).trans (by rw [zpc_obj hO q3])) q1 k q5 ((dr_words C.2.2.2.2.1 d) _ q6) (fun _ h => h) (zfs_get (by rw [← q2]; exact q5)) hd ?_
  subst hR
  have e9 : zsv g μr r k (zft ci k) = va_rf ((zR (zcM μr) r k).map (zad g)) := by
    revert ht
    cases zft ci k <;> intro ht <;> first | rfl | (exact absurd ht (by decide))
  rw [e9]
  exact kk l p e s m args below meth c C d H locs sl _ μr hd0 hS hP rfl hL ⟨rfl, hT1⟩
theorem zx_putI {g : ZG} {K : ZK} {pc : Nat} {ls : ZLS} {st : List ZV} {μ : ZMem} {ci k r index : Nat} (hf : zFd (zKo K) index ci k false) (hO : zO g ci r) {x : Int32} (hx : narrow (zft ci k) (.int x) = .int x ∧ fits (zft ci k) (.int x) = true) (ht : zft ci k = .int ∨ zft ci k = .boolean) (hd : decode (zKc K) pc = .ok (.putfield index, 3)) (kk : zWA g K (pc + 3) ls (st) (zsI μ r k x)) : zWA g K (pc) ls (zi x :: zr (some r) :: st) μ := by
  intro l p e s m args below meth c C d H locs sl stk μr hd0 hS hP hμ hL hT
  obtain ⟨a1, stk1, rfl, h1, hT1⟩ := zSR_cons hT
  cases h1
  obtain ⟨a2, stk2, rfl, h2, hT2⟩ := zSR_cons hT1
  have h2 : a2 = .ref (zad g r) := h2
  subst h2
  subst hμ
  obtain ⟨C0, T, N, q1, q2, q3, q4, q5, q6, q7, q8, q9⟩ := hf
  obtain ⟨q0, hq0, hq⟩ := zws_at hO.1
  refine va_put (D := zgD g) (ci := ci) (v := .int x) (ty := zft ci k) (C := C0) (T := T) (N := N) C.1 C.2.1 (dr_words C.2.2.2.2.1 d) q4 (zft ci) q7 q8 C.2.2.2.1 C.2.2.2.2.2.2.2.1 hP (zws_D C.2.2.2.2.2.2.2.2.1 μr) hS q0 ((hq μr).trans (by rw [zpc_obj hO q3])) q1 k q5 ((dr_words C.2.2.2.2.1 d) _ q6) (fun _ h => h) q9 (q7 k q5) hx.1 hx.2 (by rw [zfs_len, ← q2]; exact q5) hd (fun H1 locs1 hP1 _ hS1 => ?_)
  rw [zws_set (μ' := zsI μr r k x) C.2.2.2.2.2.2.2.2.1 hq0 zpc_oI (by rw [zpc_obj hO q3, zfs_sI ht])] at hP1
  exact kk l p e s m args below meth c C d H1 locs1 sl _ (zsI μr r k x) hd0 hS1 hP1 rfl hL hT2
theorem zx_putL {g : ZG} {K : ZK} {pc : Nat} {ls : ZLS} {st : List ZV} {μ : ZMem} {ci k r index : Nat} (hf : zFd (zKo K) index ci k false) (hO : zO g ci r) {x : Int64} (ht : zft ci k = .long) (hd : decode (zKc K) pc = .ok (.putfield index, 3)) (kk : zWA g K (pc + 3) ls (st) (zsL μ r k x)) : zWA g K (pc) ls (zl x :: zr (some r) :: st) μ := by
  intro l p e s m args below meth c C d H locs sl stk μr hd0 hS hP hμ hL hT
  obtain ⟨a1, stk1, rfl, h1, hT1⟩ := zSR_cons hT
  cases h1
  obtain ⟨a2, stk2, rfl, h2, hT2⟩ := zSR_cons hT1
  have h2 : a2 = .ref (zad g r) := h2
  subst h2
  subst hμ
  obtain ⟨C0, T, N, q1, q2, q3, q4, q5, q6, q7, q8, q9⟩ := hf
  obtain ⟨q0, hq0, hq⟩ := zws_at hO.1
  refine va_put (D := zgD g) (ci := ci) (v := .long x) (ty := zft ci k) (C := C0) (T := T) (N := N) C.1 C.2.1 (dr_words C.2.2.2.2.1 d) q4 (zft ci) q7 q8 C.2.2.2.1 C.2.2.2.2.2.2.2.1 hP (zws_D C.2.2.2.2.2.2.2.2.1 μr) hS q0 ((hq μr).trans (by rw [zpc_obj hO q3])) q1 k q5 ((dr_words C.2.2.2.2.1 d) _ q6) (fun _ h => h) q9 (q7 k q5) (by rw [ht]; rfl) (by rw [ht]; rfl) (by rw [zfs_len, ← q2]; exact q5) hd (fun H1 locs1 hP1 _ hS1 => ?_)
  rw [zws_set (μ' := zsL μr r k x) C.2.2.2.2.2.2.2.2.1 hq0 zpc_oL (by rw [zpc_obj hO q3, zfs_sL ht])] at hP1
  exact kk l p e s m args below meth c C d H1 locs1 sl _ (zsL μr r k x) hd0 hS1 hP1 rfl hL hT2
theorem zx_putD {g : ZG} {K : ZK} {pc : Nat} {ls : ZLS} {st : List ZV} {μ : ZMem} {ci k r index : Nat} (hf : zFd (zKo K) index ci k false) (hO : zO g ci r) {x : UInt64} (ht : zft ci k = .double) (hd : decode (zKc K) pc = .ok (.putfield index, 3)) (kk : zWA g K (pc + 3) ls (st) (zsD μ r k x)) : zWA g K (pc) ls (zd x :: zr (some r) :: st) μ := by
  intro l p e s m args below meth c C d H locs sl stk μr hd0 hS hP hμ hL hT
  obtain ⟨a1, stk1, rfl, h1, hT1⟩ := zSR_cons hT
  obtain ⟨y, rfl, rfl⟩ := h1
  obtain ⟨a2, stk2, rfl, h2, hT2⟩ := zSR_cons hT1
  have h2 : a2 = .ref (zad g r) := h2
  subst h2
  subst hμ
  obtain ⟨C0, T, N, q1, q2, q3, q4, q5, q6, q7, q8, q9⟩ := hf
  obtain ⟨q0, hq0, hq⟩ := zws_at hO.1
  refine va_put (D := zgD g) (ci := ci) (v := .double y) (ty := zft ci k) (C := C0) (T := T) (N := N) C.1 C.2.1 (dr_words C.2.2.2.2.1 d) q4 (zft ci) q7 q8 C.2.2.2.1 C.2.2.2.2.2.2.2.1 hP (zws_D C.2.2.2.2.2.2.2.2.1 μr) hS q0 ((hq μr).trans (by rw [zpc_obj hO q3])) q1 k q5 ((dr_words C.2.2.2.2.1 d) _ q6) (fun _ h => h) q9 (q7 k q5) (by rw [ht]; rfl) (by rw [ht]; rfl) (by rw [zfs_len, ← q2]; exact q5) hd (fun H1 locs1 hP1 _ hS1 => ?_)
  rw [zws_set (μ' := zsD μr r k y) C.2.2.2.2.2.2.2.2.1 hq0 zpc_oD (by rw [zpc_obj hO q3, zfs_sD ht])] at hP1
  exact kk l p e s m args below meth c C d H1 locs1 sl _ (zsD μr r k y) hd0 hS1 hP1 (zcM_sD _ _ _ _) hL hT2
theorem zx_putR {g : ZG} {K : ZK} {pc : Nat} {ls : ZLS} {st : List ZV} {μ : ZMem} {ci k r index : Nat} (hf : zFd (zKo K) index ci k false) (hO : zO g ci r) {x : Option Nat} (ht : zref (zft ci k) = true) (hd : decode (zKc K) pc = .ok (.putfield index, 3)) (kk : zWA g K (pc + 3) ls (st) (zsR μ r k x)) : zWA g K (pc) ls (zr x :: zr (some r) :: st) μ := by
  intro l p e s m args below meth c C d H locs sl stk μr hd0 hS hP hμ hL hT
  obtain ⟨a1, stk1, rfl, h1, hT1⟩ := zSR_cons hT
  have h1 : a1 = va_rf (x.map (zad g)) := h1
  subst h1
  obtain ⟨a2, stk2, rfl, h2, hT2⟩ := zSR_cons hT1
  have h2 : a2 = .ref (zad g r) := h2
  subst h2
  subst hμ
  obtain ⟨C0, T, N, q1, q2, q3, q4, q5, q6, q7, q8, q9⟩ := hf
  obtain ⟨q0, hq0, hq⟩ := zws_at hO.1
  refine va_put (D := zgD g) (ci := ci) (v := va_rf (x.map (zad g))) (ty := zft ci k) (C := C0) (T := T) (N := N) C.1 C.2.1 (dr_words C.2.2.2.2.1 d) q4 (zft ci) q7 q8 C.2.2.2.1 C.2.2.2.2.2.2.2.1 hP (zws_D C.2.2.2.2.2.2.2.2.1 μr) hS q0 ((hq μr).trans (by rw [zpc_obj hO q3])) q1 k q5 ((dr_words C.2.2.2.2.1 d) _ q6) (fun _ h => h) q9 (q7 k q5) (by revert ht; cases zft ci k <;> intro ht <;> first | exact absurd ht (by decide) | (cases x <;> rfl)) (by revert ht; cases zft ci k <;> intro ht <;> first | exact absurd ht (by decide) | (cases x <;> rfl)) (by rw [zfs_len, ← q2]; exact q5) hd (fun H1 locs1 hP1 _ hS1 => ?_)
  rw [zws_set (μ' := zsR μr r k x) C.2.2.2.2.2.2.2.2.1 hq0 zpc_oR (by rw [zpc_obj hO q3, zfs_sR ht])] at hP1
  exact kk l p e s m args below meth c C d H1 locs1 sl _ (zsR μr r k x) hd0 hS1 hP1 rfl hL hT2
theorem zx_iald {g : ZG} {K : ZK} {pc : Nat} {ls : ZLS} {st : List ZV} {μ : ZMem} {r : Nat} {i : Int32} (j : Nat) (hO : zO g 9 r) (hi : i = nI j) (hj : j < zln g r ∧ zln g r ≤ 100000) (hd : decode (zKc K) pc = .ok (.iaload, 1)) (kk : zWA g K (pc + 1) ls (zi (zI μ r j) :: st) μ) : zWA g K (pc) ls (zi i :: zr (some r) :: st) μ := by
  intro l p e s m args below meth c C d H locs sl stk μr hd0 hS hP hμ hL hT
  obtain ⟨a1, stk1, rfl, h1, hT1⟩ := zSR_cons hT
  cases h1
  obtain ⟨a2, stk2, rfl, h2, hT2⟩ := zSR_cons hT1
  have h2 : a2 = .ref (zad g r) := h2
  subst h2
  subst hμ
  subst hi
  have hcl : (nI j).toNatClampNeg = j := nI_clamp (by omega)
  have hv : vp_in (nI j) (zln g r) := vp_in_nI hj.1 (by omega)
  obtain ⟨q0, hq0, hq⟩ := zws_at hO.1
  refine va_iald (s := s.setDrawn d) C.1 C.2.1 C.2.2.2.2.2.2.2.1 hP q0 1 (cA := zcy g 9) (n := zln g r) (f := zI μr r) ((hq μr).trans (by rw [zpc_arr hO (by decide)]; rfl)) rfl hv hd ?_
  rw [hcl]
  exact kk l p e s m args below meth c C d H locs sl _ μr hd0 hS hP rfl hL ⟨rfl, hT2⟩
theorem zx_zald {g : ZG} {K : ZK} {pc : Nat} {ls : ZLS} {st : List ZV} {μ : ZMem} {r : Nat} {i : Int32} (j : Nat) (hO : zO g 11 r) (hi : i = nI j) (hj : j < zln g r ∧ zln g r ≤ 100000) (hd : decode (zKc K) pc = .ok (.baload, 1)) (kk : zWA g K (pc + 1) ls (zi (zI μ r j) :: st) μ) : zWA g K (pc) ls (zi i :: zr (some r) :: st) μ := by
  intro l p e s m args below meth c C d H locs sl stk μr hd0 hS hP hμ hL hT
  obtain ⟨a1, stk1, rfl, h1, hT1⟩ := zSR_cons hT
  cases h1
  obtain ⟨a2, stk2, rfl, h2, hT2⟩ := zSR_cons hT1
  have h2 : a2 = .ref (zad g r) := h2
  subst h2
  subst hμ
  subst hi
  have hcl : (nI j).toNatClampNeg = j := nI_clamp (by omega)
  have hv : vp_in (nI j) (zln g r) := vp_in_nI hj.1 (by omega)
  obtain ⟨q0, hq0, hq⟩ := zws_at hO.1
  refine va_zald (s := s.setDrawn d) C.1 C.2.1 C.2.2.2.2.2.2.2.1 hP q0 3 (cA := zcy g 11) (n := zln g r) (f := zI μr r) ((hq μr).trans (by rw [zpc_arr hO (by decide)]; rfl)) rfl hv hd ?_
  rw [hcl]
  exact kk l p e s m args below meth c C d H locs sl _ μr hd0 hS hP rfl hL ⟨rfl, hT2⟩
theorem zx_lald {g : ZG} {K : ZK} {pc : Nat} {ls : ZLS} {st : List ZV} {μ : ZMem} {r : Nat} {i : Int32} (j : Nat) (hO : zO g 10 r) (hi : i = nI j) (hj : j < zln g r ∧ zln g r ≤ 100000) (hd : decode (zKc K) pc = .ok (.laload, 1)) (kk : zWA g K (pc + 1) ls (zl (zL μ r j) :: st) μ) : zWA g K (pc) ls (zi i :: zr (some r) :: st) μ := by
  intro l p e s m args below meth c C d H locs sl stk μr hd0 hS hP hμ hL hT
  obtain ⟨a1, stk1, rfl, h1, hT1⟩ := zSR_cons hT
  cases h1
  obtain ⟨a2, stk2, rfl, h2, hT2⟩ := zSR_cons hT1
  have h2 : a2 = .ref (zad g r) := h2
  subst h2
  subst hμ
  subst hi
  have hcl : (nI j).toNatClampNeg = j := nI_clamp (by omega)
  have hv : vp_in (nI j) (zln g r) := vp_in_nI hj.1 (by omega)
  obtain ⟨q0, hq0, hq⟩ := zws_at hO.1
  refine va_lald (s := s.setDrawn d) C.1 C.2.1 C.2.2.2.2.2.2.2.1 hP q0 2 (cA := zcy g 10) (n := zln g r) (f := zL μr r) ((hq μr).trans (by rw [zpc_arr hO (by decide)]; rfl)) rfl hv hd ?_
  rw [hcl]
  exact kk l p e s m args below meth c C d H locs sl _ μr hd0 hS hP rfl hL ⟨rfl, hT2⟩
theorem zx_dald {g : ZG} {K : ZK} {pc : Nat} {ls : ZLS} {st : List ZV} {μ : ZMem} {r : Nat} {i : Int32} (j : Nat) (hO : zO g 8 r) (hi : i = nI j) (hj : j < zln g r ∧ zln g r ≤ 100000) (hd : decode (zKc K) pc = .ok (.daload, 1)) (kk : zWA g K (pc + 1) ls (zd (zD μ r j) :: st) μ) : zWA g K (pc) ls (zi i :: zr (some r) :: st) μ := by
  intro l p e s m args below meth c C d H locs sl stk μr hd0 hS hP hμ hL hT
  obtain ⟨a1, stk1, rfl, h1, hT1⟩ := zSR_cons hT
  cases h1
  obtain ⟨a2, stk2, rfl, h2, hT2⟩ := zSR_cons hT1
  have h2 : a2 = .ref (zad g r) := h2
  subst h2
  subst hμ
  subst hi
  have hcl : (nI j).toNatClampNeg = j := nI_clamp (by omega)
  have hv : vp_in (nI j) (zln g r) := vp_in_nI hj.1 (by omega)
  obtain ⟨q0, hq0, hq⟩ := zws_at hO.1
  refine va_dald (s := s.setDrawn d) C.1 C.2.1 C.2.2.2.2.2.2.2.1 hP q0 0 (cA := zcy g 8) (n := zln g r) (f := zD μr r) ((hq μr).trans (by rw [zpc_arr hO (by decide)]; rfl)) rfl hv hd ?_
  rw [hcl]
  exact kk l p e s m args below meth c C d H locs sl _ μr hd0 hS hP rfl hL ⟨⟨_, rfl, rfl⟩, hT2⟩
theorem zty_at (g : ZG) {kd : Nat} (h : 8 ≤ kd ∧ kd ≤ 17) : ∃ ty, (ztys g)[kd - 8]? = some (zcy g kd, ty) := by
  rcases (show kd = 8 ∨ kd = 9 ∨ kd = 10 ∨ kd = 11 ∨ kd = 12 ∨ kd = 13 ∨ kd = 14 ∨ kd = 15 ∨ kd = 16 ∨ kd = 17 by omega) with h | h | h | h | h | h | h | h | h | h <;> subst h <;> exact ⟨_, rfl⟩
theorem zty_ref (g : ZG) {kd : Nat} (h : 12 ≤ kd ∧ kd ≤ 17) : ∃ ty, (ztys g)[kd - 8]? = some (zcy g kd, ty) ∧ ty.isReference = true := by
  rcases (show kd = 12 ∨ kd = 13 ∨ kd = 14 ∨ kd = 15 ∨ kd = 16 ∨ kd = 17 by omega) with h | h | h | h | h | h <;> subst h <;> exact ⟨_, rfl, rfl⟩
theorem zpay_ref {g : ZG} {μ : ZMem} {r kd : Nat} (h : 12 ≤ kd ∧ kd ≤ 17) : zpay g μ r kd = .inr (.inr (.inr (.inr (fun k => (zR μ r k).map (zad g))))) := by
  unfold zpay
  rw [if_neg (by omega), if_neg (by omega), if_neg (by omega)]
theorem zx_aald {g : ZG} {K : ZK} {pc : Nat} {ls : ZLS} {st : List ZV} {μ : ZMem} {r : Nat} {i : Int32} (j : Nat) {kd : Nat} {o' : Option Nat} (hO : zO g kd r) (hkd : 12 ≤ kd ∧ kd ≤ 17) (hi : i = nI j) (hj : j < zln g r ∧ zln g r ≤ 100000) (hR : zR μ r j = o') (hd : decode (zKc K) pc = .ok (.aaload, 1)) (kk : zWA g K (pc + 1) ls (zr o' :: st) μ) : zWA g K (pc) ls (zi i :: zr (some r) :: st) μ := by
  intro l p e s m args below meth c C d H locs sl stk μr hd0 hS hP hμ hL hT
  obtain ⟨a1, stk1, rfl, h1, hT1⟩ := zSR_cons hT
  cases h1
  obtain ⟨a2, stk2, rfl, h2, hT2⟩ := zSR_cons hT1
  have h2 : a2 = .ref (zad g r) := h2
  subst h2
  subst hμ
  subst hi
  have hcl : (nI j).toNatClampNeg = j := nI_clamp (by omega)
  have hv : vp_in (nI j) (zln g r) := vp_in_nI hj.1 (by omega)
  obtain ⟨q0, hq0, hq⟩ := zws_at hO.1
  subst hR
  obtain ⟨ty, ht, hrf⟩ := zty_ref g hkd
  have ha := (hq μr).trans (by rw [zpc_arr hO (by omega), zpay_ref hkd])
  have hlt : (nI j).toNatClampNeg < zln g r := by rw [hcl]; exact hj.1
  refine W.aald (s := s.setDrawn d) (v := va_rf ((zR μr r (nI j).toNatClampNeg).map (zad g))) (ty := ty) C.1 C.2.1 (hP q0 _ ha) ((C.2.2.2.2.2.2.2.1.2 _ _ ht).1 (zln g r) (fun k => va_rf ((zR μr r k).map (zad g)))) hrf (fun q => by cases q) (by show ¬ (nI j < 0 ∨ (arrV _ _ _).slots.size ≤ _); rw [arrV_size]; exact hv) (by show (arrV _ _ _).slots[_]? = _; rw [arrV_read _ _ hlt]) rfl rfl hd ?_
  rw [hcl]
  exact kk l p e s m args below meth c C d H locs sl _ μr hd0 hS hP rfl hL ⟨rfl, hT2⟩
theorem zx_alen {g : ZG} {K : ZK} {pc : Nat} {ls : ZLS} {st : List ZV} {μ : ZMem} {r kd : Nat} (v : Int32) (hO : zO g kd r) (hkd : 8 ≤ kd ∧ kd ≤ 17) (hv : v = nI (zln g r)) (hd : decode (zKc K) pc = .ok (.arraylength, 1)) (kk : zWA g K (pc + 1) ls (zi v :: st) μ) : zWA g K (pc) ls (zr (some r) :: st) μ := by
  intro l p e s m args below meth c C d H locs sl stk μr hd0 hS hP hμ hL hT
  obtain ⟨a1, stk1, rfl, h1, hT1⟩ := zSR_cons hT
  have h1 : a1 = .ref (zad g r) := h1
  subst h1
  subst hv
  obtain ⟨q0, hq0, hq⟩ := zws_at hO.1
  obtain ⟨ty, ht⟩ := zty_at g hkd
  exact va_alen (s := s.setDrawn d) (x := (zln g r, zpay g μr r kd)) (v := nI (zln g r)) C.1 C.2.1 C.2.2.2.2.2.2.2.1 hP q0 _ ((hq μr).trans (by rw [zpc_arr hO hkd.1])) ht rfl hd (kk l p e s m args below meth c C d H locs sl _ μr hd0 hS hP hμ hL ⟨rfl, hT1⟩)
theorem zx_iast {g : ZG} {K : ZK} {pc : Nat} {ls : ZLS} {st : List ZV} {μ : ZMem} {r : Nat} {i : Int32} (j : Nat) {x : Int32}  (hO : zO g 9 r) (hi : i = nI j) (hj : j < zln g r ∧ zln g r ≤ 100000) (hd : decode (zKc K) pc = .ok (.iastore, 1)) (kk : zWA g K (pc + 1) ls (st) (zsI μ r j x)) : zWA g K (pc) ls (zi x :: zi i :: zr (some r) :: st) μ := by
  intro l p e s m args below meth c C d H locs sl stk μr hd0 hS hP hμ hL hT
  obtain ⟨a0, stk0, rfl, h0, hT0⟩ := zSR_cons hT
  cases h0
  obtain ⟨a1, stk1, rfl, h1, hT1⟩ := zSR_cons hT0
  cases h1
  obtain ⟨a2, stk2, rfl, h2, hT2⟩ := zSR_cons hT1
  have h2 : a2 = .ref (zad g r) := h2
  subst h2
  subst hμ
  subst hi
  have hcl : (nI j).toNatClampNeg = j := nI_clamp (by omega)
  have hv : vp_in (nI j) (zln g r) := vp_in_nI hj.1 (by omega)
  obtain ⟨q0, hq0, hq⟩ := zws_at hO.1
  refine va_iast (s := s.setDrawn d) C.1 C.2.1 C.2.2.2.2.2.2.2.1 hP (zws_D C.2.2.2.2.2.2.2.2.1 μr) hS q0 1 (cA := zcy g 9) (n := zln g r) (f := zI μr r) ((hq μr).trans (by rw [zpc_arr hO (by decide)]; rfl)) rfl hv hd (fun H1 locs1 hP1 _ hS1 => ?_)
  have e9 : zI (zsI μr r j x) r = upd (zI μr r) j x := by
    funext b
    show zup _ r j x r b = _
    unfold zup upd
    by_cases hb : b = j
    · rw [if_pos ⟨rfl, hb⟩, if_pos hb]
    · rw [if_neg (fun q => hb q.2), if_neg hb]
      rfl
  rw [hcl, ← e9, zws_set (μ' := zsI μr r j x) C.2.2.2.2.2.2.2.2.1 hq0 zpc_oI (by rw [zpc_arr hO (by decide)]; rfl)] at hP1
  exact kk l p e s m args below meth c C d H1 locs1 sl _ (zsI μr r j x) hd0 hS1 hP1 rfl hL hT2
theorem zx_zast {g : ZG} {K : ZK} {pc : Nat} {ls : ZLS} {st : List ZV} {μ : ZMem} {r : Nat} {i : Int32} (j : Nat) {x : Int32} (hx : vp_nar .boolean x = x) (hO : zO g 11 r) (hi : i = nI j) (hj : j < zln g r ∧ zln g r ≤ 100000) (hd : decode (zKc K) pc = .ok (.bastore, 1)) (kk : zWA g K (pc + 1) ls (st) (zsI μ r j x)) : zWA g K (pc) ls (zi x :: zi i :: zr (some r) :: st) μ := by
  intro l p e s m args below meth c C d H locs sl stk μr hd0 hS hP hμ hL hT
  obtain ⟨a0, stk0, rfl, h0, hT0⟩ := zSR_cons hT
  cases h0
  obtain ⟨a1, stk1, rfl, h1, hT1⟩ := zSR_cons hT0
  cases h1
  obtain ⟨a2, stk2, rfl, h2, hT2⟩ := zSR_cons hT1
  have h2 : a2 = .ref (zad g r) := h2
  subst h2
  subst hμ
  subst hi
  have hcl : (nI j).toNatClampNeg = j := nI_clamp (by omega)
  have hv : vp_in (nI j) (zln g r) := vp_in_nI hj.1 (by omega)
  obtain ⟨q0, hq0, hq⟩ := zws_at hO.1
  refine va_zast (s := s.setDrawn d) C.1 C.2.1 C.2.2.2.2.2.2.2.1 hP (zws_D C.2.2.2.2.2.2.2.2.1 μr) hS q0 3 (cA := zcy g 11) (n := zln g r) (f := zI μr r) ((hq μr).trans (by rw [zpc_arr hO (by decide)]; rfl)) rfl hv hd (fun H1 locs1 hP1 _ hS1 => ?_)
  have e9 : zI (zsI μr r j x) r = upd (zI μr r) j x := by
    funext b
    show zup _ r j x r b = _
    unfold zup upd
    by_cases hb : b = j
    · rw [if_pos ⟨rfl, hb⟩, if_pos hb]
    · rw [if_neg (fun q => hb q.2), if_neg hb]
      rfl
  rw [hx, hcl, ← e9, zws_set (μ' := zsI μr r j x) C.2.2.2.2.2.2.2.2.1 hq0 zpc_oI (by rw [zpc_arr hO (by decide)]; rfl)] at hP1
  exact kk l p e s m args below meth c C d H1 locs1 sl _ (zsI μr r j x) hd0 hS1 hP1 rfl hL hT2
theorem zx_last {g : ZG} {K : ZK} {pc : Nat} {ls : ZLS} {st : List ZV} {μ : ZMem} {r : Nat} {i : Int32} (j : Nat) {x : Int64}  (hO : zO g 10 r) (hi : i = nI j) (hj : j < zln g r ∧ zln g r ≤ 100000) (hd : decode (zKc K) pc = .ok (.lastore, 1)) (kk : zWA g K (pc + 1) ls (st) (zsL μ r j x)) : zWA g K (pc) ls (zl x :: zi i :: zr (some r) :: st) μ := by
  intro l p e s m args below meth c C d H locs sl stk μr hd0 hS hP hμ hL hT
  obtain ⟨a0, stk0, rfl, h0, hT0⟩ := zSR_cons hT
  cases h0
  obtain ⟨a1, stk1, rfl, h1, hT1⟩ := zSR_cons hT0
  cases h1
  obtain ⟨a2, stk2, rfl, h2, hT2⟩ := zSR_cons hT1
  have h2 : a2 = .ref (zad g r) := h2
  subst h2
  subst hμ
  subst hi
  have hcl : (nI j).toNatClampNeg = j := nI_clamp (by omega)
  have hv : vp_in (nI j) (zln g r) := vp_in_nI hj.1 (by omega)
  obtain ⟨q0, hq0, hq⟩ := zws_at hO.1
  refine va_last (s := s.setDrawn d) C.1 C.2.1 C.2.2.2.2.2.2.2.1 hP (zws_D C.2.2.2.2.2.2.2.2.1 μr) hS q0 2 (cA := zcy g 10) (n := zln g r) (f := zL μr r) ((hq μr).trans (by rw [zpc_arr hO (by decide)]; rfl)) rfl hv hd (fun H1 locs1 hP1 _ hS1 => ?_)
  have e9 : zL (zsL μr r j x) r = vp_updL (zL μr r) j x := by
    funext b
    show zup _ r j x r b = _
    unfold zup vp_updL
    by_cases hb : b = j
    · rw [if_pos ⟨rfl, hb⟩, if_pos hb]
    · rw [if_neg (fun q => hb q.2), if_neg hb]
      rfl
  rw [hcl, ← e9, zws_set (μ' := zsL μr r j x) C.2.2.2.2.2.2.2.2.1 hq0 zpc_oL (by rw [zpc_arr hO (by decide)]; rfl)] at hP1
  exact kk l p e s m args below meth c C d H1 locs1 sl _ (zsL μr r j x) hd0 hS1 hP1 rfl hL hT2
theorem zx_dast {g : ZG} {K : ZK} {pc : Nat} {ls : ZLS} {st : List ZV} {μ : ZMem} {r : Nat} {i : Int32} (j : Nat) {x : UInt64}  (hO : zO g 8 r) (hi : i = nI j) (hj : j < zln g r ∧ zln g r ≤ 100000) (hd : decode (zKc K) pc = .ok (.dastore, 1)) (kk : zWA g K (pc + 1) ls (st) (zsD μ r j x)) : zWA g K (pc) ls (zd x :: zi i :: zr (some r) :: st) μ := by
  intro l p e s m args below meth c C d H locs sl stk μr hd0 hS hP hμ hL hT
  obtain ⟨a0, stk0, rfl, h0, hT0⟩ := zSR_cons hT
  obtain ⟨y, rfl, rfl⟩ := h0
  obtain ⟨a1, stk1, rfl, h1, hT1⟩ := zSR_cons hT0
  cases h1
  obtain ⟨a2, stk2, rfl, h2, hT2⟩ := zSR_cons hT1
  have h2 : a2 = .ref (zad g r) := h2
  subst h2
  subst hμ
  subst hi
  have hcl : (nI j).toNatClampNeg = j := nI_clamp (by omega)
  have hv : vp_in (nI j) (zln g r) := vp_in_nI hj.1 (by omega)
  obtain ⟨q0, hq0, hq⟩ := zws_at hO.1
  refine va_dast (s := s.setDrawn d) C.1 C.2.1 C.2.2.2.2.2.2.2.1 hP (zws_D C.2.2.2.2.2.2.2.2.1 μr) hS q0 0 (cA := zcy g 8) (n := zln g r) (f := zD μr r) ((hq μr).trans (by rw [zpc_arr hO (by decide)]; rfl)) rfl hv hd (fun H1 locs1 hP1 _ hS1 => ?_)
  have e9 : zD (zsD μr r j y) r = vf_upd (zD μr r) j y := by
    funext b
    show zup _ r j y r b = _
    unfold zup vf_upd
    by_cases hb : b = j
    · rw [if_pos ⟨rfl, hb⟩, if_pos hb]
    · rw [if_neg (fun q => hb q.2), if_neg hb]
      rfl
  rw [hcl, ← e9, zws_set (μ' := zsD μr r j y) C.2.2.2.2.2.2.2.2.1 hq0 zpc_oD (by rw [zpc_arr hO (by decide)]; rfl)] at hP1
  exact kk l p e s m args below meth c C d H1 locs1 sl _ (zsD μr r j y) hd0 hS1 hP1 (zcM_sD _ _ _ _) hL hT2
theorem zx_ireturn {g : ZG} {K : ZK} {pc : Nat} {ls : ZLS} {μ : ZMem} {x : Int32} (hr : zKr K = some .int) (ha : zKa K = some (zi x)) (hm : zKm K = μ) (hd : decode (zKc K) pc = .ok (.ireturn, 1)) : zWA g K pc ls [zi x] μ := by
  intro l p e s m args below meth c C d H locs sl stk μr hd0 hS hP hμ hL hT
  obtain ⟨a1, stk1, rfl, h1, hT1⟩ := zSR_cons hT
  cases zSR_nil hT1
  cases h1
  have hret : meth.sig.returnType = zKr K := C.2.2.2.2.2.1
  have hlocks : meth.locks = false := C.2.2.2.2.2.2.1
  refine W.endD hd0 ?_
  exact W.iret C.1 C.2.1 (hret.trans hr) (fun t ht hW => ⟨⟨some (.int x), μr, rfl, by rw [ha]; exact rfl, by rw [hm]; exact hμ, by rw [ht]; exact hP⟩, hS.F ht⟩) hS.2.2 hd
theorem zx_zreturn {g : ZG} {K : ZK} {pc : Nat} {ls : ZLS} {μ : ZMem} {x : Int32} (hr : zKr K = some .boolean) (hn : narrow .boolean (.int x) = .int x) (ha : zKa K = some (zi x)) (hm : zKm K = μ) (hd : decode (zKc K) pc = .ok (.ireturn, 1)) : zWA g K pc ls [zi x] μ := by
  intro l p e s m args below meth c C d H locs sl stk μr hd0 hS hP hμ hL hT
  obtain ⟨a1, stk1, rfl, h1, hT1⟩ := zSR_cons hT
  cases zSR_nil hT1
  cases h1
  have hret : meth.sig.returnType = zKr K := C.2.2.2.2.2.1
  have hlocks : meth.locks = false := C.2.2.2.2.2.2.1
  refine W.endD hd0 ?_
  exact W.zret C.1 C.2.1 (hret.trans hr) hn (fun t ht hW => ⟨⟨some (.int x), μr, rfl, by rw [ha]; exact rfl, by rw [hm]; exact hμ, by rw [ht]; exact hP⟩, hS.F ht⟩) hS.2.2 hd
theorem zx_lreturn {g : ZG} {K : ZK} {pc : Nat} {ls : ZLS} {μ : ZMem} {x : Int64} (hr : zKr K = some .long) (ha : zKa K = some (zl x)) (hm : zKm K = μ) (hd : decode (zKc K) pc = .ok (.lreturn, 1)) : zWA g K pc ls [zl x] μ := by
  intro l p e s m args below meth c C d H locs sl stk μr hd0 hS hP hμ hL hT
  obtain ⟨a1, stk1, rfl, h1, hT1⟩ := zSR_cons hT
  cases zSR_nil hT1
  cases h1
  have hret : meth.sig.returnType = zKr K := C.2.2.2.2.2.1
  have hlocks : meth.locks = false := C.2.2.2.2.2.2.1
  refine W.endD hd0 ?_
  exact W.lret C.1 C.2.1 (hret.trans hr) (fun t ht hW => ⟨⟨some (.long x), μr, rfl, by rw [ha]; exact rfl, by rw [hm]; exact hμ, by rw [ht]; exact hP⟩, hS.F ht⟩) hS.2.2 hd
theorem zx_dreturn {g : ZG} {K : ZK} {pc : Nat} {ls : ZLS} {μ : ZMem} {x : UInt64} (hr : zKr K = some .double) (ha : zKa K = some (zd x)) (hm : zKm K = μ) (hd : decode (zKc K) pc = .ok (.dreturn, 1)) : zWA g K pc ls [zd x] μ := by
  intro l p e s m args below meth c C d H locs sl stk μr hd0 hS hP hμ hL hT
  obtain ⟨a1, stk1, rfl, h1, hT1⟩ := zSR_cons hT
  cases zSR_nil hT1
  obtain ⟨y, rfl, rfl⟩ := h1
  have hret : meth.sig.returnType = zKr K := C.2.2.2.2.2.1
  have hlocks : meth.locks = false := C.2.2.2.2.2.2.1
  refine W.endD hd0 ?_
  exact W.dret C.1 C.2.1 (hret.trans hr) (fun t ht hW => ⟨⟨some (.double y), μr, rfl, by rw [ha]; exact ⟨y, rfl, rfl⟩, by rw [hm]; exact hμ, by rw [ht]; exact hP⟩, hS.F ht⟩) hS.2.2 hd
theorem zx_return {g : ZG} {K : ZK} {pc : Nat} {ls : ZLS} {μ : ZMem} (hr : zKr K = none) (ha : zKa K = none) (hm : zKm K = μ) (hd : decode (zKc K) pc = .ok (.return_, 1)) : zWA g K pc ls [] μ := by
  intro l p e s m args below meth c C d H locs sl stk μr hd0 hS hP hμ hL hT
  cases zSR_nil hT
  have hret : meth.sig.returnType = zKr K := C.2.2.2.2.2.1
  have hlocks : meth.locks = false := C.2.2.2.2.2.2.1
  refine W.endD hd0 ?_
  exact W.vret C.1 C.2.1 (hret.trans hr) (fun t ht hW => ⟨⟨none, μr, rfl, by rw [ha]; exact trivial, by rw [hm]; exact hμ, by rw [ht]; exact hP⟩, hS.F ht⟩) hS.2.2 hd
theorem zx_areturn {g : ZG} {K : ZK} {pc : Nat} {ls : ZLS} {μ : ZMem} {x : Option Nat} {rt : FieldType} (hr : zKr K = some rt) (hrt : (∃ n, rt = .object n) ∨ ∃ t, rt = .array t) (ha : zKa K = some (zr x)) (hm : zKm K = μ) (hd : decode (zKc K) pc = .ok (.areturn, 1)) : zWA g K pc ls [zr x] μ := by
  intro l p e s m args below meth c C d H locs sl stk μr hd0 hS hP hμ hL hT
  obtain ⟨a1, stk1, rfl, h1, hT1⟩ := zSR_cons hT
  cases zSR_nil hT1
  have h1 : a1 = va_rf (x.map (zad g)) := h1
  subst h1
  have hret : meth.sig.returnType = zKr K := C.2.2.2.2.2.1
  have hlocks : meth.locks = false := C.2.2.2.2.2.2.1
  refine W.endD hd0 ?_
  exact W.aret C.1 C.2.1 (hret.trans hr) hrt (by cases x with | none => exact Or.inl rfl | some r => exact Or.inr ⟨_, rfl⟩) (fun t ht hW => ⟨⟨some (va_rf (x.map (zad g))), μr, rfl, by rw [ha]; exact rfl, by rw [hm]; exact hμ, by rw [ht]; exact hP⟩, hS.F ht⟩) hS.2.2 hd
end
section
theorem zmem {w : Cond} (i : Nat) (h : lw_tbl[i]? = some w) (hg : goodWord w = true) : w ∈ lw_good := List.mem_filter.mpr ⟨List.mem_of_getElem? h, hg⟩
theorem inG0 : ∀ w ∈ wsX00, w ∈ lw_good := fun w h => List.mem_filter.mpr ⟨inX0 w h, by
  have hg : wsX00.all goodWord = true := by decide +kernel
  exact List.all_eq_true.mp hg w h⟩
theorem inG1 : ∀ w ∈ wsX10, w ∈ lw_good := fun w h => List.mem_filter.mpr ⟨inX1 w h, by
  have hg : wsX10.all goodWord = true := by decide +kernel
  exact List.all_eq_true.mp hg w h⟩
theorem inG2 : ∀ w ∈ wsX20, w ∈ lw_good := fun w h => List.mem_filter.mpr ⟨inX2 w h, by
  have hg : wsX20.all goodWord = true := by decide +kernel
  exact List.all_eq_true.mp hg w h⟩
theorem inG3 : ∀ w ∈ wsX30, w ∈ lw_good := fun w h => List.mem_filter.mpr ⟨inX3 w h, by
  have hg : wsX30.all goodWord = true := by decide +kernel
  exact List.all_eq_true.mp hg w h⟩
theorem inG4 : ∀ w ∈ wsX40, w ∈ lw_good := fun w h => List.mem_filter.mpr ⟨inX4 w h, by
  have hg : wsX40.all goodWord = true := by decide +kernel
  exact List.all_eq_true.mp hg w h⟩
theorem inG5 : ∀ w ∈ wsX50, w ∈ lw_good := fun w h => List.mem_filter.mpr ⟨inX5 w h, by
  have hg : wsX50.all goodWord = true := by decide +kernel
  exact List.all_eq_true.mp hg w h⟩
theorem inG6 : ∀ w ∈ wsX60, w ∈ lw_good := fun w h => List.mem_filter.mpr ⟨inX6 w h, by
  have hg : wsX60.all goodWord = true := by decide +kernel
  exact List.all_eq_true.mp hg w h⟩
theorem inG7 : ∀ w ∈ wsX70, w ∈ lw_good := fun w h => List.mem_filter.mpr ⟨inX7 w h, by
  have hg : wsX70.all goodWord = true := by decide +kernel
  exact List.all_eq_true.mp hg w h⟩
theorem zf_X0_9 : zFd RX0 9 0 0 false := ⟨RX0, TX0, 15, rfl, rfl, by decide, inG0, by decide, zmem 67 (by decide +kernel) rfl, tyX0_ok, nmX0, rfl⟩
theorem zf_X1_34 : zFd RX1 34 0 0 false := ⟨RX0, TX0, 15, rfl, rfl, by decide, inG0, by decide, zmem 68 (by decide +kernel) rfl, tyX0_ok, nmX0, rfl⟩
theorem zf_X6_307 : zFd RX6 307 0 0 false := ⟨RX0, TX0, 15, rfl, rfl, by decide, inG0, by decide, zmem 69 (by decide +kernel) rfl, tyX0_ok, nmX0, rfl⟩
theorem zf_X0_15 : zFd RX0 15 0 1 false := ⟨RX0, TX0, 15, rfl, rfl, by decide, inG0, by decide, zmem 70 (by decide +kernel) rfl, tyX0_ok, nmX0, rfl⟩
theorem zf_X2_29 : zFd RX2 29 0 2 false := ⟨RX0, TX0, 15, rfl, rfl, by decide, inG0, by decide, zmem 71 (by decide +kernel) rfl, tyX0_ok, nmX0, rfl⟩
theorem zf_X4_42 : zFd RX4 42 0 2 false := ⟨RX0, TX0, 15, rfl, rfl, by decide, inG0, by decide, zmem 72 (by decide +kernel) rfl, tyX0_ok, nmX0, rfl⟩
theorem zf_X0_21 : zFd RX0 21 0 2 false := ⟨RX0, TX0, 15, rfl, rfl, by decide, inG0, by decide, zmem 73 (by decide +kernel) rfl, tyX0_ok, nmX0, rfl⟩
theorem zf_X6_94 : zFd RX6 94 0 2 false := ⟨RX0, TX0, 15, rfl, rfl, by decide, inG0, by decide, zmem 74 (by decide +kernel) rfl, tyX0_ok, nmX0, rfl⟩
theorem zf_X1_112 : zFd RX1 112 0 2 false := ⟨RX0, TX0, 15, rfl, rfl, by decide, inG0, by decide, zmem 75 (by decide +kernel) rfl, tyX0_ok, nmX0, rfl⟩
theorem zf_X4_47 : zFd RX4 47 0 3 false := ⟨RX0, TX0, 15, rfl, rfl, by decide, inG0, by decide, zmem 76 (by decide +kernel) rfl, tyX0_ok, nmX0, rfl⟩
theorem zf_X0_27 : zFd RX0 27 0 3 false := ⟨RX0, TX0, 15, rfl, rfl, by decide, inG0, by decide, zmem 77 (by decide +kernel) rfl, tyX0_ok, nmX0, rfl⟩
theorem zf_X1_83 : zFd RX1 83 0 3 false := ⟨RX0, TX0, 15, rfl, rfl, by decide, inG0, by decide, zmem 78 (by decide +kernel) rfl, tyX0_ok, nmX0, rfl⟩
theorem zf_X6_183 : zFd RX6 183 0 3 false := ⟨RX0, TX0, 15, rfl, rfl, by decide, inG0, by decide, zmem 79 (by decide +kernel) rfl, tyX0_ok, nmX0, rfl⟩
theorem zf_X0_32 : zFd RX0 32 0 4 false := ⟨RX0, TX0, 15, rfl, rfl, by decide, inG0, by decide, zmem 80 (by decide +kernel) rfl, tyX0_ok, nmX0, rfl⟩
theorem zf_X4_50 : zFd RX4 50 0 4 false := ⟨RX0, TX0, 15, rfl, rfl, by decide, inG0, by decide, zmem 81 (by decide +kernel) rfl, tyX0_ok, nmX0, rfl⟩
theorem zf_X1_88 : zFd RX1 88 0 4 false := ⟨RX0, TX0, 15, rfl, rfl, by decide, inG0, by decide, zmem 82 (by decide +kernel) rfl, tyX0_ok, nmX0, rfl⟩
theorem zf_X6_188 : zFd RX6 188 0 4 false := ⟨RX0, TX0, 15, rfl, rfl, by decide, inG0, by decide, zmem 83 (by decide +kernel) rfl, tyX0_ok, nmX0, rfl⟩
theorem zf_X0_35 : zFd RX0 35 0 5 false := ⟨RX0, TX0, 15, rfl, rfl, by decide, inG0, by decide, zmem 84 (by decide +kernel) rfl, tyX0_ok, nmX0, rfl⟩
theorem zf_X4_52 : zFd RX4 52 0 5 false := ⟨RX0, TX0, 15, rfl, rfl, by decide, inG0, by decide, zmem 85 (by decide +kernel) rfl, tyX0_ok, nmX0, rfl⟩
theorem zf_X6_274 : zFd RX6 274 0 5 false := ⟨RX0, TX0, 15, rfl, rfl, by decide, inG0, by decide, zmem 86 (by decide +kernel) rfl, tyX0_ok, nmX0, rfl⟩
theorem zf_X6_131 : zFd RX6 131 0 6 false := ⟨RX0, TX0, 15, rfl, rfl, by decide, inG0, by decide, zmem 87 (by decide +kernel) rfl, tyX0_ok, nmX0, rfl⟩
theorem zf_X0_74 : zFd RX0 74 0 6 false := ⟨RX0, TX0, 15, rfl, rfl, by decide, inG0, by decide, zmem 88 (by decide +kernel) rfl, tyX0_ok, nmX0, rfl⟩
theorem zf_X2_23 : zFd RX2 23 0 7 false := ⟨RX0, TX0, 15, rfl, rfl, by decide, inG0, by decide, zmem 89 (by decide +kernel) rfl, tyX0_ok, nmX0, rfl⟩
theorem zf_X0_38 : zFd RX0 38 0 7 false := ⟨RX0, TX0, 15, rfl, rfl, by decide, inG0, by decide, zmem 90 (by decide +kernel) rfl, tyX0_ok, nmX0, rfl⟩
theorem zf_X6_196 : zFd RX6 196 0 7 false := ⟨RX0, TX0, 15, rfl, rfl, by decide, inG0, by decide, zmem 91 (by decide +kernel) rfl, tyX0_ok, nmX0, rfl⟩
theorem zf_X6_220 : zFd RX6 220 0 8 false := ⟨RX0, TX0, 15, rfl, rfl, by decide, inG0, by decide, zmem 92 (by decide +kernel) rfl, tyX0_ok, nmX0, rfl⟩
theorem zf_X6_224 : zFd RX6 224 0 9 false := ⟨RX0, TX0, 15, rfl, rfl, by decide, inG0, by decide, zmem 93 (by decide +kernel) rfl, tyX0_ok, nmX0, rfl⟩
theorem zf_X0_51 : zFd RX0 51 0 10 false := ⟨RX0, TX0, 15, rfl, rfl, by decide, inG0, by decide, zmem 94 (by decide +kernel) rfl, tyX0_ok, nmX0, rfl⟩
theorem zf_X0_58 : zFd RX0 58 0 11 false := ⟨RX0, TX0, 15, rfl, rfl, by decide, inG0, by decide, zmem 95 (by decide +kernel) rfl, tyX0_ok, nmX0, rfl⟩
theorem zf_X1_102 : zFd RX1 102 0 11 false := ⟨RX0, TX0, 15, rfl, rfl, by decide, inG0, by decide, zmem 96 (by decide +kernel) rfl, tyX0_ok, nmX0, rfl⟩
theorem zf_X0_61 : zFd RX0 61 0 12 false := ⟨RX0, TX0, 15, rfl, rfl, by decide, inG0, by decide, zmem 97 (by decide +kernel) rfl, tyX0_ok, nmX0, rfl⟩
theorem zf_X0_64 : zFd RX0 64 0 13 false := ⟨RX0, TX0, 15, rfl, rfl, by decide, inG0, by decide, zmem 98 (by decide +kernel) rfl, tyX0_ok, nmX0, rfl⟩
theorem zf_X0_67 : zFd RX0 67 0 14 false := ⟨RX0, TX0, 15, rfl, rfl, by decide, inG0, by decide, zmem 99 (by decide +kernel) rfl, tyX0_ok, nmX0, rfl⟩
theorem zf_X3_9 : zFd RX3 9 3 0 true := ⟨RX3, TX3, 5, rfl, rfl, by decide, inG3, by decide, zmem 141 (by decide +kernel) rfl, tyX3_ok, nmX3, rfl⟩
theorem zf_X3_15 : zFd RX3 15 3 1 true := ⟨RX3, TX3, 5, rfl, rfl, by decide, inG3, by decide, zmem 142 (by decide +kernel) rfl, tyX3_ok, nmX3, rfl⟩
theorem zf_X1_24 : zFd RX1 24 3 2 false := ⟨RX3, TX3, 5, rfl, rfl, by decide, inG3, by decide, zmem 143 (by decide +kernel) rfl, tyX3_ok, nmX3, rfl⟩
theorem zf_X3_18 : zFd RX3 18 3 2 false := ⟨RX3, TX3, 5, rfl, rfl, by decide, inG3, by decide, zmem 144 (by decide +kernel) rfl, tyX3_ok, nmX3, rfl⟩
theorem zf_X3_22 : zFd RX3 22 3 3 false := ⟨RX3, TX3, 5, rfl, rfl, by decide, inG3, by decide, zmem 145 (by decide +kernel) rfl, tyX3_ok, nmX3, rfl⟩
theorem zf_X1_105 : zFd RX1 105 3 3 false := ⟨RX3, TX3, 5, rfl, rfl, by decide, inG3, by decide, zmem 146 (by decide +kernel) rfl, tyX3_ok, nmX3, rfl⟩
theorem zf_X1_99 : zFd RX1 99 3 4 false := ⟨RX3, TX3, 5, rfl, rfl, by decide, inG3, by decide, zmem 147 (by decide +kernel) rfl, tyX3_ok, nmX3, rfl⟩
theorem zf_X4_62 : zFd RX4 62 3 4 false := ⟨RX3, TX3, 5, rfl, rfl, by decide, inG3, by decide, zmem 148 (by decide +kernel) rfl, tyX3_ok, nmX3, rfl⟩
theorem zf_X6_177 : zFd RX6 177 3 4 false := ⟨RX3, TX3, 5, rfl, rfl, by decide, inG3, by decide, zmem 149 (by decide +kernel) rfl, tyX3_ok, nmX3, rfl⟩
theorem zf_X1_7 : zFd RX1 7 1 0 true := ⟨RX1, TX1, 6, rfl, rfl, by decide, inG1, by decide, zmem 175 (by decide +kernel) rfl, tyX1_ok, nmX1, rfl⟩
theorem zf_X6_151 : zFd RX6 151 1 0 true := ⟨RX1, TX1, 6, rfl, rfl, by decide, inG1, by decide, zmem 176 (by decide +kernel) rfl, tyX1_ok, nmX1, rfl⟩
theorem zf_X1_13 : zFd RX1 13 1 1 true := ⟨RX1, TX1, 6, rfl, rfl, by decide, inG1, by decide, zmem 177 (by decide +kernel) rfl, tyX1_ok, nmX1, rfl⟩
theorem zf_X1_16 : zFd RX1 16 1 2 true := ⟨RX1, TX1, 6, rfl, rfl, by decide, inG1, by decide, zmem 178 (by decide +kernel) rfl, tyX1_ok, nmX1, rfl⟩
theorem zf_X1_20 : zFd RX1 20 1 3 true := ⟨RX1, TX1, 6, rfl, rfl, by decide, inG1, by decide, zmem 179 (by decide +kernel) rfl, tyX1_ok, nmX1, rfl⟩
theorem zf_X6_155 : zFd RX6 155 1 3 true := ⟨RX1, TX1, 6, rfl, rfl, by decide, inG1, by decide, zmem 180 (by decide +kernel) rfl, tyX1_ok, nmX1, rfl⟩
theorem zf_X1_39 : zFd RX1 39 1 4 false := ⟨RX1, TX1, 6, rfl, rfl, by decide, inG1, by decide, zmem 181 (by decide +kernel) rfl, tyX1_ok, nmX1, rfl⟩
theorem zf_X4_54 : zFd RX4 54 1 4 false := ⟨RX1, TX1, 6, rfl, rfl, by decide, inG1, by decide, zmem 182 (by decide +kernel) rfl, tyX1_ok, nmX1, rfl⟩
theorem zf_X6_162 : zFd RX6 162 1 4 false := ⟨RX1, TX1, 6, rfl, rfl, by decide, inG1, by decide, zmem 183 (by decide +kernel) rfl, tyX1_ok, nmX1, rfl⟩
theorem zf_X1_43 : zFd RX1 43 1 5 false := ⟨RX1, TX1, 6, rfl, rfl, by decide, inG1, by decide, zmem 184 (by decide +kernel) rfl, tyX1_ok, nmX1, rfl⟩
theorem zf_X2_9 : zFd RX2 9 2 0 true := ⟨RX2, TX2, 3, rfl, rfl, by decide, inG2, by decide, zmem 211 (by decide +kernel) rfl, tyX2_ok, nmX2, rfl⟩
theorem zf_X4_59 : zFd RX4 59 2 0 true := ⟨RX2, TX2, 3, rfl, rfl, by decide, inG2, by decide, zmem 212 (by decide +kernel) rfl, tyX2_ok, nmX2, rfl⟩
theorem zf_X2_15 : zFd RX2 15 2 1 false := ⟨RX2, TX2, 3, rfl, rfl, by decide, inG2, by decide, zmem 213 (by decide +kernel) rfl, tyX2_ok, nmX2, rfl⟩
theorem zf_X2_19 : zFd RX2 19 2 2 false := ⟨RX2, TX2, 3, rfl, rfl, by decide, inG2, by decide, zmem 214 (by decide +kernel) rfl, tyX2_ok, nmX2, rfl⟩
theorem zf_X4_22 : zFd RX4 22 4 0 true := ⟨RX4, TX4, 10, rfl, rfl, by decide, inG4, by decide, zmem 233 (by decide +kernel) rfl, tyX4_ok, nmX4, rfl⟩
theorem zf_X4_25 : zFd RX4 25 4 1 true := ⟨RX4, TX4, 10, rfl, rfl, by decide, inG4, by decide, zmem 234 (by decide +kernel) rfl, tyX4_ok, nmX4, rfl⟩
theorem zf_X4_29 : zFd RX4 29 4 2 true := ⟨RX4, TX4, 10, rfl, rfl, by decide, inG4, by decide, zmem 235 (by decide +kernel) rfl, tyX4_ok, nmX4, rfl⟩
theorem zf_X4_32 : zFd RX4 32 4 3 true := ⟨RX4, TX4, 10, rfl, rfl, by decide, inG4, by decide, zmem 236 (by decide +kernel) rfl, tyX4_ok, nmX4, rfl⟩
theorem zf_X4_35 : zFd RX4 35 4 4 true := ⟨RX4, TX4, 10, rfl, rfl, by decide, inG4, by decide, zmem 237 (by decide +kernel) rfl, tyX4_ok, nmX4, rfl⟩
theorem zf_X4_9 : zFd RX4 9 4 5 true := ⟨RX4, TX4, 10, rfl, rfl, by decide, inG4, by decide, zmem 238 (by decide +kernel) rfl, tyX4_ok, nmX4, rfl⟩
theorem zf_X4_15 : zFd RX4 15 4 6 true := ⟨RX4, TX4, 10, rfl, rfl, by decide, inG4, by decide, zmem 239 (by decide +kernel) rfl, tyX4_ok, nmX4, rfl⟩
theorem zf_X6_255 : zFd RX6 255 4 7 false := ⟨RX4, TX4, 10, rfl, rfl, by decide, inG4, by decide, zmem 240 (by decide +kernel) rfl, tyX4_ok, nmX4, rfl⟩
theorem zf_X6_256 : zFd RX6 256 4 8 false := ⟨RX4, TX4, 10, rfl, rfl, by decide, inG4, by decide, zmem 241 (by decide +kernel) rfl, tyX4_ok, nmX4, rfl⟩
theorem zf_X4_18 : zFd RX4 18 4 9 false := ⟨RX4, TX4, 10, rfl, rfl, by decide, inG4, by decide, zmem 242 (by decide +kernel) rfl, tyX4_ok, nmX4, rfl⟩
theorem zf_X6_257 : zFd RX6 257 4 9 false := ⟨RX4, TX4, 10, rfl, rfl, by decide, inG4, by decide, zmem 243 (by decide +kernel) rfl, tyX4_ok, nmX4, rfl⟩
theorem zf_X5_9 : zFd RX5 9 5 0 true := ⟨RX5, TX5, 9, rfl, rfl, by decide, inG5, by decide, zmem 273 (by decide +kernel) rfl, tyX5_ok, nmX5, rfl⟩
theorem zf_X5_15 : zFd RX5 15 5 1 true := ⟨RX5, TX5, 9, rfl, rfl, by decide, inG5, by decide, zmem 274 (by decide +kernel) rfl, tyX5_ok, nmX5, rfl⟩
theorem zf_X5_20 : zFd RX5 20 5 2 true := ⟨RX5, TX5, 9, rfl, rfl, by decide, inG5, by decide, zmem 275 (by decide +kernel) rfl, tyX5_ok, nmX5, rfl⟩
theorem zf_X5_23 : zFd RX5 23 5 3 true := ⟨RX5, TX5, 9, rfl, rfl, by decide, inG5, by decide, zmem 276 (by decide +kernel) rfl, tyX5_ok, nmX5, rfl⟩
theorem zf_X5_26 : zFd RX5 26 5 4 true := ⟨RX5, TX5, 9, rfl, rfl, by decide, inG5, by decide, zmem 277 (by decide +kernel) rfl, tyX5_ok, nmX5, rfl⟩
theorem zf_X5_30 : zFd RX5 30 5 5 true := ⟨RX5, TX5, 9, rfl, rfl, by decide, inG5, by decide, zmem 278 (by decide +kernel) rfl, tyX5_ok, nmX5, rfl⟩
theorem zf_X5_33 : zFd RX5 33 5 6 true := ⟨RX5, TX5, 9, rfl, rfl, by decide, inG5, by decide, zmem 279 (by decide +kernel) rfl, tyX5_ok, nmX5, rfl⟩
theorem zf_X5_36 : zFd RX5 36 5 7 false := ⟨RX5, TX5, 9, rfl, rfl, by decide, inG5, by decide, zmem 280 (by decide +kernel) rfl, tyX5_ok, nmX5, rfl⟩
theorem zf_X5_57 : zFd RX5 57 5 8 false := ⟨RX5, TX5, 9, rfl, rfl, by decide, inG5, by decide, zmem 281 (by decide +kernel) rfl, tyX5_ok, nmX5, rfl⟩
theorem zf_X6_21 : zFd RX6 21 6 0 true := ⟨RX6, TX6, 17, rfl, rfl, by decide, inG6, by decide, zmem 302 (by decide +kernel) rfl, tyX6_ok, nmX6, rfl⟩
theorem zf_X6_25 : zFd RX6 25 6 1 true := ⟨RX6, TX6, 17, rfl, rfl, by decide, inG6, by decide, zmem 303 (by decide +kernel) rfl, tyX6_ok, nmX6, rfl⟩
theorem zf_X6_28 : zFd RX6 28 6 2 true := ⟨RX6, TX6, 17, rfl, rfl, by decide, inG6, by decide, zmem 304 (by decide +kernel) rfl, tyX6_ok, nmX6, rfl⟩
theorem zf_X6_31 : zFd RX6 31 6 3 true := ⟨RX6, TX6, 17, rfl, rfl, by decide, inG6, by decide, zmem 305 (by decide +kernel) rfl, tyX6_ok, nmX6, rfl⟩
theorem zf_X6_43 : zFd RX6 43 6 4 true := ⟨RX6, TX6, 17, rfl, rfl, by decide, inG6, by decide, zmem 306 (by decide +kernel) rfl, tyX6_ok, nmX6, rfl⟩
theorem zf_X6_35 : zFd RX6 35 6 5 true := ⟨RX6, TX6, 17, rfl, rfl, by decide, inG6, by decide, zmem 307 (by decide +kernel) rfl, tyX6_ok, nmX6, rfl⟩
theorem zf_X6_47 : zFd RX6 47 6 6 true := ⟨RX6, TX6, 17, rfl, rfl, by decide, inG6, by decide, zmem 308 (by decide +kernel) rfl, tyX6_ok, nmX6, rfl⟩
theorem zf_X6_51 : zFd RX6 51 6 7 true := ⟨RX6, TX6, 17, rfl, rfl, by decide, inG6, by decide, zmem 309 (by decide +kernel) rfl, tyX6_ok, nmX6, rfl⟩
theorem zf_X6_58 : zFd RX6 58 6 8 true := ⟨RX6, TX6, 17, rfl, rfl, by decide, inG6, by decide, zmem 310 (by decide +kernel) rfl, tyX6_ok, nmX6, rfl⟩
theorem zf_X6_69 : zFd RX6 69 6 9 true := ⟨RX6, TX6, 17, rfl, rfl, by decide, inG6, by decide, zmem 311 (by decide +kernel) rfl, tyX6_ok, nmX6, rfl⟩
theorem zf_X6_76 : zFd RX6 76 6 10 true := ⟨RX6, TX6, 17, rfl, rfl, by decide, inG6, by decide, zmem 312 (by decide +kernel) rfl, tyX6_ok, nmX6, rfl⟩
theorem zf_X6_200 : zFd RX6 200 6 11 false := ⟨RX6, TX6, 17, rfl, rfl, by decide, inG6, by decide, zmem 313 (by decide +kernel) rfl, tyX6_ok, nmX6, rfl⟩
theorem zf_X6_231 : zFd RX6 231 6 12 false := ⟨RX6, TX6, 17, rfl, rfl, by decide, inG6, by decide, zmem 314 (by decide +kernel) rfl, tyX6_ok, nmX6, rfl⟩
theorem zf_X6_109 : zFd RX6 109 6 13 false := ⟨RX6, TX6, 17, rfl, rfl, by decide, inG6, by decide, zmem 315 (by decide +kernel) rfl, tyX6_ok, nmX6, rfl⟩
theorem zf_X6_252 : zFd RX6 252 6 14 false := ⟨RX6, TX6, 17, rfl, rfl, by decide, inG6, by decide, zmem 316 (by decide +kernel) rfl, tyX6_ok, nmX6, rfl⟩
theorem zf_X6_90 : zFd RX6 90 6 15 false := ⟨RX6, TX6, 17, rfl, rfl, by decide, inG6, by decide, zmem 317 (by decide +kernel) rfl, tyX6_ok, nmX6, rfl⟩
theorem zf_X6_180 : zFd RX6 180 6 16 false := ⟨RX6, TX6, 17, rfl, rfl, by decide, inG6, by decide, zmem 318 (by decide +kernel) rfl, tyX6_ok, nmX6, rfl⟩
theorem zk_X6_84 : Cond.constantDouble RX6 84 4652007308841189376 ∈ lw_good := zmem 362 (by decide +kernel) rfl
theorem zk_X0_19 : Cond.constantDouble RX0 19 4652007308841189376 ∈ lw_good := zmem 370 (by decide +kernel) rfl
theorem zk_X0_25 : Cond.constantDouble RX0 25 4621819117588971520 ∈ lw_good := zmem 371 (by decide +kernel) rfl
theorem zk_X0_30 : Cond.constantDouble RX0 30 4630122629401935872 ∈ lw_good := zmem 372 (by decide +kernel) rfl
theorem zk_X6_116 : Cond.constantDouble RX6 116 4626322717216342016 ∈ lw_good := zmem 389 (by decide +kernel) rfl
theorem zk_X6_124 : Cond.constantDouble RX6 124 13860109328209412096 ∈ lw_good := zmem 398 (by decide +kernel) rfl
theorem zk_X6_126 : Cond.constantDouble RX6 126 4636737291354636288 ∈ lw_good := zmem 399 (by decide +kernel) rfl
theorem zk_X6_135 : Cond.constantDouble RX6 135 4648488871632306176 ∈ lw_good := zmem 412 (by decide +kernel) rfl
theorem zk_X6_277 : Cond.constantDouble RX6 277 4660134898793709568 ∈ lw_good := zmem 417 (by decide +kernel) rfl
theorem zk_X6_279 : Cond.constantLong RX6 279 24 ∈ lw_good := zmem 418 (by decide +kernel) rfl
theorem zk_X0_47 : Cond.constantDouble RX0 47 4562254508917369340 ∈ lw_good := zmem 430 (by decide +kernel) rfl
theorem zk_X6_186 : Cond.constantDouble RX6 186 4602678819172646912 ∈ lw_good := zmem 438 (by decide +kernel) rfl
theorem zk_X6_320 : Cond.constantDouble RX6 320 4616189618054758400 ∈ lw_good := zmem 439 (by decide +kernel) rfl
theorem zk_X6_322 : Cond.constantDouble RX6 322 4613937818241073152 ∈ lw_good := zmem 440 (by decide +kernel) rfl
theorem zk_X1_55 : Cond.constantDouble RX1 55 4576808701761150024 ∈ lw_good := zmem 456 (by decide +kernel) rfl
theorem zk_X1_57 : Cond.constantDouble RX1 57 4532020583610935537 ∈ lw_good := zmem 457 (by decide +kernel) rfl
theorem zk_X1_59 : Cond.constantDouble RX1 59 4566758108544739836 ∈ lw_good := zmem 458 (by decide +kernel) rfl
theorem zk_X1_110 : Cond.constantLong RX1 110 9223372036854775807 ∈ lw_good := zmem 466 (by decide +kernel) rfl
theorem zk_X1_71 : Cond.constantDouble RX1 71 4562254508917369340 ∈ lw_good := zmem 470 (by decide +kernel) rfl
theorem zk_X0_49 : Cond.constantLong RX0 49 50 ∈ lw_good := zmem 479 (by decide +kernel) rfl
theorem zk_X1_124 : Cond.constantLong RX1 124 8 ∈ lw_good := zmem 480 (by decide +kernel) rfl
theorem zk_X1_81 : Cond.constantDouble RX1 81 4620693217682128896 ∈ lw_good := zmem 493 (by decide +kernel) rfl
theorem zk_X1_86 : Cond.constantDouble RX1 86 4629981891913580544 ∈ lw_good := zmem 494 (by decide +kernel) rfl
theorem zk_X0_77 : Cond.constantDouble RX0 77 4622945017495814144 ∈ lw_good := zmem 507 (by decide +kernel) rfl
theorem zk_X0_83 : Cond.constantDouble RX0 83 4596373779694328218 ∈ lw_good := zmem 513 (by decide +kernel) rfl
theorem zk_X2_37 : Cond.constantLong RX2 37 (-1) ∈ lw_good := zmem 518 (by decide +kernel) rfl
theorem zk_X6_312 : Cond.constantDouble RX6 312 13920209183539462144 ∈ lw_good := zmem 526 (by decide +kernel) rfl
theorem zk_X6_165 : Cond.constantDouble RX6 165 4598175219545276416 ∈ lw_good := zmem 537 (by decide +kernel) rfl
theorem zk_X6_310 : Cond.constantLong RX6 310 4294967295 ∈ lw_good := zmem 549 (by decide +kernel) rfl
theorem zk_X6_175 : Cond.constantLong RX6 175 (-1) ∈ lw_good := zmem 550 (by decide +kernel) rfl
theorem zk_X6_191 : Cond.constantDouble RX6 191 4591870180066957722 ∈ lw_good := zmem 567 (by decide +kernel) rfl
theorem zk_X5_74 : Cond.constantDouble RX5 74 4660134898793709568 ∈ lw_good := zmem 607 (by decide +kernel) rfl
theorem zk_X5_79 : Cond.constantDouble RX5 79 4598175219545276416 ∈ lw_good := zmem 609 (by decide +kernel) rfl
theorem zk_X5_68 : Cond.constantDouble RX5 68 4472406533629990549 ∈ lw_good := zmem 615 (by decide +kernel) rfl
theorem zk_X6_270 : Cond.constantDouble RX6 270 4643483894702669824 ∈ lw_good := zmem 689 (by decide +kernel) rfl
theorem zk_X6_272 : Cond.constantDouble RX6 272 4643512921809643110 ∈ lw_good := zmem 690 (by decide +kernel) rfl
theorem zf_X7_121 : zFd RX7 121 7 0 true := ⟨RX7, TX7, 50, rfl, rfl, by decide, inG7, by decide, zmem 708 (by decide +kernel) rfl, tyX7_ok, nmX7, rfl⟩
theorem zf_X7_125 : zFd RX7 125 7 1 true := ⟨RX7, TX7, 50, rfl, rfl, by decide, inG7, by decide, zmem 709 (by decide +kernel) rfl, tyX7_ok, nmX7, rfl⟩
theorem zf_X7_128 : zFd RX7 128 7 2 true := ⟨RX7, TX7, 50, rfl, rfl, by decide, inG7, by decide, zmem 710 (by decide +kernel) rfl, tyX7_ok, nmX7, rfl⟩
theorem zf_X7_7 : zFd RX7 7 7 3 true := ⟨RX7, TX7, 50, rfl, rfl, by decide, inG7, by decide, zmem 711 (by decide +kernel) rfl, tyX7_ok, nmX7, rfl⟩
theorem zf_X7_13 : zFd RX7 13 7 4 true := ⟨RX7, TX7, 50, rfl, rfl, by decide, inG7, by decide, zmem 712 (by decide +kernel) rfl, tyX7_ok, nmX7, rfl⟩
theorem zf_X7_17 : zFd RX7 17 7 5 true := ⟨RX7, TX7, 50, rfl, rfl, by decide, inG7, by decide, zmem 713 (by decide +kernel) rfl, tyX7_ok, nmX7, rfl⟩
theorem zf_X7_20 : zFd RX7 20 7 6 true := ⟨RX7, TX7, 50, rfl, rfl, by decide, inG7, by decide, zmem 714 (by decide +kernel) rfl, tyX7_ok, nmX7, rfl⟩
theorem zf_X7_24 : zFd RX7 24 7 7 true := ⟨RX7, TX7, 50, rfl, rfl, by decide, inG7, by decide, zmem 715 (by decide +kernel) rfl, tyX7_ok, nmX7, rfl⟩
theorem zf_X7_27 : zFd RX7 27 7 8 true := ⟨RX7, TX7, 50, rfl, rfl, by decide, inG7, by decide, zmem 716 (by decide +kernel) rfl, tyX7_ok, nmX7, rfl⟩
theorem zf_X7_30 : zFd RX7 30 7 9 true := ⟨RX7, TX7, 50, rfl, rfl, by decide, inG7, by decide, zmem 717 (by decide +kernel) rfl, tyX7_ok, nmX7, rfl⟩
theorem zf_X7_33 : zFd RX7 33 7 10 true := ⟨RX7, TX7, 50, rfl, rfl, by decide, inG7, by decide, zmem 718 (by decide +kernel) rfl, tyX7_ok, nmX7, rfl⟩
theorem zf_X7_36 : zFd RX7 36 7 11 true := ⟨RX7, TX7, 50, rfl, rfl, by decide, inG7, by decide, zmem 719 (by decide +kernel) rfl, tyX7_ok, nmX7, rfl⟩
theorem zf_X7_261 : zFd RX7 261 7 12 false := ⟨RX7, TX7, 50, rfl, rfl, by decide, inG7, by decide, zmem 720 (by decide +kernel) rfl, tyX7_ok, nmX7, rfl⟩
theorem zf_X7_186 : zFd RX7 186 7 13 false := ⟨RX7, TX7, 50, rfl, rfl, by decide, inG7, by decide, zmem 721 (by decide +kernel) rfl, tyX7_ok, nmX7, rfl⟩
theorem zf_X7_156 : zFd RX7 156 7 14 false := ⟨RX7, TX7, 50, rfl, rfl, by decide, inG7, by decide, zmem 722 (by decide +kernel) rfl, tyX7_ok, nmX7, rfl⟩
theorem zf_X7_39 : zFd RX7 39 7 15 true := ⟨RX7, TX7, 50, rfl, rfl, by decide, inG7, by decide, zmem 723 (by decide +kernel) rfl, tyX7_ok, nmX7, rfl⟩
theorem zf_X7_42 : zFd RX7 42 7 16 true := ⟨RX7, TX7, 50, rfl, rfl, by decide, inG7, by decide, zmem 724 (by decide +kernel) rfl, tyX7_ok, nmX7, rfl⟩
theorem zf_X7_45 : zFd RX7 45 7 17 true := ⟨RX7, TX7, 50, rfl, rfl, by decide, inG7, by decide, zmem 725 (by decide +kernel) rfl, tyX7_ok, nmX7, rfl⟩
theorem zf_X7_48 : zFd RX7 48 7 18 true := ⟨RX7, TX7, 50, rfl, rfl, by decide, inG7, by decide, zmem 726 (by decide +kernel) rfl, tyX7_ok, nmX7, rfl⟩
theorem zf_X7_240 : zFd RX7 240 7 19 false := ⟨RX7, TX7, 50, rfl, rfl, by decide, inG7, by decide, zmem 727 (by decide +kernel) rfl, tyX7_ok, nmX7, rfl⟩
theorem zf_X7_245 : zFd RX7 245 7 20 false := ⟨RX7, TX7, 50, rfl, rfl, by decide, inG7, by decide, zmem 728 (by decide +kernel) rfl, tyX7_ok, nmX7, rfl⟩
theorem zf_X7_250 : zFd RX7 250 7 21 false := ⟨RX7, TX7, 50, rfl, rfl, by decide, inG7, by decide, zmem 729 (by decide +kernel) rfl, tyX7_ok, nmX7, rfl⟩
theorem zf_X7_51 : zFd RX7 51 7 22 true := ⟨RX7, TX7, 50, rfl, rfl, by decide, inG7, by decide, zmem 730 (by decide +kernel) rfl, tyX7_ok, nmX7, rfl⟩
theorem zf_X7_54 : zFd RX7 54 7 23 true := ⟨RX7, TX7, 50, rfl, rfl, by decide, inG7, by decide, zmem 731 (by decide +kernel) rfl, tyX7_ok, nmX7, rfl⟩
theorem zf_X7_57 : zFd RX7 57 7 24 true := ⟨RX7, TX7, 50, rfl, rfl, by decide, inG7, by decide, zmem 732 (by decide +kernel) rfl, tyX7_ok, nmX7, rfl⟩
theorem zf_X7_60 : zFd RX7 60 7 25 true := ⟨RX7, TX7, 50, rfl, rfl, by decide, inG7, by decide, zmem 733 (by decide +kernel) rfl, tyX7_ok, nmX7, rfl⟩
theorem zf_X7_63 : zFd RX7 63 7 26 true := ⟨RX7, TX7, 50, rfl, rfl, by decide, inG7, by decide, zmem 734 (by decide +kernel) rfl, tyX7_ok, nmX7, rfl⟩
theorem zf_X7_168 : zFd RX7 168 7 27 false := ⟨RX7, TX7, 50, rfl, rfl, by decide, inG7, by decide, zmem 735 (by decide +kernel) rfl, tyX7_ok, nmX7, rfl⟩
theorem zf_X7_66 : zFd RX7 66 7 28 true := ⟨RX7, TX7, 50, rfl, rfl, by decide, inG7, by decide, zmem 736 (by decide +kernel) rfl, tyX7_ok, nmX7, rfl⟩
theorem zf_X7_70 : zFd RX7 70 7 29 true := ⟨RX7, TX7, 50, rfl, rfl, by decide, inG7, by decide, zmem 737 (by decide +kernel) rfl, tyX7_ok, nmX7, rfl⟩
theorem zf_X7_73 : zFd RX7 73 7 30 true := ⟨RX7, TX7, 50, rfl, rfl, by decide, inG7, by decide, zmem 738 (by decide +kernel) rfl, tyX7_ok, nmX7, rfl⟩
theorem zf_X7_299 : zFd RX7 299 7 31 false := ⟨RX7, TX7, 50, rfl, rfl, by decide, inG7, by decide, zmem 739 (by decide +kernel) rfl, tyX7_ok, nmX7, rfl⟩
theorem zf_X7_76 : zFd RX7 76 7 32 true := ⟨RX7, TX7, 50, rfl, rfl, by decide, inG7, by decide, zmem 740 (by decide +kernel) rfl, tyX7_ok, nmX7, rfl⟩
theorem zf_X7_79 : zFd RX7 79 7 33 true := ⟨RX7, TX7, 50, rfl, rfl, by decide, inG7, by decide, zmem 741 (by decide +kernel) rfl, tyX7_ok, nmX7, rfl⟩
theorem zf_X7_82 : zFd RX7 82 7 34 true := ⟨RX7, TX7, 50, rfl, rfl, by decide, inG7, by decide, zmem 742 (by decide +kernel) rfl, tyX7_ok, nmX7, rfl⟩
theorem zf_X7_85 : zFd RX7 85 7 35 true := ⟨RX7, TX7, 50, rfl, rfl, by decide, inG7, by decide, zmem 743 (by decide +kernel) rfl, tyX7_ok, nmX7, rfl⟩
theorem zf_X7_88 : zFd RX7 88 7 36 true := ⟨RX7, TX7, 50, rfl, rfl, by decide, inG7, by decide, zmem 744 (by decide +kernel) rfl, tyX7_ok, nmX7, rfl⟩
theorem zf_X7_91 : zFd RX7 91 7 37 true := ⟨RX7, TX7, 50, rfl, rfl, by decide, inG7, by decide, zmem 745 (by decide +kernel) rfl, tyX7_ok, nmX7, rfl⟩
theorem zf_X7_310 : zFd RX7 310 7 38 false := ⟨RX7, TX7, 50, rfl, rfl, by decide, inG7, by decide, zmem 746 (by decide +kernel) rfl, tyX7_ok, nmX7, rfl⟩
theorem zf_X7_313 : zFd RX7 313 7 39 false := ⟨RX7, TX7, 50, rfl, rfl, by decide, inG7, by decide, zmem 747 (by decide +kernel) rfl, tyX7_ok, nmX7, rfl⟩
theorem zf_X7_171 : zFd RX7 171 7 40 false := ⟨RX7, TX7, 50, rfl, rfl, by decide, inG7, by decide, zmem 748 (by decide +kernel) rfl, tyX7_ok, nmX7, rfl⟩
theorem zf_X7_94 : zFd RX7 94 7 41 true := ⟨RX7, TX7, 50, rfl, rfl, by decide, inG7, by decide, zmem 749 (by decide +kernel) rfl, tyX7_ok, nmX7, rfl⟩
theorem zf_X7_97 : zFd RX7 97 7 42 true := ⟨RX7, TX7, 50, rfl, rfl, by decide, inG7, by decide, zmem 750 (by decide +kernel) rfl, tyX7_ok, nmX7, rfl⟩
theorem zf_X7_100 : zFd RX7 100 7 43 true := ⟨RX7, TX7, 50, rfl, rfl, by decide, inG7, by decide, zmem 751 (by decide +kernel) rfl, tyX7_ok, nmX7, rfl⟩
theorem zf_X7_103 : zFd RX7 103 7 44 true := ⟨RX7, TX7, 50, rfl, rfl, by decide, inG7, by decide, zmem 752 (by decide +kernel) rfl, tyX7_ok, nmX7, rfl⟩
theorem zf_X7_106 : zFd RX7 106 7 45 true := ⟨RX7, TX7, 50, rfl, rfl, by decide, inG7, by decide, zmem 753 (by decide +kernel) rfl, tyX7_ok, nmX7, rfl⟩
theorem zf_X7_109 : zFd RX7 109 7 46 true := ⟨RX7, TX7, 50, rfl, rfl, by decide, inG7, by decide, zmem 754 (by decide +kernel) rfl, tyX7_ok, nmX7, rfl⟩
theorem zf_X7_112 : zFd RX7 112 7 47 true := ⟨RX7, TX7, 50, rfl, rfl, by decide, inG7, by decide, zmem 755 (by decide +kernel) rfl, tyX7_ok, nmX7, rfl⟩
theorem zf_X7_115 : zFd RX7 115 7 48 true := ⟨RX7, TX7, 50, rfl, rfl, by decide, inG7, by decide, zmem 756 (by decide +kernel) rfl, tyX7_ok, nmX7, rfl⟩
theorem zf_X7_118 : zFd RX7 118 7 49 true := ⟨RX7, TX7, 50, rfl, rfl, by decide, inG7, by decide, zmem 757 (by decide +kernel) rfl, tyX7_ok, nmX7, rfl⟩
theorem zk_X7_150 : Cond.constantDouble RX7 150 4652007308841189376 ∈ lw_good := zmem 868 (by decide +kernel) rfl
theorem zk_X7_160 : Cond.constantDouble RX7 160 4621819117588971520 ∈ lw_good := zmem 875 (by decide +kernel) rfl
theorem zk_X7_162 : Cond.constantDouble RX7 162 4630122629401935872 ∈ lw_good := zmem 876 (by decide +kernel) rfl
theorem zk_X7_174 : Cond.constantDouble RX7 174 4626322717216342016 ∈ lw_good := zmem 888 (by decide +kernel) rfl
theorem zk_X7_176 : Cond.constantDouble RX7 176 13860109328209412096 ∈ lw_good := zmem 893 (by decide +kernel) rfl
theorem zk_X7_178 : Cond.constantDouble RX7 178 4636737291354636288 ∈ lw_good := zmem 894 (by decide +kernel) rfl
theorem zk_X7_268 : Cond.constantDouble RX7 268 4648488871632306176 ∈ lw_good := zmem 907 (by decide +kernel) rfl
theorem zk_X7_196 : Cond.constantDouble RX7 196 4562254508917369340 ∈ lw_good := zmem 924 (by decide +kernel) rfl
theorem zk_X7_190 : Cond.constantDouble RX7 190 4660134898793709568 ∈ lw_good := zmem 925 (by decide +kernel) rfl
theorem zk_X7_202 : Cond.constantLong RX7 202 24 ∈ lw_good := zmem 926 (by decide +kernel) rfl
theorem zk_X7_204 : Cond.constantDouble RX7 204 4576808701761150024 ∈ lw_good := zmem 927 (by decide +kernel) rfl
theorem zk_X7_206 : Cond.constantDouble RX7 206 4532020583610935537 ∈ lw_good := zmem 928 (by decide +kernel) rfl
theorem zk_X7_208 : Cond.constantDouble RX7 208 4566758108544739836 ∈ lw_good := zmem 929 (by decide +kernel) rfl
theorem zk_X7_219 : Cond.constantLong RX7 219 8 ∈ lw_good := zmem 934 (by decide +kernel) rfl
theorem zk_X7_221 : Cond.constantLong RX7 221 50 ∈ lw_good := zmem 935 (by decide +kernel) rfl
theorem zk_X7_180 : Cond.constantDouble RX7 180 4602678819172646912 ∈ lw_good := zmem 951 (by decide +kernel) rfl
theorem zk_X7_182 : Cond.constantDouble RX7 182 4616189618054758400 ∈ lw_good := zmem 952 (by decide +kernel) rfl
theorem zk_X7_184 : Cond.constantDouble RX7 184 4613937818241073152 ∈ lw_good := zmem 953 (by decide +kernel) rfl
theorem zk_X7_243 : Cond.constantDouble RX7 243 4620693217682128896 ∈ lw_good := zmem 962 (by decide +kernel) rfl
theorem zk_X7_248 : Cond.constantDouble RX7 248 4629981891913580544 ∈ lw_good := zmem 963 (by decide +kernel) rfl
theorem zk_X7_264 : Cond.constantDouble RX7 264 4622945017495814144 ∈ lw_good := zmem 972 (by decide +kernel) rfl
theorem zk_X7_266 : Cond.constantDouble RX7 266 4596373779694328218 ∈ lw_good := zmem 973 (by decide +kernel) rfl
theorem zk_X7_274 : Cond.constantDouble RX7 274 13920209183539462144 ∈ lw_good := zmem 978 (by decide +kernel) rfl
theorem zk_X7_279 : Cond.constantDouble RX7 279 4598175219545276416 ∈ lw_good := zmem 987 (by decide +kernel) rfl
theorem zk_X7_281 : Cond.constantLong RX7 281 4294967295 ∈ lw_good := zmem 999 (by decide +kernel) rfl
theorem zk_X7_283 : Cond.constantLong RX7 283 (-1) ∈ lw_good := zmem 1000 (by decide +kernel) rfl
theorem zk_X7_293 : Cond.constantDouble RX7 293 4591870180066957722 ∈ lw_good := zmem 1017 (by decide +kernel) rfl
theorem zk_X7_295 : Cond.constantDouble RX7 295 4643483894702669824 ∈ lw_good := zmem 1034 (by decide +kernel) rfl
theorem zk_X7_297 : Cond.constantDouble RX7 297 4643512921809643110 ∈ lw_good := zmem 1035 (by decide +kernel) rfl
theorem zk_X7_302 : Cond.constantDouble RX7 302 4664638498421080064 ∈ lw_good := zmem 1055 (by decide +kernel) rfl
theorem zk_X7_308 : Cond.constantDouble RX7 308 4472406533629990549 ∈ lw_good := zmem 1056 (by decide +kernel) rfl
theorem zk_L_21 : Cond.constantDouble RL 21 4593671619917905920 ∈ lw_good := zmem 1069 (by decide +kernel) rfl
theorem zs_X6_9 : zLs RX6 9 yX6_between cX6_between 2 ((some FieldType.int)) 2 := ⟨zmem 48 (by decide +kernel) rfl, zmem 49 (by decide +kernel) rfl, zmem 30 (by decide +kernel) rfl, zmem 50 (by decide +kernel) rfl, by decide +kernel, by decide +kernel, by decide +kernel⟩
theorem zs_X6_314 : zLs RX6 314 yJ9_min_7cf53 cJ9_min_7cf53 2 ((some FieldType.int)) 2 := ⟨zmem 51 (by decide +kernel) rfl, zmem 52 (by decide +kernel) rfl, zmem 31 (by decide +kernel) rfl, zmem 53 (by decide +kernel) rfl, by decide +kernel, by decide +kernel, by decide +kernel⟩
theorem zs_X6_317 : zLs RX6 317 yJ9_max_7cf53 cJ9_max_7cf53 2 ((some FieldType.int)) 2 := ⟨zmem 54 (by decide +kernel) rfl, zmem 55 (by decide +kernel) rfl, zmem 31 (by decide +kernel) rfl, zmem 56 (by decide +kernel) rfl, by decide +kernel, by decide +kernel, by decide +kernel⟩
theorem zs_X6_13 : zLs RX6 13 yX6_newCells cX6_newCells 3 ((some (FieldType.array (FieldType.object "CellCurrents$Cell")))) 1 := ⟨zmem 57 (by decide +kernel) rfl, zmem 58 (by decide +kernel) rfl, zmem 30 (by decide +kernel) rfl, zmem 59 (by decide +kernel) rfl, by decide +kernel, by decide +kernel, by decide +kernel⟩
theorem zs_X6_17 : zLs RX6 17 yX6_newSides cX6_newSides 2 ((some (FieldType.array (FieldType.object "CellCurrents$Side")))) 0 := ⟨zmem 131 (by decide +kernel) rfl, zmem 132 (by decide +kernel) rfl, zmem 30 (by decide +kernel) rfl, zmem 133 (by decide +kernel) rfl, by decide +kernel, by decide +kernel, by decide +kernel⟩
theorem zs_X6_39 : zLs RX6 39 yX6_newFaces cX6_newFaces 9 ((some (FieldType.array (FieldType.object "CellCurrents$Face")))) 4 := ⟨zmem 162 (by decide +kernel) rfl, zmem 163 (by decide +kernel) rfl, zmem 30 (by decide +kernel) rfl, zmem 164 (by decide +kernel) rfl, by decide +kernel, by decide +kernel, by decide +kernel⟩
theorem zs_X6_62 : zLs RX6 62 yX6_faceCount cX6_faceCount 2 ((some FieldType.int)) 2 := ⟨zmem 165 (by decide +kernel) rfl, zmem 166 (by decide +kernel) rfl, zmem 30 (by decide +kernel) rfl, zmem 167 (by decide +kernel) rfl, by decide +kernel, by decide +kernel, by decide +kernel⟩
theorem zs_X6_333 : zLs RX6 333 yX6_put cX6_put 3 ((some FieldType.int)) 3 := ⟨zmem 198 (by decide +kernel) rfl, zmem 199 (by decide +kernel) rfl, zmem 30 (by decide +kernel) rfl, zmem 200 (by decide +kernel) rfl, by decide +kernel, by decide +kernel, by decide +kernel⟩
theorem zs_X6_54 : zLs RX6 54 yX6_newNests cX6_newNests 2 ((some (FieldType.array (FieldType.object "CellCurrents$Nest")))) 0 := ⟨zmem 201 (by decide +kernel) rfl, zmem 202 (by decide +kernel) rfl, zmem 30 (by decide +kernel) rfl, zmem 203 (by decide +kernel) rfl, by decide +kernel, by decide +kernel, by decide +kernel⟩
theorem zs_X6_65 : zLs RX6 65 yX6_newStates cX6_newStates 4 ((some (FieldType.array (FieldType.object "CellCurrents$State")))) 2 := ⟨zmem 223 (by decide +kernel) rfl, zmem 224 (by decide +kernel) rfl, zmem 30 (by decide +kernel) rfl, zmem 225 (by decide +kernel) rfl, by decide +kernel, by decide +kernel, by decide +kernel⟩
theorem zv_L_23 : zLv RL 23 RX6 yX6_depth cX6_depth 10 ((some FieldType.boolean)) 3 := ⟨zmem 354 (by decide +kernel) rfl, zmem 355 (by decide +kernel) rfl, zmem 356 (by decide +kernel) rfl, zmem 30 (by decide +kernel) rfl, zmem 357 (by decide +kernel) rfl, by decide +kernel, by decide +kernel, by decide +kernel⟩
theorem zv_X6_80 : zLv RX6 80 RX6 yX6_cellAt cX6_cellAt 4 ((some (FieldType.object "CellCurrents$Cell"))) 2 := ⟨zmem 358 (by decide +kernel) rfl, zmem 360 (by decide +kernel) rfl, zmem 0 (by decide +kernel) rfl, zmem 30 (by decide +kernel) rfl, zmem 361 (by decide +kernel) rfl, by decide +kernel, by decide +kernel, by decide +kernel⟩
theorem zs_X6_86 : zLs RX6 86 yX6_inside cX6_inside 6 ((some FieldType.boolean)) 3 := ⟨zmem 363 (by decide +kernel) rfl, zmem 364 (by decide +kernel) rfl, zmem 30 (by decide +kernel) rfl, zmem 365 (by decide +kernel) rfl, by decide +kernel, by decide +kernel, by decide +kernel⟩
theorem zv_X6_99 : zLv RX6 99 RX0 yX0_become cX0_become 3 (none) 1 := ⟨zmem 366 (by decide +kernel) rfl, zmem 367 (by decide +kernel) rfl, zmem 368 (by decide +kernel) rfl, zmem 32 (by decide +kernel) rfl, zmem 369 (by decide +kernel) rfl, by decide +kernel, by decide +kernel, by decide +kernel⟩
theorem zv_X0_42 : zLv RX0 42 RX2 yX2_leave cX2_leave 1 (none) 0 := ⟨zmem 373 (by decide +kernel) rfl, zmem 374 (by decide +kernel) rfl, zmem 375 (by decide +kernel) rfl, zmem 35 (by decide +kernel) rfl, zmem 376 (by decide +kernel) rfl, by decide +kernel, by decide +kernel, by decide +kernel⟩
theorem zv_X6_103 : zLv RX6 103 RX1 yX1_restAt cX1_restAt 2 (none) 1 := ⟨zmem 377 (by decide +kernel) rfl, zmem 378 (by decide +kernel) rfl, zmem 379 (by decide +kernel) rfl, zmem 34 (by decide +kernel) rfl, zmem 380 (by decide +kernel) rfl, by decide +kernel, by decide +kernel, by decide +kernel⟩
theorem zv_L_28 : zLv RL 28 RX6 yX6_border cX6_border 8 ((some FieldType.boolean)) 4 := ⟨zmem 381 (by decide +kernel) rfl, zmem 382 (by decide +kernel) rfl, zmem 383 (by decide +kernel) rfl, zmem 30 (by decide +kernel) rfl, zmem 384 (by decide +kernel) rfl, by decide +kernel, by decide +kernel, by decide +kernel⟩
theorem zv_X6_112 : zLv RX6 112 RX6 yX6_sideAt cX6_sideAt 2 ((some (FieldType.object "CellCurrents$Side"))) 1 := ⟨zmem 385 (by decide +kernel) rfl, zmem 387 (by decide +kernel) rfl, zmem 1 (by decide +kernel) rfl, zmem 30 (by decide +kernel) rfl, zmem 388 (by decide +kernel) rfl, by decide +kernel, by decide +kernel, by decide +kernel⟩
theorem zv_X6_118 : zLv RX6 118 RX3 yX3_tell cX3_tell 6 (none) 3 := ⟨zmem 390 (by decide +kernel) rfl, zmem 391 (by decide +kernel) rfl, zmem 392 (by decide +kernel) rfl, zmem 33 (by decide +kernel) rfl, zmem 393 (by decide +kernel) rfl, by decide +kernel, by decide +kernel, by decide +kernel⟩
theorem zv_L_33 : zLv RL 33 RX6 yX6_wind cX6_wind 6 ((some FieldType.boolean)) 3 := ⟨zmem 394 (by decide +kernel) rfl, zmem 395 (by decide +kernel) rfl, zmem 396 (by decide +kernel) rfl, zmem 30 (by decide +kernel) rfl, zmem 397 (by decide +kernel) rfl, by decide +kernel, by decide +kernel, by decide +kernel⟩
theorem zv_L_38 : zLv RL 38 RX6 yX6_river cX6_river 6 ((some FieldType.boolean)) 3 := ⟨zmem 400 (by decide +kernel) rfl, zmem 401 (by decide +kernel) rfl, zmem 402 (by decide +kernel) rfl, zmem 30 (by decide +kernel) rfl, zmem 403 (by decide +kernel) rfl, by decide +kernel, by decide +kernel, by decide +kernel⟩
theorem zv_X6_128 : zLv RX6 128 RX6 yX6_waterAt cX6_waterAt 4 ((some (FieldType.object "CellCurrents$Cell"))) 2 := ⟨zmem 404 (by decide +kernel) rfl, zmem 406 (by decide +kernel) rfl, zmem 2 (by decide +kernel) rfl, zmem 30 (by decide +kernel) rfl, zmem 407 (by decide +kernel) rfl, by decide +kernel, by decide +kernel, by decide +kernel⟩
theorem zv_L_42 : zLv RL 42 RX6 yX6_run cX6_run 5 ((some FieldType.int)) 2 := ⟨zmem 408 (by decide +kernel) rfl, zmem 409 (by decide +kernel) rfl, zmem 410 (by decide +kernel) rfl, zmem 30 (by decide +kernel) rfl, zmem 411 (by decide +kernel) rfl, by decide +kernel, by decide +kernel, by decide +kernel⟩
theorem zv_X6_137 : zLv RX6 137 RX6 yX6_step cX6_step 8 (none) 1 := ⟨zmem 413 (by decide +kernel) rfl, zmem 415 (by decide +kernel) rfl, zmem 3 (by decide +kernel) rfl, zmem 30 (by decide +kernel) rfl, zmem 416 (by decide +kernel) rfl, by decide +kernel, by decide +kernel, by decide +kernel⟩
theorem zs_X6_281 : zLs RX6 281 yJ9_floorMod_f86c9 cJ9_floorMod_f86c9 6 ((some FieldType.long)) 2 := ⟨zmem 419 (by decide +kernel) rfl, zmem 420 (by decide +kernel) rfl, zmem 31 (by decide +kernel) rfl, zmem 421 (by decide +kernel) rfl, by decide +kernel, by decide +kernel, by decide +kernel⟩
theorem zv_X6_287 : zLv RX6 287 RX0 yX0_beginStep cX0_beginStep 1 (none) 0 := ⟨zmem 422 (by decide +kernel) rfl, zmem 423 (by decide +kernel) rfl, zmem 424 (by decide +kernel) rfl, zmem 32 (by decide +kernel) rfl, zmem 425 (by decide +kernel) rfl, by decide +kernel, by decide +kernel, by decide +kernel⟩
theorem zv_X0_54 : zLv RX0 54 RX0 yX0_surface cX0_surface 1 ((some FieldType.double)) 0 := ⟨zmem 426 (by decide +kernel) rfl, zmem 427 (by decide +kernel) rfl, zmem 428 (by decide +kernel) rfl, zmem 32 (by decide +kernel) rfl, zmem 429 (by decide +kernel) rfl, by decide +kernel, by decide +kernel, by decide +kernel⟩
theorem zv_X6_290 : zLv RX6 290 RX3 yX3_stand cX3_stand 4 (none) 1 := ⟨zmem 431 (by decide +kernel) rfl, zmem 432 (by decide +kernel) rfl, zmem 433 (by decide +kernel) rfl, zmem 33 (by decide +kernel) rfl, zmem 434 (by decide +kernel) rfl, by decide +kernel, by decide +kernel, by decide +kernel⟩
theorem zv_X6_293 : zLv RX6 293 RX1 yX1_settle cX1_settle 7 (none) 2 := ⟨zmem 441 (by decide +kernel) rfl, zmem 442 (by decide +kernel) rfl, zmem 443 (by decide +kernel) rfl, zmem 34 (by decide +kernel) rfl, zmem 444 (by decide +kernel) rfl, by decide +kernel, by decide +kernel, by decide +kernel⟩
theorem zv_X1_47 : zLv RX1 47 RX1 yX1_exists cX1_exists 1 ((some FieldType.boolean)) 0 := ⟨zmem 445 (by decide +kernel) rfl, zmem 446 (by decide +kernel) rfl, zmem 447 (by decide +kernel) rfl, zmem 34 (by decide +kernel) rfl, zmem 448 (by decide +kernel) rfl, by decide +kernel, by decide +kernel, by decide +kernel⟩
theorem zs_X1_30 : zLs RX1 30 yX1_isWater cX1_isWater 1 ((some FieldType.boolean)) 1 := ⟨zmem 449 (by decide +kernel) rfl, zmem 450 (by decide +kernel) rfl, zmem 34 (by decide +kernel) rfl, zmem 451 (by decide +kernel) rfl, by decide +kernel, by decide +kernel, by decide +kernel⟩
theorem zv_X1_51 : zLv RX1 51 RX1 yX1_surfaceOf cX1_surfaceOf 2 ((some FieldType.double)) 1 := ⟨zmem 452 (by decide +kernel) rfl, zmem 454 (by decide +kernel) rfl, zmem 4 (by decide +kernel) rfl, zmem 34 (by decide +kernel) rfl, zmem 455 (by decide +kernel) rfl, by decide +kernel, by decide +kernel, by decide +kernel⟩
theorem zv_X1_67 : zLv RX1 67 RX1 yX1_lesserParts cX1_lesserParts 3 ((some FieldType.long)) 0 := ⟨zmem 462 (by decide +kernel) rfl, zmem 464 (by decide +kernel) rfl, zmem 5 (by decide +kernel) rfl, zmem 34 (by decide +kernel) rfl, zmem 465 (by decide +kernel) rfl, by decide +kernel, by decide +kernel, by decide +kernel⟩
theorem zs_X1_115 : zLs RX1 115 yJ9_min_f86c9 cJ9_min_f86c9 4 ((some FieldType.long)) 2 := ⟨zmem 467 (by decide +kernel) rfl, zmem 468 (by decide +kernel) rfl, zmem 31 (by decide +kernel) rfl, zmem 469 (by decide +kernel) rfl, by decide +kernel, by decide +kernel, by decide +kernel⟩
theorem zv_X1_73 : zLv RX1 73 RX1 yX1_limited cX1_limited 6 ((some FieldType.long)) 1 := ⟨zmem 471 (by decide +kernel) rfl, zmem 473 (by decide +kernel) rfl, zmem 6 (by decide +kernel) rfl, zmem 34 (by decide +kernel) rfl, zmem 474 (by decide +kernel) rfl, by decide +kernel, by decide +kernel, by decide +kernel⟩
theorem zv_X1_121 : zLv RX1 121 RX0 yX0_isDry cX0_isDry 1 ((some FieldType.boolean)) 0 := ⟨zmem 475 (by decide +kernel) rfl, zmem 476 (by decide +kernel) rfl, zmem 477 (by decide +kernel) rfl, zmem 32 (by decide +kernel) rfl, zmem 478 (by decide +kernel) rfl, by decide +kernel, by decide +kernel, by decide +kernel⟩
theorem zs_X1_126 : zLs RX1 126 yJ9_max_f86c9 cJ9_max_f86c9 4 ((some FieldType.long)) 2 := ⟨zmem 481 (by decide +kernel) rfl, zmem 482 (by decide +kernel) rfl, zmem 31 (by decide +kernel) rfl, zmem 483 (by decide +kernel) rfl, by decide +kernel, by decide +kernel, by decide +kernel⟩
theorem zv_X1_77 : zLv RX1 77 RX0 yX0_feel cX0_feel 5 (none) 1 := ⟨zmem 484 (by decide +kernel) rfl, zmem 485 (by decide +kernel) rfl, zmem 486 (by decide +kernel) rfl, zmem 32 (by decide +kernel) rfl, zmem 487 (by decide +kernel) rfl, by decide +kernel, by decide +kernel, by decide +kernel⟩
theorem zv_X6_297 : zLv RX6 297 RX1 yX1_carry cX1_carry 5 (none) 0 := ⟨zmem 489 (by decide +kernel) rfl, zmem 490 (by decide +kernel) rfl, zmem 491 (by decide +kernel) rfl, zmem 34 (by decide +kernel) rfl, zmem 492 (by decide +kernel) rfl, by decide +kernel, by decide +kernel, by decide +kernel⟩
theorem zv_X1_91 : zLv RX1 91 RX0 yX0_gain cX0_gain 7 (none) 3 := ⟨zmem 495 (by decide +kernel) rfl, zmem 496 (by decide +kernel) rfl, zmem 497 (by decide +kernel) rfl, zmem 32 (by decide +kernel) rfl, zmem 498 (by decide +kernel) rfl, by decide +kernel, by decide +kernel, by decide +kernel⟩
theorem zv_X1_95 : zLv RX1 95 RX0 yX0_lose cX0_lose 3 (none) 1 := ⟨zmem 499 (by decide +kernel) rfl, zmem 500 (by decide +kernel) rfl, zmem 501 (by decide +kernel) rfl, zmem 32 (by decide +kernel) rfl, zmem 502 (by decide +kernel) rfl, by decide +kernel, by decide +kernel, by decide +kernel⟩
theorem zv_X6_300 : zLv RX6 300 RX0 yX0_takeRiver cX0_takeRiver 5 ((some FieldType.long)) 1 := ⟨zmem 503 (by decide +kernel) rfl, zmem 504 (by decide +kernel) rfl, zmem 505 (by decide +kernel) rfl, zmem 32 (by decide +kernel) rfl, zmem 506 (by decide +kernel) rfl, by decide +kernel, by decide +kernel, by decide +kernel⟩
theorem zv_X0_79 : zLv RX0 79 RX0 yX0_gain cX0_gain 7 (none) 3 := ⟨zmem 508 (by decide +kernel) rfl, zmem 496 (by decide +kernel) rfl, zmem 497 (by decide +kernel) rfl, zmem 32 (by decide +kernel) rfl, zmem 498 (by decide +kernel) rfl, by decide +kernel, by decide +kernel, by decide +kernel⟩
theorem zv_X6_304 : zLv RX6 304 RX0 yX0_endStep cX0_endStep 3 (none) 1 := ⟨zmem 509 (by decide +kernel) rfl, zmem 510 (by decide +kernel) rfl, zmem 511 (by decide +kernel) rfl, zmem 32 (by decide +kernel) rfl, zmem 512 (by decide +kernel) rfl, by decide +kernel, by decide +kernel, by decide +kernel⟩
theorem zv_X0_85 : zLv RX0 85 RX2 yX2_grow cX2_grow 10 (none) 1 := ⟨zmem 514 (by decide +kernel) rfl, zmem 515 (by decide +kernel) rfl, zmem 516 (by decide +kernel) rfl, zmem 35 (by decide +kernel) rfl, zmem 517 (by decide +kernel) rfl, by decide +kernel, by decide +kernel, by decide +kernel⟩
theorem zv_L_47 : zLv RL 47 RX6 yX6_level cX6_level 4 ((some FieldType.double)) 2 := ⟨zmem 519 (by decide +kernel) rfl, zmem 520 (by decide +kernel) rfl, zmem 521 (by decide +kernel) rfl, zmem 30 (by decide +kernel) rfl, zmem 522 (by decide +kernel) rfl, by decide +kernel, by decide +kernel, by decide +kernel⟩
theorem zs_X6_140 : zLs RX6 140 yX6_noReading cX6_noReading 0 ((some FieldType.double)) 0 := ⟨zmem 523 (by decide +kernel) rfl, zmem 524 (by decide +kernel) rfl, zmem 30 (by decide +kernel) rfl, zmem 525 (by decide +kernel) rfl, by decide +kernel, by decide +kernel, by decide +kernel⟩
theorem zv_X6_144 : zLv RX6 144 RX0 yX0_surface cX0_surface 1 ((some FieldType.double)) 0 := ⟨zmem 527 (by decide +kernel) rfl, zmem 427 (by decide +kernel) rfl, zmem 428 (by decide +kernel) rfl, zmem 32 (by decide +kernel) rfl, zmem 429 (by decide +kernel) rfl, by decide +kernel, by decide +kernel, by decide +kernel⟩
theorem zv_L_52 : zLv RL 52 RX6 yX6_speed cX6_speed 10 ((some FieldType.double)) 4 := ⟨zmem 528 (by decide +kernel) rfl, zmem 529 (by decide +kernel) rfl, zmem 530 (by decide +kernel) rfl, zmem 30 (by decide +kernel) rfl, zmem 531 (by decide +kernel) rfl, by decide +kernel, by decide +kernel, by decide +kernel⟩
theorem zv_X6_147 : zLv RX6 147 RX6 yX6_isLayer cX6_isLayer 2 ((some FieldType.boolean)) 1 := ⟨zmem 532 (by decide +kernel) rfl, zmem 534 (by decide +kernel) rfl, zmem 7 (by decide +kernel) rfl, zmem 30 (by decide +kernel) rfl, zmem 535 (by decide +kernel) rfl, by decide +kernel, by decide +kernel, by decide +kernel⟩
theorem zv_X6_158 : zLv RX6 158 RX1 yX1_exists cX1_exists 1 ((some FieldType.boolean)) 0 := ⟨zmem 536 (by decide +kernel) rfl, zmem 446 (by decide +kernel) rfl, zmem 447 (by decide +kernel) rfl, zmem 34 (by decide +kernel) rfl, zmem 448 (by decide +kernel) rfl, by decide +kernel, by decide +kernel, by decide +kernel⟩
theorem zv_L_57 : zLv RL 57 RX6 yX6_volume cX6_volume 2 ((some FieldType.long)) 1 := ⟨zmem 538 (by decide +kernel) rfl, zmem 539 (by decide +kernel) rfl, zmem 540 (by decide +kernel) rfl, zmem 30 (by decide +kernel) rfl, zmem 541 (by decide +kernel) rfl, by decide +kernel, by decide +kernel, by decide +kernel⟩
theorem zv_X6_167 : zLv RX6 167 RX6 yX6_allParts cX6_allParts 7 ((some FieldType.long)) 0 := ⟨zmem 542 (by decide +kernel) rfl, zmem 544 (by decide +kernel) rfl, zmem 8 (by decide +kernel) rfl, zmem 30 (by decide +kernel) rfl, zmem 545 (by decide +kernel) rfl, by decide +kernel, by decide +kernel, by decide +kernel⟩
theorem zs_X6_171 : zLs RX6 171 yX6_limbOf cX6_limbOf 3 ((some FieldType.long)) 2 := ⟨zmem 546 (by decide +kernel) rfl, zmem 547 (by decide +kernel) rfl, zmem 30 (by decide +kernel) rfl, zmem 548 (by decide +kernel) rfl, by decide +kernel, by decide +kernel, by decide +kernel⟩
theorem zv_L_62 : zLv RL 62 RX6 yX6_through cX6_through 4 ((some FieldType.long)) 2 := ⟨zmem 551 (by decide +kernel) rfl, zmem 552 (by decide +kernel) rfl, zmem 553 (by decide +kernel) rfl, zmem 30 (by decide +kernel) rfl, zmem 554 (by decide +kernel) rfl, by decide +kernel, by decide +kernel, by decide +kernel⟩
theorem zv_L_67 : zLv RL 67 RX6 yX6_kept cX6_kept 7 ((some FieldType.boolean)) 0 := ⟨zmem 555 (by decide +kernel) rfl, zmem 556 (by decide +kernel) rfl, zmem 557 (by decide +kernel) rfl, zmem 30 (by decide +kernel) rfl, zmem 558 (by decide +kernel) rfl, by decide +kernel, by decide +kernel, by decide +kernel⟩
theorem zv_L_72 : zLv RL 72 RX6 yX6_warm cX6_warm 5 ((some FieldType.double)) 3 := ⟨zmem 559 (by decide +kernel) rfl, zmem 560 (by decide +kernel) rfl, zmem 561 (by decide +kernel) rfl, zmem 30 (by decide +kernel) rfl, zmem 562 (by decide +kernel) rfl, by decide +kernel, by decide +kernel, by decide +kernel⟩
theorem zv_L_77 : zLv RL 77 RX6 yX6_salt cX6_salt 5 ((some FieldType.double)) 3 := ⟨zmem 563 (by decide +kernel) rfl, zmem 564 (by decide +kernel) rfl, zmem 565 (by decide +kernel) rfl, zmem 30 (by decide +kernel) rfl, zmem 566 (by decide +kernel) rfl, by decide +kernel, by decide +kernel, by decide +kernel⟩
theorem zv_L_81 : zLv RL 81 RX6 yX6_dry cX6_dry 4 ((some FieldType.boolean)) 2 := ⟨zmem 568 (by decide +kernel) rfl, zmem 569 (by decide +kernel) rfl, zmem 570 (by decide +kernel) rfl, zmem 30 (by decide +kernel) rfl, zmem 571 (by decide +kernel) rfl, by decide +kernel, by decide +kernel, by decide +kernel⟩
theorem zv_X6_193 : zLv RX6 193 RX0 yX0_isDry cX0_isDry 1 ((some FieldType.boolean)) 0 := ⟨zmem 572 (by decide +kernel) rfl, zmem 476 (by decide +kernel) rfl, zmem 477 (by decide +kernel) rfl, zmem 32 (by decide +kernel) rfl, zmem 478 (by decide +kernel) rfl, by decide +kernel, by decide +kernel, by decide +kernel⟩
theorem zv_L_86 : zLv RL 86 RX6 yX6_nest cX6_nest 6 ((some FieldType.int)) 3 := ⟨zmem 573 (by decide +kernel) rfl, zmem 574 (by decide +kernel) rfl, zmem 575 (by decide +kernel) rfl, zmem 30 (by decide +kernel) rfl, zmem 576 (by decide +kernel) rfl, by decide +kernel, by decide +kernel, by decide +kernel⟩
theorem zv_X6_203 : zLv RX6 203 RX2 yX2_settleIn cX2_settleIn 3 (none) 2 := ⟨zmem 577 (by decide +kernel) rfl, zmem 578 (by decide +kernel) rfl, zmem 579 (by decide +kernel) rfl, zmem 35 (by decide +kernel) rfl, zmem 580 (by decide +kernel) rfl, by decide +kernel, by decide +kernel, by decide +kernel⟩
theorem zv_X2_33 : zLv RX2 33 RX2 yX2_grow cX2_grow 10 (none) 1 := ⟨zmem 581 (by decide +kernel) rfl, zmem 515 (by decide +kernel) rfl, zmem 516 (by decide +kernel) rfl, zmem 35 (by decide +kernel) rfl, zmem 517 (by decide +kernel) rfl, by decide +kernel, by decide +kernel, by decide +kernel⟩
theorem zv_L_91 : zLv RL 91 RX6 yX6_equal cX6_equal 2 ((some FieldType.boolean)) 1 := ⟨zmem 582 (by decide +kernel) rfl, zmem 583 (by decide +kernel) rfl, zmem 584 (by decide +kernel) rfl, zmem 30 (by decide +kernel) rfl, zmem 585 (by decide +kernel) rfl, by decide +kernel, by decide +kernel, by decide +kernel⟩
theorem zv_X6_209 : zLv RX6 209 RX2 yX2_agrees cX2_agrees 4 ((some FieldType.boolean)) 0 := ⟨zmem 586 (by decide +kernel) rfl, zmem 587 (by decide +kernel) rfl, zmem 588 (by decide +kernel) rfl, zmem 35 (by decide +kernel) rfl, zmem 589 (by decide +kernel) rfl, by decide +kernel, by decide +kernel, by decide +kernel⟩
theorem zv_L_96 : zLv RL 96 RX6 yX6_fit cX6_fit 2 ((some FieldType.int)) 1 := ⟨zmem 590 (by decide +kernel) rfl, zmem 591 (by decide +kernel) rfl, zmem 592 (by decide +kernel) rfl, zmem 30 (by decide +kernel) rfl, zmem 593 (by decide +kernel) rfl, by decide +kernel, by decide +kernel, by decide +kernel⟩
theorem zv_X6_212 : zLv RX6 212 RX5 yX5_solve cX5_solve 4 ((some FieldType.int)) 1 := ⟨zmem 594 (by decide +kernel) rfl, zmem 595 (by decide +kernel) rfl, zmem 596 (by decide +kernel) rfl, zmem 37 (by decide +kernel) rfl, zmem 597 (by decide +kernel) rfl, by decide +kernel, by decide +kernel, by decide +kernel⟩
theorem zs_X5_40 : zLs RX5 40 yJ9_min_7cf53 cJ9_min_7cf53 2 ((some FieldType.int)) 2 := ⟨zmem 598 (by decide +kernel) rfl, zmem 52 (by decide +kernel) rfl, zmem 31 (by decide +kernel) rfl, zmem 53 (by decide +kernel) rfl, by decide +kernel, by decide +kernel, by decide +kernel⟩
theorem zv_X5_46 : zLv RX5 46 RX5 yX5_addUp cX5_addUp 5 (none) 1 := ⟨zmem 599 (by decide +kernel) rfl, zmem 601 (by decide +kernel) rfl, zmem 9 (by decide +kernel) rfl, zmem 37 (by decide +kernel) rfl, zmem 602 (by decide +kernel) rfl, by decide +kernel, by decide +kernel, by decide +kernel⟩
theorem zv_X5_60 : zLv RX5 60 RX5 yX5_fillSaws cX5_fillSaws 9 (none) 2 := ⟨zmem 603 (by decide +kernel) rfl, zmem 605 (by decide +kernel) rfl, zmem 10 (by decide +kernel) rfl, zmem 37 (by decide +kernel) rfl, zmem 606 (by decide +kernel) rfl, by decide +kernel, by decide +kernel, by decide +kernel⟩
theorem zv_X5_50 : zLv RX5 50 RX5 yX5_clearBelow cX5_clearBelow 7 ((some FieldType.int)) 1 := ⟨zmem 610 (by decide +kernel) rfl, zmem 612 (by decide +kernel) rfl, zmem 11 (by decide +kernel) rfl, zmem 37 (by decide +kernel) rfl, zmem 613 (by decide +kernel) rfl, by decide +kernel, by decide +kernel, by decide +kernel⟩
theorem zv_X5_70 : zLv RX5 70 RX5 yX5_subtractRow cX5_subtractRow 7 (none) 4 := ⟨zmem 616 (by decide +kernel) rfl, zmem 618 (by decide +kernel) rfl, zmem 12 (by decide +kernel) rfl, zmem 37 (by decide +kernel) rfl, zmem 619 (by decide +kernel) rfl, by decide +kernel, by decide +kernel, by decide +kernel⟩
theorem zv_X5_54 : zLv RX5 54 RX5 yX5_solveUpwards cX5_solveUpwards 6 (none) 1 := ⟨zmem 620 (by decide +kernel) rfl, zmem 622 (by decide +kernel) rfl, zmem 13 (by decide +kernel) rfl, zmem 37 (by decide +kernel) rfl, zmem 623 (by decide +kernel) rfl, by decide +kernel, by decide +kernel, by decide +kernel⟩
theorem zv_L_101 : zLv RL 101 RX6 yX6_gauge cX6_gauge 8 ((some FieldType.boolean)) 4 := ⟨zmem 624 (by decide +kernel) rfl, zmem 625 (by decide +kernel) rfl, zmem 626 (by decide +kernel) rfl, zmem 30 (by decide +kernel) rfl, zmem 627 (by decide +kernel) rfl, by decide +kernel, by decide +kernel, by decide +kernel⟩
theorem zv_X6_216 : zLv RX6 216 RX5 yX5_note cX5_note 6 ((some FieldType.boolean)) 2 := ⟨zmem 628 (by decide +kernel) rfl, zmem 629 (by decide +kernel) rfl, zmem 630 (by decide +kernel) rfl, zmem 37 (by decide +kernel) rfl, zmem 631 (by decide +kernel) rfl, by decide +kernel, by decide +kernel, by decide +kernel⟩
theorem zv_L_105 : zLv RL 105 RX6 yX6_tide cX6_tide 3 ((some FieldType.double)) 1 := ⟨zmem 632 (by decide +kernel) rfl, zmem 633 (by decide +kernel) rfl, zmem 634 (by decide +kernel) rfl, zmem 30 (by decide +kernel) rfl, zmem 635 (by decide +kernel) rfl, by decide +kernel, by decide +kernel, by decide +kernel⟩
theorem zv_X6_227 : zLv RX6 227 RX5 yX5_heightAt cX5_heightAt 6 ((some FieldType.double)) 1 := ⟨zmem 636 (by decide +kernel) rfl, zmem 637 (by decide +kernel) rfl, zmem 638 (by decide +kernel) rfl, zmem 37 (by decide +kernel) rfl, zmem 639 (by decide +kernel) rfl, by decide +kernel, by decide +kernel, by decide +kernel⟩
theorem zv_L_110 : zLv RL 110 RX6 yX6_save cX6_save 3 ((some FieldType.int)) 0 := ⟨zmem 640 (by decide +kernel) rfl, zmem 641 (by decide +kernel) rfl, zmem 642 (by decide +kernel) rfl, zmem 30 (by decide +kernel) rfl, zmem 643 (by decide +kernel) rfl, by decide +kernel, by decide +kernel, by decide +kernel⟩
theorem zv_X6_234 : zLv RX6 234 RX4 yX4_keepCells cX4_keepCells 3 (none) 1 := ⟨zmem 644 (by decide +kernel) rfl, zmem 645 (by decide +kernel) rfl, zmem 646 (by decide +kernel) rfl, zmem 36 (by decide +kernel) rfl, zmem 647 (by decide +kernel) rfl, by decide +kernel, by decide +kernel, by decide +kernel⟩
theorem zv_X4_38 : zLv RX4 38 RX4 yX4_cellsIn cX4_cellsIn 2 ((some FieldType.int)) 1 := ⟨zmem 648 (by decide +kernel) rfl, zmem 650 (by decide +kernel) rfl, zmem 14 (by decide +kernel) rfl, zmem 36 (by decide +kernel) rfl, zmem 651 (by decide +kernel) rfl, by decide +kernel, by decide +kernel, by decide +kernel⟩
theorem zs_X4_66 : zLs RX4 66 yJ9_min_7cf53 cJ9_min_7cf53 2 ((some FieldType.int)) 2 := ⟨zmem 652 (by decide +kernel) rfl, zmem 52 (by decide +kernel) rfl, zmem 31 (by decide +kernel) rfl, zmem 53 (by decide +kernel) rfl, by decide +kernel, by decide +kernel, by decide +kernel⟩
theorem zv_X6_240 : zLv RX6 240 RX4 yX4_keepFaces cX4_keepFaces 3 (none) 1 := ⟨zmem 653 (by decide +kernel) rfl, zmem 654 (by decide +kernel) rfl, zmem 655 (by decide +kernel) rfl, zmem 36 (by decide +kernel) rfl, zmem 656 (by decide +kernel) rfl, by decide +kernel, by decide +kernel, by decide +kernel⟩
theorem zv_X6_244 : zLv RX6 244 RX4 yX4_keepNests cX4_keepNests 3 (none) 1 := ⟨zmem 657 (by decide +kernel) rfl, zmem 658 (by decide +kernel) rfl, zmem 659 (by decide +kernel) rfl, zmem 36 (by decide +kernel) rfl, zmem 660 (by decide +kernel) rfl, by decide +kernel, by decide +kernel, by decide +kernel⟩
theorem zv_X6_248 : zLv RX6 248 RX4 yX4_keepSides cX4_keepSides 3 (none) 1 := ⟨zmem 661 (by decide +kernel) rfl, zmem 662 (by decide +kernel) rfl, zmem 663 (by decide +kernel) rfl, zmem 36 (by decide +kernel) rfl, zmem 664 (by decide +kernel) rfl, by decide +kernel, by decide +kernel, by decide +kernel⟩
theorem zv_L_115 : zLv RL 115 RX6 yX6_back cX6_back 3 ((some FieldType.boolean)) 1 := ⟨zmem 665 (by decide +kernel) rfl, zmem 666 (by decide +kernel) rfl, zmem 667 (by decide +kernel) rfl, zmem 30 (by decide +kernel) rfl, zmem 668 (by decide +kernel) rfl, by decide +kernel, by decide +kernel, by decide +kernel⟩
theorem zv_X6_258 : zLv RX6 258 RX4 yX4_giveCells cX4_giveCells 3 (none) 1 := ⟨zmem 669 (by decide +kernel) rfl, zmem 670 (by decide +kernel) rfl, zmem 671 (by decide +kernel) rfl, zmem 36 (by decide +kernel) rfl, zmem 672 (by decide +kernel) rfl, by decide +kernel, by decide +kernel, by decide +kernel⟩
theorem zv_X6_261 : zLv RX6 261 RX4 yX4_giveFaces cX4_giveFaces 3 (none) 1 := ⟨zmem 673 (by decide +kernel) rfl, zmem 674 (by decide +kernel) rfl, zmem 675 (by decide +kernel) rfl, zmem 36 (by decide +kernel) rfl, zmem 676 (by decide +kernel) rfl, by decide +kernel, by decide +kernel, by decide +kernel⟩
theorem zv_X6_264 : zLv RX6 264 RX4 yX4_giveNests cX4_giveNests 3 (none) 1 := ⟨zmem 677 (by decide +kernel) rfl, zmem 678 (by decide +kernel) rfl, zmem 679 (by decide +kernel) rfl, zmem 36 (by decide +kernel) rfl, zmem 680 (by decide +kernel) rfl, by decide +kernel, by decide +kernel, by decide +kernel⟩
theorem zv_X6_267 : zLv RX6 267 RX4 yX4_giveSides cX4_giveSides 3 (none) 1 := ⟨zmem 681 (by decide +kernel) rfl, zmem 682 (by decide +kernel) rfl, zmem 683 (by decide +kernel) rfl, zmem 36 (by decide +kernel) rfl, zmem 684 (by decide +kernel) rfl, by decide +kernel, by decide +kernel, by decide +kernel⟩
theorem zv_L_119 : zLv RL 119 RX6 yX6_ice cX6_ice 6 ((some FieldType.double)) 2 := ⟨zmem 685 (by decide +kernel) rfl, zmem 686 (by decide +kernel) rfl, zmem 687 (by decide +kernel) rfl, zmem 30 (by decide +kernel) rfl, zmem 688 (by decide +kernel) rfl, by decide +kernel, by decide +kernel, by decide +kernel⟩
theorem zv_L_123 : zLv RL 123 RX6 yX6_mud cX6_mud 4 ((some FieldType.double)) 2 := ⟨zmem 691 (by decide +kernel) rfl, zmem 692 (by decide +kernel) rfl, zmem 693 (by decide +kernel) rfl, zmem 30 (by decide +kernel) rfl, zmem 694 (by decide +kernel) rfl, by decide +kernel, by decide +kernel, by decide +kernel⟩
theorem zv_L_127 : zLv RL 127 RX6 yX6_differs cX6_differs 4 ((some FieldType.double)) 2 := ⟨zmem 695 (by decide +kernel) rfl, zmem 696 (by decide +kernel) rfl, zmem 697 (by decide +kernel) rfl, zmem 30 (by decide +kernel) rfl, zmem 698 (by decide +kernel) rfl, by decide +kernel, by decide +kernel, by decide +kernel⟩
theorem zs_L_9 : zLs RL 9 yL_cell cL_cell 2 ((some FieldType.int)) 2 := ⟨zmem 699 (by decide +kernel) rfl, zmem 700 (by decide +kernel) rfl, zmem 29 (by decide +kernel) rfl, zmem 701 (by decide +kernel) rfl, by decide +kernel, by decide +kernel, by decide +kernel⟩
theorem zv_L_27 : zLv RL 27 RX7 yX7_depth cX7_depth 7 ((some FieldType.boolean)) 3 := ⟨zmem 860 (by decide +kernel) rfl, zmem 861 (by decide +kernel) rfl, zmem 862 (by decide +kernel) rfl, zmem 38 (by decide +kernel) rfl, zmem 863 (by decide +kernel) rfl, by decide +kernel, by decide +kernel, by decide +kernel⟩
theorem zv_X7_131 : zLv RX7 131 RX7 yX7_isCell cX7_isCell 3 ((some FieldType.boolean)) 2 := ⟨zmem 864 (by decide +kernel) rfl, zmem 866 (by decide +kernel) rfl, zmem 15 (by decide +kernel) rfl, zmem 38 (by decide +kernel) rfl, zmem 867 (by decide +kernel) rfl, by decide +kernel, by decide +kernel, by decide +kernel⟩
theorem zs_X7_152 : zLs RX7 152 yX7_isIn cX7_isIn 6 ((some FieldType.boolean)) 3 := ⟨zmem 869 (by decide +kernel) rfl, zmem 870 (by decide +kernel) rfl, zmem 38 (by decide +kernel) rfl, zmem 871 (by decide +kernel) rfl, by decide +kernel, by decide +kernel, by decide +kernel⟩
theorem zs_X7_135 : zLs RX7 135 yX7_at cX7_at 2 ((some FieldType.int)) 2 := ⟨zmem 872 (by decide +kernel) rfl, zmem 873 (by decide +kernel) rfl, zmem 38 (by decide +kernel) rfl, zmem 874 (by decide +kernel) rfl, by decide +kernel, by decide +kernel, by decide +kernel⟩
theorem zv_X7_142 : zLv RX7 142 RX7 yX7_isAtSide cX7_isAtSide 4 ((some FieldType.boolean)) 3 := ⟨zmem 877 (by decide +kernel) rfl, zmem 879 (by decide +kernel) rfl, zmem 16 (by decide +kernel) rfl, zmem 38 (by decide +kernel) rfl, zmem 880 (by decide +kernel) rfl, by decide +kernel, by decide +kernel, by decide +kernel⟩
theorem zs_X7_164 : zLs RX7 164 yX7_sideFace cX7_sideFace 3 ((some FieldType.int)) 3 := ⟨zmem 881 (by decide +kernel) rfl, zmem 882 (by decide +kernel) rfl, zmem 38 (by decide +kernel) rfl, zmem 883 (by decide +kernel) rfl, by decide +kernel, by decide +kernel, by decide +kernel⟩
theorem zv_L_32 : zLv RL 32 RX7 yX7_border cX7_border 7 ((some FieldType.boolean)) 4 := ⟨zmem 884 (by decide +kernel) rfl, zmem 885 (by decide +kernel) rfl, zmem 886 (by decide +kernel) rfl, zmem 38 (by decide +kernel) rfl, zmem 887 (by decide +kernel) rfl, by decide +kernel, by decide +kernel, by decide +kernel⟩
theorem zv_L_37 : zLv RL 37 RX7 yX7_wind cX7_wind 6 ((some FieldType.boolean)) 3 := ⟨zmem 889 (by decide +kernel) rfl, zmem 890 (by decide +kernel) rfl, zmem 891 (by decide +kernel) rfl, zmem 38 (by decide +kernel) rfl, zmem 892 (by decide +kernel) rfl, by decide +kernel, by decide +kernel, by decide +kernel⟩
theorem zv_L_41 : zLv RL 41 RX7 yX7_river cX7_river 5 ((some FieldType.boolean)) 3 := ⟨zmem 895 (by decide +kernel) rfl, zmem 896 (by decide +kernel) rfl, zmem 897 (by decide +kernel) rfl, zmem 38 (by decide +kernel) rfl, zmem 898 (by decide +kernel) rfl, by decide +kernel, by decide +kernel, by decide +kernel⟩
theorem zv_X7_139 : zLv RX7 139 RX7 yX7_isWater cX7_isWater 3 ((some FieldType.boolean)) 2 := ⟨zmem 899 (by decide +kernel) rfl, zmem 901 (by decide +kernel) rfl, zmem 17 (by decide +kernel) rfl, zmem 38 (by decide +kernel) rfl, zmem 902 (by decide +kernel) rfl, by decide +kernel, by decide +kernel, by decide +kernel⟩
theorem zv_L_46 : zLv RL 46 RX7 yX7_run cX7_run 5 ((some FieldType.int)) 2 := ⟨zmem 903 (by decide +kernel) rfl, zmem 904 (by decide +kernel) rfl, zmem 905 (by decide +kernel) rfl, zmem 38 (by decide +kernel) rfl, zmem 906 (by decide +kernel) rfl, by decide +kernel, by decide +kernel, by decide +kernel⟩
theorem zv_X7_270 : zLv RX7 270 RX7 yX7_step cX7_step 7 (none) 1 := ⟨zmem 908 (by decide +kernel) rfl, zmem 910 (by decide +kernel) rfl, zmem 18 (by decide +kernel) rfl, zmem 38 (by decide +kernel) rfl, zmem 911 (by decide +kernel) rfl, by decide +kernel, by decide +kernel, by decide +kernel⟩
theorem zv_X7_223 : zLv RX7 223 RX7 yX7_hasFace cX7_hasFace 4 ((some FieldType.boolean)) 3 := ⟨zmem 912 (by decide +kernel) rfl, zmem 914 (by decide +kernel) rfl, zmem 19 (by decide +kernel) rfl, zmem 38 (by decide +kernel) rfl, zmem 915 (by decide +kernel) rfl, by decide +kernel, by decide +kernel, by decide +kernel⟩
theorem zv_X7_226 : zLv RX7 226 RX7 yX7_flow cX7_flow 23 (none) 6 := ⟨zmem 916 (by decide +kernel) rfl, zmem 918 (by decide +kernel) rfl, zmem 20 (by decide +kernel) rfl, zmem 38 (by decide +kernel) rfl, zmem 919 (by decide +kernel) rfl, by decide +kernel, by decide +kernel, by decide +kernel⟩
theorem zv_X7_198 : zLv RX7 198 RX7 yX7_levelOf cX7_levelOf 2 ((some FieldType.double)) 1 := ⟨zmem 920 (by decide +kernel) rfl, zmem 922 (by decide +kernel) rfl, zmem 21 (by decide +kernel) rfl, zmem 38 (by decide +kernel) rfl, zmem 923 (by decide +kernel) rfl, by decide +kernel, by decide +kernel, by decide +kernel⟩
theorem zs_X7_210 : zLs RX7 210 yX7_size cX7_size 2 ((some FieldType.double)) 1 := ⟨zmem 930 (by decide +kernel) rfl, zmem 931 (by decide +kernel) rfl, zmem 38 (by decide +kernel) rfl, zmem 932 (by decide +kernel) rfl, by decide +kernel, by decide +kernel, by decide +kernel⟩
theorem zs_X7_213 : zLs RX7 213 yJ9_min_f86c9 cJ9_min_f86c9 4 ((some FieldType.long)) 2 := ⟨zmem 933 (by decide +kernel) rfl, zmem 468 (by decide +kernel) rfl, zmem 31 (by decide +kernel) rfl, zmem 469 (by decide +kernel) rfl, by decide +kernel, by decide +kernel, by decide +kernel⟩
theorem zv_X7_230 : zLv RX7 230 RX7 yX7_hasSideFace cX7_hasSideFace 4 ((some FieldType.boolean)) 3 := ⟨zmem 936 (by decide +kernel) rfl, zmem 938 (by decide +kernel) rfl, zmem 22 (by decide +kernel) rfl, zmem 38 (by decide +kernel) rfl, zmem 939 (by decide +kernel) rfl, by decide +kernel, by decide +kernel, by decide +kernel⟩
theorem zv_X7_146 : zLv RX7 146 RX7 yX7_isOpen cX7_isOpen 4 ((some FieldType.boolean)) 1 := ⟨zmem 940 (by decide +kernel) rfl, zmem 942 (by decide +kernel) rfl, zmem 23 (by decide +kernel) rfl, zmem 38 (by decide +kernel) rfl, zmem 943 (by decide +kernel) rfl, by decide +kernel, by decide +kernel, by decide +kernel⟩
theorem zv_X7_233 : zLv RX7 233 RX7 yX7_outside cX7_outside 5 ((some FieldType.double)) 1 := ⟨zmem 944 (by decide +kernel) rfl, zmem 946 (by decide +kernel) rfl, zmem 24 (by decide +kernel) rfl, zmem 38 (by decide +kernel) rfl, zmem 947 (by decide +kernel) rfl, by decide +kernel, by decide +kernel, by decide +kernel⟩
theorem zs_X7_192 : zLs RX7 192 yX7_saw cX7_saw 4 ((some FieldType.double)) 1 := ⟨zmem 948 (by decide +kernel) rfl, zmem 949 (by decide +kernel) rfl, zmem 38 (by decide +kernel) rfl, zmem 950 (by decide +kernel) rfl, by decide +kernel, by decide +kernel, by decide +kernel⟩
theorem zv_X7_236 : zLv RX7 236 RX7 yX7_change cX7_change 10 (none) 3 := ⟨zmem 954 (by decide +kernel) rfl, zmem 956 (by decide +kernel) rfl, zmem 25 (by decide +kernel) rfl, zmem 38 (by decide +kernel) rfl, zmem 957 (by decide +kernel) rfl, by decide +kernel, by decide +kernel, by decide +kernel⟩
theorem zv_X7_257 : zLv RX7 257 RX7 yX7_pass cX7_pass 6 (none) 4 := ⟨zmem 958 (by decide +kernel) rfl, zmem 960 (by decide +kernel) rfl, zmem 26 (by decide +kernel) rfl, zmem 38 (by decide +kernel) rfl, zmem 961 (by decide +kernel) rfl, by decide +kernel, by decide +kernel, by decide +kernel⟩
theorem zs_X7_253 : zLs RX7 253 yJ9_max_eb370 cJ9_max_eb370 4 ((some FieldType.double)) 2 := ⟨zmem 964 (by decide +kernel) rfl, zmem 965 (by decide +kernel) rfl, zmem 31 (by decide +kernel) rfl, zmem 966 (by decide +kernel) rfl, by decide +kernel, by decide +kernel, by decide +kernel⟩
theorem zv_L_51 : zLv RL 51 RX7 yX7_level cX7_level 3 ((some FieldType.double)) 2 := ⟨zmem 974 (by decide +kernel) rfl, zmem 975 (by decide +kernel) rfl, zmem 976 (by decide +kernel) rfl, zmem 38 (by decide +kernel) rfl, zmem 977 (by decide +kernel) rfl, by decide +kernel, by decide +kernel, by decide +kernel⟩
theorem zv_L_56 : zLv RL 56 RX7 yX7_speed cX7_speed 8 ((some FieldType.double)) 4 := ⟨zmem 979 (by decide +kernel) rfl, zmem 980 (by decide +kernel) rfl, zmem 981 (by decide +kernel) rfl, zmem 38 (by decide +kernel) rfl, zmem 982 (by decide +kernel) rfl, by decide +kernel, by decide +kernel, by decide +kernel⟩
theorem zv_X7_276 : zLv RX7 276 RX7 yX7_isLayer cX7_isLayer 2 ((some FieldType.boolean)) 1 := ⟨zmem 983 (by decide +kernel) rfl, zmem 985 (by decide +kernel) rfl, zmem 27 (by decide +kernel) rfl, zmem 38 (by decide +kernel) rfl, zmem 986 (by decide +kernel) rfl, by decide +kernel, by decide +kernel, by decide +kernel⟩
theorem zv_L_61 : zLv RL 61 RX7 yX7_volume cX7_volume 2 ((some FieldType.long)) 1 := ⟨zmem 988 (by decide +kernel) rfl, zmem 989 (by decide +kernel) rfl, zmem 990 (by decide +kernel) rfl, zmem 38 (by decide +kernel) rfl, zmem 991 (by decide +kernel) rfl, by decide +kernel, by decide +kernel, by decide +kernel⟩
theorem zv_X7_285 : zLv RX7 285 RX7 yX7_total cX7_total 4 ((some FieldType.long)) 0 := ⟨zmem 992 (by decide +kernel) rfl, zmem 994 (by decide +kernel) rfl, zmem 28 (by decide +kernel) rfl, zmem 38 (by decide +kernel) rfl, zmem 995 (by decide +kernel) rfl, by decide +kernel, by decide +kernel, by decide +kernel⟩
theorem zs_X7_289 : zLs RX7 289 yX7_limb cX7_limb 3 ((some FieldType.long)) 2 := ⟨zmem 996 (by decide +kernel) rfl, zmem 997 (by decide +kernel) rfl, zmem 38 (by decide +kernel) rfl, zmem 998 (by decide +kernel) rfl, by decide +kernel, by decide +kernel, by decide +kernel⟩
theorem zv_L_66 : zLv RL 66 RX7 yX7_through cX7_through 3 ((some FieldType.long)) 2 := ⟨zmem 1001 (by decide +kernel) rfl, zmem 1002 (by decide +kernel) rfl, zmem 1003 (by decide +kernel) rfl, zmem 38 (by decide +kernel) rfl, zmem 1004 (by decide +kernel) rfl, by decide +kernel, by decide +kernel, by decide +kernel⟩
theorem zv_L_71 : zLv RL 71 RX7 yX7_kept cX7_kept 1 ((some FieldType.boolean)) 0 := ⟨zmem 1005 (by decide +kernel) rfl, zmem 1006 (by decide +kernel) rfl, zmem 1007 (by decide +kernel) rfl, zmem 38 (by decide +kernel) rfl, zmem 1008 (by decide +kernel) rfl, by decide +kernel, by decide +kernel, by decide +kernel⟩
theorem zv_L_76 : zLv RL 76 RX7 yX7_warm cX7_warm 4 ((some FieldType.double)) 3 := ⟨zmem 1009 (by decide +kernel) rfl, zmem 1010 (by decide +kernel) rfl, zmem 1011 (by decide +kernel) rfl, zmem 38 (by decide +kernel) rfl, zmem 1012 (by decide +kernel) rfl, by decide +kernel, by decide +kernel, by decide +kernel⟩
theorem zv_L_80 : zLv RL 80 RX7 yX7_salt cX7_salt 4 ((some FieldType.double)) 3 := ⟨zmem 1013 (by decide +kernel) rfl, zmem 1014 (by decide +kernel) rfl, zmem 1015 (by decide +kernel) rfl, zmem 38 (by decide +kernel) rfl, zmem 1016 (by decide +kernel) rfl, by decide +kernel, by decide +kernel, by decide +kernel⟩
theorem zv_L_85 : zLv RL 85 RX7 yX7_dry cX7_dry 3 ((some FieldType.boolean)) 2 := ⟨zmem 1018 (by decide +kernel) rfl, zmem 1019 (by decide +kernel) rfl, zmem 1020 (by decide +kernel) rfl, zmem 38 (by decide +kernel) rfl, zmem 1021 (by decide +kernel) rfl, by decide +kernel, by decide +kernel, by decide +kernel⟩
theorem zv_L_90 : zLv RL 90 RX7 yX7_nest cX7_nest 4 ((some FieldType.int)) 3 := ⟨zmem 1022 (by decide +kernel) rfl, zmem 1023 (by decide +kernel) rfl, zmem 1024 (by decide +kernel) rfl, zmem 38 (by decide +kernel) rfl, zmem 1025 (by decide +kernel) rfl, by decide +kernel, by decide +kernel, by decide +kernel⟩
theorem zv_L_95 : zLv RL 95 RX7 yX7_equal cX7_equal 2 ((some FieldType.boolean)) 1 := ⟨zmem 1026 (by decide +kernel) rfl, zmem 1027 (by decide +kernel) rfl, zmem 1028 (by decide +kernel) rfl, zmem 38 (by decide +kernel) rfl, zmem 1029 (by decide +kernel) rfl, by decide +kernel, by decide +kernel, by decide +kernel⟩
theorem zv_L_122 : zLv RL 122 RX7 yX7_ice cX7_ice 5 ((some FieldType.double)) 2 := ⟨zmem 1030 (by decide +kernel) rfl, zmem 1031 (by decide +kernel) rfl, zmem 1032 (by decide +kernel) rfl, zmem 38 (by decide +kernel) rfl, zmem 1033 (by decide +kernel) rfl, by decide +kernel, by decide +kernel, by decide +kernel⟩
theorem zv_L_126 : zLv RL 126 RX7 yX7_mud cX7_mud 3 ((some FieldType.double)) 2 := ⟨zmem 1036 (by decide +kernel) rfl, zmem 1037 (by decide +kernel) rfl, zmem 1038 (by decide +kernel) rfl, zmem 38 (by decide +kernel) rfl, zmem 1039 (by decide +kernel) rfl, by decide +kernel, by decide +kernel, by decide +kernel⟩
theorem zv_L_130 : zLv RL 130 RX7 yX7_differs cX7_differs 6 ((some FieldType.double)) 2 := ⟨zmem 1040 (by decide +kernel) rfl, zmem 1041 (by decide +kernel) rfl, zmem 1042 (by decide +kernel) rfl, zmem 38 (by decide +kernel) rfl, zmem 1043 (by decide +kernel) rfl, by decide +kernel, by decide +kernel, by decide +kernel⟩
theorem zv_L_104 : zLv RL 104 RX7 yX7_gauge cX7_gauge 7 ((some FieldType.boolean)) 4 := ⟨zmem 1044 (by decide +kernel) rfl, zmem 1045 (by decide +kernel) rfl, zmem 1046 (by decide +kernel) rfl, zmem 38 (by decide +kernel) rfl, zmem 1047 (by decide +kernel) rfl, by decide +kernel, by decide +kernel, by decide +kernel⟩
theorem zv_L_100 : zLv RL 100 RX7 yX7_fit cX7_fit 9 ((some FieldType.int)) 1 := ⟨zmem 1048 (by decide +kernel) rfl, zmem 1049 (by decide +kernel) rfl, zmem 1050 (by decide +kernel) rfl, zmem 38 (by decide +kernel) rfl, zmem 1051 (by decide +kernel) rfl, by decide +kernel, by decide +kernel, by decide +kernel⟩
theorem zs_X7_304 : zLs RX7 304 yX7_column cX7_column 5 ((some FieldType.double)) 2 := ⟨zmem 1052 (by decide +kernel) rfl, zmem 1053 (by decide +kernel) rfl, zmem 38 (by decide +kernel) rfl, zmem 1054 (by decide +kernel) rfl, by decide +kernel, by decide +kernel, by decide +kernel⟩
theorem zv_L_109 : zLv RL 109 RX7 yX7_tide cX7_tide 6 ((some FieldType.double)) 1 := ⟨zmem 1057 (by decide +kernel) rfl, zmem 1058 (by decide +kernel) rfl, zmem 1059 (by decide +kernel) rfl, zmem 38 (by decide +kernel) rfl, zmem 1060 (by decide +kernel) rfl, by decide +kernel, by decide +kernel, by decide +kernel⟩
theorem zv_L_114 : zLv RL 114 RX7 yX7_save cX7_save 2 ((some FieldType.int)) 0 := ⟨zmem 1061 (by decide +kernel) rfl, zmem 1062 (by decide +kernel) rfl, zmem 1063 (by decide +kernel) rfl, zmem 38 (by decide +kernel) rfl, zmem 1064 (by decide +kernel) rfl, by decide +kernel, by decide +kernel, by decide +kernel⟩
theorem zv_L_118 : zLv RL 118 RX7 yX7_back cX7_back 3 ((some FieldType.boolean)) 1 := ⟨zmem 1065 (by decide +kernel) rfl, zmem 1066 (by decide +kernel) rfl, zmem 1067 (by decide +kernel) rfl, zmem 38 (by decide +kernel) rfl, zmem 1068 (by decide +kernel) rfl, by decide +kernel, by decide +kernel, by decide +kernel⟩
theorem zn_X3_26 : zLn RX3 26 yX6_saw RX6 cX6_saw 4 ((some FieldType.double)) 1 := ⟨by simp [znest], zmem 436 (by decide +kernel) rfl, zmem 30 (by decide +kernel) rfl, zmem 437 (by decide +kernel) rfl, by decide +kernel, by decide +kernel, by decide +kernel⟩
theorem zn_X1_61 : zLn RX1 61 yX6_sizeOf RX6 cX6_sizeOf 2 ((some FieldType.double)) 1 := ⟨by simp [znest], zmem 460 (by decide +kernel) rfl, zmem 30 (by decide +kernel) rfl, zmem 461 (by decide +kernel) rfl, by decide +kernel, by decide +kernel, by decide +kernel⟩
theorem zn_X0_70 : zLn RX0 70 yX6_sizeOf RX6 cX6_sizeOf 2 ((some FieldType.double)) 1 := ⟨by simp [znest], zmem 460 (by decide +kernel) rfl, zmem 30 (by decide +kernel) rfl, zmem 461 (by decide +kernel) rfl, by decide +kernel, by decide +kernel, by decide +kernel⟩
theorem zn_X5_76 : zLn RX5 76 yX6_saw RX6 cX6_saw 4 ((some FieldType.double)) 1 := ⟨by simp [znest], zmem 436 (by decide +kernel) rfl, zmem 30 (by decide +kernel) rfl, zmem 437 (by decide +kernel) rfl, by decide +kernel, by decide +kernel, by decide +kernel⟩
theorem zn_X5_64 : zLn RX5 64 yX6_sizeOf RX6 cX6_sizeOf 2 ((some FieldType.double)) 1 := ⟨by simp [znest], zmem 460 (by decide +kernel) rfl, zmem 30 (by decide +kernel) rfl, zmem 461 (by decide +kernel) rfl, by decide +kernel, by decide +kernel, by decide +kernel⟩
end
section
theorem zlc_ge (x y : Int64) : 0 ≤ lg_cmp x y ↔ ¬ x < y := by
  rw [lg_cmp_ge, Int64.le_iff_toInt_le, Int64.lt_iff_toInt_lt]
  omega
theorem zlc_le (x y : Int64) : lg_cmp x y ≤ 0 ↔ ¬ y < x := by
  unfold lg_cmp
  by_cases h : y < x
  · rw [if_pos h]
    exact ⟨fun q => absurd q (by decide), fun q => absurd h q⟩
  · rw [if_neg h]
    refine ⟨fun _ => h, fun _ => ?_⟩
    by_cases h2 : x = y
    · rw [if_pos h2]; decide
    · rw [if_neg h2]; decide
theorem zlc_eq (x y : Int64) : lg_cmp x y = 0 ↔ x = y := by
  unfold lg_cmp
  by_cases h : y < x
  · rw [if_pos h]
    refine ⟨fun q => absurd q (by decide), fun q => ?_⟩
    rw [q, Int64.lt_iff_toInt_lt] at h
    omega
  · rw [if_neg h]
    by_cases h2 : x = y
    · rw [if_pos h2]; exact ⟨fun _ => h2, fun _ => rfl⟩
    · rw [if_neg h2]; exact ⟨fun q => absurd q (by decide), fun q => absurd q h2⟩
/-- the comparisons of doubles, as Java has them -/
def zlt (x y : UInt64) : Bool := match FP.dcmp x y with
  | some .lt => true
  | _ => false
def zle (x y : UInt64) : Bool := match FP.dcmp x y with
  | some .lt => true
  | some .eq => true
  | _ => false
def zgt (x y : UInt64) : Bool := match FP.dcmp x y with
  | some .gt => true
  | _ => false
def zge (x y : UInt64) : Bool := match FP.dcmp x y with
  | some .gt => true
  | some .eq => true
  | _ => false
def zeq (x y : UInt64) : Bool := match FP.dcmp x y with
  | some .eq => true
  | _ => false
theorem zdg_ge (x y : UInt64) : 0 ≤ Op.cmpValue (FP.dcmp x y) .g ↔ zlt x y = false := by
  unfold zlt Op.cmpValue
  rcases FP.dcmp x y with _ | (_ | _ | _) <;> decide
theorem zdg_gt (x y : UInt64) : 0 < Op.cmpValue (FP.dcmp x y) .g ↔ zle x y = false := by
  unfold zle Op.cmpValue
  rcases FP.dcmp x y with _ | (_ | _ | _) <;> decide
theorem zdl_le (x y : UInt64) : Op.cmpValue (FP.dcmp x y) .l ≤ 0 ↔ zgt x y = false := by
  unfold zgt Op.cmpValue
  rcases FP.dcmp x y with _ | (_ | _ | _) <;> decide
theorem zdl_lt (x y : UInt64) : Op.cmpValue (FP.dcmp x y) .l < 0 ↔ zge x y = false := by
  unfold zge Op.cmpValue
  rcases FP.dcmp x y with _ | (_ | _ | _) <;> decide
theorem zdl_eq (x y : UInt64) : Op.cmpValue (FP.dcmp x y) .l = 0 ↔ zeq x y = true := by
  unfold zeq Op.cmpValue
  rcases FP.dcmp x y with _ | (_ | _ | _) <;> decide
theorem zbt {b : Bool} (h : ¬ b = false) : b = true := by cases b <;> simp_all
theorem zbf {b : Bool} (h : ¬ b = true) : b = false := by cases b <;> simp_all
theorem zx_lc_lt {g : ZG} {K : ZK} {pc tgt : Nat} {ls : ZLS} {st : List ZV} {μ : ZMem} {off : Int} {a b : Int64} (hd : decode (zKc K) pc = .ok (.lcmp, 1)) (hd2 : decode (zKc K) (pc + 1) = .ok (.ifCond .lt off, 3)) (ht : ((pc + 1 : Nat) : Int) + off = (tgt : Int)) (kt : a < b → zWA g K tgt ls st μ) (kf : ¬ a < b → zWA g K (pc + 4) ls st μ) : zWA g K pc ls (zl b :: zl a :: st) μ :=
  zx_lcmp hd (zx_if_lt hd2 ht (fun q => kt (Decidable.not_not.mp (fun z => absurd ((zlc_ge a b).mpr z) (Int32.not_le.mpr q)))) (fun q => kf (fun z => absurd z ((zlc_ge a b).mp (Int32.not_lt.mp q)))))
theorem zx_lc_gt {g : ZG} {K : ZK} {pc tgt : Nat} {ls : ZLS} {st : List ZV} {μ : ZMem} {off : Int} {a b : Int64} (hd : decode (zKc K) pc = .ok (.lcmp, 1)) (hd2 : decode (zKc K) (pc + 1) = .ok (.ifCond .gt off, 3)) (ht : ((pc + 1 : Nat) : Int) + off = (tgt : Int)) (kt : b < a → zWA g K tgt ls st μ) (kf : ¬ b < a → zWA g K (pc + 4) ls st μ) : zWA g K pc ls (zl b :: zl a :: st) μ :=
  zx_lcmp hd (zx_if_gt hd2 ht (fun q => kt (Decidable.not_not.mp (fun z => absurd ((zlc_le a b).mpr z) (Int32.not_le.mpr q)))) (fun q => kf (fun z => absurd z ((zlc_le a b).mp (Int32.not_lt.mp q)))))
section ZF
variable {g : ZG} {K : ZK} {pc tgt : Nat} {ls : ZLS} {st : List ZV} {μ : ZMem} {off : Int} {x y : UInt64} {a b : Int64}
theorem zx_dg_ge (hd : decode (zKc K) pc = .ok (.dcmp .g, 1)) (hd2 : decode (zKc K) (pc + 1) = .ok (.ifCond .ge off, 3)) (ht : ((pc + 1 : Nat) : Int) + off = (tgt : Int)) (kt : zlt x y = false → zWA g K tgt ls st μ) (kf : zlt x y = true → zWA g K (pc + 4) ls st μ) : zWA g K pc ls (zd y :: zd x :: st) μ :=
  zx_dcmp hd (zx_if_ge hd2 ht (fun q => kt ((zdg_ge x y).mp q)) (fun q => kf (zbt (fun z => q ((zdg_ge x y).mpr z)))))
theorem zx_dg_gt (hd : decode (zKc K) pc = .ok (.dcmp .g, 1)) (hd2 : decode (zKc K) (pc + 1) = .ok (.ifCond .gt off, 3)) (ht : ((pc + 1 : Nat) : Int) + off = (tgt : Int)) (kt : zle x y = false → zWA g K tgt ls st μ) (kf : zle x y = true → zWA g K (pc + 4) ls st μ) : zWA g K pc ls (zd y :: zd x :: st) μ :=
  zx_dcmp hd (zx_if_gt hd2 ht (fun q => kt ((zdg_gt x y).mp q)) (fun q => kf (zbt (fun z => q ((zdg_gt x y).mpr z)))))
theorem zx_dl_le (hd : decode (zKc K) pc = .ok (.dcmp .l, 1)) (hd2 : decode (zKc K) (pc + 1) = .ok (.ifCond .le off, 3)) (ht : ((pc + 1 : Nat) : Int) + off = (tgt : Int)) (kt : zgt x y = false → zWA g K tgt ls st μ) (kf : zgt x y = true → zWA g K (pc + 4) ls st μ) : zWA g K pc ls (zd y :: zd x :: st) μ :=
  zx_dcmp hd (zx_if_le hd2 ht (fun q => kt ((zdl_le x y).mp q)) (fun q => kf (zbt (fun z => q ((zdl_le x y).mpr z)))))
theorem zx_dl_lt (hd : decode (zKc K) pc = .ok (.dcmp .l, 1)) (hd2 : decode (zKc K) (pc + 1) = .ok (.ifCond .lt off, 3)) (ht : ((pc + 1 : Nat) : Int) + off = (tgt : Int)) (kt : zge x y = false → zWA g K tgt ls st μ) (kf : zge x y = true → zWA g K (pc + 4) ls st μ) : zWA g K pc ls (zd y :: zd x :: st) μ :=
  zx_dcmp hd (zx_if_lt hd2 ht (fun q => kt ((zdl_lt x y).mp q)) (fun q => kf (zbt (fun z => q ((zdl_lt x y).mpr z)))))
theorem zx_dl_eq (hd : decode (zKc K) pc = .ok (.dcmp .l, 1)) (hd2 : decode (zKc K) (pc + 1) = .ok (.ifCond .eq off, 3)) (ht : ((pc + 1 : Nat) : Int) + off = (tgt : Int)) (kt : zeq x y = true → zWA g K tgt ls st μ) (kf : zeq x y = false → zWA g K (pc + 4) ls st μ) : zWA g K pc ls (zd y :: zd x :: st) μ :=
  zx_dcmp hd (zx_if_eq hd2 ht (fun q => kt ((zdl_eq x y).mp q)) (fun q => kf (zbf (fun z => q ((zdl_eq x y).mpr z)))))
theorem zx_dl_ne (hd : decode (zKc K) pc = .ok (.dcmp .l, 1)) (hd2 : decode (zKc K) (pc + 1) = .ok (.ifCond .ne off, 3)) (ht : ((pc + 1 : Nat) : Int) + off = (tgt : Int)) (kt : zeq x y = false → zWA g K tgt ls st μ) (kf : zeq x y = true → zWA g K (pc + 4) ls st μ) : zWA g K pc ls (zd y :: zd x :: st) μ :=
  zx_dcmp hd (zx_if_ne hd2 ht (fun q => kt (zbf (fun z => q ((zdl_eq x y).mpr z)))) (fun q => kf ((zdl_eq x y).mp q)))
theorem zx_lc_ge (hd : decode (zKc K) pc = .ok (.lcmp, 1)) (hd2 : decode (zKc K) (pc + 1) = .ok (.ifCond .ge off, 3)) (ht : ((pc + 1 : Nat) : Int) + off = (tgt : Int)) (kt : ¬ a < b → zWA g K tgt ls st μ) (kf : a < b → zWA g K (pc + 4) ls st μ) : zWA g K pc ls (zl b :: zl a :: st) μ :=
  zx_lcmp hd (zx_if_ge hd2 ht (fun q => kt ((zlc_ge a b).mp q)) (fun q => kf (Decidable.not_not.mp (fun z => q ((zlc_ge a b).mpr z)))))
theorem zx_lc_le (hd : decode (zKc K) pc = .ok (.lcmp, 1)) (hd2 : decode (zKc K) (pc + 1) = .ok (.ifCond .le off, 3)) (ht : ((pc + 1 : Nat) : Int) + off = (tgt : Int)) (kt : ¬ b < a → zWA g K tgt ls st μ) (kf : b < a → zWA g K (pc + 4) ls st μ) : zWA g K pc ls (zl b :: zl a :: st) μ :=
  zx_lcmp hd (zx_if_le hd2 ht (fun q => kt ((zlc_le a b).mp q)) (fun q => kf (Decidable.not_not.mp (fun z => q ((zlc_le a b).mpr z)))))
theorem zx_lc_eq (hd : decode (zKc K) pc = .ok (.lcmp, 1)) (hd2 : decode (zKc K) (pc + 1) = .ok (.ifCond .eq off, 3)) (ht : ((pc + 1 : Nat) : Int) + off = (tgt : Int)) (kt : a = b → zWA g K tgt ls st μ) (kf : ¬ a = b → zWA g K (pc + 4) ls st μ) : zWA g K pc ls (zl b :: zl a :: st) μ :=
  zx_lcmp hd (zx_if_eq hd2 ht (fun q => kt ((zlc_eq a b).mp q)) (fun q => kf (fun z => q ((zlc_eq a b).mpr z))))
theorem zx_lc_ne (hd : decode (zKc K) pc = .ok (.lcmp, 1)) (hd2 : decode (zKc K) (pc + 1) = .ok (.ifCond .ne off, 3)) (ht : ((pc + 1 : Nat) : Int) + off = (tgt : Int)) (kt : ¬ a = b → zWA g K tgt ls st μ) (kf : a = b → zWA g K (pc + 4) ls st μ) : zWA g K pc ls (zl b :: zl a :: st) μ :=
  zx_lcmp hd (zx_if_ne hd2 ht (fun q => kt (fun z => q ((zlc_eq a b).mpr z))) (fun q => kf ((zlc_eq a b).mp q)))
end ZF
theorem zlg_len {g : ZG} : ∀ {as : List Value} {vs : List ZV}, zSR g as vs → (lg_sl as).length = zwt vs
  | [], [], _ => rfl
  | [], _ :: _, h => h.elim
  | _ :: _, [], h => h.elim
  | a :: as, v :: vs, h => by
    have e : lg_sl (a :: as) = (if a.category = 2 then [.val a, .second] else [.val a]) ++ lg_sl as := by
      unfold lg_sl
      rw [List.flatMap_cons]
    rw [e, List.length_append, zlg_len h.2]
    show _ = (if zc2 v = true then 2 else 1) + zwt vs
    by_cases hc : zc2 v = true
    · rw [if_pos hc, if_pos ((zRv_cat h.1).mpr hc)]
      rfl
    · rw [if_neg hc, if_neg (fun q => hc ((zRv_cat h.1).mp q))]
      rfl
theorem zCab_w {g : ZG} {own : String} {y : MethodName} {cc : ByteArray} {nL : Nat} {ret : Option FieldType} {R : Room} {As : List ZV} {μ : ZMem} {res : Option ZV} {μ' : ZMem} (hy : plainFor y = true) (ho : own = y.cls) (hn : zwt As ≤ nL)
    (h : zWA g (own, cc, nL, ret, R, res, μ') 0 (zarg 0 As) [] μ) : zCab g own y cc nL ret R As μ res μ' :=
  zCab_of hy ho (fun as hs => by rw [zlg_len hs]; exact hn) h
abbrev zrm (d : Nat) : Room := { frames := d, cells := 0, slots := 0, locals := 42 * d }
/-- what stands at a field that holds a reference -/
def ztk (kd k : Nat) : Nat := match kd, k with
  | 0, _ => 2
  | 1, 2 => 3
  | 1, _ => 0
  | 2, 0 => 10
  | 2, _ => 0
  | 3, _ => 8
  | 4, 0 => 10
  | 4, 5 => 10
  | 4, 6 => 10
  | 4, _ => 8
  | 5, 2 => 17
  | 5, 4 => 11
  | 5, _ => 8
  | 6, 3 => 12
  | 6, 4 => 13
  | 6, 5 => 15
  | 6, 8 => 14
  | 6, 9 => 16
  | 6, 10 => 5
  | 6, _ => 8
  | 12, _ => 0
  | 13, _ => 1
  | 14, _ => 2
  | 15, _ => 3
  | 16, _ => 4
  | _, _ => 8
def zWf (g : ZG) (μ : ZMem) : Prop := ∀ (kd r k r' : Nat), zO g kd r → zR μ r k = some r' → zO g (ztk kd k) r'
theorem zx_callV1 {g : ZG} {K : ZK} {pc : Nat} {ls : ZLS} (st : List ZV) {μ : ZMem} {y : MethodName} {bytes : ByteArray} {maxL n index : Nat} {ret : Option FieldType} {Rc : Room} {As : List ZV} {v : ZV} {μ1 : ZMem} {st0 : List ZV} {ci r : Nat} {Cl : String} {T : u_T} {N : Nat} (hl : zLv (zKo K) index Cl y bytes maxL ret n) (hM : zCab g y.cls y bytes maxL ret Rc (zr (some r) :: As) μ (some v) μ1) (hO : zO g ci r) (hc8 : ci < 8) (hcl : vwCl[ci]? = some (Cl, T, N)) (hst : st0 = As.reverse ++ (zr (some r) :: st)) (hn : As.length = n) (hR : zRoom K Rc maxL) (hw : zwt st ≤ 8) (hd : decode (zKc K) pc = .ok (.invokevirtual index, 3)) (kk : zWA g K (pc + 3) ls (v :: st) μ1) : zWA g K pc ls st0 μ := zx_callV st hl hM hO hc8 hcl hst hn hR hw hd kk
theorem zx_callV0 {g : ZG} {K : ZK} {pc : Nat} {ls : ZLS} (st : List ZV) {μ : ZMem} {y : MethodName} {bytes : ByteArray} {maxL n index : Nat} {ret : Option FieldType} {Rc : Room} {As : List ZV} {μ1 : ZMem} {st0 : List ZV} {ci r : Nat} {Cl : String} {T : u_T} {N : Nat} (hl : zLv (zKo K) index Cl y bytes maxL ret n) (hM : zCab g y.cls y bytes maxL ret Rc (zr (some r) :: As) μ none μ1) (hO : zO g ci r) (hc8 : ci < 8) (hcl : vwCl[ci]? = some (Cl, T, N)) (hst : st0 = As.reverse ++ (zr (some r) :: st)) (hn : As.length = n) (hR : zRoom K Rc maxL) (hw : zwt st ≤ 8) (hd : decode (zKc K) pc = .ok (.invokevirtual index, 3)) (kk : zWA g K (pc + 3) ls st μ1) : zWA g K pc ls st0 μ := zx_callV st hl hM hO hc8 hcl hst hn hR hw hd kk
theorem zx_callS1 {g : ZG} {K : ZK} {pc : Nat} {ls : ZLS} (st : List ZV) {μ : ZMem} {y : MethodName} {bytes : ByteArray} {maxL n index : Nat} {ret : Option FieldType} {Rc : Room} {As : List ZV} {v : ZV} {μ1 : ZMem} {st0 : List ZV} (hl : zLs (zKo K) index y bytes maxL ret n) (hM : zCab g y.cls y bytes maxL ret Rc As μ (some v) μ1) (hst : st0 = As.reverse ++ st) (hn : As.length = n) (hR : zRoom K Rc maxL) (hw : zwt st ≤ 8) (hd : decode (zKc K) pc = .ok (.invokestatic index, 3)) (kk : zWA g K (pc + 3) ls (v :: st) μ1) : zWA g K pc ls st0 μ := zx_callS st hl hM hst hn hR hw hd kk
theorem zx_callN1 {g : ZG} {K : ZK} {pc : Nat} {ls : ZLS} (st : List ZV) {μ : ZMem} {y : MethodName} {bytes : ByteArray} {maxL n index : Nat} {ret : Option FieldType} {Rc : Room} {As : List ZV} {v : ZV} {μ1 : ZMem} {st0 : List ZV} {host : String} (hl : zLn (zKo K) index y host bytes maxL ret n) (hM : zCab g y.cls y bytes maxL ret Rc As μ (some v) μ1) (hst : st0 = As.reverse ++ st) (hn : As.length = n) (hR : zRoom K Rc maxL) (hw : zwt st ≤ 8) (hd : decode (zKc K) pc = .ok (.invokestatic index, 3)) (kk : zWA g K (pc + 3) ls (v :: st) μ1) : zWA g K pc ls st0 μ := zx_callN st hl hM hst hn hR hw hd kk
/-- Math.max of two doubles: the machine has a row of its own for it -/
def s_dmax (x y : UInt64) : UInt64 := zcn (Jvm.Free.Fl.Abs.maxDOf x y)
theorem zmax_in (x y : UInt64) : zcn (Jvm.Free.Fl.Abs.maxDOf (zcn x) (zcn y)) = zcn (Jvm.Free.Fl.Abs.maxDOf x y) := by
  have hb : ∀ z, FP.dIsNaN (zcn z) = FP.dIsNaN z := fun z => by
    show decide (FP.Core.val64 (zcn z) = .nan) = decide (FP.Core.val64 z = .nan)
    rw [zval_cn]
  unfold Jvm.Free.Fl.Abs.maxDOf
  rw [hb, hb]
  by_cases h1 : FP.dIsNaN x = true
  · rw [if_pos h1, if_pos h1, zcn_cn]
  · rw [if_neg h1, if_neg h1]
    by_cases h2 : FP.dIsNaN y = true
    · rw [if_pos h2, if_pos h2, zcn_cn]
    · rw [if_neg h2, if_neg h2, zcn_id (fun q => h1 ((FP.Core.dIsNaN_iff x).mpr q)), zcn_id (fun q => h2 ((FP.Core.dIsNaN_iff y).mpr q))]
theorem zx_dmax {g : ZG} {K : ZK} {pc : Nat} {ls : ZLS} {st : List ZV} {μ : ZMem} {x y : UInt64} {index : Nat} (hl : zLs (zKo K) index yJ9_max_eb370 cJ9_max_eb370 4 (some .double) 2) (hR : 1 ≤ (zKR K).frames ∧ 23 ≤ (zKR K).locals) (hw : zwt st ≤ 8) (hd : decode (zKc K) pc = .ok (.invokestatic index, 3)) (kk : zWA g K (pc + 3) ls (zd (s_dmax x y) :: st) μ) : zWA g K pc ls (zd y :: zd x :: st) μ := by
  intro l p e s m args below meth c C d H locs sl stk μr hd0 hS hP hμ hL hT
  obtain ⟨a_y, stk1, rfl, h1, hT1⟩ := zSR_cons hT
  obtain ⟨y2, rfl, rfl⟩ := h1
  obtain ⟨a_x, stk2, rfl, h2, hT2⟩ := zSR_cons hT1
  obtain ⟨x2, rfl, rfl⟩ := h2
  intro T hT0 X
  have hts := dr_words C.2.2.2.2.1 d
  obtain ⟨q1, q2, q4, q5, -⟩ := hl
  obtain ⟨w, d', vm₁, hal, hd', X', stp⟩ := X.mathMaxD C.1 (own := zKo K) (index := index) C.2.2.2.1 (hts _ q1) (hts _ q2) (hts _ q4) (hts _ q5) (g := F0 m pc sl (.double y2 :: .double x2 :: stk2)) rfl (by obtain ⟨lv, h1, -⟩ := hL; exact h1.1.trans C.2.2.1.symm) (a := x2) (b := y2) (rest := stk2) rfl (by rw [C.2.1]; exact hd) hR.1 (by show 2 * 0 + _ + 15 ≤ _; rw [zwt_eq hT2]; omega) (Nat.zero_le _) (Nat.zero_le _)
  obtain ⟨t, a1, b1⟩ := kk l p e s m args below meth c C d' H locs sl (.double w :: stk2) μr (dr_step hd0 lw_bits X.drawn_eq hd') hS hP hμ hL ⟨⟨w, rfl, by rw [zcn_alike hal]; exact (zmax_in x2 y2).symm⟩, hT2⟩ ((T.setVm vm₁).setDrawn d') hT0 X'
  exact ⟨t, stp t a1, b1⟩
end
section
theorem zI_sI (μ : ZMem) (r k : Nat) (v : Int32) (a b : Nat) : zI (zsI μ r k v) a b = if a = r ∧ b = k then v else zI μ a b := rfl
theorem zI_sL (μ : ZMem) (r k : Nat) (v : Int64) (a b : Nat) : zI (zsL μ r k v) a b = zI μ a b := rfl
theorem zI_sD (μ : ZMem) (r k : Nat) (v : UInt64) (a b : Nat) : zI (zsD μ r k v) a b = zI μ a b := rfl
theorem zI_sR (μ : ZMem) (r k : Nat) (v : (Option Nat)) (a b : Nat) : zI (zsR μ r k v) a b = zI μ a b := rfl
theorem zL_sI (μ : ZMem) (r k : Nat) (v : Int32) (a b : Nat) : zL (zsI μ r k v) a b = zL μ a b := rfl
theorem zL_sL (μ : ZMem) (r k : Nat) (v : Int64) (a b : Nat) : zL (zsL μ r k v) a b = if a = r ∧ b = k then v else zL μ a b := rfl
theorem zL_sD (μ : ZMem) (r k : Nat) (v : UInt64) (a b : Nat) : zL (zsD μ r k v) a b = zL μ a b := rfl
theorem zL_sR (μ : ZMem) (r k : Nat) (v : (Option Nat)) (a b : Nat) : zL (zsR μ r k v) a b = zL μ a b := rfl
theorem zD_sI (μ : ZMem) (r k : Nat) (v : Int32) (a b : Nat) : zD (zsI μ r k v) a b = zD μ a b := rfl
theorem zD_sL (μ : ZMem) (r k : Nat) (v : Int64) (a b : Nat) : zD (zsL μ r k v) a b = zD μ a b := rfl
theorem zD_sD (μ : ZMem) (r k : Nat) (v : UInt64) (a b : Nat) : zD (zsD μ r k v) a b = if a = r ∧ b = k then v else zD μ a b := rfl
theorem zD_sR (μ : ZMem) (r k : Nat) (v : (Option Nat)) (a b : Nat) : zD (zsR μ r k v) a b = zD μ a b := rfl
theorem zR_sI (μ : ZMem) (r k : Nat) (v : Int32) (a b : Nat) : zR (zsI μ r k v) a b = zR μ a b := rfl
theorem zR_sL (μ : ZMem) (r k : Nat) (v : Int64) (a b : Nat) : zR (zsL μ r k v) a b = zR μ a b := rfl
theorem zR_sD (μ : ZMem) (r k : Nat) (v : UInt64) (a b : Nat) : zR (zsD μ r k v) a b = zR μ a b := rfl
theorem zR_sR (μ : ZMem) (r k : Nat) (v : (Option Nat)) (a b : Nat) : zR (zsR μ r k v) a b = if a = r ∧ b = k then v else zR μ a b := rfl
theorem zWf_R {g : ZG} {μ μ' : ZMem} (h : zWf g μ) (e : ∀ r k, zR μ' r k = zR μ r k) : zWf g μ' := fun kd r k r' hO hr => h kd r k r' hO (by rw [← e]; exact hr)
/-- f 0, f 1, .. f (n - 1), one behind the other -/
def zit {σ : Type} (f : Nat → σ → σ) : Nat → σ → σ
  | 0, s => s
  | n + 1, s => f n (zit f n s)
theorem zloop {P : Nat → Prop} {N : Nat} (hx : P N) (hs : ∀ k, k < N → P (k + 1) → P k) : ∀ k, k ≤ N → P k := by
  intro k hk
  obtain ⟨d, hd⟩ : ∃ d, d = N - k := ⟨_, rfl⟩
  induction d generalizing k with
  | zero =>
    have e : k = N := by omega
    subst e
    exact hx
  | succ d ih => exact hs k (by omega) (ih (k + 1) (by omega) (by omega))
theorem zWA_mem {g : ZG} {K : ZK} {pc : Nat} {ls : ZLS} {st : List ZV} {μ μ2 : ZMem} (h : zWA g K pc ls st μ) (e : μ = μ2) : zWA g K pc ls st μ2 := e ▸ h
theorem zit_keep {σ τ : Type} (π : σ → τ) {f : Nat → σ → σ} (h : ∀ k s, π (f k s) = π s) : ∀ n s, π (zit f n s) = π s
  | 0, _ => rfl
  | n + 1, s => (h n _).trans (zit_keep π h n s)
end
section
abbrev k0 : UInt64 := 0
abbrev k1 : UInt64 := 4607182418800017408
abbrev k3 : UInt64 := 4613937818241073152
abbrev k4 : UInt64 := 4616189618054758400
abbrev k05 : UInt64 := 4602678819172646912
abbrev k0001 : UInt64 := 4562254508917369340
abbrev k02 : UInt64 := 4596373779694328218
abbrev k8 : UInt64 := 4620693217682128896
abbrev k12 : UInt64 := 4622945017495814144
abbrev k34 : UInt64 := 4629981891913580544
abbrev k35 : UInt64 := 4630122629401935872
abbrev k10 : UInt64 := 4621819117588971520
abbrev k1000 : UInt64 := 4652007308841189376
abbrev kg : UInt64 := 4576808701761150024
abbrev kw : UInt64 := 4532020583610935537
abbrev kf : UInt64 := 4566758108544739836
abbrev k3600 : UInt64 := 4660134898793709568
abbrev k025 : UInt64 := 4598175219545276416
def s_max32 (x y : Int32) : Int32 := if x < y then y else x
set_option maxHeartbeats 4000000 in
set_option maxRecDepth 100000 in
theorem m_J9_max_7cf53 {g : ZG} {μ : ZMem} {x y : Int32} : zCab g RJ9 yJ9_max_7cf53 cJ9_max_7cf53 2 ((some FieldType.int)) (zrm 0) [zi x, zi y] μ (some (zi (s_max32 x y))) μ := by
  refine zCab_w (by decide +kernel) rfl (Nat.le_of_ble_eq_true rfl) ?_
  refine zx_iload_n dJ9_max_7cf53_0 rfl rfl ?_
  refine zx_iload_n dJ9_max_7cf53_1 rfl rfl ?_
  refine zx_icmp_lt (tgt := 9) dJ9_max_7cf53_2 (by decide) (fun c_2 => ?_) (fun c_2 => ?_)
  · skip
    refine zx_iload_n dJ9_max_7cf53_9 rfl rfl ?_
    exact zx_ireturn rfl (by first | rfl | simp [zKa, zKm, s_max32, zI_sI, zI_sL, zI_sD, zI_sR, zL_sI, zL_sL, zL_sD, zL_sR, zD_sI, zD_sL, zD_sD, zD_sR, zR_sI, zR_sL, zR_sD, zR_sR, c_2]) (by rfl) dJ9_max_7cf53_10
  · skip
    refine zx_iload_n dJ9_max_7cf53_5 rfl rfl ?_
    refine zx_goto (tgt := 10) dJ9_max_7cf53_6 (by decide) ?_
    exact zx_ireturn rfl (by first | rfl | simp [zKa, zKm, s_max32, zI_sI, zI_sL, zI_sD, zI_sR, zL_sI, zL_sL, zL_sD, zL_sR, zD_sI, zD_sL, zD_sD, zD_sR, zR_sI, zR_sL, zR_sD, zR_sR, c_2]) (by rfl) dJ9_max_7cf53_10

def s_max64 (x y : Int64) : Int64 := if x < y then y else x
set_option maxHeartbeats 4000000 in
set_option maxRecDepth 100000 in
theorem m_J9_max_f86c9 {g : ZG} {μ : ZMem} {x y : Int64} : zCab g RJ9 yJ9_max_f86c9 cJ9_max_f86c9 4 ((some FieldType.long)) (zrm 0) [zl x, zl y] μ (some (zl (s_max64 x y))) μ := by
  refine zCab_w (by decide +kernel) rfl (Nat.le_of_ble_eq_true rfl) ?_
  refine zx_lload_n dJ9_max_f86c9_0 rfl rfl ?_
  refine zx_lload_n dJ9_max_f86c9_1 rfl rfl ?_
  refine zx_lc_lt (tgt := 10) dJ9_max_f86c9_2 dJ9_max_f86c9_3 (by decide) (fun c_2 => ?_) (fun c_2 => ?_)
  · skip
    refine zx_lload_n dJ9_max_f86c9_10 rfl rfl ?_
    exact zx_lreturn rfl (by first | rfl | simp [zKa, zKm, s_max64, zI_sI, zI_sL, zI_sD, zI_sR, zL_sI, zL_sL, zL_sD, zL_sR, zD_sI, zD_sL, zD_sD, zD_sR, zR_sI, zR_sL, zR_sD, zR_sR, c_2]) (by rfl) dJ9_max_f86c9_11
  · skip
    refine zx_lload_n dJ9_max_f86c9_6 rfl rfl ?_
    refine zx_goto (tgt := 11) dJ9_max_f86c9_7 (by decide) ?_
    exact zx_lreturn rfl (by first | rfl | simp [zKa, zKm, s_max64, zI_sI, zI_sL, zI_sD, zI_sR, zL_sI, zL_sL, zL_sD, zL_sR, zD_sI, zD_sL, zD_sD, zD_sR, zR_sI, zR_sL, zR_sD, zR_sR, c_2]) (by rfl) dJ9_max_f86c9_11

def s_min32 (x y : Int32) : Int32 := if y < x then y else x
set_option maxHeartbeats 4000000 in
set_option maxRecDepth 100000 in
theorem m_J9_min_7cf53 {g : ZG} {μ : ZMem} {x y : Int32} : zCab g RJ9 yJ9_min_7cf53 cJ9_min_7cf53 2 ((some FieldType.int)) (zrm 0) [zi x, zi y] μ (some (zi (s_min32 x y))) μ := by
  refine zCab_w (by decide +kernel) rfl (Nat.le_of_ble_eq_true rfl) ?_
  refine zx_iload_n dJ9_min_7cf53_0 rfl rfl ?_
  refine zx_iload_n dJ9_min_7cf53_1 rfl rfl ?_
  refine zx_icmp_gt (tgt := 9) dJ9_min_7cf53_2 (by decide) (fun c_2 => ?_) (fun c_2 => ?_)
  · skip
    refine zx_iload_n dJ9_min_7cf53_9 rfl rfl ?_
    exact zx_ireturn rfl (by first | rfl | simp [zKa, zKm, s_min32, zI_sI, zI_sL, zI_sD, zI_sR, zL_sI, zL_sL, zL_sD, zL_sR, zD_sI, zD_sL, zD_sD, zD_sR, zR_sI, zR_sL, zR_sD, zR_sR, c_2]) (by rfl) dJ9_min_7cf53_10
  · skip
    refine zx_iload_n dJ9_min_7cf53_5 rfl rfl ?_
    refine zx_goto (tgt := 10) dJ9_min_7cf53_6 (by decide) ?_
    exact zx_ireturn rfl (by first | rfl | simp [zKa, zKm, s_min32, zI_sI, zI_sL, zI_sD, zI_sR, zL_sI, zL_sL, zL_sD, zL_sR, zD_sI, zD_sL, zD_sD, zD_sR, zR_sI, zR_sL, zR_sD, zR_sR, c_2]) (by rfl) dJ9_min_7cf53_10

def s_min64 (x y : Int64) : Int64 := if y < x then y else x
set_option maxHeartbeats 4000000 in
set_option maxRecDepth 100000 in
theorem m_J9_min_f86c9 {g : ZG} {μ : ZMem} {x y : Int64} : zCab g RJ9 yJ9_min_f86c9 cJ9_min_f86c9 4 ((some FieldType.long)) (zrm 0) [zl x, zl y] μ (some (zl (s_min64 x y))) μ := by
  refine zCab_w (by decide +kernel) rfl (Nat.le_of_ble_eq_true rfl) ?_
  refine zx_lload_n dJ9_min_f86c9_0 rfl rfl ?_
  refine zx_lload_n dJ9_min_f86c9_1 rfl rfl ?_
  refine zx_lc_gt (tgt := 10) dJ9_min_f86c9_2 dJ9_min_f86c9_3 (by decide) (fun c_2 => ?_) (fun c_2 => ?_)
  · skip
    refine zx_lload_n dJ9_min_f86c9_10 rfl rfl ?_
    exact zx_lreturn rfl (by first | rfl | simp [zKa, zKm, s_min64, zI_sI, zI_sL, zI_sD, zI_sR, zL_sI, zL_sL, zL_sD, zL_sR, zD_sI, zD_sL, zD_sD, zD_sR, zR_sI, zR_sL, zR_sD, zR_sR, c_2]) (by rfl) dJ9_min_f86c9_11
  · skip
    refine zx_lload_n dJ9_min_f86c9_6 rfl rfl ?_
    refine zx_goto (tgt := 11) dJ9_min_f86c9_7 (by decide) ?_
    exact zx_lreturn rfl (by first | rfl | simp [zKa, zKm, s_min64, zI_sI, zI_sL, zI_sD, zI_sR, zL_sI, zL_sL, zL_sD, zL_sR, zD_sI, zD_sL, zD_sD, zD_sR, zR_sI, zR_sL, zR_sD, zR_sR, c_2]) (by rfl) dJ9_min_f86c9_11

def s_fmod (x y : Int64) : Int64 := if (x ^^^ y) < 0 then (if x - x / y * y = 0 then x - x / y * y else x - x / y * y + y) else x - x / y * y
set_option maxHeartbeats 4000000 in
set_option maxRecDepth 100000 in
theorem m_X6_noReading {g : ZG} {μ : ZMem} : zCab g RX6 yX6_noReading cX6_noReading 0 ((some FieldType.double)) (zrm 0) [] μ (some (zd 13920209183539462144)) μ := by
  refine zCab_w (by decide +kernel) rfl (Nat.le_of_ble_eq_true rfl) ?_
  refine zx_ldc2d 13920209183539462144 zk_X6_312 (by decide +kernel) dX6_noReading_0 ?_
  exact zx_dreturn rfl (by rfl) (by rfl) dX6_noReading_3

def s_between (x n : Int32) : Int32 := s_max32 1 (s_min32 x n)
set_option maxHeartbeats 4000000 in
set_option maxRecDepth 100000 in
theorem m_X6_between {g : ZG} {μ : ZMem} {x n : Int32} : zCab g RX6 yX6_between cX6_between 2 ((some FieldType.int)) (zrm 1) [zi x, zi n] μ (some (zi (s_between x n))) μ := by
  refine zCab_w (by decide +kernel) rfl (Nat.le_of_ble_eq_true rfl) ?_
  refine zx_iconst 1 dX6_between_0 (by decide) ?_
  refine zx_iload_n dX6_between_1 rfl rfl ?_
  refine zx_iload_n dX6_between_2 rfl rfl ?_
  refine zx_callS1 _ zs_X6_314 m_J9_min_7cf53 rfl rfl ⟨rfl, rfl, (Nat.le_of_ble_eq_true rfl), (Nat.le_of_ble_eq_true rfl)⟩ (Nat.le_of_ble_eq_true rfl) dX6_between_3 ?_
  refine zx_callS1 _ zs_X6_317 m_J9_max_7cf53 rfl rfl ⟨rfl, rfl, (Nat.le_of_ble_eq_true rfl), (Nat.le_of_ble_eq_true rfl)⟩ (Nat.le_of_ble_eq_true rfl) dX6_between_6 ?_
  exact zx_ireturn rfl (by rfl) (by rfl) dX6_between_9

def s_inside (v a c : UInt64) : Int32 := if zge v a = true then (if zle v c = true then 1 else 0) else 0
set_option maxHeartbeats 4000000 in
set_option maxRecDepth 100000 in
theorem m_X6_inside {g : ZG} {μ : ZMem} {v a c : UInt64} : zCab g RX6 yX6_inside cX6_inside 6 ((some FieldType.boolean)) (zrm 0) [zd v, zd a, zd c] μ (some (zi (s_inside v a c))) μ := by
  refine zCab_w (by decide +kernel) rfl (Nat.le_of_ble_eq_true rfl) ?_
  refine zx_dload_n dX6_inside_0 rfl rfl ?_
  refine zx_dload_n dX6_inside_1 rfl rfl ?_
  refine zx_dl_lt (tgt := 17) dX6_inside_2 dX6_inside_3 (by decide) (fun c_2 => ?_) (fun c_2 => ?_)
  · skip
    refine zx_iconst 0 dX6_inside_17 (by decide) ?_
    exact zx_zreturn rfl (by decide +kernel) (by first | rfl | simp [zKa, zKm, s_inside, zI_sI, zI_sL, zI_sD, zI_sR, zL_sI, zL_sL, zL_sD, zL_sR, zD_sI, zD_sL, zD_sD, zD_sR, zR_sI, zR_sL, zR_sD, zR_sR, c_2]) (by rfl) dX6_inside_18
  · skip
    refine zx_dload_n dX6_inside_6 rfl rfl ?_
    refine zx_dload dX6_inside_7 rfl ?_
    refine zx_dg_gt (tgt := 17) dX6_inside_9 dX6_inside_10 (by decide) (fun c_9 => ?_) (fun c_9 => ?_)
    · skip
      refine zx_iconst 0 dX6_inside_17 (by decide) ?_
      exact zx_zreturn rfl (by decide +kernel) (by first | rfl | simp [zKa, zKm, s_inside, zI_sI, zI_sL, zI_sD, zI_sR, zL_sI, zL_sL, zL_sD, zL_sR, zD_sI, zD_sL, zD_sD, zD_sR, zR_sI, zR_sL, zR_sD, zR_sR, c_2, c_9]) (by rfl) dX6_inside_18
    · skip
      refine zx_iconst 1 dX6_inside_13 (by decide) ?_
      refine zx_goto (tgt := 18) dX6_inside_14 (by decide) ?_
      exact zx_zreturn rfl (by decide +kernel) (by first | rfl | simp [zKa, zKm, s_inside, zI_sI, zI_sL, zI_sD, zI_sR, zL_sI, zL_sL, zL_sD, zL_sR, zD_sI, zD_sL, zD_sD, zD_sR, zR_sI, zR_sL, zR_sD, zR_sR, c_2, c_9]) (by rfl) dX6_inside_18

def s_sizeOf (v : UInt64) : UInt64 := if zlt v k0 = true then zneg v else v
set_option maxHeartbeats 4000000 in
set_option maxRecDepth 100000 in
theorem m_X6_sizeOf {g : ZG} {μ : ZMem} {v : UInt64} : zCab g RX6 yX6_sizeOf cX6_sizeOf 2 ((some FieldType.double)) (zrm 0) [zd v] μ (some (zd (s_sizeOf v))) μ := by
  refine zCab_w (by decide +kernel) rfl (Nat.le_of_ble_eq_true rfl) ?_
  refine zx_dload_n dX6_sizeOf_0 rfl rfl ?_
  refine zx_dconst0 dX6_sizeOf_1 ?_
  refine zx_dg_ge (tgt := 11) dX6_sizeOf_2 dX6_sizeOf_3 (by decide) (fun c_2 => ?_) (fun c_2 => ?_)
  · skip
    refine zx_dload_n dX6_sizeOf_11 rfl rfl ?_
    exact zx_dreturn rfl (by first | rfl | simp [zKa, zKm, s_sizeOf, zI_sI, zI_sL, zI_sD, zI_sR, zL_sI, zL_sL, zL_sD, zL_sR, zD_sI, zD_sL, zD_sD, zD_sR, zR_sI, zR_sL, zR_sD, zR_sR, c_2]) (by rfl) dX6_sizeOf_12
  · skip
    refine zx_dload_n dX6_sizeOf_6 rfl rfl ?_
    refine zx_dneg dX6_sizeOf_7 ?_
    refine zx_goto (tgt := 12) dX6_sizeOf_8 (by decide) ?_
    exact zx_dreturn rfl (by first | rfl | simp [zKa, zKm, s_sizeOf, zI_sI, zI_sL, zI_sD, zI_sR, zL_sI, zL_sL, zL_sD, zL_sR, zD_sI, zD_sL, zD_sD, zD_sR, zR_sI, zR_sL, zR_sD, zR_sR, c_2]) (by rfl) dX6_sizeOf_12

def s_sawf (u : UInt64) : UInt64 := zsub u (FP.l2d (FP.d2l u))
def s_saw (u : UInt64) : UInt64 := if zlt (s_sawf u) k05 = true then zsub k1 (zmul k4 (s_sawf u)) else zsub (zmul k4 (s_sawf u)) k3
set_option maxHeartbeats 4000000 in
set_option maxRecDepth 100000 in
theorem m_X6_saw {g : ZG} {μ : ZMem} {u : UInt64} : zCab g RX6 yX6_saw cX6_saw 4 ((some FieldType.double)) (zrm 0) [zd u] μ (some (zd (s_saw u))) μ := by
  refine zCab_w (by decide +kernel) rfl (Nat.le_of_ble_eq_true rfl) ?_
  refine zx_dload_n dX6_saw_0 rfl rfl ?_
  refine zx_dload_n dX6_saw_1 rfl rfl ?_
  refine zx_d2l dX6_saw_2 ?_
  refine zx_l2d dX6_saw_3 ?_
  refine zx_dsub dX6_saw_4 ?_
  refine zx_dstore_n dX6_saw_5 rfl (Nat.le_of_ble_eq_true rfl) ?_
  refine zx_dload_n dX6_saw_6 rfl rfl ?_
  refine zx_ldc2d 4602678819172646912 zk_X6_186 (by decide +kernel) dX6_saw_7 ?_
  refine zx_dg_ge (tgt := 24) dX6_saw_10 dX6_saw_11 (by decide) (fun c_10 => ?_) (fun c_10 => ?_)
  · skip
    refine zx_ldc2d 4616189618054758400 zk_X6_320 (by decide +kernel) dX6_saw_24 ?_
    refine zx_dload_n dX6_saw_27 rfl rfl ?_
    refine zx_dmul dX6_saw_28 ?_
    refine zx_ldc2d 4613937818241073152 zk_X6_322 (by decide +kernel) dX6_saw_29 ?_
    refine zx_dsub dX6_saw_32 ?_
    exact zx_dreturn rfl (by first | (show some (zd _) = _; unfold s_saw s_sawf; rw [if_pos c_10]) | (show some (zd _) = _; unfold s_saw s_sawf; rw [if_neg (by rw [c_10]; decide)])) (by rfl) dX6_saw_33
  · skip
    refine zx_dconst1 dX6_saw_14 ?_
    refine zx_ldc2d 4616189618054758400 zk_X6_320 (by decide +kernel) dX6_saw_15 ?_
    refine zx_dload_n dX6_saw_18 rfl rfl ?_
    refine zx_dmul dX6_saw_19 ?_
    refine zx_dsub dX6_saw_20 ?_
    refine zx_goto (tgt := 33) dX6_saw_21 (by decide) ?_
    exact zx_dreturn rfl (by first | (show some (zd _) = _; unfold s_saw s_sawf; rw [if_pos c_10]) | (show some (zd _) = _; unfold s_saw s_sawf; rw [if_neg (by rw [c_10]; decide)])) (by rfl) dX6_saw_33

def s_limbOf (v : Int64) (n : Int32) : Int64 := if n = 0 then v &&& 4294967295 else if n = 1 then v >>> ((32 : Int32).toInt64 &&& 63) else -1
set_option maxHeartbeats 4000000 in
set_option maxRecDepth 100000 in
theorem m_X6_limbOf {g : ZG} {μ : ZMem} {v : Int64} {n : Int32} : zCab g RX6 yX6_limbOf cX6_limbOf 3 ((some FieldType.long)) (zrm 0) [zl v, zi n] μ (some (zl (s_limbOf v n))) μ := by
  refine zCab_w (by decide +kernel) rfl (Nat.le_of_ble_eq_true rfl) ?_
  refine zx_iload_n dX6_limbOf_0 rfl rfl ?_
  refine zx_if_ne (tgt := 10) dX6_limbOf_1 (by decide) (fun c_1 => ?_) (fun c_1 => ?_)
  · skip
    refine zx_iload_n dX6_limbOf_10 rfl rfl ?_
    refine zx_iconst 1 dX6_limbOf_11 (by decide) ?_
    refine zx_icmp_ne (tgt := 22) dX6_limbOf_12 (by decide) (fun c_12 => ?_) (fun c_12 => ?_)
    · skip
      refine zx_ldc2l (-1) zk_X6_175 dX6_limbOf_22 ?_
      exact zx_lreturn rfl (by first | rfl | simp [zKa, zKm, s_limbOf, zI_sI, zI_sL, zI_sD, zI_sR, zL_sI, zL_sL, zL_sD, zL_sR, zD_sI, zD_sL, zD_sD, zD_sR, zR_sI, zR_sL, zR_sD, zR_sR, c_1, c_12]) (by rfl) dX6_limbOf_25
    · skip
      refine zx_lload_n dX6_limbOf_15 rfl rfl ?_
      refine zx_bipush 32 dX6_limbOf_16 (by decide) ?_
      refine zx_lshr dX6_limbOf_18 ?_
      refine zx_goto (tgt := 25) dX6_limbOf_19 (by decide) ?_
      exact zx_lreturn rfl (by first | rfl | simp [zKa, zKm, s_limbOf, zI_sI, zI_sL, zI_sD, zI_sR, zL_sI, zL_sL, zL_sD, zL_sR, zD_sI, zD_sL, zD_sD, zD_sR, zR_sI, zR_sL, zR_sD, zR_sR, c_1, c_12]) (by rfl) dX6_limbOf_25
  · skip
    refine zx_lload_n dX6_limbOf_4 rfl rfl ?_
    refine zx_ldc2l 4294967295 zk_X6_310 dX6_limbOf_5 ?_
    refine zx_land dX6_limbOf_8 ?_
    exact zx_lreturn rfl (by first | rfl | simp [zKa, zKm, s_limbOf, zI_sI, zI_sL, zI_sD, zI_sR, zL_sI, zL_sL, zL_sD, zL_sR, zD_sI, zD_sL, zD_sD, zD_sR, zR_sI, zR_sL, zR_sD, zR_sR, c_1]) (by rfl) dX6_limbOf_9

def s_surface (μ : ZMem) (c : Nat) : UInt64 := zsub (zmul (FP.l2d (zL μ c 2)) k0001) (zD μ c 1)
set_option maxHeartbeats 4000000 in
set_option maxRecDepth 100000 in
theorem m_X0_surface {g : ZG} {μ : ZMem} {c : Nat} (hO : zO g 0 c) : zCab g RX0 yX0_surface cX0_surface 1 ((some FieldType.double)) (zrm 0) [zr (some c)] μ (some (zd (s_surface μ c))) μ := by
  refine zCab_w (by decide +kernel) rfl (Nat.le_of_ble_eq_true rfl) ?_
  refine zx_aload_n dX0_surface_0 rfl rfl ?_
  refine zx_getL zf_X0_21 (by assumption) rfl dX0_surface_1 ?_
  refine zx_l2d dX0_surface_4 ?_
  refine zx_ldc2d 4562254508917369340 zk_X0_47 (by decide +kernel) dX0_surface_5 ?_
  refine zx_dmul dX0_surface_8 ?_
  refine zx_aload_n dX0_surface_9 rfl rfl ?_
  refine zx_getD zf_X0_15 (by assumption) rfl dX0_surface_10 ?_
  refine zx_dsub dX0_surface_13 ?_
  exact zx_dreturn rfl (by rfl) (by rfl) dX0_surface_14

def s_isDry (μ : ZMem) (c : Nat) : Int32 := if zL μ c 2 < 50 then 1 else 0
set_option maxHeartbeats 4000000 in
set_option maxRecDepth 100000 in
theorem m_X0_isDry {g : ZG} {μ : ZMem} {c : Nat} (hO : zO g 0 c) : zCab g RX0 yX0_isDry cX0_isDry 1 ((some FieldType.boolean)) (zrm 0) [zr (some c)] μ (some (zi (s_isDry μ c))) μ := by
  refine zCab_w (by decide +kernel) rfl (Nat.le_of_ble_eq_true rfl) ?_
  refine zx_aload_n dX0_isDry_0 rfl rfl ?_
  refine zx_getL zf_X0_21 (by assumption) rfl dX0_isDry_1 ?_
  refine zx_ldc2l 50 zk_X0_49 dX0_isDry_4 ?_
  refine zx_lc_ge (tgt := 15) dX0_isDry_7 dX0_isDry_8 (by decide) (fun c_7 => ?_) (fun c_7 => ?_)
  · skip
    refine zx_iconst 0 dX0_isDry_15 (by decide) ?_
    exact zx_zreturn rfl (by decide +kernel) (by first | rfl | simp [zKa, zKm, s_isDry, zI_sI, zI_sL, zI_sD, zI_sR, zL_sI, zL_sL, zL_sD, zL_sR, zD_sI, zD_sL, zD_sD, zD_sR, zR_sI, zR_sL, zR_sD, zR_sR, c_7]) (by rfl) dX0_isDry_16
  · skip
    refine zx_iconst 1 dX0_isDry_11 (by decide) ?_
    refine zx_goto (tgt := 16) dX0_isDry_12 (by decide) ?_
    exact zx_zreturn rfl (by decide +kernel) (by first | rfl | simp [zKa, zKm, s_isDry, zI_sI, zI_sL, zI_sD, zI_sR, zL_sI, zL_sL, zL_sD, zL_sR, zD_sI, zD_sL, zD_sD, zD_sR, zR_sI, zR_sL, zR_sD, zR_sR, c_7]) (by rfl) dX0_isDry_16

def u_beginStep (μ : ZMem) (c : Nat) : ZMem := zsD (zsD (zsD (zsD (zsL μ c 10 (zL μ c 2)) c 11 (s_surface μ c)) c 12 (zmul (zD μ c 3) (FP.l2d (zL μ c 2)))) c 13 (zmul (zD μ c 4) (FP.l2d (zL μ c 2)))) c 14 0
set_option maxHeartbeats 4000000 in
set_option maxRecDepth 100000 in
theorem m_X0_beginStep {g : ZG} {μ : ZMem} {c : Nat} (hO : zO g 0 c) : zCab g RX0 yX0_beginStep cX0_beginStep 1 (none) (zrm 1) [zr (some c)] μ none (u_beginStep μ c) := by
  refine zCab_w (by decide +kernel) rfl (Nat.le_of_ble_eq_true rfl) ?_
  refine zx_aload_n dX0_beginStep_0 rfl rfl ?_
  refine zx_aload_n dX0_beginStep_1 rfl rfl ?_
  refine zx_getL zf_X0_21 (by assumption) rfl dX0_beginStep_2 ?_
  refine zx_putL zf_X0_51 (by assumption) rfl dX0_beginStep_5 ?_
  refine zx_aload_n dX0_beginStep_8 rfl rfl ?_
  refine zx_aload_n dX0_beginStep_9 rfl rfl ?_
  refine zx_callV1 _ zv_X0_54 (m_X0_surface (by assumption)) (by assumption) (by decide) rfl rfl rfl ⟨rfl, rfl, (Nat.le_of_ble_eq_true rfl), (Nat.le_of_ble_eq_true rfl)⟩ (Nat.le_of_ble_eq_true rfl) dX0_beginStep_10 ?_
  refine zx_putD zf_X0_58 (by assumption) rfl dX0_beginStep_13 ?_
  refine zx_aload_n dX0_beginStep_16 rfl rfl ?_
  refine zx_aload_n dX0_beginStep_17 rfl rfl ?_
  refine zx_getD zf_X0_27 (by assumption) rfl dX0_beginStep_18 ?_
  refine zx_aload_n dX0_beginStep_21 rfl rfl ?_
  refine zx_getL zf_X0_21 (by assumption) rfl dX0_beginStep_22 ?_
  refine zx_l2d dX0_beginStep_25 ?_
  refine zx_dmul dX0_beginStep_26 ?_
  refine zx_putD zf_X0_61 (by assumption) rfl dX0_beginStep_27 ?_
  refine zx_aload_n dX0_beginStep_30 rfl rfl ?_
  refine zx_aload_n dX0_beginStep_31 rfl rfl ?_
  refine zx_getD zf_X0_32 (by assumption) rfl dX0_beginStep_32 ?_
  refine zx_aload_n dX0_beginStep_35 rfl rfl ?_
  refine zx_getL zf_X0_21 (by assumption) rfl dX0_beginStep_36 ?_
  refine zx_l2d dX0_beginStep_39 ?_
  refine zx_dmul dX0_beginStep_40 ?_
  refine zx_putD zf_X0_64 (by assumption) rfl dX0_beginStep_41 ?_
  refine zx_aload_n dX0_beginStep_44 rfl rfl ?_
  refine zx_dconst0 dX0_beginStep_45 ?_
  refine zx_putD zf_X0_67 (by assumption) rfl dX0_beginStep_46 ?_
  exact zx_return rfl rfl (by first | rfl | simp [zKa, zKm, u_beginStep, zI_sI, zI_sL, zI_sD, zI_sR, zL_sI, zL_sL, zL_sD, zL_sR, zD_sI, zD_sL, zD_sD, zD_sR, zR_sI, zR_sL, zR_sD, zR_sR, s_surface]) dX0_beginStep_49

def u_feel (μ : ZMem) (c : Nat) (v : UInt64) : ZMem := if zgt (s_sizeOf v) (zD μ c 14) = true then zsD μ c 14 (s_sizeOf v) else μ
set_option maxHeartbeats 4000000 in
set_option maxRecDepth 100000 in
theorem m_X0_feel {g : ZG} {μ : ZMem} {c : Nat} (hO : zO g 0 c) {v : UInt64} : zCab g RX0 yX0_feel cX0_feel 5 (none) (zrm 1) [zr (some c), zd v] μ none (u_feel μ c v) := by
  refine zCab_w (by decide +kernel) rfl (Nat.le_of_ble_eq_true rfl) ?_
  refine zx_dload_n dX0_feel_0 rfl rfl ?_
  refine zx_callN1 _ zn_X0_70 m_X6_sizeOf rfl rfl ⟨rfl, rfl, (Nat.le_of_ble_eq_true rfl), (Nat.le_of_ble_eq_true rfl)⟩ (Nat.le_of_ble_eq_true rfl) dX0_feel_1 ?_
  refine zx_dstore_n dX0_feel_4 rfl (Nat.le_of_ble_eq_true rfl) ?_
  refine zx_dload_n dX0_feel_5 rfl rfl ?_
  refine zx_aload_n dX0_feel_6 rfl rfl ?_
  refine zx_getD zf_X0_67 (by assumption) rfl dX0_feel_7 ?_
  refine zx_dl_le (tgt := 19) dX0_feel_10 dX0_feel_11 (by decide) (fun c_10 => ?_) (fun c_10 => ?_)
  · skip
    exact zx_return rfl rfl (by first | rfl | simp [zKa, zKm, u_feel, zI_sI, zI_sL, zI_sD, zI_sR, zL_sI, zL_sL, zL_sD, zL_sR, zD_sI, zD_sL, zD_sD, zD_sR, zR_sI, zR_sL, zR_sD, zR_sR, c_10]) dX0_feel_19
  · skip
    refine zx_aload_n dX0_feel_14 rfl rfl ?_
    refine zx_dload_n dX0_feel_15 rfl rfl ?_
    refine zx_putD zf_X0_67 (by assumption) rfl dX0_feel_16 ?_
    exact zx_return rfl rfl (by first | rfl | simp [zKa, zKm, u_feel, zI_sI, zI_sL, zI_sD, zI_sR, zL_sI, zL_sL, zL_sD, zL_sR, zD_sI, zD_sL, zD_sD, zD_sR, zR_sI, zR_sL, zR_sD, zR_sR, c_10]) dX0_feel_19

def u_gain (μ : ZMem) (c : Nat) (n : Int64) (a b : UInt64) : ZMem := zsD (zsD (zsL μ c 2 (zL μ c 2 + n)) c 12 (zadd (zD μ c 12) (zmul (FP.l2d n) a))) c 13 (zadd (zD μ c 13) (zmul (FP.l2d n) b))
set_option maxHeartbeats 4000000 in
set_option maxRecDepth 100000 in
theorem m_X0_gain {g : ZG} {μ : ZMem} {c : Nat} (hO : zO g 0 c) {n : Int64} {a b : UInt64} : zCab g RX0 yX0_gain cX0_gain 7 (none) (zrm 0) [zr (some c), zl n, zd a, zd b] μ none (u_gain μ c n a b) := by
  refine zCab_w (by decide +kernel) rfl (Nat.le_of_ble_eq_true rfl) ?_
  refine zx_aload_n dX0_gain_0 rfl rfl ?_
  refine zx_aload_n dX0_gain_1 rfl rfl ?_
  refine zx_getL zf_X0_21 (by assumption) rfl dX0_gain_2 ?_
  refine zx_lload_n dX0_gain_5 rfl rfl ?_
  refine zx_ladd dX0_gain_6 ?_
  refine zx_putL zf_X0_21 (by assumption) rfl dX0_gain_7 ?_
  refine zx_aload_n dX0_gain_10 rfl rfl ?_
  refine zx_aload_n dX0_gain_11 rfl rfl ?_
  refine zx_getD zf_X0_61 (by assumption) rfl dX0_gain_12 ?_
  refine zx_lload_n dX0_gain_15 rfl rfl ?_
  refine zx_l2d dX0_gain_16 ?_
  refine zx_dload_n dX0_gain_17 rfl rfl ?_
  refine zx_dmul dX0_gain_18 ?_
  refine zx_dadd dX0_gain_19 ?_
  refine zx_putD zf_X0_61 (by assumption) rfl dX0_gain_20 ?_
  refine zx_aload_n dX0_gain_23 rfl rfl ?_
  refine zx_aload_n dX0_gain_24 rfl rfl ?_
  refine zx_getD zf_X0_64 (by assumption) rfl dX0_gain_25 ?_
  refine zx_lload_n dX0_gain_28 rfl rfl ?_
  refine zx_l2d dX0_gain_29 ?_
  refine zx_dload dX0_gain_30 rfl ?_
  refine zx_dmul dX0_gain_32 ?_
  refine zx_dadd dX0_gain_33 ?_
  refine zx_putD zf_X0_64 (by assumption) rfl dX0_gain_34 ?_
  exact zx_return rfl rfl (by first | rfl | simp [zKa, zKm, u_gain, zI_sI, zI_sL, zI_sD, zI_sR, zL_sI, zL_sL, zL_sD, zL_sR, zD_sI, zD_sL, zD_sD, zD_sR, zR_sI, zR_sL, zR_sD, zR_sR]) dX0_gain_37

def u_lose (μ : ZMem) (c : Nat) (n : Int64) : ZMem := zsD (zsD (zsL μ c 2 (zL μ c 2 - n)) c 12 (zsub (zD μ c 12) (zmul (FP.l2d n) (zD μ c 3)))) c 13 (zsub (zD μ c 13) (zmul (FP.l2d n) (zD μ c 4)))
set_option maxHeartbeats 4000000 in
set_option maxRecDepth 100000 in
theorem m_X0_lose {g : ZG} {μ : ZMem} {c : Nat} (hO : zO g 0 c) {n : Int64} : zCab g RX0 yX0_lose cX0_lose 3 (none) (zrm 0) [zr (some c), zl n] μ none (u_lose μ c n) := by
  refine zCab_w (by decide +kernel) rfl (Nat.le_of_ble_eq_true rfl) ?_
  refine zx_aload_n dX0_lose_0 rfl rfl ?_
  refine zx_aload_n dX0_lose_1 rfl rfl ?_
  refine zx_getL zf_X0_21 (by assumption) rfl dX0_lose_2 ?_
  refine zx_lload_n dX0_lose_5 rfl rfl ?_
  refine zx_lsub dX0_lose_6 ?_
  refine zx_putL zf_X0_21 (by assumption) rfl dX0_lose_7 ?_
  refine zx_aload_n dX0_lose_10 rfl rfl ?_
  refine zx_aload_n dX0_lose_11 rfl rfl ?_
  refine zx_getD zf_X0_61 (by assumption) rfl dX0_lose_12 ?_
  refine zx_lload_n dX0_lose_15 rfl rfl ?_
  refine zx_l2d dX0_lose_16 ?_
  refine zx_aload_n dX0_lose_17 rfl rfl ?_
  refine zx_getD zf_X0_27 (by assumption) rfl dX0_lose_18 ?_
  refine zx_dmul dX0_lose_21 ?_
  refine zx_dsub dX0_lose_22 ?_
  refine zx_putD zf_X0_61 (by assumption) rfl dX0_lose_23 ?_
  refine zx_aload_n dX0_lose_26 rfl rfl ?_
  refine zx_aload_n dX0_lose_27 rfl rfl ?_
  refine zx_getD zf_X0_64 (by assumption) rfl dX0_lose_28 ?_
  refine zx_lload_n dX0_lose_31 rfl rfl ?_
  refine zx_l2d dX0_lose_32 ?_
  refine zx_aload_n dX0_lose_33 rfl rfl ?_
  refine zx_getD zf_X0_32 (by assumption) rfl dX0_lose_34 ?_
  refine zx_dmul dX0_lose_37 ?_
  refine zx_dsub dX0_lose_38 ?_
  refine zx_putD zf_X0_64 (by assumption) rfl dX0_lose_39 ?_
  exact zx_return rfl rfl (by first | rfl | simp [zKa, zKm, u_lose, zI_sI, zI_sL, zI_sD, zI_sR, zL_sI, zL_sL, zL_sD, zL_sR, zD_sI, zD_sL, zD_sD, zD_sR, zR_sI, zR_sL, zR_sD, zR_sR]) dX0_lose_42

def s_take (μ : ZMem) (c : Nat) (h : UInt64) : Int64 := if zI μ c 0 = 0 then 0 else FP.d2l (zmul (zD μ c 6) h)
def u_take (μ : ZMem) (c : Nat) (h : UInt64) : ZMem := if zI μ c 0 = 0 then μ else u_gain μ c (FP.d2l (zmul (zD μ c 6) h)) k12 0
set_option maxHeartbeats 4000000 in
set_option maxRecDepth 100000 in
theorem m_X0_takeRiver {g : ZG} {μ : ZMem} {c : Nat} (hO : zO g 0 c) {h : UInt64} : zCab g RX0 yX0_takeRiver cX0_takeRiver 5 ((some FieldType.long)) (zrm 1) [zr (some c), zd h] μ (some (zl (s_take μ c h))) (u_take μ c h) := by
  refine zCab_w (by decide +kernel) rfl (Nat.le_of_ble_eq_true rfl) ?_
  refine zx_aload_n dX0_takeRiver_0 rfl rfl ?_
  refine zx_getI zf_X0_9 (by assumption) (Or.inr rfl) dX0_takeRiver_1 ?_
  refine zx_if_ne (tgt := 9) dX0_takeRiver_4 (by decide) (fun c_4 => ?_) (fun c_4 => ?_)
  · skip
    refine zx_aload_n dX0_takeRiver_9 rfl rfl ?_
    refine zx_getD zf_X0_74 (by assumption) rfl dX0_takeRiver_10 ?_
    refine zx_dload_n dX0_takeRiver_13 rfl rfl ?_
    refine zx_dmul dX0_takeRiver_14 ?_
    refine zx_d2l dX0_takeRiver_15 ?_
    refine zx_lstore_n dX0_takeRiver_16 rfl (Nat.le_of_ble_eq_true rfl) ?_
    refine zx_aload_n dX0_takeRiver_17 rfl rfl ?_
    refine zx_lload_n dX0_takeRiver_18 rfl rfl ?_
    refine zx_ldc2d 4622945017495814144 zk_X0_77 (by decide +kernel) dX0_takeRiver_19 ?_
    refine zx_dconst0 dX0_takeRiver_22 ?_
    refine zx_callV0 _ zv_X0_79 (m_X0_gain (by assumption)) (by assumption) (by decide) rfl rfl rfl ⟨rfl, rfl, (Nat.le_of_ble_eq_true rfl), (Nat.le_of_ble_eq_true rfl)⟩ (Nat.le_of_ble_eq_true rfl) dX0_takeRiver_23 ?_
    refine zx_lload_n dX0_takeRiver_26 rfl rfl ?_
    exact zx_lreturn rfl (by first | rfl | simp [zKa, zKm, s_take, zI_sI, zI_sL, zI_sD, zI_sR, zL_sI, zL_sL, zL_sD, zL_sR, zD_sI, zD_sL, zD_sD, zD_sR, zR_sI, zR_sL, zR_sD, zR_sR, c_4]) (by first | rfl | simp [zKa, zKm, u_take, zI_sI, zI_sL, zI_sD, zI_sR, zL_sI, zL_sL, zL_sD, zL_sR, zD_sI, zD_sL, zD_sD, zD_sR, zR_sI, zR_sL, zR_sD, zR_sR, c_4]) dX0_takeRiver_27
  · skip
    refine zx_lconst 0 dX0_takeRiver_7 (by decide) ?_
    exact zx_lreturn rfl (by first | rfl | simp [zKa, zKm, s_take, zI_sI, zI_sL, zI_sD, zI_sR, zL_sI, zL_sL, zL_sD, zL_sR, zD_sI, zD_sL, zD_sD, zD_sR, zR_sI, zR_sL, zR_sD, zR_sR, c_4]) (by first | rfl | simp [zKa, zKm, u_take, zI_sI, zI_sL, zI_sD, zI_sR, zL_sI, zL_sL, zL_sD, zL_sR, zD_sI, zD_sL, zD_sD, zD_sR, zR_sI, zR_sL, zR_sD, zR_sR, c_4]) dX0_takeRiver_8

def s_isWater (μ : ZMem) (x : Option Nat) : Int32 := match x with
  | none => 0
  | some c => if zI μ c 0 = 0 then 0 else 1
set_option maxHeartbeats 4000000 in
set_option maxRecDepth 100000 in
theorem m_X1_isWater {g : ZG} {μ : ZMem} {x : Option Nat} (hx : ∀ c, x = some c → zO g 0 c) : zCab g RX1 yX1_isWater cX1_isWater 1 ((some FieldType.boolean)) (zrm 0) [zr x] μ (some (zi (s_isWater μ x))) μ := by
  refine zCab_w (by decide +kernel) rfl (Nat.le_of_ble_eq_true rfl) ?_
  refine zx_aload_n dX1_isWater_0 rfl rfl ?_
  refine zx_ifnull (tgt := 15) dX1_isWater_1 (by decide) (fun c_1 => ?_) (fun r_1 c_1 => ?_)
  · skip
    rw [c_1]
    refine zx_iconst 0 dX1_isWater_15 (by decide) ?_
    exact zx_zreturn rfl (by decide +kernel) (by first | rfl | simp [zKa, zKm, s_isWater, zI_sI, zI_sL, zI_sD, zI_sR, zL_sI, zL_sL, zL_sD, zL_sR, zD_sI, zD_sL, zD_sD, zD_sR, zR_sI, zR_sL, zR_sD, zR_sR, c_1]) (by rfl) dX1_isWater_16
  · skip
    have hO_1 := hx _ c_1
    rw [c_1]
    refine zx_aload_n dX1_isWater_4 rfl rfl ?_
    refine zx_getI zf_X1_34 (by assumption) (Or.inr rfl) dX1_isWater_5 ?_
    refine zx_if_eq (tgt := 15) dX1_isWater_8 (by decide) (fun c_8 => ?_) (fun c_8 => ?_)
    · skip
      refine zx_iconst 0 dX1_isWater_15 (by decide) ?_
      exact zx_zreturn rfl (by decide +kernel) (by first | rfl | simp [zKa, zKm, s_isWater, zI_sI, zI_sL, zI_sD, zI_sR, zL_sI, zL_sL, zL_sD, zL_sR, zD_sI, zD_sL, zD_sD, zD_sR, zR_sI, zR_sL, zR_sD, zR_sR, c_1, c_8]) (by rfl) dX1_isWater_16
    · skip
      refine zx_iconst 1 dX1_isWater_11 (by decide) ?_
      refine zx_goto (tgt := 16) dX1_isWater_12 (by decide) ?_
      exact zx_zreturn rfl (by decide +kernel) (by first | rfl | simp [zKa, zKm, s_isWater, zI_sI, zI_sL, zI_sD, zI_sR, zL_sI, zL_sL, zL_sD, zL_sR, zD_sI, zD_sL, zD_sD, zD_sR, zR_sI, zR_sL, zR_sD, zR_sR, c_1, c_8]) (by rfl) dX1_isWater_16
end
section
theorem zR_u_feel (μ : ZMem) (c : Nat) (v : UInt64) : zR (u_feel μ c v) = zR μ := by
  unfold u_feel
  first | rfl | (split <;> rfl)
theorem zR_u_gain (μ : ZMem) (c : Nat) (n : Int64) (a b : UInt64) : zR (u_gain μ c n a b) = zR μ := by
  unfold u_gain
  first | rfl | (split <;> rfl)
theorem zR_u_lose (μ : ZMem) (c : Nat) (n : Int64) : zR (u_lose μ c n) = zR μ := by
  unfold u_lose
  first | rfl | (split <;> rfl)
theorem zR_u_beginStep (μ : ZMem) (c : Nat) : zR (u_beginStep μ c) = zR μ := by
  unfold u_beginStep
  first | rfl | (split <;> rfl)
theorem zR_u_take (μ : ZMem) (c : Nat) (h : UInt64) : zR (u_take μ c h) = zR μ := by
  unfold u_take
  first | rfl | (split <;> rfl)
def s_exists (μ : ZMem) (f : Nat) : Int32 := match zR μ f 0, zR μ f 1 with
  | some a, some b => if zI μ a 0 = 0 then 0 else if zI μ b 0 = 0 then 0 else 1
  | a, b => match zR μ f 2 with
    | none => 0
    | some s => if zI μ s 2 = 0 then 0 else if s_isWater μ a = 0 then (if s_isWater μ b = 0 then 0 else 1) else 1
set_option maxHeartbeats 4000000 in
set_option maxRecDepth 100000 in
theorem m_X1_exists {g : ZG} {μ : ZMem} {f : Nat} (hO : zO g 1 f) (hW : zWf g μ) : zCab g RX1 yX1_exists cX1_exists 1 ((some FieldType.boolean)) (zrm 1) [zr (some f)] μ (some (zi (s_exists μ f))) μ := by
  refine zCab_w (by decide +kernel) rfl (Nat.le_of_ble_eq_true rfl) ?_
  refine zx_aload_n dX1_exists_0 rfl rfl ?_
  refine zx_getR zf_X1_7 (by assumption) (by first | assumption | rfl) rfl dX1_exists_1 ?_
  refine zx_ifnull (tgt := 14) dX1_exists_4 (by decide) (fun c_4 => ?_) (fun r_4 c_4 => ?_)
  · skip
    refine zx_aload_n dX1_exists_14 rfl rfl ?_
    refine zx_getR zf_X1_16 (by assumption) (by first | assumption | rfl) rfl dX1_exists_15 ?_
    refine zx_ifnull (tgt := 55) dX1_exists_18 (by decide) (fun c_18 => ?_) (fun r_18 c_18 => ?_)
    · skip
      refine zx_iconst 0 dX1_exists_55 (by decide) ?_
      exact zx_zreturn rfl (by decide +kernel) (by first | rfl | simp [zKa, zKm, s_exists, zI_sI, zI_sL, zI_sD, zI_sR, zL_sI, zL_sL, zL_sD, zL_sR, zD_sI, zD_sL, zD_sD, zD_sR, zR_sI, zR_sL, zR_sD, zR_sR, c_4, c_18]) (by rfl) dX1_exists_56
    · skip
      have hO_18 : zO g 3 r_18 := hW 1 _ _ _ (by assumption) c_18
      refine zx_aload_n dX1_exists_21 rfl rfl ?_
      refine zx_getR zf_X1_16 (by assumption) (by first | assumption | rfl) rfl dX1_exists_22 ?_
      refine zx_getI zf_X1_24 (by assumption) (Or.inr rfl) dX1_exists_25 ?_
      refine zx_if_eq (tgt := 55) dX1_exists_28 (by decide) (fun c_28 => ?_) (fun c_28 => ?_)
      · skip
        refine zx_iconst 0 dX1_exists_55 (by decide) ?_
        exact zx_zreturn rfl (by decide +kernel) (by first | rfl | simp [zKa, zKm, s_exists, zI_sI, zI_sL, zI_sD, zI_sR, zL_sI, zL_sL, zL_sD, zL_sR, zD_sI, zD_sL, zD_sD, zD_sR, zR_sI, zR_sL, zR_sD, zR_sR, c_4, c_18, c_28]) (by rfl) dX1_exists_56
      · skip
        refine zx_aload_n dX1_exists_31 rfl rfl ?_
        refine zx_getR zf_X1_7 (by assumption) (by first | assumption | rfl) rfl dX1_exists_32 ?_
        refine zx_callS1 _ zs_X1_30 (m_X1_isWater (fun c hc => by first | (cases hc; done) | exact hW 1 f 0 c hO (by first | exact hc | (cases hc; assumption)) | exact hW 1 f 1 c hO (by first | exact hc | (cases hc; assumption)))) rfl rfl ⟨rfl, rfl, (Nat.le_of_ble_eq_true rfl), (Nat.le_of_ble_eq_true rfl)⟩ (Nat.le_of_ble_eq_true rfl) dX1_exists_35 ?_
        refine zx_if_ne (tgt := 51) dX1_exists_38 (by decide) (fun c_38 => ?_) (fun c_38 => ?_)
        · skip
          refine zx_iconst 1 dX1_exists_51 (by decide) ?_
          refine zx_goto (tgt := 56) dX1_exists_52 (by decide) ?_
          exact zx_zreturn rfl (by decide +kernel) (by first | rfl | simp [zKa, zKm, s_exists, zI_sI, zI_sL, zI_sD, zI_sR, zL_sI, zL_sL, zL_sD, zL_sR, zD_sI, zD_sL, zD_sD, zD_sR, zR_sI, zR_sL, zR_sD, zR_sR, c_4, c_18, c_28, c_38]) (by rfl) dX1_exists_56
        · skip
          refine zx_aload_n dX1_exists_41 rfl rfl ?_
          refine zx_getR zf_X1_13 (by assumption) (by first | assumption | rfl) rfl dX1_exists_42 ?_
          refine zx_callS1 _ zs_X1_30 (m_X1_isWater (fun c hc => by first | (cases hc; done) | exact hW 1 f 0 c hO (by first | exact hc | (cases hc; assumption)) | exact hW 1 f 1 c hO (by first | exact hc | (cases hc; assumption)))) rfl rfl ⟨rfl, rfl, (Nat.le_of_ble_eq_true rfl), (Nat.le_of_ble_eq_true rfl)⟩ (Nat.le_of_ble_eq_true rfl) dX1_exists_45 ?_
          refine zx_if_eq (tgt := 55) dX1_exists_48 (by decide) (fun c_48 => ?_) (fun c_48 => ?_)
          · skip
            refine zx_iconst 0 dX1_exists_55 (by decide) ?_
            exact zx_zreturn rfl (by decide +kernel) (by first | rfl | simp [zKa, zKm, s_exists, zI_sI, zI_sL, zI_sD, zI_sR, zL_sI, zL_sL, zL_sD, zL_sR, zD_sI, zD_sL, zD_sD, zD_sR, zR_sI, zR_sL, zR_sD, zR_sR, c_4, c_18, c_28, c_38, c_48]) (by rfl) dX1_exists_56
          · skip
            refine zx_iconst 1 dX1_exists_51 (by decide) ?_
            refine zx_goto (tgt := 56) dX1_exists_52 (by decide) ?_
            exact zx_zreturn rfl (by decide +kernel) (by first | rfl | simp [zKa, zKm, s_exists, zI_sI, zI_sL, zI_sD, zI_sR, zL_sI, zL_sL, zL_sD, zL_sR, zD_sI, zD_sL, zD_sD, zD_sR, zR_sI, zR_sL, zR_sD, zR_sR, c_4, c_18, c_28, c_38, c_48]) (by rfl) dX1_exists_56
  · skip
    have hO_4 : zO g 0 r_4 := hW 1 _ _ _ (by assumption) c_4
    refine zx_aload_n dX1_exists_7 rfl rfl ?_
    refine zx_getR zf_X1_13 (by assumption) (by first | assumption | rfl) rfl dX1_exists_8 ?_
    refine zx_ifnonnull (tgt := 57) dX1_exists_11 (by decide) (fun c_11 => ?_) (fun r_11 c_11 => ?_)
    · skip
      refine zx_aload_n dX1_exists_14 rfl rfl ?_
      refine zx_getR zf_X1_16 (by assumption) (by first | assumption | rfl) rfl dX1_exists_15 ?_
      refine zx_ifnull (tgt := 55) dX1_exists_18 (by decide) (fun c_18 => ?_) (fun r_18 c_18 => ?_)
      · skip
        refine zx_iconst 0 dX1_exists_55 (by decide) ?_
        exact zx_zreturn rfl (by decide +kernel) (by first | rfl | simp [zKa, zKm, s_exists, zI_sI, zI_sL, zI_sD, zI_sR, zL_sI, zL_sL, zL_sD, zL_sR, zD_sI, zD_sL, zD_sD, zD_sR, zR_sI, zR_sL, zR_sD, zR_sR, c_4, c_11, c_18]) (by rfl) dX1_exists_56
      · skip
        have hO_18 : zO g 3 r_18 := hW 1 _ _ _ (by assumption) c_18
        refine zx_aload_n dX1_exists_21 rfl rfl ?_
        refine zx_getR zf_X1_16 (by assumption) (by first | assumption | rfl) rfl dX1_exists_22 ?_
        refine zx_getI zf_X1_24 (by assumption) (Or.inr rfl) dX1_exists_25 ?_
        refine zx_if_eq (tgt := 55) dX1_exists_28 (by decide) (fun c_28 => ?_) (fun c_28 => ?_)
        · skip
          refine zx_iconst 0 dX1_exists_55 (by decide) ?_
          exact zx_zreturn rfl (by decide +kernel) (by first | rfl | simp [zKa, zKm, s_exists, zI_sI, zI_sL, zI_sD, zI_sR, zL_sI, zL_sL, zL_sD, zL_sR, zD_sI, zD_sL, zD_sD, zD_sR, zR_sI, zR_sL, zR_sD, zR_sR, c_4, c_11, c_18, c_28]) (by rfl) dX1_exists_56
        · skip
          refine zx_aload_n dX1_exists_31 rfl rfl ?_
          refine zx_getR zf_X1_7 (by assumption) (by first | assumption | rfl) rfl dX1_exists_32 ?_
          refine zx_callS1 _ zs_X1_30 (m_X1_isWater (fun c hc => by first | (cases hc; done) | exact hW 1 f 0 c hO (by first | exact hc | (cases hc; assumption)) | exact hW 1 f 1 c hO (by first | exact hc | (cases hc; assumption)))) rfl rfl ⟨rfl, rfl, (Nat.le_of_ble_eq_true rfl), (Nat.le_of_ble_eq_true rfl)⟩ (Nat.le_of_ble_eq_true rfl) dX1_exists_35 ?_
          refine zx_if_ne (tgt := 51) dX1_exists_38 (by decide) (fun c_38 => ?_) (fun c_38 => ?_)
          · skip
            refine zx_iconst 1 dX1_exists_51 (by decide) ?_
            refine zx_goto (tgt := 56) dX1_exists_52 (by decide) ?_
            exact zx_zreturn rfl (by decide +kernel) (by first | rfl | simp [zKa, zKm, s_exists, zI_sI, zI_sL, zI_sD, zI_sR, zL_sI, zL_sL, zL_sD, zL_sR, zD_sI, zD_sL, zD_sD, zD_sR, zR_sI, zR_sL, zR_sD, zR_sR, c_4, c_11, c_18, c_28, c_38]) (by rfl) dX1_exists_56
          · skip
            refine zx_aload_n dX1_exists_41 rfl rfl ?_
            refine zx_getR zf_X1_13 (by assumption) (by first | assumption | rfl) rfl dX1_exists_42 ?_
            refine zx_callS1 _ zs_X1_30 (m_X1_isWater (fun c hc => by first | (cases hc; done) | exact hW 1 f 0 c hO (by first | exact hc | (cases hc; assumption)) | exact hW 1 f 1 c hO (by first | exact hc | (cases hc; assumption)))) rfl rfl ⟨rfl, rfl, (Nat.le_of_ble_eq_true rfl), (Nat.le_of_ble_eq_true rfl)⟩ (Nat.le_of_ble_eq_true rfl) dX1_exists_45 ?_
            refine zx_if_eq (tgt := 55) dX1_exists_48 (by decide) (fun c_48 => ?_) (fun c_48 => ?_)
            · skip
              refine zx_iconst 0 dX1_exists_55 (by decide) ?_
              exact zx_zreturn rfl (by decide +kernel) (by first | rfl | simp [zKa, zKm, s_exists, zI_sI, zI_sL, zI_sD, zI_sR, zL_sI, zL_sL, zL_sD, zL_sR, zD_sI, zD_sL, zD_sD, zD_sR, zR_sI, zR_sL, zR_sD, zR_sR, c_4, c_11, c_18, c_28, c_38, c_48]) (by rfl) dX1_exists_56
            · skip
              refine zx_iconst 1 dX1_exists_51 (by decide) ?_
              refine zx_goto (tgt := 56) dX1_exists_52 (by decide) ?_
              exact zx_zreturn rfl (by decide +kernel) (by first | rfl | simp [zKa, zKm, s_exists, zI_sI, zI_sL, zI_sD, zI_sR, zL_sI, zL_sL, zL_sD, zL_sR, zD_sI, zD_sL, zD_sD, zD_sR, zR_sI, zR_sL, zR_sD, zR_sR, c_4, c_11, c_18, c_28, c_38, c_48]) (by rfl) dX1_exists_56
    · skip
      have hO_11 : zO g 0 r_11 := hW 1 _ _ _ (by assumption) c_11
      refine zx_aload_n dX1_exists_57 rfl rfl ?_
      refine zx_getR zf_X1_7 (by assumption) (by first | assumption | rfl) rfl dX1_exists_58 ?_
      refine zx_getI zf_X1_34 (by assumption) (Or.inr rfl) dX1_exists_61 ?_
      refine zx_if_eq (tgt := 81) dX1_exists_64 (by decide) (fun c_64 => ?_) (fun c_64 => ?_)
      · skip
        refine zx_iconst 0 dX1_exists_81 (by decide) ?_
        exact zx_zreturn rfl (by decide +kernel) (by first | rfl | simp [zKa, zKm, s_exists, zI_sI, zI_sL, zI_sD, zI_sR, zL_sI, zL_sL, zL_sD, zL_sR, zD_sI, zD_sL, zD_sD, zD_sR, zR_sI, zR_sL, zR_sD, zR_sR, c_4, c_11, c_64]) (by rfl) dX1_exists_82
      · skip
        refine zx_aload_n dX1_exists_67 rfl rfl ?_
        refine zx_getR zf_X1_13 (by assumption) (by first | assumption | rfl) rfl dX1_exists_68 ?_
        refine zx_getI zf_X1_34 (by assumption) (Or.inr rfl) dX1_exists_71 ?_
        refine zx_if_eq (tgt := 81) dX1_exists_74 (by decide) (fun c_74 => ?_) (fun c_74 => ?_)
        · skip
          refine zx_iconst 0 dX1_exists_81 (by decide) ?_
          exact zx_zreturn rfl (by decide +kernel) (by first | rfl | simp [zKa, zKm, s_exists, zI_sI, zI_sL, zI_sD, zI_sR, zL_sI, zL_sL, zL_sD, zL_sR, zD_sI, zD_sL, zD_sD, zD_sR, zR_sI, zR_sL, zR_sD, zR_sR, c_4, c_11, c_64, c_74]) (by rfl) dX1_exists_82
        · skip
          refine zx_iconst 1 dX1_exists_77 (by decide) ?_
          refine zx_goto (tgt := 82) dX1_exists_78 (by decide) ?_
          exact zx_zreturn rfl (by decide +kernel) (by first | rfl | simp [zKa, zKm, s_exists, zI_sI, zI_sL, zI_sD, zI_sR, zL_sI, zL_sL, zL_sD, zL_sR, zD_sI, zD_sL, zD_sD, zD_sR, zR_sI, zR_sL, zR_sD, zR_sR, c_4, c_11, c_64, c_74]) (by rfl) dX1_exists_82

def u_restAt (μ : ZMem) (f c : Nat) : ZMem := if zR μ f 0 = some c then zsD μ f 4 0 else if zR μ f 1 = some c then zsD μ f 4 0 else μ
set_option maxHeartbeats 4000000 in
set_option maxRecDepth 100000 in
theorem m_X1_restAt {g : ZG} {μ : ZMem} {f : Nat} (hO : zO g 1 f) (hW : zWf g μ) {c : Nat} (hc : zO g 0 c) : zCab g RX1 yX1_restAt cX1_restAt 2 (none) (zrm 0) [zr (some f), zr (some c)] μ none (u_restAt μ f c) := by
  refine zCab_w (by decide +kernel) rfl (Nat.le_of_ble_eq_true rfl) ?_
  refine zx_aload_n dX1_restAt_0 rfl rfl ?_
  refine zx_getR zf_X1_7 (by assumption) (by first | assumption | rfl) rfl dX1_restAt_1 ?_
  refine zx_aload_n dX1_restAt_4 rfl rfl ?_
  refine zx_acmp_eq (tgt := 16) dX1_restAt_5 (by decide) (fun r h => (hW 1 _ _ _ hO h).1) (fun r h => by cases h; exact hc.1) (fun c_5 => ?_) (fun c_5 => ?_)
  · skip
    refine zx_aload_n dX1_restAt_16 rfl rfl ?_
    refine zx_dconst0 dX1_restAt_17 ?_
    refine zx_putD zf_X1_39 (by assumption) rfl dX1_restAt_18 ?_
    exact zx_return rfl rfl (by first | rfl | simp [zKa, zKm, u_restAt, zI_sI, zI_sL, zI_sD, zI_sR, zL_sI, zL_sL, zL_sD, zL_sR, zD_sI, zD_sL, zD_sD, zD_sR, zR_sI, zR_sL, zR_sD, zR_sR, c_5]) dX1_restAt_21
  · skip
    refine zx_aload_n dX1_restAt_8 rfl rfl ?_
    refine zx_getR zf_X1_13 (by assumption) (by first | assumption | rfl) rfl dX1_restAt_9 ?_
    refine zx_aload_n dX1_restAt_12 rfl rfl ?_
    refine zx_acmp_ne (tgt := 21) dX1_restAt_13 (by decide) (fun r h => (hW 1 _ _ _ hO h).1) (fun r h => by cases h; exact hc.1) (fun c_13 => ?_) (fun c_13 => ?_)
    · skip
      exact zx_return rfl rfl (by first | rfl | simp [zKa, zKm, u_restAt, zI_sI, zI_sL, zI_sD, zI_sR, zL_sI, zL_sL, zL_sD, zL_sR, zD_sI, zD_sL, zD_sD, zD_sR, zR_sI, zR_sL, zR_sD, zR_sR, c_5, c_13]) dX1_restAt_21
    · skip
      refine zx_aload_n dX1_restAt_16 rfl rfl ?_
      refine zx_dconst0 dX1_restAt_17 ?_
      refine zx_putD zf_X1_39 (by assumption) rfl dX1_restAt_18 ?_
      exact zx_return rfl rfl (by first | rfl | simp [zKa, zKm, u_restAt, zI_sI, zI_sL, zI_sD, zI_sR, zL_sI, zL_sL, zL_sD, zL_sR, zD_sI, zD_sL, zD_sD, zD_sR, zR_sI, zR_sL, zR_sD, zR_sR, c_5, c_13]) dX1_restAt_21

theorem zR_u_restAt (μ : ZMem) (f c : Nat) : zR (u_restAt μ f c) = zR μ := by
  unfold u_restAt
  first | rfl | (split <;> first | rfl | (split <;> rfl))
def s_surfaceOf (μ : ZMem) (f : Nat) (x : Option Nat) : UInt64 := match x with
  | some c => zD μ c 11
  | none => match zR μ f 2 with
    | none => 0
    | some s => zD μ s 3
set_option maxHeartbeats 4000000 in
set_option maxRecDepth 100000 in
theorem m_X1_surfaceOf {g : ZG} {μ : ZMem} {f : Nat} (hO : zO g 1 f) (hW : zWf g μ) {x : Option Nat} (hx : ∀ c, x = some c → zO g 0 c) : zCab g RX1 yX1_surfaceOf cX1_surfaceOf 2 ((some FieldType.double)) (zrm 0) [zr (some f), zr x] μ (some (zd (s_surfaceOf μ f x))) μ := by
  refine zCab_w (by decide +kernel) rfl (Nat.le_of_ble_eq_true rfl) ?_
  refine zx_aload_n dX1_surfaceOf_0 rfl rfl ?_
  refine zx_ifnull (tgt := 9) dX1_surfaceOf_1 (by decide) (fun c_1 => ?_) (fun r_1 c_1 => ?_)
  · skip
    rw [c_1]
    refine zx_aload_n dX1_surfaceOf_9 rfl rfl ?_
    refine zx_getR zf_X1_16 (by assumption) (by first | assumption | rfl) rfl dX1_surfaceOf_10 ?_
    refine zx_ifnonnull (tgt := 20) dX1_surfaceOf_13 (by decide) (fun c_13 => ?_) (fun r_13 c_13 => ?_)
    · skip
      refine zx_dconst0 dX1_surfaceOf_16 ?_
      refine zx_goto (tgt := 27) dX1_surfaceOf_17 (by decide) ?_
      exact zx_dreturn rfl (by first | rfl | simp [zKa, zKm, s_surfaceOf, zI_sI, zI_sL, zI_sD, zI_sR, zL_sI, zL_sL, zL_sD, zL_sR, zD_sI, zD_sL, zD_sD, zD_sR, zR_sI, zR_sL, zR_sD, zR_sR, c_1, c_13]) (by rfl) dX1_surfaceOf_27
    · skip
      have hO_13 : zO g 3 r_13 := hW 1 _ _ _ (by assumption) c_13
      refine zx_aload_n dX1_surfaceOf_20 rfl rfl ?_
      refine zx_getR zf_X1_16 (by assumption) (by first | assumption | rfl) rfl dX1_surfaceOf_21 ?_
      refine zx_getD zf_X1_105 (by assumption) rfl dX1_surfaceOf_24 ?_
      exact zx_dreturn rfl (by first | rfl | simp [zKa, zKm, s_surfaceOf, zI_sI, zI_sL, zI_sD, zI_sR, zL_sI, zL_sL, zL_sD, zL_sR, zD_sI, zD_sL, zD_sD, zD_sR, zR_sI, zR_sL, zR_sD, zR_sR, c_1, c_13]) (by rfl) dX1_surfaceOf_27
  · skip
    have hO_1 := hx _ c_1
    rw [c_1]
    refine zx_aload_n dX1_surfaceOf_4 rfl rfl ?_
    refine zx_getD zf_X1_102 (by assumption) rfl dX1_surfaceOf_5 ?_
    exact zx_dreturn rfl (by first | rfl | simp [zKa, zKm, s_surfaceOf, zI_sI, zI_sL, zI_sD, zI_sR, zL_sI, zL_sL, zL_sD, zL_sR, zD_sI, zD_sL, zD_sD, zD_sR, zR_sI, zR_sL, zR_sD, zR_sR, c_1]) (by rfl) dX1_surfaceOf_8

def s_lesser (μ : ZMem) (f : Nat) : Int64 := match zR μ f 0, zR μ f 1 with
  | none, none => 9223372036854775807
  | none, some b => s_min64 9223372036854775807 (zL μ b 2)
  | some a, none => s_min64 9223372036854775807 (zL μ a 2)
  | some a, some b => s_min64 (s_min64 9223372036854775807 (zL μ a 2)) (zL μ b 2)
set_option maxHeartbeats 4000000 in
set_option maxRecDepth 100000 in
theorem m_X1_lesserParts {g : ZG} {μ : ZMem} {f : Nat} (hO : zO g 1 f) (hW : zWf g μ) : zCab g RX1 yX1_lesserParts cX1_lesserParts 3 ((some FieldType.long)) (zrm 1) [zr (some f)] μ (some (zl (s_lesser μ f))) μ := by
  refine zCab_w (by decide +kernel) rfl (Nat.le_of_ble_eq_true rfl) ?_
  refine zx_ldc2l 9223372036854775807 zk_X1_110 dX1_lesserParts_0 ?_
  refine zx_lstore_n dX1_lesserParts_3 rfl (Nat.le_of_ble_eq_true rfl) ?_
  refine zx_aload_n dX1_lesserParts_4 rfl rfl ?_
  refine zx_getR zf_X1_7 (by assumption) (by first | assumption | rfl) rfl dX1_lesserParts_5 ?_
  refine zx_ifnull (tgt := 23) dX1_lesserParts_8 (by decide) (fun c_8 => ?_) (fun r_8 c_8 => ?_)
  · skip
    refine zx_aload_n dX1_lesserParts_23 rfl rfl ?_
    refine zx_getR zf_X1_13 (by assumption) (by first | assumption | rfl) rfl dX1_lesserParts_24 ?_
    refine zx_ifnonnull (tgt := 34) dX1_lesserParts_27 (by decide) (fun c_27 => ?_) (fun r_27 c_27 => ?_)
    · skip
      refine zx_lload_n dX1_lesserParts_30 rfl rfl ?_
      refine zx_goto (tgt := 45) dX1_lesserParts_31 (by decide) ?_
      exact zx_lreturn rfl (by first | rfl | simp [zKa, zKm, s_lesser, zI_sI, zI_sL, zI_sD, zI_sR, zL_sI, zL_sL, zL_sD, zL_sR, zD_sI, zD_sL, zD_sD, zD_sR, zR_sI, zR_sL, zR_sD, zR_sR, c_8, c_27]) (by rfl) dX1_lesserParts_45
    · skip
      have hO_27 : zO g 0 r_27 := hW 1 _ _ _ (by assumption) c_27
      refine zx_lload_n dX1_lesserParts_34 rfl rfl ?_
      refine zx_aload_n dX1_lesserParts_35 rfl rfl ?_
      refine zx_getR zf_X1_13 (by assumption) (by first | assumption | rfl) rfl dX1_lesserParts_36 ?_
      refine zx_getL zf_X1_112 (by assumption) rfl dX1_lesserParts_39 ?_
      refine zx_callS1 _ zs_X1_115 m_J9_min_f86c9 rfl rfl ⟨rfl, rfl, (Nat.le_of_ble_eq_true rfl), (Nat.le_of_ble_eq_true rfl)⟩ (Nat.le_of_ble_eq_true rfl) dX1_lesserParts_42 ?_
      exact zx_lreturn rfl (by first | rfl | simp [zKa, zKm, s_lesser, zI_sI, zI_sL, zI_sD, zI_sR, zL_sI, zL_sL, zL_sD, zL_sR, zD_sI, zD_sL, zD_sD, zD_sR, zR_sI, zR_sL, zR_sD, zR_sR, c_8, c_27]) (by rfl) dX1_lesserParts_45
  · skip
    have hO_8 : zO g 0 r_8 := hW 1 _ _ _ (by assumption) c_8
    refine zx_lload_n dX1_lesserParts_11 rfl rfl ?_
    refine zx_aload_n dX1_lesserParts_12 rfl rfl ?_
    refine zx_getR zf_X1_7 (by assumption) (by first | assumption | rfl) rfl dX1_lesserParts_13 ?_
    refine zx_getL zf_X1_112 (by assumption) rfl dX1_lesserParts_16 ?_
    refine zx_callS1 _ zs_X1_115 m_J9_min_f86c9 rfl rfl ⟨rfl, rfl, (Nat.le_of_ble_eq_true rfl), (Nat.le_of_ble_eq_true rfl)⟩ (Nat.le_of_ble_eq_true rfl) dX1_lesserParts_19 ?_
    refine zx_lstore_n dX1_lesserParts_22 rfl (Nat.le_of_ble_eq_true rfl) ?_
    refine zx_aload_n dX1_lesserParts_23 rfl rfl ?_
    refine zx_getR zf_X1_13 (by assumption) (by first | assumption | rfl) rfl dX1_lesserParts_24 ?_
    refine zx_ifnonnull (tgt := 34) dX1_lesserParts_27 (by decide) (fun c_27 => ?_) (fun r_27 c_27 => ?_)
    · skip
      refine zx_lload_n dX1_lesserParts_30 rfl rfl ?_
      refine zx_goto (tgt := 45) dX1_lesserParts_31 (by decide) ?_
      exact zx_lreturn rfl (by first | rfl | simp [zKa, zKm, s_lesser, zI_sI, zI_sL, zI_sD, zI_sR, zL_sI, zL_sL, zL_sD, zL_sR, zD_sI, zD_sL, zD_sD, zD_sR, zR_sI, zR_sL, zR_sD, zR_sR, c_8, c_27]) (by rfl) dX1_lesserParts_45
    · skip
      have hO_27 : zO g 0 r_27 := hW 1 _ _ _ (by assumption) c_27
      refine zx_lload_n dX1_lesserParts_34 rfl rfl ?_
      refine zx_aload_n dX1_lesserParts_35 rfl rfl ?_
      refine zx_getR zf_X1_13 (by assumption) (by first | assumption | rfl) rfl dX1_lesserParts_36 ?_
      refine zx_getL zf_X1_112 (by assumption) rfl dX1_lesserParts_39 ?_
      refine zx_callS1 _ zs_X1_115 m_J9_min_f86c9 rfl rfl ⟨rfl, rfl, (Nat.le_of_ble_eq_true rfl), (Nat.le_of_ble_eq_true rfl)⟩ (Nat.le_of_ble_eq_true rfl) dX1_lesserParts_42 ?_
      exact zx_lreturn rfl (by first | rfl | simp [zKa, zKm, s_lesser, zI_sI, zI_sL, zI_sD, zI_sR, zL_sI, zL_sL, zL_sD, zL_sR, zD_sI, zD_sL, zD_sD, zD_sR, zR_sI, zR_sL, zR_sD, zR_sR, c_8, c_27]) (by rfl) dX1_lesserParts_45

def s_limited (μ : ZMem) (f : Nat) (q : Int64) : Int64 := match (if q < 0 then zR μ f 1 else zR μ f 0) with
  | none => q
  | some c => if s_isDry μ c = 0 then s_max64 (-(zL μ c 2 / 8)) (s_min64 (zL μ c 2 / 8) q) else 0
set_option maxHeartbeats 4000000 in
set_option maxRecDepth 100000 in
theorem m_X1_limited {g : ZG} {μ : ZMem} {f : Nat} (hO : zO g 1 f) (hW : zWf g μ) {q : Int64} : zCab g RX1 yX1_limited cX1_limited 6 ((some FieldType.long)) (zrm 1) [zr (some f), zl q] μ (some (zl (s_limited μ f q))) μ := by
  refine zCab_w (by decide +kernel) rfl (Nat.le_of_ble_eq_true rfl) ?_
  refine zx_lload_n dX1_limited_0 rfl rfl ?_
  refine zx_lconst 0 dX1_limited_1 (by decide) ?_
  refine zx_lc_ge (tgt := 13) dX1_limited_2 dX1_limited_3 (by decide) (fun c_2 => ?_) (fun c_2 => ?_)
  · skip
    refine zx_aload_n dX1_limited_13 rfl rfl ?_
    refine zx_getR zf_X1_7 (by assumption) (by first | assumption | rfl) rfl dX1_limited_14 ?_
    refine zx_astore_n dX1_limited_17 rfl (Nat.le_of_ble_eq_true rfl) ?_
    refine zx_aload_n dX1_limited_18 rfl rfl ?_
    refine zx_ifnonnull (tgt := 24) dX1_limited_19 (by decide) (fun c_19 => ?_) (fun r_19 c_19 => ?_)
    · skip
      rw [c_19]
      refine zx_lload_n dX1_limited_22 rfl rfl ?_
      exact zx_lreturn rfl (by first | rfl | simp [zKa, zKm, s_limited, zI_sI, zI_sL, zI_sD, zI_sR, zL_sI, zL_sL, zL_sD, zL_sR, zD_sI, zD_sL, zD_sD, zD_sR, zR_sI, zR_sL, zR_sD, zR_sR, c_2, c_19]) (by rfl) dX1_limited_23
    · skip
      have hO_19 : zO g 0 r_19 := hW 1 _ _ _ (by assumption) c_19
      rw [c_19]
      refine zx_aload_n dX1_limited_24 rfl rfl ?_
      refine zx_callV1 _ zv_X1_121 (m_X0_isDry (by assumption)) (by assumption) (by decide) rfl rfl rfl ⟨rfl, rfl, (Nat.le_of_ble_eq_true rfl), (Nat.le_of_ble_eq_true rfl)⟩ (Nat.le_of_ble_eq_true rfl) dX1_limited_25 ?_
      refine zx_if_eq (tgt := 33) dX1_limited_28 (by decide) (fun c_28 => ?_) (fun c_28 => ?_)
      · skip
        refine zx_aload_n dX1_limited_33 rfl rfl ?_
        refine zx_getL zf_X1_112 (by assumption) rfl dX1_limited_34 ?_
        refine zx_ldc2l 8 zk_X1_124 dX1_limited_37 ?_
        refine zx_ldiv dX1_limited_40 (by decide) ?_
        refine zx_lstore dX1_limited_41 (Nat.le_of_ble_eq_true rfl) ?_
        refine zx_lload dX1_limited_43 rfl ?_
        refine zx_lneg dX1_limited_45 ?_
        refine zx_lload dX1_limited_46 rfl ?_
        refine zx_lload_n dX1_limited_48 rfl rfl ?_
        refine zx_callS1 _ zs_X1_115 m_J9_min_f86c9 rfl rfl ⟨rfl, rfl, (Nat.le_of_ble_eq_true rfl), (Nat.le_of_ble_eq_true rfl)⟩ (Nat.le_of_ble_eq_true rfl) dX1_limited_49 ?_
        refine zx_callS1 _ zs_X1_126 m_J9_max_f86c9 rfl rfl ⟨rfl, rfl, (Nat.le_of_ble_eq_true rfl), (Nat.le_of_ble_eq_true rfl)⟩ (Nat.le_of_ble_eq_true rfl) dX1_limited_52 ?_
        exact zx_lreturn rfl (by first | rfl | simp [zKa, zKm, s_limited, zI_sI, zI_sL, zI_sD, zI_sR, zL_sI, zL_sL, zL_sD, zL_sR, zD_sI, zD_sL, zD_sD, zD_sR, zR_sI, zR_sL, zR_sD, zR_sR, c_2, c_19, c_28]) (by rfl) dX1_limited_55
      · skip
        refine zx_lconst 0 dX1_limited_31 (by decide) ?_
        exact zx_lreturn rfl (by first | rfl | simp [zKa, zKm, s_limited, zI_sI, zI_sL, zI_sD, zI_sR, zL_sI, zL_sL, zL_sD, zL_sR, zD_sI, zD_sL, zD_sD, zD_sR, zR_sI, zR_sL, zR_sD, zR_sR, c_2, c_19, c_28]) (by rfl) dX1_limited_32
  · skip
    refine zx_aload_n dX1_limited_6 rfl rfl ?_
    refine zx_getR zf_X1_13 (by assumption) (by first | assumption | rfl) rfl dX1_limited_7 ?_
    refine zx_goto (tgt := 17) dX1_limited_10 (by decide) ?_
    refine zx_astore_n dX1_limited_17 rfl (Nat.le_of_ble_eq_true rfl) ?_
    refine zx_aload_n dX1_limited_18 rfl rfl ?_
    refine zx_ifnonnull (tgt := 24) dX1_limited_19 (by decide) (fun c_19 => ?_) (fun r_19 c_19 => ?_)
    · skip
      rw [c_19]
      refine zx_lload_n dX1_limited_22 rfl rfl ?_
      exact zx_lreturn rfl (by first | rfl | simp [zKa, zKm, s_limited, zI_sI, zI_sL, zI_sD, zI_sR, zL_sI, zL_sL, zL_sD, zL_sR, zD_sI, zD_sL, zD_sD, zD_sR, zR_sI, zR_sL, zR_sD, zR_sR, c_2, c_19]) (by rfl) dX1_limited_23
    · skip
      have hO_19 : zO g 0 r_19 := hW 1 _ _ _ (by assumption) c_19
      rw [c_19]
      refine zx_aload_n dX1_limited_24 rfl rfl ?_
      refine zx_callV1 _ zv_X1_121 (m_X0_isDry (by assumption)) (by assumption) (by decide) rfl rfl rfl ⟨rfl, rfl, (Nat.le_of_ble_eq_true rfl), (Nat.le_of_ble_eq_true rfl)⟩ (Nat.le_of_ble_eq_true rfl) dX1_limited_25 ?_
      refine zx_if_eq (tgt := 33) dX1_limited_28 (by decide) (fun c_28 => ?_) (fun c_28 => ?_)
      · skip
        refine zx_aload_n dX1_limited_33 rfl rfl ?_
        refine zx_getL zf_X1_112 (by assumption) rfl dX1_limited_34 ?_
        refine zx_ldc2l 8 zk_X1_124 dX1_limited_37 ?_
        refine zx_ldiv dX1_limited_40 (by decide) ?_
        refine zx_lstore dX1_limited_41 (Nat.le_of_ble_eq_true rfl) ?_
        refine zx_lload dX1_limited_43 rfl ?_
        refine zx_lneg dX1_limited_45 ?_
        refine zx_lload dX1_limited_46 rfl ?_
        refine zx_lload_n dX1_limited_48 rfl rfl ?_
        refine zx_callS1 _ zs_X1_115 m_J9_min_f86c9 rfl rfl ⟨rfl, rfl, (Nat.le_of_ble_eq_true rfl), (Nat.le_of_ble_eq_true rfl)⟩ (Nat.le_of_ble_eq_true rfl) dX1_limited_49 ?_
        refine zx_callS1 _ zs_X1_126 m_J9_max_f86c9 rfl rfl ⟨rfl, rfl, (Nat.le_of_ble_eq_true rfl), (Nat.le_of_ble_eq_true rfl)⟩ (Nat.le_of_ble_eq_true rfl) dX1_limited_52 ?_
        exact zx_lreturn rfl (by first | rfl | simp [zKa, zKm, s_limited, zI_sI, zI_sL, zI_sD, zI_sR, zL_sI, zL_sL, zL_sD, zL_sR, zD_sI, zD_sL, zD_sD, zD_sR, zR_sI, zR_sL, zR_sD, zR_sR, c_2, c_19, c_28]) (by rfl) dX1_limited_55
      · skip
        refine zx_lconst 0 dX1_limited_31 (by decide) ?_
        exact zx_lreturn rfl (by first | rfl | simp [zKa, zKm, s_limited, zI_sI, zI_sL, zI_sD, zI_sR, zL_sI, zL_sL, zL_sD, zL_sR, zD_sI, zD_sL, zD_sD, zD_sR, zR_sI, zR_sL, zR_sD, zR_sR, c_2, c_19, c_28]) (by rfl) dX1_limited_32

def v_speed (μ : ZMem) (f : Nat) (h w : UInt64) : UInt64 := zdiv (zadd (zD μ f 4) (zmul h (zadd (zmul kg (zsub (s_surfaceOf μ f (zR μ f 0)) (s_surfaceOf μ f (zR μ f 1)))) (zmul kw w)))) (zadd k1 (zmul (zmul kf h) (s_sizeOf (zD μ f 4))))
def u_settle0 (μ : ZMem) (f : Nat) : ZMem := zsL μ f 5 0
def u_settle1 (μ : ZMem) (f : Nat) (h w : UInt64) : ZMem := zsD (u_settle0 μ f) f 4 (v_speed (u_settle0 μ f) f h w)
def u_settle2 (μ : ZMem) (f : Nat) (h w : UInt64) : ZMem := zsL (u_settle1 μ f h w) f 5 (s_limited (u_settle1 μ f h w) f (FP.d2l (zmul (zmul (zD (u_settle1 μ f h w) f 4) h) (zmul (FP.l2d (s_lesser (u_settle1 μ f h w) f)) k0001))))
def u_felt (μ : ZMem) (f : Nat) (x : Option Nat) : ZMem := match x with
  | none => μ
  | some a => u_feel μ a (zD μ f 4)
def u_settle (μ : ZMem) (f : Nat) (h w : UInt64) : ZMem := if s_exists (u_settle0 μ f) f = 0 then u_settle0 μ f else u_felt (u_felt (u_settle2 μ f h w) f (zR μ f 0)) f (zR μ f 1)
theorem zR_u_felt (μ : ZMem) (f : Nat) (x : Option Nat) : zR (u_felt μ f x) = zR μ := by
  unfold u_felt
  cases x with
  | none => rfl
  | some a => exact zR_u_feel _ _ _
theorem zR_u_settle (μ : ZMem) (f : Nat) (h w : UInt64) : zR (u_settle μ f h w) = zR μ := by
  unfold u_settle
  split
  · rfl
  · rw [zR_u_felt, zR_u_felt]
    rfl
set_option maxHeartbeats 4000000 in
set_option maxRecDepth 100000 in
theorem m_X1_settle {g : ZG} {μ : ZMem} {f : Nat} (hO : zO g 1 f) (hW : zWf g μ) {h w : UInt64} : zCab g RX1 yX1_settle cX1_settle 7 (none) (zrm 2) [zr (some f), zd h, zd w] μ none (u_settle μ f h w) := by
  refine zCab_w (by decide +kernel) rfl (Nat.le_of_ble_eq_true rfl) ?_
  refine zx_aload_n dX1_settle_0 rfl rfl ?_
  refine zx_lconst 0 dX1_settle_1 (by decide) ?_
  refine zx_putL zf_X1_43 (by assumption) rfl dX1_settle_2 ?_
  refine zx_aload_n dX1_settle_5 rfl rfl ?_
  refine zx_callV1 _ zv_X1_47 (m_X1_exists hO hW) (by assumption) (by decide) rfl rfl rfl ⟨rfl, rfl, (Nat.le_of_ble_eq_true rfl), (Nat.le_of_ble_eq_true rfl)⟩ (Nat.le_of_ble_eq_true rfl) dX1_settle_6 ?_
  refine zx_if_ne (tgt := 13) dX1_settle_9 (by decide) (fun c_9 => ?_) (fun c_9 => ?_)
  · skip
    refine zx_aload_n dX1_settle_13 rfl rfl ?_
    refine zx_aload_n dX1_settle_14 rfl rfl ?_
    refine zx_getR zf_X1_7 (by assumption) (by first | assumption | rfl) rfl dX1_settle_15 ?_
    refine zx_callV1 _ zv_X1_51 (m_X1_surfaceOf (μ := u_settle0 μ f) hO hW (fun c hc => hW 1 f 0 c hO hc)) (by assumption) (by decide) rfl rfl rfl ⟨rfl, rfl, (Nat.le_of_ble_eq_true rfl), (Nat.le_of_ble_eq_true rfl)⟩ (Nat.le_of_ble_eq_true rfl) dX1_settle_18 ?_
    refine zx_aload_n dX1_settle_21 rfl rfl ?_
    refine zx_aload_n dX1_settle_22 rfl rfl ?_
    refine zx_getR zf_X1_13 (by assumption) (by first | assumption | rfl) rfl dX1_settle_23 ?_
    refine zx_callV1 _ zv_X1_51 (m_X1_surfaceOf (μ := u_settle0 μ f) hO hW (fun c hc => hW 1 f 1 c hO hc)) (by assumption) (by decide) rfl rfl rfl ⟨rfl, rfl, (Nat.le_of_ble_eq_true rfl), (Nat.le_of_ble_eq_true rfl)⟩ (Nat.le_of_ble_eq_true rfl) dX1_settle_26 ?_
    refine zx_dsub dX1_settle_29 ?_
    refine zx_dstore dX1_settle_30 (Nat.le_of_ble_eq_true rfl) ?_
    refine zx_aload_n dX1_settle_32 rfl rfl ?_
    refine zx_aload_n dX1_settle_33 rfl rfl ?_
    refine zx_getD zf_X1_39 (by assumption) rfl dX1_settle_34 ?_
    refine zx_dload_n dX1_settle_37 rfl rfl ?_
    refine zx_ldc2d 4576808701761150024 zk_X1_55 (by decide +kernel) dX1_settle_38 ?_
    refine zx_dload dX1_settle_41 rfl ?_
    refine zx_dmul dX1_settle_43 ?_
    refine zx_ldc2d 4532020583610935537 zk_X1_57 (by decide +kernel) dX1_settle_44 ?_
    refine zx_dload_n dX1_settle_47 rfl rfl ?_
    refine zx_dmul dX1_settle_48 ?_
    refine zx_dadd dX1_settle_49 ?_
    refine zx_dmul dX1_settle_50 ?_
    refine zx_dadd dX1_settle_51 ?_
    refine zx_dconst1 dX1_settle_52 ?_
    refine zx_ldc2d 4566758108544739836 zk_X1_59 (by decide +kernel) dX1_settle_53 ?_
    refine zx_dload_n dX1_settle_56 rfl rfl ?_
    refine zx_dmul dX1_settle_57 ?_
    refine zx_aload_n dX1_settle_58 rfl rfl ?_
    refine zx_getD zf_X1_39 (by assumption) rfl dX1_settle_59 ?_
    refine zx_callN1 _ zn_X1_61 m_X6_sizeOf rfl rfl ⟨rfl, rfl, (Nat.le_of_ble_eq_true rfl), (Nat.le_of_ble_eq_true rfl)⟩ (Nat.le_of_ble_eq_true rfl) dX1_settle_62 ?_
    refine zx_dmul dX1_settle_65 ?_
    refine zx_dadd dX1_settle_66 ?_
    refine zx_ddiv dX1_settle_67 ?_
    refine zx_putD zf_X1_39 (by assumption) rfl dX1_settle_68 ?_
    refine zx_aload_n dX1_settle_71 rfl rfl ?_
    refine zx_aload_n dX1_settle_72 rfl rfl ?_
    refine zx_aload_n dX1_settle_73 rfl rfl ?_
    refine zx_getD zf_X1_39 (by assumption) rfl dX1_settle_74 ?_
    refine zx_dload_n dX1_settle_77 rfl rfl ?_
    refine zx_dmul dX1_settle_78 ?_
    refine zx_aload_n dX1_settle_79 rfl rfl ?_
    refine zx_callV1 _ zv_X1_67 (m_X1_lesserParts (μ := u_settle1 μ f h w) hO hW) (by assumption) (by decide) rfl rfl rfl ⟨rfl, rfl, (Nat.le_of_ble_eq_true rfl), (Nat.le_of_ble_eq_true rfl)⟩ (Nat.le_of_ble_eq_true rfl) dX1_settle_80 ?_
    refine zx_l2d dX1_settle_83 ?_
    refine zx_ldc2d 4562254508917369340 zk_X1_71 (by decide +kernel) dX1_settle_84 ?_
    refine zx_dmul dX1_settle_87 ?_
    refine zx_dmul dX1_settle_88 ?_
    refine zx_d2l dX1_settle_89 ?_
    refine zx_callV1 _ zv_X1_73 (m_X1_limited (μ := u_settle1 μ f h w) hO hW) (by assumption) (by decide) rfl rfl rfl ⟨rfl, rfl, (Nat.le_of_ble_eq_true rfl), (Nat.le_of_ble_eq_true rfl)⟩ (Nat.le_of_ble_eq_true rfl) dX1_settle_90 ?_
    refine zx_putL zf_X1_43 (by assumption) rfl dX1_settle_93 ?_
    refine zx_aload_n dX1_settle_96 rfl rfl ?_
    refine zx_getR zf_X1_7 (by assumption) (show _ = zR μ f 0 from rfl) rfl dX1_settle_97 ?_
    refine zx_ifnull (tgt := 114) dX1_settle_100 (by decide) (fun c_100 => ?_) (fun r_100 c_100 => ?_)
    · skip
      refine zx_aload_n dX1_settle_114 rfl rfl ?_
      refine zx_getR zf_X1_13 (by assumption) (show _ = zR μ f 1 from by first | rfl | (rw [zR_u_feel]; rfl)) rfl dX1_settle_115 ?_
      refine zx_ifnull (tgt := 132) dX1_settle_118 (by decide) (fun c_118 => ?_) (fun r_118 c_118 => ?_)
      · skip
        exact zx_return rfl rfl (by (refine Eq.trans (b := u_felt (u_felt (u_settle2 μ f h w) f none) f none) (by show u_settle μ f h w = _; unfold u_settle; rw [if_neg (show ¬ s_exists (u_settle0 μ f) f = 0 from c_9), c_100, c_118]) rfl)) dX1_settle_132
      · skip
        have hO_118 : zO g 0 r_118 := hW 1 _ _ _ (by assumption) c_118
        refine zx_aload_n dX1_settle_121 rfl rfl ?_
        refine zx_getR zf_X1_13 (by assumption) (show _ = some r_118 from by first | exact c_118 | (rw [zR_u_feel]; exact c_118)) rfl dX1_settle_122 ?_
        refine zx_aload_n dX1_settle_125 rfl rfl ?_
        refine zx_getD zf_X1_39 (by assumption) rfl dX1_settle_126 ?_
        refine zx_callV0 _ zv_X1_77 (m_X0_feel (by assumption)) (by assumption) (by decide) rfl rfl rfl ⟨rfl, rfl, (Nat.le_of_ble_eq_true rfl), (Nat.le_of_ble_eq_true rfl)⟩ (Nat.le_of_ble_eq_true rfl) dX1_settle_129 ?_
        exact zx_return rfl rfl (by (refine Eq.trans (b := u_felt (u_felt (u_settle2 μ f h w) f none) f (some r_118)) (by show u_settle μ f h w = _; unfold u_settle; rw [if_neg (show ¬ s_exists (u_settle0 μ f) f = 0 from c_9), c_100, c_118]) rfl)) dX1_settle_132
    · skip
      have hO_100 : zO g 0 r_100 := hW 1 _ _ _ (by assumption) c_100
      refine zx_aload_n dX1_settle_103 rfl rfl ?_
      refine zx_getR zf_X1_7 (by assumption) (show _ = some r_100 from c_100) rfl dX1_settle_104 ?_
      refine zx_aload_n dX1_settle_107 rfl rfl ?_
      refine zx_getD zf_X1_39 (by assumption) rfl dX1_settle_108 ?_
      refine zx_callV0 _ zv_X1_77 (m_X0_feel (by assumption)) (by assumption) (by decide) rfl rfl rfl ⟨rfl, rfl, (Nat.le_of_ble_eq_true rfl), (Nat.le_of_ble_eq_true rfl)⟩ (Nat.le_of_ble_eq_true rfl) dX1_settle_111 ?_
      refine zx_aload_n dX1_settle_114 rfl rfl ?_
      refine zx_getR zf_X1_13 (by assumption) (show _ = zR μ f 1 from by first | rfl | (rw [zR_u_feel]; rfl)) rfl dX1_settle_115 ?_
      refine zx_ifnull (tgt := 132) dX1_settle_118 (by decide) (fun c_118 => ?_) (fun r_118 c_118 => ?_)
      · skip
        exact zx_return rfl rfl (by (refine Eq.trans (b := u_felt (u_felt (u_settle2 μ f h w) f (some r_100)) f none) (by show u_settle μ f h w = _; unfold u_settle; rw [if_neg (show ¬ s_exists (u_settle0 μ f) f = 0 from c_9), c_100, c_118]) rfl)) dX1_settle_132
      · skip
        have hO_118 : zO g 0 r_118 := hW 1 _ _ _ (by assumption) c_118
        refine zx_aload_n dX1_settle_121 rfl rfl ?_
        refine zx_getR zf_X1_13 (by assumption) (show _ = some r_118 from by first | exact c_118 | (rw [zR_u_feel]; exact c_118)) rfl dX1_settle_122 ?_
        refine zx_aload_n dX1_settle_125 rfl rfl ?_
        refine zx_getD zf_X1_39 (by assumption) rfl dX1_settle_126 ?_
        refine zx_callV0 _ zv_X1_77 (m_X0_feel (by assumption)) (by assumption) (by decide) rfl rfl rfl ⟨rfl, rfl, (Nat.le_of_ble_eq_true rfl), (Nat.le_of_ble_eq_true rfl)⟩ (Nat.le_of_ble_eq_true rfl) dX1_settle_129 ?_
        exact zx_return rfl rfl (by (refine Eq.trans (b := u_felt (u_felt (u_settle2 μ f h w) f (some r_100)) f (some r_118)) (by show u_settle μ f h w = _; unfold u_settle; rw [if_neg (show ¬ s_exists (u_settle0 μ f) f = 0 from c_9), c_100, c_118]) rfl)) dX1_settle_132
  · skip
    exact zx_return rfl rfl (by (show u_settle μ f h w = _; unfold u_settle; rw [if_pos (show s_exists (u_settle0 μ f) f = 0 from c_9)]; rfl)) dX1_settle_12

def s_from (μ : ZMem) (f : Nat) : Option Nat := if zL μ f 5 < 0 then zR μ f 1 else zR μ f 0
def s_to (μ : ZMem) (f : Nat) : Option Nat := if zL μ f 5 < 0 then zR μ f 0 else zR μ f 1
def s_abs (n : Int64) : Int64 := if n < 0 then -n else n
def u_carry (μ : ZMem) (f : Nat) : ZMem := if zL μ f 5 = 0 then μ else
  (fun μ2 : ZMem => match zR μ f 2 with
    | none => μ2
    | some s => zsL μ2 s 4 (zL μ2 s 4 + (match s_from μ f with
      | none => s_abs (zL μ f 5)
      | some _ => -s_abs (zL μ f 5))))
  ((fun μ1 : ZMem => match s_from μ f with
    | none => μ1
    | some a => u_lose μ1 a (s_abs (zL μ f 5)))
  (match s_to μ f with
    | none => μ
    | some t => u_gain μ t (s_abs (zL μ f 5)) (match s_from μ f with
      | none => k8
      | some a => zD μ a 3) (match s_from μ f with
      | none => k34
      | some a => zD μ a 4)))
set_option maxHeartbeats 4000000 in
set_option maxRecDepth 100000 in
theorem m_X1_carry {g : ZG} {μ : ZMem} {f : Nat} (hO : zO g 1 f) (hW : zWf g μ) : zCab g RX1 yX1_carry cX1_carry 5 (none) (zrm 1) [zr (some f)] μ none (u_carry μ f) := by
  refine zCab_w (by decide +kernel) rfl (Nat.le_of_ble_eq_true rfl) ?_
  refine zx_aload_n dX1_carry_0 rfl rfl ?_
  refine zx_getL zf_X1_43 (by assumption) rfl dX1_carry_1 ?_
  refine zx_lconst 0 dX1_carry_4 (by decide) ?_
  refine zx_lc_ne (tgt := 10) dX1_carry_5 dX1_carry_6 (by decide) (fun c_5 => ?_) (fun c_5 => ?_)
  · skip
    refine zx_aload_n dX1_carry_10 rfl rfl ?_
    refine zx_getL zf_X1_43 (by assumption) rfl dX1_carry_11 ?_
    refine zx_lconst 0 dX1_carry_14 (by decide) ?_
    refine zx_lc_ge (tgt := 26) dX1_carry_15 dX1_carry_16 (by decide) (fun c_15 => ?_) (fun c_15 => ?_)
    · skip
      refine zx_aload_n dX1_carry_26 rfl rfl ?_
      refine zx_getR zf_X1_7 (by assumption) (by first | assumption | rfl) rfl dX1_carry_27 ?_
      refine zx_astore_n dX1_carry_30 rfl (Nat.le_of_ble_eq_true rfl) ?_
      refine zx_aload_n dX1_carry_31 rfl rfl ?_
      refine zx_getL zf_X1_43 (by assumption) rfl dX1_carry_32 ?_
      refine zx_lconst 0 dX1_carry_35 (by decide) ?_
      refine zx_lc_ge (tgt := 47) dX1_carry_36 dX1_carry_37 (by decide) (fun _ => ?_) (fun k_36 => by first | exact absurd k_36 c_15 | exact absurd c_15 k_36 | (rw [c_15] at k_36; cases k_36) | simp_all)
      refine zx_aload_n dX1_carry_47 rfl rfl ?_
      refine zx_getR zf_X1_13 (by assumption) (by first | assumption | rfl) rfl dX1_carry_48 ?_
      refine zx_astore_n dX1_carry_51 rfl (Nat.le_of_ble_eq_true rfl) ?_
      refine zx_aload_n dX1_carry_52 rfl rfl ?_
      refine zx_getL zf_X1_43 (by assumption) rfl dX1_carry_53 ?_
      refine zx_lconst 0 dX1_carry_56 (by decide) ?_
      refine zx_lc_ge (tgt := 69) dX1_carry_57 dX1_carry_58 (by decide) (fun _ => ?_) (fun k_57 => by first | exact absurd k_57 c_15 | exact absurd c_15 k_57 | (rw [c_15] at k_57; cases k_57) | simp_all)
      refine zx_aload_n dX1_carry_69 rfl rfl ?_
      refine zx_getL zf_X1_43 (by assumption) rfl dX1_carry_70 ?_
      refine zx_lstore_n dX1_carry_73 rfl (Nat.le_of_ble_eq_true rfl) ?_
      refine zx_aload_n dX1_carry_74 rfl rfl ?_
      refine zx_ifnull (tgt := 111) dX1_carry_75 (by decide) (fun c_75 => ?_) (fun r_75 c_75 => ?_)
      · skip
        rw [c_75]
        refine zx_aload_n dX1_carry_111 rfl rfl ?_
        refine zx_ifnull (tgt := 120) dX1_carry_112 (by decide) (fun c_112 => ?_) (fun r_112 c_112 => ?_)
        · skip
          rw [c_112]
          refine zx_aload_n dX1_carry_120 rfl rfl ?_
          refine zx_getR zf_X1_16 (by assumption) (show _ = zR μ f 2 from by first | rfl | (simp only [zR_u_gain, zR_u_lose])) rfl dX1_carry_121 ?_
          refine zx_ifnull (tgt := 152) dX1_carry_124 (by decide) (fun c_124 => ?_) (fun r_124 c_124 => ?_)
          · skip
            exact zx_return rfl rfl (by first | rfl | (simp only [zKm, u_carry, s_from, s_to, s_abs, c_5, c_15, c_75, c_112, c_124, if_true, if_false, reduceIte]; done) | (simp only [zKm, u_carry, s_from, s_to, s_abs, c_5, c_15, c_75, c_112, c_124, if_true, if_false, reduceIte]; rfl) | simp [zKm, u_carry, s_from, s_to, s_abs, c_5, c_15, c_75, c_112, c_124]) dX1_carry_152
          · skip
            have hO_124 : zO g 3 r_124 := hW 1 _ _ _ hO c_124
            refine zx_aload_n dX1_carry_127 rfl rfl ?_
            refine zx_getR zf_X1_16 (by assumption) (show _ = some r_124 from by first | exact c_124 | (simp only [zR_u_gain, zR_u_lose]; exact c_124)) rfl dX1_carry_128 ?_
            refine zx_aload_n dX1_carry_131 rfl rfl ?_
            refine zx_getR zf_X1_16 (by assumption) (show _ = some r_124 from by first | exact c_124 | (simp only [zR_u_gain, zR_u_lose]; exact c_124)) rfl dX1_carry_132 ?_
            refine zx_getL zf_X1_99 (by assumption) rfl dX1_carry_135 ?_
            refine zx_aload_n dX1_carry_138 rfl rfl ?_
            refine zx_ifnonnull (tgt := 146) dX1_carry_139 (by decide) (fun _ => ?_) (fun _ k_139 => by cases k_139)
            refine zx_lload_n dX1_carry_142 rfl rfl ?_
            refine zx_goto (tgt := 148) dX1_carry_143 (by decide) ?_
            refine zx_ladd dX1_carry_148 ?_
            refine zx_putL zf_X1_99 (by assumption) rfl dX1_carry_149 ?_
            exact zx_return rfl rfl (by first | rfl | (simp only [zKm, u_carry, s_from, s_to, s_abs, c_5, c_15, c_75, c_112, c_124, if_true, if_false, reduceIte]; done) | (simp only [zKm, u_carry, s_from, s_to, s_abs, c_5, c_15, c_75, c_112, c_124, if_true, if_false, reduceIte]; rfl) | simp [zKm, u_carry, s_from, s_to, s_abs, c_5, c_15, c_75, c_112, c_124]) dX1_carry_152
        · skip
          have hO_112 : zO g 0 r_112 := hW 1 _ _ _ (by assumption) c_112
          rw [c_112]
          refine zx_aload_n dX1_carry_115 rfl rfl ?_
          refine zx_lload_n dX1_carry_116 rfl rfl ?_
          refine zx_callV0 _ zv_X1_95 (m_X0_lose (by assumption)) (by assumption) (by decide) rfl rfl rfl ⟨rfl, rfl, (Nat.le_of_ble_eq_true rfl), (Nat.le_of_ble_eq_true rfl)⟩ (Nat.le_of_ble_eq_true rfl) dX1_carry_117 ?_
          refine zx_aload_n dX1_carry_120 rfl rfl ?_
          refine zx_getR zf_X1_16 (by assumption) (show _ = zR μ f 2 from by first | rfl | (simp only [zR_u_gain, zR_u_lose])) rfl dX1_carry_121 ?_
          refine zx_ifnull (tgt := 152) dX1_carry_124 (by decide) (fun c_124 => ?_) (fun r_124 c_124 => ?_)
          · skip
            exact zx_return rfl rfl (by first | rfl | (simp only [zKm, u_carry, s_from, s_to, s_abs, c_5, c_15, c_75, c_112, c_124, if_true, if_false, reduceIte]; done) | (simp only [zKm, u_carry, s_from, s_to, s_abs, c_5, c_15, c_75, c_112, c_124, if_true, if_false, reduceIte]; rfl) | simp [zKm, u_carry, s_from, s_to, s_abs, c_5, c_15, c_75, c_112, c_124]) dX1_carry_152
          · skip
            have hO_124 : zO g 3 r_124 := hW 1 _ _ _ hO c_124
            refine zx_aload_n dX1_carry_127 rfl rfl ?_
            refine zx_getR zf_X1_16 (by assumption) (show _ = some r_124 from by first | exact c_124 | (simp only [zR_u_gain, zR_u_lose]; exact c_124)) rfl dX1_carry_128 ?_
            refine zx_aload_n dX1_carry_131 rfl rfl ?_
            refine zx_getR zf_X1_16 (by assumption) (show _ = some r_124 from by first | exact c_124 | (simp only [zR_u_gain, zR_u_lose]; exact c_124)) rfl dX1_carry_132 ?_
            refine zx_getL zf_X1_99 (by assumption) rfl dX1_carry_135 ?_
            refine zx_aload_n dX1_carry_138 rfl rfl ?_
            refine zx_ifnonnull (tgt := 146) dX1_carry_139 (by decide) (fun k_139 => by cases k_139) (fun r_139 k_139 => ?_)
            cases k_139
            refine zx_lload_n dX1_carry_146 rfl rfl ?_
            refine zx_lneg dX1_carry_147 ?_
            refine zx_ladd dX1_carry_148 ?_
            refine zx_putL zf_X1_99 (by assumption) rfl dX1_carry_149 ?_
            exact zx_return rfl rfl (by first | rfl | (simp only [zKm, u_carry, s_from, s_to, s_abs, c_5, c_15, c_75, c_112, c_124, if_true, if_false, reduceIte]; done) | (simp only [zKm, u_carry, s_from, s_to, s_abs, c_5, c_15, c_75, c_112, c_124, if_true, if_false, reduceIte]; rfl) | simp [zKm, u_carry, s_from, s_to, s_abs, c_5, c_15, c_75, c_112, c_124]) dX1_carry_152
      · skip
        have hO_75 : zO g 0 r_75 := hW 1 _ _ _ (by assumption) c_75
        rw [c_75]
        refine zx_aload_n dX1_carry_78 rfl rfl ?_
        refine zx_lload_n dX1_carry_79 rfl rfl ?_
        refine zx_aload_n dX1_carry_80 rfl rfl ?_
        refine zx_ifnonnull (tgt := 90) dX1_carry_81 (by decide) (fun c_81 => ?_) (fun r_81 c_81 => ?_)
        · skip
          rw [c_81]
          refine zx_ldc2d 4620693217682128896 zk_X1_81 (by decide +kernel) dX1_carry_84 ?_
          refine zx_goto (tgt := 94) dX1_carry_87 (by decide) ?_
          refine zx_aload_n dX1_carry_94 rfl rfl ?_
          refine zx_ifnonnull (tgt := 104) dX1_carry_95 (by decide) (fun _ => ?_) (fun _ k_95 => by cases k_95)
          refine zx_ldc2d 4629981891913580544 zk_X1_86 (by decide +kernel) dX1_carry_98 ?_
          refine zx_goto (tgt := 108) dX1_carry_101 (by decide) ?_
          refine zx_callV0 _ zv_X1_91 (m_X0_gain (by assumption)) (by assumption) (by decide) rfl rfl rfl ⟨rfl, rfl, (Nat.le_of_ble_eq_true rfl), (Nat.le_of_ble_eq_true rfl)⟩ (Nat.le_of_ble_eq_true rfl) dX1_carry_108 ?_
          refine zx_aload_n dX1_carry_111 rfl rfl ?_
          refine zx_ifnull (tgt := 120) dX1_carry_112 (by decide) (fun _ => ?_) (fun _ k_112 => by cases k_112)
          refine zx_aload_n dX1_carry_120 rfl rfl ?_
          refine zx_getR zf_X1_16 (by assumption) (show _ = zR μ f 2 from by first | rfl | (simp only [zR_u_gain, zR_u_lose])) rfl dX1_carry_121 ?_
          refine zx_ifnull (tgt := 152) dX1_carry_124 (by decide) (fun c_124 => ?_) (fun r_124 c_124 => ?_)
          · skip
            exact zx_return rfl rfl (by first | rfl | (simp only [zKm, u_carry, s_from, s_to, s_abs, c_5, c_15, c_75, c_81, c_124, if_true, if_false, reduceIte]; done) | (simp only [zKm, u_carry, s_from, s_to, s_abs, c_5, c_15, c_75, c_81, c_124, if_true, if_false, reduceIte]; rfl) | simp [zKm, u_carry, s_from, s_to, s_abs, c_5, c_15, c_75, c_81, c_124]) dX1_carry_152
          · skip
            have hO_124 : zO g 3 r_124 := hW 1 _ _ _ hO c_124
            refine zx_aload_n dX1_carry_127 rfl rfl ?_
            refine zx_getR zf_X1_16 (by assumption) (show _ = some r_124 from by first | exact c_124 | (simp only [zR_u_gain, zR_u_lose]; exact c_124)) rfl dX1_carry_128 ?_
            refine zx_aload_n dX1_carry_131 rfl rfl ?_
            refine zx_getR zf_X1_16 (by assumption) (show _ = some r_124 from by first | exact c_124 | (simp only [zR_u_gain, zR_u_lose]; exact c_124)) rfl dX1_carry_132 ?_
            refine zx_getL zf_X1_99 (by assumption) rfl dX1_carry_135 ?_
            refine zx_aload_n dX1_carry_138 rfl rfl ?_
            refine zx_ifnonnull (tgt := 146) dX1_carry_139 (by decide) (fun _ => ?_) (fun _ k_139 => by cases k_139)
            refine zx_lload_n dX1_carry_142 rfl rfl ?_
            refine zx_goto (tgt := 148) dX1_carry_143 (by decide) ?_
            refine zx_ladd dX1_carry_148 ?_
            refine zx_putL zf_X1_99 (by assumption) rfl dX1_carry_149 ?_
            exact zx_return rfl rfl (by first | rfl | (simp only [zKm, u_carry, s_from, s_to, s_abs, c_5, c_15, c_75, c_81, c_124, if_true, if_false, reduceIte]; done) | (simp only [zKm, u_carry, s_from, s_to, s_abs, c_5, c_15, c_75, c_81, c_124, if_true, if_false, reduceIte]; rfl) | simp [zKm, u_carry, s_from, s_to, s_abs, c_5, c_15, c_75, c_81, c_124]) dX1_carry_152
        · skip
          have hO_81 : zO g 0 r_81 := hW 1 _ _ _ (by assumption) c_81
          rw [c_81]
          refine zx_aload_n dX1_carry_90 rfl rfl ?_
          refine zx_getD zf_X1_83 (by assumption) rfl dX1_carry_91 ?_
          refine zx_aload_n dX1_carry_94 rfl rfl ?_
          refine zx_ifnonnull (tgt := 104) dX1_carry_95 (by decide) (fun k_95 => by cases k_95) (fun r_95 k_95 => ?_)
          cases k_95
          refine zx_aload_n dX1_carry_104 rfl rfl ?_
          refine zx_getD zf_X1_88 (by assumption) rfl dX1_carry_105 ?_
          refine zx_callV0 _ zv_X1_91 (m_X0_gain (by assumption)) (by assumption) (by decide) rfl rfl rfl ⟨rfl, rfl, (Nat.le_of_ble_eq_true rfl), (Nat.le_of_ble_eq_true rfl)⟩ (Nat.le_of_ble_eq_true rfl) dX1_carry_108 ?_
          refine zx_aload_n dX1_carry_111 rfl rfl ?_
          refine zx_ifnull (tgt := 120) dX1_carry_112 (by decide) (fun k_112 => by cases k_112) (fun r_112 k_112 => ?_)
          cases k_112
          refine zx_aload_n dX1_carry_115 rfl rfl ?_
          refine zx_lload_n dX1_carry_116 rfl rfl ?_
          refine zx_callV0 _ zv_X1_95 (m_X0_lose (by assumption)) (by assumption) (by decide) rfl rfl rfl ⟨rfl, rfl, (Nat.le_of_ble_eq_true rfl), (Nat.le_of_ble_eq_true rfl)⟩ (Nat.le_of_ble_eq_true rfl) dX1_carry_117 ?_
          refine zx_aload_n dX1_carry_120 rfl rfl ?_
          refine zx_getR zf_X1_16 (by assumption) (show _ = zR μ f 2 from by first | rfl | (simp only [zR_u_gain, zR_u_lose])) rfl dX1_carry_121 ?_
          refine zx_ifnull (tgt := 152) dX1_carry_124 (by decide) (fun c_124 => ?_) (fun r_124 c_124 => ?_)
          · skip
            exact zx_return rfl rfl (by first | rfl | (simp only [zKm, u_carry, s_from, s_to, s_abs, c_5, c_15, c_75, c_81, c_124, if_true, if_false, reduceIte]; done) | (simp only [zKm, u_carry, s_from, s_to, s_abs, c_5, c_15, c_75, c_81, c_124, if_true, if_false, reduceIte]; rfl) | simp [zKm, u_carry, s_from, s_to, s_abs, c_5, c_15, c_75, c_81, c_124]) dX1_carry_152
          · skip
            have hO_124 : zO g 3 r_124 := hW 1 _ _ _ hO c_124
            refine zx_aload_n dX1_carry_127 rfl rfl ?_
            refine zx_getR zf_X1_16 (by assumption) (show _ = some r_124 from by first | exact c_124 | (simp only [zR_u_gain, zR_u_lose]; exact c_124)) rfl dX1_carry_128 ?_
            refine zx_aload_n dX1_carry_131 rfl rfl ?_
            refine zx_getR zf_X1_16 (by assumption) (show _ = some r_124 from by first | exact c_124 | (simp only [zR_u_gain, zR_u_lose]; exact c_124)) rfl dX1_carry_132 ?_
            refine zx_getL zf_X1_99 (by assumption) rfl dX1_carry_135 ?_
            refine zx_aload_n dX1_carry_138 rfl rfl ?_
            refine zx_ifnonnull (tgt := 146) dX1_carry_139 (by decide) (fun k_139 => by cases k_139) (fun r_139 k_139 => ?_)
            cases k_139
            refine zx_lload_n dX1_carry_146 rfl rfl ?_
            refine zx_lneg dX1_carry_147 ?_
            refine zx_ladd dX1_carry_148 ?_
            refine zx_putL zf_X1_99 (by assumption) rfl dX1_carry_149 ?_
            exact zx_return rfl rfl (by first | rfl | (simp only [zKm, u_carry, s_from, s_to, s_abs, c_5, c_15, c_75, c_81, c_124, if_true, if_false, reduceIte]; done) | (simp only [zKm, u_carry, s_from, s_to, s_abs, c_5, c_15, c_75, c_81, c_124, if_true, if_false, reduceIte]; rfl) | simp [zKm, u_carry, s_from, s_to, s_abs, c_5, c_15, c_75, c_81, c_124]) dX1_carry_152
    · skip
      refine zx_aload_n dX1_carry_19 rfl rfl ?_
      refine zx_getR zf_X1_13 (by assumption) (by first | assumption | rfl) rfl dX1_carry_20 ?_
      refine zx_goto (tgt := 30) dX1_carry_23 (by decide) ?_
      refine zx_astore_n dX1_carry_30 rfl (Nat.le_of_ble_eq_true rfl) ?_
      refine zx_aload_n dX1_carry_31 rfl rfl ?_
      refine zx_getL zf_X1_43 (by assumption) rfl dX1_carry_32 ?_
      refine zx_lconst 0 dX1_carry_35 (by decide) ?_
      refine zx_lc_ge (tgt := 47) dX1_carry_36 dX1_carry_37 (by decide) (fun k_36 => by first | exact absurd k_36 c_15 | exact absurd c_15 k_36 | (rw [c_15] at k_36; cases k_36) | simp_all) (fun _ => ?_)
      refine zx_aload_n dX1_carry_40 rfl rfl ?_
      refine zx_getR zf_X1_7 (by assumption) (by first | assumption | rfl) rfl dX1_carry_41 ?_
      refine zx_goto (tgt := 51) dX1_carry_44 (by decide) ?_
      refine zx_astore_n dX1_carry_51 rfl (Nat.le_of_ble_eq_true rfl) ?_
      refine zx_aload_n dX1_carry_52 rfl rfl ?_
      refine zx_getL zf_X1_43 (by assumption) rfl dX1_carry_53 ?_
      refine zx_lconst 0 dX1_carry_56 (by decide) ?_
      refine zx_lc_ge (tgt := 69) dX1_carry_57 dX1_carry_58 (by decide) (fun k_57 => by first | exact absurd k_57 c_15 | exact absurd c_15 k_57 | (rw [c_15] at k_57; cases k_57) | simp_all) (fun _ => ?_)
      refine zx_aload_n dX1_carry_61 rfl rfl ?_
      refine zx_getL zf_X1_43 (by assumption) rfl dX1_carry_62 ?_
      refine zx_lneg dX1_carry_65 ?_
      refine zx_goto (tgt := 73) dX1_carry_66 (by decide) ?_
      refine zx_lstore_n dX1_carry_73 rfl (Nat.le_of_ble_eq_true rfl) ?_
      refine zx_aload_n dX1_carry_74 rfl rfl ?_
      refine zx_ifnull (tgt := 111) dX1_carry_75 (by decide) (fun c_75 => ?_) (fun r_75 c_75 => ?_)
      · skip
        rw [c_75]
        refine zx_aload_n dX1_carry_111 rfl rfl ?_
        refine zx_ifnull (tgt := 120) dX1_carry_112 (by decide) (fun c_112 => ?_) (fun r_112 c_112 => ?_)
        · skip
          rw [c_112]
          refine zx_aload_n dX1_carry_120 rfl rfl ?_
          refine zx_getR zf_X1_16 (by assumption) (show _ = zR μ f 2 from by first | rfl | (simp only [zR_u_gain, zR_u_lose])) rfl dX1_carry_121 ?_
          refine zx_ifnull (tgt := 152) dX1_carry_124 (by decide) (fun c_124 => ?_) (fun r_124 c_124 => ?_)
          · skip
            exact zx_return rfl rfl (by first | rfl | (simp only [zKm, u_carry, s_from, s_to, s_abs, c_5, c_15, c_75, c_112, c_124, if_true, if_false, reduceIte]; done) | (simp only [zKm, u_carry, s_from, s_to, s_abs, c_5, c_15, c_75, c_112, c_124, if_true, if_false, reduceIte]; rfl) | simp [zKm, u_carry, s_from, s_to, s_abs, c_5, c_15, c_75, c_112, c_124]) dX1_carry_152
          · skip
            have hO_124 : zO g 3 r_124 := hW 1 _ _ _ hO c_124
            refine zx_aload_n dX1_carry_127 rfl rfl ?_
            refine zx_getR zf_X1_16 (by assumption) (show _ = some r_124 from by first | exact c_124 | (simp only [zR_u_gain, zR_u_lose]; exact c_124)) rfl dX1_carry_128 ?_
            refine zx_aload_n dX1_carry_131 rfl rfl ?_
            refine zx_getR zf_X1_16 (by assumption) (show _ = some r_124 from by first | exact c_124 | (simp only [zR_u_gain, zR_u_lose]; exact c_124)) rfl dX1_carry_132 ?_
            refine zx_getL zf_X1_99 (by assumption) rfl dX1_carry_135 ?_
            refine zx_aload_n dX1_carry_138 rfl rfl ?_
            refine zx_ifnonnull (tgt := 146) dX1_carry_139 (by decide) (fun _ => ?_) (fun _ k_139 => by cases k_139)
            refine zx_lload_n dX1_carry_142 rfl rfl ?_
            refine zx_goto (tgt := 148) dX1_carry_143 (by decide) ?_
            refine zx_ladd dX1_carry_148 ?_
            refine zx_putL zf_X1_99 (by assumption) rfl dX1_carry_149 ?_
            exact zx_return rfl rfl (by first | rfl | (simp only [zKm, u_carry, s_from, s_to, s_abs, c_5, c_15, c_75, c_112, c_124, if_true, if_false, reduceIte]; done) | (simp only [zKm, u_carry, s_from, s_to, s_abs, c_5, c_15, c_75, c_112, c_124, if_true, if_false, reduceIte]; rfl) | simp [zKm, u_carry, s_from, s_to, s_abs, c_5, c_15, c_75, c_112, c_124]) dX1_carry_152
        · skip
          have hO_112 : zO g 0 r_112 := hW 1 _ _ _ (by assumption) c_112
          rw [c_112]
          refine zx_aload_n dX1_carry_115 rfl rfl ?_
          refine zx_lload_n dX1_carry_116 rfl rfl ?_
          refine zx_callV0 _ zv_X1_95 (m_X0_lose (by assumption)) (by assumption) (by decide) rfl rfl rfl ⟨rfl, rfl, (Nat.le_of_ble_eq_true rfl), (Nat.le_of_ble_eq_true rfl)⟩ (Nat.le_of_ble_eq_true rfl) dX1_carry_117 ?_
          refine zx_aload_n dX1_carry_120 rfl rfl ?_
          refine zx_getR zf_X1_16 (by assumption) (show _ = zR μ f 2 from by first | rfl | (simp only [zR_u_gain, zR_u_lose])) rfl dX1_carry_121 ?_
          refine zx_ifnull (tgt := 152) dX1_carry_124 (by decide) (fun c_124 => ?_) (fun r_124 c_124 => ?_)
          · skip
            exact zx_return rfl rfl (by first | rfl | (simp only [zKm, u_carry, s_from, s_to, s_abs, c_5, c_15, c_75, c_112, c_124, if_true, if_false, reduceIte]; done) | (simp only [zKm, u_carry, s_from, s_to, s_abs, c_5, c_15, c_75, c_112, c_124, if_true, if_false, reduceIte]; rfl) | simp [zKm, u_carry, s_from, s_to, s_abs, c_5, c_15, c_75, c_112, c_124]) dX1_carry_152
          · skip
            have hO_124 : zO g 3 r_124 := hW 1 _ _ _ hO c_124
            refine zx_aload_n dX1_carry_127 rfl rfl ?_
            refine zx_getR zf_X1_16 (by assumption) (show _ = some r_124 from by first | exact c_124 | (simp only [zR_u_gain, zR_u_lose]; exact c_124)) rfl dX1_carry_128 ?_
            refine zx_aload_n dX1_carry_131 rfl rfl ?_
            refine zx_getR zf_X1_16 (by assumption) (show _ = some r_124 from by first | exact c_124 | (simp only [zR_u_gain, zR_u_lose]; exact c_124)) rfl dX1_carry_132 ?_
            refine zx_getL zf_X1_99 (by assumption) rfl dX1_carry_135 ?_
            refine zx_aload_n dX1_carry_138 rfl rfl ?_
            refine zx_ifnonnull (tgt := 146) dX1_carry_139 (by decide) (fun k_139 => by cases k_139) (fun r_139 k_139 => ?_)
            cases k_139
            refine zx_lload_n dX1_carry_146 rfl rfl ?_
            refine zx_lneg dX1_carry_147 ?_
            refine zx_ladd dX1_carry_148 ?_
            refine zx_putL zf_X1_99 (by assumption) rfl dX1_carry_149 ?_
            exact zx_return rfl rfl (by first | rfl | (simp only [zKm, u_carry, s_from, s_to, s_abs, c_5, c_15, c_75, c_112, c_124, if_true, if_false, reduceIte]; done) | (simp only [zKm, u_carry, s_from, s_to, s_abs, c_5, c_15, c_75, c_112, c_124, if_true, if_false, reduceIte]; rfl) | simp [zKm, u_carry, s_from, s_to, s_abs, c_5, c_15, c_75, c_112, c_124]) dX1_carry_152
      · skip
        have hO_75 : zO g 0 r_75 := hW 1 _ _ _ (by assumption) c_75
        rw [c_75]
        refine zx_aload_n dX1_carry_78 rfl rfl ?_
        refine zx_lload_n dX1_carry_79 rfl rfl ?_
        refine zx_aload_n dX1_carry_80 rfl rfl ?_
        refine zx_ifnonnull (tgt := 90) dX1_carry_81 (by decide) (fun c_81 => ?_) (fun r_81 c_81 => ?_)
        · skip
          rw [c_81]
          refine zx_ldc2d 4620693217682128896 zk_X1_81 (by decide +kernel) dX1_carry_84 ?_
          refine zx_goto (tgt := 94) dX1_carry_87 (by decide) ?_
          refine zx_aload_n dX1_carry_94 rfl rfl ?_
          refine zx_ifnonnull (tgt := 104) dX1_carry_95 (by decide) (fun _ => ?_) (fun _ k_95 => by cases k_95)
          refine zx_ldc2d 4629981891913580544 zk_X1_86 (by decide +kernel) dX1_carry_98 ?_
          refine zx_goto (tgt := 108) dX1_carry_101 (by decide) ?_
          refine zx_callV0 _ zv_X1_91 (m_X0_gain (by assumption)) (by assumption) (by decide) rfl rfl rfl ⟨rfl, rfl, (Nat.le_of_ble_eq_true rfl), (Nat.le_of_ble_eq_true rfl)⟩ (Nat.le_of_ble_eq_true rfl) dX1_carry_108 ?_
          refine zx_aload_n dX1_carry_111 rfl rfl ?_
          refine zx_ifnull (tgt := 120) dX1_carry_112 (by decide) (fun _ => ?_) (fun _ k_112 => by cases k_112)
          refine zx_aload_n dX1_carry_120 rfl rfl ?_
          refine zx_getR zf_X1_16 (by assumption) (show _ = zR μ f 2 from by first | rfl | (simp only [zR_u_gain, zR_u_lose])) rfl dX1_carry_121 ?_
          refine zx_ifnull (tgt := 152) dX1_carry_124 (by decide) (fun c_124 => ?_) (fun r_124 c_124 => ?_)
          · skip
            exact zx_return rfl rfl (by first | rfl | (simp only [zKm, u_carry, s_from, s_to, s_abs, c_5, c_15, c_75, c_81, c_124, if_true, if_false, reduceIte]; done) | (simp only [zKm, u_carry, s_from, s_to, s_abs, c_5, c_15, c_75, c_81, c_124, if_true, if_false, reduceIte]; rfl) | simp [zKm, u_carry, s_from, s_to, s_abs, c_5, c_15, c_75, c_81, c_124]) dX1_carry_152
          · skip
            have hO_124 : zO g 3 r_124 := hW 1 _ _ _ hO c_124
            refine zx_aload_n dX1_carry_127 rfl rfl ?_
            refine zx_getR zf_X1_16 (by assumption) (show _ = some r_124 from by first | exact c_124 | (simp only [zR_u_gain, zR_u_lose]; exact c_124)) rfl dX1_carry_128 ?_
            refine zx_aload_n dX1_carry_131 rfl rfl ?_
            refine zx_getR zf_X1_16 (by assumption) (show _ = some r_124 from by first | exact c_124 | (simp only [zR_u_gain, zR_u_lose]; exact c_124)) rfl dX1_carry_132 ?_
            refine zx_getL zf_X1_99 (by assumption) rfl dX1_carry_135 ?_
            refine zx_aload_n dX1_carry_138 rfl rfl ?_
            refine zx_ifnonnull (tgt := 146) dX1_carry_139 (by decide) (fun _ => ?_) (fun _ k_139 => by cases k_139)
            refine zx_lload_n dX1_carry_142 rfl rfl ?_
            refine zx_goto (tgt := 148) dX1_carry_143 (by decide) ?_
            refine zx_ladd dX1_carry_148 ?_
            refine zx_putL zf_X1_99 (by assumption) rfl dX1_carry_149 ?_
            exact zx_return rfl rfl (by first | rfl | (simp only [zKm, u_carry, s_from, s_to, s_abs, c_5, c_15, c_75, c_81, c_124, if_true, if_false, reduceIte]; done) | (simp only [zKm, u_carry, s_from, s_to, s_abs, c_5, c_15, c_75, c_81, c_124, if_true, if_false, reduceIte]; rfl) | simp [zKm, u_carry, s_from, s_to, s_abs, c_5, c_15, c_75, c_81, c_124]) dX1_carry_152
        · skip
          have hO_81 : zO g 0 r_81 := hW 1 _ _ _ (by assumption) c_81
          rw [c_81]
          refine zx_aload_n dX1_carry_90 rfl rfl ?_
          refine zx_getD zf_X1_83 (by assumption) rfl dX1_carry_91 ?_
          refine zx_aload_n dX1_carry_94 rfl rfl ?_
          refine zx_ifnonnull (tgt := 104) dX1_carry_95 (by decide) (fun k_95 => by cases k_95) (fun r_95 k_95 => ?_)
          cases k_95
          refine zx_aload_n dX1_carry_104 rfl rfl ?_
          refine zx_getD zf_X1_88 (by assumption) rfl dX1_carry_105 ?_
          refine zx_callV0 _ zv_X1_91 (m_X0_gain (by assumption)) (by assumption) (by decide) rfl rfl rfl ⟨rfl, rfl, (Nat.le_of_ble_eq_true rfl), (Nat.le_of_ble_eq_true rfl)⟩ (Nat.le_of_ble_eq_true rfl) dX1_carry_108 ?_
          refine zx_aload_n dX1_carry_111 rfl rfl ?_
          refine zx_ifnull (tgt := 120) dX1_carry_112 (by decide) (fun k_112 => by cases k_112) (fun r_112 k_112 => ?_)
          cases k_112
          refine zx_aload_n dX1_carry_115 rfl rfl ?_
          refine zx_lload_n dX1_carry_116 rfl rfl ?_
          refine zx_callV0 _ zv_X1_95 (m_X0_lose (by assumption)) (by assumption) (by decide) rfl rfl rfl ⟨rfl, rfl, (Nat.le_of_ble_eq_true rfl), (Nat.le_of_ble_eq_true rfl)⟩ (Nat.le_of_ble_eq_true rfl) dX1_carry_117 ?_
          refine zx_aload_n dX1_carry_120 rfl rfl ?_
          refine zx_getR zf_X1_16 (by assumption) (show _ = zR μ f 2 from by first | rfl | (simp only [zR_u_gain, zR_u_lose])) rfl dX1_carry_121 ?_
          refine zx_ifnull (tgt := 152) dX1_carry_124 (by decide) (fun c_124 => ?_) (fun r_124 c_124 => ?_)
          · skip
            exact zx_return rfl rfl (by first | rfl | (simp only [zKm, u_carry, s_from, s_to, s_abs, c_5, c_15, c_75, c_81, c_124, if_true, if_false, reduceIte]; done) | (simp only [zKm, u_carry, s_from, s_to, s_abs, c_5, c_15, c_75, c_81, c_124, if_true, if_false, reduceIte]; rfl) | simp [zKm, u_carry, s_from, s_to, s_abs, c_5, c_15, c_75, c_81, c_124]) dX1_carry_152
          · skip
            have hO_124 : zO g 3 r_124 := hW 1 _ _ _ hO c_124
            refine zx_aload_n dX1_carry_127 rfl rfl ?_
            refine zx_getR zf_X1_16 (by assumption) (show _ = some r_124 from by first | exact c_124 | (simp only [zR_u_gain, zR_u_lose]; exact c_124)) rfl dX1_carry_128 ?_
            refine zx_aload_n dX1_carry_131 rfl rfl ?_
            refine zx_getR zf_X1_16 (by assumption) (show _ = some r_124 from by first | exact c_124 | (simp only [zR_u_gain, zR_u_lose]; exact c_124)) rfl dX1_carry_132 ?_
            refine zx_getL zf_X1_99 (by assumption) rfl dX1_carry_135 ?_
            refine zx_aload_n dX1_carry_138 rfl rfl ?_
            refine zx_ifnonnull (tgt := 146) dX1_carry_139 (by decide) (fun k_139 => by cases k_139) (fun r_139 k_139 => ?_)
            cases k_139
            refine zx_lload_n dX1_carry_146 rfl rfl ?_
            refine zx_lneg dX1_carry_147 ?_
            refine zx_ladd dX1_carry_148 ?_
            refine zx_putL zf_X1_99 (by assumption) rfl dX1_carry_149 ?_
            exact zx_return rfl rfl (by first | rfl | (simp only [zKm, u_carry, s_from, s_to, s_abs, c_5, c_15, c_75, c_81, c_124, if_true, if_false, reduceIte]; done) | (simp only [zKm, u_carry, s_from, s_to, s_abs, c_5, c_15, c_75, c_81, c_124, if_true, if_false, reduceIte]; rfl) | simp [zKm, u_carry, s_from, s_to, s_abs, c_5, c_15, c_75, c_81, c_124]) dX1_carry_152
  · skip
    exact zx_return rfl rfl (by first | rfl | (simp only [zKm, u_carry, s_from, s_to, s_abs, c_5, if_true, if_false, reduceIte]; done) | (simp only [zKm, u_carry, s_from, s_to, s_abs, c_5, if_true, if_false, reduceIte]; rfl) | simp [zKm, u_carry, s_from, s_to, s_abs, c_5]) dX1_carry_9
end
section
def u_leave (μ : ZMem) (n : Nat) : ZMem := zsR μ n 1 none
set_option maxHeartbeats 4000000 in
set_option maxRecDepth 100000 in
theorem m_X2_leave {g : ZG} {μ : ZMem} {n : Nat} (hO : zO g 2 n) : zCab g RX2 yX2_leave cX2_leave 1 (none) (zrm 0) [zr (some n)] μ none (u_leave μ n) := by
  refine zCab_w (by decide +kernel) rfl (Nat.le_of_ble_eq_true rfl) ?_
  refine zx_aload_n dX2_leave_0 rfl rfl ?_
  refine zx_null dX2_leave_1 ?_
  refine zx_putR zf_X2_15 (by assumption) rfl dX2_leave_2 ?_
  exact zx_return rfl rfl (by rfl) dX2_leave_5

def s_each (v : Int64) (C : Nat) : Int64 := v / (nI C).toInt64
def s_over (v : Int64) (C : Nat) : Int64 := v - v / (nI C).toInt64 * (nI C).toInt64
def s_one (v : Int64) (C : Nat) : Int64 := if s_over v C < 0 then -1 else 1
def s_inc (v : Int64) (C k : Nat) : Int64 := if (nI k).toInt64 < s_over v C * s_one v C then s_one v C else 0
def u_grow1 (v : Int64) (C sh k : Nat) (μ : ZMem) : ZMem := zsL μ sh k (zL μ sh k + s_each v C + s_inc v C k)
def u_grow (μ : ZMem) (sh : Nat) (v : Int64) (C : Nat) : ZMem := if C < 1 then μ else zit (u_grow1 v C sh) C μ
theorem zI_grow1 (v : Int64) (C sh n : Nat) (μ : ZMem) : zI (zit (u_grow1 v C sh) n μ) = zI μ := zit_keep (f := u_grow1 v C sh) zI (fun _ _ => rfl) n μ
theorem zR_grow1 (v : Int64) (C sh n : Nat) (μ : ZMem) : zR (zit (u_grow1 v C sh) n μ) = zR μ := zit_keep (f := u_grow1 v C sh) zR (fun _ _ => rfl) n μ
theorem zR_u_grow (μ : ZMem) (sh : Nat) (v : Int64) (C : Nat) : zR (u_grow μ sh v C) = zR μ := by
  unfold u_grow
  split
  · rfl
  · exact zR_grow1 _ _ _ _ _
set_option maxHeartbeats 4000000 in
set_option maxRecDepth 100000 in
theorem L_X2_grow {g : ZG} {μ : ZMem} {n sh C : Nat} (hO : zO g 2 n) (hW : zWf g μ) (hs : zR μ n 0 = some sh) (hln : zln g sh = 8) (hc : zI μ n 2 = nI C) (hC : C ≤ 8) {v : Int64} {res : Option ZV} {μ' : ZMem} (hx : zWA g (RX2, cX2_grow, 10, none, zrm 0, res, μ') 105 (zls [(0, zr (some n)), (3, zl (s_each v C)), (5, zl (s_over v C)), (7, zl (s_one v C)), (9, zi (nI (C)))]) [] (zit (u_grow1 v C sh) (C) μ)) : zWA g (RX2, cX2_grow, 10, none, zrm 0, res, μ') 45 (zls [(0, zr (some n)), (3, zl (s_each v C)), (5, zl (s_over v C)), (7, zl (s_one v C)), (9, zi (nI (0)))]) [] (zit (u_grow1 v C sh) (0) μ) := by
  have hsO : zO g 10 sh := hW 2 _ _ _ hO hs
  have hRk : ∀ k, zR (zit (u_grow1 v C sh) k μ) n 0 = some sh := fun k => by rw [zR_grow1]; exact hs
  have hIk : ∀ k, zI (zit (u_grow1 v C sh) k μ) n 2 = nI C := fun k => by rw [zI_grow1]; exact hc
  refine zloop (P := fun k => zWA g (RX2, cX2_grow, 10, none, zrm 0, res, μ') 45 (zls [(0, zr (some n)), (3, zl (s_each v C)), (5, zl (s_over v C)), (7, zl (s_one v C)), (9, zi (nI (k)))]) [] (zit (u_grow1 v C sh) (k) μ)) (N := C) ?_ ?_ 0 (Nat.zero_le _)
  · show zWA _ _ _ _ _ _
    refine zx_iload dX2_grow_45 rfl ?_
    refine zx_aload_n dX2_grow_47 rfl rfl ?_
    refine zx_getI zf_X2_19 (by assumption) (Or.inl rfl) dX2_grow_48 ?_
    rw [hIk]
    refine zx_icmp_ge (tgt := 105) dX2_grow_51 (by decide) (fun _ => ?_) (fun h_ => absurd h_ (by simp))
    exact zWA_to hx ⟨rfl, rfl, rfl, rfl, rfl, trivial⟩
  · intro k hk hn
    show zWA _ _ _ _ _ _
    refine zx_iload dX2_grow_45 rfl ?_
    refine zx_aload_n dX2_grow_47 rfl rfl ?_
    refine zx_getI zf_X2_19 (by assumption) (Or.inl rfl) dX2_grow_48 ?_
    rw [hIk]
    refine zx_icmp_ge (tgt := 105) dX2_grow_51 (by decide) (fun h_ => absurd h_ (nI_ge hk (by omega))) (fun _ => ?_)
    refine zx_iload dX2_grow_54 rfl ?_
    refine zx_aload_n dX2_grow_56 rfl rfl ?_
    refine zx_getR zf_X2_9 (by assumption) (hRk _) rfl dX2_grow_57 ?_
    refine zx_alen (nI 8) (by assumption) (by decide) (by rw [hln]) dX2_grow_60 ?_
    refine zx_icmp_ge (tgt := 105) dX2_grow_61 (by decide) (fun h_ => absurd h_ (nI_ge (show k < 8 by omega) (by decide))) (fun _ => ?_)
    refine zx_aload_n dX2_grow_64 rfl rfl ?_
    refine zx_getR zf_X2_9 (by assumption) (hRk _) rfl dX2_grow_65 ?_
    refine zx_iload dX2_grow_68 rfl ?_
    refine zx_aload_n dX2_grow_70 rfl rfl ?_
    refine zx_getR zf_X2_9 (by assumption) (hRk _) rfl dX2_grow_71 ?_
    refine zx_iload dX2_grow_74 rfl ?_
    refine zx_lald k (by assumption) rfl ⟨by rw [hln]; omega, by rw [hln]; decide⟩ dX2_grow_76 ?_
    refine zx_lload_n dX2_grow_77 rfl rfl ?_
    refine zx_ladd dX2_grow_78 ?_
    refine zx_iload dX2_grow_79 rfl ?_
    refine zx_i2l dX2_grow_81 ?_
    refine zx_lload dX2_grow_82 rfl ?_
    refine zx_lload dX2_grow_84 rfl ?_
    refine zx_lmul dX2_grow_86 ?_
    refine zx_lc_ge (tgt := 96) dX2_grow_87 dX2_grow_88 (by decide) (fun c_87 => ?_) (fun c_87 => ?_)
    · skip
      refine zx_lconst 0 dX2_grow_96 (by decide) ?_
      refine zx_ladd dX2_grow_97 ?_
      refine zx_last k (by assumption) rfl ⟨by rw [hln]; omega, by rw [hln]; decide⟩ dX2_grow_98 ?_
      refine zx_iinc (nI (k + 1)) dX2_grow_99 rfl (by exact nI_1 k) (Nat.le_of_ble_eq_true rfl) ?_
      refine zx_goto (tgt := 45) dX2_grow_102 (by decide) ?_
      exact zWA_to (zWA_mem hn (by show zit (u_grow1 v C sh) (k + 1) μ = _; show u_grow1 v C sh k (zit (u_grow1 v C sh) k μ) = _; unfold u_grow1 s_inc; simp only [c_87, if_true, if_false, reduceIte])) ⟨rfl, rfl, rfl, rfl, rfl, trivial⟩
    · skip
      refine zx_lload dX2_grow_91 rfl ?_
      refine zx_goto (tgt := 97) dX2_grow_93 (by decide) ?_
      refine zx_ladd dX2_grow_97 ?_
      refine zx_last k (by assumption) rfl ⟨by rw [hln]; omega, by rw [hln]; decide⟩ dX2_grow_98 ?_
      refine zx_iinc (nI (k + 1)) dX2_grow_99 rfl (by exact nI_1 k) (Nat.le_of_ble_eq_true rfl) ?_
      refine zx_goto (tgt := 45) dX2_grow_102 (by decide) ?_
      exact zWA_to (zWA_mem hn (by show zit (u_grow1 v C sh) (k + 1) μ = _; show u_grow1 v C sh k (zit (u_grow1 v C sh) k μ) = _; unfold u_grow1 s_inc; simp only [c_87, if_true, if_false, reduceIte])) ⟨rfl, rfl, rfl, rfl, rfl, trivial⟩

theorem zC1 {C : Nat} (h : C ≤ 8) : (1 ≤ nI C ↔ ¬ C < 1) := by
  have h1 : ∀ C : Fin 9, (1 ≤ nI C.val ↔ ¬ C.val < 1) := by decide +kernel
  exact h1 ⟨C, by omega⟩
theorem znz {C : Nat} (h : C ≤ 8) (h1 : ¬ C < 1) : ¬ (nI C).toInt64 = 0 := by
  have h2 : ∀ C : Fin 9, ¬ C.val < 1 → ¬ (nI C.val).toInt64 = 0 := by decide +kernel
  exact h2 ⟨C, by omega⟩ h1
set_option maxHeartbeats 4000000 in
set_option maxRecDepth 100000 in
theorem m_X2_grow {g : ZG} {μ : ZMem} {n sh C : Nat} (hO : zO g 2 n) (hW : zWf g μ) (hs : zR μ n 0 = some sh) (hln : zln g sh = 8) (hc : zI μ n 2 = nI C) (hC : C ≤ 8) {v : Int64} : zCab g RX2 yX2_grow cX2_grow 10 (none) (zrm 0) [zr (some n), zl v] μ none (u_grow μ sh v C) := by
  refine zCab_w (by decide +kernel) rfl (Nat.le_of_ble_eq_true rfl) ?_
  refine zx_aload_n dX2_grow_0 rfl rfl ?_
  refine zx_getI zf_X2_19 (by assumption) (Or.inl rfl) dX2_grow_1 ?_
  refine zx_iconst 1 dX2_grow_4 (by decide) ?_
  rw [hc]
  refine zx_icmp_ge (tgt := 9) dX2_grow_5 (by decide) (fun c_5 => ?_) (fun c_5 => ?_)
  · skip
    refine zx_lload_n dX2_grow_9 rfl rfl ?_
    refine zx_aload_n dX2_grow_10 rfl rfl ?_
    refine zx_getI zf_X2_19 (by assumption) (Or.inl rfl) dX2_grow_11 ?_
    rw [hc]
    refine zx_i2l dX2_grow_14 ?_
    refine zx_ldiv dX2_grow_15 (znz hC ((zC1 hC).mp c_5)) ?_
    refine zx_lstore_n dX2_grow_16 rfl (Nat.le_of_ble_eq_true rfl) ?_
    refine zx_lload_n dX2_grow_17 rfl rfl ?_
    refine zx_aload_n dX2_grow_18 rfl rfl ?_
    refine zx_getI zf_X2_19 (by assumption) (Or.inl rfl) dX2_grow_19 ?_
    rw [hc]
    refine zx_i2l dX2_grow_22 ?_
    refine zx_lrem dX2_grow_23 (znz hC ((zC1 hC).mp c_5)) ?_
    refine zx_lstore dX2_grow_24 (Nat.le_of_ble_eq_true rfl) ?_
    refine zx_lload dX2_grow_26 rfl ?_
    refine zx_lconst 0 dX2_grow_28 (by decide) ?_
    refine zx_lc_ge (tgt := 39) dX2_grow_29 dX2_grow_30 (by decide) (fun c_29 => ?_) (fun c_29 => ?_)
    · skip
      refine zx_lconst 1 dX2_grow_39 (by decide) ?_
      refine zx_lstore dX2_grow_40 (Nat.le_of_ble_eq_true rfl) ?_
      refine zx_iconst 0 dX2_grow_42 (by decide) ?_
      refine zx_istore dX2_grow_43 (Nat.le_of_ble_eq_true rfl) ?_
      exact zWA_to (L_X2_grow (v := v) (C := C) hO hW hs hln hc hC (zWA_mem (by exact zx_return rfl rfl rfl dX2_grow_105) (by show u_grow μ sh v C = _; unfold u_grow; rw [if_neg ((zC1 hC).mp c_5)]))) ⟨rfl, rfl, rfl, by rw [show s_one v C = 1 from if_neg c_29]; rfl, rfl, trivial⟩
    · skip
      refine zx_ldc2l (-1) zk_X2_37 dX2_grow_33 ?_
      refine zx_goto (tgt := 40) dX2_grow_36 (by decide) ?_
      refine zx_lstore dX2_grow_40 (Nat.le_of_ble_eq_true rfl) ?_
      refine zx_iconst 0 dX2_grow_42 (by decide) ?_
      refine zx_istore dX2_grow_43 (Nat.le_of_ble_eq_true rfl) ?_
      exact zWA_to (L_X2_grow (v := v) (C := C) hO hW hs hln hc hC (zWA_mem (by exact zx_return rfl rfl rfl dX2_grow_105) (by show u_grow μ sh v C = _; unfold u_grow; rw [if_neg ((zC1 hC).mp c_5)]))) ⟨rfl, rfl, rfl, by rw [show s_one v C = (-1) from if_pos c_29]; rfl, rfl, trivial⟩
  · skip
    exact zx_return rfl rfl (by show u_grow μ sh v C = _; unfold u_grow; rw [if_pos (Decidable.not_not.mp (fun q => c_5 ((zC1 hC).mpr q)))]) dX2_grow_8

def u_settleIn (μ : ZMem) (n c sh C : Nat) : ZMem := u_grow (zsR (zsI (zsR μ n 1 (some c)) n 2 (nI C)) c 7 (some n)) sh (zL μ c 2) C
theorem zWf_set {g : ZG} {μ : ZMem} {n c : Nat} {v : Int32} (hW : zWf g μ) (hn : zO g 2 n) (hc : zO g 0 c) : zWf g (zsR (zsI (zsR μ n 1 (some c)) n 2 v) c 7 (some n)) := by
  intro kd r k r' hO hr
  have hr : zup (zup μ.2.2.2 n 1 (some c)) c 7 (some n) r k = some r' := hr
  by_cases h1 : r = c ∧ k = 7
  · obtain ⟨rfl, rfl⟩ := h1
    rw [zup_same] at hr
    cases hr
    have e : kd = 0 := hO.2.symm.trans hc.2
    subst e
    exact hn
  · rw [zup_ne _ _ h1] at hr
    by_cases h2 : r = n ∧ k = 1
    · obtain ⟨rfl, rfl⟩ := h2
      rw [zup_same] at hr
      cases hr
      have e : kd = 2 := hO.2.symm.trans hn.2
      subst e
      exact hc
    · rw [zup_ne _ _ h2] at hr
      exact hW kd r k r' hO hr
theorem zWf_none {g : ZG} {μ : ZMem} {n k0 : Nat} (hW : zWf g μ) : zWf g (zsR μ n k0 none) := by
  intro kd r k r' hO hr
  have hr : zup μ.2.2.2 n k0 none r k = some r' := hr
  by_cases h1 : r = n ∧ k = k0
  · obtain ⟨rfl, rfl⟩ := h1
    rw [zup_same] at hr
    cases hr
  · rw [zup_ne _ _ h1] at hr
    exact hW kd r k r' hO hr
set_option maxHeartbeats 4000000 in
set_option maxRecDepth 100000 in
theorem m_X2_settleIn {g : ZG} {μ : ZMem} {n c sh C : Nat} (hO : zO g 2 n) (hc : zO g 0 c) (hW : zWf g μ) (hs : zR μ n 0 = some sh) (hln : zln g sh = 8) (hC : C ≤ 8) : zCab g RX2 yX2_settleIn cX2_settleIn 3 (none) (zrm 1) [zr (some n), zr (some c), zi (nI C)] μ none (u_settleIn μ n c sh C) := by
  refine zCab_w (by decide +kernel) rfl (Nat.le_of_ble_eq_true rfl) ?_
  refine zx_aload_n dX2_settleIn_0 rfl rfl ?_
  refine zx_aload_n dX2_settleIn_1 rfl rfl ?_
  refine zx_putR zf_X2_15 (by assumption) rfl dX2_settleIn_2 ?_
  refine zx_aload_n dX2_settleIn_5 rfl rfl ?_
  refine zx_iload_n dX2_settleIn_6 rfl rfl ?_
  refine zx_putI zf_X2_19 (by assumption) ⟨rfl, rfl⟩ (Or.inl rfl) dX2_settleIn_7 ?_
  refine zx_aload_n dX2_settleIn_10 rfl rfl ?_
  refine zx_aload_n dX2_settleIn_11 rfl rfl ?_
  refine zx_putR zf_X2_23 (by assumption) rfl dX2_settleIn_12 ?_
  refine zx_aload_n dX2_settleIn_15 rfl rfl ?_
  refine zx_aload_n dX2_settleIn_16 rfl rfl ?_
  refine zx_getL zf_X2_29 (by assumption) rfl dX2_settleIn_17 ?_
  refine zx_callV0 _ zv_X2_33 (m_X2_grow (n := n) (sh := sh) (C := C) (μ := zsR (zsI (zsR μ n 1 (some c)) n 2 (nI C)) c 7 (some n)) hO (zWf_set hW hO hc) (by show zup (zup μ.2.2.2 n 1 _) c 7 _ n 0 = _; rw [zup_ne _ _ (fun q => absurd q.2 (by decide)), zup_ne _ _ (fun q => absurd q.2 (by decide))]; exact hs) hln (by show zup μ.1 n 2 _ n 2 = _; rw [zup_same]) hC) (by assumption) (by decide) rfl rfl rfl ⟨rfl, rfl, (Nat.le_of_ble_eq_true rfl), (Nat.le_of_ble_eq_true rfl)⟩ (Nat.le_of_ble_eq_true rfl) dX2_settleIn_20 ?_
  exact zx_return rfl rfl (by rfl) dX2_settleIn_23

def s_sumS (μ : ZMem) (sh : Nat) (C : Nat) : Int64 := zit (fun k s => s + zL μ sh k) C 0
def s_agrees (μ : ZMem) (n sh C : Nat) : Int32 := match zR μ n 1 with
  | none => 0
  | some c => if s_sumS μ sh C = zL μ c 2 then 1 else 0
set_option maxHeartbeats 4000000 in
set_option maxRecDepth 100000 in
theorem L_X2_agrees {g : ZG} {μ : ZMem} {n sh C : Nat} (hO : zO g 2 n) (hW : zWf g μ) (hs : zR μ n 0 = some sh) (hln : zln g sh = 8) (hc : zI μ n 2 = nI C) (hC : C ≤ 8) {res : Option ZV} {μ' : ZMem} (hx : zWA g (RX2, cX2_agrees, 4, ((some FieldType.boolean)), zrm 0, res, μ') 45 (zls [(0, zr (some n)), (1, zl (s_sumS μ sh (C))), (3, zi (nI (C)))]) [] μ) : zWA g (RX2, cX2_agrees, 4, ((some FieldType.boolean)), zrm 0, res, μ') 13 (zls [(0, zr (some n)), (1, zl (s_sumS μ sh (0))), (3, zi (nI (0)))]) [] μ := by
  have hsO : zO g 10 sh := hW 2 _ _ _ hO hs
  refine zloop (P := fun k => zWA g (RX2, cX2_agrees, 4, ((some FieldType.boolean)), zrm 0, res, μ') 13 (zls [(0, zr (some n)), (1, zl (s_sumS μ sh (k))), (3, zi (nI (k)))]) [] μ) (N := C) ?_ ?_ 0 (Nat.zero_le _)
  · show zWA _ _ _ _ _ _
    refine zx_iload_n dX2_agrees_13 rfl rfl ?_
    refine zx_aload_n dX2_agrees_14 rfl rfl ?_
    refine zx_getI zf_X2_19 (by assumption) (Or.inl rfl) dX2_agrees_15 ?_
    rw [hc]
    refine zx_icmp_ge (tgt := 45) dX2_agrees_18 (by decide) (fun _ => ?_) (fun h_ => absurd h_ (by simp))
    exact zWA_to hx ⟨rfl, rfl, rfl, trivial⟩
  · intro k hk hn
    show zWA _ _ _ _ _ _
    refine zx_iload_n dX2_agrees_13 rfl rfl ?_
    refine zx_aload_n dX2_agrees_14 rfl rfl ?_
    refine zx_getI zf_X2_19 (by assumption) (Or.inl rfl) dX2_agrees_15 ?_
    rw [hc]
    refine zx_icmp_ge (tgt := 45) dX2_agrees_18 (by decide) (fun h_ => absurd h_ (nI_ge hk (by omega))) (fun _ => ?_)
    refine zx_iload_n dX2_agrees_21 rfl rfl ?_
    refine zx_aload_n dX2_agrees_22 rfl rfl ?_
    refine zx_getR zf_X2_9 (by assumption) hs rfl dX2_agrees_23 ?_
    refine zx_alen (nI 8) (by assumption) (by decide) (by rw [hln]) dX2_agrees_26 ?_
    refine zx_icmp_ge (tgt := 45) dX2_agrees_27 (by decide) (fun h_ => absurd h_ (nI_ge (show k < 8 by omega) (by decide))) (fun _ => ?_)
    refine zx_lload_n dX2_agrees_30 rfl rfl ?_
    refine zx_aload_n dX2_agrees_31 rfl rfl ?_
    refine zx_getR zf_X2_9 (by assumption) hs rfl dX2_agrees_32 ?_
    refine zx_iload_n dX2_agrees_35 rfl rfl ?_
    refine zx_lald k (by assumption) rfl ⟨by rw [hln]; omega, by rw [hln]; decide⟩ dX2_agrees_36 ?_
    refine zx_ladd dX2_agrees_37 ?_
    refine zx_lstore_n dX2_agrees_38 rfl (Nat.le_of_ble_eq_true rfl) ?_
    refine zx_iinc (nI (k + 1)) dX2_agrees_39 rfl (by exact nI_1 k) (Nat.le_of_ble_eq_true rfl) ?_
    refine zx_goto (tgt := 13) dX2_agrees_42 (by decide) ?_
    exact zWA_to (zWA_mem hn (by rfl)) ⟨rfl, rfl, rfl, trivial⟩

set_option maxHeartbeats 4000000 in
set_option maxRecDepth 100000 in
theorem m_X2_agrees {g : ZG} {μ : ZMem} {n sh C : Nat} (hO : zO g 2 n) (hW : zWf g μ) (hs : zR μ n 0 = some sh) (hln : zln g sh = 8) (hc : zI μ n 2 = nI C) (hC : C ≤ 8) : zCab g RX2 yX2_agrees cX2_agrees 4 ((some FieldType.boolean)) (zrm 0) [zr (some n)] μ (some (zi (s_agrees μ n sh C))) μ := by
  refine zCab_w (by decide +kernel) rfl (Nat.le_of_ble_eq_true rfl) ?_
  refine zx_aload_n dX2_agrees_0 rfl rfl ?_
  refine zx_getR zf_X2_15 (by assumption) (by first | assumption | rfl) rfl dX2_agrees_1 ?_
  refine zx_ifnonnull (tgt := 9) dX2_agrees_4 (by decide) (fun c_4 => ?_) (fun r_4 c_4 => ?_)
  · skip
    refine zx_iconst 0 dX2_agrees_7 (by decide) ?_
    exact zx_zreturn rfl (by decide +kernel) (by show some (zi (s_agrees μ n sh C)) = _; unfold s_agrees; rw [c_4]) (by rfl) dX2_agrees_8
  · skip
    have hO_4 : zO g 0 r_4 := hW 2 _ _ _ (by assumption) c_4
    refine zx_lconst 0 dX2_agrees_9 (by decide) ?_
    refine zx_lstore_n dX2_agrees_10 rfl (Nat.le_of_ble_eq_true rfl) ?_
    refine zx_iconst 0 dX2_agrees_11 (by decide) ?_
    refine zx_istore_n dX2_agrees_12 rfl (Nat.le_of_ble_eq_true rfl) ?_
    refine zWA_to (L_X2_agrees (n := n) (sh := sh) (C := C) hO hW hs hln hc hC ?_) ⟨rfl, rfl, rfl, trivial⟩
    refine zx_lload_n dX2_agrees_45 rfl rfl ?_
    refine zx_aload_n dX2_agrees_46 rfl rfl ?_
    refine zx_getR zf_X2_15 (by assumption) c_4 rfl dX2_agrees_47 ?_
    refine zx_getL zf_X2_29 (by assumption) rfl dX2_agrees_50 ?_
    refine zx_lc_ne (tgt := 61) dX2_agrees_53 dX2_agrees_54 (by decide) (fun c_53 => ?_) (fun c_53 => ?_)
    · skip
      refine zx_iconst 0 dX2_agrees_61 (by decide) ?_
      exact zx_zreturn rfl (by decide +kernel) (by show some (zi (s_agrees μ n sh C)) = _; unfold s_agrees; rw [c_4]; simp only [c_53, if_true, if_false, reduceIte]) (by rfl) dX2_agrees_62
    · skip
      refine zx_iconst 1 dX2_agrees_57 (by decide) ?_
      refine zx_goto (tgt := 62) dX2_agrees_58 (by decide) ?_
      exact zx_zreturn rfl (by decide +kernel) (by show some (zi (s_agrees μ n sh C)) = _; unfold s_agrees; rw [c_4]; simp only [c_53, if_true, if_false, reduceIte]) (by rfl) dX2_agrees_62

def s_wet (v : UInt64) : Int32 := if zgt v 0 = true then 1 else 0
def u_bec1 (μ : ZMem) (c : Nat) (v : UInt64) : ZMem := zsD (zsD (zsD (zsL (zsD (zsI μ c 0 (s_wet v)) c 1 v) c 2 (FP.d2l (zmul v k1000))) c 3 k10) c 4 k35) c 5 0
def u_become (μ : ZMem) (c : Nat) (v : UInt64) : ZMem := match zR μ c 7 with
  | none => u_bec1 μ c v
  | some n => zsR (u_leave (u_bec1 μ c v) n) c 7 none
set_option maxHeartbeats 4000000 in
set_option maxRecDepth 100000 in
theorem m_X0_become {g : ZG} {μ : ZMem} {c : Nat} (hO : zO g 0 c) (hW : zWf g μ) {v : UInt64} : zCab g RX0 yX0_become cX0_become 3 (none) (zrm 1) [zr (some c), zd v] μ none (u_become μ c v) := by
  refine zCab_w (by decide +kernel) rfl (Nat.le_of_ble_eq_true rfl) ?_
  refine zx_aload_n dX0_become_0 rfl rfl ?_
  refine zx_dload_n dX0_become_1 rfl rfl ?_
  refine zx_dconst0 dX0_become_2 ?_
  refine zx_dl_le (tgt := 11) dX0_become_3 dX0_become_4 (by decide) (fun c_3 => ?_) (fun c_3 => ?_)
  · skip
    refine zx_iconst 0 dX0_become_11 (by decide) ?_
    refine zx_putI zf_X0_9 (by assumption) ⟨by decide +kernel, by decide +kernel⟩ (Or.inr rfl) dX0_become_12 ?_
    refine zx_aload_n dX0_become_15 rfl rfl ?_
    refine zx_dload_n dX0_become_16 rfl rfl ?_
    refine zx_putD zf_X0_15 (by assumption) rfl dX0_become_17 ?_
    refine zx_aload_n dX0_become_20 rfl rfl ?_
    refine zx_dload_n dX0_become_21 rfl rfl ?_
    refine zx_ldc2d 4652007308841189376 zk_X0_19 (by decide +kernel) dX0_become_22 ?_
    refine zx_dmul dX0_become_25 ?_
    refine zx_d2l dX0_become_26 ?_
    refine zx_putL zf_X0_21 (by assumption) rfl dX0_become_27 ?_
    refine zx_aload_n dX0_become_30 rfl rfl ?_
    refine zx_ldc2d 4621819117588971520 zk_X0_25 (by decide +kernel) dX0_become_31 ?_
    refine zx_putD zf_X0_27 (by assumption) rfl dX0_become_34 ?_
    refine zx_aload_n dX0_become_37 rfl rfl ?_
    refine zx_ldc2d 4630122629401935872 zk_X0_30 (by decide +kernel) dX0_become_38 ?_
    refine zx_putD zf_X0_32 (by assumption) rfl dX0_become_41 ?_
    refine zx_aload_n dX0_become_44 rfl rfl ?_
    refine zx_dconst0 dX0_become_45 ?_
    refine zx_putD zf_X0_35 (by assumption) rfl dX0_become_46 ?_
    refine zx_aload_n dX0_become_49 rfl rfl ?_
    refine zx_getR zf_X0_38 (by assumption) (show _ = zR μ c 7 from rfl) rfl dX0_become_50 ?_
    refine zx_ifnull (tgt := 68) dX0_become_53 (by decide) (fun c_53 => ?_) (fun r_53 c_53 => ?_)
    · skip
      exact zx_return rfl rfl (by show u_become μ c v = _; unfold u_become; rw [c_53]; unfold u_bec1 s_wet; rw [c_3]; rfl) dX0_become_68
    · skip
      have hO_53 : zO g 2 r_53 := hW 0 _ _ _ (by assumption) c_53
      refine zx_aload_n dX0_become_56 rfl rfl ?_
      refine zx_getR zf_X0_38 (by assumption) (show _ = some r_53 from c_53) rfl dX0_become_57 ?_
      refine zx_callV0 _ zv_X0_42 (m_X2_leave (by assumption)) (by assumption) (by decide) rfl rfl rfl ⟨rfl, rfl, (Nat.le_of_ble_eq_true rfl), (Nat.le_of_ble_eq_true rfl)⟩ (Nat.le_of_ble_eq_true rfl) dX0_become_60 ?_
      refine zx_aload_n dX0_become_63 rfl rfl ?_
      refine zx_null dX0_become_64 ?_
      refine zx_putR zf_X0_38 (by assumption) rfl dX0_become_65 ?_
      exact zx_return rfl rfl (by show u_become μ c v = _; unfold u_become; rw [c_53]; unfold u_bec1 s_wet; rw [c_3]; rfl) dX0_become_68
  · skip
    refine zx_iconst 1 dX0_become_7 (by decide) ?_
    refine zx_goto (tgt := 12) dX0_become_8 (by decide) ?_
    refine zx_putI zf_X0_9 (by assumption) ⟨by decide +kernel, by decide +kernel⟩ (Or.inr rfl) dX0_become_12 ?_
    refine zx_aload_n dX0_become_15 rfl rfl ?_
    refine zx_dload_n dX0_become_16 rfl rfl ?_
    refine zx_putD zf_X0_15 (by assumption) rfl dX0_become_17 ?_
    refine zx_aload_n dX0_become_20 rfl rfl ?_
    refine zx_dload_n dX0_become_21 rfl rfl ?_
    refine zx_ldc2d 4652007308841189376 zk_X0_19 (by decide +kernel) dX0_become_22 ?_
    refine zx_dmul dX0_become_25 ?_
    refine zx_d2l dX0_become_26 ?_
    refine zx_putL zf_X0_21 (by assumption) rfl dX0_become_27 ?_
    refine zx_aload_n dX0_become_30 rfl rfl ?_
    refine zx_ldc2d 4621819117588971520 zk_X0_25 (by decide +kernel) dX0_become_31 ?_
    refine zx_putD zf_X0_27 (by assumption) rfl dX0_become_34 ?_
    refine zx_aload_n dX0_become_37 rfl rfl ?_
    refine zx_ldc2d 4630122629401935872 zk_X0_30 (by decide +kernel) dX0_become_38 ?_
    refine zx_putD zf_X0_32 (by assumption) rfl dX0_become_41 ?_
    refine zx_aload_n dX0_become_44 rfl rfl ?_
    refine zx_dconst0 dX0_become_45 ?_
    refine zx_putD zf_X0_35 (by assumption) rfl dX0_become_46 ?_
    refine zx_aload_n dX0_become_49 rfl rfl ?_
    refine zx_getR zf_X0_38 (by assumption) (show _ = zR μ c 7 from rfl) rfl dX0_become_50 ?_
    refine zx_ifnull (tgt := 68) dX0_become_53 (by decide) (fun c_53 => ?_) (fun r_53 c_53 => ?_)
    · skip
      exact zx_return rfl rfl (by show u_become μ c v = _; unfold u_become; rw [c_53]; unfold u_bec1 s_wet; rw [c_3]; rfl) dX0_become_68
    · skip
      have hO_53 : zO g 2 r_53 := hW 0 _ _ _ (by assumption) c_53
      refine zx_aload_n dX0_become_56 rfl rfl ?_
      refine zx_getR zf_X0_38 (by assumption) (show _ = some r_53 from c_53) rfl dX0_become_57 ?_
      refine zx_callV0 _ zv_X0_42 (m_X2_leave (by assumption)) (by assumption) (by decide) rfl rfl rfl ⟨rfl, rfl, (Nat.le_of_ble_eq_true rfl), (Nat.le_of_ble_eq_true rfl)⟩ (Nat.le_of_ble_eq_true rfl) dX0_become_60 ?_
      refine zx_aload_n dX0_become_63 rfl rfl ?_
      refine zx_null dX0_become_64 ?_
      refine zx_putR zf_X0_38 (by assumption) rfl dX0_become_65 ?_
      exact zx_return rfl rfl (by show u_become μ c v = _; unfold u_become; rw [c_53]; unfold u_bec1 s_wet; rw [c_3]; rfl) dX0_become_68

def u_w3 (μ : ZMem) (c : Nat) : ZMem := zsD μ c 3 (zdiv (zD μ c 12) (FP.l2d (zL μ c 2)))
def u_w4 (μ : ZMem) (c : Nat) : ZMem := zsD μ c 4 (zdiv (zD μ c 13) (FP.l2d (zL μ c 2)))
def u_w5 (μ : ZMem) (c : Nat) (h : UInt64) : ZMem := zsD μ c 5 (zadd (zD μ c 5) (zmul (zmul k0001 h) (zsub (zD μ c 14) k02)))
def u_end1 (μ : ZMem) (c : Nat) : ZMem := if 0 < zL μ c 2 then u_w4 (u_w3 μ c) c else μ
def u_end2 (μ : ZMem) (c : Nat) (h : UInt64) : ZMem := if zgt (zD μ c 14) k02 = true then u_w5 μ c h else μ
def u_endStep (μ : ZMem) (c sh C : Nat) (h : UInt64) : ZMem := match zR μ c 7 with
  | none => u_end2 (u_end1 μ c) c h
  | some _ => u_grow (u_end2 (u_end1 μ c) c h) sh (zL μ c 2 - zL μ c 10) C
set_option maxHeartbeats 4000000 in
set_option maxRecDepth 100000 in
theorem m_X0_endStep {g : ZG} {μ : ZMem} {c sh C : Nat} (hO : zO g 0 c) (hW : zWf g μ) (hb : ∀ n, zR μ c 7 = some n → zR μ n 0 = some sh ∧ zln g sh = 8 ∧ zI μ n 2 = nI C ∧ C ≤ 8) {h : UInt64} : zCab g RX0 yX0_endStep cX0_endStep 3 (none) (zrm 1) [zr (some c), zd h] μ none (u_endStep μ c sh C h) := by
  refine zCab_w (by decide +kernel) rfl (Nat.le_of_ble_eq_true rfl) ?_
  refine zx_aload_n dX0_endStep_0 rfl rfl ?_
  refine zx_getL zf_X0_21 (by assumption) rfl dX0_endStep_1 ?_
  refine zx_lconst 0 dX0_endStep_4 (by decide) ?_
  refine zx_lc_le (tgt := 37) dX0_endStep_5 dX0_endStep_6 (by decide) (fun c_5 => ?_) (fun c_5 => ?_)
  · skip
    refine zx_aload_n dX0_endStep_37 rfl rfl ?_
    refine zx_getD zf_X0_67 (by assumption) rfl dX0_endStep_38 ?_
    refine zx_ldc2d 4596373779694328218 zk_X0_83 (by decide +kernel) dX0_endStep_41 ?_
    refine zx_dl_le (tgt := 71) dX0_endStep_44 dX0_endStep_45 (by decide) (fun c_44 => ?_) (fun c_44 => ?_)
    · skip
      refine zx_aload_n dX0_endStep_71 rfl rfl ?_
      refine zx_getR zf_X0_38 (by assumption) (show _ = zR μ c 7 from rfl) rfl dX0_endStep_72 ?_
      refine zx_ifnull (tgt := 94) dX0_endStep_75 (by decide) (fun c_75 => ?_) (fun r_75 c_75 => ?_)
      · skip
        exact zx_return rfl rfl (by refine Eq.trans (b := u_end2 (u_end1 μ c) c h) (by show u_endStep μ c sh C h = _; unfold u_endStep; rw [c_75]) ?_; have e1 : u_end1 μ c = μ := if_neg c_5; have e2 : u_end2 μ c h = μ := if_neg (fun q => absurd (q.symm.trans c_44) (by decide)); rw [e1, e2]; try rfl) dX0_endStep_94
      · skip
        have hO_75 : zO g 2 r_75 := hW 0 _ _ _ (by assumption) c_75
        refine zx_aload_n dX0_endStep_78 rfl rfl ?_
        refine zx_getR zf_X0_38 (by assumption) (show _ = some r_75 from c_75) rfl dX0_endStep_79 ?_
        refine zx_aload_n dX0_endStep_82 rfl rfl ?_
        refine zx_getL zf_X0_21 (by assumption) rfl dX0_endStep_83 ?_
        refine zx_aload_n dX0_endStep_86 rfl rfl ?_
        refine zx_getL zf_X0_51 (by assumption) rfl dX0_endStep_87 ?_
        refine zx_lsub dX0_endStep_90 ?_
        refine zx_callV0 _ zv_X0_85 (m_X2_grow (μ := μ) (n := r_75) (sh := sh) (C := C) hO_75 hW (hb _ c_75).1 (hb _ c_75).2.1 (hb _ c_75).2.2.1 (hb _ c_75).2.2.2) (by assumption) (by decide) rfl rfl rfl ⟨rfl, rfl, (Nat.le_of_ble_eq_true rfl), (Nat.le_of_ble_eq_true rfl)⟩ (Nat.le_of_ble_eq_true rfl) dX0_endStep_91 ?_
        exact zx_return rfl rfl (by refine Eq.trans (b := u_grow (u_end2 (u_end1 μ c) c h) sh (zL μ c 2 - zL μ c 10) C) (by show u_endStep μ c sh C h = _; unfold u_endStep; rw [c_75]) ?_; have e1 : u_end1 μ c = μ := if_neg c_5; have e2 : u_end2 μ c h = μ := if_neg (fun q => absurd (q.symm.trans c_44) (by decide)); rw [e1, e2]; try rfl) dX0_endStep_94
    · skip
      refine zx_aload_n dX0_endStep_48 rfl rfl ?_
      refine zx_aload_n dX0_endStep_49 rfl rfl ?_
      refine zx_getD zf_X0_35 (by assumption) rfl dX0_endStep_50 ?_
      refine zx_ldc2d 4562254508917369340 zk_X0_47 (by decide +kernel) dX0_endStep_53 ?_
      refine zx_dload_n dX0_endStep_56 rfl rfl ?_
      refine zx_dmul dX0_endStep_57 ?_
      refine zx_aload_n dX0_endStep_58 rfl rfl ?_
      refine zx_getD zf_X0_67 (by assumption) rfl dX0_endStep_59 ?_
      refine zx_ldc2d 4596373779694328218 zk_X0_83 (by decide +kernel) dX0_endStep_62 ?_
      refine zx_dsub dX0_endStep_65 ?_
      refine zx_dmul dX0_endStep_66 ?_
      refine zx_dadd dX0_endStep_67 ?_
      refine zx_putD zf_X0_35 (by assumption) rfl dX0_endStep_68 ?_
      refine zx_aload_n dX0_endStep_71 rfl rfl ?_
      refine zx_getR zf_X0_38 (by assumption) (show _ = zR μ c 7 from rfl) rfl dX0_endStep_72 ?_
      refine zx_ifnull (tgt := 94) dX0_endStep_75 (by decide) (fun c_75 => ?_) (fun r_75 c_75 => ?_)
      · skip
        exact zx_return rfl rfl (by refine Eq.trans (b := u_end2 (u_end1 μ c) c h) (by show u_endStep μ c sh C h = _; unfold u_endStep; rw [c_75]) ?_; have e1 : u_end1 μ c = μ := if_neg c_5; have e2 : u_end2 μ c h = (u_w5 μ c h) := if_pos c_44; rw [e1, e2]; try rfl) dX0_endStep_94
      · skip
        have hO_75 : zO g 2 r_75 := hW 0 _ _ _ (by assumption) c_75
        refine zx_aload_n dX0_endStep_78 rfl rfl ?_
        refine zx_getR zf_X0_38 (by assumption) (show _ = some r_75 from c_75) rfl dX0_endStep_79 ?_
        refine zx_aload_n dX0_endStep_82 rfl rfl ?_
        refine zx_getL zf_X0_21 (by assumption) rfl dX0_endStep_83 ?_
        refine zx_aload_n dX0_endStep_86 rfl rfl ?_
        refine zx_getL zf_X0_51 (by assumption) rfl dX0_endStep_87 ?_
        refine zx_lsub dX0_endStep_90 ?_
        refine zx_callV0 _ zv_X0_85 (m_X2_grow (μ := (u_w5 μ c h)) (n := r_75) (sh := sh) (C := C) hO_75 hW (hb _ c_75).1 (hb _ c_75).2.1 (hb _ c_75).2.2.1 (hb _ c_75).2.2.2) (by assumption) (by decide) rfl rfl rfl ⟨rfl, rfl, (Nat.le_of_ble_eq_true rfl), (Nat.le_of_ble_eq_true rfl)⟩ (Nat.le_of_ble_eq_true rfl) dX0_endStep_91 ?_
        exact zx_return rfl rfl (by refine Eq.trans (b := u_grow (u_end2 (u_end1 μ c) c h) sh (zL μ c 2 - zL μ c 10) C) (by show u_endStep μ c sh C h = _; unfold u_endStep; rw [c_75]) ?_; have e1 : u_end1 μ c = μ := if_neg c_5; have e2 : u_end2 μ c h = (u_w5 μ c h) := if_pos c_44; rw [e1, e2]; try rfl) dX0_endStep_94
  · skip
    refine zx_aload_n dX0_endStep_9 rfl rfl ?_
    refine zx_aload_n dX0_endStep_10 rfl rfl ?_
    refine zx_getD zf_X0_61 (by assumption) rfl dX0_endStep_11 ?_
    refine zx_aload_n dX0_endStep_14 rfl rfl ?_
    refine zx_getL zf_X0_21 (by assumption) rfl dX0_endStep_15 ?_
    refine zx_l2d dX0_endStep_18 ?_
    refine zx_ddiv dX0_endStep_19 ?_
    refine zx_putD zf_X0_27 (by assumption) rfl dX0_endStep_20 ?_
    refine zx_aload_n dX0_endStep_23 rfl rfl ?_
    refine zx_aload_n dX0_endStep_24 rfl rfl ?_
    refine zx_getD zf_X0_64 (by assumption) rfl dX0_endStep_25 ?_
    refine zx_aload_n dX0_endStep_28 rfl rfl ?_
    refine zx_getL zf_X0_21 (by assumption) rfl dX0_endStep_29 ?_
    refine zx_l2d dX0_endStep_32 ?_
    refine zx_ddiv dX0_endStep_33 ?_
    refine zx_putD zf_X0_32 (by assumption) rfl dX0_endStep_34 ?_
    refine zx_aload_n dX0_endStep_37 rfl rfl ?_
    refine zx_getD zf_X0_67 (by assumption) rfl dX0_endStep_38 ?_
    refine zx_ldc2d 4596373779694328218 zk_X0_83 (by decide +kernel) dX0_endStep_41 ?_
    refine zx_dl_le (tgt := 71) dX0_endStep_44 dX0_endStep_45 (by decide) (fun c_44 => ?_) (fun c_44 => ?_)
    · skip
      refine zx_aload_n dX0_endStep_71 rfl rfl ?_
      refine zx_getR zf_X0_38 (by assumption) (show _ = zR μ c 7 from rfl) rfl dX0_endStep_72 ?_
      refine zx_ifnull (tgt := 94) dX0_endStep_75 (by decide) (fun c_75 => ?_) (fun r_75 c_75 => ?_)
      · skip
        exact zx_return rfl rfl (by refine Eq.trans (b := u_end2 (u_end1 μ c) c h) (by show u_endStep μ c sh C h = _; unfold u_endStep; rw [c_75]) ?_; have e1 : u_end1 μ c = (u_w4 (u_w3 μ c) c) := if_pos c_5; have e2 : u_end2 (u_w4 (u_w3 μ c) c) c h = (u_w4 (u_w3 μ c) c) := if_neg (fun q => absurd (q.symm.trans c_44) (by decide)); rw [e1, e2]; try rfl) dX0_endStep_94
      · skip
        have hO_75 : zO g 2 r_75 := hW 0 _ _ _ (by assumption) c_75
        refine zx_aload_n dX0_endStep_78 rfl rfl ?_
        refine zx_getR zf_X0_38 (by assumption) (show _ = some r_75 from c_75) rfl dX0_endStep_79 ?_
        refine zx_aload_n dX0_endStep_82 rfl rfl ?_
        refine zx_getL zf_X0_21 (by assumption) rfl dX0_endStep_83 ?_
        refine zx_aload_n dX0_endStep_86 rfl rfl ?_
        refine zx_getL zf_X0_51 (by assumption) rfl dX0_endStep_87 ?_
        refine zx_lsub dX0_endStep_90 ?_
        refine zx_callV0 _ zv_X0_85 (m_X2_grow (μ := (u_w4 (u_w3 μ c) c)) (n := r_75) (sh := sh) (C := C) hO_75 hW (hb _ c_75).1 (hb _ c_75).2.1 (hb _ c_75).2.2.1 (hb _ c_75).2.2.2) (by assumption) (by decide) rfl rfl rfl ⟨rfl, rfl, (Nat.le_of_ble_eq_true rfl), (Nat.le_of_ble_eq_true rfl)⟩ (Nat.le_of_ble_eq_true rfl) dX0_endStep_91 ?_
        exact zx_return rfl rfl (by refine Eq.trans (b := u_grow (u_end2 (u_end1 μ c) c h) sh (zL μ c 2 - zL μ c 10) C) (by show u_endStep μ c sh C h = _; unfold u_endStep; rw [c_75]) ?_; have e1 : u_end1 μ c = (u_w4 (u_w3 μ c) c) := if_pos c_5; have e2 : u_end2 (u_w4 (u_w3 μ c) c) c h = (u_w4 (u_w3 μ c) c) := if_neg (fun q => absurd (q.symm.trans c_44) (by decide)); rw [e1, e2]; try rfl) dX0_endStep_94
    · skip
      refine zx_aload_n dX0_endStep_48 rfl rfl ?_
      refine zx_aload_n dX0_endStep_49 rfl rfl ?_
      refine zx_getD zf_X0_35 (by assumption) rfl dX0_endStep_50 ?_
      refine zx_ldc2d 4562254508917369340 zk_X0_47 (by decide +kernel) dX0_endStep_53 ?_
      refine zx_dload_n dX0_endStep_56 rfl rfl ?_
      refine zx_dmul dX0_endStep_57 ?_
      refine zx_aload_n dX0_endStep_58 rfl rfl ?_
      refine zx_getD zf_X0_67 (by assumption) rfl dX0_endStep_59 ?_
      refine zx_ldc2d 4596373779694328218 zk_X0_83 (by decide +kernel) dX0_endStep_62 ?_
      refine zx_dsub dX0_endStep_65 ?_
      refine zx_dmul dX0_endStep_66 ?_
      refine zx_dadd dX0_endStep_67 ?_
      refine zx_putD zf_X0_35 (by assumption) rfl dX0_endStep_68 ?_
      refine zx_aload_n dX0_endStep_71 rfl rfl ?_
      refine zx_getR zf_X0_38 (by assumption) (show _ = zR μ c 7 from rfl) rfl dX0_endStep_72 ?_
      refine zx_ifnull (tgt := 94) dX0_endStep_75 (by decide) (fun c_75 => ?_) (fun r_75 c_75 => ?_)
      · skip
        exact zx_return rfl rfl (by refine Eq.trans (b := u_end2 (u_end1 μ c) c h) (by show u_endStep μ c sh C h = _; unfold u_endStep; rw [c_75]) ?_; have e1 : u_end1 μ c = (u_w4 (u_w3 μ c) c) := if_pos c_5; have e2 : u_end2 (u_w4 (u_w3 μ c) c) c h = (u_w5 (u_w4 (u_w3 μ c) c) c h) := if_pos c_44; rw [e1, e2]; try rfl) dX0_endStep_94
      · skip
        have hO_75 : zO g 2 r_75 := hW 0 _ _ _ (by assumption) c_75
        refine zx_aload_n dX0_endStep_78 rfl rfl ?_
        refine zx_getR zf_X0_38 (by assumption) (show _ = some r_75 from c_75) rfl dX0_endStep_79 ?_
        refine zx_aload_n dX0_endStep_82 rfl rfl ?_
        refine zx_getL zf_X0_21 (by assumption) rfl dX0_endStep_83 ?_
        refine zx_aload_n dX0_endStep_86 rfl rfl ?_
        refine zx_getL zf_X0_51 (by assumption) rfl dX0_endStep_87 ?_
        refine zx_lsub dX0_endStep_90 ?_
        refine zx_callV0 _ zv_X0_85 (m_X2_grow (μ := (u_w5 (u_w4 (u_w3 μ c) c) c h)) (n := r_75) (sh := sh) (C := C) hO_75 hW (hb _ c_75).1 (hb _ c_75).2.1 (hb _ c_75).2.2.1 (hb _ c_75).2.2.2) (by assumption) (by decide) rfl rfl rfl ⟨rfl, rfl, (Nat.le_of_ble_eq_true rfl), (Nat.le_of_ble_eq_true rfl)⟩ (Nat.le_of_ble_eq_true rfl) dX0_endStep_91 ?_
        exact zx_return rfl rfl (by refine Eq.trans (b := u_grow (u_end2 (u_end1 μ c) c h) sh (zL μ c 2 - zL μ c 10) C) (by show u_endStep μ c sh C h = _; unfold u_endStep; rw [c_75]) ?_; have e1 : u_end1 μ c = (u_w4 (u_w3 μ c) c) := if_pos c_5; have e2 : u_end2 (u_w4 (u_w3 μ c) c) c h = (u_w5 (u_w4 (u_w3 μ c) c) c h) := if_pos c_44; rw [e1, e2]; try rfl) dX0_endStep_94

def u_tell (μ : ZMem) (s sz ph : Nat) (w : Nat) (a b : UInt64) : ZMem := zsI (zsD (zsD μ sz w a) ph w b) s 2 1
set_option maxHeartbeats 4000000 in
set_option maxRecDepth 100000 in
theorem m_X3_tell {g : ZG} {μ : ZMem} {s sz ph : Nat} (hO : zO g 3 s) (hW : zWf g μ) (hz : zR μ s 0 = some sz) (hp : zR μ s 1 = some ph) (hlz : zln g sz = 8) (hlp : zln g ph = 8) {w : Nat} (hw : w < 8) {a b : UInt64} : zCab g RX3 yX3_tell cX3_tell 6 (none) (zrm 0) [zr (some s), zi (nI w), zd a, zd b] μ none (u_tell μ s sz ph w a b) := by
  refine zCab_w (by decide +kernel) rfl (Nat.le_of_ble_eq_true rfl) ?_
  have hzO : zO g 8 sz := hW 3 _ _ _ hO hz
  have hpO : zO g 8 ph := hW 3 _ _ _ hO hp
  refine zx_iload_n dX3_tell_0 rfl rfl ?_
  refine zx_if_lt (tgt := 22) dX3_tell_1 (by decide) (fun h_ => absurd h_ (by have := nI_pos (show w < 2 ^ 31 by omega); exact this)) (fun _ => ?_)
  refine zx_iload_n dX3_tell_4 rfl rfl ?_
  refine zx_aload_n dX3_tell_5 rfl rfl ?_
  refine zx_getR zf_X3_9 (by assumption) hz rfl dX3_tell_6 ?_
  refine zx_alen (nI 8) (by assumption) (by decide) (by rw [hlz]) dX3_tell_9 ?_
  refine zx_icmp_ge (tgt := 22) dX3_tell_10 (by decide) (fun h_ => absurd h_ (nI_ge hw (by decide))) (fun _ => ?_)
  refine zx_iload_n dX3_tell_13 rfl rfl ?_
  refine zx_aload_n dX3_tell_14 rfl rfl ?_
  refine zx_getR zf_X3_15 (by assumption) hp rfl dX3_tell_15 ?_
  refine zx_alen (nI 8) (by assumption) (by decide) (by rw [hlp]) dX3_tell_18 ?_
  refine zx_icmp_lt (tgt := 23) dX3_tell_19 (by decide) (fun _ => ?_) (fun h_ => absurd h_ (fun q => q (nI_lt hw (by decide))))
  refine zx_aload_n dX3_tell_23 rfl rfl ?_
  refine zx_getR zf_X3_9 (by assumption) hz rfl dX3_tell_24 ?_
  refine zx_iload_n dX3_tell_27 rfl rfl ?_
  refine zx_dload_n dX3_tell_28 rfl rfl ?_
  refine zx_dast w (by assumption) rfl ⟨by rw [hlz]; exact hw, by rw [hlz]; decide⟩ dX3_tell_29 ?_
  refine zx_aload_n dX3_tell_30 rfl rfl ?_
  refine zx_getR zf_X3_15 (by assumption) hp rfl dX3_tell_31 ?_
  refine zx_iload_n dX3_tell_34 rfl rfl ?_
  refine zx_dload dX3_tell_35 rfl ?_
  refine zx_dast w (by assumption) rfl ⟨by rw [hlp]; exact hw, by rw [hlp]; decide⟩ dX3_tell_37 ?_
  refine zx_aload_n dX3_tell_38 rfl rfl ?_
  refine zx_iconst 1 dX3_tell_39 (by decide) ?_
  refine zx_putI zf_X3_18 (by assumption) ⟨by decide +kernel, by decide +kernel⟩ (Or.inr rfl) dX3_tell_40 ?_
  exact zx_return rfl rfl (by rfl) dX3_tell_43

def s_wave (t : UInt64) (k : Nat) : UInt64 := zdiv t (FP.i2d (3600 * (nI k + 1)))
def u_stand1 (s sz ph : Nat) (t : UInt64) (k : Nat) (μ : ZMem) : ZMem := if zgt (zD μ sz k) 0 = true then zsD μ s 3 (zadd (zD μ s 3) (zmul (zD μ sz k) (s_saw (zadd (s_wave t k) (zD μ ph k))))) else μ
def u_stand (μ : ZMem) (s sz ph : Nat) (t : UInt64) : ZMem := if zI μ s 2 = 0 then zsD μ s 3 0 else zit (u_stand1 s sz ph t) 8 (zsD μ s 3 0)
theorem zI_stand1 (s sz ph : Nat) (t : UInt64) (n : Nat) (μ : ZMem) : zI (zit (u_stand1 s sz ph t) n μ) = zI μ := zit_keep (f := u_stand1 s sz ph t) zI (fun k m => by unfold u_stand1; split <;> rfl) n μ
theorem zR_stand1 (s sz ph : Nat) (t : UInt64) (n : Nat) (μ : ZMem) : zR (zit (u_stand1 s sz ph t) n μ) = zR μ := zit_keep (f := u_stand1 s sz ph t) zR (fun k m => by unfold u_stand1; split <;> rfl) n μ
theorem zR_u_stand (μ : ZMem) (s sz ph : Nat) (t : UInt64) : zR (u_stand μ s sz ph t) = zR μ := by
  unfold u_stand
  split
  · rfl
  · rw [zR_stand1]; rfl
set_option maxHeartbeats 4000000 in
set_option maxRecDepth 100000 in
theorem L_X3_stand {g : ZG} {μ : ZMem} {s sz ph : Nat} (hO : zO g 3 s) (hW : zWf g μ) (hz : zR μ s 0 = some sz) (hp : zR μ s 1 = some ph) (hlz : zln g sz = 8) (hlp : zln g ph = 8) (ho : ¬ zI μ s 2 = 0) {t : UInt64} {res : Option ZV} {μ' : ZMem} (hx : zWA g (RX3, cX3_stand, 4, none, zrm 1, res, μ') 85 (zls [(0, zr (some s)), (1, zd t), (3, zi (nI (8)))]) [] (zit (u_stand1 s sz ph t) (8) μ)) : zWA g (RX3, cX3_stand, 4, none, zrm 1, res, μ') 7 (zls [(0, zr (some s)), (1, zd t), (3, zi (nI (0)))]) [] (zit (u_stand1 s sz ph t) (0) μ) := by
  have hzO : zO g 8 sz := hW 3 _ _ _ hO hz
  have hpO : zO g 8 ph := hW 3 _ _ _ hO hp
  have hRz : ∀ k, zR (zit (u_stand1 s sz ph t) k μ) s 0 = some sz := fun k => by rw [zR_stand1]; exact hz
  have hRp : ∀ k, zR (zit (u_stand1 s sz ph t) k μ) s 1 = some ph := fun k => by rw [zR_stand1]; exact hp
  have hIo : ∀ k, ¬ zI (zit (u_stand1 s sz ph t) k μ) s 2 = 0 := fun k => by rw [zI_stand1]; exact ho
  refine zloop (P := fun k => zWA g (RX3, cX3_stand, 4, none, zrm 1, res, μ') 7 (zls [(0, zr (some s)), (1, zd t), (3, zi (nI (k)))]) [] (zit (u_stand1 s sz ph t) (k) μ)) (N := 8) ?_ ?_ 0 (Nat.zero_le _)
  · show zWA _ _ _ _ _ _
    refine zx_aload_n dX3_stand_7 rfl rfl ?_
    refine zx_getI zf_X3_18 (by assumption) (Or.inr rfl) dX3_stand_8 ?_
    refine zx_if_eq (tgt := 85) dX3_stand_11 (by decide) (fun h_ => absurd h_ (hIo _)) (fun _ => ?_)
    refine zx_iload_n dX3_stand_14 rfl rfl ?_
    refine zx_aload_n dX3_stand_15 rfl rfl ?_
    refine zx_getR zf_X3_9 (by assumption) (hRz _) rfl dX3_stand_16 ?_
    refine zx_alen (nI 8) (by assumption) (by decide) (by rw [hlz]) dX3_stand_19 ?_
    refine zx_icmp_ge (tgt := 85) dX3_stand_20 (by decide) (fun _ => ?_) (fun h_ => absurd h_ (by simp))
    exact zWA_to hx ⟨rfl, rfl, rfl, trivial⟩
  · intro k hk hn
    show zWA _ _ _ _ _ _
    refine zx_aload_n dX3_stand_7 rfl rfl ?_
    refine zx_getI zf_X3_18 (by assumption) (Or.inr rfl) dX3_stand_8 ?_
    refine zx_if_eq (tgt := 85) dX3_stand_11 (by decide) (fun h_ => absurd h_ (hIo _)) (fun _ => ?_)
    refine zx_iload_n dX3_stand_14 rfl rfl ?_
    refine zx_aload_n dX3_stand_15 rfl rfl ?_
    refine zx_getR zf_X3_9 (by assumption) (hRz _) rfl dX3_stand_16 ?_
    refine zx_alen (nI 8) (by assumption) (by decide) (by rw [hlz]) dX3_stand_19 ?_
    refine zx_icmp_ge (tgt := 85) dX3_stand_20 (by decide) (fun h_ => absurd h_ (nI_ge hk (by decide))) (fun _ => ?_)
    refine zx_iload_n dX3_stand_23 rfl rfl ?_
    refine zx_aload_n dX3_stand_24 rfl rfl ?_
    refine zx_getR zf_X3_15 (by assumption) (hRp _) rfl dX3_stand_25 ?_
    refine zx_alen (nI 8) (by assumption) (by decide) (by rw [hlp]) dX3_stand_28 ?_
    refine zx_icmp_ge (tgt := 85) dX3_stand_29 (by decide) (fun h_ => absurd h_ (nI_ge hk (by decide))) (fun _ => ?_)
    refine zx_aload_n dX3_stand_32 rfl rfl ?_
    refine zx_getR zf_X3_9 (by assumption) (hRz _) rfl dX3_stand_33 ?_
    refine zx_iload_n dX3_stand_36 rfl rfl ?_
    refine zx_dald k (by assumption) rfl ⟨by rw [hlz]; exact hk, by rw [hlz]; decide⟩ dX3_stand_37 ?_
    refine zx_dconst0 dX3_stand_38 ?_
    refine zx_dl_le (tgt := 79) dX3_stand_39 dX3_stand_40 (by decide) (fun c_39 => ?_) (fun c_39 => ?_)
    · skip
      refine zx_iinc (nI (k + 1)) dX3_stand_79 rfl (by exact nI_1 k) (Nat.le_of_ble_eq_true rfl) ?_
      refine zx_goto (tgt := 7) dX3_stand_82 (by decide) ?_
      exact zWA_to (zWA_mem hn (by show u_stand1 s sz ph t k (zit (u_stand1 s sz ph t) k μ) = _; exact if_neg (fun q => absurd (q.symm.trans c_39) (by decide)))) ⟨rfl, rfl, rfl, trivial⟩
    · skip
      refine zx_aload_n dX3_stand_43 rfl rfl ?_
      refine zx_aload_n dX3_stand_44 rfl rfl ?_
      refine zx_getD zf_X3_22 (by assumption) rfl dX3_stand_45 ?_
      refine zx_aload_n dX3_stand_48 rfl rfl ?_
      refine zx_getR zf_X3_9 (by assumption) (hRz _) rfl dX3_stand_49 ?_
      refine zx_iload_n dX3_stand_52 rfl rfl ?_
      refine zx_dald k (by assumption) rfl ⟨by rw [hlz]; exact hk, by rw [hlz]; decide⟩ dX3_stand_53 ?_
      refine zx_dload_n dX3_stand_54 rfl rfl ?_
      refine zx_sipush 3600 dX3_stand_55 (by decide) ?_
      refine zx_iload_n dX3_stand_58 rfl rfl ?_
      refine zx_iconst 1 dX3_stand_59 (by decide) ?_
      refine zx_iadd dX3_stand_60 ?_
      refine zx_imul dX3_stand_61 ?_
      refine zx_i2d dX3_stand_62 ?_
      refine zx_ddiv dX3_stand_63 ?_
      refine zx_aload_n dX3_stand_64 rfl rfl ?_
      refine zx_getR zf_X3_15 (by assumption) (hRp _) rfl dX3_stand_65 ?_
      refine zx_iload_n dX3_stand_68 rfl rfl ?_
      refine zx_dald k (by assumption) rfl ⟨by rw [hlp]; exact hk, by rw [hlp]; decide⟩ dX3_stand_69 ?_
      refine zx_dadd dX3_stand_70 ?_
      refine zx_callN1 _ zn_X3_26 m_X6_saw rfl rfl ⟨rfl, rfl, (Nat.le_of_ble_eq_true rfl), (Nat.le_of_ble_eq_true rfl)⟩ (Nat.le_of_ble_eq_true rfl) dX3_stand_71 ?_
      refine zx_dmul dX3_stand_74 ?_
      refine zx_dadd dX3_stand_75 ?_
      refine zx_putD zf_X3_22 (by assumption) rfl dX3_stand_76 ?_
      refine zx_iinc (nI (k + 1)) dX3_stand_79 rfl (by exact nI_1 k) (Nat.le_of_ble_eq_true rfl) ?_
      refine zx_goto (tgt := 7) dX3_stand_82 (by decide) ?_
      exact zWA_to (zWA_mem hn (by show u_stand1 s sz ph t k (zit (u_stand1 s sz ph t) k μ) = _; exact if_pos c_39)) ⟨rfl, rfl, rfl, trivial⟩

set_option maxHeartbeats 4000000 in
set_option maxRecDepth 100000 in
theorem m_X3_stand {g : ZG} {μ : ZMem} {s sz ph : Nat} (hO : zO g 3 s) (hW : zWf g μ) (hz : zR μ s 0 = some sz) (hp : zR μ s 1 = some ph) (hlz : zln g sz = 8) (hlp : zln g ph = 8) {t : UInt64} : zCab g RX3 yX3_stand cX3_stand 4 none (zrm 1) [zr (some s), zd t] μ none (u_stand μ s sz ph t) := by
  refine zCab_w (by decide +kernel) rfl (Nat.le_of_ble_eq_true rfl) ?_
  refine zx_aload_n dX3_stand_0 rfl rfl ?_
  refine zx_dconst0 dX3_stand_1 ?_
  refine zx_putD zf_X3_22 (by assumption) rfl dX3_stand_2 ?_
  refine zx_iconst 0 dX3_stand_5 (by decide) ?_
  refine zx_istore_n dX3_stand_6 rfl (Nat.le_of_ble_eq_true rfl) ?_
  by_cases c_11 : zI μ s 2 = 0
  · refine zx_aload_n dX3_stand_7 rfl rfl ?_
    refine zx_getI zf_X3_18 (by assumption) (Or.inr rfl) dX3_stand_8 ?_
    refine zx_if_eq (tgt := 85) dX3_stand_11 (by decide) (fun _ => ?_) (fun h_ => absurd c_11 h_)
    exact zx_return rfl rfl (by show u_stand μ s sz ph t = _; unfold u_stand; rw [if_pos c_11]) dX3_stand_85
  · refine zWA_to (L_X3_stand (μ := zsD μ s 3 0) (s := s) (sz := sz) (ph := ph) hO hW hz hp hlz hlp c_11 ?_) ⟨rfl, rfl, rfl, trivial⟩
    exact zWA_mem (zx_return rfl rfl rfl dX3_stand_85) (by show u_stand μ s sz ph t = _; unfold u_stand; rw [if_neg c_11])
end
section
/-! how the class lies in its world: kinds, lengths, which roles are there, and what the references that never change hold -/
def kdC (r : Nat) : Nat :=
  if r < 21 then [6, 12, 13, 15, 8, 8, 14, 16, 5, 8, 8, 17, 8, 8, 8, 8, 8, 8, 11, 8, 8].getD r 99
  else if 30 ≤ r ∧ r < 34 then 3 else if 40 ≤ r ∧ r < 44 then 8 else if 50 ≤ r ∧ r < 54 then 8 else if 60 ≤ r ∧ r < 70 then 2 else if 70 ≤ r ∧ r < 80 then 10 else if 80 ≤ r ∧ r < 84 then 4
  else if 100 ≤ r ∧ r < 140 then (if r % 10 = 0 ∨ r % 10 = 5 ∨ r % 10 = 6 then 10 else 8) else if 1000 ≤ r ∧ r < 2000 then 0 else if 2000 ≤ r ∧ r < 3000 then 1 else 99
def lnC (N F r : Nat) : Nat :=
  if r < 21 then [0, N, F, 4, 24, 24, 10, 4, 0, 40, 40, 5, 5, 5, 5, 5, 5, 5, 5, 5, 5].getD r 0
  else if 40 ≤ r ∧ r < 60 then 8 else if 70 ≤ r ∧ r < 80 then 8
  else if 100 ≤ r ∧ r < 140 then (if r % 10 < 4 then N else if r % 10 = 4 then F else if r % 10 = 5 then 80 else 4) else 0
def liveC (N F r : Nat) : Prop := r < 21 ∨ (30 ≤ r ∧ r < 34) ∨ (40 ≤ r ∧ r < 44) ∨ (50 ≤ r ∧ r < 54) ∨ (60 ≤ r ∧ r < 84) ∨ (100 ≤ r ∧ r < 140 ∧ r % 10 < 7) ∨ (1000 ≤ r ∧ r < 1000 + N) ∨ (2000 ≤ r ∧ r < 2000 + F)
def zGC (g : ZG) (N F : Nat) : Prop := N ≤ 144 ∧ F ≤ 400 ∧ ∀ r, liveC N F r → r ∈ zrs g ∧ zkd g r = kdC r ∧ zln g r = lnC N F r
theorem zGC.o {g : ZG} {N F : Nat} (h : zGC g N F) {r : Nat} (kd : Nat) (hl : liveC N F r) (hk : kdC r = kd) : zO g kd r := ⟨(h.2.2 r hl).1, (h.2.2 r hl).2.1.trans hk⟩
theorem zGC.l {g : ZG} {N F : Nat} (h : zGC g N F) {r : Nat} (n : Nat) (hl : liveC N F r) (hk : lnC N F r = n) : zln g r = n := (h.2.2 r hl).2.2.trans hk
theorem zGC.fix {g : ZG} {N F : Nat} (h : zGC g N F) (r : Nat) (hr : r < 21) : zO g (kdC r) r := h.o _ (Or.inl hr) rfl
theorem zGC.cell {g : ZG} {N F : Nat} (h : zGC g N F) {k : Nat} (hk : k < N) : zO g 0 (1000 + k) := h.o 0 (by unfold liveC; omega) (by
  have := h.1
  unfold kdC
  rw [if_neg (by omega), if_neg (by omega), if_neg (by omega), if_neg (by omega), if_neg (by omega), if_neg (by omega), if_neg (by omega), if_neg (by omega), if_pos (by omega)])
theorem zGC.face {g : ZG} {N F : Nat} (h : zGC g N F) {k : Nat} (hk : k < F) : zO g 1 (2000 + k) := h.o 1 (by unfold liveC; omega) (by
  have := h.2.1
  unfold kdC
  rw [if_neg (by omega), if_neg (by omega), if_neg (by omega), if_neg (by omega), if_neg (by omega), if_neg (by omega), if_neg (by omega), if_neg (by omega), if_neg (by omega), if_pos (by omega)])
theorem zGC.side {g : ZG} {N F : Nat} (h : zGC g N F) {k : Nat} (hk : k < 4) : zO g 3 (30 + k) := h.o 3 (by unfold liveC; omega) (by
  unfold kdC
  rw [if_neg (by omega), if_pos (by omega)])
theorem zGC.size {g : ZG} {N F : Nat} (h : zGC g N F) {k : Nat} (hk : k < 4) : zO g 8 (40 + k) ∧ zln g (40 + k) = 8 := ⟨h.o 8 (by unfold liveC; omega) (by
  unfold kdC
  rw [if_neg (by omega), if_neg (by omega), if_pos (by omega)]), h.l 8 (by unfold liveC; omega) (by unfold lnC; rw [if_neg (by omega), if_pos (by omega)])⟩
theorem zGC.phase {g : ZG} {N F : Nat} (h : zGC g N F) {k : Nat} (hk : k < 4) : zO g 8 (50 + k) ∧ zln g (50 + k) = 8 := ⟨h.o 8 (by unfold liveC; omega) (by
  unfold kdC
  rw [if_neg (by omega), if_neg (by omega), if_neg (by omega), if_pos (by omega)]), h.l 8 (by unfold liveC; omega) (by unfold lnC; rw [if_neg (by omega), if_pos (by omega)])⟩
theorem zGC.nest {g : ZG} {N F : Nat} (h : zGC g N F) {k : Nat} (hk : k < 10) : zO g 2 (60 + k) := h.o 2 (by unfold liveC; omega) (by
  unfold kdC
  rw [if_neg (by omega), if_neg (by omega), if_neg (by omega), if_neg (by omega), if_pos (by omega)])
theorem zGC.share {g : ZG} {N F : Nat} (h : zGC g N F) {k : Nat} (hk : k < 10) : zO g 10 (70 + k) ∧ zln g (70 + k) = 8 := ⟨h.o 10 (by unfold liveC; omega) (by
  unfold kdC
  rw [if_neg (by omega), if_neg (by omega), if_neg (by omega), if_neg (by omega), if_neg (by omega), if_pos (by omega)]), h.l 8 (by unfold liveC; omega) (by unfold lnC; rw [if_neg (by omega), if_neg (by omega), if_pos (by omega)])⟩
theorem zGC.state {g : ZG} {N F : Nat} (h : zGC g N F) {k : Nat} (hk : k < 4) : zO g 4 (80 + k) := h.o 4 (by unfold liveC; omega) (by
  unfold kdC
  rw [if_neg (by omega), if_neg (by omega), if_neg (by omega), if_neg (by omega), if_neg (by omega), if_neg (by omega), if_pos (by omega)])
theorem zGC.kept {g : ZG} {N F : Nat} (h : zGC g N F) {i j : Nat} (hi : i < 4) (hj : j < 7) : zO g (if j = 0 ∨ j = 5 ∨ j = 6 then 10 else 8) (100 + 10 * i + j) ∧ zln g (100 + 10 * i + j) = (if j < 4 then N else if j = 4 then F else if j = 5 then 80 else 4) := by
  have e : (100 + 10 * i + j) % 10 = j := by omega
  refine ⟨h.o _ (by unfold liveC; omega) ?_, h.l _ (by unfold liveC; omega) ?_⟩
  · unfold kdC
    rw [if_neg (by omega), if_neg (by omega), if_neg (by omega), if_neg (by omega), if_neg (by omega), if_neg (by omega), if_neg (by omega), if_pos (by omega), e]
  · unfold lnC
    rw [if_neg (by omega), if_neg (by omega), if_neg (by omega), if_pos (by omega), e]
/-- the faces of a sea, by their numbers: those of axis 0, those of axis 1, then the sides' -/
def fc0 (w h : Nat) : Nat := (w - 1) * h
def fc1 (w h : Nat) : Nat := fc0 w h + w * (h - 1)
def fcA (w h : Nat) : Nat := fc1 w h + 2 * w + 2 * h
def fBef (w h n : Nat) : Option Nat :=
  if n < fc0 w h then some (1000 + (n / (w - 1) * w + n % (w - 1)))
  else if n < fc1 w h then some (1000 + (n - fc0 w h))
  else if n < fc1 w h + h then none
  else if n < fc1 w h + 2 * h then some (1000 + ((n - fc1 w h - h) * w + w - 1))
  else if n < fc1 w h + 2 * h + w then none
  else some (1000 + ((h - 1) * w + (n - fc1 w h - 2 * h - w)))
def fBeh (w h n : Nat) : Option Nat :=
  if n < fc0 w h then some (1000 + (n / (w - 1) * w + n % (w - 1) + 1))
  else if n < fc1 w h then some (1000 + (n - fc0 w h + w))
  else if n < fc1 w h + h then some (1000 + (n - fc1 w h) * w)
  else if n < fc1 w h + 2 * h then none
  else if n < fc1 w h + 2 * h + w then some (1000 + (n - fc1 w h - 2 * h))
  else none
def fSid (w h n : Nat) : Option Nat :=
  if n < fc1 w h then none
  else if n < fc1 w h + h then some 30
  else if n < fc1 w h + 2 * h then some 31
  else if n < fc1 w h + 2 * h + w then some 32
  else some 33
def fAxi (w h n : Nat) : Int32 :=
  if n < fc0 w h then 0 else if n < fc1 w h then 1 else if n < fc1 w h + 2 * h then 0 else 1
/-- what the references that never change hold -/
def zLC (w h : Nat) (ly : Int32) (μ : ZMem) : Prop :=
  (∀ k, k < 8 → zR μ 0 (3 + k) = some (1 + k)) ∧ (∀ k, k < w * h → zR μ 1 k = some (1000 + k)) ∧ (∀ n, n < fcA w h → zR μ 2 n = some (2000 + n)) ∧ (∀ k, k < 4 → zR μ 3 k = some (30 + k) ∧ zR μ (30 + k) 0 = some (40 + k) ∧ zR μ (30 + k) 1 = some (50 + k)) ∧
  (∀ k, k < 10 → zR μ 6 k = some (60 + k) ∧ zR μ (60 + k) 0 = some (70 + k)) ∧ (∀ k, k < 4 → zR μ 7 k = some (80 + k) ∧ ∀ j, j < 7 → zR μ (80 + k) j = some (100 + 10 * k + j)) ∧
  (zR μ 8 0 = some 9 ∧ zR μ 8 1 = some 10 ∧ zR μ 8 2 = some 11 ∧ zR μ 8 3 = some 17 ∧ zR μ 8 4 = some 18 ∧ zR μ 8 5 = some 19 ∧ zR μ 8 6 = some 20 ∧ ∀ k, k < 5 → zR μ 11 k = some (12 + k)) ∧
  (∀ n, n < fcA w h → zR μ (2000 + n) 0 = fBef w h n ∧ zR μ (2000 + n) 1 = fBeh w h n ∧ zR μ (2000 + n) 2 = fSid w h n ∧ zI μ (2000 + n) 3 = fAxi w h n) ∧
  zI μ 0 0 = nI w ∧ zI μ 0 1 = nI h ∧ zI μ 0 2 = ly ∧ 1 ≤ w ∧ w ≤ 12 ∧ 1 ≤ h ∧ h ≤ 12
theorem zLC.R0 {w h : Nat} {ly : Int32} {μ : ZMem} (H : zLC w h ly μ) {k : Nat} (hk : 3 ≤ k ∧ k < 11) : zR μ 0 k = some (k - 2) := by
  have := H.1 (k - 3) (by omega)
  rw [show 3 + (k - 3) = k by omega, show 1 + (k - 3) = k - 2 by omega] at this
  exact this
end
section
def s_minN (a b : Int32) : Int32 := s_min32 a b
set_option maxHeartbeats 4000000 in
set_option maxRecDepth 100000 in
theorem m_X4_cellsIn {g : ZG} {μ : ZMem} {s a N : Nat} (hO : zO g 4 s) (hW : zWf g μ) (ha : zO g 12 a) (hla : zln g a = N) (hN : N ≤ 144) {q : Nat} (hq : zR μ s 0 = some q) (hlq : zln g q = N) : zCab g RX4 yX4_cellsIn cX4_cellsIn 2 ((some FieldType.int)) (zrm 1) [zr (some s), zr (some a)] μ (some (zi (s_min32 (nI N) (nI N)))) μ := by
  refine zCab_w (by decide +kernel) rfl (Nat.le_of_ble_eq_true rfl) ?_
  have hqO : zO g 10 q := hW 4 _ _ _ hO hq
  refine zx_aload_n dX4_cellsIn_0 rfl rfl ?_
  refine zx_alen (nI N) (by assumption) (by decide) (by rw [hla]) dX4_cellsIn_1 ?_
  refine zx_aload_n dX4_cellsIn_2 rfl rfl ?_
  refine zx_getR zf_X4_22 (by assumption) hq rfl dX4_cellsIn_3 ?_
  refine zx_alen (nI N) (by assumption) (by decide) (by rw [hlq]) dX4_cellsIn_6 ?_
  refine zx_callS1 _ zs_X4_66 m_J9_min_7cf53 rfl rfl ⟨rfl, rfl, (Nat.le_of_ble_eq_true rfl), (Nat.le_of_ble_eq_true rfl)⟩ (Nat.le_of_ble_eq_true rfl) dX4_cellsIn_7 ?_
  exact zx_ireturn rfl (by rfl) (by rfl) dX4_cellsIn_10

theorem zmin_self (x : Int32) : s_min32 x x = x := by
  unfold s_min32
  split <;> rfl
def u_keepC1 (q0 q1 q2 q3 k : Nat) (μ : ZMem) : ZMem := zsD (zsD (zsD (zsL μ q0 k (zL μ (1000 + k) 2)) q1 k (zD μ (1000 + k) 3)) q2 k (zD (zsD μ q1 k (zD μ (1000 + k) 3)) (1000 + k) 4)) q3 k (zD (zsD (zsD μ q1 k (zD μ (1000 + k) 3)) q2 k (zD (zsD μ q1 k (zD μ (1000 + k) 3)) (1000 + k) 4)) (1000 + k) 5)
def u_giveC1 (q0 q1 q2 q3 k : Nat) (μ : ZMem) : ZMem := zsD (zsD (zsD (zsL μ (1000 + k) 2 (zL μ q0 k)) (1000 + k) 3 (zD μ q1 k)) (1000 + k) 4 (zD (zsD μ (1000 + k) 3 (zD μ q1 k)) q2 k)) (1000 + k) 5 (zD (zsD (zsD μ (1000 + k) 3 (zD μ q1 k)) (1000 + k) 4 (zD (zsD μ (1000 + k) 3 (zD μ q1 k)) q2 k)) q3 k)
set_option maxHeartbeats 4000000 in
set_option maxRecDepth 100000 in
theorem L_X4_keepCells {g : ZG} {μ : ZMem} {s a N : Nat} (hO : zO g 4 s) (hW : zWf g μ) (ha : zO g 12 a) (hla : zln g a = N) (hN : N ≤ 144) (hce : ∀ k, k < N → zR μ a k = some (1000 + k)) {q0 q1 q2 q3 : Nat} (h0 : zR μ s 0 = some q0) (h1 : zR μ s 1 = some q1) (h2 : zR μ s 2 = some q2) (h3 : zR μ s 3 = some q3) (l0 : zln g q0 = N) (l1 : zln g q1 = N) (l2 : zln g q2 = N) (l3 : zln g q3 = N) {res : Option ZV} {μ' : ZMem} (hx : zWA g (RX4, cX4_keepCells, 3, none, zrm 2, res, μ') 65 (zls [(0, zr (some s)), (1, zr (some a)), (2, zi (nI (N)))]) [] (zit (u_keepC1 q0 q1 q2 q3) (N) μ)) : zWA g (RX4, cX4_keepCells, 3, none, zrm 2, res, μ') 2 (zls [(0, zr (some s)), (1, zr (some a)), (2, zi (nI (0)))]) [] (zit (u_keepC1 q0 q1 q2 q3) (0) μ) := by
  have hO0 : zO g 10 q0 := hW 4 _ _ _ hO h0
  have hO1 : zO g 8 q1 := hW 4 _ _ _ hO h1
  have hO2 : zO g 8 q2 := hW 4 _ _ _ hO h2
  have hO3 : zO g 8 q3 := hW 4 _ _ _ hO h3
  have hR : ∀ k, zR (zit (u_keepC1 q0 q1 q2 q3) k μ) = zR μ := fun k => zit_keep (f := (u_keepC1 q0 q1 q2 q3)) zR (fun _ _ => rfl) k μ
  have hWk : ∀ k, zWf g (zit (u_keepC1 q0 q1 q2 q3) k μ) := fun k => zWf_R hW (fun r j => by rw [hR])
  have hR0 : ∀ k, zR (zit (u_keepC1 q0 q1 q2 q3) k μ) s 0 = some q0 := fun k => by rw [hR]; exact h0
  have hR1 : ∀ k, zR (zit (u_keepC1 q0 q1 q2 q3) k μ) s 1 = some q1 := fun k => by rw [hR]; exact h1
  have hR2 : ∀ k, zR (zit (u_keepC1 q0 q1 q2 q3) k μ) s 2 = some q2 := fun k => by rw [hR]; exact h2
  have hR3 : ∀ k, zR (zit (u_keepC1 q0 q1 q2 q3) k μ) s 3 = some q3 := fun k => by rw [hR]; exact h3
  have hRc : ∀ k, k < N → zR (zit (u_keepC1 q0 q1 q2 q3) k μ) a k = some (1000 + k) := fun k hk => by rw [hR]; exact hce k hk
  refine zloop (P := fun k => zWA g (RX4, cX4_keepCells, 3, none, zrm 2, res, μ') 2 (zls [(0, zr (some s)), (1, zr (some a)), (2, zi (nI (k)))]) [] (zit (u_keepC1 q0 q1 q2 q3) (k) μ)) (N := N) ?_ ?_ 0 (Nat.zero_le _)
  · show zWA _ _ _ _ _ _
    refine zx_iload_n dX4_keepCells_2 rfl rfl ?_
    refine zx_aload_n dX4_keepCells_3 rfl rfl ?_
    refine zx_aload_n dX4_keepCells_4 rfl rfl ?_
    refine zx_callV1 _ zv_X4_38 (m_X4_cellsIn (N := N) hO (hWk _) ha hla hN (hR0 _) l0) (by assumption) (by decide) rfl rfl rfl ⟨rfl, rfl, (Nat.le_of_ble_eq_true rfl), (Nat.le_of_ble_eq_true rfl)⟩ (Nat.le_of_ble_eq_true rfl) dX4_keepCells_5 ?_
    rw [zmin_self]
    refine zx_icmp_ge (tgt := 65) dX4_keepCells_8 (by decide) (fun _ => ?_) (fun h_ => absurd h_ (by simp))
    exact zWA_to hx ⟨rfl, rfl, rfl, trivial⟩
  · intro k hk hn
    show zWA _ _ _ _ _ _
    refine zx_iload_n dX4_keepCells_2 rfl rfl ?_
    refine zx_aload_n dX4_keepCells_3 rfl rfl ?_
    refine zx_aload_n dX4_keepCells_4 rfl rfl ?_
    refine zx_callV1 _ zv_X4_38 (m_X4_cellsIn (N := N) hO (hWk _) ha hla hN (hR0 _) l0) (by assumption) (by decide) rfl rfl rfl ⟨rfl, rfl, (Nat.le_of_ble_eq_true rfl), (Nat.le_of_ble_eq_true rfl)⟩ (Nat.le_of_ble_eq_true rfl) dX4_keepCells_5 ?_
    rw [zmin_self]
    refine zx_icmp_ge (tgt := 65) dX4_keepCells_8 (by decide) (fun h_ => absurd h_ (nI_ge hk (by omega))) (fun _ => ?_)
    refine zx_aload_n dX4_keepCells_11 rfl rfl ?_
    refine zx_getR zf_X4_22 (by assumption) (hR0 _) rfl dX4_keepCells_12 ?_
    refine zx_iload_n dX4_keepCells_15 rfl rfl ?_
    refine zx_aload_n dX4_keepCells_16 rfl rfl ?_
    refine zx_iload_n dX4_keepCells_17 rfl rfl ?_
    refine zx_aald k (by assumption) (by decide) rfl ⟨by rw [hla]; exact hk, by omega⟩ (hRc k hk) dX4_keepCells_18 ?_
    refine zx_getL zf_X4_42 (show zO g 0 (1000 + k) from (hWk k 12 a k _ ha (hRc k hk))) rfl dX4_keepCells_19 ?_
    refine zx_last k (by assumption) rfl ⟨by rw [l0]; exact hk, by omega⟩ dX4_keepCells_22 ?_
    refine zx_aload_n dX4_keepCells_23 rfl rfl ?_
    refine zx_getR zf_X4_25 (by assumption) (hR1 _) rfl dX4_keepCells_24 ?_
    refine zx_iload_n dX4_keepCells_27 rfl rfl ?_
    refine zx_aload_n dX4_keepCells_28 rfl rfl ?_
    refine zx_iload_n dX4_keepCells_29 rfl rfl ?_
    refine zx_aald k (by assumption) (by decide) rfl ⟨by rw [hla]; exact hk, by omega⟩ (hRc k hk) dX4_keepCells_30 ?_
    refine zx_getD zf_X4_47 (show zO g 0 (1000 + k) from (hWk k 12 a k _ ha (hRc k hk))) rfl dX4_keepCells_31 ?_
    refine zx_dast k (by assumption) rfl ⟨by rw [l1]; exact hk, by omega⟩ dX4_keepCells_34 ?_
    refine zx_aload_n dX4_keepCells_35 rfl rfl ?_
    refine zx_getR zf_X4_29 (by assumption) (hR2 _) rfl dX4_keepCells_36 ?_
    refine zx_iload_n dX4_keepCells_39 rfl rfl ?_
    refine zx_aload_n dX4_keepCells_40 rfl rfl ?_
    refine zx_iload_n dX4_keepCells_41 rfl rfl ?_
    refine zx_aald k (by assumption) (by decide) rfl ⟨by rw [hla]; exact hk, by omega⟩ (hRc k hk) dX4_keepCells_42 ?_
    refine zx_getD zf_X4_50 (show zO g 0 (1000 + k) from (hWk k 12 a k _ ha (hRc k hk))) rfl dX4_keepCells_43 ?_
    refine zx_dast k (by assumption) rfl ⟨by rw [l2]; exact hk, by omega⟩ dX4_keepCells_46 ?_
    refine zx_aload_n dX4_keepCells_47 rfl rfl ?_
    refine zx_getR zf_X4_32 (by assumption) (hR3 _) rfl dX4_keepCells_48 ?_
    refine zx_iload_n dX4_keepCells_51 rfl rfl ?_
    refine zx_aload_n dX4_keepCells_52 rfl rfl ?_
    refine zx_iload_n dX4_keepCells_53 rfl rfl ?_
    refine zx_aald k (by assumption) (by decide) rfl ⟨by rw [hla]; exact hk, by omega⟩ (hRc k hk) dX4_keepCells_54 ?_
    refine zx_getD zf_X4_52 (show zO g 0 (1000 + k) from (hWk k 12 a k _ ha (hRc k hk))) rfl dX4_keepCells_55 ?_
    refine zx_dast k (by assumption) rfl ⟨by rw [l3]; exact hk, by omega⟩ dX4_keepCells_58 ?_
    refine zx_iinc (nI (k + 1)) dX4_keepCells_59 rfl (by exact nI_1 k) (Nat.le_of_ble_eq_true rfl) ?_
    refine zx_goto (tgt := 2) dX4_keepCells_62 (by decide) ?_
    exact zWA_to (zWA_mem hn (by rfl)) ⟨rfl, rfl, rfl, trivial⟩

set_option maxHeartbeats 4000000 in
set_option maxRecDepth 100000 in
theorem m_X4_keepCells {g : ZG} {μ : ZMem} {s a N : Nat} (hO : zO g 4 s) (hW : zWf g μ) (ha : zO g 12 a) (hla : zln g a = N) (hN : N ≤ 144) (hce : ∀ k, k < N → zR μ a k = some (1000 + k)) {q0 q1 q2 q3 : Nat} (h0 : zR μ s 0 = some q0) (h1 : zR μ s 1 = some q1) (h2 : zR μ s 2 = some q2) (h3 : zR μ s 3 = some q3) (l0 : zln g q0 = N) (l1 : zln g q1 = N) (l2 : zln g q2 = N) (l3 : zln g q3 = N) : zCab g RX4 yX4_keepCells cX4_keepCells 3 (none) (zrm 2) [zr (some s), zr (some a)] μ none (zit (u_keepC1 q0 q1 q2 q3) N μ) := by
  refine zCab_w (by decide +kernel) rfl (Nat.le_of_ble_eq_true rfl) ?_
  refine zx_iconst 0 dX4_keepCells_0 (by decide) ?_
  refine zx_istore_n dX4_keepCells_1 rfl (Nat.le_of_ble_eq_true rfl) ?_
  exact zWA_to (L_X4_keepCells (N := N) hO hW ha hla hN hce h0 h1 h2 h3 l0 l1 l2 l3 (zx_return rfl rfl rfl dX4_keepCells_65)) ⟨rfl, rfl, rfl, trivial⟩

set_option maxHeartbeats 4000000 in
set_option maxRecDepth 100000 in
theorem L_X4_giveCells {g : ZG} {μ : ZMem} {s a N : Nat} (hO : zO g 4 s) (hW : zWf g μ) (ha : zO g 12 a) (hla : zln g a = N) (hN : N ≤ 144) (hce : ∀ k, k < N → zR μ a k = some (1000 + k)) {q0 q1 q2 q3 : Nat} (h0 : zR μ s 0 = some q0) (h1 : zR μ s 1 = some q1) (h2 : zR μ s 2 = some q2) (h3 : zR μ s 3 = some q3) (l0 : zln g q0 = N) (l1 : zln g q1 = N) (l2 : zln g q2 = N) (l3 : zln g q3 = N) {res : Option ZV} {μ' : ZMem} (hx : zWA g (RX4, cX4_giveCells, 3, none, zrm 2, res, μ') 65 (zls [(0, zr (some s)), (1, zr (some a)), (2, zi (nI (N)))]) [] (zit (u_giveC1 q0 q1 q2 q3) (N) μ)) : zWA g (RX4, cX4_giveCells, 3, none, zrm 2, res, μ') 2 (zls [(0, zr (some s)), (1, zr (some a)), (2, zi (nI (0)))]) [] (zit (u_giveC1 q0 q1 q2 q3) (0) μ) := by
  have hO0 : zO g 10 q0 := hW 4 _ _ _ hO h0
  have hO1 : zO g 8 q1 := hW 4 _ _ _ hO h1
  have hO2 : zO g 8 q2 := hW 4 _ _ _ hO h2
  have hO3 : zO g 8 q3 := hW 4 _ _ _ hO h3
  have hR : ∀ k, zR (zit (u_giveC1 q0 q1 q2 q3) k μ) = zR μ := fun k => zit_keep (f := (u_giveC1 q0 q1 q2 q3)) zR (fun _ _ => rfl) k μ
  have hWk : ∀ k, zWf g (zit (u_giveC1 q0 q1 q2 q3) k μ) := fun k => zWf_R hW (fun r j => by rw [hR])
  have hR0 : ∀ k, zR (zit (u_giveC1 q0 q1 q2 q3) k μ) s 0 = some q0 := fun k => by rw [hR]; exact h0
  have hR1 : ∀ k, zR (zit (u_giveC1 q0 q1 q2 q3) k μ) s 1 = some q1 := fun k => by rw [hR]; exact h1
  have hR2 : ∀ k, zR (zit (u_giveC1 q0 q1 q2 q3) k μ) s 2 = some q2 := fun k => by rw [hR]; exact h2
  have hR3 : ∀ k, zR (zit (u_giveC1 q0 q1 q2 q3) k μ) s 3 = some q3 := fun k => by rw [hR]; exact h3
  have hRc : ∀ k, k < N → zR (zit (u_giveC1 q0 q1 q2 q3) k μ) a k = some (1000 + k) := fun k hk => by rw [hR]; exact hce k hk
  refine zloop (P := fun k => zWA g (RX4, cX4_giveCells, 3, none, zrm 2, res, μ') 2 (zls [(0, zr (some s)), (1, zr (some a)), (2, zi (nI (k)))]) [] (zit (u_giveC1 q0 q1 q2 q3) (k) μ)) (N := N) ?_ ?_ 0 (Nat.zero_le _)
  · show zWA _ _ _ _ _ _
    refine zx_iload_n dX4_giveCells_2 rfl rfl ?_
    refine zx_aload_n dX4_giveCells_3 rfl rfl ?_
    refine zx_aload_n dX4_giveCells_4 rfl rfl ?_
    refine zx_callV1 _ zv_X4_38 (m_X4_cellsIn (N := N) hO (hWk _) ha hla hN (hR0 _) l0) (by assumption) (by decide) rfl rfl rfl ⟨rfl, rfl, (Nat.le_of_ble_eq_true rfl), (Nat.le_of_ble_eq_true rfl)⟩ (Nat.le_of_ble_eq_true rfl) dX4_giveCells_5 ?_
    rw [zmin_self]
    refine zx_icmp_ge (tgt := 65) dX4_giveCells_8 (by decide) (fun _ => ?_) (fun h_ => absurd h_ (by simp))
    exact zWA_to hx ⟨rfl, rfl, rfl, trivial⟩
  · intro k hk hn
    show zWA _ _ _ _ _ _
    refine zx_iload_n dX4_giveCells_2 rfl rfl ?_
    refine zx_aload_n dX4_giveCells_3 rfl rfl ?_
    refine zx_aload_n dX4_giveCells_4 rfl rfl ?_
    refine zx_callV1 _ zv_X4_38 (m_X4_cellsIn (N := N) hO (hWk _) ha hla hN (hR0 _) l0) (by assumption) (by decide) rfl rfl rfl ⟨rfl, rfl, (Nat.le_of_ble_eq_true rfl), (Nat.le_of_ble_eq_true rfl)⟩ (Nat.le_of_ble_eq_true rfl) dX4_giveCells_5 ?_
    rw [zmin_self]
    refine zx_icmp_ge (tgt := 65) dX4_giveCells_8 (by decide) (fun h_ => absurd h_ (nI_ge hk (by omega))) (fun _ => ?_)
    refine zx_aload_n dX4_giveCells_11 rfl rfl ?_
    refine zx_iload_n dX4_giveCells_12 rfl rfl ?_
    refine zx_aald k (by assumption) (by decide) rfl ⟨by rw [hla]; exact hk, by omega⟩ (hRc k hk) dX4_giveCells_13 ?_
    refine zx_aload_n dX4_giveCells_14 rfl rfl ?_
    refine zx_getR zf_X4_22 (by assumption) (hR0 _) rfl dX4_giveCells_15 ?_
    refine zx_iload_n dX4_giveCells_18 rfl rfl ?_
    refine zx_lald k (by assumption) rfl ⟨by rw [l0]; exact hk, by omega⟩ dX4_giveCells_19 ?_
    refine zx_putL zf_X4_42 (show zO g 0 (1000 + k) from (hWk k 12 a k _ ha (hRc k hk))) rfl dX4_giveCells_20 ?_
    refine zx_aload_n dX4_giveCells_23 rfl rfl ?_
    refine zx_iload_n dX4_giveCells_24 rfl rfl ?_
    refine zx_aald k (by assumption) (by decide) rfl ⟨by rw [hla]; exact hk, by omega⟩ (hRc k hk) dX4_giveCells_25 ?_
    refine zx_aload_n dX4_giveCells_26 rfl rfl ?_
    refine zx_getR zf_X4_25 (by assumption) (hR1 _) rfl dX4_giveCells_27 ?_
    refine zx_iload_n dX4_giveCells_30 rfl rfl ?_
    refine zx_dald k (by assumption) rfl ⟨by rw [l1]; exact hk, by omega⟩ dX4_giveCells_31 ?_
    refine zx_putD zf_X4_47 (show zO g 0 (1000 + k) from (hWk k 12 a k _ ha (hRc k hk))) rfl dX4_giveCells_32 ?_
    refine zx_aload_n dX4_giveCells_35 rfl rfl ?_
    refine zx_iload_n dX4_giveCells_36 rfl rfl ?_
    refine zx_aald k (by assumption) (by decide) rfl ⟨by rw [hla]; exact hk, by omega⟩ (hRc k hk) dX4_giveCells_37 ?_
    refine zx_aload_n dX4_giveCells_38 rfl rfl ?_
    refine zx_getR zf_X4_29 (by assumption) (hR2 _) rfl dX4_giveCells_39 ?_
    refine zx_iload_n dX4_giveCells_42 rfl rfl ?_
    refine zx_dald k (by assumption) rfl ⟨by rw [l2]; exact hk, by omega⟩ dX4_giveCells_43 ?_
    refine zx_putD zf_X4_50 (show zO g 0 (1000 + k) from (hWk k 12 a k _ ha (hRc k hk))) rfl dX4_giveCells_44 ?_
    refine zx_aload_n dX4_giveCells_47 rfl rfl ?_
    refine zx_iload_n dX4_giveCells_48 rfl rfl ?_
    refine zx_aald k (by assumption) (by decide) rfl ⟨by rw [hla]; exact hk, by omega⟩ (hRc k hk) dX4_giveCells_49 ?_
    refine zx_aload_n dX4_giveCells_50 rfl rfl ?_
    refine zx_getR zf_X4_32 (by assumption) (hR3 _) rfl dX4_giveCells_51 ?_
    refine zx_iload_n dX4_giveCells_54 rfl rfl ?_
    refine zx_dald k (by assumption) rfl ⟨by rw [l3]; exact hk, by omega⟩ dX4_giveCells_55 ?_
    refine zx_putD zf_X4_52 (show zO g 0 (1000 + k) from (hWk k 12 a k _ ha (hRc k hk))) rfl dX4_giveCells_56 ?_
    refine zx_iinc (nI (k + 1)) dX4_giveCells_59 rfl (by exact nI_1 k) (Nat.le_of_ble_eq_true rfl) ?_
    refine zx_goto (tgt := 2) dX4_giveCells_62 (by decide) ?_
    exact zWA_to (zWA_mem hn (by rfl)) ⟨rfl, rfl, rfl, trivial⟩

set_option maxHeartbeats 4000000 in
set_option maxRecDepth 100000 in
theorem m_X4_giveCells {g : ZG} {μ : ZMem} {s a N : Nat} (hO : zO g 4 s) (hW : zWf g μ) (ha : zO g 12 a) (hla : zln g a = N) (hN : N ≤ 144) (hce : ∀ k, k < N → zR μ a k = some (1000 + k)) {q0 q1 q2 q3 : Nat} (h0 : zR μ s 0 = some q0) (h1 : zR μ s 1 = some q1) (h2 : zR μ s 2 = some q2) (h3 : zR μ s 3 = some q3) (l0 : zln g q0 = N) (l1 : zln g q1 = N) (l2 : zln g q2 = N) (l3 : zln g q3 = N) : zCab g RX4 yX4_giveCells cX4_giveCells 3 (none) (zrm 2) [zr (some s), zr (some a)] μ none (zit (u_giveC1 q0 q1 q2 q3) N μ) := by
  refine zCab_w (by decide +kernel) rfl (Nat.le_of_ble_eq_true rfl) ?_
  refine zx_iconst 0 dX4_giveCells_0 (by decide) ?_
  refine zx_istore_n dX4_giveCells_1 rfl (Nat.le_of_ble_eq_true rfl) ?_
  exact zWA_to (L_X4_giveCells (N := N) hO hW ha hla hN hce h0 h1 h2 h3 l0 l1 l2 l3 (zx_return rfl rfl rfl dX4_giveCells_65)) ⟨rfl, rfl, rfl, trivial⟩

def u_keepF1 (q k : Nat) (μ : ZMem) : ZMem := zsD μ q k (zD μ (2000 + k) 4)
set_option maxHeartbeats 4000000 in
set_option maxRecDepth 100000 in
theorem L_X4_keepFaces {g : ZG} {μ : ZMem} {s a N : Nat} (hO : zO g 4 s) (hW : zWf g μ) (ha : zO g 13 a) (hla : zln g a = N) (hN : N ≤ 400) (hce : ∀ k, k < N → zR μ a k = some (2000 + k)) {q : Nat} (h0 : zR μ s 4 = some q) (l0 : zln g q = N) {res : Option ZV} {μ' : ZMem} (hx : zWA g (RX4, cX4_keepFaces, 3, none, zrm 1, res, μ') 35 (zls [(0, zr (some s)), (1, zr (some a)), (2, zi (nI (N)))]) [] (zit (u_keepF1 q) (N) μ)) : zWA g (RX4, cX4_keepFaces, 3, none, zrm 1, res, μ') 2 (zls [(0, zr (some s)), (1, zr (some a)), (2, zi (nI (0)))]) [] (zit (u_keepF1 q) (0) μ) := by
  have hO0 : zO g 8 q := hW 4 _ _ _ hO h0
  have hR : ∀ k, zR (zit (u_keepF1 q) k μ) = zR μ := fun k => zit_keep (f := (u_keepF1 q)) zR (fun _ _ => rfl) k μ
  have hWk : ∀ k, zWf g (zit (u_keepF1 q) k μ) := fun k => zWf_R hW (fun r j => by rw [hR])
  have hR0 : ∀ k, zR (zit (u_keepF1 q) k μ) s 4 = some q := fun k => by rw [hR]; exact h0
  have hRc : ∀ k, k < N → zR (zit (u_keepF1 q) k μ) a k = some (2000 + k) := fun k hk => by rw [hR]; exact hce k hk
  refine zloop (P := fun k => zWA g (RX4, cX4_keepFaces, 3, none, zrm 1, res, μ') 2 (zls [(0, zr (some s)), (1, zr (some a)), (2, zi (nI (k)))]) [] (zit (u_keepF1 q) (k) μ)) (N := N) ?_ ?_ 0 (Nat.zero_le _)
  · show zWA _ _ _ _ _ _
    refine zx_iload_n dX4_keepFaces_2 rfl rfl ?_
    refine zx_aload_n dX4_keepFaces_3 rfl rfl ?_
    refine zx_alen (nI N) (by assumption) (by decide) (by first | rw [hla] | rw [l0]) dX4_keepFaces_4 ?_
    refine zx_icmp_ge (tgt := 35) dX4_keepFaces_5 (by decide) (fun _ => ?_) (fun h_ => absurd h_ (by simp))
    exact zWA_to hx ⟨rfl, rfl, rfl, trivial⟩
  · intro k hk hn
    show zWA _ _ _ _ _ _
    refine zx_iload_n dX4_keepFaces_2 rfl rfl ?_
    refine zx_aload_n dX4_keepFaces_3 rfl rfl ?_
    refine zx_alen (nI N) (by assumption) (by decide) (by first | rw [hla] | rw [l0]) dX4_keepFaces_4 ?_
    refine zx_icmp_ge (tgt := 35) dX4_keepFaces_5 (by decide) (fun h_ => absurd h_ (nI_ge hk (by omega))) (fun _ => ?_)
    refine zx_iload_n dX4_keepFaces_8 rfl rfl ?_
    refine zx_aload_n dX4_keepFaces_9 rfl rfl ?_
    refine zx_getR zf_X4_35 (by assumption) (hR0 _) rfl dX4_keepFaces_10 ?_
    refine zx_alen (nI N) (by assumption) (by decide) (by first | rw [hla] | rw [l0]) dX4_keepFaces_13 ?_
    refine zx_icmp_ge (tgt := 35) dX4_keepFaces_14 (by decide) (fun h_ => absurd h_ (nI_ge hk (by omega))) (fun _ => ?_)
    refine zx_aload_n dX4_keepFaces_17 rfl rfl ?_
    refine zx_getR zf_X4_35 (by assumption) (hR0 _) rfl dX4_keepFaces_18 ?_
    refine zx_iload_n dX4_keepFaces_21 rfl rfl ?_
    refine zx_aload_n dX4_keepFaces_22 rfl rfl ?_
    refine zx_iload_n dX4_keepFaces_23 rfl rfl ?_
    refine zx_aald k (by assumption) (by decide) rfl ⟨by rw [hla]; exact hk, by omega⟩ (hRc k hk) dX4_keepFaces_24 ?_
    refine zx_getD zf_X4_54 (show zO g 1 (2000 + k) from (hWk k 13 a k _ ha (hRc k hk))) rfl dX4_keepFaces_25 ?_
    refine zx_dast k (by assumption) rfl ⟨by rw [l0]; exact hk, by omega⟩ dX4_keepFaces_28 ?_
    refine zx_iinc (nI (k + 1)) dX4_keepFaces_29 rfl (by exact nI_1 k) (Nat.le_of_ble_eq_true rfl) ?_
    refine zx_goto (tgt := 2) dX4_keepFaces_32 (by decide) ?_
    exact zWA_to (zWA_mem hn (by rfl)) ⟨rfl, rfl, rfl, trivial⟩

set_option maxHeartbeats 4000000 in
set_option maxRecDepth 100000 in
theorem m_X4_keepFaces {g : ZG} {μ : ZMem} {s a N : Nat} (hO : zO g 4 s) (hW : zWf g μ) (ha : zO g 13 a) (hla : zln g a = N) (hN : N ≤ 400) (hce : ∀ k, k < N → zR μ a k = some (2000 + k)) {q : Nat} (h0 : zR μ s 4 = some q) (l0 : zln g q = N) : zCab g RX4 yX4_keepFaces cX4_keepFaces 3 (none) (zrm 1) [zr (some s), zr (some a)] μ none (zit (u_keepF1 q) N μ) := by
  refine zCab_w (by decide +kernel) rfl (Nat.le_of_ble_eq_true rfl) ?_
  refine zx_iconst 0 dX4_keepFaces_0 (by decide) ?_
  refine zx_istore_n dX4_keepFaces_1 rfl (Nat.le_of_ble_eq_true rfl) ?_
  exact zWA_to (L_X4_keepFaces (N := N) hO hW ha hla hN hce h0 l0 (zx_return rfl rfl rfl dX4_keepFaces_35)) ⟨rfl, rfl, rfl, trivial⟩

def u_giveF1 (q k : Nat) (μ : ZMem) : ZMem := zsD μ (2000 + k) 4 (zD μ q k)
set_option maxHeartbeats 4000000 in
set_option maxRecDepth 100000 in
theorem L_X4_giveFaces {g : ZG} {μ : ZMem} {s a N : Nat} (hO : zO g 4 s) (hW : zWf g μ) (ha : zO g 13 a) (hla : zln g a = N) (hN : N ≤ 400) (hce : ∀ k, k < N → zR μ a k = some (2000 + k)) {q : Nat} (h0 : zR μ s 4 = some q) (l0 : zln g q = N) {res : Option ZV} {μ' : ZMem} (hx : zWA g (RX4, cX4_giveFaces, 3, none, zrm 1, res, μ') 35 (zls [(0, zr (some s)), (1, zr (some a)), (2, zi (nI (N)))]) [] (zit (u_giveF1 q) (N) μ)) : zWA g (RX4, cX4_giveFaces, 3, none, zrm 1, res, μ') 2 (zls [(0, zr (some s)), (1, zr (some a)), (2, zi (nI (0)))]) [] (zit (u_giveF1 q) (0) μ) := by
  have hO0 : zO g 8 q := hW 4 _ _ _ hO h0
  have hR : ∀ k, zR (zit (u_giveF1 q) k μ) = zR μ := fun k => zit_keep (f := (u_giveF1 q)) zR (fun _ _ => rfl) k μ
  have hWk : ∀ k, zWf g (zit (u_giveF1 q) k μ) := fun k => zWf_R hW (fun r j => by rw [hR])
  have hR0 : ∀ k, zR (zit (u_giveF1 q) k μ) s 4 = some q := fun k => by rw [hR]; exact h0
  have hRc : ∀ k, k < N → zR (zit (u_giveF1 q) k μ) a k = some (2000 + k) := fun k hk => by rw [hR]; exact hce k hk
  refine zloop (P := fun k => zWA g (RX4, cX4_giveFaces, 3, none, zrm 1, res, μ') 2 (zls [(0, zr (some s)), (1, zr (some a)), (2, zi (nI (k)))]) [] (zit (u_giveF1 q) (k) μ)) (N := N) ?_ ?_ 0 (Nat.zero_le _)
  · show zWA _ _ _ _ _ _
    refine zx_iload_n dX4_giveFaces_2 rfl rfl ?_
    refine zx_aload_n dX4_giveFaces_3 rfl rfl ?_
    refine zx_alen (nI N) (by assumption) (by decide) (by first | rw [hla] | rw [l0]) dX4_giveFaces_4 ?_
    refine zx_icmp_ge (tgt := 35) dX4_giveFaces_5 (by decide) (fun _ => ?_) (fun h_ => absurd h_ (by simp))
    exact zWA_to hx ⟨rfl, rfl, rfl, trivial⟩
  · intro k hk hn
    show zWA _ _ _ _ _ _
    refine zx_iload_n dX4_giveFaces_2 rfl rfl ?_
    refine zx_aload_n dX4_giveFaces_3 rfl rfl ?_
    refine zx_alen (nI N) (by assumption) (by decide) (by first | rw [hla] | rw [l0]) dX4_giveFaces_4 ?_
    refine zx_icmp_ge (tgt := 35) dX4_giveFaces_5 (by decide) (fun h_ => absurd h_ (nI_ge hk (by omega))) (fun _ => ?_)
    refine zx_iload_n dX4_giveFaces_8 rfl rfl ?_
    refine zx_aload_n dX4_giveFaces_9 rfl rfl ?_
    refine zx_getR zf_X4_35 (by assumption) (hR0 _) rfl dX4_giveFaces_10 ?_
    refine zx_alen (nI N) (by assumption) (by decide) (by first | rw [hla] | rw [l0]) dX4_giveFaces_13 ?_
    refine zx_icmp_ge (tgt := 35) dX4_giveFaces_14 (by decide) (fun h_ => absurd h_ (nI_ge hk (by omega))) (fun _ => ?_)
    refine zx_aload_n dX4_giveFaces_17 rfl rfl ?_
    refine zx_iload_n dX4_giveFaces_18 rfl rfl ?_
    refine zx_aald k (by assumption) (by decide) rfl ⟨by rw [hla]; exact hk, by omega⟩ (hRc k hk) dX4_giveFaces_19 ?_
    refine zx_aload_n dX4_giveFaces_20 rfl rfl ?_
    refine zx_getR zf_X4_35 (by assumption) (hR0 _) rfl dX4_giveFaces_21 ?_
    refine zx_iload_n dX4_giveFaces_24 rfl rfl ?_
    refine zx_dald k (by assumption) rfl ⟨by rw [l0]; exact hk, by omega⟩ dX4_giveFaces_25 ?_
    refine zx_putD zf_X4_54 (show zO g 1 (2000 + k) from (hWk k 13 a k _ ha (hRc k hk))) rfl dX4_giveFaces_26 ?_
    refine zx_iinc (nI (k + 1)) dX4_giveFaces_29 rfl (by exact nI_1 k) (Nat.le_of_ble_eq_true rfl) ?_
    refine zx_goto (tgt := 2) dX4_giveFaces_32 (by decide) ?_
    exact zWA_to (zWA_mem hn (by rfl)) ⟨rfl, rfl, rfl, trivial⟩

set_option maxHeartbeats 4000000 in
set_option maxRecDepth 100000 in
theorem m_X4_giveFaces {g : ZG} {μ : ZMem} {s a N : Nat} (hO : zO g 4 s) (hW : zWf g μ) (ha : zO g 13 a) (hla : zln g a = N) (hN : N ≤ 400) (hce : ∀ k, k < N → zR μ a k = some (2000 + k)) {q : Nat} (h0 : zR μ s 4 = some q) (l0 : zln g q = N) : zCab g RX4 yX4_giveFaces cX4_giveFaces 3 (none) (zrm 1) [zr (some s), zr (some a)] μ none (zit (u_giveF1 q) N μ) := by
  refine zCab_w (by decide +kernel) rfl (Nat.le_of_ble_eq_true rfl) ?_
  refine zx_iconst 0 dX4_giveFaces_0 (by decide) ?_
  refine zx_istore_n dX4_giveFaces_1 rfl (Nat.le_of_ble_eq_true rfl) ?_
  exact zWA_to (L_X4_giveFaces (N := N) hO hW ha hla hN hce h0 l0 (zx_return rfl rfl rfl dX4_giveFaces_35)) ⟨rfl, rfl, rfl, trivial⟩

def u_keepS1 (q k : Nat) (μ : ZMem) : ZMem := zsL μ q k (zL μ (30 + k) 4)
set_option maxHeartbeats 4000000 in
set_option maxRecDepth 100000 in
theorem L_X4_keepSides {g : ZG} {μ : ZMem} {s a N : Nat} (hO : zO g 4 s) (hW : zWf g μ) (ha : zO g 15 a) (hla : zln g a = N) (hN : N ≤ 400) (hce : ∀ k, k < N → zR μ a k = some (30 + k)) {q : Nat} (h0 : zR μ s 6 = some q) (l0 : zln g q = N) {res : Option ZV} {μ' : ZMem} (hx : zWA g (RX4, cX4_keepSides, 3, none, zrm 1, res, μ') 35 (zls [(0, zr (some s)), (1, zr (some a)), (2, zi (nI (N)))]) [] (zit (u_keepS1 q) (N) μ)) : zWA g (RX4, cX4_keepSides, 3, none, zrm 1, res, μ') 2 (zls [(0, zr (some s)), (1, zr (some a)), (2, zi (nI (0)))]) [] (zit (u_keepS1 q) (0) μ) := by
  have hO0 : zO g 10 q := hW 4 _ _ _ hO h0
  have hR : ∀ k, zR (zit (u_keepS1 q) k μ) = zR μ := fun k => zit_keep (f := (u_keepS1 q)) zR (fun _ _ => rfl) k μ
  have hWk : ∀ k, zWf g (zit (u_keepS1 q) k μ) := fun k => zWf_R hW (fun r j => by rw [hR])
  have hR0 : ∀ k, zR (zit (u_keepS1 q) k μ) s 6 = some q := fun k => by rw [hR]; exact h0
  have hRc : ∀ k, k < N → zR (zit (u_keepS1 q) k μ) a k = some (30 + k) := fun k hk => by rw [hR]; exact hce k hk
  refine zloop (P := fun k => zWA g (RX4, cX4_keepSides, 3, none, zrm 1, res, μ') 2 (zls [(0, zr (some s)), (1, zr (some a)), (2, zi (nI (k)))]) [] (zit (u_keepS1 q) (k) μ)) (N := N) ?_ ?_ 0 (Nat.zero_le _)
  · show zWA _ _ _ _ _ _
    refine zx_iload_n dX4_keepSides_2 rfl rfl ?_
    refine zx_aload_n dX4_keepSides_3 rfl rfl ?_
    refine zx_alen (nI N) (by assumption) (by decide) (by first | rw [hla] | rw [l0]) dX4_keepSides_4 ?_
    refine zx_icmp_ge (tgt := 35) dX4_keepSides_5 (by decide) (fun _ => ?_) (fun h_ => absurd h_ (by simp))
    exact zWA_to hx ⟨rfl, rfl, rfl, trivial⟩
  · intro k hk hn
    show zWA _ _ _ _ _ _
    refine zx_iload_n dX4_keepSides_2 rfl rfl ?_
    refine zx_aload_n dX4_keepSides_3 rfl rfl ?_
    refine zx_alen (nI N) (by assumption) (by decide) (by first | rw [hla] | rw [l0]) dX4_keepSides_4 ?_
    refine zx_icmp_ge (tgt := 35) dX4_keepSides_5 (by decide) (fun h_ => absurd h_ (nI_ge hk (by omega))) (fun _ => ?_)
    refine zx_iload_n dX4_keepSides_8 rfl rfl ?_
    refine zx_aload_n dX4_keepSides_9 rfl rfl ?_
    refine zx_getR zf_X4_15 (by assumption) (hR0 _) rfl dX4_keepSides_10 ?_
    refine zx_alen (nI N) (by assumption) (by decide) (by first | rw [hla] | rw [l0]) dX4_keepSides_13 ?_
    refine zx_icmp_ge (tgt := 35) dX4_keepSides_14 (by decide) (fun h_ => absurd h_ (nI_ge hk (by omega))) (fun _ => ?_)
    refine zx_aload_n dX4_keepSides_17 rfl rfl ?_
    refine zx_getR zf_X4_15 (by assumption) (hR0 _) rfl dX4_keepSides_18 ?_
    refine zx_iload_n dX4_keepSides_21 rfl rfl ?_
    refine zx_aload_n dX4_keepSides_22 rfl rfl ?_
    refine zx_iload_n dX4_keepSides_23 rfl rfl ?_
    refine zx_aald k (by assumption) (by decide) rfl ⟨by rw [hla]; exact hk, by omega⟩ (hRc k hk) dX4_keepSides_24 ?_
    refine zx_getL zf_X4_62 (show zO g 3 (30 + k) from (hWk k 15 a k _ ha (hRc k hk))) rfl dX4_keepSides_25 ?_
    refine zx_last k (by assumption) rfl ⟨by rw [l0]; exact hk, by omega⟩ dX4_keepSides_28 ?_
    refine zx_iinc (nI (k + 1)) dX4_keepSides_29 rfl (by exact nI_1 k) (Nat.le_of_ble_eq_true rfl) ?_
    refine zx_goto (tgt := 2) dX4_keepSides_32 (by decide) ?_
    exact zWA_to (zWA_mem hn (by rfl)) ⟨rfl, rfl, rfl, trivial⟩

set_option maxHeartbeats 4000000 in
set_option maxRecDepth 100000 in
theorem m_X4_keepSides {g : ZG} {μ : ZMem} {s a N : Nat} (hO : zO g 4 s) (hW : zWf g μ) (ha : zO g 15 a) (hla : zln g a = N) (hN : N ≤ 400) (hce : ∀ k, k < N → zR μ a k = some (30 + k)) {q : Nat} (h0 : zR μ s 6 = some q) (l0 : zln g q = N) : zCab g RX4 yX4_keepSides cX4_keepSides 3 (none) (zrm 1) [zr (some s), zr (some a)] μ none (zit (u_keepS1 q) N μ) := by
  refine zCab_w (by decide +kernel) rfl (Nat.le_of_ble_eq_true rfl) ?_
  refine zx_iconst 0 dX4_keepSides_0 (by decide) ?_
  refine zx_istore_n dX4_keepSides_1 rfl (Nat.le_of_ble_eq_true rfl) ?_
  exact zWA_to (L_X4_keepSides (N := N) hO hW ha hla hN hce h0 l0 (zx_return rfl rfl rfl dX4_keepSides_35)) ⟨rfl, rfl, rfl, trivial⟩

def u_giveS1 (q k : Nat) (μ : ZMem) : ZMem := zsL μ (30 + k) 4 (zL μ q k)
set_option maxHeartbeats 4000000 in
set_option maxRecDepth 100000 in
theorem L_X4_giveSides {g : ZG} {μ : ZMem} {s a N : Nat} (hO : zO g 4 s) (hW : zWf g μ) (ha : zO g 15 a) (hla : zln g a = N) (hN : N ≤ 400) (hce : ∀ k, k < N → zR μ a k = some (30 + k)) {q : Nat} (h0 : zR μ s 6 = some q) (l0 : zln g q = N) {res : Option ZV} {μ' : ZMem} (hx : zWA g (RX4, cX4_giveSides, 3, none, zrm 1, res, μ') 35 (zls [(0, zr (some s)), (1, zr (some a)), (2, zi (nI (N)))]) [] (zit (u_giveS1 q) (N) μ)) : zWA g (RX4, cX4_giveSides, 3, none, zrm 1, res, μ') 2 (zls [(0, zr (some s)), (1, zr (some a)), (2, zi (nI (0)))]) [] (zit (u_giveS1 q) (0) μ) := by
  have hO0 : zO g 10 q := hW 4 _ _ _ hO h0
  have hR : ∀ k, zR (zit (u_giveS1 q) k μ) = zR μ := fun k => zit_keep (f := (u_giveS1 q)) zR (fun _ _ => rfl) k μ
  have hWk : ∀ k, zWf g (zit (u_giveS1 q) k μ) := fun k => zWf_R hW (fun r j => by rw [hR])
  have hR0 : ∀ k, zR (zit (u_giveS1 q) k μ) s 6 = some q := fun k => by rw [hR]; exact h0
  have hRc : ∀ k, k < N → zR (zit (u_giveS1 q) k μ) a k = some (30 + k) := fun k hk => by rw [hR]; exact hce k hk
  refine zloop (P := fun k => zWA g (RX4, cX4_giveSides, 3, none, zrm 1, res, μ') 2 (zls [(0, zr (some s)), (1, zr (some a)), (2, zi (nI (k)))]) [] (zit (u_giveS1 q) (k) μ)) (N := N) ?_ ?_ 0 (Nat.zero_le _)
  · show zWA _ _ _ _ _ _
    refine zx_iload_n dX4_giveSides_2 rfl rfl ?_
    refine zx_aload_n dX4_giveSides_3 rfl rfl ?_
    refine zx_alen (nI N) (by assumption) (by decide) (by first | rw [hla] | rw [l0]) dX4_giveSides_4 ?_
    refine zx_icmp_ge (tgt := 35) dX4_giveSides_5 (by decide) (fun _ => ?_) (fun h_ => absurd h_ (by simp))
    exact zWA_to hx ⟨rfl, rfl, rfl, trivial⟩
  · intro k hk hn
    show zWA _ _ _ _ _ _
    refine zx_iload_n dX4_giveSides_2 rfl rfl ?_
    refine zx_aload_n dX4_giveSides_3 rfl rfl ?_
    refine zx_alen (nI N) (by assumption) (by decide) (by first | rw [hla] | rw [l0]) dX4_giveSides_4 ?_
    refine zx_icmp_ge (tgt := 35) dX4_giveSides_5 (by decide) (fun h_ => absurd h_ (nI_ge hk (by omega))) (fun _ => ?_)
    refine zx_iload_n dX4_giveSides_8 rfl rfl ?_
    refine zx_aload_n dX4_giveSides_9 rfl rfl ?_
    refine zx_getR zf_X4_15 (by assumption) (hR0 _) rfl dX4_giveSides_10 ?_
    refine zx_alen (nI N) (by assumption) (by decide) (by first | rw [hla] | rw [l0]) dX4_giveSides_13 ?_
    refine zx_icmp_ge (tgt := 35) dX4_giveSides_14 (by decide) (fun h_ => absurd h_ (nI_ge hk (by omega))) (fun _ => ?_)
    refine zx_aload_n dX4_giveSides_17 rfl rfl ?_
    refine zx_iload_n dX4_giveSides_18 rfl rfl ?_
    refine zx_aald k (by assumption) (by decide) rfl ⟨by rw [hla]; exact hk, by omega⟩ (hRc k hk) dX4_giveSides_19 ?_
    refine zx_aload_n dX4_giveSides_20 rfl rfl ?_
    refine zx_getR zf_X4_15 (by assumption) (hR0 _) rfl dX4_giveSides_21 ?_
    refine zx_iload_n dX4_giveSides_24 rfl rfl ?_
    refine zx_lald k (by assumption) rfl ⟨by rw [l0]; exact hk, by omega⟩ dX4_giveSides_25 ?_
    refine zx_putL zf_X4_62 (show zO g 3 (30 + k) from (hWk k 15 a k _ ha (hRc k hk))) rfl dX4_giveSides_26 ?_
    refine zx_iinc (nI (k + 1)) dX4_giveSides_29 rfl (by exact nI_1 k) (Nat.le_of_ble_eq_true rfl) ?_
    refine zx_goto (tgt := 2) dX4_giveSides_32 (by decide) ?_
    exact zWA_to (zWA_mem hn (by rfl)) ⟨rfl, rfl, rfl, trivial⟩

set_option maxHeartbeats 4000000 in
set_option maxRecDepth 100000 in
theorem m_X4_giveSides {g : ZG} {μ : ZMem} {s a N : Nat} (hO : zO g 4 s) (hW : zWf g μ) (ha : zO g 15 a) (hla : zln g a = N) (hN : N ≤ 400) (hce : ∀ k, k < N → zR μ a k = some (30 + k)) {q : Nat} (h0 : zR μ s 6 = some q) (l0 : zln g q = N) : zCab g RX4 yX4_giveSides cX4_giveSides 3 (none) (zrm 1) [zr (some s), zr (some a)] μ none (zit (u_giveS1 q) N μ) := by
  refine zCab_w (by decide +kernel) rfl (Nat.le_of_ble_eq_true rfl) ?_
  refine zx_iconst 0 dX4_giveSides_0 (by decide) ?_
  refine zx_istore_n dX4_giveSides_1 rfl (Nat.le_of_ble_eq_true rfl) ?_
  exact zWA_to (L_X4_giveSides (N := N) hO hW ha hla hN hce h0 l0 (zx_return rfl rfl rfl dX4_giveSides_35)) ⟨rfl, rfl, rfl, trivial⟩
end
section
theorem zz_last : True := trivial
end
