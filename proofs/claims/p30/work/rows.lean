section
-- ===== PART A: goes FIRST, ahead of the names: the tables' words, and 'selects' of the private methods out of them =====
/-- a private method of a class that the tables say can be made, by its rows of tables_1 -/
def lw_okq (q : MethodName × Nat) : Prop := (q.1.cls ≠ "java/lang/invoke/MethodHandle" ∧ q.1.cls ≠ "java/lang/invoke/VarHandle") ∧ Cond.instantiable q.1.cls q.2 ∈ tables_1 ∧ Cond.privateMethod q.1 ∈ tables_1 ∧ Cond.instanceMethod q.1 ∈ tables_1
theorem lw_p0 : lw_okq (⟨"RiverNames$River", "turnBehind", "(I)I"⟩, 9) := ⟨⟨by decide +kernel, by decide +kernel⟩, List.mem_of_getElem? (i := 75) (by decide +kernel), List.mem_of_getElem? (i := 287) (by decide +kernel), List.mem_of_getElem? (i := 288) (by decide +kernel)⟩
theorem lw_p1 : lw_okq (⟨"RiverNames$Judge", "isMisfit", "(LRiverNames$Board;I)Z"⟩, 1) := ⟨⟨by decide +kernel, by decide +kernel⟩, List.mem_of_getElem? (i := 212) (by decide +kernel), List.mem_of_getElem? (i := 301) (by decide +kernel), List.mem_of_getElem? (i := 302) (by decide +kernel)⟩
theorem lw_p2 : lw_okq (⟨"RiverNames$Judge", "isCrowded", "(LRiverNames$Board;LRiverNames$River;II)Z"⟩, 1) := ⟨⟨by decide +kernel, by decide +kernel⟩, List.mem_of_getElem? (i := 212) (by decide +kernel), List.mem_of_getElem? (i := 314) (by decide +kernel), List.mem_of_getElem? (i := 315) (by decide +kernel)⟩
theorem lw_p3 : lw_okq (⟨"RiverNames$Judge", "townRankAt", "(LRiverNames$Board;LRiverNames$River;I)I"⟩, 1) := ⟨⟨by decide +kernel, by decide +kernel⟩, List.mem_of_getElem? (i := 212) (by decide +kernel), List.mem_of_getElem? (i := 319) (by decide +kernel), List.mem_of_getElem? (i := 320) (by decide +kernel)⟩
theorem lw_p4 : lw_okq (⟨"RiverNames$Judge", "labelRankAt", "(LRiverNames$Board;LRiverNames$River;I)I"⟩, 1) := ⟨⟨by decide +kernel, by decide +kernel⟩, List.mem_of_getElem? (i := 212) (by decide +kernel), List.mem_of_getElem? (i := 344) (by decide +kernel), List.mem_of_getElem? (i := 345) (by decide +kernel)⟩
theorem lw_p5 : lw_okq (⟨"RiverNames$River", "isNear", "(IIII)Z"⟩, 9) := ⟨⟨by decide +kernel, by decide +kernel⟩, List.mem_of_getElem? (i := 75) (by decide +kernel), List.mem_of_getElem? (i := 352) (by decide +kernel), List.mem_of_getElem? (i := 353) (by decide +kernel)⟩
theorem lw_p6 : lw_okq (⟨"RiverNames$Sheet", "mark", "(II)V"⟩, 2) := ⟨⟨by decide +kernel, by decide +kernel⟩, List.mem_of_getElem? (i := 222) (by decide +kernel), List.mem_of_getElem? (i := 392) (by decide +kernel), List.mem_of_getElem? (i := 393) (by decide +kernel)⟩
theorem lw_p7 : lw_okq (⟨"RiverNames$Board", "copyRiver", "(LRiverNames$River;)V"⟩, 7) := ⟨⟨by decide +kernel, by decide +kernel⟩, List.mem_of_getElem? (i := 64) (by decide +kernel), List.mem_of_getElem? (i := 514) (by decide +kernel), List.mem_of_getElem? (i := 515) (by decide +kernel)⟩
theorem lw_p8 : lw_okq (⟨"RiverNames$Board", "copyTown", "(LRiverNames$Town;)V"⟩, 7) := ⟨⟨by decide +kernel, by decide +kernel⟩, List.mem_of_getElem? (i := 64) (by decide +kernel), List.mem_of_getElem? (i := 533) (by decide +kernel), List.mem_of_getElem? (i := 534) (by decide +kernel)⟩
theorem lw_p9 : lw_okq (⟨"RiverNames$Board", "copyLabel", "(LRiverNames$Label;)V"⟩, 7) := ⟨⟨by decide +kernel, by decide +kernel⟩, List.mem_of_getElem? (i := 64) (by decide +kernel), List.mem_of_getElem? (i := 549) (by decide +kernel), List.mem_of_getElem? (i := 550) (by decide +kernel)⟩
theorem lw_p10 : lw_okq (⟨"RiverNames$History", "dropOldest", "()V"⟩, 4) := ⟨⟨by decide +kernel, by decide +kernel⟩, List.mem_of_getElem? (i := 57) (by decide +kernel), List.mem_of_getElem? (i := 574) (by decide +kernel), List.mem_of_getElem? (i := 575) (by decide +kernel)⟩
theorem lw_p11 : lw_okq (⟨"RiverNames$Judge", "letterRiver", "(LRiverNames$Board;LRiverNames$River;I)V"⟩, 1) := ⟨⟨by decide +kernel, by decide +kernel⟩, List.mem_of_getElem? (i := 212) (by decide +kernel), List.mem_of_getElem? (i := 640) (by decide +kernel), List.mem_of_getElem? (i := 641) (by decide +kernel)⟩
theorem lw_p12 : lw_okq (⟨"RiverNames$Judge", "noteRivals", "(LRiverNames$Board;LRiverNames$River;)V"⟩, 1) := ⟨⟨by decide +kernel, by decide +kernel⟩, List.mem_of_getElem? (i := 212) (by decide +kernel), List.mem_of_getElem? (i := 644) (by decide +kernel), List.mem_of_getElem? (i := 645) (by decide +kernel)⟩
theorem lw_p13 : lw_okq (⟨"RiverNames$Judge", "bestStartAsNoted", "(LRiverNames$Board;LRiverNames$River;)I"⟩, 1) := ⟨⟨by decide +kernel, by decide +kernel⟩, List.mem_of_getElem? (i := 212) (by decide +kernel), List.mem_of_getElem? (i := 648) (by decide +kernel), List.mem_of_getElem? (i := 649) (by decide +kernel)⟩
theorem lw_p14 : lw_okq (⟨"RiverNames$Judge", "rivalRank", "(LRiverNames$River;I)I"⟩, 1) := ⟨⟨by decide +kernel, by decide +kernel⟩, List.mem_of_getElem? (i := 212) (by decide +kernel), List.mem_of_getElem? (i := 653) (by decide +kernel), List.mem_of_getElem? (i := 654) (by decide +kernel)⟩
def lw_privs_1 : List (MethodName × Nat) := [(⟨"RiverNames$River", "turnBehind", "(I)I"⟩, 9), (⟨"RiverNames$Judge", "isMisfit", "(LRiverNames$Board;I)Z"⟩, 1), (⟨"RiverNames$Judge", "isCrowded", "(LRiverNames$Board;LRiverNames$River;II)Z"⟩, 1), (⟨"RiverNames$Judge", "townRankAt", "(LRiverNames$Board;LRiverNames$River;I)I"⟩, 1), (⟨"RiverNames$Judge", "labelRankAt", "(LRiverNames$Board;LRiverNames$River;I)I"⟩, 1), (⟨"RiverNames$River", "isNear", "(IIII)Z"⟩, 9), (⟨"RiverNames$Sheet", "mark", "(II)V"⟩, 2), (⟨"RiverNames$Board", "copyRiver", "(LRiverNames$River;)V"⟩, 7), (⟨"RiverNames$Board", "copyTown", "(LRiverNames$Town;)V"⟩, 7), (⟨"RiverNames$Board", "copyLabel", "(LRiverNames$Label;)V"⟩, 7), (⟨"RiverNames$History", "dropOldest", "()V"⟩, 4), (⟨"RiverNames$Judge", "letterRiver", "(LRiverNames$Board;LRiverNames$River;I)V"⟩, 1), (⟨"RiverNames$Judge", "noteRivals", "(LRiverNames$Board;LRiverNames$River;)V"⟩, 1), (⟨"RiverNames$Judge", "bestStartAsNoted", "(LRiverNames$Board;LRiverNames$River;)I"⟩, 1), (⟨"RiverNames$Judge", "rivalRank", "(LRiverNames$River;I)I"⟩, 1)]
theorem lw_r1 : ∀ q ∈ lw_privs_1, lw_okq q := List.forall_mem_cons.mpr ⟨lw_p0, List.forall_mem_cons.mpr ⟨lw_p1, List.forall_mem_cons.mpr ⟨lw_p2, List.forall_mem_cons.mpr ⟨lw_p3, List.forall_mem_cons.mpr ⟨lw_p4, List.forall_mem_cons.mpr ⟨lw_p5, List.forall_mem_cons.mpr ⟨lw_p6, List.forall_mem_cons.mpr ⟨lw_p7, List.forall_mem_cons.mpr ⟨lw_p8, List.forall_mem_cons.mpr ⟨lw_p9, List.forall_mem_cons.mpr ⟨lw_p10, List.forall_mem_cons.mpr ⟨lw_p11, List.forall_mem_cons.mpr ⟨lw_p12, List.forall_mem_cons.mpr ⟨lw_p13, List.forall_mem_cons.mpr ⟨lw_p14, fun _ h => absurd h List.not_mem_nil⟩⟩⟩⟩⟩⟩⟩⟩⟩⟩⟩⟩⟩⟩⟩
def lw_privs : List (MethodName × Nat) := lw_privs_1
def lw_tbl : List Cond := k2_sels lw_privs ++ tables_1
theorem lw_privs_ok : ∀ q ∈ lw_privs, lw_okq q := lw_r1

def RX0 : String := "RiverNames$Board"
def TX0 : u_T := fun k => match k with
  | 0 => ("RiverNames$Board", "riverCount", "I", false)
  | 1 => ("RiverNames$Board", "townCount", "I", false)
  | 2 => ("RiverNames$Board", "labelCount", "I", false)
  | 3 => ("RiverNames$Board", "gap", "I", false)
  | 4 => ("RiverNames$Board", "rivers", "[LRiverNames$River;", true)
  | 5 => ("RiverNames$Board", "towns", "[LRiverNames$Town;", true)
  | _ => ("RiverNames$Board", "labels", "[LRiverNames$Label;", true)
def tyX0 : Nat → FieldType := fun k => match k with
  | 0 => .int
  | 1 => .int
  | 2 => .int
  | 3 => .int
  | 4 => .array (.object "RiverNames$River")
  | 5 => .array (.object "RiverNames$Town")
  | _ => .array (.object "RiverNames$Label")
abbrev wsX00 : List Cond := u_ws RX0 TX0 7
theorem nmX0 : ∀ a, a < 7 → ∀ b, b < 7 → a ≠ b → (TX0 a).2.1 ≠ (TX0 b).2.1 := by decide +kernel
theorem tyX0_ok : ∀ k, k < 7 → parseFieldDescriptor (TX0 k).2.2.1 = some (tyX0 k) := by decide +kernel
def RX1 : String := "RiverNames$History"
def TX1 : u_T := fun k => match k with
  | 0 => ("RiverNames$History", "size", "I", false)
  | 1 => ("RiverNames$History", "kept", "[LRiverNames$Board;", true)
  | 2 => ("RiverNames$History", "present", "LRiverNames$Board;", false)
  | _ => ("RiverNames$History", "draft", "LRiverNames$Board;", false)
def tyX1 : Nat → FieldType := fun k => match k with
  | 0 => .int
  | 1 => .array (.object "RiverNames$Board")
  | 2 => .object "RiverNames$Board"
  | _ => .object "RiverNames$Board"
abbrev wsX10 : List Cond := u_ws RX1 TX1 4
theorem nmX1 : ∀ a, a < 4 → ∀ b, b < 4 → a ≠ b → (TX1 a).2.1 ≠ (TX1 b).2.1 := by decide +kernel
theorem tyX1_ok : ∀ k, k < 4 → parseFieldDescriptor (TX1 k).2.2.1 = some (tyX1 k) := by decide +kernel
def RX2 : String := "RiverNames$Judge"
def TX2 : u_T := fun k => match k with
  | _ => ("RiverNames$Judge", "rivals", "[I", true)
def tyX2 : Nat → FieldType := fun k => match k with
  | _ => .array .int
abbrev wsX20 : List Cond := u_ws RX2 TX2 1
theorem nmX2 : ∀ a, a < 1 → ∀ b, b < 1 → a ≠ b → (TX2 a).2.1 ≠ (TX2 b).2.1 := by decide +kernel
theorem tyX2_ok : ∀ k, k < 1 → parseFieldDescriptor (TX2 k).2.2.1 = some (tyX2 k) := by decide +kernel
def RX3 : String := "RiverNames$Label"
def TX3 : u_T := fun k => match k with
  | 0 => ("RiverNames$Label", "river", "LRiverNames$River;", false)
  | _ => ("RiverNames$Label", "start", "I", false)
def tyX3 : Nat → FieldType := fun k => match k with
  | 0 => .object "RiverNames$River"
  | _ => .int
abbrev wsX30 : List Cond := u_ws RX3 TX3 2
theorem nmX3 : ∀ a, a < 2 → ∀ b, b < 2 → a ≠ b → (TX3 a).2.1 ≠ (TX3 b).2.1 := by decide +kernel
theorem tyX3_ok : ∀ k, k < 2 → parseFieldDescriptor (TX3 k).2.2.1 = some (tyX3 k) := by decide +kernel
def RX4 : String := "RiverNames$Reader"
def TX4 : u_T := fun k => match k with
  | 0 => ("RiverNames$Reader", "text", "LRiverNames$Text;", true)
  | 1 => ("RiverNames$Reader", "tokenStart", "I", false)
  | 2 => ("RiverNames$Reader", "tokenEnd", "I", false)
  | 3 => ("RiverNames$Reader", "tokenKind", "I", false)
  | _ => ("RiverNames$Reader", "refused", "Z", false)
def tyX4 : Nat → FieldType := fun k => match k with
  | 0 => .object "RiverNames$Text"
  | 1 => .int
  | 2 => .int
  | 3 => .int
  | _ => .boolean
abbrev wsX40 : List Cond := u_ws RX4 TX4 5
theorem nmX4 : ∀ a, a < 5 → ∀ b, b < 5 → a ≠ b → (TX4 a).2.1 ≠ (TX4 b).2.1 := by decide +kernel
theorem tyX4_ok : ∀ k, k < 5 → parseFieldDescriptor (TX4 k).2.2.1 = some (tyX4 k) := by decide +kernel
def RX5 : String := "RiverNames$River"
def TX5 : u_T := fun k => match k with
  | 0 => ("RiverNames$River", "number", "I", true)
  | 1 => ("RiverNames$River", "rank", "I", false)
  | 2 => ("RiverNames$River", "halo", "I", false)
  | 3 => ("RiverNames$River", "letters", "I", false)
  | 4 => ("RiverNames$River", "moves", "I", false)
  | 5 => ("RiverNames$River", "name", "[I", true)
  | 6 => ("RiverNames$River", "directions", "[I", true)
  | 7 => ("RiverNames$River", "columns", "[I", true)
  | _ => ("RiverNames$River", "rows", "[I", true)
def tyX5 : Nat → FieldType := fun k => match k with
  | 0 => .int
  | 1 => .int
  | 2 => .int
  | 3 => .int
  | 4 => .int
  | 5 => .array .int
  | 6 => .array .int
  | 7 => .array .int
  | _ => .array .int
abbrev wsX50 : List Cond := u_ws RX5 TX5 9
theorem nmX5 : ∀ a, a < 9 → ∀ b, b < 9 → a ≠ b → (TX5 a).2.1 ≠ (TX5 b).2.1 := by decide +kernel
theorem tyX5_ok : ∀ k, k < 9 → parseFieldDescriptor (TX5 k).2.2.1 = some (tyX5 k) := by decide +kernel
def RX6 : String := "RiverNames$Sheet"
def TX6 : u_T := fun k => match k with
  | 0 => ("RiverNames$Sheet", "marked", "I", false)
  | _ => ("RiverNames$Sheet", "marks", "[I", true)
def tyX6 : Nat → FieldType := fun k => match k with
  | 0 => .int
  | _ => .array .int
abbrev wsX60 : List Cond := u_ws RX6 TX6 2
theorem nmX6 : ∀ a, a < 2 → ∀ b, b < 2 → a ≠ b → (TX6 a).2.1 ≠ (TX6 b).2.1 := by decide +kernel
theorem tyX6_ok : ∀ k, k < 2 → parseFieldDescriptor (TX6 k).2.2.1 = some (tyX6 k) := by decide +kernel
def RX7 : String := "RiverNames$Text"
def TX7 : u_T := fun k => match k with
  | 0 => ("RiverNames$Text", "length", "I", false)
  | _ => ("RiverNames$Text", "signs", "[I", true)
def tyX7 : Nat → FieldType := fun k => match k with
  | 0 => .int
  | _ => .array .int
abbrev wsX70 : List Cond := u_ws RX7 TX7 2
theorem nmX7 : ∀ a, a < 2 → ∀ b, b < 2 → a ≠ b → (TX7 a).2.1 ≠ (TX7 b).2.1 := by decide +kernel
theorem tyX7_ok : ∀ k, k < 2 → parseFieldDescriptor (TX7 k).2.2.1 = some (tyX7 k) := by decide +kernel
def RX8 : String := "RiverNames$Town"
def TX8 : u_T := fun k => match k with
  | 0 => ("RiverNames$Town", "column", "I", false)
  | 1 => ("RiverNames$Town", "row", "I", false)
  | 2 => ("RiverNames$Town", "width", "I", false)
  | 3 => ("RiverNames$Town", "height", "I", false)
  | _ => ("RiverNames$Town", "rank", "I", false)
def tyX8 : Nat → FieldType := fun k => match k with
  | 0 => .int
  | 1 => .int
  | 2 => .int
  | 3 => .int
  | _ => .int
abbrev wsX80 : List Cond := u_ws RX8 TX8 5
theorem nmX8 : ∀ a, a < 5 → ∀ b, b < 5 → a ≠ b → (TX8 a).2.1 ≠ (TX8 b).2.1 := by decide +kernel
theorem tyX8_ok : ∀ k, k < 5 → parseFieldDescriptor (TX8 k).2.2.1 = some (tyX8 k) := by decide +kernel
def RX9 : String := "RiverNames"
def TX9 : u_T := fun k => match k with
  | 0 => ("RiverNames", "reader", "LRiverNames$Reader;", true)
  | 1 => ("RiverNames", "history", "LRiverNames$History;", true)
  | 2 => ("RiverNames", "judge", "LRiverNames$Judge;", true)
  | _ => ("RiverNames", "sheet", "LRiverNames$Sheet;", true)
def tyX9 : Nat → FieldType := fun k => match k with
  | 0 => .object "RiverNames$Reader"
  | 1 => .object "RiverNames$History"
  | 2 => .object "RiverNames$Judge"
  | _ => .object "RiverNames$Sheet"
abbrev wsX90 : List Cond := u_ws RX9 TX9 4
theorem nmX9 : ∀ a, a < 4 → ∀ b, b < 4 → a ≠ b → (TX9 a).2.1 ≠ (TX9 b).2.1 := by decide +kernel
theorem tyX9_ok : ∀ k, k < 4 → parseFieldDescriptor (TX9 k).2.2.1 = some (tyX9 k) := by decide +kernel
def RJ9 : String := "java/lang/Math"
def RJ7 : String := "java/util/Arrays"
def RL : String := "RiverNamesLaw"
abbrev cX0_init : ByteArray := prog_2_method_1_code
def yX0_init : MethodName := ⟨RX0, "<init>", "()V"⟩
abbrev cX0_copyFrom : ByteArray := prog_2_method_2_code
def yX0_copyFrom : MethodName := ⟨RX0, "copyFrom", "(LRiverNames$Board;)V"⟩
abbrev cX0_copyRiver : ByteArray := prog_2_method_3_code
def yX0_copyRiver : MethodName := ⟨RX0, "copyRiver", "(LRiverNames$River;)V"⟩
abbrev cX0_copyTown : ByteArray := prog_2_method_4_code
def yX0_copyTown : MethodName := ⟨RX0, "copyTown", "(LRiverNames$Town;)V"⟩
abbrev cX0_copyLabel : ByteArray := prog_2_method_5_code
def yX0_copyLabel : MethodName := ⟨RX0, "copyLabel", "(LRiverNames$Label;)V"⟩
abbrev cX0_riverAt : ByteArray := prog_2_method_6_code
def yX0_riverAt : MethodName := ⟨RX0, "riverAt", "(I)LRiverNames$River;"⟩
abbrev cX0_townAt : ByteArray := prog_2_method_7_code
def yX0_townAt : MethodName := ⟨RX0, "townAt", "(I)LRiverNames$Town;"⟩
abbrev cX0_labelAt : ByteArray := prog_2_method_8_code
def yX0_labelAt : MethodName := ⟨RX0, "labelAt", "(I)LRiverNames$Label;"⟩
abbrev cX0_nextRiver : ByteArray := prog_2_method_9_code
def yX0_nextRiver : MethodName := ⟨RX0, "nextRiver", "()LRiverNames$River;"⟩
abbrev cX0_nextTown : ByteArray := prog_2_method_10_code
def yX0_nextTown : MethodName := ⟨RX0, "nextTown", "()LRiverNames$Town;"⟩
abbrev cX0_addLabel : ByteArray := prog_2_method_11_code
def yX0_addLabel : MethodName := ⟨RX0, "addLabel", "(LRiverNames$River;I)Z"⟩
abbrev cX0_dropLabel : ByteArray := prog_2_method_12_code
def yX0_dropLabel : MethodName := ⟨RX0, "dropLabel", "(I)Z"⟩
abbrev cX0_labelsOf : ByteArray := prog_2_method_13_code
def yX0_labelsOf : MethodName := ⟨RX0, "labelsOf", "(LRiverNames$River;)I"⟩
abbrev cX0_labelsOver : ByteArray := prog_2_method_14_code
def yX0_labelsOver : MethodName := ⟨RX0, "labelsOver", "(LRiverNames$Town;)I"⟩
abbrev cX0_townsUnder : ByteArray := prog_2_method_15_code
def yX0_townsUnder : MethodName := ⟨RX0, "townsUnder", "(LRiverNames$Label;)I"⟩
abbrev cX0_costOfLabels : ByteArray := prog_2_method_16_code
def yX0_costOfLabels : MethodName := ⟨RX0, "costOfLabels", "()I"⟩
abbrev cX0_cellsOfLabels : ByteArray := prog_2_method_17_code
def yX0_cellsOfLabels : MethodName := ⟨RX0, "cellsOfLabels", "(LRiverNames$Sheet;)I"⟩
abbrev cX0_riversWithoutLabel : ByteArray := prog_2_method_18_code
def yX0_riversWithoutLabel : MethodName := ⟨RX0, "riversWithoutLabel", "()I"⟩
abbrev cX0_signOn : ByteArray := prog_2_method_19_code
def yX0_signOn : MethodName := ⟨RX0, "signOn", "(II)I"⟩
abbrev cX1_init : ByteArray := prog_3_method_1_code
def yX1_init : MethodName := ⟨RX1, "<init>", "()V"⟩
abbrev cX1_present : ByteArray := prog_3_method_2_code
def yX1_present : MethodName := ⟨RX1, "present", "()LRiverNames$Board;"⟩
abbrev cX1_newDraft : ByteArray := prog_3_method_3_code
def yX1_newDraft : MethodName := ⟨RX1, "newDraft", "()LRiverNames$Board;"⟩
abbrev cX1_enterDraft : ByteArray := prog_3_method_4_code
def yX1_enterDraft : MethodName := ⟨RX1, "enterDraft", "()V"⟩
abbrev cX1_dropOldest : ByteArray := prog_3_method_5_code
def yX1_dropOldest : MethodName := ⟨RX1, "dropOldest", "()V"⟩
abbrev cX1_stepBack : ByteArray := prog_3_method_6_code
def yX1_stepBack : MethodName := ⟨RX1, "stepBack", "()I"⟩
abbrev cX2_init : ByteArray := prog_4_method_1_code
def yX2_init : MethodName := ⟨RX2, "<init>", "()V"⟩
abbrev cX2_reasonAgainst : ByteArray := prog_4_method_2_code
def yX2_reasonAgainst : MethodName := ⟨RX2, "reasonAgainst", "(LRiverNames$Board;LRiverNames$River;II)I"⟩
abbrev cX2_isCrowded : ByteArray := prog_4_method_3_code
def yX2_isCrowded : MethodName := ⟨RX2, "isCrowded", "(LRiverNames$Board;LRiverNames$River;II)Z"⟩
abbrev cX2_townRankAt : ByteArray := prog_4_method_4_code
def yX2_townRankAt : MethodName := ⟨RX2, "townRankAt", "(LRiverNames$Board;LRiverNames$River;I)I"⟩
abbrev cX2_labelRankAt : ByteArray := prog_4_method_5_code
def yX2_labelRankAt : MethodName := ⟨RX2, "labelRankAt", "(LRiverNames$Board;LRiverNames$River;I)I"⟩
abbrev cX2_noteRivals : ByteArray := prog_4_method_6_code
def yX2_noteRivals : MethodName := ⟨RX2, "noteRivals", "(LRiverNames$Board;LRiverNames$River;)V"⟩
abbrev cX2_rivalRank : ByteArray := prog_4_method_7_code
def yX2_rivalRank : MethodName := ⟨RX2, "rivalRank", "(LRiverNames$River;I)I"⟩
abbrev cX2_bestStart : ByteArray := prog_4_method_8_code
def yX2_bestStart : MethodName := ⟨RX2, "bestStart", "(LRiverNames$Board;LRiverNames$River;)I"⟩
abbrev cX2_bestStartAsNoted : ByteArray := prog_4_method_9_code
def yX2_bestStartAsNoted : MethodName := ⟨RX2, "bestStartAsNoted", "(LRiverNames$Board;LRiverNames$River;)I"⟩
abbrev cX2_leastRank : ByteArray := prog_4_method_10_code
def yX2_leastRank : MethodName := ⟨RX2, "leastRank", "(LRiverNames$Board;LRiverNames$River;)I"⟩
abbrev cX2_letterAll : ByteArray := prog_4_method_11_code
def yX2_letterAll : MethodName := ⟨RX2, "letterAll", "(LRiverNames$Board;I)V"⟩
abbrev cX2_letterRiver : ByteArray := prog_4_method_12_code
def yX2_letterRiver : MethodName := ⟨RX2, "letterRiver", "(LRiverNames$Board;LRiverNames$River;I)V"⟩
abbrev cX2_isMisfit : ByteArray := prog_4_method_13_code
def yX2_isMisfit : MethodName := ⟨RX2, "isMisfit", "(LRiverNames$Board;I)Z"⟩
abbrev cX2_misfits : ByteArray := prog_4_method_14_code
def yX2_misfits : MethodName := ⟨RX2, "misfits", "(LRiverNames$Board;)I"⟩
abbrev cX2_dropMisfits : ByteArray := prog_4_method_15_code
def yX2_dropMisfits : MethodName := ⟨RX2, "dropMisfits", "(LRiverNames$Board;)I"⟩
abbrev cX3_init : ByteArray := prog_5_method_1_code
def yX3_init : MethodName := ⟨RX3, "<init>", "(LRiverNames$River;)V"⟩
abbrev cX3_put : ByteArray := prog_5_method_2_code
def yX3_put : MethodName := ⟨RX3, "put", "(LRiverNames$River;I)V"⟩
abbrev cX3_lapsOver : ByteArray := prog_5_method_3_code
def yX3_lapsOver : MethodName := ⟨RX3, "lapsOver", "(LRiverNames$Town;)Z"⟩
abbrev cX3_markArea : ByteArray := prog_5_method_4_code
def yX3_markArea : MethodName := ⟨RX3, "markArea", "(LRiverNames$Sheet;)V"⟩
abbrev cX3_cells : ByteArray := prog_5_method_5_code
def yX3_cells : MethodName := ⟨RX3, "cells", "(LRiverNames$Sheet;)I"⟩
abbrev cX4_init : ByteArray := prog_6_method_1_code
def yX4_init : MethodName := ⟨RX4, "<init>", "()V"⟩
abbrev cX5_init : ByteArray := prog_7_method_1_code
def yX5_init : MethodName := ⟨RX5, "<init>", "(I)V"⟩
abbrev cX5_copyFrom : ByteArray := prog_7_method_2_code
def yX5_copyFrom : MethodName := ⟨RX5, "copyFrom", "(LRiverNames$River;)V"⟩
abbrev cX5_forget : ByteArray := prog_7_method_3_code
def yX5_forget : MethodName := ⟨RX5, "forget", "()V"⟩
abbrev cX5_addLetter : ByteArray := prog_7_method_4_code
def yX5_addLetter : MethodName := ⟨RX5, "addLetter", "(I)V"⟩
abbrev cX5_begin : ByteArray := prog_7_method_5_code
def yX5_begin : MethodName := ⟨RX5, "begin", "(IIII)V"⟩
abbrev cX5_leavesMap : ByteArray := prog_7_method_6_code
def yX5_leavesMap : MethodName := ⟨RX5, "leavesMap", "(I)Z"⟩
abbrev cX5_lengthen : ByteArray := prog_7_method_7_code
def yX5_lengthen : MethodName := ⟨RX5, "lengthen", "(I)Z"⟩
abbrev cX5_hasPlace : ByteArray := prog_7_method_8_code
def yX5_hasPlace : MethodName := ⟨RX5, "hasPlace", "(I)Z"⟩
abbrev cX5_columnAt : ByteArray := prog_7_method_9_code
def yX5_columnAt : MethodName := ⟨RX5, "columnAt", "(I)I"⟩
abbrev cX5_rowAt : ByteArray := prog_7_method_10_code
def yX5_rowAt : MethodName := ⟨RX5, "rowAt", "(I)I"⟩
abbrev cX5_letterAt : ByteArray := prog_7_method_11_code
def yX5_letterAt : MethodName := ⟨RX5, "letterAt", "(I)I"⟩
abbrev cX5_lastStart : ByteArray := prog_7_method_12_code
def yX5_lastStart : MethodName := ⟨RX5, "lastStart", "(I)I"⟩
abbrev cX5_turnBehind : ByteArray := prog_7_method_13_code
def yX5_turnBehind : MethodName := ⟨RX5, "turnBehind", "(I)I"⟩
abbrev cX5_bendOf : ByteArray := prog_7_method_14_code
def yX5_bendOf : MethodName := ⟨RX5, "bendOf", "(II)I"⟩
abbrev cX5_straightestStart : ByteArray := prog_7_method_15_code
def yX5_straightestStart : MethodName := ⟨RX5, "straightestStart", "(I)I"⟩
abbrev cX5_costOf : ByteArray := prog_7_method_16_code
def yX5_costOf : MethodName := ⟨RX5, "costOf", "(I)I"⟩
abbrev cX5_turnsNameAt : ByteArray := prog_7_method_17_code
def yX5_turnsNameAt : MethodName := ⟨RX5, "turnsNameAt", "(I)Z"⟩
abbrev cX5_isNear : ByteArray := prog_7_method_18_code
def yX5_isNear : MethodName := ⟨RX5, "isNear", "(IIII)Z"⟩
abbrev cX5_hasLetterNear : ByteArray := prog_7_method_19_code
def yX5_hasLetterNear : MethodName := ⟨RX5, "hasLetterNear", "(IIII)Z"⟩
abbrev cX5_letterOn : ByteArray := prog_7_method_20_code
def yX5_letterOn : MethodName := ⟨RX5, "letterOn", "(III)I"⟩
abbrev cX5_differentCells : ByteArray := prog_7_method_21_code
def yX5_differentCells : MethodName := ⟨RX5, "differentCells", "(LRiverNames$Sheet;)I"⟩
abbrev cX6_init : ByteArray := prog_8_method_1_code
def yX6_init : MethodName := ⟨RX6, "<init>", "()V"⟩
abbrev cX6_clear : ByteArray := prog_8_method_2_code
def yX6_clear : MethodName := ⟨RX6, "clear", "()V"⟩
abbrev cX6_markAround : ByteArray := prog_8_method_3_code
def yX6_markAround : MethodName := ⟨RX6, "markAround", "(III)V"⟩
abbrev cX6_mark : ByteArray := prog_8_method_4_code
def yX6_mark : MethodName := ⟨RX6, "mark", "(II)V"⟩
abbrev cX7_init : ByteArray := prog_9_method_1_code
def yX7_init : MethodName := ⟨RX7, "<init>", "()V"⟩
abbrev cX7_write : ByteArray := prog_9_method_2_code
def yX7_write : MethodName := ⟨RX7, "write", "(I)Z"⟩
abbrev cX8_init : ByteArray := prog_10_method_1_code
def yX8_init : MethodName := ⟨RX8, "<init>", "()V"⟩
abbrev cX8_build : ByteArray := prog_10_method_2_code
def yX8_build : MethodName := ⟨RX8, "build", "(IIIII)V"⟩
abbrev cX8_copyFrom : ByteArray := prog_10_method_3_code
def yX8_copyFrom : MethodName := ⟨RX8, "copyFrom", "(LRiverNames$Town;)V"⟩
abbrev cX8_isNear : ByteArray := prog_10_method_4_code
def yX8_isNear : MethodName := ⟨RX8, "isNear", "(III)Z"⟩
abbrev cX9_init : ByteArray := prog_1_method_1_code
def yX9_init : MethodName := ⟨RX9, "<init>", "()V"⟩
abbrev cX9_append : ByteArray := prog_1_method_2_code
def yX9_append : MethodName := ⟨RX9, "append", "(I)I"⟩
abbrev cX9_addRiver : ByteArray := prog_1_method_5_code
def yX9_addRiver : MethodName := ⟨RX9, "addRiver", "(IIIII)I"⟩
abbrev cX9_addTown : ByteArray := prog_1_method_6_code
def yX9_addTown : MethodName := ⟨RX9, "addTown", "(IIIII)I"⟩
abbrev cX9_flow : ByteArray := prog_1_method_7_code
def yX9_flow : MethodName := ⟨RX9, "flow", "(II)I"⟩
abbrev cX9_setRank : ByteArray := prog_1_method_8_code
def yX9_setRank : MethodName := ⟨RX9, "setRank", "(II)I"⟩
abbrev cX9_setHalo : ByteArray := prog_1_method_9_code
def yX9_setHalo : MethodName := ⟨RX9, "setHalo", "(II)I"⟩
abbrev cX9_setTownRank : ByteArray := prog_1_method_10_code
def yX9_setTownRank : MethodName := ⟨RX9, "setTownRank", "(II)I"⟩
abbrev cX9_setGap : ByteArray := prog_1_method_11_code
def yX9_setGap : MethodName := ⟨RX9, "setGap", "(I)I"⟩
abbrev cX9_set : ByteArray := prog_1_method_12_code
def yX9_set : MethodName := ⟨RX9, "set", "(II)I"⟩
abbrev cX9_remove : ByteArray := prog_1_method_13_code
def yX9_remove : MethodName := ⟨RX9, "remove", "(I)I"⟩
abbrev cX9_place : ByteArray := prog_1_method_14_code
def yX9_place : MethodName := ⟨RX9, "place", "(I)I"⟩
abbrev cX9_tidy : ByteArray := prog_1_method_15_code
def yX9_tidy : MethodName := ⟨RX9, "tidy", "()I"⟩
abbrev cX9_undo : ByteArray := prog_1_method_16_code
def yX9_undo : MethodName := ⟨RX9, "undo", "()I"⟩
abbrev cX9_count : ByteArray := prog_1_method_17_code
def yX9_count : MethodName := ⟨RX9, "count", "(I)I"⟩
abbrev cX9_river : ByteArray := prog_1_method_18_code
def yX9_river : MethodName := ⟨RX9, "river", "(II)I"⟩
abbrev cX9_cell : ByteArray := prog_1_method_19_code
def yX9_cell : MethodName := ⟨RX9, "cell", "(II)I"⟩
abbrev cX9_letter : ByteArray := prog_1_method_20_code
def yX9_letter : MethodName := ⟨RX9, "letter", "(II)I"⟩
abbrev cX9_town : ByteArray := prog_1_method_21_code
def yX9_town : MethodName := ⟨RX9, "town", "(II)I"⟩
abbrev cX9_label : ByteArray := prog_1_method_22_code
def yX9_label : MethodName := ⟨RX9, "label", "(II)I"⟩
abbrev cX9_written : ByteArray := prog_1_method_23_code
def yX9_written : MethodName := ⟨RX9, "written", "(II)I"⟩
abbrev cX9_bend : ByteArray := prog_1_method_24_code
def yX9_bend : MethodName := ⟨RX9, "bend", "(III)I"⟩
abbrev cX9_straightest : ByteArray := prog_1_method_25_code
def yX9_straightest : MethodName := ⟨RX9, "straightest", "(II)I"⟩
abbrev cX9_reason : ByteArray := prog_1_method_26_code
def yX9_reason : MethodName := ⟨RX9, "reason", "(II)I"⟩
abbrev cX9_best : ByteArray := prog_1_method_27_code
def yX9_best : MethodName := ⟨RX9, "best", "(II)I"⟩
abbrev cX9_rankFor : ByteArray := prog_1_method_28_code
def yX9_rankFor : MethodName := ⟨RX9, "rankFor", "(I)I"⟩
abbrev cX9_within : ByteArray := prog_1_method_29_code
def yX9_within : MethodName := ⟨RX9, "within", "(III)Z"⟩
abbrev cX9_onMap : ByteArray := prog_1_method_30_code
def yX9_onMap : MethodName := ⟨RX9, "onMap", "(II)Z"⟩
abbrev cX9_isRank : ByteArray := prog_1_method_31_code
def yX9_isRank : MethodName := ⟨RX9, "isRank", "(I)Z"⟩
abbrev cX9_isHalo : ByteArray := prog_1_method_32_code
def yX9_isHalo : MethodName := ⟨RX9, "isHalo", "(I)Z"⟩
abbrev cX9_isPlaceNumber : ByteArray := prog_1_method_33_code
def yX9_isPlaceNumber : MethodName := ⟨RX9, "isPlaceNumber", "(I)Z"⟩
abbrev cL_cell : ByteArray := method_2_code
def yL_cell : MethodName := ⟨RL, "cell", "([II)I"⟩
abbrev cL_low : ByteArray := method_3_code
def yL_low : MethodName := ⟨RL, "low", "(II)I"⟩
abbrev cL_size : ByteArray := method_8_code
def yL_size : MethodName := ⟨RL, "size", "(I)I"⟩
abbrev cL_print : ByteArray := method_4_code
def yL_print : MethodName := ⟨RL, "print", "(LRiverNames;)J"⟩
abbrev cL_refused : ByteArray := method_5_code
def yL_refused : MethodName := ⟨RL, "refused", "(LRiverNames;)Z"⟩
abbrev cL_areCells : ByteArray := method_6_code
def yL_areCells : MethodName := ⟨RL, "areCells", "(LRiverNames;I)Z"⟩
abbrev cL_areStarts : ByteArray := method_7_code
def yL_areStarts : MethodName := ⟨RL, "areStarts", "(LRiverNames;I)Z"⟩
abbrev cL_areLabels : ByteArray := method_9_code
def yL_areLabels : MethodName := ⟨RL, "areLabels", "(LRiverNames;)Z"⟩
abbrev cL_areTidied : ByteArray := method_10_code
def yL_areTidied : MethodName := ⟨RL, "areTidied", "(LRiverNames;I)Z"⟩
abbrev cL_acts : ByteArray := method_11_code
def yL_acts : MethodName := ⟨RL, "acts", "(LRiverNames;II)I"⟩
abbrev cJ9_abs_0f7a4 : ByteArray := prog_13_method_59_code
def yJ9_abs_0f7a4 : MethodName := ⟨RJ9, "abs", "(I)I"⟩
abbrev cJ9_max_7cf53 : ByteArray := prog_13_method_65_code
def yJ9_max_7cf53 : MethodName := ⟨RJ9, "max", "(II)I"⟩
abbrev cJ9_min_7cf53 : ByteArray := prog_13_method_69_code
def yJ9_min_7cf53 : MethodName := ⟨RJ9, "min", "(II)I"⟩
abbrev cJ7_fill_53178 : ByteArray := prog_15_method_103_code
def yJ7_fill_53178 : MethodName := ⟨RJ7, "fill", "([II)V"⟩
abbrev cL_law : ByteArray := code
def yL_law : MethodName := ⟨RL, "law", "([I)Z"⟩
def rn_cl : List vw_C := [(RX0, TX0, 7), (RX1, TX1, 4), (RX2, TX2, 1), (RX3, TX3, 2), (RX4, TX4, 5), (RX5, TX5, 9), (RX6, TX6, 2), (RX7, TX7, 2), (RX8, TX8, 5), (RX9, TX9, 4), (RX9, TX9, 4)]
def rn_nf : Nat → Nat := fun c => match c with
  | 0 => 7
  | 1 => 4
  | 2 => 1
  | 3 => 2
  | 4 => 5
  | 5 => 9
  | 6 => 2
  | 7 => 2
  | 8 => 5
  | 9 => 4
  | 10 => 4
  | _ => 0
def rn_fk : Nat → Nat → Nat := fun c k => match c with
  | 0 => [0, 0, 0, 0, 2, 2, 2].getD k 0
  | 1 => [0, 2, 2, 2].getD k 0
  | 2 => [2].getD k 0
  | 3 => [2, 0].getD k 0
  | 4 => [2, 0, 0, 0, 1].getD k 0
  | 5 => [0, 0, 0, 0, 0, 2, 2, 2, 2].getD k 0
  | 6 => [0, 2].getD k 0
  | 7 => [0, 2].getD k 0
  | 8 => [0, 0, 0, 0, 0].getD k 0
  | 9 => [2, 2, 2, 2].getD k 0
  | 10 => [2, 2, 2, 2].getD k 0
  | _ => 0
def rn_cn : Nat → String := fun c => match c with
  | 0 => RX0
  | 1 => RX1
  | 2 => RX2
  | 3 => RX3
  | 4 => RX4
  | 5 => RX5
  | 6 => RX6
  | 7 => RX7
  | 8 => RX8
  | _ => RX9
theorem rn_in0 : ∀ w ∈ wsX00, w ∈ lw_tbl := by decide +kernel
theorem rn_in1 : ∀ w ∈ wsX10, w ∈ lw_tbl := by decide +kernel
theorem rn_in2 : ∀ w ∈ wsX20, w ∈ lw_tbl := by decide +kernel
theorem rn_in3 : ∀ w ∈ wsX30, w ∈ lw_tbl := by decide +kernel
theorem rn_in4 : ∀ w ∈ wsX40, w ∈ lw_tbl := by decide +kernel
theorem rn_in5 : ∀ w ∈ wsX50, w ∈ lw_tbl := by decide +kernel
theorem rn_in6 : ∀ w ∈ wsX60, w ∈ lw_tbl := by decide +kernel
theorem rn_in7 : ∀ w ∈ wsX70, w ∈ lw_tbl := by decide +kernel
theorem rn_in8 : ∀ w ∈ wsX80, w ∈ lw_tbl := by decide +kernel
theorem rn_in9 : ∀ w ∈ wsX90, w ∈ lw_tbl := by decide +kernel
end
section
/-! THE ABSTRACT MACHINE: a value is an int (as an Int) or a reference (a place in the world's list; null; or nothing known) -/
abbrev rn_V : Type := Int ⊕ (Option (Option Nat) ⊕ Int64)
abbrev rn_I (x : Int) : rn_V := .inl x
abbrev rn_R (a : Nat) : rn_V := .inr (.inl (some (some a)))
/-- a long -/
abbrev rn_G (x : Int64) : rn_V := .inr (.inr x)
abbrev rn_N : rn_V := .inr (.inl (some none))
abbrev rn_J : rn_V := .inr (.inl none)
/-- shape (kind, size of each cell), room left (cells, slots), ints, references -/
abbrev rn_M : Type := List (Nat × Nat) × (Nat × Nat) × (Nat → Nat → Int) × (Nat → Nat → Option Nat)
/-- instruction, next pc, a, b, place in the tables, kind, class, more -/
abbrev rn_E : Type := Instr × Nat × Nat × Nat × Nat × Nat × Nat × List Nat
/-- name, code, locals, answer, makes cells, cells, slots, frames, words, instructions -/
abbrev rn_Mt : Type := MethodName × ByteArray × Nat × Option FieldType × Bool × Nat × Nat × Nat × Nat × List (Nat × rn_E)
def rn_wr (z : Int) : Int := (z + 2147483648) % 4294967296 - 2147483648
def rn_and (x y : Int) : Int := (Int32.ofInt x &&& Int32.ofInt y).toInt
def rn_or (x y : Int) : Int := (Int32.ofInt x ||| Int32.ofInt y).toInt
def rn_xor (x y : Int) : Int := (Int32.ofInt x ^^^ Int32.ofInt y).toInt
def rn_usr (x y : Int) : Int := (((Int32.ofInt x).toUInt32 >>> ((Int32.ofInt y).toUInt32 &&& Int32.toUInt32 31)).toInt32).toInt
def rn_i2l (x : Int) : Int64 := (Int32.ofInt x).toInt64
/-- words of the stack -/
def rn_sz : List rn_V → Nat
  | [] => 0
  | .inr (.inr _) :: t => 2 + rn_sz t
  | _ :: t => 1 + rn_sz t
def rn_n2 : List rn_V → Bool
  | [] => true
  | .inr (.inr _) :: _ => false
  | _ :: t => rn_n2 t
/-- no long lies in the place before i -/
def rn_nl (L : List rn_V) (i : Nat) : Bool := match i with | 0 => true | j + 1 => match L[j]? with | some (.inr (.inr _)) => false | _ => true
/-- a local is written: k = 0 in a method that knows no longs -/
def rn_kl (k : Nat) (L : List rn_V) (a : Nat) (P : Prop) : Prop := match k with | 0 => P | _ => rn_nl L a = true ∧ P
def rn_shl (x y : Int) : Int := (Int32.ofInt x <<< (Int32.ofInt y &&& 31)).toInt
def rn_shr (x y : Int) : Int := (Int32.ofInt x >>> (Int32.ofInt y &&& 31)).toInt
def rn_kd (M : rn_M) (a : Nat) : Nat := (M.1.getD a (0, 0)).1
def rn_ln (M : rn_M) (a : Nat) : Nat := (M.1.getD a (0, 0)).2
def rn_gi (M : rn_M) (a k : Nat) : Int := M.2.2.1 a k
def rn_gr (M : rn_M) (a k : Nat) : Option Nat := M.2.2.2 a k
def rn_si (M : rn_M) (a k : Nat) (v : Int) : rn_M := (M.1, M.2.1, fun b j => if b = a ∧ j = k then v else M.2.2.1 b j, M.2.2.2)
def rn_sr (M : rn_M) (a k : Nat) (v : Option Nat) : rn_M := (M.1, M.2.1, M.2.2.1, fun b j => if b = a ∧ j = k then v else M.2.2.2 b j)
def rn_cpy (M : rn_M) (s d sp dp n : Nat) : rn_M := (M.1, M.2.1, fun b j => if b = d ∧ dp ≤ j ∧ j < dp + n then M.2.2.1 s (sp + (j - dp)) else M.2.2.1 b j, M.2.2.2)
def rn_nw (M : rn_M) (k n : Nat) : rn_M := (M.1 ++ [(k, n)], (M.2.1.1 - 1, M.2.1.2 - n), fun b j => if b = M.1.length then 0 else M.2.2.1 b j, fun b j => if b = M.1.length then none else M.2.2.2 b j)
def rn_sb (M : rn_M) (c s : Nat) : rn_M := (M.1, (c, s), M.2.2)
def rn_g (b : Bool) (P : Prop) : Prop := match b with | true => P | false => False
def rn_st1 (st : List rn_V) (f : Int → List rn_V → Prop) : Prop := match st with | .inl x :: t => f x t | _ => False
def rn_st2 (st : List rn_V) (f : Int → Int → List rn_V → Prop) : Prop := match st with | .inl y :: .inl x :: t => f x y t | _ => False
def rn_stR (st : List rn_V) (f : Nat → List rn_V → Prop) : Prop := match st with | .inr (.inl (some (some a))) :: t => f a t | _ => False
def rn_stA (st : List rn_V) (f : Nat → Int → List rn_V → Prop) : Prop := match st with | .inl i :: .inr (.inl (some (some a))) :: t => f a i t | _ => False
def rn_ldI (L : List rn_V) (i : Nat) (f : Int → Prop) : Prop := match L[i]? with | some (.inl x) => f x | _ => False
def rn_sl2 (st : List rn_V) (f : Int64 → Int64 → List rn_V → Prop) : Prop := match st with | .inr (.inr y) :: .inr (.inr x) :: t => f x y t | _ => False
def rn_sl1 (st : List rn_V) (f : Int64 → List rn_V → Prop) : Prop := match st with | .inr (.inr x) :: t => f x t | _ => False
def rn_ldL (L : List rn_V) (i : Nat) (f : Int64 → Prop) : Prop := match L[i]? with | some (.inr (.inr x)) => f x | _ => False
def rn_ldR (L : List rn_V) (i : Nat) (f : Option Nat → Prop) : Prop := match L[i]? with | some (.inr (.inl (some r))) => f r | _ => False
def rn_br (c A B : Prop) : Prop := (c → A) ∧ (¬ c → B)
def rn_in (M : rn_M) (a : Nat) (i : Int) : Prop := 0 ≤ i ∧ i < (rn_ln M a : Int)
def rn_okr (k : Nat) (x : Int) : Prop := match k with | 0 => True | 1 => x = 0 ∨ x = 1 | 2 => x = 0 | _ => 0 ≤ x ∧ x ≤ 65535
/-- a value of a field as its kind says -/
def rn_fv (k : Nat) (M : rn_M) (a b : Nat) : rn_V := match k with | 2 => .inr (.inl (some (rn_gr M a b))) | _ => .inl (rn_gi M a b)
/-- switch's roads -/
def rn_sw (ts : List Nat) (i : Nat) (f : Nat → Prop) : Prop := match ts[i]? with | some t => f t | none => False
abbrev rn_K : Type := Nat → List rn_V → List rn_V → rn_M → Prop
abbrev rn_Q : Type := Option rn_V → rn_M → Prop
abbrev rn_C : Type := Nat → List rn_V → rn_M → rn_Q → Prop
/-- a call: k = 4: of a method that makes cells -/
def rn_cal (k z mc ms : Nat) (as : List rn_V) (M : rn_M) (C : rn_C) (Q : rn_Q) : Prop := match k with
  | 4 => mc ≤ M.2.1.1 ∧ ms ≤ M.2.1.2 ∧ C z as (rn_sb M mc ms) (fun r M' => Q r (rn_sb M' (M.2.1.1 - mc) (M.2.1.2 - ms)))
  | _ => C z as M Q
def rn_rcv (as : List rn_V) (f : Nat → Prop) : Prop := match as with | .inr (.inl (some (some a))) :: _ => f a | _ => False
def rn_put (k : Nat) (st : List rn_V) (M : rn_M) (b : Nat) (f : Nat → rn_M → List rn_V → Prop) : Prop := match k with
  | 0 => match st with | .inl x :: .inr (.inl (some (some a))) :: t => f a (rn_si M a b x) t | _ => False
  | 1 => match st with | .inl x :: .inr (.inl (some (some a))) :: t => (x = 0 ∨ x = 1) ∧ f a (rn_si M a b x) t | _ => False
  | _ => match st with | .inr (.inl (some r)) :: .inr (.inl (some (some a))) :: t => f a (rn_sr M a b r) t | _ => False
def rn_acp (st : List rn_V) (f : Int → Int → Nat → Int → Nat → List rn_V → Prop) : Prop := match st with
  | .inl n :: .inl dp :: .inr (.inl (some (some d))) :: .inl sp :: .inr (.inl (some (some s))) :: t => f n dp d sp s t
  | _ => False
/-- one instruction; 'mcs': cells and slots of each method -/
def rn_stp (mcs : Nat → Nat × Nat) (nf : Nat → Nat) (e : rn_E) (L st : List rn_V) (M : rn_M) (Q : rn_Q) (K : rn_K) (C : rn_C) : Prop :=
  match e with
  | (ins, nx, a, b, _, k, c, ts) =>
  match ins with
  | .iconst n => K nx L (.inl n :: st) M
  | .bipush n => K nx L (.inl n :: st) M
  | .sipush n => K nx L (.inl n :: st) M
  | .aconst_null => K nx L (.inr (.inl (some none)) :: st) M
  | .iload _ => rn_ldI L a fun x => K nx L (.inl x :: st) M
  | .iload_n _ => rn_ldI L a fun x => K nx L (.inl x :: st) M
  | .aload _ => rn_ldR L a fun x => K nx L (.inr (.inl (some x)) :: st) M
  | .aload_n _ => rn_ldR L a fun x => K nx L (.inr (.inl (some x)) :: st) M
  | .istore _ => rn_st1 st fun x t => rn_g (Nat.blt a L.length) (rn_kl k L a (K nx (L.set a (.inl x)) t M))
  | .istore_n _ => rn_st1 st fun x t => rn_g (Nat.blt a L.length) (rn_kl k L a (K nx (L.set a (.inl x)) t M))
  | .astore _ => match st with | .inr (.inl (some r)) :: t => rn_g (Nat.blt a L.length) (rn_kl k L a (K nx (L.set a (.inr (.inl (some r)))) t M)) | _ => False
  | .astore_n _ => match st with | .inr (.inl (some r)) :: t => rn_g (Nat.blt a L.length) (rn_kl k L a (K nx (L.set a (.inr (.inl (some r)))) t M)) | _ => False
  | .iinc _ n => rn_ldI L a fun x => K nx (L.set a (.inl (rn_wr (x + n)))) st M
  | .lload _ => rn_ldL L a fun x => K nx L (.inr (.inr x) :: st) M
  | .lload_n _ => rn_ldL L a fun x => K nx L (.inr (.inr x) :: st) M
  | .lstore _ => rn_sl1 st fun x t => rn_g (Nat.blt (a + 1) L.length) (rn_kl k L a (K nx ((L.set a (.inr (.inr x))).set (a + 1) rn_J) t M))
  | .lstore_n _ => rn_sl1 st fun x t => rn_g (Nat.blt (a + 1) L.length) (rn_kl k L a (K nx ((L.set a (.inr (.inr x))).set (a + 1) rn_J) t M))
  | .ladd => rn_sl2 st fun x y t => K nx L (.inr (.inr (x + y)) :: t) M
  | .lmul => rn_sl2 st fun x y t => K nx L (.inr (.inr (x * y)) :: t) M
  | .lcmp => rn_sl2 st fun x y t => K nx L (.inl (lg_cmp x y).toInt :: t) M
  | .i2l => rn_st1 st fun x t => K nx L (.inr (.inr (rn_i2l x)) :: t) M
  | .ldc2_w _ => K nx L (.inr (.inr (Int64.ofNat a)) :: st) M
  | .idiv => rn_st2 st fun x y t => 0 ≤ x ∧ 0 < y ∧ K nx L (.inl (x / y) :: t) M
  | .irem => rn_st2 st fun x y t => 0 ≤ x ∧ 0 < y ∧ K nx L (.inl (x % y) :: t) M
  | .ixor => rn_st2 st fun x y t => K nx L (.inl (rn_xor x y) :: t) M
  | .iushr => rn_st2 st fun x y t => K nx L (.inl (rn_usr x y) :: t) M
  | .iadd => rn_st2 st fun x y t => K nx L (.inl (rn_wr (x + y)) :: t) M
  | .isub => rn_st2 st fun x y t => K nx L (.inl (rn_wr (x - y)) :: t) M
  | .imul => rn_st2 st fun x y t => K nx L (.inl (rn_wr (x * y)) :: t) M
  | .iand => rn_st2 st fun x y t => K nx L (.inl (rn_and x y) :: t) M
  | .ior => rn_st2 st fun x y t => K nx L (.inl (rn_or x y) :: t) M
  | .ishl => rn_st2 st fun x y t => K nx L (.inl (rn_shl x y) :: t) M
  | .ishr => rn_st2 st fun x y t => K nx L (.inl (rn_shr x y) :: t) M
  | .ineg => rn_st1 st fun x t => K nx L (.inl (rn_wr (-x)) :: t) M
  | .i2c => rn_st1 st fun x t => 0 ≤ x ∧ x ≤ 65535 ∧ K nx L (.inl x :: t) M
  | .dup => match st with | .inl x :: t => K nx L (.inl x :: .inl x :: t) M | .inr (.inl r) :: t => K nx L (.inr (.inl r) :: .inr (.inl r) :: t) M | _ => False
  | .pop => match st with | .inl _ :: t => K nx L t M | .inr (.inl _) :: t => K nx L t M | _ => False
  | .goto _ => K a L st M
  | .ifCond .eq _ => rn_st1 st fun x t => rn_br (x = 0) (K a L t M) (K nx L t M)
  | .ifCond .ne _ => rn_st1 st fun x t => rn_br (x = 0) (K nx L t M) (K a L t M)
  | .ifCond .lt _ => rn_st1 st fun x t => rn_br (x < 0) (K a L t M) (K nx L t M)
  | .ifCond .ge _ => rn_st1 st fun x t => rn_br (0 ≤ x) (K a L t M) (K nx L t M)
  | .ifCond .gt _ => rn_st1 st fun x t => rn_br (0 < x) (K a L t M) (K nx L t M)
  | .ifCond .le _ => rn_st1 st fun x t => rn_br (x ≤ 0) (K a L t M) (K nx L t M)
  | .if_icmp .eq _ => rn_st2 st fun x y t => rn_br (x = y) (K a L t M) (K nx L t M)
  | .if_icmp .ne _ => rn_st2 st fun x y t => rn_br (x = y) (K nx L t M) (K a L t M)
  | .if_icmp .lt _ => rn_st2 st fun x y t => rn_br (x < y) (K a L t M) (K nx L t M)
  | .if_icmp .ge _ => rn_st2 st fun x y t => rn_br (x < y) (K nx L t M) (K a L t M)
  | .if_icmp .gt _ => rn_st2 st fun x y t => rn_br (y < x) (K a L t M) (K nx L t M)
  | .if_icmp .le _ => rn_st2 st fun x y t => rn_br (x ≤ y) (K a L t M) (K nx L t M)
  | .ifnull _ => match st with | .inr (.inl (some none)) :: t => K a L t M | .inr (.inl (some (some _))) :: t => K nx L t M | _ => False
  | .ifnonnull _ => match st with | .inr (.inl (some none)) :: t => K nx L t M | .inr (.inl (some (some _))) :: t => K a L t M | _ => False
  | .tableswitch _ lo hi _ => rn_st1 st fun x t => rn_br (x < lo ∨ hi < x) (K a L t M) (rn_sw ts (x - lo).toNat fun p => K p L t M)
  | .getfield _ => rn_stR st fun r t => rn_kd M r = c ∧ K nx L (rn_fv k M r b :: t) M
  | .putfield _ => rn_put k st M b fun r M' t => rn_kd M r = c ∧ K nx L t M'
  | .getstatic _ => K nx L (.inr (.inl (some (some a))) :: st) M
  | .ldc _ => K nx L (.inl (a : Int) :: st) M
  | .iaload => rn_stA st fun r i t => (rn_kd M r = 20 ∨ rn_kd M r = 21) ∧ rn_in M r i ∧ K nx L (.inl (rn_gi M r i.toNat) :: t) M
  | .iastore => match st with | .inl x :: .inl i :: .inr (.inl (some (some r))) :: t => rn_kd M r = 20 ∧ rn_in M r i ∧ K nx L t (rn_si M r i.toNat x) | _ => False
  | .aaload => rn_stA st fun r i t => 30 ≤ rn_kd M r ∧ rn_in M r i ∧ K nx L (.inr (.inl (some (rn_gr M r i.toNat))) :: t) M
  | .aastore => match st with | .inr (.inl (some (some v))) :: .inl i :: .inr (.inl (some (some r))) :: t => 30 ≤ rn_kd M r ∧ rn_kd M v + 29 = rn_kd M r ∧ rn_in M r i ∧ K nx L t (rn_sr M r i.toNat (some v)) | _ => False
  | .arraylength => rn_stR st fun r t => (rn_kd M r = 20 ∨ rn_kd M r = 21) ∧ K nx L (.inl (rn_ln M r) :: t) M
  | .new _ => 1 ≤ M.2.1.1 ∧ nf a ≤ M.2.1.2 ∧ K nx L (.inr (.inl (some (some M.1.length))) :: st) (rn_nw M (a + 1) (nf a))
  | .newarray _ => rn_st1 st fun n t => 0 ≤ n ∧ n ≤ 100000 ∧ 1 ≤ M.2.1.1 ∧ n.toNat ≤ M.2.1.2 ∧ K nx L (.inr (.inl (some (some M.1.length))) :: t) (rn_nw M 20 n.toNat)
  | .anewarray _ => rn_st1 st fun n t => 0 ≤ n ∧ n ≤ 100000 ∧ 1 ≤ M.2.1.1 ∧ n.toNat ≤ M.2.1.2 ∧ K nx L (.inr (.inl (some (some M.1.length))) :: t) (rn_nw M (a + 30) n.toNat)
  | .invokevirtual _ => rn_g (Nat.ble b st.length && (Nat.ble (rn_sz (st.drop b)) 8 && rn_n2 (st.take b))) (rn_rcv (st.take b).reverse fun r => rn_kd M r = c ∧ rn_cal k a (mcs a).1 (mcs a).2 (st.take b).reverse M C fun v M' => K nx L (v.toList ++ st.drop b) M')
  | .invokestatic _ => match k with
    | 3 => rn_acp st fun n dp d sp s t => rn_g (Nat.ble (rn_sz t) 8) (rn_kd M s = 20 ∧ rn_kd M d = 20 ∧ 0 ≤ n ∧ 0 ≤ dp ∧ 0 ≤ sp ∧ sp + n ≤ (rn_ln M s : Int) ∧ dp + n ≤ (rn_ln M d : Int) ∧ K nx L t (rn_cpy M s d sp.toNat dp.toNat n.toNat))
    | 5 => rn_st2 st fun x y t => rn_g (Nat.ble (rn_sz t) 8) (K nx L (.inl (max x y) :: t) M)
    | 6 => rn_st2 st fun x y t => rn_g (Nat.ble (rn_sz t) 8) (K nx L (.inl (min x y) :: t) M)
    | 7 => rn_st1 st fun x t => rn_g (Nat.ble (rn_sz t) 8) (K nx L (.inl (rn_wr (max x (-x))) :: t) M)
    | _ => rn_g (Nat.ble b st.length && (Nat.ble (rn_sz (st.drop b)) 8 && rn_n2 (st.take b))) (rn_cal k a (mcs a).1 (mcs a).2 (st.take b).reverse M C fun v M' => K nx L (v.toList ++ st.drop b) M')
  | .invokespecial _ => match k with
    | 2 => rn_stR st fun _ t => rn_g (Nat.ble (rn_sz t) 8) (K nx L t M)
    | _ => rn_g (Nat.ble b st.length && (Nat.ble (rn_sz (st.drop b)) 8 && rn_n2 (st.take b))) (rn_rcv (st.take b).reverse fun r => rn_kd M r = c ∧ rn_cal k a (mcs a).1 (mcs a).2 (st.take b).reverse M C fun v M' => K nx L (v.toList ++ st.drop b) M')
  | .ireturn => match st with | [.inl x] => rn_okr k x ∧ Q (some (.inl x)) M | _ => False
  | .lreturn => match st with | [.inr (.inr x)] => Q (some (.inr (.inr x))) M | _ => False
  | .areturn => match st with | [.inr (.inl (some r))] => Q (some (.inr (.inl (some r)))) M | _ => False
  | .return_ => match st with | [] => Q none M | _ => False
  | _ => False
end
section
def rn_t0 : List (Nat × rn_E) := [(0, (.aload_n 0, 1, 0, 0, 0, 0, 0, [])),
  (1, (.invokespecial 3, 4, 1000, 1, 83, 2, 0, [0])),
  (4, (.aload_n 0, 5, 0, 0, 0, 0, 0, [])),
  (5, (.bipush 10, 7, 0, 0, 0, 0, 0, [])),
  (7, (.putfield 9, 10, 0, 3, 191, 0, 1, [])),
  (10, (.aload_n 0, 11, 0, 0, 0, 0, 0, [])),
  (11, (.bipush 6, 13, 0, 0, 0, 0, 0, [])),
  (13, (.anewarray 15, 16, 5, 0, 84, 0, 0, [])),
  (16, (.putfield 17, 19, 0, 4, 194, 2, 1, [])),
  (19, (.aload_n 0, 20, 0, 0, 0, 0, 0, [])),
  (20, (.bipush 10, 22, 0, 0, 0, 0, 0, [])),
  (22, (.anewarray 21, 25, 8, 0, 86, 0, 0, [])),
  (25, (.putfield 23, 28, 0, 5, 195, 2, 1, [])),
  (28, (.aload_n 0, 29, 0, 0, 0, 0, 0, [])),
  (29, (.bipush 20, 31, 0, 0, 0, 0, 0, [])),
  (31, (.anewarray 27, 34, 3, 0, 88, 0, 0, [])),
  (34, (.putfield 29, 37, 0, 6, 196, 2, 1, [])),
  (37, (.iconst 0, 38, 0, 0, 0, 0, 0, [])),
  (38, (.istore_n 1, 39, 1, 0, 0, 0, 0, [])),
  (39, (.iload_n 1, 40, 1, 0, 0, 0, 0, [])),
  (40, (.bipush 6, 42, 0, 0, 0, 0, 0, [])),
  (42, (.if_icmp .ge 23, 45, 65, 0, 0, 0, 0, [])),
  (45, (.aload_n 0, 46, 0, 0, 0, 0, 0, [])),
  (46, (.getfield 17, 49, 0, 4, 194, 2, 1, [])),
  (49, (.iload_n 1, 50, 1, 0, 0, 0, 0, [])),
  (50, (.new 15, 53, 5, 0, 84, 0, 0, [])),
  (53, (.dup, 54, 0, 0, 0, 0, 0, [])),
  (54, (.iload_n 1, 55, 1, 0, 0, 0, 0, [])),
  (55, (.invokespecial 33, 58, 57, 2, 91, 4, 6, [0])),
  (58, (.aastore, 59, 0, 0, 0, 0, 0, [])),
  (59, (.iinc 1 1, 62, 1, 0, 0, 0, 0, [])),
  (62, (.goto (-23), 65, 39, 0, 0, 0, 0, [])),
  (65, (.iconst 0, 66, 0, 0, 0, 0, 0, [])),
  (66, (.istore_n 1, 67, 1, 0, 0, 0, 0, [])),
  (67, (.iload_n 1, 68, 1, 0, 0, 0, 0, [])),
  (68, (.bipush 10, 70, 0, 0, 0, 0, 0, [])),
  (70, (.if_icmp .ge 22, 73, 92, 0, 0, 0, 0, [])),
  (73, (.aload_n 0, 74, 0, 0, 0, 0, 0, [])),
  (74, (.getfield 23, 77, 0, 5, 195, 2, 1, [])),
  (77, (.iload_n 1, 78, 1, 0, 0, 0, 0, [])),
  (78, (.new 21, 81, 8, 0, 86, 0, 0, [])),
  (81, (.dup, 82, 0, 0, 0, 0, 0, [])),
  (82, (.invokespecial 36, 85, 86, 1, 2, 0, 9, [1])),
  (85, (.aastore, 86, 0, 0, 0, 0, 0, [])),
  (86, (.iinc 1 1, 89, 1, 0, 0, 0, 0, [])),
  (89, (.goto (-22), 92, 67, 0, 0, 0, 0, [])),
  (92, (.iconst 0, 93, 0, 0, 0, 0, 0, [])),
  (93, (.istore_n 1, 94, 1, 0, 0, 0, 0, [])),
  (94, (.iload_n 1, 95, 1, 0, 0, 0, 0, [])),
  (95, (.bipush 20, 97, 0, 0, 0, 0, 0, [])),
  (97, (.if_icmp .ge 28, 100, 125, 0, 0, 0, 0, [])),
  (100, (.aload_n 0, 101, 0, 0, 0, 0, 0, [])),
  (101, (.getfield 29, 104, 0, 6, 196, 2, 1, [])),
  (104, (.iload_n 1, 105, 1, 0, 0, 0, 0, [])),
  (105, (.new 27, 108, 3, 0, 88, 0, 0, [])),
  (108, (.dup, 109, 0, 0, 0, 0, 0, [])),
  (109, (.aload_n 0, 110, 0, 0, 0, 0, 0, [])),
  (110, (.getfield 17, 113, 0, 4, 194, 2, 1, [])),
  (113, (.iconst 0, 114, 0, 0, 0, 0, 0, [])),
  (114, (.aaload, 115, 0, 0, 0, 0, 0, [])),
  (115, (.invokespecial 37, 118, 40, 2, 165, 0, 4, [0])),
  (118, (.aastore, 119, 0, 0, 0, 0, 0, [])),
  (119, (.iinc 1 1, 122, 1, 0, 0, 0, 0, [])),
  (122, (.goto (-28), 125, 94, 0, 0, 0, 0, [])),
  (125, (.return_, 126, 0, 0, 0, 0, 0, []))]
def rn_m0 : rn_Mt := (yX0_init, cX0_init, 2, none, true, 63, 3000, 2, 41, rn_t0)
def rn_t1 : List (Nat × rn_E) := [(0, (.aload_n 0, 1, 0, 0, 0, 0, 0, [])),
  (1, (.iconst 0, 2, 0, 0, 0, 0, 0, [])),
  (2, (.putfield 40, 5, 0, 0, 182, 0, 1, [])),
  (5, (.aload_n 0, 6, 0, 0, 0, 0, 0, [])),
  (6, (.iconst 0, 7, 0, 0, 0, 0, 0, [])),
  (7, (.putfield 43, 10, 0, 1, 185, 0, 1, [])),
  (10, (.aload_n 0, 11, 0, 0, 0, 0, 0, [])),
  (11, (.iconst 0, 12, 0, 0, 0, 0, 0, [])),
  (12, (.putfield 46, 15, 0, 2, 188, 0, 1, [])),
  (15, (.aload_n 0, 16, 0, 0, 0, 0, 0, [])),
  (16, (.aload_n 1, 17, 1, 0, 0, 0, 0, [])),
  (17, (.getfield 9, 20, 0, 3, 191, 0, 1, [])),
  (20, (.putfield 9, 23, 0, 3, 191, 0, 1, [])),
  (23, (.iconst 0, 24, 0, 0, 0, 0, 0, [])),
  (24, (.istore_n 2, 25, 2, 0, 0, 0, 0, [])),
  (25, (.iload_n 2, 26, 2, 0, 0, 0, 0, [])),
  (26, (.aload_n 1, 27, 1, 0, 0, 0, 0, [])),
  (27, (.getfield 40, 30, 0, 0, 182, 0, 1, [])),
  (30, (.if_icmp .ge 18, 33, 48, 0, 0, 0, 0, [])),
  (33, (.aload_n 0, 34, 0, 0, 0, 0, 0, [])),
  (34, (.aload_n 1, 35, 1, 0, 0, 0, 0, [])),
  (35, (.iload_n 2, 36, 2, 0, 0, 0, 0, [])),
  (36, (.invokevirtual 49, 39, 5, 2, 377, 0, 1, [0])),
  (39, (.invokevirtual 53, 42, 2, 2, 528, 0, 1, [0])),
  (42, (.iinc 2 1, 45, 2, 0, 0, 0, 0, [])),
  (45, (.goto (-20), 48, 25, 0, 0, 0, 0, [])),
  (48, (.iconst 0, 49, 0, 0, 0, 0, 0, [])),
  (49, (.istore_n 2, 50, 2, 0, 0, 0, 0, [])),
  (50, (.iload_n 2, 51, 2, 0, 0, 0, 0, [])),
  (51, (.aload_n 1, 52, 1, 0, 0, 0, 0, [])),
  (52, (.getfield 43, 55, 0, 1, 185, 0, 1, [])),
  (55, (.if_icmp .ge 18, 58, 73, 0, 0, 0, 0, [])),
  (58, (.aload_n 0, 59, 0, 0, 0, 0, 0, [])),
  (59, (.aload_n 1, 60, 1, 0, 0, 0, 0, [])),
  (60, (.iload_n 2, 61, 2, 0, 0, 0, 0, [])),
  (61, (.invokevirtual 56, 64, 6, 2, 482, 0, 1, [0])),
  (64, (.invokevirtual 60, 67, 3, 2, 547, 0, 1, [0])),
  (67, (.iinc 2 1, 70, 2, 0, 0, 0, 0, [])),
  (70, (.goto (-20), 73, 50, 0, 0, 0, 0, [])),
  (73, (.iconst 0, 74, 0, 0, 0, 0, 0, [])),
  (74, (.istore_n 2, 75, 2, 0, 0, 0, 0, [])),
  (75, (.iload_n 2, 76, 2, 0, 0, 0, 0, [])),
  (76, (.aload_n 1, 77, 1, 0, 0, 0, 0, [])),
  (77, (.getfield 46, 80, 0, 2, 188, 0, 1, [])),
  (80, (.if_icmp .ge 18, 83, 98, 0, 0, 0, 0, [])),
  (83, (.aload_n 0, 84, 0, 0, 0, 0, 0, [])),
  (84, (.aload_n 1, 85, 1, 0, 0, 0, 0, [])),
  (85, (.iload_n 2, 86, 2, 0, 0, 0, 0, [])),
  (86, (.invokevirtual 64, 89, 7, 2, 288, 0, 1, [0])),
  (89, (.invokevirtual 68, 92, 4, 2, 563, 0, 1, [0])),
  (92, (.iinc 2 1, 95, 2, 0, 0, 0, 0, [])),
  (95, (.goto (-20), 98, 75, 0, 0, 0, 0, [])),
  (98, (.return_, 99, 0, 0, 0, 0, 0, []))]
def rn_m1 : rn_Mt := (yX0_copyFrom, cX0_copyFrom, 3, none, false, 0, 0, 3, 81, rn_t1)
def rn_t2 : List (Nat × rn_E) := [(0, (.aload_n 0, 1, 0, 0, 0, 0, 0, [])),
  (1, (.invokevirtual 72, 4, 8, 1, 532, 0, 1, [0])),
  (4, (.astore_n 2, 5, 2, 0, 0, 0, 0, [])),
  (5, (.aload_n 2, 6, 2, 0, 0, 0, 0, [])),
  (6, (.ifnull 12, 9, 18, 0, 0, 0, 0, [])),
  (9, (.aload_n 1, 10, 1, 0, 0, 0, 0, [])),
  (10, (.ifnull 8, 13, 18, 0, 0, 0, 0, [])),
  (13, (.aload_n 2, 14, 2, 0, 0, 0, 0, [])),
  (14, (.aload_n 1, 15, 1, 0, 0, 0, 0, [])),
  (15, (.invokevirtual 76, 18, 58, 2, 540, 0, 6, [0])),
  (18, (.return_, 19, 0, 0, 0, 0, 0, []))]
def rn_m2 : rn_Mt := (yX0_copyRiver, cX0_copyRiver, 3, none, false, 0, 0, 2, 59, rn_t2)
def rn_t3 : List (Nat × rn_E) := [(0, (.aload_n 0, 1, 0, 0, 0, 0, 0, [])),
  (1, (.invokevirtual 79, 4, 9, 1, 551, 0, 1, [0])),
  (4, (.astore_n 2, 5, 2, 0, 0, 0, 0, [])),
  (5, (.aload_n 2, 6, 2, 0, 0, 0, 0, [])),
  (6, (.ifnull 12, 9, 18, 0, 0, 0, 0, [])),
  (9, (.aload_n 1, 10, 1, 0, 0, 0, 0, [])),
  (10, (.ifnull 8, 13, 18, 0, 0, 0, 0, [])),
  (13, (.aload_n 2, 14, 2, 0, 0, 0, 0, [])),
  (14, (.aload_n 1, 15, 1, 0, 0, 0, 0, [])),
  (15, (.invokevirtual 83, 18, 88, 2, 555, 0, 9, [0])),
  (18, (.return_, 19, 0, 0, 0, 0, 0, []))]
def rn_m3 : rn_Mt := (yX0_copyTown, cX0_copyTown, 3, none, false, 0, 0, 2, 46, rn_t3)
def rn_t4 : List (Nat × rn_E) := [(0, (.aload_n 1, 1, 1, 0, 0, 0, 0, [])),
  (1, (.ifnull 23, 4, 24, 0, 0, 0, 0, [])),
  (4, (.aload_n 0, 5, 0, 0, 0, 0, 0, [])),
  (5, (.aload_n 0, 6, 0, 0, 0, 0, 0, [])),
  (6, (.aload_n 1, 7, 1, 0, 0, 0, 0, [])),
  (7, (.getfield 85, 10, 3, 0, 171, 2, 4, [])),
  (10, (.getfield 89, 13, 5, 0, 97, 0, 6, [])),
  (13, (.invokevirtual 49, 16, 5, 2, 377, 0, 1, [0])),
  (16, (.aload_n 1, 17, 1, 0, 0, 0, 0, [])),
  (17, (.getfield 92, 20, 3, 1, 175, 0, 4, [])),
  (20, (.invokevirtual 95, 23, 10, 3, 567, 0, 1, [0])),
  (23, (.pop, 24, 0, 0, 0, 0, 0, [])),
  (24, (.return_, 25, 0, 0, 0, 0, 0, []))]
def rn_m4 : rn_Mt := (yX0_copyLabel, cX0_copyLabel, 2, none, false, 0, 0, 2, 45, rn_t4)
def rn_t5 : List (Nat × rn_E) := [(0, (.iload_n 1, 1, 1, 0, 0, 0, 0, [])),
  (1, (.iconst 0, 2, 0, 0, 0, 0, 0, [])),
  (2, (.aload_n 0, 3, 0, 0, 0, 0, 0, [])),
  (3, (.getfield 40, 6, 0, 0, 182, 0, 1, [])),
  (6, (.iconst 1, 7, 0, 0, 0, 0, 0, [])),
  (7, (.isub, 8, 0, 0, 0, 0, 0, [])),
  (8, (.invokestatic 99, 11, 118, 3, 6, 0, 10, [1])),
  (11, (.ifCond .eq 12, 14, 23, 0, 0, 0, 0, [])),
  (14, (.aload_n 0, 15, 0, 0, 0, 0, 0, [])),
  (15, (.getfield 17, 18, 0, 4, 194, 2, 1, [])),
  (18, (.iload_n 1, 19, 1, 0, 0, 0, 0, [])),
  (19, (.aaload, 20, 0, 0, 0, 0, 0, [])),
  (20, (.goto 4, 23, 24, 0, 0, 0, 0, [])),
  (23, (.aconst_null, 24, 0, 0, 0, 0, 0, [])),
  (24, (.areturn, 25, 0, 0, 0, 0, 0, []))]
def rn_m5 : rn_Mt := (yX0_riverAt, cX0_riverAt, 2, (some (.object "RiverNames$River")), false, 0, 0, 1, 22, rn_t5)
def rn_t6 : List (Nat × rn_E) := [(0, (.iload_n 1, 1, 1, 0, 0, 0, 0, [])),
  (1, (.iconst 0, 2, 0, 0, 0, 0, 0, [])),
  (2, (.aload_n 0, 3, 0, 0, 0, 0, 0, [])),
  (3, (.getfield 43, 6, 0, 1, 185, 0, 1, [])),
  (6, (.iconst 1, 7, 0, 0, 0, 0, 0, [])),
  (7, (.isub, 8, 0, 0, 0, 0, 0, [])),
  (8, (.invokestatic 99, 11, 118, 3, 6, 0, 10, [1])),
  (11, (.ifCond .eq 12, 14, 23, 0, 0, 0, 0, [])),
  (14, (.aload_n 0, 15, 0, 0, 0, 0, 0, [])),
  (15, (.getfield 23, 18, 0, 5, 195, 2, 1, [])),
  (18, (.iload_n 1, 19, 1, 0, 0, 0, 0, [])),
  (19, (.aaload, 20, 0, 0, 0, 0, 0, [])),
  (20, (.goto 4, 23, 24, 0, 0, 0, 0, [])),
  (23, (.aconst_null, 24, 0, 0, 0, 0, 0, [])),
  (24, (.areturn, 25, 0, 0, 0, 0, 0, []))]
def rn_m6 : rn_Mt := (yX0_townAt, cX0_townAt, 2, (some (.object "RiverNames$Town")), false, 0, 0, 1, 22, rn_t6)
def rn_t7 : List (Nat × rn_E) := [(0, (.iload_n 1, 1, 1, 0, 0, 0, 0, [])),
  (1, (.iconst 0, 2, 0, 0, 0, 0, 0, [])),
  (2, (.aload_n 0, 3, 0, 0, 0, 0, 0, [])),
  (3, (.getfield 46, 6, 0, 2, 188, 0, 1, [])),
  (6, (.iconst 1, 7, 0, 0, 0, 0, 0, [])),
  (7, (.isub, 8, 0, 0, 0, 0, 0, [])),
  (8, (.invokestatic 99, 11, 118, 3, 6, 0, 10, [1])),
  (11, (.ifCond .eq 12, 14, 23, 0, 0, 0, 0, [])),
  (14, (.aload_n 0, 15, 0, 0, 0, 0, 0, [])),
  (15, (.getfield 29, 18, 0, 6, 196, 2, 1, [])),
  (18, (.iload_n 1, 19, 1, 0, 0, 0, 0, [])),
  (19, (.aaload, 20, 0, 0, 0, 0, 0, [])),
  (20, (.goto 4, 23, 24, 0, 0, 0, 0, [])),
  (23, (.aconst_null, 24, 0, 0, 0, 0, 0, [])),
  (24, (.areturn, 25, 0, 0, 0, 0, 0, []))]
def rn_m7 : rn_Mt := (yX0_labelAt, cX0_labelAt, 2, (some (.object "RiverNames$Label")), false, 0, 0, 1, 22, rn_t7)
def rn_t8 : List (Nat × rn_E) := [(0, (.aload_n 0, 1, 0, 0, 0, 0, 0, [])),
  (1, (.getfield 40, 4, 0, 0, 182, 0, 1, [])),
  (4, (.iconst 0, 5, 0, 0, 0, 0, 0, [])),
  (5, (.iconst 5, 6, 0, 0, 0, 0, 0, [])),
  (6, (.invokestatic 99, 9, 118, 3, 6, 0, 10, [1])),
  (9, (.ifCond .ne 5, 12, 14, 0, 0, 0, 0, [])),
  (12, (.aconst_null, 13, 0, 0, 0, 0, 0, [])),
  (13, (.areturn, 14, 0, 0, 0, 0, 0, [])),
  (14, (.aload_n 0, 15, 0, 0, 0, 0, 0, [])),
  (15, (.getfield 17, 18, 0, 4, 194, 2, 1, [])),
  (18, (.aload_n 0, 19, 0, 0, 0, 0, 0, [])),
  (19, (.getfield 40, 22, 0, 0, 182, 0, 1, [])),
  (22, (.aaload, 23, 0, 0, 0, 0, 0, [])),
  (23, (.astore_n 1, 24, 1, 0, 0, 0, 0, [])),
  (24, (.aload_n 1, 25, 1, 0, 0, 0, 0, [])),
  (25, (.ifnull 17, 28, 42, 0, 0, 0, 0, [])),
  (28, (.aload_n 1, 29, 1, 0, 0, 0, 0, [])),
  (29, (.invokevirtual 103, 32, 59, 1, 536, 0, 6, [0])),
  (32, (.aload_n 0, 33, 0, 0, 0, 0, 0, [])),
  (33, (.dup, 34, 0, 0, 0, 0, 0, [])),
  (34, (.getfield 40, 37, 0, 0, 182, 0, 1, [])),
  (37, (.iconst 1, 38, 0, 0, 0, 0, 0, [])),
  (38, (.iadd, 39, 0, 0, 0, 0, 0, [])),
  (39, (.putfield 40, 42, 0, 0, 182, 0, 1, [])),
  (42, (.aload_n 1, 43, 1, 0, 0, 0, 0, [])),
  (43, (.areturn, 44, 0, 0, 0, 0, 0, []))]
def rn_m8 : rn_Mt := (yX0_nextRiver, cX0_nextRiver, 2, (some (.object "RiverNames$River")), false, 0, 0, 1, 22, rn_t8)
def rn_t9 : List (Nat × rn_E) := [(0, (.aload_n 0, 1, 0, 0, 0, 0, 0, [])),
  (1, (.getfield 43, 4, 0, 1, 185, 0, 1, [])),
  (4, (.iconst 0, 5, 0, 0, 0, 0, 0, [])),
  (5, (.bipush 9, 7, 0, 0, 0, 0, 0, [])),
  (7, (.invokestatic 99, 10, 118, 3, 6, 0, 10, [1])),
  (10, (.ifCond .ne 5, 13, 15, 0, 0, 0, 0, [])),
  (13, (.aconst_null, 14, 0, 0, 0, 0, 0, [])),
  (14, (.areturn, 15, 0, 0, 0, 0, 0, [])),
  (15, (.aload_n 0, 16, 0, 0, 0, 0, 0, [])),
  (16, (.dup, 17, 0, 0, 0, 0, 0, [])),
  (17, (.getfield 43, 20, 0, 1, 185, 0, 1, [])),
  (20, (.iconst 1, 21, 0, 0, 0, 0, 0, [])),
  (21, (.iadd, 22, 0, 0, 0, 0, 0, [])),
  (22, (.putfield 43, 25, 0, 1, 185, 0, 1, [])),
  (25, (.aload_n 0, 26, 0, 0, 0, 0, 0, [])),
  (26, (.getfield 23, 29, 0, 5, 195, 2, 1, [])),
  (29, (.aload_n 0, 30, 0, 0, 0, 0, 0, [])),
  (30, (.getfield 43, 33, 0, 1, 185, 0, 1, [])),
  (33, (.iconst 1, 34, 0, 0, 0, 0, 0, [])),
  (34, (.isub, 35, 0, 0, 0, 0, 0, [])),
  (35, (.aaload, 36, 0, 0, 0, 0, 0, [])),
  (36, (.areturn, 37, 0, 0, 0, 0, 0, []))]
def rn_m9 : rn_Mt := (yX0_nextTown, cX0_nextTown, 1, (some (.object "RiverNames$Town")), false, 0, 0, 1, 22, rn_t9)
def rn_t10 : List (Nat × rn_E) := [(0, (.aload_n 1, 1, 1, 0, 0, 0, 0, [])),
  (1, (.ifnull 16, 4, 17, 0, 0, 0, 0, [])),
  (4, (.aload_n 0, 5, 0, 0, 0, 0, 0, [])),
  (5, (.getfield 46, 8, 0, 2, 188, 0, 1, [])),
  (8, (.iconst 0, 9, 0, 0, 0, 0, 0, [])),
  (9, (.bipush 19, 11, 0, 0, 0, 0, 0, [])),
  (11, (.invokestatic 99, 14, 118, 3, 6, 0, 10, [1])),
  (14, (.ifCond .ne 5, 17, 19, 0, 0, 0, 0, [])),
  (17, (.iconst 0, 18, 0, 0, 0, 0, 0, [])),
  (18, (.ireturn, 19, 0, 0, 0, 1, 0, [])),
  (19, (.aload_n 0, 20, 0, 0, 0, 0, 0, [])),
  (20, (.getfield 29, 23, 0, 6, 196, 2, 1, [])),
  (23, (.aload_n 0, 24, 0, 0, 0, 0, 0, [])),
  (24, (.getfield 46, 27, 0, 2, 188, 0, 1, [])),
  (27, (.aaload, 28, 0, 0, 0, 0, 0, [])),
  (28, (.astore_n 3, 29, 3, 0, 0, 0, 0, [])),
  (29, (.aload_n 3, 30, 3, 0, 0, 0, 0, [])),
  (30, (.ifnonnull 5, 33, 35, 0, 0, 0, 0, [])),
  (33, (.iconst 0, 34, 0, 0, 0, 0, 0, [])),
  (34, (.ireturn, 35, 0, 0, 0, 1, 0, [])),
  (35, (.aload_n 3, 36, 3, 0, 0, 0, 0, [])),
  (36, (.aload_n 1, 37, 1, 0, 0, 0, 0, [])),
  (37, (.iload_n 2, 38, 2, 0, 0, 0, 0, [])),
  (38, (.invokevirtual 106, 41, 41, 3, 571, 0, 4, [0])),
  (41, (.aload_n 0, 42, 0, 0, 0, 0, 0, [])),
  (42, (.dup, 43, 0, 0, 0, 0, 0, [])),
  (43, (.getfield 46, 46, 0, 2, 188, 0, 1, [])),
  (46, (.iconst 1, 47, 0, 0, 0, 0, 0, [])),
  (47, (.iadd, 48, 0, 0, 0, 0, 0, [])),
  (48, (.putfield 46, 51, 0, 2, 188, 0, 1, [])),
  (51, (.iconst 1, 52, 0, 0, 0, 0, 0, [])),
  (52, (.ireturn, 53, 0, 0, 0, 1, 0, []))]
def rn_m10 : rn_Mt := (yX0_addLabel, cX0_addLabel, 4, (some .boolean), false, 0, 0, 1, 22, rn_t10)
def rn_t11 : List (Nat × rn_E) := [(0, (.aload_n 0, 1, 0, 0, 0, 0, 0, [])),
  (1, (.iload_n 1, 2, 1, 0, 0, 0, 0, [])),
  (2, (.invokevirtual 64, 5, 7, 2, 288, 0, 1, [0])),
  (5, (.astore_n 2, 6, 2, 0, 0, 0, 0, [])),
  (6, (.aload_n 2, 7, 2, 0, 0, 0, 0, [])),
  (7, (.ifnonnull 5, 10, 12, 0, 0, 0, 0, [])),
  (10, (.iconst 0, 11, 0, 0, 0, 0, 0, [])),
  (11, (.ireturn, 12, 0, 0, 0, 1, 0, [])),
  (12, (.iload_n 1, 13, 1, 0, 0, 0, 0, [])),
  (13, (.istore_n 3, 14, 3, 0, 0, 0, 0, [])),
  (14, (.iload_n 3, 15, 3, 0, 0, 0, 0, [])),
  (15, (.aload_n 0, 16, 0, 0, 0, 0, 0, [])),
  (16, (.getfield 46, 19, 0, 2, 188, 0, 1, [])),
  (19, (.iconst 1, 20, 0, 0, 0, 0, 0, [])),
  (20, (.isub, 21, 0, 0, 0, 0, 0, [])),
  (21, (.if_icmp .ge 23, 24, 44, 0, 0, 0, 0, [])),
  (24, (.aload_n 0, 25, 0, 0, 0, 0, 0, [])),
  (25, (.getfield 29, 28, 0, 6, 196, 2, 1, [])),
  (28, (.iload_n 3, 29, 3, 0, 0, 0, 0, [])),
  (29, (.aload_n 0, 30, 0, 0, 0, 0, 0, [])),
  (30, (.getfield 29, 33, 0, 6, 196, 2, 1, [])),
  (33, (.iload_n 3, 34, 3, 0, 0, 0, 0, [])),
  (34, (.iconst 1, 35, 0, 0, 0, 0, 0, [])),
  (35, (.iadd, 36, 0, 0, 0, 0, 0, [])),
  (36, (.aaload, 37, 0, 0, 0, 0, 0, [])),
  (37, (.aastore, 38, 0, 0, 0, 0, 0, [])),
  (38, (.iinc 3 1, 41, 3, 0, 0, 0, 0, [])),
  (41, (.goto (-27), 44, 14, 0, 0, 0, 0, [])),
  (44, (.aload_n 0, 45, 0, 0, 0, 0, 0, [])),
  (45, (.getfield 29, 48, 0, 6, 196, 2, 1, [])),
  (48, (.aload_n 0, 49, 0, 0, 0, 0, 0, [])),
  (49, (.getfield 46, 52, 0, 2, 188, 0, 1, [])),
  (52, (.iconst 1, 53, 0, 0, 0, 0, 0, [])),
  (53, (.isub, 54, 0, 0, 0, 0, 0, [])),
  (54, (.aload_n 2, 55, 2, 0, 0, 0, 0, [])),
  (55, (.aastore, 56, 0, 0, 0, 0, 0, [])),
  (56, (.aload_n 0, 57, 0, 0, 0, 0, 0, [])),
  (57, (.dup, 58, 0, 0, 0, 0, 0, [])),
  (58, (.getfield 46, 61, 0, 2, 188, 0, 1, [])),
  (61, (.iconst 1, 62, 0, 0, 0, 0, 0, [])),
  (62, (.isub, 63, 0, 0, 0, 0, 0, [])),
  (63, (.putfield 46, 66, 0, 2, 188, 0, 1, [])),
  (66, (.iconst 1, 67, 0, 0, 0, 0, 0, [])),
  (67, (.ireturn, 68, 0, 0, 0, 1, 0, []))]
def rn_m11 : rn_Mt := (yX0_dropLabel, cX0_dropLabel, 4, (some .boolean), false, 0, 0, 2, 43, rn_t11)
def rn_t12 : List (Nat × rn_E) := [(0, (.iconst 0, 1, 0, 0, 0, 0, 0, [])),
  (1, (.istore_n 2, 2, 2, 0, 0, 0, 0, [])),
  (2, (.iconst 0, 3, 0, 0, 0, 0, 0, [])),
  (3, (.istore_n 3, 4, 3, 0, 0, 0, 0, [])),
  (4, (.iload_n 3, 5, 3, 0, 0, 0, 0, [])),
  (5, (.aload_n 0, 6, 0, 0, 0, 0, 0, [])),
  (6, (.getfield 46, 9, 0, 2, 188, 0, 1, [])),
  (9, (.if_icmp .ge 39, 12, 48, 0, 0, 0, 0, [])),
  (12, (.aload_n 0, 13, 0, 0, 0, 0, 0, [])),
  (13, (.iload_n 3, 14, 3, 0, 0, 0, 0, [])),
  (14, (.invokevirtual 64, 17, 7, 2, 288, 0, 1, [0])),
  (17, (.astore 4, 19, 4, 0, 0, 0, 0, [])),
  (19, (.aload 4, 21, 4, 0, 0, 0, 0, [])),
  (21, (.ifnull 21, 24, 42, 0, 0, 0, 0, [])),
  (24, (.aload 4, 26, 4, 0, 0, 0, 0, [])),
  (26, (.getfield 85, 29, 3, 0, 171, 2, 4, [])),
  (29, (.getfield 89, 32, 5, 0, 97, 0, 6, [])),
  (32, (.aload_n 1, 33, 1, 0, 0, 0, 0, [])),
  (33, (.getfield 89, 36, 5, 0, 97, 0, 6, [])),
  (36, (.if_icmp .ne 6, 39, 42, 0, 0, 0, 0, [])),
  (39, (.iinc 2 1, 42, 2, 0, 0, 0, 0, [])),
  (42, (.iinc 3 1, 45, 3, 0, 0, 0, 0, [])),
  (45, (.goto (-41), 48, 4, 0, 0, 0, 0, [])),
  (48, (.iload_n 2, 49, 2, 0, 0, 0, 0, [])),
  (49, (.ireturn, 50, 0, 0, 0, 0, 0, []))]
def rn_m12 : rn_Mt := (yX0_labelsOf, cX0_labelsOf, 5, (some .int), false, 0, 0, 2, 43, rn_t12)
def rn_t13 : List (Nat × rn_E) := [(0, (.iconst 0, 1, 0, 0, 0, 0, 0, [])),
  (1, (.istore_n 2, 2, 2, 0, 0, 0, 0, [])),
  (2, (.iconst 0, 3, 0, 0, 0, 0, 0, [])),
  (3, (.istore_n 3, 4, 3, 0, 0, 0, 0, [])),
  (4, (.iload_n 3, 5, 3, 0, 0, 0, 0, [])),
  (5, (.aload_n 0, 6, 0, 0, 0, 0, 0, [])),
  (6, (.getfield 46, 9, 0, 2, 188, 0, 1, [])),
  (9, (.if_icmp .ge 33, 12, 42, 0, 0, 0, 0, [])),
  (12, (.aload_n 0, 13, 0, 0, 0, 0, 0, [])),
  (13, (.iload_n 3, 14, 3, 0, 0, 0, 0, [])),
  (14, (.invokevirtual 64, 17, 7, 2, 288, 0, 1, [0])),
  (17, (.astore 4, 19, 4, 0, 0, 0, 0, [])),
  (19, (.aload 4, 21, 4, 0, 0, 0, 0, [])),
  (21, (.ifnull 15, 24, 36, 0, 0, 0, 0, [])),
  (24, (.aload 4, 26, 4, 0, 0, 0, 0, [])),
  (26, (.aload_n 1, 27, 1, 0, 0, 0, 0, [])),
  (27, (.invokevirtual 110, 30, 42, 2, 483, 0, 4, [0])),
  (30, (.ifCond .eq 6, 33, 36, 0, 0, 0, 0, [])),
  (33, (.iinc 2 1, 36, 2, 0, 0, 0, 0, [])),
  (36, (.iinc 3 1, 39, 3, 0, 0, 0, 0, [])),
  (39, (.goto (-35), 42, 4, 0, 0, 0, 0, [])),
  (42, (.iload_n 2, 43, 2, 0, 0, 0, 0, [])),
  (43, (.ireturn, 44, 0, 0, 0, 0, 0, []))]
def rn_m13 : rn_Mt := (yX0_labelsOver, cX0_labelsOver, 5, (some .int), false, 0, 0, 3, 67, rn_t13)
def rn_t14 : List (Nat × rn_E) := [(0, (.iconst 0, 1, 0, 0, 0, 0, 0, [])),
  (1, (.istore_n 2, 2, 2, 0, 0, 0, 0, [])),
  (2, (.iconst 0, 3, 0, 0, 0, 0, 0, [])),
  (3, (.istore_n 3, 4, 3, 0, 0, 0, 0, [])),
  (4, (.iload_n 3, 5, 3, 0, 0, 0, 0, [])),
  (5, (.aload_n 0, 6, 0, 0, 0, 0, 0, [])),
  (6, (.getfield 43, 9, 0, 1, 185, 0, 1, [])),
  (9, (.if_icmp .ge 33, 12, 42, 0, 0, 0, 0, [])),
  (12, (.aload_n 0, 13, 0, 0, 0, 0, 0, [])),
  (13, (.iload_n 3, 14, 3, 0, 0, 0, 0, [])),
  (14, (.invokevirtual 56, 17, 6, 2, 482, 0, 1, [0])),
  (17, (.astore 4, 19, 4, 0, 0, 0, 0, [])),
  (19, (.aload 4, 21, 4, 0, 0, 0, 0, [])),
  (21, (.ifnull 15, 24, 36, 0, 0, 0, 0, [])),
  (24, (.aload_n 1, 25, 1, 0, 0, 0, 0, [])),
  (25, (.aload 4, 27, 4, 0, 0, 0, 0, [])),
  (27, (.invokevirtual 110, 30, 42, 2, 483, 0, 4, [0])),
  (30, (.ifCond .eq 6, 33, 36, 0, 0, 0, 0, [])),
  (33, (.iinc 2 1, 36, 2, 0, 0, 0, 0, [])),
  (36, (.iinc 3 1, 39, 3, 0, 0, 0, 0, [])),
  (39, (.goto (-35), 42, 4, 0, 0, 0, 0, [])),
  (42, (.iload_n 2, 43, 2, 0, 0, 0, 0, [])),
  (43, (.ireturn, 44, 0, 0, 0, 0, 0, []))]
def rn_m14 : rn_Mt := (yX0_townsUnder, cX0_townsUnder, 5, (some .int), false, 0, 0, 3, 67, rn_t14)
def rn_t15 : List (Nat × rn_E) := [(0, (.iconst 0, 1, 0, 0, 0, 0, 0, [])),
  (1, (.istore_n 1, 2, 1, 0, 0, 0, 0, [])),
  (2, (.iconst 0, 3, 0, 0, 0, 0, 0, [])),
  (3, (.istore_n 2, 4, 2, 0, 0, 0, 0, [])),
  (4, (.iload_n 2, 5, 2, 0, 0, 0, 0, [])),
  (5, (.aload_n 0, 6, 0, 0, 0, 0, 0, [])),
  (6, (.getfield 46, 9, 0, 2, 188, 0, 1, [])),
  (9, (.if_icmp .ge 33, 12, 42, 0, 0, 0, 0, [])),
  (12, (.aload_n 0, 13, 0, 0, 0, 0, 0, [])),
  (13, (.iload_n 2, 14, 2, 0, 0, 0, 0, [])),
  (14, (.invokevirtual 64, 17, 7, 2, 288, 0, 1, [0])),
  (17, (.astore_n 3, 18, 3, 0, 0, 0, 0, [])),
  (18, (.aload_n 3, 19, 3, 0, 0, 0, 0, [])),
  (19, (.ifnull 17, 22, 36, 0, 0, 0, 0, [])),
  (22, (.iload_n 1, 23, 1, 0, 0, 0, 0, [])),
  (23, (.aload_n 3, 24, 3, 0, 0, 0, 0, [])),
  (24, (.getfield 85, 27, 3, 0, 171, 2, 4, [])),
  (27, (.aload_n 3, 28, 3, 0, 0, 0, 0, [])),
  (28, (.getfield 92, 31, 3, 1, 175, 0, 4, [])),
  (31, (.invokevirtual 114, 34, 72, 2, 293, 0, 6, [0])),
  (34, (.iadd, 35, 0, 0, 0, 0, 0, [])),
  (35, (.istore_n 1, 36, 1, 0, 0, 0, 0, [])),
  (36, (.iinc 2 1, 39, 2, 0, 0, 0, 0, [])),
  (39, (.goto (-35), 42, 4, 0, 0, 0, 0, [])),
  (42, (.iload_n 1, 43, 1, 0, 0, 0, 0, [])),
  (43, (.ireturn, 44, 0, 0, 0, 0, 0, []))]
def rn_m15 : rn_Mt := (yX0_costOfLabels, cX0_costOfLabels, 4, (some .int), false, 0, 0, 4, 88, rn_t15)
def rn_t16 : List (Nat × rn_E) := [(0, (.aload_n 1, 1, 1, 0, 0, 0, 0, [])),
  (1, (.invokevirtual 118, 4, 79, 1, 389, 0, 7, [0])),
  (4, (.iconst 0, 5, 0, 0, 0, 0, 0, [])),
  (5, (.istore_n 2, 6, 2, 0, 0, 0, 0, [])),
  (6, (.iload_n 2, 7, 2, 0, 0, 0, 0, [])),
  (7, (.aload_n 0, 8, 0, 0, 0, 0, 0, [])),
  (8, (.getfield 46, 11, 0, 2, 188, 0, 1, [])),
  (11, (.if_icmp .ge 24, 14, 35, 0, 0, 0, 0, [])),
  (14, (.aload_n 0, 15, 0, 0, 0, 0, 0, [])),
  (15, (.iload_n 2, 16, 2, 0, 0, 0, 0, [])),
  (16, (.invokevirtual 64, 19, 7, 2, 288, 0, 1, [0])),
  (19, (.astore_n 3, 20, 3, 0, 0, 0, 0, [])),
  (20, (.aload_n 3, 21, 3, 0, 0, 0, 0, [])),
  (21, (.ifnull 8, 24, 29, 0, 0, 0, 0, [])),
  (24, (.aload_n 3, 25, 3, 0, 0, 0, 0, [])),
  (25, (.aload_n 1, 26, 1, 0, 0, 0, 0, [])),
  (26, (.invokevirtual 123, 29, 43, 2, 396, 0, 4, [0])),
  (29, (.iinc 2 1, 32, 2, 0, 0, 0, 0, [])),
  (32, (.goto (-26), 35, 6, 0, 0, 0, 0, [])),
  (35, (.aload_n 1, 36, 1, 0, 0, 0, 0, [])),
  (36, (.getfield 127, 39, 6, 0, 244, 0, 7, [])),
  (39, (.ireturn, 40, 0, 0, 0, 0, 0, []))]
def rn_m16 : rn_Mt := (yX0_cellsOfLabels, cX0_cellsOfLabels, 4, (some .int), false, 0, 0, 4, 90, rn_t16)
def rn_t17 : List (Nat × rn_E) := [(0, (.iconst 0, 1, 0, 0, 0, 0, 0, [])),
  (1, (.istore_n 1, 2, 1, 0, 0, 0, 0, [])),
  (2, (.iconst 0, 3, 0, 0, 0, 0, 0, [])),
  (3, (.istore_n 2, 4, 2, 0, 0, 0, 0, [])),
  (4, (.iload_n 2, 5, 2, 0, 0, 0, 0, [])),
  (5, (.aload_n 0, 6, 0, 0, 0, 0, 0, [])),
  (6, (.getfield 40, 9, 0, 0, 182, 0, 1, [])),
  (9, (.if_icmp .ge 33, 12, 42, 0, 0, 0, 0, [])),
  (12, (.aload_n 0, 13, 0, 0, 0, 0, 0, [])),
  (13, (.iload_n 2, 14, 2, 0, 0, 0, 0, [])),
  (14, (.invokevirtual 49, 17, 5, 2, 377, 0, 1, [0])),
  (17, (.astore_n 3, 18, 3, 0, 0, 0, 0, [])),
  (18, (.aload_n 3, 19, 3, 0, 0, 0, 0, [])),
  (19, (.ifnull 17, 22, 36, 0, 0, 0, 0, [])),
  (22, (.aload_n 0, 23, 0, 0, 0, 0, 0, [])),
  (23, (.aload_n 3, 24, 3, 0, 0, 0, 0, [])),
  (24, (.invokevirtual 130, 27, 12, 2, 381, 0, 1, [0])),
  (27, (.ifCond .ne 9, 30, 36, 0, 0, 0, 0, [])),
  (30, (.iload_n 1, 31, 1, 0, 0, 0, 0, [])),
  (31, (.iconst 1, 32, 0, 0, 0, 0, 0, [])),
  (32, (.iload_n 2, 33, 2, 0, 0, 0, 0, [])),
  (33, (.ishl, 34, 0, 0, 0, 0, 0, [])),
  (34, (.ior, 35, 0, 0, 0, 0, 0, [])),
  (35, (.istore_n 1, 36, 1, 0, 0, 0, 0, [])),
  (36, (.iinc 2 1, 39, 2, 0, 0, 0, 0, [])),
  (39, (.goto (-35), 42, 4, 0, 0, 0, 0, [])),
  (42, (.iload_n 1, 43, 1, 0, 0, 0, 0, [])),
  (43, (.ireturn, 44, 0, 0, 0, 0, 0, []))]
def rn_m17 : rn_Mt := (yX0_riversWithoutLabel, cX0_riversWithoutLabel, 4, (some .int), false, 0, 0, 3, 67, rn_t17)
def rn_t18 : List (Nat × rn_E) := [(0, (.bipush (-9), 2, 0, 0, 0, 0, 0, [])),
  (2, (.istore_n 3, 3, 3, 0, 0, 0, 0, [])),
  (3, (.iconst 0, 4, 0, 0, 0, 0, 0, [])),
  (4, (.istore 4, 6, 4, 0, 0, 0, 0, [])),
  (6, (.iconst 0, 7, 0, 0, 0, 0, 0, [])),
  (7, (.istore 5, 9, 5, 0, 0, 0, 0, [])),
  (9, (.iload 5, 11, 5, 0, 0, 0, 0, [])),
  (11, (.aload_n 0, 12, 0, 0, 0, 0, 0, [])),
  (12, (.getfield 46, 15, 0, 2, 188, 0, 1, [])),
  (15, (.if_icmp .ge 72, 18, 87, 0, 0, 0, 0, [])),
  (18, (.aload_n 0, 19, 0, 0, 0, 0, 0, [])),
  (19, (.iload 5, 21, 5, 0, 0, 0, 0, [])),
  (21, (.invokevirtual 64, 24, 7, 2, 288, 0, 1, [0])),
  (24, (.astore 6, 26, 6, 0, 0, 0, 0, [])),
  (26, (.aload 6, 28, 6, 0, 0, 0, 0, [])),
  (28, (.ifnull 53, 31, 81, 0, 0, 0, 0, [])),
  (31, (.aload 6, 33, 6, 0, 0, 0, 0, [])),
  (33, (.getfield 85, 36, 3, 0, 171, 2, 4, [])),
  (36, (.getfield 134, 39, 5, 1, 102, 0, 6, [])),
  (39, (.iload 4, 41, 4, 0, 0, 0, 0, [])),
  (41, (.if_icmp .le 40, 44, 81, 0, 0, 0, 0, [])),
  (44, (.aload 6, 46, 6, 0, 0, 0, 0, [])),
  (46, (.getfield 85, 49, 3, 0, 171, 2, 4, [])),
  (49, (.aload 6, 51, 6, 0, 0, 0, 0, [])),
  (51, (.getfield 92, 54, 3, 1, 175, 0, 4, [])),
  (54, (.iload_n 1, 55, 1, 0, 0, 0, 0, [])),
  (55, (.iload_n 2, 56, 2, 0, 0, 0, 0, [])),
  (56, (.invokevirtual 137, 59, 76, 4, 681, 0, 6, [0])),
  (59, (.istore 7, 61, 7, 0, 0, 0, 0, [])),
  (61, (.iload 7, 63, 7, 0, 0, 0, 0, [])),
  (63, (.bipush (-9), 65, 0, 0, 0, 0, 0, [])),
  (65, (.if_icmp .eq 16, 68, 81, 0, 0, 0, 0, [])),
  (68, (.iload 7, 70, 7, 0, 0, 0, 0, [])),
  (70, (.istore_n 3, 71, 3, 0, 0, 0, 0, [])),
  (71, (.aload 6, 73, 6, 0, 0, 0, 0, [])),
  (73, (.getfield 85, 76, 3, 0, 171, 2, 4, [])),
  (76, (.getfield 134, 79, 5, 1, 102, 0, 6, [])),
  (79, (.istore 4, 81, 4, 0, 0, 0, 0, [])),
  (81, (.iinc 5 1, 84, 5, 0, 0, 0, 0, [])),
  (84, (.goto (-75), 87, 9, 0, 0, 0, 0, [])),
  (87, (.iload_n 3, 88, 3, 0, 0, 0, 0, [])),
  (88, (.ireturn, 89, 0, 0, 0, 0, 0, []))]
def rn_m18 : rn_Mt := (yX0_signOn, cX0_signOn, 8, (some .int), false, 0, 0, 4, 90, rn_t18)
def rn_t19 : List (Nat × rn_E) := [(0, (.aload_n 0, 1, 0, 0, 0, 0, 0, [])),
  (1, (.invokespecial 3, 4, 1000, 1, 76, 2, 0, [0])),
  (4, (.aload_n 0, 5, 0, 0, 0, 0, 0, [])),
  (5, (.iconst 5, 6, 0, 0, 0, 0, 0, [])),
  (6, (.anewarray 9, 9, 0, 0, 77, 0, 0, [])),
  (9, (.putfield 11, 12, 1, 1, 214, 2, 2, [])),
  (12, (.aload_n 0, 13, 0, 0, 0, 0, 0, [])),
  (13, (.new 9, 16, 0, 0, 77, 0, 0, [])),
  (16, (.dup, 17, 0, 0, 0, 0, 0, [])),
  (17, (.invokespecial 17, 20, 0, 1, 80, 4, 1, [0])),
  (20, (.putfield 18, 23, 1, 2, 215, 2, 2, [])),
  (23, (.aload_n 0, 24, 0, 0, 0, 0, 0, [])),
  (24, (.new 9, 27, 0, 0, 77, 0, 0, [])),
  (27, (.dup, 28, 0, 0, 0, 0, 0, [])),
  (28, (.invokespecial 17, 31, 0, 1, 80, 4, 1, [0])),
  (31, (.putfield 22, 34, 1, 3, 216, 2, 2, [])),
  (34, (.iconst 0, 35, 0, 0, 0, 0, 0, [])),
  (35, (.istore_n 1, 36, 1, 0, 0, 0, 0, [])),
  (36, (.iload_n 1, 37, 1, 0, 0, 0, 0, [])),
  (37, (.iconst 5, 38, 0, 0, 0, 0, 0, [])),
  (38, (.if_icmp .ge 22, 41, 60, 0, 0, 0, 0, [])),
  (41, (.aload_n 0, 42, 0, 0, 0, 0, 0, [])),
  (42, (.getfield 11, 45, 1, 1, 214, 2, 2, [])),
  (45, (.iload_n 1, 46, 1, 0, 0, 0, 0, [])),
  (46, (.new 9, 49, 0, 0, 77, 0, 0, [])),
  (49, (.dup, 50, 0, 0, 0, 0, 0, [])),
  (50, (.invokespecial 17, 53, 0, 1, 80, 4, 1, [0])),
  (53, (.aastore, 54, 0, 0, 0, 0, 0, [])),
  (54, (.iinc 1 1, 57, 1, 0, 0, 0, 0, [])),
  (57, (.goto (-21), 60, 36, 0, 0, 0, 0, [])),
  (60, (.return_, 61, 0, 0, 0, 0, 0, []))]
def rn_m19 : rn_Mt := (yX1_init, cX1_init, 2, none, true, 500, 30000, 3, 62, rn_t19)
def rn_t20 : List (Nat × rn_E) := [(0, (.aload_n 0, 1, 0, 0, 0, 0, 0, [])),
  (1, (.getfield 18, 4, 1, 2, 215, 2, 2, [])),
  (4, (.areturn, 5, 0, 0, 0, 0, 0, []))]
def rn_m20 : rn_Mt := (yX1_present, cX1_present, 1, (some (.object "RiverNames$Board")), false, 0, 0, 0, 0, rn_t20)
def rn_t21 : List (Nat × rn_E) := [(0, (.aload_n 0, 1, 0, 0, 0, 0, 0, [])),
  (1, (.getfield 22, 4, 1, 3, 216, 2, 2, [])),
  (4, (.aload_n 0, 5, 0, 0, 0, 0, 0, [])),
  (5, (.getfield 18, 8, 1, 2, 215, 2, 2, [])),
  (8, (.invokevirtual 25, 11, 1, 2, 524, 0, 1, [0])),
  (11, (.aload_n 0, 12, 0, 0, 0, 0, 0, [])),
  (12, (.getfield 22, 15, 1, 3, 216, 2, 2, [])),
  (15, (.areturn, 16, 0, 0, 0, 0, 0, []))]
def rn_m21 : rn_Mt := (yX1_newDraft, cX1_newDraft, 1, (some (.object "RiverNames$Board")), false, 0, 0, 4, 103, rn_t21)
def rn_t22 : List (Nat × rn_E) := [(0, (.aload_n 0, 1, 0, 0, 0, 0, 0, [])),
  (1, (.getfield 29, 4, 1, 0, 212, 0, 2, [])),
  (4, (.iconst 5, 5, 0, 0, 0, 0, 0, [])),
  (5, (.if_icmp .lt 7, 8, 12, 0, 0, 0, 0, [])),
  (8, (.aload_n 0, 9, 0, 0, 0, 0, 0, [])),
  (9, (.invokevirtual 33, 12, 23, 1, 588, 0, 2, [0])),
  (12, (.aload_n 0, 13, 0, 0, 0, 0, 0, [])),
  (13, (.getfield 29, 16, 1, 0, 212, 0, 2, [])),
  (16, (.iconst 0, 17, 0, 0, 0, 0, 0, [])),
  (17, (.iconst 4, 18, 0, 0, 0, 0, 0, [])),
  (18, (.invokestatic 36, 21, 118, 3, 5, 0, 10, [1])),
  (21, (.ifCond .ne 4, 24, 25, 0, 0, 0, 0, [])),
  (24, (.return_, 25, 0, 0, 0, 0, 0, [])),
  (25, (.aload_n 0, 26, 0, 0, 0, 0, 0, [])),
  (26, (.getfield 11, 29, 1, 1, 214, 2, 2, [])),
  (29, (.aload_n 0, 30, 0, 0, 0, 0, 0, [])),
  (30, (.getfield 29, 33, 1, 0, 212, 0, 2, [])),
  (33, (.aaload, 34, 0, 0, 0, 0, 0, [])),
  (34, (.astore_n 1, 35, 1, 0, 0, 0, 0, [])),
  (35, (.aload_n 1, 36, 1, 0, 0, 0, 0, [])),
  (36, (.ifnull 39, 39, 75, 0, 0, 0, 0, [])),
  (39, (.aload_n 0, 40, 0, 0, 0, 0, 0, [])),
  (40, (.getfield 11, 43, 1, 1, 214, 2, 2, [])),
  (43, (.aload_n 0, 44, 0, 0, 0, 0, 0, [])),
  (44, (.getfield 29, 47, 1, 0, 212, 0, 2, [])),
  (47, (.aload_n 0, 48, 0, 0, 0, 0, 0, [])),
  (48, (.getfield 18, 51, 1, 2, 215, 2, 2, [])),
  (51, (.aastore, 52, 0, 0, 0, 0, 0, [])),
  (52, (.aload_n 0, 53, 0, 0, 0, 0, 0, [])),
  (53, (.aload_n 0, 54, 0, 0, 0, 0, 0, [])),
  (54, (.getfield 22, 57, 1, 3, 216, 2, 2, [])),
  (57, (.putfield 18, 60, 1, 2, 215, 2, 2, [])),
  (60, (.aload_n 0, 61, 0, 0, 0, 0, 0, [])),
  (61, (.aload_n 1, 62, 1, 0, 0, 0, 0, [])),
  (62, (.putfield 22, 65, 1, 3, 216, 2, 2, [])),
  (65, (.aload_n 0, 66, 0, 0, 0, 0, 0, [])),
  (66, (.dup, 67, 0, 0, 0, 0, 0, [])),
  (67, (.getfield 29, 70, 1, 0, 212, 0, 2, [])),
  (70, (.iconst 1, 71, 0, 0, 0, 0, 0, [])),
  (71, (.iadd, 72, 0, 0, 0, 0, 0, [])),
  (72, (.putfield 29, 75, 1, 0, 212, 0, 2, [])),
  (75, (.return_, 76, 0, 0, 0, 0, 0, []))]
def rn_m22 : rn_Mt := (yX1_enterDraft, cX1_enterDraft, 2, none, false, 0, 0, 1, 22, rn_t22)
def rn_t23 : List (Nat × rn_E) := [(0, (.aload_n 0, 1, 0, 0, 0, 0, 0, [])),
  (1, (.getfield 11, 4, 1, 1, 214, 2, 2, [])),
  (4, (.iconst 0, 5, 0, 0, 0, 0, 0, [])),
  (5, (.aaload, 6, 0, 0, 0, 0, 0, [])),
  (6, (.astore_n 1, 7, 1, 0, 0, 0, 0, [])),
  (7, (.iconst 1, 8, 0, 0, 0, 0, 0, [])),
  (8, (.istore_n 2, 9, 2, 0, 0, 0, 0, [])),
  (9, (.iload_n 2, 10, 2, 0, 0, 0, 0, [])),
  (10, (.iconst 5, 11, 0, 0, 0, 0, 0, [])),
  (11, (.if_icmp .ge 23, 14, 34, 0, 0, 0, 0, [])),
  (14, (.aload_n 0, 15, 0, 0, 0, 0, 0, [])),
  (15, (.getfield 11, 18, 1, 1, 214, 2, 2, [])),
  (18, (.iload_n 2, 19, 2, 0, 0, 0, 0, [])),
  (19, (.iconst 1, 20, 0, 0, 0, 0, 0, [])),
  (20, (.isub, 21, 0, 0, 0, 0, 0, [])),
  (21, (.aload_n 0, 22, 0, 0, 0, 0, 0, [])),
  (22, (.getfield 11, 25, 1, 1, 214, 2, 2, [])),
  (25, (.iload_n 2, 26, 2, 0, 0, 0, 0, [])),
  (26, (.aaload, 27, 0, 0, 0, 0, 0, [])),
  (27, (.aastore, 28, 0, 0, 0, 0, 0, [])),
  (28, (.iinc 2 1, 31, 2, 0, 0, 0, 0, [])),
  (31, (.goto (-22), 34, 9, 0, 0, 0, 0, [])),
  (34, (.aload_n 0, 35, 0, 0, 0, 0, 0, [])),
  (35, (.getfield 11, 38, 1, 1, 214, 2, 2, [])),
  (38, (.iconst 4, 39, 0, 0, 0, 0, 0, [])),
  (39, (.aload_n 1, 40, 1, 0, 0, 0, 0, [])),
  (40, (.aastore, 41, 0, 0, 0, 0, 0, [])),
  (41, (.aload_n 0, 42, 0, 0, 0, 0, 0, [])),
  (42, (.iconst 4, 43, 0, 0, 0, 0, 0, [])),
  (43, (.putfield 29, 46, 1, 0, 212, 0, 2, [])),
  (46, (.return_, 47, 0, 0, 0, 0, 0, []))]
def rn_m23 : rn_Mt := (yX1_dropOldest, cX1_dropOldest, 3, none, false, 0, 0, 0, 0, rn_t23)
def rn_t24 : List (Nat × rn_E) := [(0, (.aload_n 0, 1, 0, 0, 0, 0, 0, [])),
  (1, (.getfield 29, 4, 1, 0, 212, 0, 2, [])),
  (4, (.iconst 1, 5, 0, 0, 0, 0, 0, [])),
  (5, (.iconst 5, 6, 0, 0, 0, 0, 0, [])),
  (6, (.invokestatic 36, 9, 118, 3, 5, 0, 10, [1])),
  (9, (.ifCond .ne 6, 12, 15, 0, 0, 0, 0, [])),
  (12, (.bipush (-2), 14, 0, 0, 0, 0, 0, [])),
  (14, (.ireturn, 15, 0, 0, 0, 0, 0, [])),
  (15, (.aload_n 0, 16, 0, 0, 0, 0, 0, [])),
  (16, (.getfield 11, 19, 1, 1, 214, 2, 2, [])),
  (19, (.aload_n 0, 20, 0, 0, 0, 0, 0, [])),
  (20, (.getfield 29, 23, 1, 0, 212, 0, 2, [])),
  (23, (.iconst 1, 24, 0, 0, 0, 0, 0, [])),
  (24, (.isub, 25, 0, 0, 0, 0, 0, [])),
  (25, (.aaload, 26, 0, 0, 0, 0, 0, [])),
  (26, (.astore_n 1, 27, 1, 0, 0, 0, 0, [])),
  (27, (.aload_n 1, 28, 1, 0, 0, 0, 0, [])),
  (28, (.ifnonnull 6, 31, 34, 0, 0, 0, 0, [])),
  (31, (.bipush (-2), 33, 0, 0, 0, 0, 0, [])),
  (33, (.ireturn, 34, 0, 0, 0, 0, 0, [])),
  (34, (.aload_n 0, 35, 0, 0, 0, 0, 0, [])),
  (35, (.getfield 11, 38, 1, 1, 214, 2, 2, [])),
  (38, (.aload_n 0, 39, 0, 0, 0, 0, 0, [])),
  (39, (.getfield 29, 42, 1, 0, 212, 0, 2, [])),
  (42, (.iconst 1, 43, 0, 0, 0, 0, 0, [])),
  (43, (.isub, 44, 0, 0, 0, 0, 0, [])),
  (44, (.aload_n 0, 45, 0, 0, 0, 0, 0, [])),
  (45, (.getfield 18, 48, 1, 2, 215, 2, 2, [])),
  (48, (.aastore, 49, 0, 0, 0, 0, 0, [])),
  (49, (.aload_n 0, 50, 0, 0, 0, 0, 0, [])),
  (50, (.aload_n 1, 51, 1, 0, 0, 0, 0, [])),
  (51, (.putfield 18, 54, 1, 2, 215, 2, 2, [])),
  (54, (.aload_n 0, 55, 0, 0, 0, 0, 0, [])),
  (55, (.dup, 56, 0, 0, 0, 0, 0, [])),
  (56, (.getfield 29, 59, 1, 0, 212, 0, 2, [])),
  (59, (.iconst 1, 60, 0, 0, 0, 0, 0, [])),
  (60, (.isub, 61, 0, 0, 0, 0, 0, [])),
  (61, (.putfield 29, 64, 1, 0, 212, 0, 2, [])),
  (64, (.aload_n 0, 65, 0, 0, 0, 0, 0, [])),
  (65, (.getfield 29, 68, 1, 0, 212, 0, 2, [])),
  (68, (.ireturn, 69, 0, 0, 0, 0, 0, []))]
def rn_m24 : rn_Mt := (yX1_stepBack, cX1_stepBack, 2, (some .int), false, 0, 0, 1, 22, rn_t24)
def rn_t25 : List (Nat × rn_E) := [(0, (.aload_n 0, 1, 0, 0, 0, 0, 0, [])),
  (1, (.invokespecial 3, 4, 1000, 1, 231, 2, 0, [0])),
  (4, (.aload_n 0, 5, 0, 0, 0, 0, 0, [])),
  (5, (.bipush 61, 7, 0, 0, 0, 0, 0, [])),
  (7, (.newarray .int, 9, 0, 0, 0, 0, 0, [])),
  (9, (.putfield 9, 12, 2, 0, 232, 2, 3, [])),
  (12, (.return_, 13, 0, 0, 0, 0, 0, []))]
def rn_m25 : rn_Mt := (yX2_init, cX2_init, 1, none, true, 1, 70, 1, 20, rn_t25)
def rn_t26 : List (Nat × rn_E) := [(0, (.iload_n 3, 1, 3, 0, 0, 0, 0, [])),
  (1, (.aload_n 2, 2, 2, 0, 0, 0, 0, [])),
  (2, (.aload_n 2, 3, 2, 0, 0, 0, 0, [])),
  (3, (.getfield 15, 6, 5, 3, 107, 0, 6, [])),
  (6, (.invokevirtual 21, 9, 68, 2, 324, 0, 6, [0])),
  (9, (.if_icmp .le 5, 12, 14, 0, 0, 0, 0, [])),
  (12, (.iconst 1, 13, 0, 0, 0, 0, 0, [])),
  (13, (.ireturn, 14, 0, 0, 0, 0, 0, [])),
  (14, (.aload_n 0, 15, 0, 0, 0, 0, 0, [])),
  (15, (.aload_n 1, 16, 1, 0, 0, 0, 0, [])),
  (16, (.aload_n 2, 17, 2, 0, 0, 0, 0, [])),
  (17, (.iload_n 3, 18, 3, 0, 0, 0, 0, [])),
  (18, (.iload 4, 20, 4, 0, 0, 0, 0, [])),
  (20, (.invokevirtual 25, 23, 27, 5, 328, 0, 3, [0])),
  (23, (.ifCond .eq 5, 26, 28, 0, 0, 0, 0, [])),
  (26, (.iconst 2, 27, 0, 0, 0, 0, 0, [])),
  (27, (.ireturn, 28, 0, 0, 0, 0, 0, [])),
  (28, (.iconst 0, 29, 0, 0, 0, 0, 0, [])),
  (29, (.istore 5, 31, 5, 0, 0, 0, 0, [])),
  (31, (.iload_n 3, 32, 3, 0, 0, 0, 0, [])),
  (32, (.istore 6, 34, 6, 0, 0, 0, 0, [])),
  (34, (.iload 6, 36, 6, 0, 0, 0, 0, [])),
  (36, (.iload_n 3, 37, 3, 0, 0, 0, 0, [])),
  (37, (.aload_n 2, 38, 2, 0, 0, 0, 0, [])),
  (38, (.getfield 15, 41, 5, 3, 107, 0, 6, [])),
  (41, (.iadd, 42, 0, 0, 0, 0, 0, [])),
  (42, (.if_icmp .ge 41, 45, 83, 0, 0, 0, 0, [])),
  (45, (.aload_n 0, 46, 0, 0, 0, 0, 0, [])),
  (46, (.aload_n 1, 47, 1, 0, 0, 0, 0, [])),
  (47, (.aload_n 2, 48, 2, 0, 0, 0, 0, [])),
  (48, (.iload 6, 50, 6, 0, 0, 0, 0, [])),
  (50, (.invokevirtual 29, 53, 28, 4, 333, 0, 3, [0])),
  (53, (.aload_n 2, 54, 2, 0, 0, 0, 0, [])),
  (54, (.getfield 33, 57, 5, 1, 100, 0, 6, [])),
  (57, (.if_icmp .lt 5, 60, 62, 0, 0, 0, 0, [])),
  (60, (.iconst 3, 61, 0, 0, 0, 0, 0, [])),
  (61, (.ireturn, 62, 0, 0, 0, 0, 0, [])),
  (62, (.iload 5, 64, 5, 0, 0, 0, 0, [])),
  (64, (.aload_n 0, 65, 0, 0, 0, 0, 0, [])),
  (65, (.aload_n 1, 66, 1, 0, 0, 0, 0, [])),
  (66, (.aload_n 2, 67, 2, 0, 0, 0, 0, [])),
  (67, (.iload 6, 69, 6, 0, 0, 0, 0, [])),
  (69, (.invokevirtual 36, 72, 29, 4, 358, 0, 3, [0])),
  (72, (.invokestatic 39, 75, 205, 2, 370, 5, 0, [0])),
  (75, (.istore 5, 77, 5, 0, 0, 0, 0, [])),
  (77, (.iinc 6 1, 80, 6, 0, 0, 0, 0, [])),
  (80, (.goto (-46), 83, 34, 0, 0, 0, 0, [])),
  (83, (.iload 5, 85, 5, 0, 0, 0, 0, [])),
  (85, (.aload_n 2, 86, 2, 0, 0, 0, 0, [])),
  (86, (.getfield 33, 89, 5, 1, 100, 0, 6, [])),
  (89, (.if_icmp .lt 7, 92, 96, 0, 0, 0, 0, [])),
  (92, (.iconst 4, 93, 0, 0, 0, 0, 0, [])),
  (93, (.goto 4, 96, 97, 0, 0, 0, 0, [])),
  (96, (.iconst 0, 97, 0, 0, 0, 0, 0, [])),
  (97, (.ireturn, 98, 0, 0, 0, 0, 0, []))]
def rn_m26 : rn_Mt := (yX2_reasonAgainst, cX2_reasonAgainst, 7, (some .int), false, 0, 0, 4, 98, rn_t26)
def rn_t27 : List (Nat × rn_E) := [(0, (.iconst 0, 1, 0, 0, 0, 0, 0, [])),
  (1, (.istore 5, 3, 5, 0, 0, 0, 0, [])),
  (3, (.iload 5, 5, 5, 0, 0, 0, 0, [])),
  (5, (.aload_n 1, 6, 1, 0, 0, 0, 0, [])),
  (6, (.getfield 45, 9, 0, 2, 189, 0, 1, [])),
  (9, (.if_icmp .ge 68, 12, 77, 0, 0, 0, 0, [])),
  (12, (.aload_n 1, 13, 1, 0, 0, 0, 0, [])),
  (13, (.iload 5, 15, 5, 0, 0, 0, 0, [])),
  (15, (.invokevirtual 50, 18, 7, 2, 319, 0, 1, [0])),
  (18, (.astore 6, 20, 6, 0, 0, 0, 0, [])),
  (20, (.aload 6, 22, 6, 0, 0, 0, 0, [])),
  (22, (.ifnull 49, 25, 71, 0, 0, 0, 0, [])),
  (25, (.iload 5, 27, 5, 0, 0, 0, 0, [])),
  (27, (.iload 4, 29, 4, 0, 0, 0, 0, [])),
  (29, (.if_icmp .eq 42, 32, 71, 0, 0, 0, 0, [])),
  (32, (.aload 6, 34, 6, 0, 0, 0, 0, [])),
  (34, (.getfield 54, 37, 3, 0, 170, 2, 4, [])),
  (37, (.getfield 60, 40, 5, 0, 96, 0, 6, [])),
  (40, (.aload_n 2, 41, 2, 0, 0, 0, 0, [])),
  (41, (.getfield 60, 44, 5, 0, 96, 0, 6, [])),
  (44, (.if_icmp .ne 27, 47, 71, 0, 0, 0, 0, [])),
  (47, (.aload 6, 49, 6, 0, 0, 0, 0, [])),
  (49, (.getfield 63, 52, 3, 1, 174, 0, 4, [])),
  (52, (.iload_n 3, 53, 3, 0, 0, 0, 0, [])),
  (53, (.isub, 54, 0, 0, 0, 0, 0, [])),
  (54, (.invokestatic 66, 57, 204, 1, 332, 7, 0, [0])),
  (57, (.aload_n 2, 58, 2, 0, 0, 0, 0, [])),
  (58, (.getfield 15, 61, 5, 3, 107, 0, 6, [])),
  (61, (.aload_n 1, 62, 1, 0, 0, 0, 0, [])),
  (62, (.getfield 69, 65, 0, 3, 192, 0, 1, [])),
  (65, (.iadd, 66, 0, 0, 0, 0, 0, [])),
  (66, (.if_icmp .ge 5, 69, 71, 0, 0, 0, 0, [])),
  (69, (.iconst 1, 70, 0, 0, 0, 0, 0, [])),
  (70, (.ireturn, 71, 0, 0, 0, 1, 0, [])),
  (71, (.iinc 5 1, 74, 5, 0, 0, 0, 0, [])),
  (74, (.goto (-71), 77, 3, 0, 0, 0, 0, [])),
  (77, (.iconst 0, 78, 0, 0, 0, 0, 0, [])),
  (78, (.ireturn, 79, 0, 0, 0, 1, 0, []))]
def rn_m27 : rn_Mt := (yX2_isCrowded, cX2_isCrowded, 7, (some .boolean), false, 0, 0, 2, 43, rn_t27)
def rn_t28 : List (Nat × rn_E) := [(0, (.iconst 0, 1, 0, 0, 0, 0, 0, [])),
  (1, (.istore 4, 3, 4, 0, 0, 0, 0, [])),
  (3, (.iconst 0, 4, 0, 0, 0, 0, 0, [])),
  (4, (.istore 5, 6, 5, 0, 0, 0, 0, [])),
  (6, (.iload 5, 8, 5, 0, 0, 0, 0, [])),
  (8, (.aload_n 1, 9, 1, 0, 0, 0, 0, [])),
  (9, (.getfield 72, 12, 0, 1, 186, 0, 1, [])),
  (12, (.if_icmp .ge 61, 15, 73, 0, 0, 0, 0, [])),
  (15, (.aload_n 1, 16, 1, 0, 0, 0, 0, [])),
  (16, (.iload 5, 18, 5, 0, 0, 0, 0, [])),
  (18, (.invokevirtual 75, 21, 6, 2, 337, 0, 1, [0])),
  (21, (.astore 6, 23, 6, 0, 0, 0, 0, [])),
  (23, (.aload 6, 25, 6, 0, 0, 0, 0, [])),
  (25, (.ifnull 42, 28, 67, 0, 0, 0, 0, [])),
  (28, (.aload 6, 30, 6, 0, 0, 0, 0, [])),
  (30, (.getfield 79, 33, 8, 4, 151, 0, 9, [])),
  (33, (.iload 4, 35, 4, 0, 0, 0, 0, [])),
  (35, (.if_icmp .le 32, 38, 67, 0, 0, 0, 0, [])),
  (38, (.aload 6, 40, 6, 0, 0, 0, 0, [])),
  (40, (.aload_n 2, 41, 2, 0, 0, 0, 0, [])),
  (41, (.iload_n 3, 42, 3, 0, 0, 0, 0, [])),
  (42, (.invokevirtual 82, 45, 65, 2, 341, 0, 6, [0])),
  (45, (.aload_n 2, 46, 2, 0, 0, 0, 0, [])),
  (46, (.iload_n 3, 47, 3, 0, 0, 0, 0, [])),
  (47, (.invokevirtual 85, 50, 66, 2, 349, 0, 6, [0])),
  (50, (.aload_n 2, 51, 2, 0, 0, 0, 0, [])),
  (51, (.getfield 88, 54, 5, 2, 105, 0, 6, [])),
  (54, (.invokevirtual 91, 57, 89, 4, 353, 0, 9, [0])),
  (57, (.ifCond .eq 10, 60, 67, 0, 0, 0, 0, [])),
  (60, (.aload 6, 62, 6, 0, 0, 0, 0, [])),
  (62, (.getfield 79, 65, 8, 4, 151, 0, 9, [])),
  (65, (.istore 4, 67, 4, 0, 0, 0, 0, [])),
  (67, (.iinc 5 1, 70, 5, 0, 0, 0, 0, [])),
  (70, (.goto (-64), 73, 6, 0, 0, 0, 0, [])),
  (73, (.iload 4, 75, 4, 0, 0, 0, 0, [])),
  (75, (.ireturn, 76, 0, 0, 0, 0, 0, []))]
def rn_m28 : rn_Mt := (yX2_townRankAt, cX2_townRankAt, 7, (some .int), false, 0, 0, 2, 45, rn_t28)
def rn_t29 : List (Nat × rn_E) := [(0, (.iconst 0, 1, 0, 0, 0, 0, 0, [])),
  (1, (.istore 4, 3, 4, 0, 0, 0, 0, [])),
  (3, (.aload_n 2, 4, 2, 0, 0, 0, 0, [])),
  (4, (.iload_n 3, 5, 3, 0, 0, 0, 0, [])),
  (5, (.invokevirtual 82, 8, 65, 2, 341, 0, 6, [0])),
  (8, (.istore 5, 10, 5, 0, 0, 0, 0, [])),
  (10, (.aload_n 2, 11, 2, 0, 0, 0, 0, [])),
  (11, (.iload_n 3, 12, 3, 0, 0, 0, 0, [])),
  (12, (.invokevirtual 85, 15, 66, 2, 349, 0, 6, [0])),
  (15, (.istore 6, 17, 6, 0, 0, 0, 0, [])),
  (17, (.iconst 0, 18, 0, 0, 0, 0, 0, [])),
  (18, (.istore 7, 20, 7, 0, 0, 0, 0, [])),
  (20, (.iload 7, 22, 7, 0, 0, 0, 0, [])),
  (22, (.aload_n 1, 23, 1, 0, 0, 0, 0, [])),
  (23, (.getfield 45, 26, 0, 2, 189, 0, 1, [])),
  (26, (.if_icmp .ge 93, 29, 119, 0, 0, 0, 0, [])),
  (29, (.aload_n 1, 30, 1, 0, 0, 0, 0, [])),
  (30, (.iload 7, 32, 7, 0, 0, 0, 0, [])),
  (32, (.invokevirtual 50, 35, 7, 2, 319, 0, 1, [0])),
  (35, (.astore 8, 37, 8, 0, 0, 0, 0, [])),
  (37, (.aload 8, 39, 8, 0, 0, 0, 0, [])),
  (39, (.ifnull 74, 42, 113, 0, 0, 0, 0, [])),
  (42, (.aload 8, 44, 8, 0, 0, 0, 0, [])),
  (44, (.getfield 54, 47, 3, 0, 170, 2, 4, [])),
  (47, (.getfield 60, 50, 5, 0, 96, 0, 6, [])),
  (50, (.aload_n 2, 51, 2, 0, 0, 0, 0, [])),
  (51, (.getfield 60, 54, 5, 0, 96, 0, 6, [])),
  (54, (.if_icmp .eq 59, 57, 113, 0, 0, 0, 0, [])),
  (57, (.aload 8, 59, 8, 0, 0, 0, 0, [])),
  (59, (.getfield 54, 62, 3, 0, 170, 2, 4, [])),
  (62, (.getfield 33, 65, 5, 1, 100, 0, 6, [])),
  (65, (.iload 4, 67, 4, 0, 0, 0, 0, [])),
  (67, (.if_icmp .le 46, 70, 113, 0, 0, 0, 0, [])),
  (70, (.aload 8, 72, 8, 0, 0, 0, 0, [])),
  (72, (.getfield 54, 75, 3, 0, 170, 2, 4, [])),
  (75, (.aload 8, 77, 8, 0, 0, 0, 0, [])),
  (77, (.getfield 63, 80, 3, 1, 174, 0, 4, [])),
  (80, (.iload 5, 82, 5, 0, 0, 0, 0, [])),
  (82, (.iload 6, 84, 6, 0, 0, 0, 0, [])),
  (84, (.aload_n 2, 85, 2, 0, 0, 0, 0, [])),
  (85, (.getfield 88, 88, 5, 2, 105, 0, 6, [])),
  (88, (.aload 8, 90, 8, 0, 0, 0, 0, [])),
  (90, (.getfield 54, 93, 3, 0, 170, 2, 4, [])),
  (93, (.getfield 88, 96, 5, 2, 105, 0, 6, [])),
  (96, (.iadd, 97, 0, 0, 0, 0, 0, [])),
  (97, (.invokevirtual 95, 100, 75, 5, 362, 0, 6, [0])),
  (100, (.ifCond .eq 13, 103, 113, 0, 0, 0, 0, [])),
  (103, (.aload 8, 105, 8, 0, 0, 0, 0, [])),
  (105, (.getfield 54, 108, 3, 0, 170, 2, 4, [])),
  (108, (.getfield 33, 111, 5, 1, 100, 0, 6, [])),
  (111, (.istore 4, 113, 4, 0, 0, 0, 0, [])),
  (113, (.iinc 7 1, 116, 7, 0, 0, 0, 0, [])),
  (116, (.goto (-96), 119, 20, 0, 0, 0, 0, [])),
  (119, (.iload 4, 121, 4, 0, 0, 0, 0, [])),
  (121, (.ireturn, 122, 0, 0, 0, 0, 0, []))]
def rn_m29 : rn_Mt := (yX2_labelRankAt, cX2_labelRankAt, 9, (some .int), false, 0, 0, 3, 70, rn_t29)
def rn_t30 : List (Nat × rn_E) := [(0, (.iconst 0, 1, 0, 0, 0, 0, 0, [])),
  (1, (.istore_n 3, 2, 3, 0, 0, 0, 0, [])),
  (2, (.iload_n 3, 3, 3, 0, 0, 0, 0, [])),
  (3, (.aload_n 2, 4, 2, 0, 0, 0, 0, [])),
  (4, (.getfield 99, 7, 5, 4, 112, 0, 6, [])),
  (7, (.if_icmp .gt 38, 10, 45, 0, 0, 0, 0, [])),
  (10, (.iload_n 3, 11, 3, 0, 0, 0, 0, [])),
  (11, (.bipush 61, 13, 0, 0, 0, 0, 0, [])),
  (13, (.if_icmp .ge 32, 16, 45, 0, 0, 0, 0, [])),
  (16, (.aload_n 0, 17, 0, 0, 0, 0, 0, [])),
  (17, (.getfield 9, 20, 2, 0, 232, 2, 3, [])),
  (20, (.iload_n 3, 21, 3, 0, 0, 0, 0, [])),
  (21, (.aload_n 0, 22, 0, 0, 0, 0, 0, [])),
  (22, (.aload_n 1, 23, 1, 0, 0, 0, 0, [])),
  (23, (.aload_n 2, 24, 2, 0, 0, 0, 0, [])),
  (24, (.iload_n 3, 25, 3, 0, 0, 0, 0, [])),
  (25, (.invokevirtual 29, 28, 28, 4, 333, 0, 3, [0])),
  (28, (.aload_n 0, 29, 0, 0, 0, 0, 0, [])),
  (29, (.aload_n 1, 30, 1, 0, 0, 0, 0, [])),
  (30, (.aload_n 2, 31, 2, 0, 0, 0, 0, [])),
  (31, (.iload_n 3, 32, 3, 0, 0, 0, 0, [])),
  (32, (.invokevirtual 36, 35, 29, 4, 358, 0, 3, [0])),
  (35, (.invokestatic 39, 38, 205, 2, 370, 5, 0, [0])),
  (38, (.iastore, 39, 0, 0, 0, 0, 0, [])),
  (39, (.iinc 3 1, 42, 3, 0, 0, 0, 0, [])),
  (42, (.goto (-40), 45, 2, 0, 0, 0, 0, [])),
  (45, (.return_, 46, 0, 0, 0, 0, 0, []))]
def rn_m30 : rn_Mt := (yX2_noteRivals, cX2_noteRivals, 4, none, false, 0, 0, 4, 98, rn_t30)
def rn_t31 : List (Nat × rn_E) := [(0, (.iconst 0, 1, 0, 0, 0, 0, 0, [])),
  (1, (.istore_n 3, 2, 3, 0, 0, 0, 0, [])),
  (2, (.iload_n 2, 3, 2, 0, 0, 0, 0, [])),
  (3, (.istore 4, 5, 4, 0, 0, 0, 0, [])),
  (5, (.iload 4, 7, 4, 0, 0, 0, 0, [])),
  (7, (.iload_n 2, 8, 2, 0, 0, 0, 0, [])),
  (8, (.aload_n 1, 9, 1, 0, 0, 0, 0, [])),
  (9, (.getfield 15, 12, 5, 3, 107, 0, 6, [])),
  (12, (.iadd, 13, 0, 0, 0, 0, 0, [])),
  (13, (.if_icmp .ge 29, 16, 42, 0, 0, 0, 0, [])),
  (16, (.iload 4, 18, 4, 0, 0, 0, 0, [])),
  (18, (.invokestatic 102, 21, 122, 1, 14, 0, 10, [1])),
  (21, (.ifCond .eq 15, 24, 36, 0, 0, 0, 0, [])),
  (24, (.iload_n 3, 25, 3, 0, 0, 0, 0, [])),
  (25, (.aload_n 0, 26, 0, 0, 0, 0, 0, [])),
  (26, (.getfield 9, 29, 2, 0, 232, 2, 3, [])),
  (29, (.iload 4, 31, 4, 0, 0, 0, 0, [])),
  (31, (.iaload, 32, 0, 0, 0, 0, 0, [])),
  (32, (.invokestatic 39, 35, 205, 2, 370, 5, 0, [0])),
  (35, (.istore_n 3, 36, 3, 0, 0, 0, 0, [])),
  (36, (.iinc 4 1, 39, 4, 0, 0, 0, 0, [])),
  (39, (.goto (-34), 42, 5, 0, 0, 0, 0, [])),
  (42, (.iload_n 3, 43, 3, 0, 0, 0, 0, [])),
  (43, (.ireturn, 44, 0, 0, 0, 0, 0, []))]
def rn_m31 : rn_Mt := (yX2_rivalRank, cX2_rivalRank, 5, (some .int), false, 0, 0, 2, 42, rn_t31)
def rn_t32 : List (Nat × rn_E) := [(0, (.aload_n 0, 1, 0, 0, 0, 0, 0, [])),
  (1, (.aload_n 1, 2, 1, 0, 0, 0, 0, [])),
  (2, (.aload_n 2, 3, 2, 0, 0, 0, 0, [])),
  (3, (.invokevirtual 106, 6, 30, 3, 658, 0, 3, [0])),
  (6, (.aload_n 0, 7, 0, 0, 0, 0, 0, [])),
  (7, (.aload_n 1, 8, 1, 0, 0, 0, 0, [])),
  (8, (.aload_n 2, 9, 2, 0, 0, 0, 0, [])),
  (9, (.invokevirtual 110, 12, 33, 3, 662, 0, 3, [0])),
  (12, (.ireturn, 13, 0, 0, 0, 0, 0, []))]
def rn_m32 : rn_Mt := (yX2_bestStart, cX2_bestStart, 3, (some .int), false, 0, 0, 5, 121, rn_t32)
def rn_t33 : List (Nat × rn_E) := [(0, (.bipush (-9), 2, 0, 0, 0, 0, 0, [])),
  (2, (.istore_n 3, 3, 3, 0, 0, 0, 0, [])),
  (3, (.iconst 0, 4, 0, 0, 0, 0, 0, [])),
  (4, (.istore 4, 6, 4, 0, 0, 0, 0, [])),
  (6, (.iconst 0, 7, 0, 0, 0, 0, 0, [])),
  (7, (.istore 5, 9, 5, 0, 0, 0, 0, [])),
  (9, (.iload 5, 11, 5, 0, 0, 0, 0, [])),
  (11, (.aload_n 2, 12, 2, 0, 0, 0, 0, [])),
  (12, (.aload_n 2, 13, 2, 0, 0, 0, 0, [])),
  (13, (.getfield 15, 16, 5, 3, 107, 0, 6, [])),
  (16, (.invokevirtual 21, 19, 68, 2, 324, 0, 6, [0])),
  (19, (.if_icmp .gt 63, 22, 82, 0, 0, 0, 0, [])),
  (22, (.aload_n 2, 23, 2, 0, 0, 0, 0, [])),
  (23, (.iload 5, 25, 5, 0, 0, 0, 0, [])),
  (25, (.invokevirtual 114, 28, 72, 2, 666, 0, 6, [0])),
  (28, (.istore 6, 30, 6, 0, 0, 0, 0, [])),
  (30, (.iload_n 3, 31, 3, 0, 0, 0, 0, [])),
  (31, (.bipush (-9), 33, 0, 0, 0, 0, 0, [])),
  (33, (.if_icmp .eq 10, 36, 43, 0, 0, 0, 0, [])),
  (36, (.iload 6, 38, 6, 0, 0, 0, 0, [])),
  (38, (.iload 4, 40, 4, 0, 0, 0, 0, [])),
  (40, (.if_icmp .ge 36, 43, 76, 0, 0, 0, 0, [])),
  (43, (.aload_n 0, 44, 0, 0, 0, 0, 0, [])),
  (44, (.aload_n 2, 45, 2, 0, 0, 0, 0, [])),
  (45, (.iload 5, 47, 5, 0, 0, 0, 0, [])),
  (47, (.invokevirtual 117, 50, 31, 3, 667, 0, 3, [0])),
  (50, (.aload_n 2, 51, 2, 0, 0, 0, 0, [])),
  (51, (.getfield 33, 54, 5, 1, 100, 0, 6, [])),
  (54, (.if_icmp .ge 22, 57, 76, 0, 0, 0, 0, [])),
  (57, (.aload_n 0, 58, 0, 0, 0, 0, 0, [])),
  (58, (.aload_n 1, 59, 1, 0, 0, 0, 0, [])),
  (59, (.aload_n 2, 60, 2, 0, 0, 0, 0, [])),
  (60, (.iload 5, 62, 5, 0, 0, 0, 0, [])),
  (62, (.iconst (-1), 63, 0, 0, 0, 0, 0, [])),
  (63, (.invokevirtual 25, 66, 27, 5, 328, 0, 3, [0])),
  (66, (.ifCond .ne 10, 69, 76, 0, 0, 0, 0, [])),
  (69, (.iload 5, 71, 5, 0, 0, 0, 0, [])),
  (71, (.istore_n 3, 72, 3, 0, 0, 0, 0, [])),
  (72, (.iload 6, 74, 6, 0, 0, 0, 0, [])),
  (74, (.istore 4, 76, 4, 0, 0, 0, 0, [])),
  (76, (.iinc 5 1, 79, 5, 0, 0, 0, 0, [])),
  (79, (.goto (-70), 82, 9, 0, 0, 0, 0, [])),
  (82, (.iload_n 3, 83, 3, 0, 0, 0, 0, [])),
  (83, (.ireturn, 84, 0, 0, 0, 0, 0, []))]
def rn_m33 : rn_Mt := (yX2_bestStartAsNoted, cX2_bestStartAsNoted, 7, (some .int), false, 0, 0, 4, 88, rn_t33)
def rn_t34 : List (Nat × rn_E) := [(0, (.aload_n 0, 1, 0, 0, 0, 0, 0, [])),
  (1, (.aload_n 1, 2, 1, 0, 0, 0, 0, [])),
  (2, (.aload_n 2, 3, 2, 0, 0, 0, 0, [])),
  (3, (.invokevirtual 106, 6, 30, 3, 658, 0, 3, [0])),
  (6, (.bipush 10, 8, 0, 0, 0, 0, 0, [])),
  (8, (.istore_n 3, 9, 3, 0, 0, 0, 0, [])),
  (9, (.iconst 0, 10, 0, 0, 0, 0, 0, [])),
  (10, (.istore 4, 12, 4, 0, 0, 0, 0, [])),
  (12, (.iload 4, 14, 4, 0, 0, 0, 0, [])),
  (14, (.aload_n 2, 15, 2, 0, 0, 0, 0, [])),
  (15, (.aload_n 2, 16, 2, 0, 0, 0, 0, [])),
  (16, (.getfield 15, 19, 5, 3, 107, 0, 6, [])),
  (19, (.invokevirtual 21, 22, 68, 2, 324, 0, 6, [0])),
  (22, (.if_icmp .gt 35, 25, 57, 0, 0, 0, 0, [])),
  (25, (.aload_n 0, 26, 0, 0, 0, 0, 0, [])),
  (26, (.aload_n 1, 27, 1, 0, 0, 0, 0, [])),
  (27, (.aload_n 2, 28, 2, 0, 0, 0, 0, [])),
  (28, (.iload 4, 30, 4, 0, 0, 0, 0, [])),
  (30, (.iconst (-1), 31, 0, 0, 0, 0, 0, [])),
  (31, (.invokevirtual 25, 34, 27, 5, 328, 0, 3, [0])),
  (34, (.ifCond .ne 17, 37, 51, 0, 0, 0, 0, [])),
  (37, (.iload_n 3, 38, 3, 0, 0, 0, 0, [])),
  (38, (.aload_n 0, 39, 0, 0, 0, 0, 0, [])),
  (39, (.aload_n 2, 40, 2, 0, 0, 0, 0, [])),
  (40, (.iload 4, 42, 4, 0, 0, 0, 0, [])),
  (42, (.invokevirtual 117, 45, 31, 3, 667, 0, 3, [0])),
  (45, (.iconst 1, 46, 0, 0, 0, 0, 0, [])),
  (46, (.iadd, 47, 0, 0, 0, 0, 0, [])),
  (47, (.invokestatic 121, 50, 206, 2, 721, 6, 0, [0])),
  (50, (.istore_n 3, 51, 3, 0, 0, 0, 0, [])),
  (51, (.iinc 4 1, 54, 4, 0, 0, 0, 0, [])),
  (54, (.goto (-42), 57, 12, 0, 0, 0, 0, [])),
  (57, (.iload_n 3, 58, 3, 0, 0, 0, 0, [])),
  (58, (.invokestatic 124, 61, 120, 1, 15, 0, 10, [1])),
  (61, (.ifCond .eq 7, 64, 68, 0, 0, 0, 0, [])),
  (64, (.iload_n 3, 65, 3, 0, 0, 0, 0, [])),
  (65, (.goto 5, 68, 70, 0, 0, 0, 0, [])),
  (68, (.bipush (-9), 70, 0, 0, 0, 0, 0, [])),
  (70, (.ireturn, 71, 0, 0, 0, 0, 0, []))]
def rn_m34 : rn_Mt := (yX2_leastRank, cX2_leastRank, 5, (some .int), false, 0, 0, 5, 121, rn_t34)
def rn_t35 : List (Nat × rn_E) := [(0, (.bipush 9, 2, 0, 0, 0, 0, 0, [])),
  (2, (.istore_n 3, 3, 3, 0, 0, 0, 0, [])),
  (3, (.iload_n 3, 4, 3, 0, 0, 0, 0, [])),
  (4, (.iconst 1, 5, 0, 0, 0, 0, 0, [])),
  (5, (.if_icmp .lt 57, 8, 62, 0, 0, 0, 0, [])),
  (8, (.iconst 0, 9, 0, 0, 0, 0, 0, [])),
  (9, (.istore 4, 11, 4, 0, 0, 0, 0, [])),
  (11, (.iload 4, 13, 4, 0, 0, 0, 0, [])),
  (13, (.aload_n 1, 14, 1, 0, 0, 0, 0, [])),
  (14, (.getfield 127, 17, 0, 0, 183, 0, 1, [])),
  (17, (.if_icmp .ge 39, 20, 56, 0, 0, 0, 0, [])),
  (20, (.aload_n 1, 21, 1, 0, 0, 0, 0, [])),
  (21, (.iload 4, 23, 4, 0, 0, 0, 0, [])),
  (23, (.invokevirtual 130, 26, 5, 2, 653, 0, 1, [0])),
  (26, (.astore 5, 28, 5, 0, 0, 0, 0, [])),
  (28, (.aload 5, 30, 5, 0, 0, 0, 0, [])),
  (30, (.ifnull 20, 33, 50, 0, 0, 0, 0, [])),
  (33, (.aload 5, 35, 5, 0, 0, 0, 0, [])),
  (35, (.getfield 33, 38, 5, 1, 100, 0, 6, [])),
  (38, (.iload_n 3, 39, 3, 0, 0, 0, 0, [])),
  (39, (.if_icmp .ne 11, 42, 50, 0, 0, 0, 0, [])),
  (42, (.aload_n 0, 43, 0, 0, 0, 0, 0, [])),
  (43, (.aload_n 1, 44, 1, 0, 0, 0, 0, [])),
  (44, (.aload 5, 46, 5, 0, 0, 0, 0, [])),
  (46, (.iload_n 2, 47, 2, 0, 0, 0, 0, [])),
  (47, (.invokevirtual 134, 50, 36, 4, 654, 0, 3, [0])),
  (50, (.iinc 4 1, 53, 4, 0, 0, 0, 0, [])),
  (53, (.goto (-42), 56, 11, 0, 0, 0, 0, [])),
  (56, (.iinc 3 (-1), 59, 3, 0, 0, 0, 0, [])),
  (59, (.goto (-56), 62, 3, 0, 0, 0, 0, [])),
  (62, (.return_, 63, 0, 0, 0, 0, 0, []))]
def rn_m35 : rn_Mt := (yX2_letterAll, cX2_letterAll, 6, none, false, 0, 0, 6, 146, rn_t35)
def rn_t36 : List (Nat × rn_E) := [(0, (.aload_n 0, 1, 0, 0, 0, 0, 0, [])),
  (1, (.aload_n 1, 2, 1, 0, 0, 0, 0, [])),
  (2, (.aload_n 2, 3, 2, 0, 0, 0, 0, [])),
  (3, (.invokevirtual 106, 6, 30, 3, 658, 0, 3, [0])),
  (6, (.iconst 0, 7, 0, 0, 0, 0, 0, [])),
  (7, (.istore 4, 9, 4, 0, 0, 0, 0, [])),
  (9, (.iload 4, 11, 4, 0, 0, 0, 0, [])),
  (11, (.iload_n 3, 12, 3, 0, 0, 0, 0, [])),
  (12, (.if_icmp .ge 35, 15, 47, 0, 0, 0, 0, [])),
  (15, (.aload_n 0, 16, 0, 0, 0, 0, 0, [])),
  (16, (.aload_n 1, 17, 1, 0, 0, 0, 0, [])),
  (17, (.aload_n 2, 18, 2, 0, 0, 0, 0, [])),
  (18, (.invokevirtual 110, 21, 33, 3, 662, 0, 3, [0])),
  (21, (.istore 5, 23, 5, 0, 0, 0, 0, [])),
  (23, (.iload 5, 25, 5, 0, 0, 0, 0, [])),
  (25, (.bipush (-9), 27, 0, 0, 0, 0, 0, [])),
  (27, (.if_icmp .eq 13, 30, 40, 0, 0, 0, 0, [])),
  (30, (.aload_n 1, 31, 1, 0, 0, 0, 0, [])),
  (31, (.aload_n 2, 32, 2, 0, 0, 0, 0, [])),
  (32, (.iload 5, 34, 5, 0, 0, 0, 0, [])),
  (34, (.invokevirtual 138, 37, 10, 3, 672, 0, 1, [0])),
  (37, (.ifCond .ne 4, 40, 41, 0, 0, 0, 0, [])),
  (40, (.return_, 41, 0, 0, 0, 0, 0, [])),
  (41, (.iinc 4 1, 44, 4, 0, 0, 0, 0, [])),
  (44, (.goto (-35), 47, 9, 0, 0, 0, 0, [])),
  (47, (.return_, 48, 0, 0, 0, 0, 0, []))]
def rn_m36 : rn_Mt := (yX2_letterRiver, cX2_letterRiver, 6, none, false, 0, 0, 5, 121, rn_t36)
def rn_t37 : List (Nat × rn_E) := [(0, (.aload_n 1, 1, 1, 0, 0, 0, 0, [])),
  (1, (.iload_n 2, 2, 2, 0, 0, 0, 0, [])),
  (2, (.invokevirtual 50, 5, 7, 2, 319, 0, 1, [0])),
  (5, (.astore_n 3, 6, 3, 0, 0, 0, 0, [])),
  (6, (.aload_n 3, 7, 3, 0, 0, 0, 0, [])),
  (7, (.ifnull 24, 10, 31, 0, 0, 0, 0, [])),
  (10, (.aload_n 0, 11, 0, 0, 0, 0, 0, [])),
  (11, (.aload_n 1, 12, 1, 0, 0, 0, 0, [])),
  (12, (.aload_n 3, 13, 3, 0, 0, 0, 0, [])),
  (13, (.getfield 54, 16, 3, 0, 170, 2, 4, [])),
  (16, (.aload_n 3, 17, 3, 0, 0, 0, 0, [])),
  (17, (.getfield 63, 20, 3, 1, 174, 0, 4, [])),
  (20, (.iload_n 2, 21, 2, 0, 0, 0, 0, [])),
  (21, (.invokevirtual 142, 24, 26, 5, 320, 0, 3, [0])),
  (24, (.ifCond .eq 7, 27, 31, 0, 0, 0, 0, [])),
  (27, (.iconst 1, 28, 0, 0, 0, 0, 0, [])),
  (28, (.goto 4, 31, 32, 0, 0, 0, 0, [])),
  (31, (.iconst 0, 32, 0, 0, 0, 0, 0, [])),
  (32, (.ireturn, 33, 0, 0, 0, 1, 0, []))]
def rn_m37 : rn_Mt := (yX2_isMisfit, cX2_isMisfit, 4, (some .boolean), false, 0, 0, 5, 124, rn_t37)
def rn_t38 : List (Nat × rn_E) := [(0, (.iconst 0, 1, 0, 0, 0, 0, 0, [])),
  (1, (.istore_n 2, 2, 2, 0, 0, 0, 0, [])),
  (2, (.iconst 0, 3, 0, 0, 0, 0, 0, [])),
  (3, (.istore_n 3, 4, 3, 0, 0, 0, 0, [])),
  (4, (.iload_n 3, 5, 3, 0, 0, 0, 0, [])),
  (5, (.aload_n 1, 6, 1, 0, 0, 0, 0, [])),
  (6, (.getfield 45, 9, 0, 2, 189, 0, 1, [])),
  (9, (.if_icmp .ge 21, 12, 30, 0, 0, 0, 0, [])),
  (12, (.aload_n 0, 13, 0, 0, 0, 0, 0, [])),
  (13, (.aload_n 1, 14, 1, 0, 0, 0, 0, [])),
  (14, (.iload_n 3, 15, 3, 0, 0, 0, 0, [])),
  (15, (.invokevirtual 146, 18, 37, 3, 315, 0, 3, [0])),
  (18, (.ifCond .eq 6, 21, 24, 0, 0, 0, 0, [])),
  (21, (.iinc 2 1, 24, 2, 0, 0, 0, 0, [])),
  (24, (.iinc 3 1, 27, 3, 0, 0, 0, 0, [])),
  (27, (.goto (-23), 30, 4, 0, 0, 0, 0, [])),
  (30, (.iload_n 2, 31, 2, 0, 0, 0, 0, [])),
  (31, (.ireturn, 32, 0, 0, 0, 0, 0, []))]
def rn_m38 : rn_Mt := (yX2_misfits, cX2_misfits, 4, (some .int), false, 0, 0, 6, 147, rn_t38)
def rn_t39 : List (Nat × rn_E) := [(0, (.aload_n 1, 1, 1, 0, 0, 0, 0, [])),
  (1, (.getfield 45, 4, 0, 2, 189, 0, 1, [])),
  (4, (.istore_n 2, 5, 2, 0, 0, 0, 0, [])),
  (5, (.iconst 0, 6, 0, 0, 0, 0, 0, [])),
  (6, (.istore_n 3, 7, 3, 0, 0, 0, 0, [])),
  (7, (.iconst 0, 8, 0, 0, 0, 0, 0, [])),
  (8, (.istore 4, 10, 4, 0, 0, 0, 0, [])),
  (10, (.iload 4, 12, 4, 0, 0, 0, 0, [])),
  (12, (.iload_n 2, 13, 2, 0, 0, 0, 0, [])),
  (13, (.if_icmp .ge 30, 16, 43, 0, 0, 0, 0, [])),
  (16, (.aload_n 0, 17, 0, 0, 0, 0, 0, [])),
  (17, (.aload_n 1, 18, 1, 0, 0, 0, 0, [])),
  (18, (.iload_n 3, 19, 3, 0, 0, 0, 0, [])),
  (19, (.invokevirtual 146, 22, 37, 3, 315, 0, 3, [0])),
  (22, (.ifCond .eq 12, 25, 34, 0, 0, 0, 0, [])),
  (25, (.aload_n 1, 26, 1, 0, 0, 0, 0, [])),
  (26, (.iload_n 3, 27, 3, 0, 0, 0, 0, [])),
  (27, (.invokevirtual 150, 30, 11, 2, 746, 0, 1, [0])),
  (30, (.pop, 31, 0, 0, 0, 0, 0, [])),
  (31, (.goto 6, 34, 37, 0, 0, 0, 0, [])),
  (34, (.iinc 3 1, 37, 3, 0, 0, 0, 0, [])),
  (37, (.iinc 4 1, 40, 4, 0, 0, 0, 0, [])),
  (40, (.goto (-30), 43, 10, 0, 0, 0, 0, [])),
  (43, (.iload_n 2, 44, 2, 0, 0, 0, 0, [])),
  (44, (.aload_n 1, 45, 1, 0, 0, 0, 0, [])),
  (45, (.getfield 45, 48, 0, 2, 189, 0, 1, [])),
  (48, (.isub, 49, 0, 0, 0, 0, 0, [])),
  (49, (.ireturn, 50, 0, 0, 0, 0, 0, []))]
def rn_m39 : rn_Mt := (yX2_dropMisfits, cX2_dropMisfits, 5, (some .int), false, 0, 0, 6, 147, rn_t39)
def rn_t40 : List (Nat × rn_E) := [(0, (.aload_n 0, 1, 0, 0, 0, 0, 0, [])),
  (1, (.invokespecial 1, 4, 1000, 1, 168, 2, 0, [0])),
  (4, (.aload_n 0, 5, 0, 0, 0, 0, 0, [])),
  (5, (.aload_n 1, 6, 1, 0, 0, 0, 0, [])),
  (6, (.putfield 7, 9, 3, 0, 169, 2, 4, [])),
  (9, (.return_, 10, 0, 0, 0, 0, 0, []))]
def rn_m40 : rn_Mt := (yX3_init, cX3_init, 2, none, false, 0, 0, 1, 20, rn_t40)
def rn_t41 : List (Nat × rn_E) := [(0, (.aload_n 0, 1, 0, 0, 0, 0, 0, [])),
  (1, (.aload_n 1, 2, 1, 0, 0, 0, 0, [])),
  (2, (.putfield 7, 5, 3, 0, 169, 2, 4, [])),
  (5, (.aload_n 0, 6, 0, 0, 0, 0, 0, [])),
  (6, (.iload_n 2, 7, 2, 0, 0, 0, 0, [])),
  (7, (.putfield 13, 10, 3, 1, 173, 0, 4, [])),
  (10, (.return_, 11, 0, 0, 0, 0, 0, []))]
def rn_m41 : rn_Mt := (yX3_put, cX3_put, 3, none, false, 0, 0, 0, 0, rn_t41)
def rn_t42 : List (Nat × rn_E) := [(0, (.aload_n 0, 1, 0, 0, 0, 0, 0, [])),
  (1, (.getfield 13, 4, 3, 1, 173, 0, 4, [])),
  (4, (.istore_n 2, 5, 2, 0, 0, 0, 0, [])),
  (5, (.iload_n 2, 6, 2, 0, 0, 0, 0, [])),
  (6, (.aload_n 0, 7, 0, 0, 0, 0, 0, [])),
  (7, (.getfield 13, 10, 3, 1, 173, 0, 4, [])),
  (10, (.aload_n 0, 11, 0, 0, 0, 0, 0, [])),
  (11, (.getfield 7, 14, 3, 0, 169, 2, 4, [])),
  (14, (.getfield 17, 17, 5, 3, 109, 0, 6, [])),
  (17, (.iadd, 18, 0, 0, 0, 0, 0, [])),
  (18, (.if_icmp .ge 41, 21, 59, 0, 0, 0, 0, [])),
  (21, (.aload_n 1, 22, 1, 0, 0, 0, 0, [])),
  (22, (.aload_n 0, 23, 0, 0, 0, 0, 0, [])),
  (23, (.getfield 7, 26, 3, 0, 169, 2, 4, [])),
  (26, (.iload_n 2, 27, 2, 0, 0, 0, 0, [])),
  (27, (.invokevirtual 22, 30, 65, 2, 400, 0, 6, [0])),
  (30, (.aload_n 0, 31, 0, 0, 0, 0, 0, [])),
  (31, (.getfield 7, 34, 3, 0, 169, 2, 4, [])),
  (34, (.iload_n 2, 35, 2, 0, 0, 0, 0, [])),
  (35, (.invokevirtual 26, 38, 66, 2, 401, 0, 6, [0])),
  (38, (.aload_n 0, 39, 0, 0, 0, 0, 0, [])),
  (39, (.getfield 7, 42, 3, 0, 169, 2, 4, [])),
  (42, (.getfield 29, 45, 5, 2, 104, 0, 6, [])),
  (45, (.invokevirtual 32, 48, 89, 4, 487, 0, 9, [0])),
  (48, (.ifCond .eq 5, 51, 53, 0, 0, 0, 0, [])),
  (51, (.iconst 1, 52, 0, 0, 0, 0, 0, [])),
  (52, (.ireturn, 53, 0, 0, 0, 1, 0, [])),
  (53, (.iinc 2 1, 56, 2, 0, 0, 0, 0, [])),
  (56, (.goto (-51), 59, 5, 0, 0, 0, 0, [])),
  (59, (.iconst 0, 60, 0, 0, 0, 0, 0, [])),
  (60, (.ireturn, 61, 0, 0, 0, 1, 0, []))]
def rn_m42 : rn_Mt := (yX3_lapsOver, cX3_lapsOver, 3, (some .boolean), false, 0, 0, 2, 45, rn_t42)
def rn_t43 : List (Nat × rn_E) := [(0, (.aload_n 0, 1, 0, 0, 0, 0, 0, [])),
  (1, (.getfield 13, 4, 3, 1, 173, 0, 4, [])),
  (4, (.istore_n 2, 5, 2, 0, 0, 0, 0, [])),
  (5, (.iload_n 2, 6, 2, 0, 0, 0, 0, [])),
  (6, (.aload_n 0, 7, 0, 0, 0, 0, 0, [])),
  (7, (.getfield 13, 10, 3, 1, 173, 0, 4, [])),
  (10, (.aload_n 0, 11, 0, 0, 0, 0, 0, [])),
  (11, (.getfield 7, 14, 3, 0, 169, 2, 4, [])),
  (14, (.getfield 17, 17, 5, 3, 109, 0, 6, [])),
  (17, (.iadd, 18, 0, 0, 0, 0, 0, [])),
  (18, (.if_icmp .ge 36, 21, 54, 0, 0, 0, 0, [])),
  (21, (.aload_n 1, 22, 1, 0, 0, 0, 0, [])),
  (22, (.aload_n 0, 23, 0, 0, 0, 0, 0, [])),
  (23, (.getfield 7, 26, 3, 0, 169, 2, 4, [])),
  (26, (.iload_n 2, 27, 2, 0, 0, 0, 0, [])),
  (27, (.invokevirtual 22, 30, 65, 2, 400, 0, 6, [0])),
  (30, (.aload_n 0, 31, 0, 0, 0, 0, 0, [])),
  (31, (.getfield 7, 34, 3, 0, 169, 2, 4, [])),
  (34, (.iload_n 2, 35, 2, 0, 0, 0, 0, [])),
  (35, (.invokevirtual 26, 38, 66, 2, 401, 0, 6, [0])),
  (38, (.aload_n 0, 39, 0, 0, 0, 0, 0, [])),
  (39, (.getfield 7, 42, 3, 0, 169, 2, 4, [])),
  (42, (.getfield 29, 45, 5, 2, 104, 0, 6, [])),
  (45, (.invokevirtual 38, 48, 80, 4, 402, 0, 7, [0])),
  (48, (.iinc 2 1, 51, 2, 0, 0, 0, 0, [])),
  (51, (.goto (-46), 54, 5, 0, 0, 0, 0, [])),
  (54, (.return_, 55, 0, 0, 0, 0, 0, []))]
def rn_m43 : rn_Mt := (yX3_markArea, cX3_markArea, 3, none, false, 0, 0, 3, 68, rn_t43)
def rn_t44 : List (Nat × rn_E) := [(0, (.aload_n 1, 1, 1, 0, 0, 0, 0, [])),
  (1, (.invokevirtual 44, 4, 79, 1, 475, 0, 7, [0])),
  (4, (.aload_n 0, 5, 0, 0, 0, 0, 0, [])),
  (5, (.aload_n 1, 6, 1, 0, 0, 0, 0, [])),
  (6, (.invokevirtual 47, 9, 43, 2, 476, 0, 4, [0])),
  (9, (.aload_n 1, 10, 1, 0, 0, 0, 0, [])),
  (10, (.getfield 51, 13, 6, 0, 243, 0, 7, [])),
  (13, (.ireturn, 14, 0, 0, 0, 0, 0, []))]
def rn_m44 : rn_Mt := (yX3_cells, cX3_cells, 2, (some .int), false, 0, 0, 4, 90, rn_t44)
def rn_t45 : List (Nat × rn_E) := [(0, (.aload_n 0, 1, 0, 0, 0, 0, 0, [])),
  (1, (.invokespecial 3, 4, 1000, 1, 42, 2, 0, [0])),
  (4, (.aload_n 0, 5, 0, 0, 0, 0, 0, [])),
  (5, (.new 9, 8, 7, 0, 43, 0, 0, [])),
  (8, (.dup, 9, 0, 0, 0, 0, 0, [])),
  (9, (.invokespecial 11, 12, 82, 1, 1, 4, 8, [1])),
  (12, (.putfield 12, 15, 4, 0, 58, 2, 5, [])),
  (15, (.return_, 16, 0, 0, 0, 0, 0, []))]
def rn_m45 : rn_Mt := (yX4_init, cX4_init, 1, none, true, 2, 200, 2, 40, rn_t45)
def rn_t46 : List (Nat × rn_E) := []
def rn_m46 : rn_Mt := (yL_law, cL_law, 12, (some .boolean), false, 0, 0, 0, 0, rn_t46)
def rn_t47 : List (Nat × rn_E) := []
def rn_m47 : rn_Mt := (yL_law, cL_law, 12, (some .boolean), false, 0, 0, 0, 0, rn_t47)
def rn_t48 : List (Nat × rn_E) := []
def rn_m48 : rn_Mt := (yL_law, cL_law, 12, (some .boolean), false, 0, 0, 0, 0, rn_t48)
def rn_t49 : List (Nat × rn_E) := []
def rn_m49 : rn_Mt := (yL_law, cL_law, 12, (some .boolean), false, 0, 0, 0, 0, rn_t49)
def rn_t50 : List (Nat × rn_E) := []
def rn_m50 : rn_Mt := (yL_law, cL_law, 12, (some .boolean), false, 0, 0, 0, 0, rn_t50)
def rn_t51 : List (Nat × rn_E) := []
def rn_m51 : rn_Mt := (yL_law, cL_law, 12, (some .boolean), false, 0, 0, 0, 0, rn_t51)
def rn_t52 : List (Nat × rn_E) := []
def rn_m52 : rn_Mt := (yL_law, cL_law, 12, (some .boolean), false, 0, 0, 0, 0, rn_t52)
def rn_t53 : List (Nat × rn_E) := []
def rn_m53 : rn_Mt := (yL_law, cL_law, 12, (some .boolean), false, 0, 0, 0, 0, rn_t53)
def rn_t54 : List (Nat × rn_E) := []
def rn_m54 : rn_Mt := (yL_law, cL_law, 12, (some .boolean), false, 0, 0, 0, 0, rn_t54)
def rn_t55 : List (Nat × rn_E) := []
def rn_m55 : rn_Mt := (yL_law, cL_law, 12, (some .boolean), false, 0, 0, 0, 0, rn_t55)
def rn_t56 : List (Nat × rn_E) := []
def rn_m56 : rn_Mt := (yL_law, cL_law, 12, (some .boolean), false, 0, 0, 0, 0, rn_t56)
def rn_t57 : List (Nat × rn_E) := [(0, (.aload_n 0, 1, 0, 0, 0, 0, 0, [])),
  (1, (.invokespecial 3, 4, 1000, 1, 94, 2, 0, [0])),
  (4, (.aload_n 0, 5, 0, 0, 0, 0, 0, [])),
  (5, (.bipush 12, 7, 0, 0, 0, 0, 0, [])),
  (7, (.newarray .int, 9, 0, 0, 0, 0, 0, [])),
  (9, (.putfield 9, 12, 5, 5, 114, 2, 6, [])),
  (12, (.aload_n 0, 13, 0, 0, 0, 0, 0, [])),
  (13, (.bipush 60, 15, 0, 0, 0, 0, 0, [])),
  (15, (.newarray .int, 17, 0, 0, 0, 0, 0, [])),
  (17, (.putfield 15, 20, 5, 6, 115, 2, 6, [])),
  (20, (.aload_n 0, 21, 0, 0, 0, 0, 0, [])),
  (21, (.bipush 61, 23, 0, 0, 0, 0, 0, [])),
  (23, (.newarray .int, 25, 0, 0, 0, 0, 0, [])),
  (25, (.putfield 18, 28, 5, 7, 116, 2, 6, [])),
  (28, (.aload_n 0, 29, 0, 0, 0, 0, 0, [])),
  (29, (.bipush 61, 31, 0, 0, 0, 0, 0, [])),
  (31, (.newarray .int, 33, 0, 0, 0, 0, 0, [])),
  (33, (.putfield 21, 36, 5, 8, 117, 2, 6, [])),
  (36, (.aload_n 0, 37, 0, 0, 0, 0, 0, [])),
  (37, (.iload_n 1, 38, 1, 0, 0, 0, 0, [])),
  (38, (.putfield 24, 41, 5, 0, 95, 0, 6, [])),
  (41, (.return_, 42, 0, 0, 0, 0, 0, []))]
def rn_m57 : rn_Mt := (yX5_init, cX5_init, 2, none, true, 4, 400, 1, 20, rn_t57)
def rn_t58 : List (Nat × rn_E) := [(0, (.aload_n 0, 1, 0, 0, 0, 0, 0, [])),
  (1, (.aload_n 1, 2, 1, 0, 0, 0, 0, [])),
  (2, (.getfield 28, 5, 5, 1, 99, 0, 6, [])),
  (5, (.putfield 28, 8, 5, 1, 99, 0, 6, [])),
  (8, (.aload_n 0, 9, 0, 0, 0, 0, 0, [])),
  (9, (.aload_n 1, 10, 1, 0, 0, 0, 0, [])),
  (10, (.getfield 31, 13, 5, 2, 103, 0, 6, [])),
  (13, (.putfield 31, 16, 5, 2, 103, 0, 6, [])),
  (16, (.aload_n 0, 17, 0, 0, 0, 0, 0, [])),
  (17, (.aload_n 1, 18, 1, 0, 0, 0, 0, [])),
  (18, (.getfield 34, 21, 5, 3, 108, 0, 6, [])),
  (21, (.putfield 34, 24, 5, 3, 108, 0, 6, [])),
  (24, (.aload_n 0, 25, 0, 0, 0, 0, 0, [])),
  (25, (.aload_n 1, 26, 1, 0, 0, 0, 0, [])),
  (26, (.getfield 37, 29, 5, 4, 111, 0, 6, [])),
  (29, (.putfield 37, 32, 5, 4, 111, 0, 6, [])),
  (32, (.aload_n 1, 33, 1, 0, 0, 0, 0, [])),
  (33, (.getfield 9, 36, 5, 5, 114, 2, 6, [])),
  (36, (.iconst 0, 37, 0, 0, 0, 0, 0, [])),
  (37, (.aload_n 0, 38, 0, 0, 0, 0, 0, [])),
  (38, (.getfield 9, 41, 5, 5, 114, 2, 6, [])),
  (41, (.iconst 0, 42, 0, 0, 0, 0, 0, [])),
  (42, (.bipush 12, 44, 0, 0, 0, 0, 0, [])),
  (44, (.invokestatic 40, 47, 1001, 5, 544, 3, 0, [0])),
  (47, (.aload_n 1, 48, 1, 0, 0, 0, 0, [])),
  (48, (.getfield 15, 51, 5, 6, 115, 2, 6, [])),
  (51, (.iconst 0, 52, 0, 0, 0, 0, 0, [])),
  (52, (.aload_n 0, 53, 0, 0, 0, 0, 0, [])),
  (53, (.getfield 15, 56, 5, 6, 115, 2, 6, [])),
  (56, (.iconst 0, 57, 0, 0, 0, 0, 0, [])),
  (57, (.bipush 60, 59, 0, 0, 0, 0, 0, [])),
  (59, (.invokestatic 40, 62, 1001, 5, 544, 3, 0, [0])),
  (62, (.aload_n 1, 63, 1, 0, 0, 0, 0, [])),
  (63, (.getfield 18, 66, 5, 7, 116, 2, 6, [])),
  (66, (.iconst 0, 67, 0, 0, 0, 0, 0, [])),
  (67, (.aload_n 0, 68, 0, 0, 0, 0, 0, [])),
  (68, (.getfield 18, 71, 5, 7, 116, 2, 6, [])),
  (71, (.iconst 0, 72, 0, 0, 0, 0, 0, [])),
  (72, (.bipush 61, 74, 0, 0, 0, 0, 0, [])),
  (74, (.invokestatic 40, 77, 1001, 5, 544, 3, 0, [0])),
  (77, (.aload_n 1, 78, 1, 0, 0, 0, 0, [])),
  (78, (.getfield 21, 81, 5, 8, 117, 2, 6, [])),
  (81, (.iconst 0, 82, 0, 0, 0, 0, 0, [])),
  (82, (.aload_n 0, 83, 0, 0, 0, 0, 0, [])),
  (83, (.getfield 21, 86, 5, 8, 117, 2, 6, [])),
  (86, (.iconst 0, 87, 0, 0, 0, 0, 0, [])),
  (87, (.bipush 61, 89, 0, 0, 0, 0, 0, [])),
  (89, (.invokestatic 40, 92, 1001, 5, 544, 3, 0, [0])),
  (92, (.return_, 93, 0, 0, 0, 0, 0, []))]
def rn_m58 : rn_Mt := (yX5_copyFrom, cX5_copyFrom, 2, none, false, 0, 0, 1, 38, rn_t58)
def rn_t59 : List (Nat × rn_E) := [(0, (.aload_n 0, 1, 0, 0, 0, 0, 0, [])),
  (1, (.iconst 0, 2, 0, 0, 0, 0, 0, [])),
  (2, (.putfield 34, 5, 5, 3, 108, 0, 6, [])),
  (5, (.aload_n 0, 6, 0, 0, 0, 0, 0, [])),
  (6, (.iconst 0, 7, 0, 0, 0, 0, 0, [])),
  (7, (.putfield 37, 10, 5, 4, 111, 0, 6, [])),
  (10, (.return_, 11, 0, 0, 0, 0, 0, []))]
def rn_m59 : rn_Mt := (yX5_forget, cX5_forget, 1, none, false, 0, 0, 0, 0, rn_t59)
def rn_t60 : List (Nat × rn_E) := [(0, (.aload_n 0, 1, 0, 0, 0, 0, 0, [])),
  (1, (.getfield 34, 4, 5, 3, 108, 0, 6, [])),
  (4, (.iconst 0, 5, 0, 0, 0, 0, 0, [])),
  (5, (.bipush 11, 7, 0, 0, 0, 0, 0, [])),
  (7, (.invokestatic 46, 10, 118, 3, 9, 0, 10, [1])),
  (10, (.ifCond .eq 23, 13, 33, 0, 0, 0, 0, [])),
  (13, (.aload_n 0, 14, 0, 0, 0, 0, 0, [])),
  (14, (.getfield 9, 17, 5, 5, 114, 2, 6, [])),
  (17, (.aload_n 0, 18, 0, 0, 0, 0, 0, [])),
  (18, (.getfield 34, 21, 5, 3, 108, 0, 6, [])),
  (21, (.iload_n 1, 22, 1, 0, 0, 0, 0, [])),
  (22, (.iastore, 23, 0, 0, 0, 0, 0, [])),
  (23, (.aload_n 0, 24, 0, 0, 0, 0, 0, [])),
  (24, (.dup, 25, 0, 0, 0, 0, 0, [])),
  (25, (.getfield 34, 28, 5, 3, 108, 0, 6, [])),
  (28, (.iconst 1, 29, 0, 0, 0, 0, 0, [])),
  (29, (.iadd, 30, 0, 0, 0, 0, 0, [])),
  (30, (.putfield 34, 33, 5, 3, 108, 0, 6, [])),
  (33, (.return_, 34, 0, 0, 0, 0, 0, []))]
def rn_m60 : rn_Mt := (yX5_addLetter, cX5_addLetter, 2, none, false, 0, 0, 1, 22, rn_t60)
def rn_t61 : List (Nat × rn_E) := [(0, (.aload_n 0, 1, 0, 0, 0, 0, 0, [])),
  (1, (.getfield 18, 4, 5, 7, 116, 2, 6, [])),
  (4, (.iconst 0, 5, 0, 0, 0, 0, 0, [])),
  (5, (.iload_n 1, 6, 1, 0, 0, 0, 0, [])),
  (6, (.iastore, 7, 0, 0, 0, 0, 0, [])),
  (7, (.aload_n 0, 8, 0, 0, 0, 0, 0, [])),
  (8, (.getfield 21, 11, 5, 8, 117, 2, 6, [])),
  (11, (.iconst 0, 12, 0, 0, 0, 0, 0, [])),
  (12, (.iload_n 2, 13, 2, 0, 0, 0, 0, [])),
  (13, (.iastore, 14, 0, 0, 0, 0, 0, [])),
  (14, (.aload_n 0, 15, 0, 0, 0, 0, 0, [])),
  (15, (.iload_n 3, 16, 3, 0, 0, 0, 0, [])),
  (16, (.putfield 28, 19, 5, 1, 99, 0, 6, [])),
  (19, (.aload_n 0, 20, 0, 0, 0, 0, 0, [])),
  (20, (.iload 4, 22, 4, 0, 0, 0, 0, [])),
  (22, (.putfield 31, 25, 5, 2, 103, 0, 6, [])),
  (25, (.return_, 26, 0, 0, 0, 0, 0, []))]
def rn_m61 : rn_Mt := (yX5_begin, cX5_begin, 5, none, false, 0, 0, 0, 0, rn_t61)
def rn_t62 : List (Nat × rn_E) := [(0, (.iload_n 1, 1, 1, 0, 0, 0, 0, [])),
  (1, (.iconst 0, 2, 0, 0, 0, 0, 0, [])),
  (2, (.bipush 7, 4, 0, 0, 0, 0, 0, [])),
  (4, (.invokestatic 46, 7, 118, 3, 9, 0, 10, [1])),
  (7, (.ifCond .eq 37, 10, 44, 0, 0, 0, 0, [])),
  (10, (.aload_n 0, 11, 0, 0, 0, 0, 0, [])),
  (11, (.aload_n 0, 12, 0, 0, 0, 0, 0, [])),
  (12, (.getfield 37, 15, 5, 4, 111, 0, 6, [])),
  (15, (.invokevirtual 50, 18, 65, 2, 437, 0, 6, [0])),
  (18, (.getstatic 54, 21, 1, 1, 11, 0, 0, [])),
  (21, (.iload_n 1, 22, 1, 0, 0, 0, 0, [])),
  (22, (.iaload, 23, 0, 0, 0, 0, 0, [])),
  (23, (.iadd, 24, 0, 0, 0, 0, 0, [])),
  (24, (.aload_n 0, 25, 0, 0, 0, 0, 0, [])),
  (25, (.aload_n 0, 26, 0, 0, 0, 0, 0, [])),
  (26, (.getfield 37, 29, 5, 4, 111, 0, 6, [])),
  (29, (.invokevirtual 57, 32, 66, 2, 438, 0, 6, [0])),
  (32, (.getstatic 60, 35, 2, 1, 12, 0, 0, [])),
  (35, (.iload_n 1, 36, 1, 0, 0, 0, 0, [])),
  (36, (.iaload, 37, 0, 0, 0, 0, 0, [])),
  (37, (.iadd, 38, 0, 0, 0, 0, 0, [])),
  (38, (.invokestatic 63, 41, 119, 2, 13, 0, 10, [1])),
  (41, (.ifCond .ne 7, 44, 48, 0, 0, 0, 0, [])),
  (44, (.iconst 1, 45, 0, 0, 0, 0, 0, [])),
  (45, (.goto 4, 48, 49, 0, 0, 0, 0, [])),
  (48, (.iconst 0, 49, 0, 0, 0, 0, 0, [])),
  (49, (.ireturn, 50, 0, 0, 0, 1, 0, []))]
def rn_m62 : rn_Mt := (yX5_leavesMap, cX5_leavesMap, 2, (some .boolean), false, 0, 0, 2, 42, rn_t62)
def rn_t63 : List (Nat × rn_E) := [(0, (.aload_n 0, 1, 0, 0, 0, 0, 0, [])),
  (1, (.getfield 37, 4, 5, 4, 111, 0, 6, [])),
  (4, (.iconst 0, 5, 0, 0, 0, 0, 0, [])),
  (5, (.bipush 59, 7, 0, 0, 0, 0, 0, [])),
  (7, (.invokestatic 46, 10, 118, 3, 9, 0, 10, [1])),
  (10, (.ifCond .eq 11, 13, 21, 0, 0, 0, 0, [])),
  (13, (.aload_n 0, 14, 0, 0, 0, 0, 0, [])),
  (14, (.iload_n 1, 15, 1, 0, 0, 0, 0, [])),
  (15, (.invokevirtual 67, 18, 62, 2, 615, 0, 6, [0])),
  (18, (.ifCond .eq 5, 21, 23, 0, 0, 0, 0, [])),
  (21, (.iconst 0, 22, 0, 0, 0, 0, 0, [])),
  (22, (.ireturn, 23, 0, 0, 0, 1, 0, [])),
  (23, (.aload_n 0, 24, 0, 0, 0, 0, 0, [])),
  (24, (.getfield 18, 27, 5, 7, 116, 2, 6, [])),
  (27, (.aload_n 0, 28, 0, 0, 0, 0, 0, [])),
  (28, (.getfield 37, 31, 5, 4, 111, 0, 6, [])),
  (31, (.iconst 1, 32, 0, 0, 0, 0, 0, [])),
  (32, (.iadd, 33, 0, 0, 0, 0, 0, [])),
  (33, (.aload_n 0, 34, 0, 0, 0, 0, 0, [])),
  (34, (.getfield 18, 37, 5, 7, 116, 2, 6, [])),
  (37, (.aload_n 0, 38, 0, 0, 0, 0, 0, [])),
  (38, (.getfield 37, 41, 5, 4, 111, 0, 6, [])),
  (41, (.iaload, 42, 0, 0, 0, 0, 0, [])),
  (42, (.getstatic 54, 45, 1, 1, 11, 0, 0, [])),
  (45, (.iload_n 1, 46, 1, 0, 0, 0, 0, [])),
  (46, (.iaload, 47, 0, 0, 0, 0, 0, [])),
  (47, (.iadd, 48, 0, 0, 0, 0, 0, [])),
  (48, (.iastore, 49, 0, 0, 0, 0, 0, [])),
  (49, (.aload_n 0, 50, 0, 0, 0, 0, 0, [])),
  (50, (.getfield 21, 53, 5, 8, 117, 2, 6, [])),
  (53, (.aload_n 0, 54, 0, 0, 0, 0, 0, [])),
  (54, (.getfield 37, 57, 5, 4, 111, 0, 6, [])),
  (57, (.iconst 1, 58, 0, 0, 0, 0, 0, [])),
  (58, (.iadd, 59, 0, 0, 0, 0, 0, [])),
  (59, (.aload_n 0, 60, 0, 0, 0, 0, 0, [])),
  (60, (.getfield 21, 63, 5, 8, 117, 2, 6, [])),
  (63, (.aload_n 0, 64, 0, 0, 0, 0, 0, [])),
  (64, (.getfield 37, 67, 5, 4, 111, 0, 6, [])),
  (67, (.iaload, 68, 0, 0, 0, 0, 0, [])),
  (68, (.getstatic 60, 71, 2, 1, 12, 0, 0, [])),
  (71, (.iload_n 1, 72, 1, 0, 0, 0, 0, [])),
  (72, (.iaload, 73, 0, 0, 0, 0, 0, [])),
  (73, (.iadd, 74, 0, 0, 0, 0, 0, [])),
  (74, (.iastore, 75, 0, 0, 0, 0, 0, [])),
  (75, (.aload_n 0, 76, 0, 0, 0, 0, 0, [])),
  (76, (.getfield 15, 79, 5, 6, 115, 2, 6, [])),
  (79, (.aload_n 0, 80, 0, 0, 0, 0, 0, [])),
  (80, (.getfield 37, 83, 5, 4, 111, 0, 6, [])),
  (83, (.iload_n 1, 84, 1, 0, 0, 0, 0, [])),
  (84, (.iastore, 85, 0, 0, 0, 0, 0, [])),
  (85, (.aload_n 0, 86, 0, 0, 0, 0, 0, [])),
  (86, (.dup, 87, 0, 0, 0, 0, 0, [])),
  (87, (.getfield 37, 90, 5, 4, 111, 0, 6, [])),
  (90, (.iconst 1, 91, 0, 0, 0, 0, 0, [])),
  (91, (.iadd, 92, 0, 0, 0, 0, 0, [])),
  (92, (.putfield 37, 95, 5, 4, 111, 0, 6, [])),
  (95, (.iconst 1, 96, 0, 0, 0, 0, 0, [])),
  (96, (.ireturn, 97, 0, 0, 0, 1, 0, []))]
def rn_m63 : rn_Mt := (yX5_lengthen, cX5_lengthen, 2, (some .boolean), false, 0, 0, 3, 63, rn_t63)
def rn_t64 : List (Nat × rn_E) := [(0, (.iload_n 1, 1, 1, 0, 0, 0, 0, [])),
  (1, (.ifCond .lt 15, 4, 16, 0, 0, 0, 0, [])),
  (4, (.iload_n 1, 5, 1, 0, 0, 0, 0, [])),
  (5, (.aload_n 0, 6, 0, 0, 0, 0, 0, [])),
  (6, (.getfield 37, 9, 5, 4, 111, 0, 6, [])),
  (9, (.if_icmp .gt 7, 12, 16, 0, 0, 0, 0, [])),
  (12, (.iconst 1, 13, 0, 0, 0, 0, 0, [])),
  (13, (.goto 4, 16, 17, 0, 0, 0, 0, [])),
  (16, (.iconst 0, 17, 0, 0, 0, 0, 0, [])),
  (17, (.ireturn, 18, 0, 0, 0, 1, 0, []))]
def rn_m64 : rn_Mt := (yX5_hasPlace, cX5_hasPlace, 2, (some .boolean), false, 0, 0, 0, 0, rn_t64)
def rn_t65 : List (Nat × rn_E) := [(0, (.aload_n 0, 1, 0, 0, 0, 0, 0, [])),
  (1, (.iload_n 1, 2, 1, 0, 0, 0, 0, [])),
  (2, (.invokevirtual 71, 5, 64, 2, 345, 0, 6, [0])),
  (5, (.ifCond .eq 12, 8, 17, 0, 0, 0, 0, [])),
  (8, (.aload_n 0, 9, 0, 0, 0, 0, 0, [])),
  (9, (.getfield 18, 12, 5, 7, 116, 2, 6, [])),
  (12, (.iload_n 1, 13, 1, 0, 0, 0, 0, [])),
  (13, (.iaload, 14, 0, 0, 0, 0, 0, [])),
  (14, (.goto 5, 17, 19, 0, 0, 0, 0, [])),
  (17, (.bipush (-9), 19, 0, 0, 0, 0, 0, [])),
  (19, (.ireturn, 20, 0, 0, 0, 0, 0, []))]
def rn_m65 : rn_Mt := (yX5_columnAt, cX5_columnAt, 2, (some .int), false, 0, 0, 1, 21, rn_t65)
def rn_t66 : List (Nat × rn_E) := [(0, (.aload_n 0, 1, 0, 0, 0, 0, 0, [])),
  (1, (.iload_n 1, 2, 1, 0, 0, 0, 0, [])),
  (2, (.invokevirtual 71, 5, 64, 2, 345, 0, 6, [0])),
  (5, (.ifCond .eq 12, 8, 17, 0, 0, 0, 0, [])),
  (8, (.aload_n 0, 9, 0, 0, 0, 0, 0, [])),
  (9, (.getfield 21, 12, 5, 8, 117, 2, 6, [])),
  (12, (.iload_n 1, 13, 1, 0, 0, 0, 0, [])),
  (13, (.iaload, 14, 0, 0, 0, 0, 0, [])),
  (14, (.goto 5, 17, 19, 0, 0, 0, 0, [])),
  (17, (.bipush (-9), 19, 0, 0, 0, 0, 0, [])),
  (19, (.ireturn, 20, 0, 0, 0, 0, 0, []))]
def rn_m66 : rn_Mt := (yX5_rowAt, cX5_rowAt, 2, (some .int), false, 0, 0, 1, 21, rn_t66)
def rn_t67 : List (Nat × rn_E) := [(0, (.iload_n 1, 1, 1, 0, 0, 0, 0, [])),
  (1, (.iconst 0, 2, 0, 0, 0, 0, 0, [])),
  (2, (.aload_n 0, 3, 0, 0, 0, 0, 0, [])),
  (3, (.getfield 34, 6, 5, 3, 108, 0, 6, [])),
  (6, (.iconst 1, 7, 0, 0, 0, 0, 0, [])),
  (7, (.isub, 8, 0, 0, 0, 0, 0, [])),
  (8, (.invokestatic 46, 11, 118, 3, 9, 0, 10, [1])),
  (11, (.ifCond .eq 12, 14, 23, 0, 0, 0, 0, [])),
  (14, (.aload_n 0, 15, 0, 0, 0, 0, 0, [])),
  (15, (.getfield 9, 18, 5, 5, 114, 2, 6, [])),
  (18, (.iload_n 1, 19, 1, 0, 0, 0, 0, [])),
  (19, (.iaload, 20, 0, 0, 0, 0, 0, [])),
  (20, (.goto 5, 23, 25, 0, 0, 0, 0, [])),
  (23, (.bipush (-9), 25, 0, 0, 0, 0, 0, [])),
  (25, (.ireturn, 26, 0, 0, 0, 0, 0, []))]
def rn_m67 : rn_Mt := (yX5_letterAt, cX5_letterAt, 2, (some .int), false, 0, 0, 1, 22, rn_t67)
def rn_t68 : List (Nat × rn_E) := [(0, (.aload_n 0, 1, 0, 0, 0, 0, 0, [])),
  (1, (.getfield 37, 4, 5, 4, 111, 0, 6, [])),
  (4, (.iconst 1, 5, 0, 0, 0, 0, 0, [])),
  (5, (.iadd, 6, 0, 0, 0, 0, 0, [])),
  (6, (.iload_n 1, 7, 1, 0, 0, 0, 0, [])),
  (7, (.isub, 8, 0, 0, 0, 0, 0, [])),
  (8, (.ireturn, 9, 0, 0, 0, 0, 0, []))]
def rn_m68 : rn_Mt := (yX5_lastStart, cX5_lastStart, 2, (some .int), false, 0, 0, 0, 0, rn_t68)
def rn_t69 : List (Nat × rn_E) := [(0, (.iload_n 1, 1, 1, 0, 0, 0, 0, [])),
  (1, (.ifCond .lt 13, 4, 14, 0, 0, 0, 0, [])),
  (4, (.iload_n 1, 5, 1, 0, 0, 0, 0, [])),
  (5, (.aload_n 0, 6, 0, 0, 0, 0, 0, [])),
  (6, (.getfield 37, 9, 5, 4, 111, 0, 6, [])),
  (9, (.iconst 1, 10, 0, 0, 0, 0, 0, [])),
  (10, (.isub, 11, 0, 0, 0, 0, 0, [])),
  (11, (.if_icmp .lt 5, 14, 16, 0, 0, 0, 0, [])),
  (14, (.iconst 0, 15, 0, 0, 0, 0, 0, [])),
  (15, (.ireturn, 16, 0, 0, 0, 0, 0, [])),
  (16, (.aload_n 0, 17, 0, 0, 0, 0, 0, [])),
  (17, (.getfield 15, 20, 5, 6, 115, 2, 6, [])),
  (20, (.iload_n 1, 21, 1, 0, 0, 0, 0, [])),
  (21, (.iaload, 22, 0, 0, 0, 0, 0, [])),
  (22, (.aload_n 0, 23, 0, 0, 0, 0, 0, [])),
  (23, (.getfield 15, 26, 5, 6, 115, 2, 6, [])),
  (26, (.iload_n 1, 27, 1, 0, 0, 0, 0, [])),
  (27, (.iconst 1, 28, 0, 0, 0, 0, 0, [])),
  (28, (.iadd, 29, 0, 0, 0, 0, 0, [])),
  (29, (.iaload, 30, 0, 0, 0, 0, 0, [])),
  (30, (.isub, 31, 0, 0, 0, 0, 0, [])),
  (31, (.invokestatic 74, 34, 204, 1, 305, 7, 0, [0])),
  (34, (.istore_n 2, 35, 2, 0, 0, 0, 0, [])),
  (35, (.iload_n 2, 36, 2, 0, 0, 0, 0, [])),
  (36, (.bipush 8, 38, 0, 0, 0, 0, 0, [])),
  (38, (.iload_n 2, 39, 2, 0, 0, 0, 0, [])),
  (39, (.isub, 40, 0, 0, 0, 0, 0, [])),
  (40, (.invokestatic 79, 43, 206, 2, 308, 6, 0, [0])),
  (43, (.ireturn, 44, 0, 0, 0, 0, 0, []))]
def rn_m69 : rn_Mt := (yX5_turnBehind, cX5_turnBehind, 3, (some .int), false, 0, 0, 1, 21, rn_t69)
def rn_t70 : List (Nat × rn_E) := [(0, (.iconst 0, 1, 0, 0, 0, 0, 0, [])),
  (1, (.istore_n 3, 2, 3, 0, 0, 0, 0, [])),
  (2, (.iload_n 1, 3, 1, 0, 0, 0, 0, [])),
  (3, (.istore 4, 5, 4, 0, 0, 0, 0, [])),
  (5, (.iload 4, 7, 4, 0, 0, 0, 0, [])),
  (7, (.iload_n 1, 8, 1, 0, 0, 0, 0, [])),
  (8, (.iload_n 2, 9, 2, 0, 0, 0, 0, [])),
  (9, (.iadd, 10, 0, 0, 0, 0, 0, [])),
  (10, (.iconst 2, 11, 0, 0, 0, 0, 0, [])),
  (11, (.isub, 12, 0, 0, 0, 0, 0, [])),
  (12, (.if_icmp .ge 18, 15, 30, 0, 0, 0, 0, [])),
  (15, (.iload_n 3, 16, 3, 0, 0, 0, 0, [])),
  (16, (.aload_n 0, 17, 0, 0, 0, 0, 0, [])),
  (17, (.iload 4, 19, 4, 0, 0, 0, 0, [])),
  (19, (.invokevirtual 83, 22, 69, 2, 301, 0, 6, [0])),
  (22, (.iadd, 23, 0, 0, 0, 0, 0, [])),
  (23, (.istore_n 3, 24, 3, 0, 0, 0, 0, [])),
  (24, (.iinc 4 1, 27, 4, 0, 0, 0, 0, [])),
  (27, (.goto (-22), 30, 5, 0, 0, 0, 0, [])),
  (30, (.iload_n 3, 31, 3, 0, 0, 0, 0, [])),
  (31, (.ireturn, 32, 0, 0, 0, 0, 0, []))]
def rn_m70 : rn_Mt := (yX5_bendOf, cX5_bendOf, 5, (some .int), false, 0, 0, 2, 43, rn_t70)
def rn_t71 : List (Nat × rn_E) := [(0, (.bipush (-9), 2, 0, 0, 0, 0, 0, [])),
  (2, (.istore_n 2, 3, 2, 0, 0, 0, 0, [])),
  (3, (.iconst 0, 4, 0, 0, 0, 0, 0, [])),
  (4, (.istore_n 3, 5, 3, 0, 0, 0, 0, [])),
  (5, (.iconst 0, 6, 0, 0, 0, 0, 0, [])),
  (6, (.istore 4, 8, 4, 0, 0, 0, 0, [])),
  (8, (.iload 4, 10, 4, 0, 0, 0, 0, [])),
  (10, (.aload_n 0, 11, 0, 0, 0, 0, 0, [])),
  (11, (.iload_n 1, 12, 1, 0, 0, 0, 0, [])),
  (12, (.invokevirtual 86, 15, 68, 2, 700, 0, 6, [0])),
  (15, (.if_icmp .gt 36, 18, 51, 0, 0, 0, 0, [])),
  (18, (.aload_n 0, 19, 0, 0, 0, 0, 0, [])),
  (19, (.iload 4, 21, 4, 0, 0, 0, 0, [])),
  (21, (.iload_n 1, 22, 1, 0, 0, 0, 0, [])),
  (22, (.invokevirtual 89, 25, 70, 3, 297, 0, 6, [0])),
  (25, (.istore 5, 27, 5, 0, 0, 0, 0, [])),
  (27, (.iload_n 2, 28, 2, 0, 0, 0, 0, [])),
  (28, (.bipush (-9), 30, 0, 0, 0, 0, 0, [])),
  (30, (.if_icmp .eq 9, 33, 39, 0, 0, 0, 0, [])),
  (33, (.iload 5, 35, 5, 0, 0, 0, 0, [])),
  (35, (.iload_n 3, 36, 3, 0, 0, 0, 0, [])),
  (36, (.if_icmp .ge 9, 39, 45, 0, 0, 0, 0, [])),
  (39, (.iload 4, 41, 4, 0, 0, 0, 0, [])),
  (41, (.istore_n 2, 42, 2, 0, 0, 0, 0, [])),
  (42, (.iload 5, 44, 5, 0, 0, 0, 0, [])),
  (44, (.istore_n 3, 45, 3, 0, 0, 0, 0, [])),
  (45, (.iinc 4 1, 48, 4, 0, 0, 0, 0, [])),
  (48, (.goto (-40), 51, 8, 0, 0, 0, 0, [])),
  (51, (.iload_n 2, 52, 2, 0, 0, 0, 0, [])),
  (52, (.ireturn, 53, 0, 0, 0, 0, 0, []))]
def rn_m71 : rn_Mt := (yX5_straightestStart, cX5_straightestStart, 6, (some .int), false, 0, 0, 3, 67, rn_t71)
def rn_t72 : List (Nat × rn_E) := [(0, (.bipush 10, 2, 0, 0, 0, 0, 0, [])),
  (2, (.aload_n 0, 3, 0, 0, 0, 0, 0, [])),
  (3, (.iload_n 1, 4, 1, 0, 0, 0, 0, [])),
  (4, (.aload_n 0, 5, 0, 0, 0, 0, 0, [])),
  (5, (.getfield 34, 8, 5, 3, 108, 0, 6, [])),
  (8, (.invokevirtual 89, 11, 70, 3, 297, 0, 6, [0])),
  (11, (.imul, 12, 0, 0, 0, 0, 0, [])),
  (12, (.iconst 2, 13, 0, 0, 0, 0, 0, [])),
  (13, (.iload_n 1, 14, 1, 0, 0, 0, 0, [])),
  (14, (.imul, 15, 0, 0, 0, 0, 0, [])),
  (15, (.aload_n 0, 16, 0, 0, 0, 0, 0, [])),
  (16, (.getfield 34, 19, 5, 3, 108, 0, 6, [])),
  (19, (.iadd, 20, 0, 0, 0, 0, 0, [])),
  (20, (.iconst 1, 21, 0, 0, 0, 0, 0, [])),
  (21, (.isub, 22, 0, 0, 0, 0, 0, [])),
  (22, (.aload_n 0, 23, 0, 0, 0, 0, 0, [])),
  (23, (.getfield 37, 26, 5, 4, 111, 0, 6, [])),
  (26, (.isub, 27, 0, 0, 0, 0, 0, [])),
  (27, (.invokestatic 74, 30, 204, 1, 305, 7, 0, [0])),
  (30, (.iadd, 31, 0, 0, 0, 0, 0, [])),
  (31, (.ireturn, 32, 0, 0, 0, 0, 0, []))]
def rn_m72 : rn_Mt := (yX5_costOf, cX5_costOf, 2, (some .int), false, 0, 0, 3, 67, rn_t72)
def rn_t73 : List (Nat × rn_E) := [(0, (.iload_n 1, 1, 1, 0, 0, 0, 0, [])),
  (1, (.aload_n 0, 2, 0, 0, 0, 0, 0, [])),
  (2, (.getfield 34, 5, 5, 3, 108, 0, 6, [])),
  (5, (.iadd, 6, 0, 0, 0, 0, 0, [])),
  (6, (.iconst 1, 7, 0, 0, 0, 0, 0, [])),
  (7, (.isub, 8, 0, 0, 0, 0, 0, [])),
  (8, (.istore_n 2, 9, 2, 0, 0, 0, 0, [])),
  (9, (.aload_n 0, 10, 0, 0, 0, 0, 0, [])),
  (10, (.iload_n 2, 11, 2, 0, 0, 0, 0, [])),
  (11, (.invokevirtual 50, 14, 65, 2, 437, 0, 6, [0])),
  (14, (.aload_n 0, 15, 0, 0, 0, 0, 0, [])),
  (15, (.iload_n 1, 16, 1, 0, 0, 0, 0, [])),
  (16, (.invokevirtual 50, 19, 65, 2, 437, 0, 6, [0])),
  (19, (.isub, 20, 0, 0, 0, 0, 0, [])),
  (20, (.istore_n 3, 21, 3, 0, 0, 0, 0, [])),
  (21, (.iload_n 3, 22, 3, 0, 0, 0, 0, [])),
  (22, (.ifCond .lt 20, 25, 42, 0, 0, 0, 0, [])),
  (25, (.iload_n 3, 26, 3, 0, 0, 0, 0, [])),
  (26, (.ifCond .ne 20, 29, 46, 0, 0, 0, 0, [])),
  (29, (.aload_n 0, 30, 0, 0, 0, 0, 0, [])),
  (30, (.iload_n 2, 31, 2, 0, 0, 0, 0, [])),
  (31, (.invokevirtual 57, 34, 66, 2, 438, 0, 6, [0])),
  (34, (.aload_n 0, 35, 0, 0, 0, 0, 0, [])),
  (35, (.iload_n 1, 36, 1, 0, 0, 0, 0, [])),
  (36, (.invokevirtual 57, 39, 66, 2, 438, 0, 6, [0])),
  (39, (.if_icmp .ge 7, 42, 46, 0, 0, 0, 0, [])),
  (42, (.iconst 1, 43, 0, 0, 0, 0, 0, [])),
  (43, (.goto 4, 46, 47, 0, 0, 0, 0, [])),
  (46, (.iconst 0, 47, 0, 0, 0, 0, 0, [])),
  (47, (.ireturn, 48, 0, 0, 0, 1, 0, []))]
def rn_m73 : rn_Mt := (yX5_turnsNameAt, cX5_turnsNameAt, 4, (some .boolean), false, 0, 0, 2, 42, rn_t73)
def rn_t74 : List (Nat × rn_E) := [(0, (.iload_n 1, 1, 1, 0, 0, 0, 0, [])),
  (1, (.ifCond .lt 47, 4, 48, 0, 0, 0, 0, [])),
  (4, (.iload_n 1, 5, 1, 0, 0, 0, 0, [])),
  (5, (.aload_n 0, 6, 0, 0, 0, 0, 0, [])),
  (6, (.getfield 37, 9, 5, 4, 111, 0, 6, [])),
  (9, (.if_icmp .gt 39, 12, 48, 0, 0, 0, 0, [])),
  (12, (.aload_n 0, 13, 0, 0, 0, 0, 0, [])),
  (13, (.getfield 18, 16, 5, 7, 116, 2, 6, [])),
  (16, (.iload_n 1, 17, 1, 0, 0, 0, 0, [])),
  (17, (.iaload, 18, 0, 0, 0, 0, 0, [])),
  (18, (.iload_n 2, 19, 2, 0, 0, 0, 0, [])),
  (19, (.isub, 20, 0, 0, 0, 0, 0, [])),
  (20, (.invokestatic 74, 23, 204, 1, 305, 7, 0, [0])),
  (23, (.iload 4, 25, 4, 0, 0, 0, 0, [])),
  (25, (.if_icmp .gt 23, 28, 48, 0, 0, 0, 0, [])),
  (28, (.aload_n 0, 29, 0, 0, 0, 0, 0, [])),
  (29, (.getfield 21, 32, 5, 8, 117, 2, 6, [])),
  (32, (.iload_n 1, 33, 1, 0, 0, 0, 0, [])),
  (33, (.iaload, 34, 0, 0, 0, 0, 0, [])),
  (34, (.iload_n 3, 35, 3, 0, 0, 0, 0, [])),
  (35, (.isub, 36, 0, 0, 0, 0, 0, [])),
  (36, (.invokestatic 74, 39, 204, 1, 305, 7, 0, [0])),
  (39, (.iload 4, 41, 4, 0, 0, 0, 0, [])),
  (41, (.if_icmp .gt 7, 44, 48, 0, 0, 0, 0, [])),
  (44, (.iconst 1, 45, 0, 0, 0, 0, 0, [])),
  (45, (.goto 4, 48, 49, 0, 0, 0, 0, [])),
  (48, (.iconst 0, 49, 0, 0, 0, 0, 0, [])),
  (49, (.ireturn, 50, 0, 0, 0, 1, 0, []))]
def rn_m74 : rn_Mt := (yX5_isNear, cX5_isNear, 5, (some .boolean), false, 0, 0, 1, 21, rn_t74)
def rn_t75 : List (Nat × rn_E) := [(0, (.iload_n 1, 1, 1, 0, 0, 0, 0, [])),
  (1, (.istore 5, 3, 5, 0, 0, 0, 0, [])),
  (3, (.iload 5, 5, 5, 0, 0, 0, 0, [])),
  (5, (.iload_n 1, 6, 1, 0, 0, 0, 0, [])),
  (6, (.aload_n 0, 7, 0, 0, 0, 0, 0, [])),
  (7, (.getfield 34, 10, 5, 3, 108, 0, 6, [])),
  (10, (.iadd, 11, 0, 0, 0, 0, 0, [])),
  (11, (.if_icmp .ge 24, 14, 35, 0, 0, 0, 0, [])),
  (14, (.aload_n 0, 15, 0, 0, 0, 0, 0, [])),
  (15, (.iload 5, 17, 5, 0, 0, 0, 0, [])),
  (17, (.iload_n 2, 18, 2, 0, 0, 0, 0, [])),
  (18, (.iload_n 3, 19, 3, 0, 0, 0, 0, [])),
  (19, (.iload 4, 21, 4, 0, 0, 0, 0, [])),
  (21, (.invokevirtual 92, 24, 74, 5, 366, 0, 6, [0])),
  (24, (.ifCond .eq 5, 27, 29, 0, 0, 0, 0, [])),
  (27, (.iconst 1, 28, 0, 0, 0, 0, 0, [])),
  (28, (.ireturn, 29, 0, 0, 0, 1, 0, [])),
  (29, (.iinc 5 1, 32, 5, 0, 0, 0, 0, [])),
  (32, (.goto (-29), 35, 3, 0, 0, 0, 0, [])),
  (35, (.iconst 0, 36, 0, 0, 0, 0, 0, [])),
  (36, (.ireturn, 37, 0, 0, 0, 1, 0, []))]
def rn_m75 : rn_Mt := (yX5_hasLetterNear, cX5_hasLetterNear, 6, (some .boolean), false, 0, 0, 2, 45, rn_t75)
def rn_t76 : List (Nat × rn_E) := [(0, (.iload_n 1, 1, 1, 0, 0, 0, 0, [])),
  (1, (.istore 4, 3, 4, 0, 0, 0, 0, [])),
  (3, (.iload 4, 5, 4, 0, 0, 0, 0, [])),
  (5, (.iload_n 1, 6, 1, 0, 0, 0, 0, [])),
  (6, (.aload_n 0, 7, 0, 0, 0, 0, 0, [])),
  (7, (.getfield 34, 10, 5, 3, 108, 0, 6, [])),
  (10, (.iadd, 11, 0, 0, 0, 0, 0, [])),
  (11, (.if_icmp .ge 54, 14, 65, 0, 0, 0, 0, [])),
  (14, (.aload_n 0, 15, 0, 0, 0, 0, 0, [])),
  (15, (.iload 4, 17, 4, 0, 0, 0, 0, [])),
  (17, (.iload_n 2, 18, 2, 0, 0, 0, 0, [])),
  (18, (.iload_n 3, 19, 3, 0, 0, 0, 0, [])),
  (19, (.iconst 0, 20, 0, 0, 0, 0, 0, [])),
  (20, (.invokevirtual 92, 23, 74, 5, 366, 0, 6, [0])),
  (23, (.ifCond .eq 36, 26, 59, 0, 0, 0, 0, [])),
  (26, (.iload 4, 28, 4, 0, 0, 0, 0, [])),
  (28, (.iload_n 1, 29, 1, 0, 0, 0, 0, [])),
  (29, (.isub, 30, 0, 0, 0, 0, 0, [])),
  (30, (.istore 5, 32, 5, 0, 0, 0, 0, [])),
  (32, (.aload_n 0, 33, 0, 0, 0, 0, 0, [])),
  (33, (.aload_n 0, 34, 0, 0, 0, 0, 0, [])),
  (34, (.iload_n 1, 35, 1, 0, 0, 0, 0, [])),
  (35, (.invokevirtual 96, 38, 73, 2, 685, 0, 6, [0])),
  (38, (.ifCond .eq 15, 41, 53, 0, 0, 0, 0, [])),
  (41, (.aload_n 0, 42, 0, 0, 0, 0, 0, [])),
  (42, (.getfield 34, 45, 5, 3, 108, 0, 6, [])),
  (45, (.iconst 1, 46, 0, 0, 0, 0, 0, [])),
  (46, (.isub, 47, 0, 0, 0, 0, 0, [])),
  (47, (.iload 5, 49, 5, 0, 0, 0, 0, [])),
  (49, (.isub, 50, 0, 0, 0, 0, 0, [])),
  (50, (.goto 5, 53, 55, 0, 0, 0, 0, [])),
  (53, (.iload 5, 55, 5, 0, 0, 0, 0, [])),
  (55, (.invokevirtual 99, 58, 67, 2, 686, 0, 6, [0])),
  (58, (.ireturn, 59, 0, 0, 0, 0, 0, [])),
  (59, (.iinc 4 1, 62, 4, 0, 0, 0, 0, [])),
  (62, (.goto (-59), 65, 3, 0, 0, 0, 0, [])),
  (65, (.bipush (-9), 67, 0, 0, 0, 0, 0, [])),
  (67, (.ireturn, 68, 0, 0, 0, 0, 0, []))]
def rn_m76 : rn_Mt := (yX5_letterOn, cX5_letterOn, 6, (some .int), false, 0, 0, 3, 65, rn_t76)
def rn_t77 : List (Nat × rn_E) := [(0, (.aload_n 1, 1, 1, 0, 0, 0, 0, [])),
  (1, (.invokevirtual 102, 4, 79, 1, 436, 0, 7, [0])),
  (4, (.iconst 0, 5, 0, 0, 0, 0, 0, [])),
  (5, (.istore_n 2, 6, 2, 0, 0, 0, 0, [])),
  (6, (.iload_n 2, 7, 2, 0, 0, 0, 0, [])),
  (7, (.aload_n 0, 8, 0, 0, 0, 0, 0, [])),
  (8, (.getfield 37, 11, 5, 4, 111, 0, 6, [])),
  (11, (.if_icmp .gt 24, 14, 35, 0, 0, 0, 0, [])),
  (14, (.aload_n 1, 15, 1, 0, 0, 0, 0, [])),
  (15, (.aload_n 0, 16, 0, 0, 0, 0, 0, [])),
  (16, (.iload_n 2, 17, 2, 0, 0, 0, 0, [])),
  (17, (.invokevirtual 50, 20, 65, 2, 437, 0, 6, [0])),
  (20, (.aload_n 0, 21, 0, 0, 0, 0, 0, [])),
  (21, (.iload_n 2, 22, 2, 0, 0, 0, 0, [])),
  (22, (.invokevirtual 57, 25, 66, 2, 438, 0, 6, [0])),
  (25, (.iconst 0, 26, 0, 0, 0, 0, 0, [])),
  (26, (.invokevirtual 107, 29, 80, 4, 439, 0, 7, [0])),
  (29, (.iinc 2 1, 32, 2, 0, 0, 0, 0, [])),
  (32, (.goto (-26), 35, 6, 0, 0, 0, 0, [])),
  (35, (.aload_n 1, 36, 1, 0, 0, 0, 0, [])),
  (36, (.getfield 111, 39, 6, 0, 245, 0, 7, [])),
  (39, (.ireturn, 40, 0, 0, 0, 0, 0, []))]
def rn_m77 : rn_Mt := (yX5_differentCells, cX5_differentCells, 3, (some .int), false, 0, 0, 3, 68, rn_t77)
def rn_t78 : List (Nat × rn_E) := [(0, (.aload_n 0, 1, 0, 0, 0, 0, 0, [])),
  (1, (.invokespecial 3, 4, 1000, 1, 241, 2, 0, [0])),
  (4, (.aload_n 0, 5, 0, 0, 0, 0, 0, [])),
  (5, (.sipush 2400, 8, 0, 0, 0, 0, 0, [])),
  (8, (.newarray .int, 10, 0, 0, 0, 0, 0, [])),
  (10, (.putfield 9, 13, 6, 1, 246, 2, 7, [])),
  (13, (.return_, 14, 0, 0, 0, 0, 0, []))]
def rn_m78 : rn_Mt := (yX6_init, cX6_init, 1, none, true, 1, 2400, 1, 20, rn_t78)
def rn_t79 : List (Nat × rn_E) := [(0, (.aload_n 0, 1, 0, 0, 0, 0, 0, [])),
  (1, (.getfield 9, 4, 6, 1, 246, 2, 7, [])),
  (4, (.iconst 0, 5, 0, 0, 0, 0, 0, [])),
  (5, (.invokestatic 15, 8, 213, 2, 393, 0, 0, [0])),
  (8, (.aload_n 0, 9, 0, 0, 0, 0, 0, [])),
  (9, (.iconst 0, 10, 0, 0, 0, 0, 0, [])),
  (10, (.putfield 21, 13, 6, 0, 242, 0, 7, [])),
  (13, (.return_, 14, 0, 0, 0, 0, 0, []))]
def rn_m79 : rn_Mt := (yX6_clear, cX6_clear, 1, none, false, 0, 0, 1, 23, rn_t79)
def rn_t80 : List (Nat × rn_E) := [(0, (.iload_n 2, 1, 2, 0, 0, 0, 0, [])),
  (1, (.iload_n 3, 2, 3, 0, 0, 0, 0, [])),
  (2, (.isub, 3, 0, 0, 0, 0, 0, [])),
  (3, (.istore 4, 5, 4, 0, 0, 0, 0, [])),
  (5, (.iload 4, 7, 4, 0, 0, 0, 0, [])),
  (7, (.iload_n 2, 8, 2, 0, 0, 0, 0, [])),
  (8, (.iload_n 3, 9, 3, 0, 0, 0, 0, [])),
  (9, (.iadd, 10, 0, 0, 0, 0, 0, [])),
  (10, (.if_icmp .gt 36, 13, 46, 0, 0, 0, 0, [])),
  (13, (.iload_n 1, 14, 1, 0, 0, 0, 0, [])),
  (14, (.iload_n 3, 15, 3, 0, 0, 0, 0, [])),
  (15, (.isub, 16, 0, 0, 0, 0, 0, [])),
  (16, (.istore 5, 18, 5, 0, 0, 0, 0, [])),
  (18, (.iload 5, 20, 5, 0, 0, 0, 0, [])),
  (20, (.iload_n 1, 21, 1, 0, 0, 0, 0, [])),
  (21, (.iload_n 3, 22, 3, 0, 0, 0, 0, [])),
  (22, (.iadd, 23, 0, 0, 0, 0, 0, [])),
  (23, (.if_icmp .gt 17, 26, 40, 0, 0, 0, 0, [])),
  (26, (.aload_n 0, 27, 0, 0, 0, 0, 0, [])),
  (27, (.iload 5, 29, 5, 0, 0, 0, 0, [])),
  (29, (.iload 4, 31, 4, 0, 0, 0, 0, [])),
  (31, (.invokevirtual 25, 34, 81, 3, 406, 0, 7, [0])),
  (34, (.iinc 5 1, 37, 5, 0, 0, 0, 0, [])),
  (37, (.goto (-19), 40, 18, 0, 0, 0, 0, [])),
  (40, (.iinc 4 1, 43, 4, 0, 0, 0, 0, [])),
  (43, (.goto (-38), 46, 5, 0, 0, 0, 0, [])),
  (46, (.return_, 47, 0, 0, 0, 0, 0, []))]
def rn_m80 : rn_Mt := (yX6_markAround, cX6_markAround, 6, none, false, 0, 0, 2, 43, rn_t80)
def rn_t81 : List (Nat × rn_E) := [(0, (.iload_n 1, 1, 1, 0, 0, 0, 0, [])),
  (1, (.iload_n 2, 2, 2, 0, 0, 0, 0, [])),
  (2, (.invokestatic 29, 5, 119, 2, 8, 0, 10, [1])),
  (5, (.ifCond .eq 39, 8, 44, 0, 0, 0, 0, [])),
  (8, (.aload_n 0, 9, 0, 0, 0, 0, 0, [])),
  (9, (.getfield 9, 12, 6, 1, 246, 2, 7, [])),
  (12, (.iload_n 2, 13, 2, 0, 0, 0, 0, [])),
  (13, (.bipush 60, 15, 0, 0, 0, 0, 0, [])),
  (15, (.imul, 16, 0, 0, 0, 0, 0, [])),
  (16, (.iload_n 1, 17, 1, 0, 0, 0, 0, [])),
  (17, (.iadd, 18, 0, 0, 0, 0, 0, [])),
  (18, (.iaload, 19, 0, 0, 0, 0, 0, [])),
  (19, (.ifCond .ne 25, 22, 44, 0, 0, 0, 0, [])),
  (22, (.aload_n 0, 23, 0, 0, 0, 0, 0, [])),
  (23, (.getfield 9, 26, 6, 1, 246, 2, 7, [])),
  (26, (.iload_n 2, 27, 2, 0, 0, 0, 0, [])),
  (27, (.bipush 60, 29, 0, 0, 0, 0, 0, [])),
  (29, (.imul, 30, 0, 0, 0, 0, 0, [])),
  (30, (.iload_n 1, 31, 1, 0, 0, 0, 0, [])),
  (31, (.iadd, 32, 0, 0, 0, 0, 0, [])),
  (32, (.iconst 1, 33, 0, 0, 0, 0, 0, [])),
  (33, (.iastore, 34, 0, 0, 0, 0, 0, [])),
  (34, (.aload_n 0, 35, 0, 0, 0, 0, 0, [])),
  (35, (.dup, 36, 0, 0, 0, 0, 0, [])),
  (36, (.getfield 21, 39, 6, 0, 242, 0, 7, [])),
  (39, (.iconst 1, 40, 0, 0, 0, 0, 0, [])),
  (40, (.iadd, 41, 0, 0, 0, 0, 0, [])),
  (41, (.putfield 21, 44, 6, 0, 242, 0, 7, [])),
  (44, (.return_, 45, 0, 0, 0, 0, 0, []))]
def rn_m81 : rn_Mt := (yX6_mark, cX6_mark, 3, none, false, 0, 0, 1, 21, rn_t81)
def rn_t82 : List (Nat × rn_E) := [(0, (.aload_n 0, 1, 0, 0, 0, 0, 0, [])),
  (1, (.invokespecial 3, 4, 1000, 1, 48, 2, 0, [0])),
  (4, (.aload_n 0, 5, 0, 0, 0, 0, 0, [])),
  (5, (.sipush 150, 8, 0, 0, 0, 0, 0, [])),
  (8, (.newarray .int, 10, 0, 0, 0, 0, 0, [])),
  (10, (.putfield 9, 13, 7, 1, 51, 2, 8, [])),
  (13, (.return_, 14, 0, 0, 0, 0, 0, []))]
def rn_m82 : rn_Mt := (yX7_init, cX7_init, 1, none, true, 1, 150, 1, 20, rn_t82)
def rn_t83 : List (Nat × rn_E) := [(0, (.aload_n 0, 1, 0, 0, 0, 0, 0, [])),
  (1, (.getfield 15, 4, 7, 0, 49, 0, 8, [])),
  (4, (.iconst 0, 5, 0, 0, 0, 0, 0, [])),
  (5, (.sipush 149, 8, 0, 0, 0, 0, 0, [])),
  (8, (.invokestatic 19, 11, 118, 3, 10, 0, 10, [1])),
  (11, (.ifCond .ne 5, 14, 16, 0, 0, 0, 0, [])),
  (14, (.iconst 0, 15, 0, 0, 0, 0, 0, [])),
  (15, (.ireturn, 16, 0, 0, 0, 1, 0, [])),
  (16, (.aload_n 0, 17, 0, 0, 0, 0, 0, [])),
  (17, (.getfield 9, 20, 7, 1, 51, 2, 8, [])),
  (20, (.aload_n 0, 21, 0, 0, 0, 0, 0, [])),
  (21, (.getfield 15, 24, 7, 0, 49, 0, 8, [])),
  (24, (.iload_n 1, 25, 1, 0, 0, 0, 0, [])),
  (25, (.iastore, 26, 0, 0, 0, 0, 0, [])),
  (26, (.aload_n 0, 27, 0, 0, 0, 0, 0, [])),
  (27, (.dup, 28, 0, 0, 0, 0, 0, [])),
  (28, (.getfield 15, 31, 7, 0, 49, 0, 8, [])),
  (31, (.iconst 1, 32, 0, 0, 0, 0, 0, [])),
  (32, (.iadd, 33, 0, 0, 0, 0, 0, [])),
  (33, (.putfield 15, 36, 7, 0, 49, 0, 8, [])),
  (36, (.iconst 1, 37, 0, 0, 0, 0, 0, [])),
  (37, (.ireturn, 38, 0, 0, 0, 1, 0, []))]
def rn_m83 : rn_Mt := (yX7_write, cX7_write, 2, (some .boolean), false, 0, 0, 1, 22, rn_t83)
def rn_t84 : List (Nat × rn_E) := []
def rn_m84 : rn_Mt := (yL_law, cL_law, 12, (some .boolean), false, 0, 0, 0, 0, rn_t84)
def rn_t85 : List (Nat × rn_E) := []
def rn_m85 : rn_Mt := (yL_law, cL_law, 12, (some .boolean), false, 0, 0, 0, 0, rn_t85)
def rn_t86 : List (Nat × rn_E) := [(0, (.aload_n 0, 1, 0, 0, 0, 0, 0, [])),
  (1, (.invokespecial 1, 4, 1000, 1, 141, 2, 0, [0])),
  (4, (.return_, 5, 0, 0, 0, 0, 0, []))]
def rn_m86 : rn_Mt := (yX8_init, cX8_init, 1, none, false, 0, 0, 1, 20, rn_t86)
def rn_t87 : List (Nat × rn_E) := [(0, (.aload_n 0, 1, 0, 0, 0, 0, 0, [])),
  (1, (.iload_n 1, 2, 1, 0, 0, 0, 0, [])),
  (2, (.putfield 7, 5, 8, 0, 142, 0, 9, [])),
  (5, (.aload_n 0, 6, 0, 0, 0, 0, 0, [])),
  (6, (.iload_n 2, 7, 2, 0, 0, 0, 0, [])),
  (7, (.putfield 13, 10, 8, 1, 144, 0, 9, [])),
  (10, (.aload_n 0, 11, 0, 0, 0, 0, 0, [])),
  (11, (.iload_n 3, 12, 3, 0, 0, 0, 0, [])),
  (12, (.putfield 16, 15, 8, 2, 146, 0, 9, [])),
  (15, (.aload_n 0, 16, 0, 0, 0, 0, 0, [])),
  (16, (.iload 4, 18, 4, 0, 0, 0, 0, [])),
  (18, (.putfield 19, 21, 8, 3, 148, 0, 9, [])),
  (21, (.aload_n 0, 22, 0, 0, 0, 0, 0, [])),
  (22, (.iload 5, 24, 5, 0, 0, 0, 0, [])),
  (24, (.putfield 22, 27, 8, 4, 150, 0, 9, [])),
  (27, (.return_, 28, 0, 0, 0, 0, 0, []))]
def rn_m87 : rn_Mt := (yX8_build, cX8_build, 6, none, false, 0, 0, 0, 0, rn_t87)
def rn_t88 : List (Nat × rn_E) := [(0, (.aload_n 0, 1, 0, 0, 0, 0, 0, [])),
  (1, (.aload_n 1, 2, 1, 0, 0, 0, 0, [])),
  (2, (.getfield 7, 5, 8, 0, 142, 0, 9, [])),
  (5, (.aload_n 1, 6, 1, 0, 0, 0, 0, [])),
  (6, (.getfield 13, 9, 8, 1, 144, 0, 9, [])),
  (9, (.aload_n 1, 10, 1, 0, 0, 0, 0, [])),
  (10, (.getfield 16, 13, 8, 2, 146, 0, 9, [])),
  (13, (.aload_n 1, 14, 1, 0, 0, 0, 0, [])),
  (14, (.getfield 19, 17, 8, 3, 148, 0, 9, [])),
  (17, (.aload_n 1, 18, 1, 0, 0, 0, 0, [])),
  (18, (.getfield 22, 21, 8, 4, 150, 0, 9, [])),
  (21, (.invokevirtual 25, 24, 87, 6, 559, 0, 9, [0])),
  (24, (.return_, 25, 0, 0, 0, 0, 0, []))]
def rn_m88 : rn_Mt := (yX8_copyFrom, cX8_copyFrom, 2, none, false, 0, 0, 1, 25, rn_t88)
def rn_t89 : List (Nat × rn_E) := [(0, (.iload_n 1, 1, 1, 0, 0, 0, 0, [])),
  (1, (.aload_n 0, 2, 0, 0, 0, 0, 0, [])),
  (2, (.getfield 7, 5, 8, 0, 142, 0, 9, [])),
  (5, (.iload_n 3, 6, 3, 0, 0, 0, 0, [])),
  (6, (.isub, 7, 0, 0, 0, 0, 0, [])),
  (7, (.aload_n 0, 8, 0, 0, 0, 0, 0, [])),
  (8, (.getfield 7, 11, 8, 0, 142, 0, 9, [])),
  (11, (.aload_n 0, 12, 0, 0, 0, 0, 0, [])),
  (12, (.getfield 16, 15, 8, 2, 146, 0, 9, [])),
  (15, (.iadd, 16, 0, 0, 0, 0, 0, [])),
  (16, (.iconst 1, 17, 0, 0, 0, 0, 0, [])),
  (17, (.isub, 18, 0, 0, 0, 0, 0, [])),
  (18, (.iload_n 3, 19, 3, 0, 0, 0, 0, [])),
  (19, (.iadd, 20, 0, 0, 0, 0, 0, [])),
  (20, (.invokestatic 29, 23, 118, 3, 7, 0, 10, [1])),
  (23, (.ifCond .eq 33, 26, 56, 0, 0, 0, 0, [])),
  (26, (.iload_n 2, 27, 2, 0, 0, 0, 0, [])),
  (27, (.aload_n 0, 28, 0, 0, 0, 0, 0, [])),
  (28, (.getfield 13, 31, 8, 1, 144, 0, 9, [])),
  (31, (.iload_n 3, 32, 3, 0, 0, 0, 0, [])),
  (32, (.isub, 33, 0, 0, 0, 0, 0, [])),
  (33, (.aload_n 0, 34, 0, 0, 0, 0, 0, [])),
  (34, (.getfield 13, 37, 8, 1, 144, 0, 9, [])),
  (37, (.aload_n 0, 38, 0, 0, 0, 0, 0, [])),
  (38, (.getfield 19, 41, 8, 3, 148, 0, 9, [])),
  (41, (.iadd, 42, 0, 0, 0, 0, 0, [])),
  (42, (.iconst 1, 43, 0, 0, 0, 0, 0, [])),
  (43, (.isub, 44, 0, 0, 0, 0, 0, [])),
  (44, (.iload_n 3, 45, 3, 0, 0, 0, 0, [])),
  (45, (.iadd, 46, 0, 0, 0, 0, 0, [])),
  (46, (.invokestatic 29, 49, 118, 3, 7, 0, 10, [1])),
  (49, (.ifCond .eq 7, 52, 56, 0, 0, 0, 0, [])),
  (52, (.iconst 1, 53, 0, 0, 0, 0, 0, [])),
  (53, (.goto 4, 56, 57, 0, 0, 0, 0, [])),
  (56, (.iconst 0, 57, 0, 0, 0, 0, 0, [])),
  (57, (.ireturn, 58, 0, 0, 0, 1, 0, []))]
def rn_m89 : rn_Mt := (yX8_isNear, cX8_isNear, 4, (some .boolean), false, 0, 0, 1, 22, rn_t89)
def rn_t90 : List (Nat × rn_E) := [(0, (.aload_n 0, 1, 0, 0, 0, 0, 0, [])),
  (1, (.invokespecial 3, 4, 1000, 1, 34, 2, 0, [0])),
  (4, (.aload_n 0, 5, 0, 0, 0, 0, 0, [])),
  (5, (.new 9, 8, 4, 0, 37, 0, 0, [])),
  (8, (.dup, 9, 0, 0, 0, 0, 0, [])),
  (9, (.invokespecial 11, 12, 45, 1, 0, 4, 5, [1])),
  (12, (.putfield 12, 15, 9, 0, 252, 2, 10, [])),
  (15, (.aload_n 0, 16, 0, 0, 0, 0, 0, [])),
  (16, (.new 16, 19, 1, 0, 71, 0, 0, [])),
  (19, (.dup, 20, 0, 0, 0, 0, 0, [])),
  (20, (.invokespecial 18, 23, 19, 1, 73, 4, 2, [0])),
  (23, (.putfield 19, 26, 9, 1, 253, 2, 10, [])),
  (26, (.aload_n 0, 27, 0, 0, 0, 0, 0, [])),
  (27, (.new 23, 30, 2, 0, 226, 0, 0, [])),
  (30, (.dup, 31, 0, 0, 0, 0, 0, [])),
  (31, (.invokespecial 25, 34, 25, 1, 3, 4, 3, [1])),
  (34, (.putfield 26, 37, 9, 2, 254, 2, 10, [])),
  (37, (.aload_n 0, 38, 0, 0, 0, 0, 0, [])),
  (38, (.new 30, 41, 6, 0, 236, 0, 0, [])),
  (41, (.dup, 42, 0, 0, 0, 0, 0, [])),
  (42, (.invokespecial 32, 45, 78, 1, 4, 4, 7, [1])),
  (45, (.putfield 33, 48, 9, 3, 255, 2, 10, [])),
  (48, (.return_, 49, 0, 0, 0, 0, 0, []))]
def rn_m90 : rn_Mt := (yX9_init, cX9_init, 1, none, true, 600, 50000, 4, 83, rn_t90)
def rn_t91 : List (Nat × rn_E) := [(0, (.iload_n 1, 1, 1, 0, 0, 0, 0, [])),
  (1, (.iconst 1, 2, 0, 0, 0, 0, 0, [])),
  (2, (.sipush 255, 5, 0, 0, 0, 0, 0, [])),
  (5, (.invokestatic 37, 8, 118, 3, 457, 0, 10, [0])),
  (8, (.ifCond .ne 5, 11, 13, 0, 0, 0, 0, [])),
  (11, (.iconst (-1), 12, 0, 0, 0, 0, 0, [])),
  (12, (.ireturn, 13, 0, 0, 0, 0, 0, [])),
  (13, (.aload_n 0, 14, 0, 0, 0, 0, 0, [])),
  (14, (.getfield 12, 17, 9, 0, 252, 2, 10, [])),
  (17, (.getfield 41, 20, 4, 0, 59, 2, 5, [])),
  (20, (.iload_n 1, 21, 1, 0, 0, 0, 0, [])),
  (21, (.invokevirtual 45, 24, 83, 2, 504, 0, 8, [0])),
  (24, (.ifCond .eq 16, 27, 40, 0, 0, 0, 0, [])),
  (27, (.aload_n 0, 28, 0, 0, 0, 0, 0, [])),
  (28, (.getfield 12, 31, 9, 0, 252, 2, 10, [])),
  (31, (.getfield 41, 34, 4, 0, 59, 2, 5, [])),
  (34, (.getfield 51, 37, 7, 0, 50, 0, 8, [])),
  (37, (.goto 5, 40, 42, 0, 0, 0, 0, [])),
  (40, (.bipush (-3), 42, 0, 0, 0, 0, 0, [])),
  (42, (.ireturn, 43, 0, 0, 0, 0, 0, []))]
def rn_m91 : rn_Mt := (yX9_append, cX9_append, 2, (some .int), false, 0, 0, 2, 43, rn_t91)
def rn_t92 : List (Nat × rn_E) := []
def rn_m92 : rn_Mt := (yL_law, cL_law, 12, (some .boolean), false, 0, 0, 0, 0, rn_t92)
def rn_t93 : List (Nat × rn_E) := []
def rn_m93 : rn_Mt := (yL_law, cL_law, 12, (some .boolean), false, 0, 0, 0, 0, rn_t93)
def rn_t94 : List (Nat × rn_E) := [(0, (.iload_n 1, 1, 1, 0, 0, 0, 0, [])),
  (1, (.iconst 1, 2, 0, 0, 0, 0, 0, [])),
  (2, (.bipush 12, 4, 0, 0, 0, 0, 0, [])),
  (4, (.invokestatic 37, 7, 118, 3, 457, 0, 10, [0])),
  (7, (.ifCond .eq 27, 10, 34, 0, 0, 0, 0, [])),
  (10, (.iload_n 2, 11, 2, 0, 0, 0, 0, [])),
  (11, (.iload_n 3, 12, 3, 0, 0, 0, 0, [])),
  (12, (.invokestatic 70, 15, 119, 2, 513, 0, 10, [0])),
  (15, (.ifCond .eq 19, 18, 34, 0, 0, 0, 0, [])),
  (18, (.iload 4, 20, 4, 0, 0, 0, 0, [])),
  (20, (.invokestatic 74, 23, 120, 1, 514, 0, 10, [0])),
  (23, (.ifCond .eq 11, 26, 34, 0, 0, 0, 0, [])),
  (26, (.iload 5, 28, 5, 0, 0, 0, 0, [])),
  (28, (.invokestatic 77, 31, 121, 1, 517, 0, 10, [0])),
  (31, (.ifCond .ne 5, 34, 36, 0, 0, 0, 0, [])),
  (34, (.iconst (-1), 35, 0, 0, 0, 0, 0, [])),
  (35, (.ireturn, 36, 0, 0, 0, 0, 0, [])),
  (36, (.aload_n 0, 37, 0, 0, 0, 0, 0, [])),
  (37, (.getfield 19, 40, 9, 1, 253, 2, 10, [])),
  (40, (.invokevirtual 59, 43, 21, 1, 520, 0, 2, [0])),
  (43, (.invokevirtual 80, 46, 8, 1, 575, 0, 1, [0])),
  (46, (.astore 6, 48, 6, 0, 0, 0, 0, [])),
  (48, (.aload 6, 50, 6, 0, 0, 0, 0, [])),
  (50, (.ifnonnull 6, 53, 56, 0, 0, 0, 0, [])),
  (53, (.bipush (-3), 55, 0, 0, 0, 0, 0, [])),
  (55, (.ireturn, 56, 0, 0, 0, 0, 0, [])),
  (56, (.iconst 0, 57, 0, 0, 0, 0, 0, [])),
  (57, (.istore 7, 59, 7, 0, 0, 0, 0, [])),
  (59, (.iload 7, 61, 7, 0, 0, 0, 0, [])),
  (61, (.iload_n 1, 62, 1, 0, 0, 0, 0, [])),
  (62, (.if_icmp .ge 19, 65, 81, 0, 0, 0, 0, [])),
  (65, (.aload 6, 67, 6, 0, 0, 0, 0, [])),
  (67, (.bipush 97, 69, 0, 0, 0, 0, 0, [])),
  (69, (.iload 7, 71, 7, 0, 0, 0, 0, [])),
  (71, (.iadd, 72, 0, 0, 0, 0, 0, [])),
  (72, (.invokevirtual 86, 75, 60, 2, 576, 0, 6, [0])),
  (75, (.iinc 7 1, 78, 7, 0, 0, 0, 0, [])),
  (78, (.goto (-19), 81, 59, 0, 0, 0, 0, [])),
  (81, (.aload 6, 83, 6, 0, 0, 0, 0, [])),
  (83, (.iload_n 2, 84, 2, 0, 0, 0, 0, [])),
  (84, (.iload_n 3, 85, 3, 0, 0, 0, 0, [])),
  (85, (.iload 4, 87, 4, 0, 0, 0, 0, [])),
  (87, (.iload 5, 89, 5, 0, 0, 0, 0, [])),
  (89, (.invokevirtual 92, 92, 61, 5, 580, 0, 6, [0])),
  (92, (.aload_n 0, 93, 0, 0, 0, 0, 0, [])),
  (93, (.getfield 19, 96, 9, 1, 253, 2, 10, [])),
  (96, (.invokevirtual 67, 99, 22, 1, 584, 0, 2, [0])),
  (99, (.aload 6, 101, 6, 0, 0, 0, 0, [])),
  (101, (.getfield 96, 104, 5, 0, 98, 0, 6, [])),
  (104, (.ireturn, 105, 0, 0, 0, 0, 0, []))]
def rn_m94 : rn_Mt := (yX9_addRiver, cX9_addRiver, 8, (some .int), false, 0, 0, 5, 123, rn_t94)
def rn_t95 : List (Nat × rn_E) := [(0, (.iload_n 1, 1, 1, 0, 0, 0, 0, [])),
  (1, (.iload_n 2, 2, 2, 0, 0, 0, 0, [])),
  (2, (.invokestatic 70, 5, 119, 2, 513, 0, 10, [0])),
  (5, (.ifCond .eq 48, 8, 53, 0, 0, 0, 0, [])),
  (8, (.iload_n 3, 9, 3, 0, 0, 0, 0, [])),
  (9, (.iconst 1, 10, 0, 0, 0, 0, 0, [])),
  (10, (.bipush 12, 12, 0, 0, 0, 0, 0, [])),
  (12, (.invokestatic 37, 15, 118, 3, 457, 0, 10, [0])),
  (15, (.ifCond .eq 38, 18, 53, 0, 0, 0, 0, [])),
  (18, (.iload 4, 20, 4, 0, 0, 0, 0, [])),
  (20, (.iconst 1, 21, 0, 0, 0, 0, 0, [])),
  (21, (.iconst 3, 22, 0, 0, 0, 0, 0, [])),
  (22, (.invokestatic 37, 25, 118, 3, 457, 0, 10, [0])),
  (25, (.ifCond .eq 28, 28, 53, 0, 0, 0, 0, [])),
  (28, (.iload 5, 30, 5, 0, 0, 0, 0, [])),
  (30, (.invokestatic 74, 33, 120, 1, 514, 0, 10, [0])),
  (33, (.ifCond .eq 20, 36, 53, 0, 0, 0, 0, [])),
  (36, (.iload_n 1, 37, 1, 0, 0, 0, 0, [])),
  (37, (.iload_n 3, 38, 3, 0, 0, 0, 0, [])),
  (38, (.iadd, 39, 0, 0, 0, 0, 0, [])),
  (39, (.iconst 1, 40, 0, 0, 0, 0, 0, [])),
  (40, (.isub, 41, 0, 0, 0, 0, 0, [])),
  (41, (.iload_n 2, 42, 2, 0, 0, 0, 0, [])),
  (42, (.iload 4, 44, 4, 0, 0, 0, 0, [])),
  (44, (.iadd, 45, 0, 0, 0, 0, 0, [])),
  (45, (.iconst 1, 46, 0, 0, 0, 0, 0, [])),
  (46, (.isub, 47, 0, 0, 0, 0, 0, [])),
  (47, (.invokestatic 70, 50, 119, 2, 513, 0, 10, [0])),
  (50, (.ifCond .ne 5, 53, 55, 0, 0, 0, 0, [])),
  (53, (.iconst (-1), 54, 0, 0, 0, 0, 0, [])),
  (54, (.ireturn, 55, 0, 0, 0, 0, 0, [])),
  (55, (.aload_n 0, 56, 0, 0, 0, 0, 0, [])),
  (56, (.getfield 19, 59, 9, 1, 253, 2, 10, [])),
  (59, (.invokevirtual 59, 62, 21, 1, 520, 0, 2, [0])),
  (62, (.astore 6, 64, 6, 0, 0, 0, 0, [])),
  (64, (.aload 6, 66, 6, 0, 0, 0, 0, [])),
  (66, (.invokevirtual 99, 69, 9, 1, 596, 0, 1, [0])),
  (69, (.astore 7, 71, 7, 0, 0, 0, 0, [])),
  (71, (.aload 7, 73, 7, 0, 0, 0, 0, [])),
  (73, (.ifnonnull 6, 76, 79, 0, 0, 0, 0, [])),
  (76, (.bipush (-3), 78, 0, 0, 0, 0, 0, [])),
  (78, (.ireturn, 79, 0, 0, 0, 0, 0, [])),
  (79, (.aload 7, 81, 7, 0, 0, 0, 0, [])),
  (81, (.iload_n 1, 82, 1, 0, 0, 0, 0, [])),
  (82, (.iload_n 2, 83, 2, 0, 0, 0, 0, [])),
  (83, (.iload_n 3, 84, 3, 0, 0, 0, 0, [])),
  (84, (.iload 4, 86, 4, 0, 0, 0, 0, [])),
  (86, (.iload 5, 88, 5, 0, 0, 0, 0, [])),
  (88, (.invokevirtual 103, 91, 87, 6, 597, 0, 9, [0])),
  (91, (.aload_n 0, 92, 0, 0, 0, 0, 0, [])),
  (92, (.getfield 19, 95, 9, 1, 253, 2, 10, [])),
  (95, (.invokevirtual 67, 98, 22, 1, 584, 0, 2, [0])),
  (98, (.aload 6, 100, 6, 0, 0, 0, 0, [])),
  (100, (.getfield 109, 103, 0, 1, 187, 0, 1, [])),
  (103, (.iconst 1, 104, 0, 0, 0, 0, 0, [])),
  (104, (.isub, 105, 0, 0, 0, 0, 0, [])),
  (105, (.ireturn, 106, 0, 0, 0, 0, 0, []))]
def rn_m95 : rn_Mt := (yX9_addTown, cX9_addTown, 8, (some .int), false, 0, 0, 5, 123, rn_t95)
def rn_t96 : List (Nat × rn_E) := [(0, (.aload_n 0, 1, 0, 0, 0, 0, 0, [])),
  (1, (.getfield 19, 4, 9, 1, 253, 2, 10, [])),
  (4, (.invokevirtual 59, 7, 21, 1, 520, 0, 2, [0])),
  (7, (.iload_n 1, 8, 1, 0, 0, 0, 0, [])),
  (8, (.invokevirtual 112, 11, 5, 2, 430, 0, 1, [0])),
  (11, (.astore_n 3, 12, 3, 0, 0, 0, 0, [])),
  (12, (.aload_n 3, 13, 3, 0, 0, 0, 0, [])),
  (13, (.ifnull 13, 16, 26, 0, 0, 0, 0, [])),
  (16, (.iload_n 2, 17, 2, 0, 0, 0, 0, [])),
  (17, (.iconst 0, 18, 0, 0, 0, 0, 0, [])),
  (18, (.bipush 7, 20, 0, 0, 0, 0, 0, [])),
  (20, (.invokestatic 37, 23, 118, 3, 457, 0, 10, [0])),
  (23, (.ifCond .ne 5, 26, 28, 0, 0, 0, 0, [])),
  (26, (.iconst (-1), 27, 0, 0, 0, 0, 0, [])),
  (27, (.ireturn, 28, 0, 0, 0, 0, 0, [])),
  (28, (.aload_n 3, 29, 3, 0, 0, 0, 0, [])),
  (29, (.iload_n 2, 30, 2, 0, 0, 0, 0, [])),
  (30, (.invokevirtual 116, 33, 62, 2, 602, 0, 6, [0])),
  (33, (.ifCond .eq 6, 36, 39, 0, 0, 0, 0, [])),
  (36, (.bipush (-2), 38, 0, 0, 0, 0, 0, [])),
  (38, (.ireturn, 39, 0, 0, 0, 0, 0, [])),
  (39, (.aload_n 3, 40, 3, 0, 0, 0, 0, [])),
  (40, (.iload_n 2, 41, 2, 0, 0, 0, 0, [])),
  (41, (.invokevirtual 119, 44, 63, 2, 611, 0, 6, [0])),
  (44, (.ifCond .ne 6, 47, 50, 0, 0, 0, 0, [])),
  (47, (.bipush (-3), 49, 0, 0, 0, 0, 0, [])),
  (49, (.ireturn, 50, 0, 0, 0, 0, 0, [])),
  (50, (.aload_n 0, 51, 0, 0, 0, 0, 0, [])),
  (51, (.getfield 19, 54, 9, 1, 253, 2, 10, [])),
  (54, (.invokevirtual 67, 57, 22, 1, 584, 0, 2, [0])),
  (57, (.aload_n 3, 58, 3, 0, 0, 0, 0, [])),
  (58, (.getfield 122, 61, 5, 4, 113, 0, 6, [])),
  (61, (.ireturn, 62, 0, 0, 0, 0, 0, []))]
def rn_m96 : rn_Mt := (yX9_flow, cX9_flow, 4, (some .int), false, 0, 0, 5, 123, rn_t96)
def rn_t97 : List (Nat × rn_E) := [(0, (.aload_n 0, 1, 0, 0, 0, 0, 0, [])),
  (1, (.getfield 19, 4, 9, 1, 253, 2, 10, [])),
  (4, (.invokevirtual 59, 7, 21, 1, 520, 0, 2, [0])),
  (7, (.iload_n 1, 8, 1, 0, 0, 0, 0, [])),
  (8, (.invokevirtual 112, 11, 5, 2, 430, 0, 1, [0])),
  (11, (.astore_n 3, 12, 3, 0, 0, 0, 0, [])),
  (12, (.aload_n 3, 13, 3, 0, 0, 0, 0, [])),
  (13, (.ifnull 10, 16, 23, 0, 0, 0, 0, [])),
  (16, (.iload_n 2, 17, 2, 0, 0, 0, 0, [])),
  (17, (.invokestatic 74, 20, 120, 1, 514, 0, 10, [0])),
  (20, (.ifCond .ne 5, 23, 25, 0, 0, 0, 0, [])),
  (23, (.iconst (-1), 24, 0, 0, 0, 0, 0, [])),
  (24, (.ireturn, 25, 0, 0, 0, 0, 0, [])),
  (25, (.aload_n 3, 26, 3, 0, 0, 0, 0, [])),
  (26, (.getfield 125, 29, 5, 1, 101, 0, 6, [])),
  (29, (.istore 4, 31, 4, 0, 0, 0, 0, [])),
  (31, (.aload_n 3, 32, 3, 0, 0, 0, 0, [])),
  (32, (.iload_n 2, 33, 2, 0, 0, 0, 0, [])),
  (33, (.putfield 125, 36, 5, 1, 101, 0, 6, [])),
  (36, (.aload_n 0, 37, 0, 0, 0, 0, 0, [])),
  (37, (.getfield 19, 40, 9, 1, 253, 2, 10, [])),
  (40, (.invokevirtual 67, 43, 22, 1, 584, 0, 2, [0])),
  (43, (.iload 4, 45, 4, 0, 0, 0, 0, [])),
  (45, (.ireturn, 46, 0, 0, 0, 0, 0, []))]
def rn_m97 : rn_Mt := (yX9_setRank, cX9_setRank, 5, (some .int), false, 0, 0, 5, 123, rn_t97)
def rn_t98 : List (Nat × rn_E) := [(0, (.aload_n 0, 1, 0, 0, 0, 0, 0, [])),
  (1, (.getfield 19, 4, 9, 1, 253, 2, 10, [])),
  (4, (.invokevirtual 59, 7, 21, 1, 520, 0, 2, [0])),
  (7, (.iload_n 1, 8, 1, 0, 0, 0, 0, [])),
  (8, (.invokevirtual 112, 11, 5, 2, 430, 0, 1, [0])),
  (11, (.astore_n 3, 12, 3, 0, 0, 0, 0, [])),
  (12, (.aload_n 3, 13, 3, 0, 0, 0, 0, [])),
  (13, (.ifnull 10, 16, 23, 0, 0, 0, 0, [])),
  (16, (.iload_n 2, 17, 2, 0, 0, 0, 0, [])),
  (17, (.invokestatic 77, 20, 121, 1, 517, 0, 10, [0])),
  (20, (.ifCond .ne 5, 23, 25, 0, 0, 0, 0, [])),
  (23, (.iconst (-1), 24, 0, 0, 0, 0, 0, [])),
  (24, (.ireturn, 25, 0, 0, 0, 0, 0, [])),
  (25, (.aload_n 3, 26, 3, 0, 0, 0, 0, [])),
  (26, (.getfield 128, 29, 5, 2, 106, 0, 6, [])),
  (29, (.istore 4, 31, 4, 0, 0, 0, 0, [])),
  (31, (.aload_n 3, 32, 3, 0, 0, 0, 0, [])),
  (32, (.iload_n 2, 33, 2, 0, 0, 0, 0, [])),
  (33, (.putfield 128, 36, 5, 2, 106, 0, 6, [])),
  (36, (.aload_n 0, 37, 0, 0, 0, 0, 0, [])),
  (37, (.getfield 19, 40, 9, 1, 253, 2, 10, [])),
  (40, (.invokevirtual 67, 43, 22, 1, 584, 0, 2, [0])),
  (43, (.iload 4, 45, 4, 0, 0, 0, 0, [])),
  (45, (.ireturn, 46, 0, 0, 0, 0, 0, []))]
def rn_m98 : rn_Mt := (yX9_setHalo, cX9_setHalo, 5, (some .int), false, 0, 0, 5, 123, rn_t98)
def rn_t99 : List (Nat × rn_E) := [(0, (.aload_n 0, 1, 0, 0, 0, 0, 0, [])),
  (1, (.getfield 19, 4, 9, 1, 253, 2, 10, [])),
  (4, (.invokevirtual 59, 7, 21, 1, 520, 0, 2, [0])),
  (7, (.iload_n 1, 8, 1, 0, 0, 0, 0, [])),
  (8, (.invokevirtual 131, 11, 6, 2, 492, 0, 1, [0])),
  (11, (.astore_n 3, 12, 3, 0, 0, 0, 0, [])),
  (12, (.aload_n 3, 13, 3, 0, 0, 0, 0, [])),
  (13, (.ifnull 10, 16, 23, 0, 0, 0, 0, [])),
  (16, (.iload_n 2, 17, 2, 0, 0, 0, 0, [])),
  (17, (.invokestatic 74, 20, 120, 1, 514, 0, 10, [0])),
  (20, (.ifCond .ne 5, 23, 25, 0, 0, 0, 0, [])),
  (23, (.iconst (-1), 24, 0, 0, 0, 0, 0, [])),
  (24, (.ireturn, 25, 0, 0, 0, 0, 0, [])),
  (25, (.aload_n 3, 26, 3, 0, 0, 0, 0, [])),
  (26, (.getfield 135, 29, 8, 4, 152, 0, 9, [])),
  (29, (.istore 4, 31, 4, 0, 0, 0, 0, [])),
  (31, (.aload_n 3, 32, 3, 0, 0, 0, 0, [])),
  (32, (.iload_n 2, 33, 2, 0, 0, 0, 0, [])),
  (33, (.putfield 135, 36, 8, 4, 152, 0, 9, [])),
  (36, (.aload_n 0, 37, 0, 0, 0, 0, 0, [])),
  (37, (.getfield 19, 40, 9, 1, 253, 2, 10, [])),
  (40, (.invokevirtual 67, 43, 22, 1, 584, 0, 2, [0])),
  (43, (.iload 4, 45, 4, 0, 0, 0, 0, [])),
  (45, (.ireturn, 46, 0, 0, 0, 0, 0, []))]
def rn_m99 : rn_Mt := (yX9_setTownRank, cX9_setTownRank, 5, (some .int), false, 0, 0, 5, 123, rn_t99)
def rn_t100 : List (Nat × rn_E) := [(0, (.iload_n 1, 1, 1, 0, 0, 0, 0, [])),
  (1, (.iconst 0, 2, 0, 0, 0, 0, 0, [])),
  (2, (.bipush 60, 4, 0, 0, 0, 0, 0, [])),
  (4, (.invokestatic 37, 7, 118, 3, 457, 0, 10, [0])),
  (7, (.ifCond .ne 5, 10, 12, 0, 0, 0, 0, [])),
  (10, (.iconst (-1), 11, 0, 0, 0, 0, 0, [])),
  (11, (.ireturn, 12, 0, 0, 0, 0, 0, [])),
  (12, (.aload_n 0, 13, 0, 0, 0, 0, 0, [])),
  (13, (.getfield 19, 16, 9, 1, 253, 2, 10, [])),
  (16, (.invokevirtual 59, 19, 21, 1, 520, 0, 2, [0])),
  (19, (.astore_n 2, 20, 2, 0, 0, 0, 0, [])),
  (20, (.aload_n 2, 21, 2, 0, 0, 0, 0, [])),
  (21, (.getfield 136, 24, 0, 3, 193, 0, 1, [])),
  (24, (.istore_n 3, 25, 3, 0, 0, 0, 0, [])),
  (25, (.aload_n 2, 26, 2, 0, 0, 0, 0, [])),
  (26, (.iload_n 1, 27, 1, 0, 0, 0, 0, [])),
  (27, (.putfield 136, 30, 0, 3, 193, 0, 1, [])),
  (30, (.aload_n 0, 31, 0, 0, 0, 0, 0, [])),
  (31, (.getfield 19, 34, 9, 1, 253, 2, 10, [])),
  (34, (.invokevirtual 67, 37, 22, 1, 584, 0, 2, [0])),
  (37, (.iload_n 3, 38, 3, 0, 0, 0, 0, [])),
  (38, (.ireturn, 39, 0, 0, 0, 0, 0, []))]
def rn_m100 : rn_Mt := (yX9_setGap, cX9_setGap, 4, (some .int), false, 0, 0, 5, 123, rn_t100)
def rn_t101 : List (Nat × rn_E) := [(0, (.aload_n 0, 1, 0, 0, 0, 0, 0, [])),
  (1, (.getfield 19, 4, 9, 1, 253, 2, 10, [])),
  (4, (.invokevirtual 59, 7, 21, 1, 520, 0, 2, [0])),
  (7, (.astore_n 3, 8, 3, 0, 0, 0, 0, [])),
  (8, (.aload_n 3, 9, 3, 0, 0, 0, 0, [])),
  (9, (.iload_n 1, 10, 1, 0, 0, 0, 0, [])),
  (10, (.invokevirtual 112, 13, 5, 2, 430, 0, 1, [0])),
  (13, (.astore 4, 15, 4, 0, 0, 0, 0, [])),
  (15, (.aload 4, 17, 4, 0, 0, 0, 0, [])),
  (17, (.ifnull 10, 20, 27, 0, 0, 0, 0, [])),
  (20, (.iload_n 2, 21, 2, 0, 0, 0, 0, [])),
  (21, (.invokestatic 139, 24, 122, 1, 454, 0, 10, [0])),
  (24, (.ifCond .ne 5, 27, 29, 0, 0, 0, 0, [])),
  (27, (.iconst (-1), 28, 0, 0, 0, 0, 0, [])),
  (28, (.ireturn, 29, 0, 0, 0, 0, 0, [])),
  (29, (.aload_n 0, 30, 0, 0, 0, 0, 0, [])),
  (30, (.getfield 26, 33, 9, 2, 254, 2, 10, [])),
  (33, (.aload_n 3, 34, 3, 0, 0, 0, 0, [])),
  (34, (.aload 4, 36, 4, 0, 0, 0, 0, [])),
  (36, (.iload_n 2, 37, 2, 0, 0, 0, 0, [])),
  (37, (.iconst (-1), 38, 0, 0, 0, 0, 0, [])),
  (38, (.invokevirtual 142, 41, 26, 5, 477, 0, 3, [0])),
  (41, (.ifCond .eq 6, 44, 47, 0, 0, 0, 0, [])),
  (44, (.bipush (-2), 46, 0, 0, 0, 0, 0, [])),
  (46, (.ireturn, 47, 0, 0, 0, 0, 0, [])),
  (47, (.aload_n 3, 48, 3, 0, 0, 0, 0, [])),
  (48, (.aload 4, 50, 4, 0, 0, 0, 0, [])),
  (50, (.iload_n 2, 51, 2, 0, 0, 0, 0, [])),
  (51, (.invokevirtual 146, 54, 10, 3, 636, 0, 1, [0])),
  (54, (.ifCond .ne 6, 57, 60, 0, 0, 0, 0, [])),
  (57, (.bipush (-3), 59, 0, 0, 0, 0, 0, [])),
  (59, (.ireturn, 60, 0, 0, 0, 0, 0, [])),
  (60, (.aload_n 0, 61, 0, 0, 0, 0, 0, [])),
  (61, (.getfield 19, 64, 9, 1, 253, 2, 10, [])),
  (64, (.invokevirtual 67, 67, 22, 1, 584, 0, 2, [0])),
  (67, (.aload_n 3, 68, 3, 0, 0, 0, 0, [])),
  (68, (.getfield 150, 71, 0, 2, 190, 0, 1, [])),
  (71, (.iconst 1, 72, 0, 0, 0, 0, 0, [])),
  (72, (.isub, 73, 0, 0, 0, 0, 0, [])),
  (73, (.ireturn, 74, 0, 0, 0, 0, 0, []))]
def rn_m101 : rn_Mt := (yX9_set, cX9_set, 5, (some .int), false, 0, 0, 5, 124, rn_t101)
def rn_t102 : List (Nat × rn_E) := [(0, (.aload_n 0, 1, 0, 0, 0, 0, 0, [])),
  (1, (.getfield 19, 4, 9, 1, 253, 2, 10, [])),
  (4, (.invokevirtual 59, 7, 21, 1, 520, 0, 2, [0])),
  (7, (.astore_n 2, 8, 2, 0, 0, 0, 0, [])),
  (8, (.aload_n 2, 9, 2, 0, 0, 0, 0, [])),
  (9, (.iload_n 1, 10, 1, 0, 0, 0, 0, [])),
  (10, (.invokevirtual 153, 13, 11, 2, 641, 0, 1, [0])),
  (13, (.ifCond .ne 5, 16, 18, 0, 0, 0, 0, [])),
  (16, (.iconst (-1), 17, 0, 0, 0, 0, 0, [])),
  (17, (.ireturn, 18, 0, 0, 0, 0, 0, [])),
  (18, (.aload_n 0, 19, 0, 0, 0, 0, 0, [])),
  (19, (.getfield 19, 22, 9, 1, 253, 2, 10, [])),
  (22, (.invokevirtual 67, 25, 22, 1, 584, 0, 2, [0])),
  (25, (.aload_n 2, 26, 2, 0, 0, 0, 0, [])),
  (26, (.getfield 150, 29, 0, 2, 190, 0, 1, [])),
  (29, (.ireturn, 30, 0, 0, 0, 0, 0, []))]
def rn_m102 : rn_Mt := (yX9_remove, cX9_remove, 3, (some .int), false, 0, 0, 5, 123, rn_t102)
def rn_t103 : List (Nat × rn_E) := [(0, (.iload_n 1, 1, 1, 0, 0, 0, 0, [])),
  (1, (.iconst 1, 2, 0, 0, 0, 0, 0, [])),
  (2, (.iconst 5, 3, 0, 0, 0, 0, 0, [])),
  (3, (.invokestatic 37, 6, 118, 3, 457, 0, 10, [0])),
  (6, (.ifCond .ne 5, 9, 11, 0, 0, 0, 0, [])),
  (9, (.iconst (-1), 10, 0, 0, 0, 0, 0, [])),
  (10, (.ireturn, 11, 0, 0, 0, 0, 0, [])),
  (11, (.aload_n 0, 12, 0, 0, 0, 0, 0, [])),
  (12, (.getfield 19, 15, 9, 1, 253, 2, 10, [])),
  (15, (.invokevirtual 59, 18, 21, 1, 520, 0, 2, [0])),
  (18, (.astore_n 2, 19, 2, 0, 0, 0, 0, [])),
  (19, (.aload_n 2, 20, 2, 0, 0, 0, 0, [])),
  (20, (.iconst 0, 21, 0, 0, 0, 0, 0, [])),
  (21, (.putfield 150, 24, 0, 2, 190, 0, 1, [])),
  (24, (.aload_n 0, 25, 0, 0, 0, 0, 0, [])),
  (25, (.getfield 26, 28, 9, 2, 254, 2, 10, [])),
  (28, (.aload_n 2, 29, 2, 0, 0, 0, 0, [])),
  (29, (.iload_n 1, 30, 1, 0, 0, 0, 0, [])),
  (30, (.invokevirtual 156, 33, 35, 3, 649, 0, 3, [0])),
  (33, (.aload_n 0, 34, 0, 0, 0, 0, 0, [])),
  (34, (.getfield 19, 37, 9, 1, 253, 2, 10, [])),
  (37, (.invokevirtual 67, 40, 22, 1, 584, 0, 2, [0])),
  (40, (.aload_n 2, 41, 2, 0, 0, 0, 0, [])),
  (41, (.getfield 150, 44, 0, 2, 190, 0, 1, [])),
  (44, (.ireturn, 45, 0, 0, 0, 0, 0, []))]
def rn_m103 : rn_Mt := (yX9_place, cX9_place, 3, (some .int), false, 0, 0, 7, 171, rn_t103)
def rn_t104 : List (Nat × rn_E) := [(0, (.aload_n 0, 1, 0, 0, 0, 0, 0, [])),
  (1, (.getfield 26, 4, 9, 2, 254, 2, 10, [])),
  (4, (.aload_n 0, 5, 0, 0, 0, 0, 0, [])),
  (5, (.getfield 19, 8, 9, 1, 253, 2, 10, [])),
  (8, (.invokevirtual 59, 11, 21, 1, 520, 0, 2, [0])),
  (11, (.invokevirtual 160, 14, 39, 2, 742, 0, 3, [0])),
  (14, (.istore_n 1, 15, 1, 0, 0, 0, 0, [])),
  (15, (.aload_n 0, 16, 0, 0, 0, 0, 0, [])),
  (16, (.getfield 19, 19, 9, 1, 253, 2, 10, [])),
  (19, (.invokevirtual 67, 22, 22, 1, 584, 0, 2, [0])),
  (22, (.iload_n 1, 23, 1, 0, 0, 0, 0, [])),
  (23, (.ireturn, 24, 0, 0, 0, 0, 0, []))]
def rn_m104 : rn_Mt := (yX9_tidy, cX9_tidy, 2, (some .int), false, 0, 0, 7, 171, rn_t104)
def rn_t105 : List (Nat × rn_E) := [(0, (.aload_n 0, 1, 0, 0, 0, 0, 0, [])),
  (1, (.getfield 19, 4, 9, 1, 253, 2, 10, [])),
  (4, (.invokevirtual 163, 7, 24, 1, 269, 0, 2, [0])),
  (7, (.ireturn, 8, 0, 0, 0, 0, 0, []))]
def rn_m105 : rn_Mt := (yX9_undo, cX9_undo, 1, (some .int), false, 0, 0, 2, 43, rn_t105)
def rn_t106 : List (Nat × rn_E) := [(0, (.aload_n 0, 1, 0, 0, 0, 0, 0, [])),
  (1, (.getfield 19, 4, 9, 1, 253, 2, 10, [])),
  (4, (.invokevirtual 166, 7, 20, 1, 280, 0, 2, [0])),
  (7, (.astore_n 2, 8, 2, 0, 0, 0, 0, [])),
  (8, (.iload_n 1, 9, 1, 0, 0, 0, 0, [])),
  (9, (.tableswitch 122 0 9 #[55, 60, 65, 70, 75, 80, 89, 94, 103, 111], 64, 131, 0, 0, 0, 0, [64, 69, 74, 79, 84, 89, 98, 103, 112, 120])),
  (64, (.aload_n 2, 65, 2, 0, 0, 0, 0, [])),
  (65, (.getfield 169, 68, 0, 0, 184, 0, 1, [])),
  (68, (.ireturn, 69, 0, 0, 0, 0, 0, [])),
  (69, (.aload_n 2, 70, 2, 0, 0, 0, 0, [])),
  (70, (.getfield 109, 73, 0, 1, 187, 0, 1, [])),
  (73, (.ireturn, 74, 0, 0, 0, 0, 0, [])),
  (74, (.aload_n 2, 75, 2, 0, 0, 0, 0, [])),
  (75, (.getfield 150, 78, 0, 2, 190, 0, 1, [])),
  (78, (.ireturn, 79, 0, 0, 0, 0, 0, [])),
  (79, (.aload_n 2, 80, 2, 0, 0, 0, 0, [])),
  (80, (.getfield 136, 83, 0, 3, 193, 0, 1, [])),
  (83, (.ireturn, 84, 0, 0, 0, 0, 0, [])),
  (84, (.aload_n 2, 85, 2, 0, 0, 0, 0, [])),
  (85, (.invokevirtual 172, 88, 15, 1, 284, 0, 1, [0])),
  (88, (.ireturn, 89, 0, 0, 0, 0, 0, [])),
  (89, (.aload_n 0, 90, 0, 0, 0, 0, 0, [])),
  (90, (.getfield 26, 93, 9, 2, 254, 2, 10, [])),
  (93, (.aload_n 2, 94, 2, 0, 0, 0, 0, [])),
  (94, (.invokevirtual 175, 97, 38, 2, 311, 0, 3, [0])),
  (97, (.ireturn, 98, 0, 0, 0, 0, 0, [])),
  (98, (.aload_n 2, 99, 2, 0, 0, 0, 0, [])),
  (99, (.invokevirtual 178, 102, 17, 1, 373, 0, 1, [0])),
  (102, (.ireturn, 103, 0, 0, 0, 0, 0, [])),
  (103, (.aload_n 2, 104, 2, 0, 0, 0, 0, [])),
  (104, (.aload_n 0, 105, 0, 0, 0, 0, 0, [])),
  (105, (.getfield 33, 108, 9, 3, 255, 2, 10, [])),
  (108, (.invokevirtual 181, 111, 16, 2, 385, 0, 1, [0])),
  (111, (.ireturn, 112, 0, 0, 0, 0, 0, [])),
  (112, (.aload_n 0, 113, 0, 0, 0, 0, 0, [])),
  (113, (.getfield 19, 116, 9, 1, 253, 2, 10, [])),
  (116, (.getfield 185, 119, 1, 0, 213, 0, 2, [])),
  (119, (.ireturn, 120, 0, 0, 0, 0, 0, [])),
  (120, (.aload_n 0, 121, 0, 0, 0, 0, 0, [])),
  (121, (.getfield 12, 124, 9, 0, 252, 2, 10, [])),
  (124, (.getfield 41, 127, 4, 0, 59, 2, 5, [])),
  (127, (.getfield 51, 130, 7, 0, 50, 0, 8, [])),
  (130, (.ireturn, 131, 0, 0, 0, 0, 0, [])),
  (131, (.iconst (-1), 132, 0, 0, 0, 0, 0, [])),
  (132, (.ireturn, 133, 0, 0, 0, 0, 0, []))]
def rn_m106 : rn_Mt := (yX9_count, cX9_count, 3, (some .int), false, 0, 0, 7, 170, rn_t106)
def rn_t107 : List (Nat × rn_E) := [(0, (.aload_n 0, 1, 0, 0, 0, 0, 0, [])),
  (1, (.getfield 19, 4, 9, 1, 253, 2, 10, [])),
  (4, (.invokevirtual 166, 7, 20, 1, 280, 0, 2, [0])),
  (7, (.astore_n 3, 8, 3, 0, 0, 0, 0, [])),
  (8, (.aload_n 3, 9, 3, 0, 0, 0, 0, [])),
  (9, (.iload_n 1, 10, 1, 0, 0, 0, 0, [])),
  (10, (.invokevirtual 112, 13, 5, 2, 430, 0, 1, [0])),
  (13, (.astore 4, 15, 4, 0, 0, 0, 0, [])),
  (15, (.aload 4, 17, 4, 0, 0, 0, 0, [])),
  (17, (.ifnonnull 5, 20, 22, 0, 0, 0, 0, [])),
  (20, (.iconst (-1), 21, 0, 0, 0, 0, 0, [])),
  (21, (.ireturn, 22, 0, 0, 0, 0, 0, [])),
  (22, (.iload_n 2, 23, 2, 0, 0, 0, 0, [])),
  (23, (.tableswitch 96 0 6 #[41, 47, 53, 59, 65, 72, 82], 64, 119, 0, 0, 0, 0, [64, 70, 76, 82, 88, 95, 105])),
  (64, (.aload 4, 66, 4, 0, 0, 0, 0, [])),
  (66, (.getfield 125, 69, 5, 1, 101, 0, 6, [])),
  (69, (.ireturn, 70, 0, 0, 0, 0, 0, [])),
  (70, (.aload 4, 72, 4, 0, 0, 0, 0, [])),
  (72, (.getfield 128, 75, 5, 2, 106, 0, 6, [])),
  (75, (.ireturn, 76, 0, 0, 0, 0, 0, [])),
  (76, (.aload 4, 78, 4, 0, 0, 0, 0, [])),
  (78, (.getfield 188, 81, 5, 3, 110, 0, 6, [])),
  (81, (.ireturn, 82, 0, 0, 0, 0, 0, [])),
  (82, (.aload 4, 84, 4, 0, 0, 0, 0, [])),
  (84, (.getfield 122, 87, 5, 4, 113, 0, 6, [])),
  (87, (.ireturn, 88, 0, 0, 0, 0, 0, [])),
  (88, (.aload_n 3, 89, 3, 0, 0, 0, 0, [])),
  (89, (.aload 4, 91, 4, 0, 0, 0, 0, [])),
  (91, (.invokevirtual 191, 94, 12, 2, 431, 0, 1, [0])),
  (94, (.ireturn, 95, 0, 0, 0, 0, 0, [])),
  (95, (.aload 4, 97, 4, 0, 0, 0, 0, [])),
  (97, (.aload_n 0, 98, 0, 0, 0, 0, 0, [])),
  (98, (.getfield 33, 101, 9, 3, 255, 2, 10, [])),
  (101, (.invokevirtual 195, 104, 77, 2, 432, 0, 6, [0])),
  (104, (.ireturn, 105, 0, 0, 0, 0, 0, [])),
  (105, (.aload 4, 107, 4, 0, 0, 0, 0, [])),
  (107, (.iconst 0, 108, 0, 0, 0, 0, 0, [])),
  (108, (.aload 4, 110, 4, 0, 0, 0, 0, [])),
  (110, (.getfield 122, 113, 5, 4, 113, 0, 6, [])),
  (113, (.iconst 1, 114, 0, 0, 0, 0, 0, [])),
  (114, (.iadd, 115, 0, 0, 0, 0, 0, [])),
  (115, (.invokevirtual 198, 118, 70, 3, 440, 0, 6, [0])),
  (118, (.ireturn, 119, 0, 0, 0, 0, 0, [])),
  (119, (.iconst (-1), 120, 0, 0, 0, 0, 0, [])),
  (120, (.ireturn, 121, 0, 0, 0, 0, 0, []))]
def rn_m107 : rn_Mt := (yX9_river, cX9_river, 5, (some .int), false, 0, 0, 4, 90, rn_t107)
def rn_t108 : List (Nat × rn_E) := [(0, (.aload_n 0, 1, 0, 0, 0, 0, 0, [])),
  (1, (.getfield 19, 4, 9, 1, 253, 2, 10, [])),
  (4, (.invokevirtual 166, 7, 20, 1, 280, 0, 2, [0])),
  (7, (.iload_n 1, 8, 1, 0, 0, 0, 0, [])),
  (8, (.invokevirtual 112, 11, 5, 2, 430, 0, 1, [0])),
  (11, (.astore_n 3, 12, 3, 0, 0, 0, 0, [])),
  (12, (.aload_n 3, 13, 3, 0, 0, 0, 0, [])),
  (13, (.ifnull 10, 16, 23, 0, 0, 0, 0, [])),
  (16, (.iload_n 2, 17, 2, 0, 0, 0, 0, [])),
  (17, (.invokestatic 139, 20, 122, 1, 454, 0, 10, [0])),
  (20, (.ifCond .ne 5, 23, 25, 0, 0, 0, 0, [])),
  (23, (.iconst (-1), 24, 0, 0, 0, 0, 0, [])),
  (24, (.ireturn, 25, 0, 0, 0, 0, 0, [])),
  (25, (.aload_n 3, 26, 3, 0, 0, 0, 0, [])),
  (26, (.iload_n 2, 27, 2, 0, 0, 0, 0, [])),
  (27, (.invokevirtual 202, 30, 64, 2, 458, 0, 6, [0])),
  (30, (.ifCond .eq 20, 33, 50, 0, 0, 0, 0, [])),
  (33, (.bipush 100, 35, 0, 0, 0, 0, 0, [])),
  (35, (.aload_n 3, 36, 3, 0, 0, 0, 0, [])),
  (36, (.iload_n 2, 37, 2, 0, 0, 0, 0, [])),
  (37, (.invokevirtual 205, 40, 65, 2, 459, 0, 6, [0])),
  (40, (.imul, 41, 0, 0, 0, 0, 0, [])),
  (41, (.aload_n 3, 42, 3, 0, 0, 0, 0, [])),
  (42, (.iload_n 2, 43, 2, 0, 0, 0, 0, [])),
  (43, (.invokevirtual 209, 46, 66, 2, 460, 0, 6, [0])),
  (46, (.iadd, 47, 0, 0, 0, 0, 0, [])),
  (47, (.goto 5, 50, 52, 0, 0, 0, 0, [])),
  (50, (.bipush (-9), 52, 0, 0, 0, 0, 0, [])),
  (52, (.ireturn, 53, 0, 0, 0, 0, 0, []))]
def rn_m108 : rn_Mt := (yX9_cell, cX9_cell, 4, (some .int), false, 0, 0, 2, 43, rn_t108)
def rn_t109 : List (Nat × rn_E) := [(0, (.aload_n 0, 1, 0, 0, 0, 0, 0, [])),
  (1, (.getfield 19, 4, 9, 1, 253, 2, 10, [])),
  (4, (.invokevirtual 166, 7, 20, 1, 280, 0, 2, [0])),
  (7, (.iload_n 1, 8, 1, 0, 0, 0, 0, [])),
  (8, (.invokevirtual 112, 11, 5, 2, 430, 0, 1, [0])),
  (11, (.astore_n 3, 12, 3, 0, 0, 0, 0, [])),
  (12, (.aload_n 3, 13, 3, 0, 0, 0, 0, [])),
  (13, (.ifnull 7, 16, 20, 0, 0, 0, 0, [])),
  (16, (.iload_n 2, 17, 2, 0, 0, 0, 0, [])),
  (17, (.ifCond .ge 5, 20, 22, 0, 0, 0, 0, [])),
  (20, (.iconst (-1), 21, 0, 0, 0, 0, 0, [])),
  (21, (.ireturn, 22, 0, 0, 0, 0, 0, [])),
  (22, (.aload_n 3, 23, 3, 0, 0, 0, 0, [])),
  (23, (.iload_n 2, 24, 2, 0, 0, 0, 0, [])),
  (24, (.invokevirtual 212, 27, 67, 2, 445, 0, 6, [0])),
  (27, (.ireturn, 28, 0, 0, 0, 0, 0, []))]
def rn_m109 : rn_Mt := (yX9_letter, cX9_letter, 4, (some .int), false, 0, 0, 2, 43, rn_t109)
def rn_t110 : List (Nat × rn_E) := [(0, (.aload_n 0, 1, 0, 0, 0, 0, 0, [])),
  (1, (.getfield 19, 4, 9, 1, 253, 2, 10, [])),
  (4, (.invokevirtual 166, 7, 20, 1, 280, 0, 2, [0])),
  (7, (.astore_n 3, 8, 3, 0, 0, 0, 0, [])),
  (8, (.aload_n 3, 9, 3, 0, 0, 0, 0, [])),
  (9, (.iload_n 1, 10, 1, 0, 0, 0, 0, [])),
  (10, (.invokevirtual 131, 13, 6, 2, 492, 0, 1, [0])),
  (13, (.astore 4, 15, 4, 0, 0, 0, 0, [])),
  (15, (.aload 4, 17, 4, 0, 0, 0, 0, [])),
  (17, (.ifnonnull 5, 20, 22, 0, 0, 0, 0, [])),
  (20, (.iconst (-1), 21, 0, 0, 0, 0, 0, [])),
  (21, (.ireturn, 22, 0, 0, 0, 0, 0, [])),
  (22, (.iload_n 2, 23, 2, 0, 0, 0, 0, [])),
  (23, (.tableswitch 74 0 5 #[37, 43, 49, 55, 61, 67], 60, 97, 0, 0, 0, 0, [60, 66, 72, 78, 84, 90])),
  (60, (.aload 4, 62, 4, 0, 0, 0, 0, [])),
  (62, (.getfield 215, 65, 8, 0, 143, 0, 9, [])),
  (65, (.ireturn, 66, 0, 0, 0, 0, 0, [])),
  (66, (.aload 4, 68, 4, 0, 0, 0, 0, [])),
  (68, (.getfield 218, 71, 8, 1, 145, 0, 9, [])),
  (71, (.ireturn, 72, 0, 0, 0, 0, 0, [])),
  (72, (.aload 4, 74, 4, 0, 0, 0, 0, [])),
  (74, (.getfield 221, 77, 8, 2, 147, 0, 9, [])),
  (77, (.ireturn, 78, 0, 0, 0, 0, 0, [])),
  (78, (.aload 4, 80, 4, 0, 0, 0, 0, [])),
  (80, (.getfield 224, 83, 8, 3, 149, 0, 9, [])),
  (83, (.ireturn, 84, 0, 0, 0, 0, 0, [])),
  (84, (.aload 4, 86, 4, 0, 0, 0, 0, [])),
  (86, (.getfield 135, 89, 8, 4, 152, 0, 9, [])),
  (89, (.ireturn, 90, 0, 0, 0, 0, 0, [])),
  (90, (.aload_n 3, 91, 3, 0, 0, 0, 0, [])),
  (91, (.aload 4, 93, 4, 0, 0, 0, 0, [])),
  (93, (.invokevirtual 227, 96, 13, 2, 493, 0, 1, [0])),
  (96, (.ireturn, 97, 0, 0, 0, 0, 0, [])),
  (97, (.iconst (-1), 98, 0, 0, 0, 0, 0, [])),
  (98, (.ireturn, 99, 0, 0, 0, 0, 0, []))]
def rn_m110 : rn_Mt := (yX9_town, cX9_town, 5, (some .int), false, 0, 0, 4, 91, rn_t110)
def rn_t111 : List (Nat × rn_E) := [(0, (.aload_n 0, 1, 0, 0, 0, 0, 0, [])),
  (1, (.getfield 19, 4, 9, 1, 253, 2, 10, [])),
  (4, (.invokevirtual 166, 7, 20, 1, 280, 0, 2, [0])),
  (7, (.astore_n 3, 8, 3, 0, 0, 0, 0, [])),
  (8, (.aload_n 3, 9, 3, 0, 0, 0, 0, [])),
  (9, (.iload_n 1, 10, 1, 0, 0, 0, 0, [])),
  (10, (.invokevirtual 231, 13, 7, 2, 465, 0, 1, [0])),
  (13, (.astore 4, 15, 4, 0, 0, 0, 0, [])),
  (15, (.aload 4, 17, 4, 0, 0, 0, 0, [])),
  (17, (.ifnonnull 5, 20, 22, 0, 0, 0, 0, [])),
  (20, (.iconst (-1), 21, 0, 0, 0, 0, 0, [])),
  (21, (.ireturn, 22, 0, 0, 0, 0, 0, [])),
  (22, (.aload 4, 24, 4, 0, 0, 0, 0, [])),
  (24, (.getfield 235, 27, 3, 0, 172, 2, 4, [])),
  (27, (.astore 5, 29, 5, 0, 0, 0, 0, [])),
  (29, (.iload_n 2, 30, 2, 0, 0, 0, 0, [])),
  (30, (.tableswitch 138 0 7 #[46, 52, 58, 69, 85, 104, 114, 131], 76, 168, 0, 0, 0, 0, [76, 82, 88, 99, 115, 134, 144, 161])),
  (76, (.aload 5, 78, 5, 0, 0, 0, 0, [])),
  (78, (.getfield 96, 81, 5, 0, 98, 0, 6, [])),
  (81, (.ireturn, 82, 0, 0, 0, 0, 0, [])),
  (82, (.aload 4, 84, 4, 0, 0, 0, 0, [])),
  (84, (.getfield 241, 87, 3, 1, 176, 0, 4, [])),
  (87, (.ireturn, 88, 0, 0, 0, 0, 0, [])),
  (88, (.aload 5, 90, 5, 0, 0, 0, 0, [])),
  (90, (.aload 4, 92, 4, 0, 0, 0, 0, [])),
  (92, (.getfield 241, 95, 3, 1, 176, 0, 4, [])),
  (95, (.invokevirtual 244, 98, 72, 2, 466, 0, 6, [0])),
  (98, (.ireturn, 99, 0, 0, 0, 0, 0, [])),
  (99, (.aload 5, 101, 5, 0, 0, 0, 0, [])),
  (101, (.aload 4, 103, 4, 0, 0, 0, 0, [])),
  (103, (.getfield 241, 106, 3, 1, 176, 0, 4, [])),
  (106, (.aload 5, 108, 5, 0, 0, 0, 0, [])),
  (108, (.getfield 188, 111, 5, 3, 110, 0, 6, [])),
  (111, (.invokevirtual 198, 114, 70, 3, 440, 0, 6, [0])),
  (114, (.ireturn, 115, 0, 0, 0, 0, 0, [])),
  (115, (.aload 5, 117, 5, 0, 0, 0, 0, [])),
  (117, (.aload 4, 119, 4, 0, 0, 0, 0, [])),
  (119, (.getfield 241, 122, 3, 1, 176, 0, 4, [])),
  (122, (.invokevirtual 247, 125, 73, 2, 467, 0, 6, [0])),
  (125, (.ifCond .eq 7, 128, 132, 0, 0, 0, 0, [])),
  (128, (.iconst 1, 129, 0, 0, 0, 0, 0, [])),
  (129, (.goto 4, 132, 133, 0, 0, 0, 0, [])),
  (132, (.iconst 0, 133, 0, 0, 0, 0, 0, [])),
  (133, (.ireturn, 134, 0, 0, 0, 0, 0, [])),
  (134, (.aload 4, 136, 4, 0, 0, 0, 0, [])),
  (136, (.aload_n 0, 137, 0, 0, 0, 0, 0, [])),
  (137, (.getfield 33, 140, 9, 3, 255, 2, 10, [])),
  (140, (.invokevirtual 250, 143, 44, 2, 471, 0, 4, [0])),
  (143, (.ireturn, 144, 0, 0, 0, 0, 0, [])),
  (144, (.aload_n 0, 145, 0, 0, 0, 0, 0, [])),
  (145, (.getfield 26, 148, 9, 2, 254, 2, 10, [])),
  (148, (.aload_n 3, 149, 3, 0, 0, 0, 0, [])),
  (149, (.aload 5, 151, 5, 0, 0, 0, 0, [])),
  (151, (.aload 4, 153, 4, 0, 0, 0, 0, [])),
  (153, (.getfield 241, 156, 3, 1, 176, 0, 4, [])),
  (156, (.iload_n 1, 157, 1, 0, 0, 0, 0, [])),
  (157, (.invokevirtual 142, 160, 26, 5, 477, 0, 3, [0])),
  (160, (.ireturn, 161, 0, 0, 0, 0, 0, [])),
  (161, (.aload_n 3, 162, 3, 0, 0, 0, 0, [])),
  (162, (.aload 4, 164, 4, 0, 0, 0, 0, [])),
  (164, (.invokevirtual 253, 167, 14, 2, 478, 0, 1, [0])),
  (167, (.ireturn, 168, 0, 0, 0, 0, 0, [])),
  (168, (.iconst (-1), 169, 0, 0, 0, 0, 0, [])),
  (169, (.ireturn, 170, 0, 0, 0, 0, 0, []))]
def rn_m111 : rn_Mt := (yX9_label, cX9_label, 6, (some .int), false, 0, 0, 5, 124, rn_t111)
def rn_t112 : List (Nat × rn_E) := [(0, (.iload_n 1, 1, 1, 0, 0, 0, 0, [])),
  (1, (.iload_n 2, 2, 2, 0, 0, 0, 0, [])),
  (2, (.invokestatic 70, 5, 119, 2, 513, 0, 10, [0])),
  (5, (.ifCond .ne 5, 8, 10, 0, 0, 0, 0, [])),
  (8, (.iconst (-1), 9, 0, 0, 0, 0, 0, [])),
  (9, (.ireturn, 10, 0, 0, 0, 0, 0, [])),
  (10, (.aload_n 0, 11, 0, 0, 0, 0, 0, [])),
  (11, (.getfield 19, 14, 9, 1, 253, 2, 10, [])),
  (14, (.invokevirtual 166, 17, 20, 1, 280, 0, 2, [0])),
  (17, (.iload_n 1, 18, 1, 0, 0, 0, 0, [])),
  (18, (.iload_n 2, 19, 2, 0, 0, 0, 0, [])),
  (19, (.invokevirtual 257, 22, 18, 3, 677, 0, 1, [0])),
  (22, (.ireturn, 23, 0, 0, 0, 0, 0, []))]
def rn_m112 : rn_Mt := (yX9_written, cX9_written, 3, (some .int), false, 0, 0, 5, 117, rn_t112)
def rn_t113 : List (Nat × rn_E) := [(0, (.aload_n 0, 1, 0, 0, 0, 0, 0, [])),
  (1, (.getfield 19, 4, 9, 1, 253, 2, 10, [])),
  (4, (.invokevirtual 166, 7, 20, 1, 280, 0, 2, [0])),
  (7, (.iload_n 1, 8, 1, 0, 0, 0, 0, [])),
  (8, (.invokevirtual 112, 11, 5, 2, 430, 0, 1, [0])),
  (11, (.astore 4, 13, 4, 0, 0, 0, 0, [])),
  (13, (.aload 4, 15, 4, 0, 0, 0, 0, [])),
  (15, (.ifnull 20, 18, 35, 0, 0, 0, 0, [])),
  (18, (.iload_n 2, 19, 2, 0, 0, 0, 0, [])),
  (19, (.invokestatic 139, 22, 122, 1, 454, 0, 10, [0])),
  (22, (.ifCond .eq 13, 25, 35, 0, 0, 0, 0, [])),
  (25, (.iload_n 3, 26, 3, 0, 0, 0, 0, [])),
  (26, (.iconst 1, 27, 0, 0, 0, 0, 0, [])),
  (27, (.bipush 61, 29, 0, 0, 0, 0, 0, [])),
  (29, (.invokestatic 37, 32, 118, 3, 457, 0, 10, [0])),
  (32, (.ifCond .ne 5, 35, 37, 0, 0, 0, 0, [])),
  (35, (.iconst (-1), 36, 0, 0, 0, 0, 0, [])),
  (36, (.ireturn, 37, 0, 0, 0, 0, 0, [])),
  (37, (.iload_n 2, 38, 2, 0, 0, 0, 0, [])),
  (38, (.aload 4, 40, 4, 0, 0, 0, 0, [])),
  (40, (.iload_n 3, 41, 3, 0, 0, 0, 0, [])),
  (41, (.invokevirtual 260, 44, 68, 2, 691, 0, 6, [0])),
  (44, (.if_icmp .gt 13, 47, 57, 0, 0, 0, 0, [])),
  (47, (.aload 4, 49, 4, 0, 0, 0, 0, [])),
  (49, (.iload_n 2, 50, 2, 0, 0, 0, 0, [])),
  (50, (.iload_n 3, 51, 3, 0, 0, 0, 0, [])),
  (51, (.invokevirtual 198, 54, 70, 3, 440, 0, 6, [0])),
  (54, (.goto 5, 57, 59, 0, 0, 0, 0, [])),
  (57, (.bipush (-9), 59, 0, 0, 0, 0, 0, [])),
  (59, (.ireturn, 60, 0, 0, 0, 0, 0, []))]
def rn_m113 : rn_Mt := (yX9_bend, cX9_bend, 5, (some .int), false, 0, 0, 3, 67, rn_t113)
def rn_t114 : List (Nat × rn_E) := [(0, (.aload_n 0, 1, 0, 0, 0, 0, 0, [])),
  (1, (.getfield 19, 4, 9, 1, 253, 2, 10, [])),
  (4, (.invokevirtual 166, 7, 20, 1, 280, 0, 2, [0])),
  (7, (.iload_n 1, 8, 1, 0, 0, 0, 0, [])),
  (8, (.invokevirtual 112, 11, 5, 2, 430, 0, 1, [0])),
  (11, (.astore_n 3, 12, 3, 0, 0, 0, 0, [])),
  (12, (.aload_n 3, 13, 3, 0, 0, 0, 0, [])),
  (13, (.ifnull 13, 16, 26, 0, 0, 0, 0, [])),
  (16, (.iload_n 2, 17, 2, 0, 0, 0, 0, [])),
  (17, (.iconst 1, 18, 0, 0, 0, 0, 0, [])),
  (18, (.bipush 61, 20, 0, 0, 0, 0, 0, [])),
  (20, (.invokestatic 37, 23, 118, 3, 457, 0, 10, [0])),
  (23, (.ifCond .ne 5, 26, 28, 0, 0, 0, 0, [])),
  (26, (.iconst (-1), 27, 0, 0, 0, 0, 0, [])),
  (27, (.ireturn, 28, 0, 0, 0, 0, 0, [])),
  (28, (.aload_n 3, 29, 3, 0, 0, 0, 0, [])),
  (29, (.iload_n 2, 30, 2, 0, 0, 0, 0, [])),
  (30, (.invokevirtual 263, 33, 71, 2, 696, 0, 6, [0])),
  (33, (.ireturn, 34, 0, 0, 0, 0, 0, []))]
def rn_m114 : rn_Mt := (yX9_straightest, cX9_straightest, 4, (some .int), false, 0, 0, 4, 92, rn_t114)
def rn_t115 : List (Nat × rn_E) := [(0, (.aload_n 0, 1, 0, 0, 0, 0, 0, [])),
  (1, (.getfield 19, 4, 9, 1, 253, 2, 10, [])),
  (4, (.invokevirtual 166, 7, 20, 1, 280, 0, 2, [0])),
  (7, (.astore_n 3, 8, 3, 0, 0, 0, 0, [])),
  (8, (.aload_n 3, 9, 3, 0, 0, 0, 0, [])),
  (9, (.iload_n 1, 10, 1, 0, 0, 0, 0, [])),
  (10, (.invokevirtual 112, 13, 5, 2, 430, 0, 1, [0])),
  (13, (.astore 4, 15, 4, 0, 0, 0, 0, [])),
  (15, (.aload 4, 17, 4, 0, 0, 0, 0, [])),
  (17, (.ifnull 10, 20, 27, 0, 0, 0, 0, [])),
  (20, (.iload_n 2, 21, 2, 0, 0, 0, 0, [])),
  (21, (.invokestatic 139, 24, 122, 1, 454, 0, 10, [0])),
  (24, (.ifCond .ne 5, 27, 29, 0, 0, 0, 0, [])),
  (27, (.iconst (-1), 28, 0, 0, 0, 0, 0, [])),
  (28, (.ireturn, 29, 0, 0, 0, 0, 0, [])),
  (29, (.aload_n 0, 30, 0, 0, 0, 0, 0, [])),
  (30, (.getfield 26, 33, 9, 2, 254, 2, 10, [])),
  (33, (.aload_n 3, 34, 3, 0, 0, 0, 0, [])),
  (34, (.aload 4, 36, 4, 0, 0, 0, 0, [])),
  (36, (.iload_n 2, 37, 2, 0, 0, 0, 0, [])),
  (37, (.iconst (-1), 38, 0, 0, 0, 0, 0, [])),
  (38, (.invokevirtual 142, 41, 26, 5, 477, 0, 3, [0])),
  (41, (.ireturn, 42, 0, 0, 0, 0, 0, []))]
def rn_m115 : rn_Mt := (yX9_reason, cX9_reason, 5, (some .int), false, 0, 0, 5, 124, rn_t115)
def rn_t116 : List (Nat × rn_E) := [(0, (.aload_n 0, 1, 0, 0, 0, 0, 0, [])),
  (1, (.getfield 19, 4, 9, 1, 253, 2, 10, [])),
  (4, (.invokevirtual 166, 7, 20, 1, 280, 0, 2, [0])),
  (7, (.astore_n 3, 8, 3, 0, 0, 0, 0, [])),
  (8, (.aload_n 3, 9, 3, 0, 0, 0, 0, [])),
  (9, (.iload_n 1, 10, 1, 0, 0, 0, 0, [])),
  (10, (.invokevirtual 112, 13, 5, 2, 430, 0, 1, [0])),
  (13, (.astore 4, 15, 4, 0, 0, 0, 0, [])),
  (15, (.aload 4, 17, 4, 0, 0, 0, 0, [])),
  (17, (.ifnull 12, 20, 29, 0, 0, 0, 0, [])),
  (20, (.iload_n 2, 21, 2, 0, 0, 0, 0, [])),
  (21, (.iconst 0, 22, 0, 0, 0, 0, 0, [])),
  (22, (.iconst 1, 23, 0, 0, 0, 0, 0, [])),
  (23, (.invokestatic 37, 26, 118, 3, 457, 0, 10, [0])),
  (26, (.ifCond .ne 5, 29, 31, 0, 0, 0, 0, [])),
  (29, (.iconst (-1), 30, 0, 0, 0, 0, 0, [])),
  (30, (.ireturn, 31, 0, 0, 0, 0, 0, [])),
  (31, (.aload_n 0, 32, 0, 0, 0, 0, 0, [])),
  (32, (.getfield 26, 35, 9, 2, 254, 2, 10, [])),
  (35, (.aload_n 3, 36, 3, 0, 0, 0, 0, [])),
  (36, (.aload 4, 38, 4, 0, 0, 0, 0, [])),
  (38, (.invokevirtual 266, 41, 32, 3, 709, 0, 3, [0])),
  (41, (.istore 5, 43, 5, 0, 0, 0, 0, [])),
  (43, (.iload 5, 45, 5, 0, 0, 0, 0, [])),
  (45, (.bipush (-9), 47, 0, 0, 0, 0, 0, [])),
  (47, (.if_icmp .eq 7, 50, 54, 0, 0, 0, 0, [])),
  (50, (.iload_n 2, 51, 2, 0, 0, 0, 0, [])),
  (51, (.ifCond .ne 8, 54, 59, 0, 0, 0, 0, [])),
  (54, (.iload 5, 56, 5, 0, 0, 0, 0, [])),
  (56, (.goto 10, 59, 66, 0, 0, 0, 0, [])),
  (59, (.aload 4, 61, 4, 0, 0, 0, 0, [])),
  (61, (.iload 5, 63, 5, 0, 0, 0, 0, [])),
  (63, (.invokevirtual 244, 66, 72, 2, 466, 0, 6, [0])),
  (66, (.ireturn, 67, 0, 0, 0, 0, 0, []))]
def rn_m116 : rn_Mt := (yX9_best, cX9_best, 6, (some .int), false, 0, 0, 6, 143, rn_t116)
def rn_t117 : List (Nat × rn_E) := [(0, (.aload_n 0, 1, 0, 0, 0, 0, 0, [])),
  (1, (.getfield 19, 4, 9, 1, 253, 2, 10, [])),
  (4, (.invokevirtual 166, 7, 20, 1, 280, 0, 2, [0])),
  (7, (.astore_n 2, 8, 2, 0, 0, 0, 0, [])),
  (8, (.aload_n 2, 9, 2, 0, 0, 0, 0, [])),
  (9, (.iload_n 1, 10, 1, 0, 0, 0, 0, [])),
  (10, (.invokevirtual 112, 13, 5, 2, 430, 0, 1, [0])),
  (13, (.astore_n 3, 14, 3, 0, 0, 0, 0, [])),
  (14, (.aload_n 3, 15, 3, 0, 0, 0, 0, [])),
  (15, (.ifnonnull 7, 18, 22, 0, 0, 0, 0, [])),
  (18, (.iconst (-1), 19, 0, 0, 0, 0, 0, [])),
  (19, (.goto 12, 22, 31, 0, 0, 0, 0, [])),
  (22, (.aload_n 0, 23, 0, 0, 0, 0, 0, [])),
  (23, (.getfield 26, 26, 9, 2, 254, 2, 10, [])),
  (26, (.aload_n 2, 27, 2, 0, 0, 0, 0, [])),
  (27, (.aload_n 3, 28, 3, 0, 0, 0, 0, [])),
  (28, (.invokevirtual 270, 31, 34, 3, 717, 0, 3, [0])),
  (31, (.ireturn, 32, 0, 0, 0, 0, 0, []))]
def rn_m117 : rn_Mt := (yX9_rankFor, cX9_rankFor, 4, (some .int), false, 0, 0, 6, 145, rn_t117)
def rn_t118 : List (Nat × rn_E) := [(0, (.iload_n 0, 1, 0, 0, 0, 0, 0, [])),
  (1, (.iload_n 1, 2, 1, 0, 0, 0, 0, [])),
  (2, (.if_icmp .lt 12, 5, 14, 0, 0, 0, 0, [])),
  (5, (.iload_n 0, 6, 0, 0, 0, 0, 0, [])),
  (6, (.iload_n 2, 7, 2, 0, 0, 0, 0, [])),
  (7, (.if_icmp .gt 7, 10, 14, 0, 0, 0, 0, [])),
  (10, (.iconst 1, 11, 0, 0, 0, 0, 0, [])),
  (11, (.goto 4, 14, 15, 0, 0, 0, 0, [])),
  (14, (.iconst 0, 15, 0, 0, 0, 0, 0, [])),
  (15, (.ireturn, 16, 0, 0, 0, 1, 0, []))]
def rn_m118 : rn_Mt := (yX9_within, cX9_within, 3, (some .boolean), false, 0, 0, 0, 0, rn_t118)
def rn_t119 : List (Nat × rn_E) := [(0, (.iload_n 0, 1, 0, 0, 0, 0, 0, [])),
  (1, (.ifCond .lt 23, 4, 24, 0, 0, 0, 0, [])),
  (4, (.iload_n 0, 5, 0, 0, 0, 0, 0, [])),
  (5, (.bipush 60, 7, 0, 0, 0, 0, 0, [])),
  (7, (.if_icmp .ge 17, 10, 24, 0, 0, 0, 0, [])),
  (10, (.iload_n 1, 11, 1, 0, 0, 0, 0, [])),
  (11, (.ifCond .lt 13, 14, 24, 0, 0, 0, 0, [])),
  (14, (.iload_n 1, 15, 1, 0, 0, 0, 0, [])),
  (15, (.bipush 40, 17, 0, 0, 0, 0, 0, [])),
  (17, (.if_icmp .ge 7, 20, 24, 0, 0, 0, 0, [])),
  (20, (.iconst 1, 21, 0, 0, 0, 0, 0, [])),
  (21, (.goto 4, 24, 25, 0, 0, 0, 0, [])),
  (24, (.iconst 0, 25, 0, 0, 0, 0, 0, [])),
  (25, (.ireturn, 26, 0, 0, 0, 1, 0, []))]
def rn_m119 : rn_Mt := (yX9_onMap, cX9_onMap, 2, (some .boolean), false, 0, 0, 0, 0, rn_t119)
def rn_t120 : List (Nat × rn_E) := [(0, (.iload_n 0, 1, 0, 0, 0, 0, 0, [])),
  (1, (.iconst 1, 2, 0, 0, 0, 0, 0, [])),
  (2, (.bipush 9, 4, 0, 0, 0, 0, 0, [])),
  (4, (.invokestatic 37, 7, 118, 3, 457, 0, 10, [0])),
  (7, (.ireturn, 8, 0, 0, 0, 1, 0, []))]
def rn_m120 : rn_Mt := (yX9_isRank, cX9_isRank, 1, (some .boolean), false, 0, 0, 1, 22, rn_t120)
def rn_t121 : List (Nat × rn_E) := [(0, (.iload_n 0, 1, 0, 0, 0, 0, 0, [])),
  (1, (.iconst 0, 2, 0, 0, 0, 0, 0, [])),
  (2, (.iconst 2, 3, 0, 0, 0, 0, 0, [])),
  (3, (.invokestatic 37, 6, 118, 3, 457, 0, 10, [0])),
  (6, (.ireturn, 7, 0, 0, 0, 1, 0, []))]
def rn_m121 : rn_Mt := (yX9_isHalo, cX9_isHalo, 1, (some .boolean), false, 0, 0, 1, 22, rn_t121)
def rn_t122 : List (Nat × rn_E) := [(0, (.iload_n 0, 1, 0, 0, 0, 0, 0, [])),
  (1, (.iconst 0, 2, 0, 0, 0, 0, 0, [])),
  (2, (.bipush 60, 4, 0, 0, 0, 0, 0, [])),
  (4, (.invokestatic 37, 7, 118, 3, 457, 0, 10, [0])),
  (7, (.ireturn, 8, 0, 0, 0, 1, 0, []))]
def rn_m122 : rn_Mt := (yX9_isPlaceNumber, cX9_isPlaceNumber, 1, (some .boolean), false, 0, 0, 1, 22, rn_t122)
def rn_t123 : List (Nat × rn_E) := [(0, (.iload_n 1, 1, 1, 0, 0, 0, 0, [])),
  (1, (.aload_n 0, 2, 0, 0, 0, 0, 0, [])),
  (2, (.arraylength, 3, 0, 0, 0, 0, 0, [])),
  (3, (.if_icmp .ge 9, 6, 12, 0, 0, 0, 0, [])),
  (6, (.aload_n 0, 7, 0, 0, 0, 0, 0, [])),
  (7, (.iload_n 1, 8, 1, 0, 0, 0, 0, [])),
  (8, (.iaload, 9, 0, 0, 0, 0, 0, [])),
  (9, (.goto 9, 12, 18, 0, 0, 0, 0, [])),
  (12, (.ldc 7, 14, 916318735, 0, 416, 0, 0, [])),
  (14, (.iload_n 1, 15, 1, 0, 0, 0, 0, [])),
  (15, (.iconst 3, 16, 0, 0, 0, 0, 0, [])),
  (16, (.iadd, 17, 0, 0, 0, 0, 0, [])),
  (17, (.imul, 18, 0, 0, 0, 0, 0, [])),
  (18, (.istore_n 2, 19, 2, 0, 0, 1, 0, [])),
  (19, (.iload_n 2, 20, 2, 0, 0, 0, 0, [])),
  (20, (.iload_n 2, 21, 2, 0, 0, 0, 0, [])),
  (21, (.bipush 15, 23, 0, 0, 0, 0, 0, [])),
  (23, (.iushr, 24, 0, 0, 0, 0, 0, [])),
  (24, (.ixor, 25, 0, 0, 0, 0, 0, [])),
  (25, (.ireturn, 26, 0, 0, 0, 0, 0, []))]
def rn_m123 : rn_Mt := (yL_cell, cL_cell, 3, (some .int), false, 0, 0, 0, 0, rn_t123)
def rn_t124 : List (Nat × rn_E) := [(0, (.iload_n 0, 1, 0, 0, 0, 0, 0, [])),
  (1, (.ldc 8, 3, 2147483647, 0, 420, 0, 0, [])),
  (3, (.iand, 4, 0, 0, 0, 0, 0, [])),
  (4, (.iload_n 1, 5, 1, 0, 0, 0, 0, [])),
  (5, (.irem, 6, 0, 0, 0, 0, 0, [])),
  (6, (.ireturn, 7, 0, 0, 0, 0, 0, []))]
def rn_m124 : rn_Mt := (yL_low, cL_low, 2, (some .int), false, 0, 0, 0, 0, rn_t124)
def rn_t125 : List (Nat × rn_E) := [(0, (.iload_n 0, 1, 0, 0, 0, 0, 0, [])),
  (1, (.ifCond .ge 8, 4, 9, 0, 0, 0, 0, [])),
  (4, (.iload_n 0, 5, 0, 0, 0, 0, 0, [])),
  (5, (.ineg, 6, 0, 0, 0, 0, 0, [])),
  (6, (.goto 4, 9, 10, 0, 0, 0, 0, [])),
  (9, (.iload_n 0, 10, 0, 0, 0, 0, 0, [])),
  (10, (.ireturn, 11, 0, 0, 0, 0, 0, []))]
def rn_m125 : rn_Mt := (yL_size, cL_size, 1, (some .int), false, 0, 0, 0, 0, rn_t125)
def rn_t126_0 : List (Nat × rn_E) := [(0, (.ldc2_w 9, 3, 83, 0, 424, 0, 0, [])),
  (3, (.lstore_n 1, 4, 1, 0, 0, 1, 0, [])),
  (4, (.iconst 0, 5, 0, 0, 0, 0, 0, [])),
  (5, (.istore_n 3, 6, 3, 0, 0, 1, 0, [])),
  (6, (.iload_n 3, 7, 3, 0, 0, 0, 0, [])),
  (7, (.bipush 8, 9, 0, 0, 0, 0, 0, [])),
  (9, (.if_icmp .ge 22, 12, 31, 0, 0, 0, 0, [])),
  (12, (.ldc2_w 11, 15, 31, 0, 425, 0, 0, [])),
  (15, (.lload_n 1, 16, 1, 0, 0, 0, 0, [])),
  (16, (.lmul, 17, 0, 0, 0, 0, 0, [])),
  (17, (.aload_n 0, 18, 0, 0, 0, 0, 0, [])),
  (18, (.iload_n 3, 19, 3, 0, 0, 0, 0, [])),
  (19, (.invokevirtual 13, 22, 106, 2, 276, 0, 10, [0])),
  (22, (.i2l, 23, 0, 0, 0, 0, 0, [])),
  (23, (.ladd, 24, 0, 0, 0, 0, 0, [])),
  (24, (.lstore_n 1, 25, 1, 0, 0, 1, 0, [])),
  (25, (.iinc 3 1, 28, 3, 0, 0, 0, 0, [])),
  (28, (.goto (-22), 31, 6, 0, 0, 0, 0, [])),
  (31, (.iconst 0, 32, 0, 0, 0, 0, 0, [])),
  (32, (.istore_n 3, 33, 3, 0, 0, 1, 0, [])),
  (33, (.iload_n 3, 34, 3, 0, 0, 0, 0, [])),
  (34, (.bipush 6, 36, 0, 0, 0, 0, 0, [])),
  (36, (.if_icmp .ge 99, 39, 135, 0, 0, 0, 0, [])),
  (39, (.iconst 0, 40, 0, 0, 0, 0, 0, [])),
  (40, (.istore 4, 42, 4, 0, 0, 1, 0, [])),
  (42, (.iload 4, 44, 4, 0, 0, 0, 0, [])),
  (44, (.bipush 7, 46, 0, 0, 0, 0, 0, [])),
  (46, (.if_icmp .ge 24, 49, 70, 0, 0, 0, 0, [])),
  (49, (.ldc2_w 11, 52, 31, 0, 425, 0, 0, [])),
  (52, (.lload_n 1, 53, 1, 0, 0, 0, 0, [])),
  (53, (.lmul, 54, 0, 0, 0, 0, 0, [])),
  (54, (.aload_n 0, 55, 0, 0, 0, 0, 0, [])),
  (55, (.iload_n 3, 56, 3, 0, 0, 0, 0, [])),
  (56, (.iload 4, 58, 4, 0, 0, 0, 0, [])),
  (58, (.invokevirtual 19, 61, 107, 3, 426, 0, 10, [0])),
  (61, (.i2l, 62, 0, 0, 0, 0, 0, [])),
  (62, (.ladd, 63, 0, 0, 0, 0, 0, [])),
  (63, (.lstore_n 1, 64, 1, 0, 0, 1, 0, [])),
  (64, (.iinc 4 1, 67, 4, 0, 0, 0, 0, [])),
  (67, (.goto (-25), 70, 42, 0, 0, 0, 0, [])),
  (70, (.iconst 0, 71, 0, 0, 0, 0, 0, [])),
  (71, (.istore 4, 73, 4, 0, 0, 1, 0, [])),
  (73, (.iload 4, 75, 4, 0, 0, 0, 0, [])),
  (75, (.bipush 12, 77, 0, 0, 0, 0, 0, [])),
  (77, (.if_icmp .ge 52, 80, 129, 0, 0, 0, 0, [])),
  (80, (.ldc2_w 11, 83, 31, 0, 425, 0, 0, [])),
  (83, (.ldc2_w 11, 86, 31, 0, 425, 0, 0, [])),
  (86, (.ldc2_w 11, 89, 31, 0, 425, 0, 0, [])),
  (89, (.lload_n 1, 90, 1, 0, 0, 0, 0, [])),
  (90, (.lmul, 91, 0, 0, 0, 0, 0, [])),
  (91, (.aload_n 0, 92, 0, 0, 0, 0, 0, [])),
  (92, (.iload_n 3, 93, 3, 0, 0, 0, 0, [])),
  (93, (.iload 4, 95, 4, 0, 0, 0, 0, [])),
  (95, (.invokevirtual 23, 98, 109, 3, 441, 0, 10, [0])),
  (98, (.i2l, 99, 0, 0, 0, 0, 0, [])),
  (99, (.ladd, 100, 0, 0, 0, 0, 0, [])),
  (100, (.lmul, 101, 0, 0, 0, 0, 0, [])),
  (101, (.aload_n 0, 102, 0, 0, 0, 0, 0, [])),
  (102, (.iload_n 3, 103, 3, 0, 0, 0, 0, [])),
  (103, (.iload 4, 105, 4, 0, 0, 0, 0, [])),
  (105, (.invokevirtual 26, 108, 108, 3, 450, 0, 10, [0])),
  (108, (.i2l, 109, 0, 0, 0, 0, 0, [])),
  (109, (.ladd, 110, 0, 0, 0, 0, 0, [])),
  (110, (.lmul, 111, 0, 0, 0, 0, 0, [])),
  (111, (.aload_n 0, 112, 0, 0, 0, 0, 0, [])),
  (112, (.iload_n 3, 113, 3, 0, 0, 0, 0, [])),
  (113, (.iconst 5, 114, 0, 0, 0, 0, 0, [])),
  (114, (.iload 4, 116, 4, 0, 0, 0, 0, [])),
  (116, (.imul, 117, 0, 0, 0, 0, 0, [])),
  (117, (.invokevirtual 26, 120, 108, 3, 450, 0, 10, [0]))]
def rn_t126_1 : List (Nat × rn_E) := [(120, (.i2l, 121, 0, 0, 0, 0, 0, [])),
  (121, (.ladd, 122, 0, 0, 0, 0, 0, [])),
  (122, (.lstore_n 1, 123, 1, 0, 0, 1, 0, [])),
  (123, (.iinc 4 1, 126, 4, 0, 0, 0, 0, [])),
  (126, (.goto (-53), 129, 73, 0, 0, 0, 0, [])),
  (129, (.iinc 3 1, 132, 3, 0, 0, 0, 0, [])),
  (132, (.goto (-99), 135, 33, 0, 0, 0, 0, [])),
  (135, (.iconst 0, 136, 0, 0, 0, 0, 0, [])),
  (136, (.istore_n 3, 137, 3, 0, 0, 1, 0, [])),
  (137, (.iload_n 3, 138, 3, 0, 0, 0, 0, [])),
  (138, (.bipush 20, 140, 0, 0, 0, 0, 0, [])),
  (140, (.if_icmp .ge 76, 143, 216, 0, 0, 0, 0, [])),
  (143, (.ldc2_w 11, 146, 31, 0, 425, 0, 0, [])),
  (146, (.ldc2_w 11, 149, 31, 0, 425, 0, 0, [])),
  (149, (.ldc2_w 11, 152, 31, 0, 425, 0, 0, [])),
  (152, (.lload_n 1, 153, 1, 0, 0, 0, 0, [])),
  (153, (.lmul, 154, 0, 0, 0, 0, 0, [])),
  (154, (.aload_n 0, 155, 0, 0, 0, 0, 0, [])),
  (155, (.iload_n 3, 156, 3, 0, 0, 0, 0, [])),
  (156, (.iconst 0, 157, 0, 0, 0, 0, 0, [])),
  (157, (.invokevirtual 29, 160, 111, 3, 461, 0, 10, [0])),
  (160, (.i2l, 161, 0, 0, 0, 0, 0, [])),
  (161, (.ladd, 162, 0, 0, 0, 0, 0, [])),
  (162, (.lmul, 163, 0, 0, 0, 0, 0, [])),
  (163, (.aload_n 0, 164, 0, 0, 0, 0, 0, [])),
  (164, (.iload_n 3, 165, 3, 0, 0, 0, 0, [])),
  (165, (.iconst 1, 166, 0, 0, 0, 0, 0, [])),
  (166, (.invokevirtual 29, 169, 111, 3, 461, 0, 10, [0])),
  (169, (.i2l, 170, 0, 0, 0, 0, 0, [])),
  (170, (.ladd, 171, 0, 0, 0, 0, 0, [])),
  (171, (.lmul, 172, 0, 0, 0, 0, 0, [])),
  (172, (.aload_n 0, 173, 0, 0, 0, 0, 0, [])),
  (173, (.iload_n 3, 174, 3, 0, 0, 0, 0, [])),
  (174, (.iload_n 3, 175, 3, 0, 0, 0, 0, [])),
  (175, (.bipush 6, 177, 0, 0, 0, 0, 0, [])),
  (177, (.irem, 178, 0, 0, 0, 0, 0, [])),
  (178, (.invokevirtual 32, 181, 110, 3, 488, 0, 10, [0])),
  (181, (.i2l, 182, 0, 0, 0, 0, 0, [])),
  (182, (.ladd, 183, 0, 0, 0, 0, 0, [])),
  (183, (.lstore_n 1, 184, 1, 0, 0, 1, 0, [])),
  (184, (.ldc2_w 11, 187, 31, 0, 425, 0, 0, [])),
  (187, (.ldc2_w 11, 190, 31, 0, 425, 0, 0, [])),
  (190, (.lload_n 1, 191, 1, 0, 0, 0, 0, [])),
  (191, (.lmul, 192, 0, 0, 0, 0, 0, [])),
  (192, (.aload_n 0, 193, 0, 0, 0, 0, 0, [])),
  (193, (.iload_n 3, 194, 3, 0, 0, 0, 0, [])),
  (194, (.iconst 4, 195, 0, 0, 0, 0, 0, [])),
  (195, (.invokevirtual 32, 198, 110, 3, 488, 0, 10, [0])),
  (198, (.i2l, 199, 0, 0, 0, 0, 0, [])),
  (199, (.ladd, 200, 0, 0, 0, 0, 0, [])),
  (200, (.lmul, 201, 0, 0, 0, 0, 0, [])),
  (201, (.aload_n 0, 202, 0, 0, 0, 0, 0, [])),
  (202, (.iload_n 3, 203, 3, 0, 0, 0, 0, [])),
  (203, (.iconst 2, 204, 0, 0, 0, 0, 0, [])),
  (204, (.invokevirtual 32, 207, 110, 3, 488, 0, 10, [0])),
  (207, (.i2l, 208, 0, 0, 0, 0, 0, [])),
  (208, (.ladd, 209, 0, 0, 0, 0, 0, [])),
  (209, (.lstore_n 1, 210, 1, 0, 0, 1, 0, [])),
  (210, (.iinc 3 1, 213, 3, 0, 0, 0, 0, [])),
  (213, (.goto (-76), 216, 137, 0, 0, 0, 0, [])),
  (216, (.lload_n 1, 217, 1, 0, 0, 0, 0, [])),
  (217, (.lreturn, 218, 0, 0, 0, 0, 0, []))]
def rn_t126 : List (Nat × rn_E) := rn_t126_0 ++ (rn_t126_1)
def rn_m126 : rn_Mt := (yL_print, cL_print, 5, (some .long), false, 0, 0, 8, 192, rn_t126)
def rn_t127_0 : List (Nat × rn_E) := [(0, (.aload_n 0, 1, 0, 0, 0, 0, 0, [])),
  (1, (.invokestatic 35, 4, 126, 1, 421, 0, 0, [0])),
  (4, (.lstore_n 1, 5, 1, 0, 0, 1, 0, [])),
  (5, (.aload_n 0, 6, 0, 0, 0, 0, 0, [])),
  (6, (.bipush 8, 8, 0, 0, 0, 0, 0, [])),
  (8, (.invokevirtual 13, 11, 106, 2, 276, 0, 10, [0])),
  (11, (.istore_n 3, 12, 3, 0, 0, 1, 0, [])),
  (12, (.aload_n 0, 13, 0, 0, 0, 0, 0, [])),
  (13, (.iconst 0, 14, 0, 0, 0, 0, 0, [])),
  (14, (.invokevirtual 13, 17, 106, 2, 276, 0, 10, [0])),
  (17, (.istore 4, 19, 4, 0, 0, 1, 0, [])),
  (19, (.aload_n 0, 20, 0, 0, 0, 0, 0, [])),
  (20, (.iconst 1, 21, 0, 0, 0, 0, 0, [])),
  (21, (.invokevirtual 13, 24, 106, 2, 276, 0, 10, [0])),
  (24, (.istore 5, 26, 5, 0, 0, 1, 0, [])),
  (26, (.aload_n 0, 27, 0, 0, 0, 0, 0, [])),
  (27, (.iconst 2, 28, 0, 0, 0, 0, 0, [])),
  (28, (.invokevirtual 13, 31, 106, 2, 276, 0, 10, [0])),
  (31, (.istore 6, 33, 6, 0, 0, 1, 0, [])),
  (33, (.aload_n 0, 34, 0, 0, 0, 0, 0, [])),
  (34, (.iconst (-1), 35, 0, 0, 0, 0, 0, [])),
  (35, (.invokevirtual 41, 38, 91, 2, 500, 0, 10, [0])),
  (38, (.iconst (-1), 39, 0, 0, 0, 0, 0, [])),
  (39, (.if_icmp .ne 175, 42, 214, 0, 0, 0, 0, [])),
  (42, (.aload_n 0, 43, 0, 0, 0, 0, 0, [])),
  (43, (.iconst 1, 44, 0, 0, 0, 0, 0, [])),
  (44, (.iconst (-1), 45, 0, 0, 0, 0, 0, [])),
  (45, (.iconst 0, 46, 0, 0, 0, 0, 0, [])),
  (46, (.iconst 1, 47, 0, 0, 0, 0, 0, [])),
  (47, (.iconst 0, 48, 0, 0, 0, 0, 0, [])),
  (48, (.invokevirtual 44, 51, 94, 6, 509, 0, 10, [0])),
  (51, (.iconst (-1), 52, 0, 0, 0, 0, 0, [])),
  (52, (.if_icmp .ne 162, 55, 214, 0, 0, 0, 0, [])),
  (55, (.aload_n 0, 56, 0, 0, 0, 0, 0, [])),
  (56, (.iconst 1, 57, 0, 0, 0, 0, 0, [])),
  (57, (.iconst 0, 58, 0, 0, 0, 0, 0, [])),
  (58, (.iconst 0, 59, 0, 0, 0, 0, 0, [])),
  (59, (.iconst 0, 60, 0, 0, 0, 0, 0, [])),
  (60, (.iconst 0, 61, 0, 0, 0, 0, 0, [])),
  (61, (.invokevirtual 44, 64, 94, 6, 509, 0, 10, [0])),
  (64, (.iconst (-1), 65, 0, 0, 0, 0, 0, [])),
  (65, (.if_icmp .ne 149, 68, 214, 0, 0, 0, 0, [])),
  (68, (.aload_n 0, 69, 0, 0, 0, 0, 0, [])),
  (69, (.bipush 50, 71, 0, 0, 0, 0, 0, [])),
  (71, (.iconst 0, 72, 0, 0, 0, 0, 0, [])),
  (72, (.bipush 11, 74, 0, 0, 0, 0, 0, [])),
  (74, (.iconst 1, 75, 0, 0, 0, 0, 0, [])),
  (75, (.iconst 1, 76, 0, 0, 0, 0, 0, [])),
  (76, (.invokevirtual 48, 79, 95, 6, 592, 0, 10, [0])),
  (79, (.iconst (-1), 80, 0, 0, 0, 0, 0, [])),
  (80, (.if_icmp .ne 134, 83, 214, 0, 0, 0, 0, [])),
  (83, (.aload_n 0, 84, 0, 0, 0, 0, 0, [])),
  (84, (.iconst 0, 85, 0, 0, 0, 0, 0, [])),
  (85, (.iconst 0, 86, 0, 0, 0, 0, 0, [])),
  (86, (.iconst 1, 87, 0, 0, 0, 0, 0, [])),
  (87, (.iconst 1, 88, 0, 0, 0, 0, 0, [])),
  (88, (.bipush 10, 90, 0, 0, 0, 0, 0, [])),
  (90, (.invokevirtual 48, 93, 95, 6, 592, 0, 10, [0])),
  (93, (.iconst (-1), 94, 0, 0, 0, 0, 0, [])),
  (94, (.if_icmp .ne 120, 97, 214, 0, 0, 0, 0, [])),
  (97, (.aload_n 0, 98, 0, 0, 0, 0, 0, [])),
  (98, (.iload 4, 100, 4, 0, 0, 0, 0, [])),
  (100, (.iconst 0, 101, 0, 0, 0, 0, 0, [])),
  (101, (.invokevirtual 51, 104, 96, 3, 598, 0, 10, [0])),
  (104, (.iconst (-1), 105, 0, 0, 0, 0, 0, [])),
  (105, (.if_icmp .ne 109, 108, 214, 0, 0, 0, 0, [])),
  (108, (.aload_n 0, 109, 0, 0, 0, 0, 0, [])),
  (109, (.iload 4, 111, 4, 0, 0, 0, 0, [])),
  (111, (.iconst 1, 112, 0, 0, 0, 0, 0, [])),
  (112, (.invokevirtual 54, 115, 97, 3, 616, 0, 10, [0]))]
def rn_t127_1 : List (Nat × rn_E) := [(115, (.iconst (-1), 116, 0, 0, 0, 0, 0, [])),
  (116, (.if_icmp .ne 98, 119, 214, 0, 0, 0, 0, [])),
  (119, (.aload_n 0, 120, 0, 0, 0, 0, 0, [])),
  (120, (.iconst (-1), 121, 0, 0, 0, 0, 0, [])),
  (121, (.iconst 0, 122, 0, 0, 0, 0, 0, [])),
  (122, (.invokevirtual 57, 125, 98, 3, 620, 0, 10, [0])),
  (125, (.iconst (-1), 126, 0, 0, 0, 0, 0, [])),
  (126, (.if_icmp .ne 88, 129, 214, 0, 0, 0, 0, [])),
  (129, (.aload_n 0, 130, 0, 0, 0, 0, 0, [])),
  (130, (.iload 5, 132, 5, 0, 0, 0, 0, [])),
  (132, (.iconst 1, 133, 0, 0, 0, 0, 0, [])),
  (133, (.invokevirtual 60, 136, 99, 3, 624, 0, 10, [0])),
  (136, (.iconst (-1), 137, 0, 0, 0, 0, 0, [])),
  (137, (.if_icmp .ne 77, 140, 214, 0, 0, 0, 0, [])),
  (140, (.aload_n 0, 141, 0, 0, 0, 0, 0, [])),
  (141, (.iconst (-1), 142, 0, 0, 0, 0, 0, [])),
  (142, (.invokevirtual 63, 145, 100, 2, 628, 0, 10, [0])),
  (145, (.iconst (-1), 146, 0, 0, 0, 0, 0, [])),
  (146, (.if_icmp .ne 68, 149, 214, 0, 0, 0, 0, [])),
  (149, (.aload_n 0, 150, 0, 0, 0, 0, 0, [])),
  (150, (.iload 4, 152, 4, 0, 0, 0, 0, [])),
  (152, (.iconst 0, 153, 0, 0, 0, 0, 0, [])),
  (153, (.invokevirtual 66, 156, 101, 3, 632, 0, 10, [0])),
  (156, (.iconst (-1), 157, 0, 0, 0, 0, 0, [])),
  (157, (.if_icmp .ne 57, 160, 214, 0, 0, 0, 0, [])),
  (160, (.aload_n 0, 161, 0, 0, 0, 0, 0, [])),
  (161, (.iload 6, 163, 6, 0, 0, 0, 0, [])),
  (163, (.invokevirtual 69, 166, 102, 2, 637, 0, 10, [0])),
  (166, (.iconst (-1), 167, 0, 0, 0, 0, 0, [])),
  (167, (.if_icmp .ne 47, 170, 214, 0, 0, 0, 0, [])),
  (170, (.aload_n 0, 171, 0, 0, 0, 0, 0, [])),
  (171, (.iconst 0, 172, 0, 0, 0, 0, 0, [])),
  (172, (.invokevirtual 72, 175, 103, 2, 645, 0, 10, [0])),
  (175, (.iconst (-1), 176, 0, 0, 0, 0, 0, [])),
  (176, (.if_icmp .ne 38, 179, 214, 0, 0, 0, 0, [])),
  (179, (.aload_n 0, 180, 0, 0, 0, 0, 0, [])),
  (180, (.bipush 11, 182, 0, 0, 0, 0, 0, [])),
  (182, (.invokevirtual 13, 185, 106, 2, 276, 0, 10, [0])),
  (185, (.iconst (-1), 186, 0, 0, 0, 0, 0, [])),
  (186, (.if_icmp .ne 28, 189, 214, 0, 0, 0, 0, [])),
  (189, (.aload_n 0, 190, 0, 0, 0, 0, 0, [])),
  (190, (.iload 4, 192, 4, 0, 0, 0, 0, [])),
  (192, (.iconst 0, 193, 0, 0, 0, 0, 0, [])),
  (193, (.invokevirtual 19, 196, 107, 3, 426, 0, 10, [0])),
  (196, (.iconst (-1), 197, 0, 0, 0, 0, 0, [])),
  (197, (.if_icmp .ne 17, 200, 214, 0, 0, 0, 0, [])),
  (200, (.aload_n 0, 201, 0, 0, 0, 0, 0, [])),
  (201, (.iconst (-1), 202, 0, 0, 0, 0, 0, [])),
  (202, (.iconst 0, 203, 0, 0, 0, 0, 0, [])),
  (203, (.invokevirtual 26, 206, 108, 3, 450, 0, 10, [0])),
  (206, (.iconst (-1), 207, 0, 0, 0, 0, 0, [])),
  (207, (.if_icmp .ne 7, 210, 214, 0, 0, 0, 0, [])),
  (210, (.iconst 1, 211, 0, 0, 0, 0, 0, [])),
  (211, (.goto 4, 214, 215, 0, 0, 0, 0, [])),
  (214, (.iconst 0, 215, 0, 0, 0, 0, 0, [])),
  (215, (.istore 7, 217, 7, 0, 0, 1, 0, [])),
  (217, (.iload 7, 219, 7, 0, 0, 0, 0, [])),
  (219, (.ifCond .eq 194, 222, 413, 0, 0, 0, 0, [])),
  (222, (.aload_n 0, 223, 0, 0, 0, 0, 0, [])),
  (223, (.iload 4, 225, 4, 0, 0, 0, 0, [])),
  (225, (.iconst 0, 226, 0, 0, 0, 0, 0, [])),
  (226, (.invokevirtual 23, 229, 109, 3, 441, 0, 10, [0])),
  (229, (.iconst (-1), 230, 0, 0, 0, 0, 0, [])),
  (230, (.if_icmp .ne 183, 233, 413, 0, 0, 0, 0, [])),
  (233, (.aload_n 0, 234, 0, 0, 0, 0, 0, [])),
  (234, (.iload 5, 236, 5, 0, 0, 0, 0, [])),
  (236, (.iconst 0, 237, 0, 0, 0, 0, 0, [])),
  (237, (.invokevirtual 32, 240, 110, 3, 488, 0, 10, [0])),
  (240, (.iconst (-1), 241, 0, 0, 0, 0, 0, [])),
  (241, (.if_icmp .ne 172, 244, 413, 0, 0, 0, 0, []))]
def rn_t127_2 : List (Nat × rn_E) := [(244, (.aload_n 0, 245, 0, 0, 0, 0, 0, [])),
  (245, (.iload 6, 247, 6, 0, 0, 0, 0, [])),
  (247, (.iconst 0, 248, 0, 0, 0, 0, 0, [])),
  (248, (.invokevirtual 29, 251, 111, 3, 461, 0, 10, [0])),
  (251, (.iconst (-1), 252, 0, 0, 0, 0, 0, [])),
  (252, (.if_icmp .ne 161, 255, 413, 0, 0, 0, 0, [])),
  (255, (.aload_n 0, 256, 0, 0, 0, 0, 0, [])),
  (256, (.iconst (-1), 257, 0, 0, 0, 0, 0, [])),
  (257, (.iconst 0, 258, 0, 0, 0, 0, 0, [])),
  (258, (.invokevirtual 75, 261, 112, 3, 673, 0, 10, [0])),
  (261, (.iconst (-1), 262, 0, 0, 0, 0, 0, [])),
  (262, (.if_icmp .ne 151, 265, 413, 0, 0, 0, 0, [])),
  (265, (.aload_n 0, 266, 0, 0, 0, 0, 0, [])),
  (266, (.iload 4, 268, 4, 0, 0, 0, 0, [])),
  (268, (.iconst 0, 269, 0, 0, 0, 0, 0, [])),
  (269, (.iconst 1, 270, 0, 0, 0, 0, 0, [])),
  (270, (.invokevirtual 78, 273, 113, 4, 687, 0, 10, [0])),
  (273, (.iconst (-1), 274, 0, 0, 0, 0, 0, [])),
  (274, (.if_icmp .ne 139, 277, 413, 0, 0, 0, 0, [])),
  (277, (.aload_n 0, 278, 0, 0, 0, 0, 0, [])),
  (278, (.iload 4, 280, 4, 0, 0, 0, 0, [])),
  (280, (.iconst 1, 281, 0, 0, 0, 0, 0, [])),
  (281, (.invokevirtual 82, 284, 114, 3, 692, 0, 10, [0])),
  (284, (.iconst (-1), 285, 0, 0, 0, 0, 0, [])),
  (285, (.if_icmp .ne 128, 288, 413, 0, 0, 0, 0, [])),
  (288, (.aload_n 0, 289, 0, 0, 0, 0, 0, [])),
  (289, (.iload 4, 291, 4, 0, 0, 0, 0, [])),
  (291, (.iconst 0, 292, 0, 0, 0, 0, 0, [])),
  (292, (.invokevirtual 85, 295, 115, 3, 701, 0, 10, [0])),
  (295, (.iconst (-1), 296, 0, 0, 0, 0, 0, [])),
  (296, (.if_icmp .ne 117, 299, 413, 0, 0, 0, 0, [])),
  (299, (.aload_n 0, 300, 0, 0, 0, 0, 0, [])),
  (300, (.iload 4, 302, 4, 0, 0, 0, 0, [])),
  (302, (.iconst 0, 303, 0, 0, 0, 0, 0, [])),
  (303, (.invokevirtual 88, 306, 116, 3, 705, 0, 10, [0])),
  (306, (.iconst (-1), 307, 0, 0, 0, 0, 0, [])),
  (307, (.if_icmp .ne 106, 310, 413, 0, 0, 0, 0, [])),
  (310, (.aload_n 0, 311, 0, 0, 0, 0, 0, [])),
  (311, (.iconst (-1), 312, 0, 0, 0, 0, 0, [])),
  (312, (.invokevirtual 91, 315, 117, 2, 713, 0, 10, [0])),
  (315, (.iconst (-1), 316, 0, 0, 0, 0, 0, [])),
  (316, (.if_icmp .ne 97, 319, 413, 0, 0, 0, 0, [])),
  (319, (.iload 4, 321, 4, 0, 0, 0, 0, [])),
  (321, (.bipush 6, 323, 0, 0, 0, 0, 0, [])),
  (323, (.if_icmp .lt 17, 326, 340, 0, 0, 0, 0, [])),
  (326, (.aload_n 0, 327, 0, 0, 0, 0, 0, [])),
  (327, (.iconst 1, 328, 0, 0, 0, 0, 0, [])),
  (328, (.iconst 0, 329, 0, 0, 0, 0, 0, [])),
  (329, (.iconst 0, 330, 0, 0, 0, 0, 0, [])),
  (330, (.iconst 1, 331, 0, 0, 0, 0, 0, [])),
  (331, (.iconst 0, 332, 0, 0, 0, 0, 0, [])),
  (332, (.invokevirtual 44, 335, 94, 6, 509, 0, 10, [0])),
  (335, (.bipush (-3), 337, 0, 0, 0, 0, 0, [])),
  (337, (.if_icmp .ne 76, 340, 413, 0, 0, 0, 0, [])),
  (340, (.iload 5, 342, 5, 0, 0, 0, 0, [])),
  (342, (.bipush 10, 344, 0, 0, 0, 0, 0, [])),
  (344, (.if_icmp .lt 17, 347, 361, 0, 0, 0, 0, [])),
  (347, (.aload_n 0, 348, 0, 0, 0, 0, 0, [])),
  (348, (.iconst 0, 349, 0, 0, 0, 0, 0, [])),
  (349, (.iconst 0, 350, 0, 0, 0, 0, 0, [])),
  (350, (.iconst 1, 351, 0, 0, 0, 0, 0, [])),
  (351, (.iconst 1, 352, 0, 0, 0, 0, 0, [])),
  (352, (.iconst 1, 353, 0, 0, 0, 0, 0, [])),
  (353, (.invokevirtual 48, 356, 95, 6, 592, 0, 10, [0])),
  (356, (.bipush (-3), 358, 0, 0, 0, 0, 0, [])),
  (358, (.if_icmp .ne 55, 361, 413, 0, 0, 0, 0, [])),
  (361, (.iload 4, 363, 4, 0, 0, 0, 0, [])),
  (363, (.ifCond .eq 46, 366, 409, 0, 0, 0, 0, [])),
  (366, (.aload_n 0, 367, 0, 0, 0, 0, 0, [])),
  (367, (.iconst 0, 368, 0, 0, 0, 0, 0, []))]
def rn_t127_3 : List (Nat × rn_E) := [(368, (.bipush 8, 370, 0, 0, 0, 0, 0, [])),
  (370, (.invokevirtual 51, 373, 96, 3, 598, 0, 10, [0])),
  (373, (.iconst (-1), 374, 0, 0, 0, 0, 0, [])),
  (374, (.if_icmp .ne 39, 377, 413, 0, 0, 0, 0, [])),
  (377, (.aload_n 0, 378, 0, 0, 0, 0, 0, [])),
  (378, (.iconst 0, 379, 0, 0, 0, 0, 0, [])),
  (379, (.iconst 2, 380, 0, 0, 0, 0, 0, [])),
  (380, (.invokevirtual 88, 383, 116, 3, 705, 0, 10, [0])),
  (383, (.iconst (-1), 384, 0, 0, 0, 0, 0, [])),
  (384, (.if_icmp .ne 29, 387, 413, 0, 0, 0, 0, [])),
  (387, (.aload_n 0, 388, 0, 0, 0, 0, 0, [])),
  (388, (.iconst 0, 389, 0, 0, 0, 0, 0, [])),
  (389, (.bipush 61, 391, 0, 0, 0, 0, 0, [])),
  (391, (.invokevirtual 85, 394, 115, 3, 701, 0, 10, [0])),
  (394, (.iconst (-1), 395, 0, 0, 0, 0, 0, [])),
  (395, (.if_icmp .ne 18, 398, 413, 0, 0, 0, 0, [])),
  (398, (.aload_n 0, 399, 0, 0, 0, 0, 0, [])),
  (399, (.iconst 0, 400, 0, 0, 0, 0, 0, [])),
  (400, (.bipush 61, 402, 0, 0, 0, 0, 0, [])),
  (402, (.invokevirtual 66, 405, 101, 3, 632, 0, 10, [0])),
  (405, (.iconst (-1), 406, 0, 0, 0, 0, 0, [])),
  (406, (.if_icmp .ne 7, 409, 413, 0, 0, 0, 0, [])),
  (409, (.iconst 1, 410, 0, 0, 0, 0, 0, [])),
  (410, (.goto 4, 413, 414, 0, 0, 0, 0, [])),
  (413, (.iconst 0, 414, 0, 0, 0, 0, 0, [])),
  (414, (.istore 7, 416, 7, 0, 0, 1, 0, [])),
  (416, (.iload 7, 418, 7, 0, 0, 0, 0, [])),
  (418, (.ifCond .eq 26, 421, 444, 0, 0, 0, 0, [])),
  (421, (.aload_n 0, 422, 0, 0, 0, 0, 0, [])),
  (422, (.invokestatic 35, 425, 126, 1, 421, 0, 0, [0])),
  (425, (.lload_n 1, 426, 1, 0, 0, 0, 0, [])),
  (426, (.lcmp, 427, 0, 0, 0, 0, 0, [])),
  (427, (.ifCond .ne 17, 430, 444, 0, 0, 0, 0, [])),
  (430, (.aload_n 0, 431, 0, 0, 0, 0, 0, [])),
  (431, (.bipush 8, 433, 0, 0, 0, 0, 0, [])),
  (433, (.invokevirtual 13, 436, 106, 2, 276, 0, 10, [0])),
  (436, (.iload_n 3, 437, 3, 0, 0, 0, 0, [])),
  (437, (.if_icmp .ne 7, 440, 444, 0, 0, 0, 0, [])),
  (440, (.iconst 1, 441, 0, 0, 0, 0, 0, [])),
  (441, (.goto 4, 444, 445, 0, 0, 0, 0, [])),
  (444, (.iconst 0, 445, 0, 0, 0, 0, 0, [])),
  (445, (.ireturn, 446, 0, 0, 0, 1, 0, []))]
def rn_t127 : List (Nat × rn_E) := rn_t127_0 ++ (rn_t127_1 ++ (rn_t127_2 ++ (rn_t127_3)))
def rn_m127 : rn_Mt := (yL_refused, cL_refused, 8, (some .boolean), false, 0, 0, 9, 216, rn_t127)
def rn_t128_0 : List (Nat × rn_E) := [(0, (.aload_n 0, 1, 0, 0, 0, 0, 0, [])),
  (1, (.iload_n 1, 2, 1, 0, 0, 0, 0, [])),
  (2, (.iconst 3, 3, 0, 0, 0, 0, 0, [])),
  (3, (.invokevirtual 19, 6, 107, 3, 426, 0, 10, [0])),
  (6, (.istore_n 2, 7, 2, 0, 0, 1, 0, [])),
  (7, (.aload_n 0, 8, 0, 0, 0, 0, 0, [])),
  (8, (.iload_n 1, 9, 1, 0, 0, 0, 0, [])),
  (9, (.iload_n 2, 10, 2, 0, 0, 0, 0, [])),
  (10, (.invokevirtual 26, 13, 108, 3, 450, 0, 10, [0])),
  (13, (.ifCond .lt 80, 16, 93, 0, 0, 0, 0, [])),
  (16, (.iload_n 2, 17, 2, 0, 0, 0, 0, [])),
  (17, (.bipush 60, 19, 0, 0, 0, 0, 0, [])),
  (19, (.if_icmp .ne 17, 22, 36, 0, 0, 0, 0, [])),
  (22, (.aload_n 0, 23, 0, 0, 0, 0, 0, [])),
  (23, (.iload_n 1, 24, 1, 0, 0, 0, 0, [])),
  (24, (.bipush 61, 26, 0, 0, 0, 0, 0, [])),
  (26, (.invokevirtual 26, 29, 108, 3, 450, 0, 10, [0])),
  (29, (.iconst (-1), 30, 0, 0, 0, 0, 0, [])),
  (30, (.if_icmp .ne 63, 33, 93, 0, 0, 0, 0, [])),
  (33, (.goto 16, 36, 49, 0, 0, 0, 0, [])),
  (36, (.aload_n 0, 37, 0, 0, 0, 0, 0, [])),
  (37, (.iload_n 1, 38, 1, 0, 0, 0, 0, [])),
  (38, (.iload_n 2, 39, 2, 0, 0, 0, 0, [])),
  (39, (.iconst 1, 40, 0, 0, 0, 0, 0, [])),
  (40, (.iadd, 41, 0, 0, 0, 0, 0, [])),
  (41, (.invokevirtual 26, 44, 108, 3, 450, 0, 10, [0])),
  (44, (.bipush (-9), 46, 0, 0, 0, 0, 0, [])),
  (46, (.if_icmp .ne 47, 49, 93, 0, 0, 0, 0, [])),
  (49, (.aload_n 0, 50, 0, 0, 0, 0, 0, [])),
  (50, (.iload_n 1, 51, 1, 0, 0, 0, 0, [])),
  (51, (.iconst 5, 52, 0, 0, 0, 0, 0, [])),
  (52, (.invokevirtual 19, 55, 107, 3, 426, 0, 10, [0])),
  (55, (.iload_n 2, 56, 2, 0, 0, 0, 0, [])),
  (56, (.iconst 1, 57, 0, 0, 0, 0, 0, [])),
  (57, (.iadd, 58, 0, 0, 0, 0, 0, [])),
  (58, (.if_icmp .gt 35, 61, 93, 0, 0, 0, 0, [])),
  (61, (.aload_n 0, 62, 0, 0, 0, 0, 0, [])),
  (62, (.iload_n 1, 63, 1, 0, 0, 0, 0, [])),
  (63, (.iconst 5, 64, 0, 0, 0, 0, 0, [])),
  (64, (.invokevirtual 19, 67, 107, 3, 426, 0, 10, [0])),
  (67, (.ifCond .le 26, 70, 93, 0, 0, 0, 0, [])),
  (70, (.aload_n 0, 71, 0, 0, 0, 0, 0, [])),
  (71, (.iload_n 1, 72, 1, 0, 0, 0, 0, [])),
  (72, (.bipush 6, 74, 0, 0, 0, 0, 0, [])),
  (74, (.invokevirtual 19, 77, 107, 3, 426, 0, 10, [0])),
  (77, (.aload_n 0, 78, 0, 0, 0, 0, 0, [])),
  (78, (.iload_n 1, 79, 1, 0, 0, 0, 0, [])),
  (79, (.iconst 0, 80, 0, 0, 0, 0, 0, [])),
  (80, (.iload_n 2, 81, 2, 0, 0, 0, 0, [])),
  (81, (.iconst 1, 82, 0, 0, 0, 0, 0, [])),
  (82, (.iadd, 83, 0, 0, 0, 0, 0, [])),
  (83, (.invokevirtual 78, 86, 113, 4, 687, 0, 10, [0])),
  (86, (.if_icmp .ne 7, 89, 93, 0, 0, 0, 0, [])),
  (89, (.iconst 1, 90, 0, 0, 0, 0, 0, [])),
  (90, (.goto 4, 93, 94, 0, 0, 0, 0, [])),
  (93, (.iconst 0, 94, 0, 0, 0, 0, 0, [])),
  (94, (.istore_n 3, 95, 3, 0, 0, 1, 0, [])),
  (95, (.iconst 0, 96, 0, 0, 0, 0, 0, [])),
  (96, (.istore 4, 98, 4, 0, 0, 1, 0, [])),
  (98, (.iload 4, 100, 4, 0, 0, 0, 0, [])),
  (100, (.iload_n 2, 101, 2, 0, 0, 0, 0, [])),
  (101, (.if_icmp .ge 152, 104, 253, 0, 0, 0, 0, [])),
  (104, (.iload_n 3, 105, 3, 0, 0, 0, 0, [])),
  (105, (.ifCond .eq 148, 108, 253, 0, 0, 0, 0, [])),
  (108, (.aload_n 0, 109, 0, 0, 0, 0, 0, [])),
  (109, (.iload_n 1, 110, 1, 0, 0, 0, 0, [])),
  (110, (.iload 4, 112, 4, 0, 0, 0, 0, [])),
  (112, (.iconst 1, 113, 0, 0, 0, 0, 0, [])),
  (113, (.iadd, 114, 0, 0, 0, 0, 0, [])),
  (114, (.invokevirtual 26, 117, 108, 3, 450, 0, 10, [0]))]
def rn_t128_1 : List (Nat × rn_E) := [(117, (.bipush 100, 119, 0, 0, 0, 0, 0, [])),
  (119, (.idiv, 120, 0, 0, 0, 0, 0, [])),
  (120, (.aload_n 0, 121, 0, 0, 0, 0, 0, [])),
  (121, (.iload_n 1, 122, 1, 0, 0, 0, 0, [])),
  (122, (.iload 4, 124, 4, 0, 0, 0, 0, [])),
  (124, (.invokevirtual 26, 127, 108, 3, 450, 0, 10, [0])),
  (127, (.bipush 100, 129, 0, 0, 0, 0, 0, [])),
  (129, (.idiv, 130, 0, 0, 0, 0, 0, [])),
  (130, (.isub, 131, 0, 0, 0, 0, 0, [])),
  (131, (.istore 5, 133, 5, 0, 0, 1, 0, [])),
  (133, (.aload_n 0, 134, 0, 0, 0, 0, 0, [])),
  (134, (.iload_n 1, 135, 1, 0, 0, 0, 0, [])),
  (135, (.iload 4, 137, 4, 0, 0, 0, 0, [])),
  (137, (.iconst 1, 138, 0, 0, 0, 0, 0, [])),
  (138, (.iadd, 139, 0, 0, 0, 0, 0, [])),
  (139, (.invokevirtual 26, 142, 108, 3, 450, 0, 10, [0])),
  (142, (.bipush 100, 144, 0, 0, 0, 0, 0, [])),
  (144, (.irem, 145, 0, 0, 0, 0, 0, [])),
  (145, (.aload_n 0, 146, 0, 0, 0, 0, 0, [])),
  (146, (.iload_n 1, 147, 1, 0, 0, 0, 0, [])),
  (147, (.iload 4, 149, 4, 0, 0, 0, 0, [])),
  (149, (.invokevirtual 26, 152, 108, 3, 450, 0, 10, [0])),
  (152, (.bipush 100, 154, 0, 0, 0, 0, 0, [])),
  (154, (.irem, 155, 0, 0, 0, 0, 0, [])),
  (155, (.isub, 156, 0, 0, 0, 0, 0, [])),
  (156, (.istore 6, 158, 6, 0, 0, 1, 0, [])),
  (158, (.iload 5, 160, 5, 0, 0, 0, 0, [])),
  (160, (.iload 5, 162, 5, 0, 0, 0, 0, [])),
  (162, (.imul, 163, 0, 0, 0, 0, 0, [])),
  (163, (.iload 6, 165, 6, 0, 0, 0, 0, [])),
  (165, (.iload 6, 167, 6, 0, 0, 0, 0, [])),
  (167, (.imul, 168, 0, 0, 0, 0, 0, [])),
  (168, (.iadd, 169, 0, 0, 0, 0, 0, [])),
  (169, (.ifCond .le 76, 172, 245, 0, 0, 0, 0, [])),
  (172, (.iload 5, 174, 5, 0, 0, 0, 0, [])),
  (174, (.iload 5, 176, 5, 0, 0, 0, 0, [])),
  (176, (.imul, 177, 0, 0, 0, 0, 0, [])),
  (177, (.iload 6, 179, 6, 0, 0, 0, 0, [])),
  (179, (.iload 6, 181, 6, 0, 0, 0, 0, [])),
  (181, (.imul, 182, 0, 0, 0, 0, 0, [])),
  (182, (.iadd, 183, 0, 0, 0, 0, 0, [])),
  (183, (.iconst 3, 184, 0, 0, 0, 0, 0, [])),
  (184, (.if_icmp .ge 61, 187, 245, 0, 0, 0, 0, [])),
  (187, (.aload_n 0, 188, 0, 0, 0, 0, 0, [])),
  (188, (.iload_n 1, 189, 1, 0, 0, 0, 0, [])),
  (189, (.iload 4, 191, 4, 0, 0, 0, 0, [])),
  (191, (.iconst 2, 192, 0, 0, 0, 0, 0, [])),
  (192, (.invokevirtual 78, 195, 113, 4, 687, 0, 10, [0])),
  (195, (.ifCond .ne 50, 198, 245, 0, 0, 0, 0, [])),
  (198, (.aload_n 0, 199, 0, 0, 0, 0, 0, [])),
  (199, (.iload_n 1, 200, 1, 0, 0, 0, 0, [])),
  (200, (.iload 4, 202, 4, 0, 0, 0, 0, [])),
  (202, (.iconst 1, 203, 0, 0, 0, 0, 0, [])),
  (203, (.invokevirtual 78, 206, 113, 4, 687, 0, 10, [0])),
  (206, (.ifCond .ne 39, 209, 245, 0, 0, 0, 0, [])),
  (209, (.iload 4, 211, 4, 0, 0, 0, 0, [])),
  (211, (.ifCond .eq 30, 214, 241, 0, 0, 0, 0, [])),
  (214, (.aload_n 0, 215, 0, 0, 0, 0, 0, [])),
  (215, (.iload_n 1, 216, 1, 0, 0, 0, 0, [])),
  (216, (.iload 4, 218, 4, 0, 0, 0, 0, [])),
  (218, (.iconst 1, 219, 0, 0, 0, 0, 0, [])),
  (219, (.isub, 220, 0, 0, 0, 0, 0, [])),
  (220, (.iconst 3, 221, 0, 0, 0, 0, 0, [])),
  (221, (.invokevirtual 78, 224, 113, 4, 687, 0, 10, [0])),
  (224, (.ifCond .lt 21, 227, 245, 0, 0, 0, 0, [])),
  (227, (.aload_n 0, 228, 0, 0, 0, 0, 0, [])),
  (228, (.iload_n 1, 229, 1, 0, 0, 0, 0, [])),
  (229, (.iload 4, 231, 4, 0, 0, 0, 0, [])),
  (231, (.iconst 1, 232, 0, 0, 0, 0, 0, [])),
  (232, (.isub, 233, 0, 0, 0, 0, 0, []))]
def rn_t128_2 : List (Nat × rn_E) := [(233, (.iconst 3, 234, 0, 0, 0, 0, 0, [])),
  (234, (.invokevirtual 78, 237, 113, 4, 687, 0, 10, [0])),
  (237, (.iconst 4, 238, 0, 0, 0, 0, 0, [])),
  (238, (.if_icmp .gt 7, 241, 245, 0, 0, 0, 0, [])),
  (241, (.iconst 1, 242, 0, 0, 0, 0, 0, [])),
  (242, (.goto 4, 245, 246, 0, 0, 0, 0, [])),
  (245, (.iconst 0, 246, 0, 0, 0, 0, 0, [])),
  (246, (.istore_n 3, 247, 3, 0, 0, 1, 0, [])),
  (247, (.iinc 4 1, 250, 4, 0, 0, 0, 0, [])),
  (250, (.goto (-152), 253, 98, 0, 0, 0, 0, [])),
  (253, (.iconst 1, 254, 0, 0, 0, 0, 0, [])),
  (254, (.istore 4, 256, 4, 0, 0, 1, 0, [])),
  (256, (.iload 4, 258, 4, 0, 0, 0, 0, [])),
  (258, (.bipush 9, 260, 0, 0, 0, 0, 0, [])),
  (260, (.if_icmp .ge 144, 263, 404, 0, 0, 0, 0, [])),
  (263, (.iload_n 3, 264, 3, 0, 0, 0, 0, [])),
  (264, (.ifCond .eq 140, 267, 404, 0, 0, 0, 0, [])),
  (267, (.bipush (-9), 269, 0, 0, 0, 0, 0, [])),
  (269, (.istore 5, 271, 5, 0, 0, 1, 0, [])),
  (271, (.iconst 0, 272, 0, 0, 0, 0, 0, [])),
  (272, (.istore 6, 274, 6, 0, 0, 1, 0, [])),
  (274, (.iload 6, 276, 6, 0, 0, 0, 0, [])),
  (276, (.iload 4, 278, 4, 0, 0, 0, 0, [])),
  (278, (.iadd, 279, 0, 0, 0, 0, 0, [])),
  (279, (.iload_n 2, 280, 2, 0, 0, 0, 0, [])),
  (280, (.iconst 1, 281, 0, 0, 0, 0, 0, [])),
  (281, (.iadd, 282, 0, 0, 0, 0, 0, [])),
  (282, (.if_icmp .gt 94, 285, 376, 0, 0, 0, 0, [])),
  (285, (.iload_n 3, 286, 3, 0, 0, 0, 0, [])),
  (286, (.ifCond .eq 90, 289, 376, 0, 0, 0, 0, [])),
  (289, (.aload_n 0, 290, 0, 0, 0, 0, 0, [])),
  (290, (.iload_n 1, 291, 1, 0, 0, 0, 0, [])),
  (291, (.iload 6, 293, 6, 0, 0, 0, 0, [])),
  (293, (.iload 4, 295, 4, 0, 0, 0, 0, [])),
  (295, (.invokevirtual 78, 298, 113, 4, 687, 0, 10, [0])),
  (298, (.istore 7, 300, 7, 0, 0, 1, 0, [])),
  (300, (.iload 4, 302, 4, 0, 0, 0, 0, [])),
  (302, (.iconst 3, 303, 0, 0, 0, 0, 0, [])),
  (303, (.if_icmp .lt 33, 306, 336, 0, 0, 0, 0, [])),
  (306, (.iload 7, 308, 7, 0, 0, 0, 0, [])),
  (308, (.aload_n 0, 309, 0, 0, 0, 0, 0, [])),
  (309, (.iload_n 1, 310, 1, 0, 0, 0, 0, [])),
  (310, (.iload 6, 312, 6, 0, 0, 0, 0, [])),
  (312, (.iload 4, 314, 4, 0, 0, 0, 0, [])),
  (314, (.iconst 1, 315, 0, 0, 0, 0, 0, [])),
  (315, (.isub, 316, 0, 0, 0, 0, 0, [])),
  (316, (.invokevirtual 78, 319, 113, 4, 687, 0, 10, [0])),
  (319, (.aload_n 0, 320, 0, 0, 0, 0, 0, [])),
  (320, (.iload_n 1, 321, 1, 0, 0, 0, 0, [])),
  (321, (.iload 6, 323, 6, 0, 0, 0, 0, [])),
  (323, (.iload 4, 325, 4, 0, 0, 0, 0, [])),
  (325, (.iadd, 326, 0, 0, 0, 0, 0, [])),
  (326, (.iconst 3, 327, 0, 0, 0, 0, 0, [])),
  (327, (.isub, 328, 0, 0, 0, 0, 0, [])),
  (328, (.iconst 3, 329, 0, 0, 0, 0, 0, [])),
  (329, (.invokevirtual 78, 332, 113, 4, 687, 0, 10, [0])),
  (332, (.iadd, 333, 0, 0, 0, 0, 0, [])),
  (333, (.if_icmp .ne 7, 336, 340, 0, 0, 0, 0, [])),
  (336, (.iconst 1, 337, 0, 0, 0, 0, 0, [])),
  (337, (.goto 4, 340, 341, 0, 0, 0, 0, [])),
  (340, (.iconst 0, 341, 0, 0, 0, 0, 0, [])),
  (341, (.istore_n 3, 342, 3, 0, 0, 1, 0, [])),
  (342, (.iload 5, 344, 5, 0, 0, 0, 0, [])),
  (344, (.ifCond .lt 17, 347, 361, 0, 0, 0, 0, [])),
  (347, (.iload 7, 349, 7, 0, 0, 0, 0, [])),
  (349, (.aload_n 0, 350, 0, 0, 0, 0, 0, [])),
  (350, (.iload_n 1, 351, 1, 0, 0, 0, 0, [])),
  (351, (.iload 5, 353, 5, 0, 0, 0, 0, [])),
  (353, (.iload 4, 355, 4, 0, 0, 0, 0, [])),
  (355, (.invokevirtual 78, 358, 113, 4, 687, 0, 10, [0]))]
def rn_t128_3 : List (Nat × rn_E) := [(358, (.if_icmp .ge 8, 361, 366, 0, 0, 0, 0, [])),
  (361, (.iload 6, 363, 6, 0, 0, 0, 0, [])),
  (363, (.goto 5, 366, 368, 0, 0, 0, 0, [])),
  (366, (.iload 5, 368, 5, 0, 0, 0, 0, [])),
  (368, (.istore 5, 370, 5, 0, 0, 1, 0, [])),
  (370, (.iinc 6 1, 373, 6, 0, 0, 0, 0, [])),
  (373, (.goto (-99), 376, 274, 0, 0, 0, 0, [])),
  (376, (.iload_n 3, 377, 3, 0, 0, 0, 0, [])),
  (377, (.ifCond .eq 19, 380, 396, 0, 0, 0, 0, [])),
  (380, (.aload_n 0, 381, 0, 0, 0, 0, 0, [])),
  (381, (.iload_n 1, 382, 1, 0, 0, 0, 0, [])),
  (382, (.iload 4, 384, 4, 0, 0, 0, 0, [])),
  (384, (.invokevirtual 82, 387, 114, 3, 692, 0, 10, [0])),
  (387, (.iload 5, 389, 5, 0, 0, 0, 0, [])),
  (389, (.if_icmp .ne 7, 392, 396, 0, 0, 0, 0, [])),
  (392, (.iconst 1, 393, 0, 0, 0, 0, 0, [])),
  (393, (.goto 4, 396, 397, 0, 0, 0, 0, [])),
  (396, (.iconst 0, 397, 0, 0, 0, 0, 0, [])),
  (397, (.istore_n 3, 398, 3, 0, 0, 1, 0, [])),
  (398, (.iinc 4 3, 401, 4, 0, 0, 0, 0, [])),
  (401, (.goto (-145), 404, 256, 0, 0, 0, 0, [])),
  (404, (.iload_n 3, 405, 3, 0, 0, 0, 0, [])),
  (405, (.ireturn, 406, 0, 0, 0, 1, 0, []))]
def rn_t128 : List (Nat × rn_E) := rn_t128_0 ++ (rn_t128_1 ++ (rn_t128_2 ++ (rn_t128_3)))
def rn_m128 : rn_Mt := (yL_areCells, cL_areCells, 8, (some .boolean), false, 0, 0, 5, 115, rn_t128)
def rn_t129_0 : List (Nat × rn_E) := [(0, (.aload_n 0, 1, 0, 0, 0, 0, 0, [])),
  (1, (.invokestatic 35, 4, 126, 1, 421, 0, 0, [0])),
  (4, (.lstore_n 2, 5, 2, 0, 0, 1, 0, [])),
  (5, (.aload_n 0, 6, 0, 0, 0, 0, 0, [])),
  (6, (.bipush 8, 8, 0, 0, 0, 0, 0, [])),
  (8, (.invokevirtual 13, 11, 106, 2, 276, 0, 10, [0])),
  (11, (.istore 4, 13, 4, 0, 0, 1, 0, [])),
  (13, (.bipush (-9), 15, 0, 0, 0, 0, 0, [])),
  (15, (.istore 5, 17, 5, 0, 0, 1, 0, [])),
  (17, (.iconst 0, 18, 0, 0, 0, 0, 0, [])),
  (18, (.istore 6, 20, 6, 0, 0, 1, 0, [])),
  (20, (.iconst 1, 21, 0, 0, 0, 0, 0, [])),
  (21, (.istore 7, 23, 7, 0, 0, 1, 0, [])),
  (23, (.aload_n 0, 24, 0, 0, 0, 0, 0, [])),
  (24, (.iconst 2, 25, 0, 0, 0, 0, 0, [])),
  (25, (.invokevirtual 13, 28, 106, 2, 276, 0, 10, [0])),
  (28, (.bipush 20, 30, 0, 0, 0, 0, 0, [])),
  (30, (.if_icmp .ne 7, 33, 37, 0, 0, 0, 0, [])),
  (33, (.iconst 1, 34, 0, 0, 0, 0, 0, [])),
  (34, (.goto 4, 37, 38, 0, 0, 0, 0, [])),
  (37, (.iconst 0, 38, 0, 0, 0, 0, 0, [])),
  (38, (.istore 8, 40, 8, 0, 0, 1, 0, [])),
  (40, (.iconst 0, 41, 0, 0, 0, 0, 0, [])),
  (41, (.istore 9, 43, 9, 0, 0, 1, 0, [])),
  (43, (.iload 9, 45, 9, 0, 0, 0, 0, [])),
  (45, (.bipush 61, 47, 0, 0, 0, 0, 0, [])),
  (47, (.if_icmp .ge 331, 50, 378, 0, 0, 0, 0, [])),
  (50, (.iload 7, 52, 7, 0, 0, 0, 0, [])),
  (52, (.ifCond .eq 326, 55, 378, 0, 0, 0, 0, [])),
  (55, (.aload_n 0, 56, 0, 0, 0, 0, 0, [])),
  (56, (.iload_n 1, 57, 1, 0, 0, 0, 0, [])),
  (57, (.iload 9, 59, 9, 0, 0, 0, 0, [])),
  (59, (.invokevirtual 85, 62, 115, 3, 701, 0, 10, [0])),
  (62, (.istore 10, 64, 10, 0, 0, 1, 0, [])),
  (64, (.aload_n 0, 65, 0, 0, 0, 0, 0, [])),
  (65, (.iload_n 1, 66, 1, 0, 0, 0, 0, [])),
  (66, (.iload 9, 68, 9, 0, 0, 0, 0, [])),
  (68, (.invokevirtual 66, 71, 101, 3, 632, 0, 10, [0])),
  (71, (.istore 11, 73, 11, 0, 0, 1, 0, [])),
  (73, (.iload 10, 75, 10, 0, 0, 0, 0, [])),
  (75, (.ifCond .lt 84, 78, 159, 0, 0, 0, 0, [])),
  (78, (.iload 10, 80, 10, 0, 0, 0, 0, [])),
  (80, (.iconst 5, 81, 0, 0, 0, 0, 0, [])),
  (81, (.if_icmp .ge 78, 84, 159, 0, 0, 0, 0, [])),
  (84, (.iload 11, 86, 11, 0, 0, 0, 0, [])),
  (86, (.iload 10, 88, 10, 0, 0, 0, 0, [])),
  (88, (.ifCond .le 8, 91, 96, 0, 0, 0, 0, [])),
  (91, (.bipush (-2), 93, 0, 0, 0, 0, 0, [])),
  (93, (.goto 20, 96, 113, 0, 0, 0, 0, [])),
  (96, (.iload 8, 98, 8, 0, 0, 0, 0, [])),
  (98, (.ifCond .eq 8, 101, 106, 0, 0, 0, 0, [])),
  (101, (.bipush (-3), 103, 0, 0, 0, 0, 0, [])),
  (103, (.goto 10, 106, 113, 0, 0, 0, 0, [])),
  (106, (.aload_n 0, 107, 0, 0, 0, 0, 0, [])),
  (107, (.iconst 2, 108, 0, 0, 0, 0, 0, [])),
  (108, (.invokevirtual 13, 111, 106, 2, 276, 0, 10, [0])),
  (111, (.iconst 1, 112, 0, 0, 0, 0, 0, [])),
  (112, (.isub, 113, 0, 0, 0, 0, 0, [])),
  (113, (.if_icmp .ne 46, 116, 159, 0, 0, 0, 0, [])),
  (116, (.iload 10, 118, 10, 0, 0, 0, 0, [])),
  (118, (.iconst 1, 119, 0, 0, 0, 0, 0, [])),
  (119, (.if_icmp .ne 7, 122, 126, 0, 0, 0, 0, [])),
  (122, (.iconst 1, 123, 0, 0, 0, 0, 0, [])),
  (123, (.goto 4, 126, 127, 0, 0, 0, 0, [])),
  (126, (.iconst 0, 127, 0, 0, 0, 0, 0, [])),
  (127, (.iload 9, 129, 9, 0, 0, 0, 0, [])),
  (129, (.aload_n 0, 130, 0, 0, 0, 0, 0, [])),
  (130, (.iload_n 1, 131, 1, 0, 0, 0, 0, [])),
  (131, (.iconst 2, 132, 0, 0, 0, 0, 0, [])),
  (132, (.invokevirtual 19, 135, 107, 3, 426, 0, 10, [0]))]
def rn_t129_1 : List (Nat × rn_E) := [(135, (.iadd, 136, 0, 0, 0, 0, 0, [])),
  (136, (.aload_n 0, 137, 0, 0, 0, 0, 0, [])),
  (137, (.iload_n 1, 138, 1, 0, 0, 0, 0, [])),
  (138, (.iconst 3, 139, 0, 0, 0, 0, 0, [])),
  (139, (.invokevirtual 19, 142, 107, 3, 426, 0, 10, [0])),
  (142, (.iconst 1, 143, 0, 0, 0, 0, 0, [])),
  (143, (.iadd, 144, 0, 0, 0, 0, 0, [])),
  (144, (.if_icmp .le 7, 147, 151, 0, 0, 0, 0, [])),
  (147, (.iconst 1, 148, 0, 0, 0, 0, 0, [])),
  (148, (.goto 4, 151, 152, 0, 0, 0, 0, [])),
  (151, (.iconst 0, 152, 0, 0, 0, 0, 0, [])),
  (152, (.if_icmp .ne 7, 155, 159, 0, 0, 0, 0, [])),
  (155, (.iconst 1, 156, 0, 0, 0, 0, 0, [])),
  (156, (.goto 4, 159, 160, 0, 0, 0, 0, [])),
  (159, (.iconst 0, 160, 0, 0, 0, 0, 0, [])),
  (160, (.istore 7, 162, 7, 0, 0, 1, 0, [])),
  (162, (.iload 7, 164, 7, 0, 0, 0, 0, [])),
  (164, (.ifCond .eq 195, 167, 359, 0, 0, 0, 0, [])),
  (167, (.iload 10, 169, 10, 0, 0, 0, 0, [])),
  (169, (.ifCond .ne 190, 172, 359, 0, 0, 0, 0, [])),
  (172, (.iload 8, 174, 8, 0, 0, 0, 0, [])),
  (174, (.ifCond .ne 185, 177, 359, 0, 0, 0, 0, [])),
  (177, (.aload_n 0, 178, 0, 0, 0, 0, 0, [])),
  (178, (.iload 11, 180, 11, 0, 0, 0, 0, [])),
  (180, (.iconst 2, 181, 0, 0, 0, 0, 0, [])),
  (181, (.invokevirtual 29, 184, 111, 3, 461, 0, 10, [0])),
  (184, (.istore 12, 186, 12, 0, 0, 1, 0, [])),
  (186, (.iload 5, 188, 5, 0, 0, 0, 0, [])),
  (188, (.ifCond .lt 10, 191, 198, 0, 0, 0, 0, [])),
  (191, (.iload 12, 193, 12, 0, 0, 0, 0, [])),
  (193, (.iload 6, 195, 6, 0, 0, 0, 0, [])),
  (195, (.if_icmp .ge 8, 198, 203, 0, 0, 0, 0, [])),
  (198, (.iload 9, 200, 9, 0, 0, 0, 0, [])),
  (200, (.goto 5, 203, 205, 0, 0, 0, 0, [])),
  (203, (.iload 5, 205, 5, 0, 0, 0, 0, [])),
  (205, (.istore 5, 207, 5, 0, 0, 1, 0, [])),
  (207, (.iload 5, 209, 5, 0, 0, 0, 0, [])),
  (209, (.iload 9, 211, 9, 0, 0, 0, 0, [])),
  (211, (.if_icmp .ne 8, 214, 219, 0, 0, 0, 0, [])),
  (214, (.iload 12, 216, 12, 0, 0, 0, 0, [])),
  (216, (.goto 5, 219, 221, 0, 0, 0, 0, [])),
  (219, (.iload 6, 221, 6, 0, 0, 0, 0, [])),
  (221, (.istore 6, 223, 6, 0, 0, 1, 0, [])),
  (223, (.aload_n 0, 224, 0, 0, 0, 0, 0, [])),
  (224, (.iload 11, 226, 11, 0, 0, 0, 0, [])),
  (226, (.bipush 6, 228, 0, 0, 0, 0, 0, [])),
  (228, (.invokevirtual 29, 231, 111, 3, 461, 0, 10, [0])),
  (231, (.ifCond .ne 111, 234, 342, 0, 0, 0, 0, [])),
  (234, (.aload_n 0, 235, 0, 0, 0, 0, 0, [])),
  (235, (.iload 11, 237, 11, 0, 0, 0, 0, [])),
  (237, (.iconst 0, 238, 0, 0, 0, 0, 0, [])),
  (238, (.invokevirtual 29, 241, 111, 3, 461, 0, 10, [0])),
  (241, (.iload_n 1, 242, 1, 0, 0, 0, 0, [])),
  (242, (.if_icmp .ne 100, 245, 342, 0, 0, 0, 0, [])),
  (245, (.aload_n 0, 246, 0, 0, 0, 0, 0, [])),
  (246, (.iload 11, 248, 11, 0, 0, 0, 0, [])),
  (248, (.iconst 1, 249, 0, 0, 0, 0, 0, [])),
  (249, (.invokevirtual 29, 252, 111, 3, 461, 0, 10, [0])),
  (252, (.iload 9, 254, 9, 0, 0, 0, 0, [])),
  (254, (.if_icmp .ne 88, 257, 342, 0, 0, 0, 0, [])),
  (257, (.iload 12, 259, 12, 0, 0, 0, 0, [])),
  (259, (.bipush 10, 261, 0, 0, 0, 0, 0, [])),
  (261, (.aload_n 0, 262, 0, 0, 0, 0, 0, [])),
  (262, (.iload 11, 264, 11, 0, 0, 0, 0, [])),
  (264, (.iconst 3, 265, 0, 0, 0, 0, 0, [])),
  (265, (.invokevirtual 29, 268, 111, 3, 461, 0, 10, [0])),
  (268, (.imul, 269, 0, 0, 0, 0, 0, [])),
  (269, (.iconst 2, 270, 0, 0, 0, 0, 0, [])),
  (270, (.iload 9, 272, 9, 0, 0, 0, 0, [])),
  (272, (.imul, 273, 0, 0, 0, 0, 0, []))]
def rn_t129_2 : List (Nat × rn_E) := [(273, (.aload_n 0, 274, 0, 0, 0, 0, 0, [])),
  (274, (.iload_n 1, 275, 1, 0, 0, 0, 0, [])),
  (275, (.iconst 2, 276, 0, 0, 0, 0, 0, [])),
  (276, (.invokevirtual 19, 279, 107, 3, 426, 0, 10, [0])),
  (279, (.iadd, 280, 0, 0, 0, 0, 0, [])),
  (280, (.iconst 1, 281, 0, 0, 0, 0, 0, [])),
  (281, (.isub, 282, 0, 0, 0, 0, 0, [])),
  (282, (.aload_n 0, 283, 0, 0, 0, 0, 0, [])),
  (283, (.iload_n 1, 284, 1, 0, 0, 0, 0, [])),
  (284, (.iconst 3, 285, 0, 0, 0, 0, 0, [])),
  (285, (.invokevirtual 19, 288, 107, 3, 426, 0, 10, [0])),
  (288, (.isub, 289, 0, 0, 0, 0, 0, [])),
  (289, (.invokestatic 94, 292, 125, 1, 729, 0, 0, [0])),
  (292, (.iadd, 293, 0, 0, 0, 0, 0, [])),
  (293, (.if_icmp .ne 49, 296, 342, 0, 0, 0, 0, [])),
  (296, (.aload_n 0, 297, 0, 0, 0, 0, 0, [])),
  (297, (.iload 11, 299, 11, 0, 0, 0, 0, [])),
  (299, (.iconst 3, 300, 0, 0, 0, 0, 0, [])),
  (300, (.invokevirtual 29, 303, 111, 3, 461, 0, 10, [0])),
  (303, (.aload_n 0, 304, 0, 0, 0, 0, 0, [])),
  (304, (.iload_n 1, 305, 1, 0, 0, 0, 0, [])),
  (305, (.iload 9, 307, 9, 0, 0, 0, 0, [])),
  (307, (.aload_n 0, 308, 0, 0, 0, 0, 0, [])),
  (308, (.iload_n 1, 309, 1, 0, 0, 0, 0, [])),
  (309, (.iconst 2, 310, 0, 0, 0, 0, 0, [])),
  (310, (.invokevirtual 19, 313, 107, 3, 426, 0, 10, [0])),
  (313, (.invokevirtual 78, 316, 113, 4, 687, 0, 10, [0])),
  (316, (.if_icmp .ne 26, 319, 342, 0, 0, 0, 0, [])),
  (319, (.aload_n 0, 320, 0, 0, 0, 0, 0, [])),
  (320, (.invokevirtual 97, 323, 105, 1, 265, 0, 10, [0])),
  (323, (.iload 4, 325, 4, 0, 0, 0, 0, [])),
  (325, (.iconst 5, 326, 0, 0, 0, 0, 0, [])),
  (326, (.if_icmp .ne 7, 329, 333, 0, 0, 0, 0, [])),
  (329, (.iconst 4, 330, 0, 0, 0, 0, 0, [])),
  (330, (.goto 5, 333, 335, 0, 0, 0, 0, [])),
  (333, (.iload 4, 335, 4, 0, 0, 0, 0, [])),
  (335, (.if_icmp .ne 7, 338, 342, 0, 0, 0, 0, [])),
  (338, (.iconst 1, 339, 0, 0, 0, 0, 0, [])),
  (339, (.goto 4, 342, 343, 0, 0, 0, 0, [])),
  (342, (.iconst 0, 343, 0, 0, 0, 0, 0, [])),
  (343, (.istore 7, 345, 7, 0, 0, 1, 0, [])),
  (345, (.iload 4, 347, 4, 0, 0, 0, 0, [])),
  (347, (.iconst 5, 348, 0, 0, 0, 0, 0, [])),
  (348, (.if_icmp .ne 7, 351, 355, 0, 0, 0, 0, [])),
  (351, (.iconst 4, 352, 0, 0, 0, 0, 0, [])),
  (352, (.goto 5, 355, 357, 0, 0, 0, 0, [])),
  (355, (.iload 4, 357, 4, 0, 0, 0, 0, [])),
  (357, (.istore 4, 359, 4, 0, 0, 1, 0, [])),
  (359, (.iload 9, 361, 9, 0, 0, 0, 0, [])),
  (361, (.iload 8, 363, 8, 0, 0, 0, 0, [])),
  (363, (.ifCond .eq 8, 366, 371, 0, 0, 0, 0, [])),
  (366, (.bipush 61, 368, 0, 0, 0, 0, 0, [])),
  (368, (.goto 4, 371, 372, 0, 0, 0, 0, [])),
  (371, (.iconst 1, 372, 0, 0, 0, 0, 0, [])),
  (372, (.iadd, 373, 0, 0, 0, 0, 0, [])),
  (373, (.istore 9, 375, 9, 0, 0, 1, 0, [])),
  (375, (.goto (-332), 378, 43, 0, 0, 0, 0, [])),
  (378, (.iload 7, 380, 7, 0, 0, 0, 0, [])),
  (380, (.ifCond .eq 53, 383, 433, 0, 0, 0, 0, [])),
  (383, (.iload 8, 385, 8, 0, 0, 0, 0, [])),
  (385, (.ifCond .ne 35, 388, 420, 0, 0, 0, 0, [])),
  (388, (.aload_n 0, 389, 0, 0, 0, 0, 0, [])),
  (389, (.iload_n 1, 390, 1, 0, 0, 0, 0, [])),
  (390, (.iconst 0, 391, 0, 0, 0, 0, 0, [])),
  (391, (.invokevirtual 88, 394, 116, 3, 705, 0, 10, [0])),
  (394, (.iload 5, 396, 5, 0, 0, 0, 0, [])),
  (396, (.if_icmp .ne 37, 399, 433, 0, 0, 0, 0, [])),
  (399, (.aload_n 0, 400, 0, 0, 0, 0, 0, [])),
  (400, (.iload_n 1, 401, 1, 0, 0, 0, 0, [])),
  (401, (.iconst 1, 402, 0, 0, 0, 0, 0, []))]
def rn_t129_3 : List (Nat × rn_E) := [(402, (.invokevirtual 88, 405, 116, 3, 705, 0, 10, [0])),
  (405, (.iload 5, 407, 5, 0, 0, 0, 0, [])),
  (407, (.ifCond .ge 8, 410, 415, 0, 0, 0, 0, [])),
  (410, (.bipush (-9), 412, 0, 0, 0, 0, 0, [])),
  (412, (.goto 5, 415, 417, 0, 0, 0, 0, [])),
  (415, (.iload 6, 417, 6, 0, 0, 0, 0, [])),
  (417, (.if_icmp .ne 16, 420, 433, 0, 0, 0, 0, [])),
  (420, (.aload_n 0, 421, 0, 0, 0, 0, 0, [])),
  (421, (.invokestatic 35, 424, 126, 1, 421, 0, 0, [0])),
  (424, (.lload_n 2, 425, 2, 0, 0, 0, 0, [])),
  (425, (.lcmp, 426, 0, 0, 0, 0, 0, [])),
  (426, (.ifCond .ne 7, 429, 433, 0, 0, 0, 0, [])),
  (429, (.iconst 1, 430, 0, 0, 0, 0, 0, [])),
  (430, (.goto 4, 433, 434, 0, 0, 0, 0, [])),
  (433, (.iconst 0, 434, 0, 0, 0, 0, 0, [])),
  (434, (.istore 7, 436, 7, 0, 0, 1, 0, [])),
  (436, (.aload_n 0, 437, 0, 0, 0, 0, 0, [])),
  (437, (.iload_n 1, 438, 1, 0, 0, 0, 0, [])),
  (438, (.invokevirtual 91, 441, 117, 2, 713, 0, 10, [0])),
  (441, (.istore 9, 443, 9, 0, 0, 1, 0, [])),
  (443, (.aload_n 0, 444, 0, 0, 0, 0, 0, [])),
  (444, (.iload_n 1, 445, 1, 0, 0, 0, 0, [])),
  (445, (.iconst 0, 446, 0, 0, 0, 0, 0, [])),
  (446, (.invokevirtual 19, 449, 107, 3, 426, 0, 10, [0])),
  (449, (.istore 10, 451, 10, 0, 0, 1, 0, [])),
  (451, (.iload 7, 453, 7, 0, 0, 0, 0, [])),
  (453, (.ifCond .eq 81, 456, 534, 0, 0, 0, 0, [])),
  (456, (.iload 9, 458, 9, 0, 0, 0, 0, [])),
  (458, (.ifCond .le 76, 461, 534, 0, 0, 0, 0, [])),
  (461, (.aload_n 0, 462, 0, 0, 0, 0, 0, [])),
  (462, (.iload_n 1, 463, 1, 0, 0, 0, 0, [])),
  (463, (.iload 9, 465, 9, 0, 0, 0, 0, [])),
  (465, (.invokevirtual 54, 468, 97, 3, 616, 0, 10, [0])),
  (468, (.iload 10, 470, 10, 0, 0, 0, 0, [])),
  (470, (.if_icmp .ne 61, 473, 531, 0, 0, 0, 0, [])),
  (473, (.aload_n 0, 474, 0, 0, 0, 0, 0, [])),
  (474, (.iload_n 1, 475, 1, 0, 0, 0, 0, [])),
  (475, (.iconst 0, 476, 0, 0, 0, 0, 0, [])),
  (476, (.invokevirtual 88, 479, 116, 3, 705, 0, 10, [0])),
  (479, (.ifCond .lt 52, 482, 531, 0, 0, 0, 0, [])),
  (482, (.aload_n 0, 483, 0, 0, 0, 0, 0, [])),
  (483, (.invokevirtual 97, 486, 105, 1, 265, 0, 10, [0])),
  (486, (.ifCond .lt 45, 489, 531, 0, 0, 0, 0, [])),
  (489, (.iload 9, 491, 9, 0, 0, 0, 0, [])),
  (491, (.iconst 1, 492, 0, 0, 0, 0, 0, [])),
  (492, (.if_icmp .eq 35, 495, 527, 0, 0, 0, 0, [])),
  (495, (.aload_n 0, 496, 0, 0, 0, 0, 0, [])),
  (496, (.iload_n 1, 497, 1, 0, 0, 0, 0, [])),
  (497, (.iload 9, 499, 9, 0, 0, 0, 0, [])),
  (499, (.iconst 1, 500, 0, 0, 0, 0, 0, [])),
  (500, (.isub, 501, 0, 0, 0, 0, 0, [])),
  (501, (.invokevirtual 54, 504, 97, 3, 616, 0, 10, [0])),
  (504, (.iload 10, 506, 10, 0, 0, 0, 0, [])),
  (506, (.if_icmp .ne 25, 509, 531, 0, 0, 0, 0, [])),
  (509, (.aload_n 0, 510, 0, 0, 0, 0, 0, [])),
  (510, (.iload_n 1, 511, 1, 0, 0, 0, 0, [])),
  (511, (.iconst 0, 512, 0, 0, 0, 0, 0, [])),
  (512, (.invokevirtual 88, 515, 116, 3, 705, 0, 10, [0])),
  (515, (.bipush (-9), 517, 0, 0, 0, 0, 0, [])),
  (517, (.if_icmp .ne 14, 520, 531, 0, 0, 0, 0, [])),
  (520, (.aload_n 0, 521, 0, 0, 0, 0, 0, [])),
  (521, (.invokevirtual 97, 524, 105, 1, 265, 0, 10, [0])),
  (524, (.ifCond .lt 7, 527, 531, 0, 0, 0, 0, [])),
  (527, (.iconst 1, 528, 0, 0, 0, 0, 0, [])),
  (528, (.goto 4, 531, 532, 0, 0, 0, 0, [])),
  (531, (.iconst 0, 532, 0, 0, 0, 0, 0, [])),
  (532, (.istore 7, 534, 7, 0, 0, 1, 0, [])),
  (534, (.iload 7, 536, 7, 0, 0, 0, 0, [])),
  (536, (.ifCond .eq 60, 539, 596, 0, 0, 0, 0, [])),
  (539, (.iload 9, 541, 9, 0, 0, 0, 0, []))]
def rn_t129_4 : List (Nat × rn_E) := [(541, (.ifCond .gt 21, 544, 562, 0, 0, 0, 0, [])),
  (544, (.iload 9, 546, 9, 0, 0, 0, 0, [])),
  (546, (.bipush (-9), 548, 0, 0, 0, 0, 0, [])),
  (548, (.if_icmp .ne 48, 551, 596, 0, 0, 0, 0, [])),
  (551, (.aload_n 0, 552, 0, 0, 0, 0, 0, [])),
  (552, (.iload_n 1, 553, 1, 0, 0, 0, 0, [])),
  (553, (.iconst 0, 554, 0, 0, 0, 0, 0, [])),
  (554, (.invokevirtual 88, 557, 116, 3, 705, 0, 10, [0])),
  (557, (.bipush (-9), 559, 0, 0, 0, 0, 0, [])),
  (559, (.if_icmp .ne 37, 562, 596, 0, 0, 0, 0, [])),
  (562, (.aload_n 0, 563, 0, 0, 0, 0, 0, [])),
  (563, (.iload_n 1, 564, 1, 0, 0, 0, 0, [])),
  (564, (.iconst 0, 565, 0, 0, 0, 0, 0, [])),
  (565, (.invokevirtual 88, 568, 116, 3, 705, 0, 10, [0])),
  (568, (.ifCond .lt 15, 571, 583, 0, 0, 0, 0, [])),
  (571, (.iload 9, 573, 9, 0, 0, 0, 0, [])),
  (573, (.ifCond .le 23, 576, 596, 0, 0, 0, 0, [])),
  (576, (.iload 9, 578, 9, 0, 0, 0, 0, [])),
  (578, (.iload 10, 580, 10, 0, 0, 0, 0, [])),
  (580, (.if_icmp .gt 16, 583, 596, 0, 0, 0, 0, [])),
  (583, (.aload_n 0, 584, 0, 0, 0, 0, 0, [])),
  (584, (.invokestatic 35, 587, 126, 1, 421, 0, 0, [0])),
  (587, (.lload_n 2, 588, 2, 0, 0, 0, 0, [])),
  (588, (.lcmp, 589, 0, 0, 0, 0, 0, [])),
  (589, (.ifCond .ne 7, 592, 596, 0, 0, 0, 0, [])),
  (592, (.iconst 1, 593, 0, 0, 0, 0, 0, [])),
  (593, (.goto 4, 596, 597, 0, 0, 0, 0, [])),
  (596, (.iconst 0, 597, 0, 0, 0, 0, 0, [])),
  (597, (.ireturn, 598, 0, 0, 0, 1, 0, []))]
def rn_t129 : List (Nat × rn_E) := rn_t129_0 ++ (rn_t129_1 ++ (rn_t129_2 ++ (rn_t129_3 ++ (rn_t129_4))))
def rn_m129 : rn_Mt := (yL_areStarts, cL_areStarts, 13, (some .boolean), false, 0, 0, 9, 216, rn_t129)
def rn_t130_0 : List (Nat × rn_E) := [(0, (.iconst 0, 1, 0, 0, 0, 0, 0, [])),
  (1, (.istore_n 1, 2, 1, 0, 0, 1, 0, [])),
  (2, (.iconst 0, 3, 0, 0, 0, 0, 0, [])),
  (3, (.istore_n 2, 4, 2, 0, 0, 1, 0, [])),
  (4, (.iconst 0, 5, 0, 0, 0, 0, 0, [])),
  (5, (.istore_n 3, 6, 3, 0, 0, 1, 0, [])),
  (6, (.iconst 0, 7, 0, 0, 0, 0, 0, [])),
  (7, (.istore 4, 9, 4, 0, 0, 1, 0, [])),
  (9, (.iconst 1, 10, 0, 0, 0, 0, 0, [])),
  (10, (.istore 5, 12, 5, 0, 0, 1, 0, [])),
  (12, (.iconst 0, 13, 0, 0, 0, 0, 0, [])),
  (13, (.istore 6, 15, 6, 0, 0, 1, 0, [])),
  (15, (.iload 6, 17, 6, 0, 0, 0, 0, [])),
  (17, (.aload_n 0, 18, 0, 0, 0, 0, 0, [])),
  (18, (.iconst 2, 19, 0, 0, 0, 0, 0, [])),
  (19, (.invokevirtual 13, 22, 106, 2, 276, 0, 10, [0])),
  (22, (.if_icmp .ge 449, 25, 471, 0, 0, 0, 0, [])),
  (25, (.iload 5, 27, 5, 0, 0, 0, 0, [])),
  (27, (.ifCond .eq 444, 30, 471, 0, 0, 0, 0, [])),
  (30, (.aload_n 0, 31, 0, 0, 0, 0, 0, [])),
  (31, (.iload 6, 33, 6, 0, 0, 0, 0, [])),
  (33, (.iconst 0, 34, 0, 0, 0, 0, 0, [])),
  (34, (.invokevirtual 29, 37, 111, 3, 461, 0, 10, [0])),
  (37, (.istore 7, 39, 7, 0, 0, 1, 0, [])),
  (39, (.aload_n 0, 40, 0, 0, 0, 0, 0, [])),
  (40, (.iload 6, 42, 6, 0, 0, 0, 0, [])),
  (42, (.iconst 1, 43, 0, 0, 0, 0, 0, [])),
  (43, (.invokevirtual 29, 46, 111, 3, 461, 0, 10, [0])),
  (46, (.istore 8, 48, 8, 0, 0, 1, 0, [])),
  (48, (.aload_n 0, 49, 0, 0, 0, 0, 0, [])),
  (49, (.iload 7, 51, 7, 0, 0, 0, 0, [])),
  (51, (.iconst 2, 52, 0, 0, 0, 0, 0, [])),
  (52, (.invokevirtual 19, 55, 107, 3, 426, 0, 10, [0])),
  (55, (.istore 9, 57, 9, 0, 0, 1, 0, [])),
  (57, (.iconst 2, 58, 0, 0, 0, 0, 0, [])),
  (58, (.aload_n 0, 59, 0, 0, 0, 0, 0, [])),
  (59, (.iload 7, 61, 7, 0, 0, 0, 0, [])),
  (61, (.iconst 1, 62, 0, 0, 0, 0, 0, [])),
  (62, (.invokevirtual 19, 65, 107, 3, 426, 0, 10, [0])),
  (65, (.imul, 66, 0, 0, 0, 0, 0, [])),
  (66, (.iconst 1, 67, 0, 0, 0, 0, 0, [])),
  (67, (.iadd, 68, 0, 0, 0, 0, 0, [])),
  (68, (.istore 10, 70, 10, 0, 0, 1, 0, [])),
  (70, (.iload_n 1, 71, 1, 0, 0, 0, 0, [])),
  (71, (.aload_n 0, 72, 0, 0, 0, 0, 0, [])),
  (72, (.iload 6, 74, 6, 0, 0, 0, 0, [])),
  (74, (.iconst 2, 75, 0, 0, 0, 0, 0, [])),
  (75, (.invokevirtual 29, 78, 111, 3, 461, 0, 10, [0])),
  (78, (.iadd, 79, 0, 0, 0, 0, 0, [])),
  (79, (.istore_n 1, 80, 1, 0, 0, 1, 0, [])),
  (80, (.iload_n 2, 81, 2, 0, 0, 0, 0, [])),
  (81, (.aload_n 0, 82, 0, 0, 0, 0, 0, [])),
  (82, (.iload 6, 84, 6, 0, 0, 0, 0, [])),
  (84, (.bipush 6, 86, 0, 0, 0, 0, 0, [])),
  (86, (.invokevirtual 29, 89, 111, 3, 461, 0, 10, [0])),
  (89, (.ifCond .le 7, 92, 96, 0, 0, 0, 0, [])),
  (92, (.iconst 1, 93, 0, 0, 0, 0, 0, [])),
  (93, (.goto 4, 96, 97, 0, 0, 0, 0, [])),
  (96, (.iconst 0, 97, 0, 0, 0, 0, 0, [])),
  (97, (.iadd, 98, 0, 0, 0, 0, 0, [])),
  (98, (.istore_n 2, 99, 2, 0, 0, 1, 0, [])),
  (99, (.iload_n 3, 100, 3, 0, 0, 0, 0, [])),
  (100, (.iconst 1, 101, 0, 0, 0, 0, 0, [])),
  (101, (.iload 7, 103, 7, 0, 0, 0, 0, [])),
  (103, (.ishl, 104, 0, 0, 0, 0, 0, [])),
  (104, (.ior, 105, 0, 0, 0, 0, 0, [])),
  (105, (.istore_n 3, 106, 3, 0, 0, 1, 0, [])),
  (106, (.iload 4, 108, 4, 0, 0, 0, 0, [])),
  (108, (.aload_n 0, 109, 0, 0, 0, 0, 0, [])),
  (109, (.iload 6, 111, 6, 0, 0, 0, 0, []))]
def rn_t130_1 : List (Nat × rn_E) := [(111, (.iconst 5, 112, 0, 0, 0, 0, 0, [])),
  (112, (.invokevirtual 29, 115, 111, 3, 461, 0, 10, [0])),
  (115, (.iadd, 116, 0, 0, 0, 0, 0, [])),
  (116, (.istore 4, 118, 4, 0, 0, 1, 0, [])),
  (118, (.aload_n 0, 119, 0, 0, 0, 0, 0, [])),
  (119, (.iload 7, 121, 7, 0, 0, 0, 0, [])),
  (121, (.iload 8, 123, 8, 0, 0, 0, 0, [])),
  (123, (.invokevirtual 26, 126, 108, 3, 450, 0, 10, [0])),
  (126, (.istore 11, 128, 11, 0, 0, 1, 0, [])),
  (128, (.aload_n 0, 129, 0, 0, 0, 0, 0, [])),
  (129, (.iload 7, 131, 7, 0, 0, 0, 0, [])),
  (131, (.iload 8, 133, 8, 0, 0, 0, 0, [])),
  (133, (.iload 9, 135, 9, 0, 0, 0, 0, [])),
  (135, (.iadd, 136, 0, 0, 0, 0, 0, [])),
  (136, (.iconst 1, 137, 0, 0, 0, 0, 0, [])),
  (137, (.isub, 138, 0, 0, 0, 0, 0, [])),
  (138, (.invokevirtual 26, 141, 108, 3, 450, 0, 10, [0])),
  (141, (.istore 12, 143, 12, 0, 0, 1, 0, [])),
  (143, (.iload 12, 145, 12, 0, 0, 0, 0, [])),
  (145, (.bipush 100, 147, 0, 0, 0, 0, 0, [])),
  (147, (.idiv, 148, 0, 0, 0, 0, 0, [])),
  (148, (.iload 11, 150, 11, 0, 0, 0, 0, [])),
  (150, (.bipush 100, 152, 0, 0, 0, 0, 0, [])),
  (152, (.idiv, 153, 0, 0, 0, 0, 0, [])),
  (153, (.if_icmp .lt 29, 156, 182, 0, 0, 0, 0, [])),
  (156, (.iload 12, 158, 12, 0, 0, 0, 0, [])),
  (158, (.bipush 100, 160, 0, 0, 0, 0, 0, [])),
  (160, (.idiv, 161, 0, 0, 0, 0, 0, [])),
  (161, (.iload 11, 163, 11, 0, 0, 0, 0, [])),
  (163, (.bipush 100, 165, 0, 0, 0, 0, 0, [])),
  (165, (.idiv, 166, 0, 0, 0, 0, 0, [])),
  (166, (.if_icmp .ne 20, 169, 186, 0, 0, 0, 0, [])),
  (169, (.iload 12, 171, 12, 0, 0, 0, 0, [])),
  (171, (.bipush 100, 173, 0, 0, 0, 0, 0, [])),
  (173, (.irem, 174, 0, 0, 0, 0, 0, [])),
  (174, (.iload 11, 176, 11, 0, 0, 0, 0, [])),
  (176, (.bipush 100, 178, 0, 0, 0, 0, 0, [])),
  (178, (.irem, 179, 0, 0, 0, 0, 0, [])),
  (179, (.if_icmp .ge 7, 182, 186, 0, 0, 0, 0, [])),
  (182, (.iconst 1, 183, 0, 0, 0, 0, 0, [])),
  (183, (.goto 4, 186, 187, 0, 0, 0, 0, [])),
  (186, (.iconst 0, 187, 0, 0, 0, 0, 0, [])),
  (187, (.istore 13, 189, 13, 0, 0, 1, 0, [])),
  (189, (.iload 8, 191, 8, 0, 0, 0, 0, [])),
  (191, (.ifCond .lt 88, 194, 279, 0, 0, 0, 0, [])),
  (194, (.iload 8, 196, 8, 0, 0, 0, 0, [])),
  (196, (.iload 9, 198, 9, 0, 0, 0, 0, [])),
  (198, (.iadd, 199, 0, 0, 0, 0, 0, [])),
  (199, (.aload_n 0, 200, 0, 0, 0, 0, 0, [])),
  (200, (.iload 7, 202, 7, 0, 0, 0, 0, [])),
  (202, (.iconst 3, 203, 0, 0, 0, 0, 0, [])),
  (203, (.invokevirtual 19, 206, 107, 3, 426, 0, 10, [0])),
  (206, (.iconst 1, 207, 0, 0, 0, 0, 0, [])),
  (207, (.iadd, 208, 0, 0, 0, 0, 0, [])),
  (208, (.if_icmp .gt 71, 211, 279, 0, 0, 0, 0, [])),
  (211, (.aload_n 0, 212, 0, 0, 0, 0, 0, [])),
  (212, (.iload 6, 214, 6, 0, 0, 0, 0, [])),
  (214, (.iconst 4, 215, 0, 0, 0, 0, 0, [])),
  (215, (.invokevirtual 29, 218, 111, 3, 461, 0, 10, [0])),
  (218, (.iload 13, 220, 13, 0, 0, 0, 0, [])),
  (220, (.ifCond .eq 7, 223, 227, 0, 0, 0, 0, [])),
  (223, (.iconst 1, 224, 0, 0, 0, 0, 0, [])),
  (224, (.goto 4, 227, 228, 0, 0, 0, 0, [])),
  (227, (.iconst 0, 228, 0, 0, 0, 0, 0, [])),
  (228, (.if_icmp .ne 51, 231, 279, 0, 0, 0, 0, [])),
  (231, (.aload_n 0, 232, 0, 0, 0, 0, 0, [])),
  (232, (.iload 6, 234, 6, 0, 0, 0, 0, [])),
  (234, (.iconst 5, 235, 0, 0, 0, 0, 0, [])),
  (235, (.invokevirtual 29, 238, 111, 3, 461, 0, 10, [0])),
  (238, (.ifCond .le 41, 241, 279, 0, 0, 0, 0, []))]
def rn_t130_2 : List (Nat × rn_E) := [(241, (.aload_n 0, 242, 0, 0, 0, 0, 0, [])),
  (242, (.iload 6, 244, 6, 0, 0, 0, 0, [])),
  (244, (.iconst 5, 245, 0, 0, 0, 0, 0, [])),
  (245, (.invokevirtual 29, 248, 111, 3, 461, 0, 10, [0])),
  (248, (.iload 9, 250, 9, 0, 0, 0, 0, [])),
  (250, (.iload 10, 252, 10, 0, 0, 0, 0, [])),
  (252, (.imul, 253, 0, 0, 0, 0, 0, [])),
  (253, (.iload 10, 255, 10, 0, 0, 0, 0, [])),
  (255, (.imul, 256, 0, 0, 0, 0, 0, [])),
  (256, (.if_icmp .gt 23, 259, 279, 0, 0, 0, 0, [])),
  (259, (.aload_n 0, 260, 0, 0, 0, 0, 0, [])),
  (260, (.iload 6, 262, 6, 0, 0, 0, 0, [])),
  (262, (.bipush 7, 264, 0, 0, 0, 0, 0, [])),
  (264, (.invokevirtual 29, 267, 111, 3, 461, 0, 10, [0])),
  (267, (.aload_n 0, 268, 0, 0, 0, 0, 0, [])),
  (268, (.iconst 1, 269, 0, 0, 0, 0, 0, [])),
  (269, (.invokevirtual 13, 272, 106, 2, 276, 0, 10, [0])),
  (272, (.if_icmp .gt 7, 275, 279, 0, 0, 0, 0, [])),
  (275, (.iconst 1, 276, 0, 0, 0, 0, 0, [])),
  (276, (.goto 4, 279, 280, 0, 0, 0, 0, [])),
  (279, (.iconst 0, 280, 0, 0, 0, 0, 0, [])),
  (280, (.istore 5, 282, 5, 0, 0, 1, 0, [])),
  (282, (.iconst 0, 283, 0, 0, 0, 0, 0, [])),
  (283, (.istore 14, 285, 14, 0, 0, 1, 0, [])),
  (285, (.iload 14, 287, 14, 0, 0, 0, 0, [])),
  (287, (.iload 9, 289, 9, 0, 0, 0, 0, [])),
  (289, (.if_icmp .ge 64, 292, 353, 0, 0, 0, 0, [])),
  (292, (.iload 5, 294, 5, 0, 0, 0, 0, [])),
  (294, (.ifCond .eq 59, 297, 353, 0, 0, 0, 0, [])),
  (297, (.aload_n 0, 298, 0, 0, 0, 0, 0, [])),
  (298, (.iload 7, 300, 7, 0, 0, 0, 0, [])),
  (300, (.iload 8, 302, 8, 0, 0, 0, 0, [])),
  (302, (.iload 14, 304, 14, 0, 0, 0, 0, [])),
  (304, (.iadd, 305, 0, 0, 0, 0, 0, [])),
  (305, (.invokevirtual 26, 308, 108, 3, 450, 0, 10, [0])),
  (308, (.istore 15, 310, 15, 0, 0, 1, 0, [])),
  (310, (.aload_n 0, 311, 0, 0, 0, 0, 0, [])),
  (311, (.iload 15, 313, 15, 0, 0, 0, 0, [])),
  (313, (.bipush 100, 315, 0, 0, 0, 0, 0, [])),
  (315, (.idiv, 316, 0, 0, 0, 0, 0, [])),
  (316, (.iload 15, 318, 15, 0, 0, 0, 0, [])),
  (318, (.bipush 100, 320, 0, 0, 0, 0, 0, [])),
  (320, (.irem, 321, 0, 0, 0, 0, 0, [])),
  (321, (.invokevirtual 75, 324, 112, 3, 673, 0, 10, [0])),
  (324, (.istore 16, 326, 16, 0, 0, 1, 0, [])),
  (326, (.iload 16, 328, 16, 0, 0, 0, 0, [])),
  (328, (.bipush 97, 330, 0, 0, 0, 0, 0, [])),
  (330, (.if_icmp .lt 14, 333, 344, 0, 0, 0, 0, [])),
  (333, (.iload 16, 335, 16, 0, 0, 0, 0, [])),
  (335, (.bipush 122, 337, 0, 0, 0, 0, 0, [])),
  (337, (.if_icmp .gt 7, 340, 344, 0, 0, 0, 0, [])),
  (340, (.iconst 1, 341, 0, 0, 0, 0, 0, [])),
  (341, (.goto 4, 344, 345, 0, 0, 0, 0, [])),
  (344, (.iconst 0, 345, 0, 0, 0, 0, 0, [])),
  (345, (.istore 5, 347, 5, 0, 0, 1, 0, [])),
  (347, (.iinc 14 1, 350, 14, 0, 0, 0, 0, [])),
  (350, (.goto (-65), 353, 285, 0, 0, 0, 0, [])),
  (353, (.iload 5, 355, 5, 0, 0, 0, 0, [])),
  (355, (.ifCond .eq 110, 358, 465, 0, 0, 0, 0, [])),
  (358, (.aload_n 0, 359, 0, 0, 0, 0, 0, [])),
  (359, (.iconst 2, 360, 0, 0, 0, 0, 0, [])),
  (360, (.invokevirtual 13, 363, 106, 2, 276, 0, 10, [0])),
  (363, (.iconst 1, 364, 0, 0, 0, 0, 0, [])),
  (364, (.if_icmp .ne 101, 367, 465, 0, 0, 0, 0, [])),
  (367, (.aload_n 0, 368, 0, 0, 0, 0, 0, [])),
  (368, (.iload 7, 370, 7, 0, 0, 0, 0, [])),
  (370, (.iconst 5, 371, 0, 0, 0, 0, 0, [])),
  (371, (.invokevirtual 19, 374, 107, 3, 426, 0, 10, [0])),
  (374, (.aload_n 0, 375, 0, 0, 0, 0, 0, [])),
  (375, (.iload 7, 377, 7, 0, 0, 0, 0, []))]
def rn_t130_3 : List (Nat × rn_E) := [(377, (.iconst 3, 378, 0, 0, 0, 0, 0, [])),
  (378, (.invokevirtual 19, 381, 107, 3, 426, 0, 10, [0])),
  (381, (.iconst 1, 382, 0, 0, 0, 0, 0, [])),
  (382, (.iadd, 383, 0, 0, 0, 0, 0, [])),
  (383, (.if_icmp .ne 82, 386, 465, 0, 0, 0, 0, [])),
  (386, (.aload_n 0, 387, 0, 0, 0, 0, 0, [])),
  (387, (.iload 11, 389, 11, 0, 0, 0, 0, [])),
  (389, (.bipush 100, 391, 0, 0, 0, 0, 0, [])),
  (391, (.idiv, 392, 0, 0, 0, 0, 0, [])),
  (392, (.iload 11, 394, 11, 0, 0, 0, 0, [])),
  (394, (.bipush 100, 396, 0, 0, 0, 0, 0, [])),
  (396, (.irem, 397, 0, 0, 0, 0, 0, [])),
  (397, (.invokevirtual 75, 400, 112, 3, 673, 0, 10, [0])),
  (400, (.aload_n 0, 401, 0, 0, 0, 0, 0, [])),
  (401, (.iload 7, 403, 7, 0, 0, 0, 0, [])),
  (403, (.iload 13, 405, 13, 0, 0, 0, 0, [])),
  (405, (.ifCond .eq 10, 408, 415, 0, 0, 0, 0, [])),
  (408, (.iload 9, 410, 9, 0, 0, 0, 0, [])),
  (410, (.iconst 1, 411, 0, 0, 0, 0, 0, [])),
  (411, (.isub, 412, 0, 0, 0, 0, 0, [])),
  (412, (.goto 4, 415, 416, 0, 0, 0, 0, [])),
  (415, (.iconst 0, 416, 0, 0, 0, 0, 0, [])),
  (416, (.invokevirtual 23, 419, 109, 3, 441, 0, 10, [0])),
  (419, (.if_icmp .ne 43, 422, 462, 0, 0, 0, 0, [])),
  (422, (.aload_n 0, 423, 0, 0, 0, 0, 0, [])),
  (423, (.iload 12, 425, 12, 0, 0, 0, 0, [])),
  (425, (.bipush 100, 427, 0, 0, 0, 0, 0, [])),
  (427, (.idiv, 428, 0, 0, 0, 0, 0, [])),
  (428, (.iload 12, 430, 12, 0, 0, 0, 0, [])),
  (430, (.bipush 100, 432, 0, 0, 0, 0, 0, [])),
  (432, (.irem, 433, 0, 0, 0, 0, 0, [])),
  (433, (.invokevirtual 75, 436, 112, 3, 673, 0, 10, [0])),
  (436, (.aload_n 0, 437, 0, 0, 0, 0, 0, [])),
  (437, (.iload 7, 439, 7, 0, 0, 0, 0, [])),
  (439, (.iload 13, 441, 13, 0, 0, 0, 0, [])),
  (441, (.ifCond .eq 7, 444, 448, 0, 0, 0, 0, [])),
  (444, (.iconst 0, 445, 0, 0, 0, 0, 0, [])),
  (445, (.goto 7, 448, 452, 0, 0, 0, 0, [])),
  (448, (.iload 9, 450, 9, 0, 0, 0, 0, [])),
  (450, (.iconst 1, 451, 0, 0, 0, 0, 0, [])),
  (451, (.isub, 452, 0, 0, 0, 0, 0, [])),
  (452, (.invokevirtual 23, 455, 109, 3, 441, 0, 10, [0])),
  (455, (.if_icmp .ne 7, 458, 462, 0, 0, 0, 0, [])),
  (458, (.iconst 1, 459, 0, 0, 0, 0, 0, [])),
  (459, (.goto 4, 462, 463, 0, 0, 0, 0, [])),
  (462, (.iconst 0, 463, 0, 0, 0, 0, 0, [])),
  (463, (.istore 5, 465, 5, 0, 0, 1, 0, [])),
  (465, (.iinc 6 1, 468, 6, 0, 0, 0, 0, [])),
  (468, (.goto (-453), 471, 15, 0, 0, 0, 0, [])),
  (471, (.iconst 0, 472, 0, 0, 0, 0, 0, [])),
  (472, (.istore 6, 474, 6, 0, 0, 1, 0, [])),
  (474, (.iconst 0, 475, 0, 0, 0, 0, 0, [])),
  (475, (.istore 7, 477, 7, 0, 0, 1, 0, [])),
  (477, (.iconst 0, 478, 0, 0, 0, 0, 0, [])),
  (478, (.istore 8, 480, 8, 0, 0, 1, 0, [])),
  (480, (.iload 8, 482, 8, 0, 0, 0, 0, [])),
  (482, (.aload_n 0, 483, 0, 0, 0, 0, 0, [])),
  (483, (.iconst 0, 484, 0, 0, 0, 0, 0, [])),
  (484, (.invokevirtual 13, 487, 106, 2, 276, 0, 10, [0])),
  (487, (.if_icmp .ge 43, 490, 530, 0, 0, 0, 0, [])),
  (490, (.iload 6, 492, 6, 0, 0, 0, 0, [])),
  (492, (.iload_n 3, 493, 3, 0, 0, 0, 0, [])),
  (493, (.iload 8, 495, 8, 0, 0, 0, 0, [])),
  (495, (.ishr, 496, 0, 0, 0, 0, 0, [])),
  (496, (.iconst 1, 497, 0, 0, 0, 0, 0, [])),
  (497, (.iand, 498, 0, 0, 0, 0, 0, [])),
  (498, (.ifCond .ne 10, 501, 508, 0, 0, 0, 0, [])),
  (501, (.iconst 1, 502, 0, 0, 0, 0, 0, [])),
  (502, (.iload 8, 504, 8, 0, 0, 0, 0, [])),
  (504, (.ishl, 505, 0, 0, 0, 0, 0, []))]
def rn_t130_4 : List (Nat × rn_E) := [(505, (.goto 4, 508, 509, 0, 0, 0, 0, [])),
  (508, (.iconst 0, 509, 0, 0, 0, 0, 0, [])),
  (509, (.ior, 510, 0, 0, 0, 0, 0, [])),
  (510, (.istore 6, 512, 6, 0, 0, 1, 0, [])),
  (512, (.iload 7, 514, 7, 0, 0, 0, 0, [])),
  (514, (.aload_n 0, 515, 0, 0, 0, 0, 0, [])),
  (515, (.iload 8, 517, 8, 0, 0, 0, 0, [])),
  (517, (.iconst 4, 518, 0, 0, 0, 0, 0, [])),
  (518, (.invokevirtual 19, 521, 107, 3, 426, 0, 10, [0])),
  (521, (.iadd, 522, 0, 0, 0, 0, 0, [])),
  (522, (.istore 7, 524, 7, 0, 0, 1, 0, [])),
  (524, (.iinc 8 1, 527, 8, 0, 0, 0, 0, [])),
  (527, (.goto (-47), 530, 480, 0, 0, 0, 0, [])),
  (530, (.iload 5, 532, 5, 0, 0, 0, 0, [])),
  (532, (.ifCond .eq 104, 535, 636, 0, 0, 0, 0, [])),
  (535, (.aload_n 0, 536, 0, 0, 0, 0, 0, [])),
  (536, (.iconst 4, 537, 0, 0, 0, 0, 0, [])),
  (537, (.invokevirtual 13, 540, 106, 2, 276, 0, 10, [0])),
  (540, (.iload_n 1, 541, 1, 0, 0, 0, 0, [])),
  (541, (.if_icmp .ne 95, 544, 636, 0, 0, 0, 0, [])),
  (544, (.aload_n 0, 545, 0, 0, 0, 0, 0, [])),
  (545, (.iconst 5, 546, 0, 0, 0, 0, 0, [])),
  (546, (.invokevirtual 13, 549, 106, 2, 276, 0, 10, [0])),
  (549, (.iload_n 2, 550, 2, 0, 0, 0, 0, [])),
  (550, (.if_icmp .ne 86, 553, 636, 0, 0, 0, 0, [])),
  (553, (.aload_n 0, 554, 0, 0, 0, 0, 0, [])),
  (554, (.bipush 6, 556, 0, 0, 0, 0, 0, [])),
  (556, (.invokevirtual 13, 559, 106, 2, 276, 0, 10, [0])),
  (559, (.iload 6, 561, 6, 0, 0, 0, 0, [])),
  (561, (.if_icmp .ne 75, 564, 636, 0, 0, 0, 0, [])),
  (564, (.iload 7, 566, 7, 0, 0, 0, 0, [])),
  (566, (.aload_n 0, 567, 0, 0, 0, 0, 0, [])),
  (567, (.iconst 2, 568, 0, 0, 0, 0, 0, [])),
  (568, (.invokevirtual 13, 571, 106, 2, 276, 0, 10, [0])),
  (571, (.if_icmp .ne 65, 574, 636, 0, 0, 0, 0, [])),
  (574, (.aload_n 0, 575, 0, 0, 0, 0, 0, [])),
  (575, (.bipush 7, 577, 0, 0, 0, 0, 0, [])),
  (577, (.invokevirtual 13, 580, 106, 2, 276, 0, 10, [0])),
  (580, (.iload 4, 582, 4, 0, 0, 0, 0, [])),
  (582, (.if_icmp .gt 54, 585, 636, 0, 0, 0, 0, [])),
  (585, (.iload 4, 587, 4, 0, 0, 0, 0, [])),
  (587, (.ifCond .ne 7, 590, 594, 0, 0, 0, 0, [])),
  (590, (.iconst 1, 591, 0, 0, 0, 0, 0, [])),
  (591, (.goto 4, 594, 595, 0, 0, 0, 0, [])),
  (594, (.iconst 0, 595, 0, 0, 0, 0, 0, [])),
  (595, (.aload_n 0, 596, 0, 0, 0, 0, 0, [])),
  (596, (.bipush 7, 598, 0, 0, 0, 0, 0, [])),
  (598, (.invokevirtual 13, 601, 106, 2, 276, 0, 10, [0])),
  (601, (.ifCond .ne 7, 604, 608, 0, 0, 0, 0, [])),
  (604, (.iconst 1, 605, 0, 0, 0, 0, 0, [])),
  (605, (.goto 4, 608, 609, 0, 0, 0, 0, [])),
  (608, (.iconst 0, 609, 0, 0, 0, 0, 0, [])),
  (609, (.if_icmp .ne 27, 612, 636, 0, 0, 0, 0, [])),
  (612, (.aload_n 0, 613, 0, 0, 0, 0, 0, [])),
  (613, (.iconst 2, 614, 0, 0, 0, 0, 0, [])),
  (614, (.invokevirtual 13, 617, 106, 2, 276, 0, 10, [0])),
  (617, (.iconst 1, 618, 0, 0, 0, 0, 0, [])),
  (618, (.if_icmp .ne 14, 621, 632, 0, 0, 0, 0, [])),
  (621, (.aload_n 0, 622, 0, 0, 0, 0, 0, [])),
  (622, (.bipush 7, 624, 0, 0, 0, 0, 0, [])),
  (624, (.invokevirtual 13, 627, 106, 2, 276, 0, 10, [0])),
  (627, (.iload 4, 629, 4, 0, 0, 0, 0, [])),
  (629, (.if_icmp .ne 7, 632, 636, 0, 0, 0, 0, [])),
  (632, (.iconst 1, 633, 0, 0, 0, 0, 0, [])),
  (633, (.goto 4, 636, 637, 0, 0, 0, 0, [])),
  (636, (.iconst 0, 637, 0, 0, 0, 0, 0, [])),
  (637, (.ireturn, 638, 0, 0, 0, 1, 0, []))]
def rn_t130 : List (Nat × rn_E) := rn_t130_0 ++ (rn_t130_1 ++ (rn_t130_2 ++ (rn_t130_3 ++ (rn_t130_4))))
def rn_m130 : rn_Mt := (yL_areLabels, cL_areLabels, 17, (some .boolean), false, 0, 0, 8, 192, rn_t130)
def rn_t131_0 : List (Nat × rn_E) := [(0, (.aload_n 0, 1, 0, 0, 0, 0, 0, [])),
  (1, (.invokestatic 35, 4, 126, 1, 421, 0, 0, [0])),
  (4, (.lstore_n 2, 5, 2, 0, 0, 1, 0, [])),
  (5, (.aload_n 0, 6, 0, 0, 0, 0, 0, [])),
  (6, (.iconst 5, 7, 0, 0, 0, 0, 0, [])),
  (7, (.invokevirtual 13, 10, 106, 2, 276, 0, 10, [0])),
  (10, (.istore 4, 12, 4, 0, 0, 1, 0, [])),
  (12, (.aload_n 0, 13, 0, 0, 0, 0, 0, [])),
  (13, (.iconst 2, 14, 0, 0, 0, 0, 0, [])),
  (14, (.invokevirtual 13, 17, 106, 2, 276, 0, 10, [0])),
  (17, (.istore 5, 19, 5, 0, 0, 1, 0, [])),
  (19, (.aload_n 0, 20, 0, 0, 0, 0, 0, [])),
  (20, (.invokevirtual 101, 23, 104, 1, 738, 0, 10, [0])),
  (23, (.istore 6, 25, 6, 0, 0, 1, 0, [])),
  (25, (.iload 6, 27, 6, 0, 0, 0, 0, [])),
  (27, (.ifCond .ne 7, 30, 34, 0, 0, 0, 0, [])),
  (30, (.iconst 1, 31, 0, 0, 0, 0, 0, [])),
  (31, (.goto 4, 34, 35, 0, 0, 0, 0, [])),
  (34, (.iconst 0, 35, 0, 0, 0, 0, 0, [])),
  (35, (.iload 4, 37, 4, 0, 0, 0, 0, [])),
  (37, (.ifCond .ne 7, 40, 44, 0, 0, 0, 0, [])),
  (40, (.iconst 1, 41, 0, 0, 0, 0, 0, [])),
  (41, (.goto 4, 44, 45, 0, 0, 0, 0, [])),
  (44, (.iconst 0, 45, 0, 0, 0, 0, 0, [])),
  (45, (.if_icmp .ne 65, 48, 110, 0, 0, 0, 0, [])),
  (48, (.iload 6, 50, 6, 0, 0, 0, 0, [])),
  (50, (.iload 5, 52, 5, 0, 0, 0, 0, [])),
  (52, (.if_icmp .gt 58, 55, 110, 0, 0, 0, 0, [])),
  (55, (.aload_n 0, 56, 0, 0, 0, 0, 0, [])),
  (56, (.iconst 2, 57, 0, 0, 0, 0, 0, [])),
  (57, (.invokevirtual 13, 60, 106, 2, 276, 0, 10, [0])),
  (60, (.iload 5, 62, 5, 0, 0, 0, 0, [])),
  (62, (.iload 6, 64, 6, 0, 0, 0, 0, [])),
  (64, (.isub, 65, 0, 0, 0, 0, 0, [])),
  (65, (.if_icmp .ne 45, 68, 110, 0, 0, 0, 0, [])),
  (68, (.aload_n 0, 69, 0, 0, 0, 0, 0, [])),
  (69, (.iconst 5, 70, 0, 0, 0, 0, 0, [])),
  (70, (.invokevirtual 13, 73, 106, 2, 276, 0, 10, [0])),
  (73, (.ifCond .ne 37, 76, 110, 0, 0, 0, 0, [])),
  (76, (.aload_n 0, 77, 0, 0, 0, 0, 0, [])),
  (77, (.invokevirtual 101, 80, 104, 1, 738, 0, 10, [0])),
  (80, (.ifCond .ne 30, 83, 110, 0, 0, 0, 0, [])),
  (83, (.aload_n 0, 84, 0, 0, 0, 0, 0, [])),
  (84, (.invokevirtual 97, 87, 105, 1, 265, 0, 10, [0])),
  (87, (.ifCond .lt 23, 90, 110, 0, 0, 0, 0, [])),
  (90, (.aload_n 0, 91, 0, 0, 0, 0, 0, [])),
  (91, (.invokevirtual 97, 94, 105, 1, 265, 0, 10, [0])),
  (94, (.ifCond .lt 16, 97, 110, 0, 0, 0, 0, [])),
  (97, (.aload_n 0, 98, 0, 0, 0, 0, 0, [])),
  (98, (.invokestatic 35, 101, 126, 1, 421, 0, 0, [0])),
  (101, (.lload_n 2, 102, 2, 0, 0, 0, 0, [])),
  (102, (.lcmp, 103, 0, 0, 0, 0, 0, [])),
  (103, (.ifCond .ne 7, 106, 110, 0, 0, 0, 0, [])),
  (106, (.iconst 1, 107, 0, 0, 0, 0, 0, [])),
  (107, (.goto 4, 110, 111, 0, 0, 0, 0, [])),
  (110, (.iconst 0, 111, 0, 0, 0, 0, 0, [])),
  (111, (.istore 7, 113, 7, 0, 0, 1, 0, [])),
  (113, (.aload_n 0, 114, 0, 0, 0, 0, 0, [])),
  (114, (.iload_n 1, 115, 1, 0, 0, 0, 0, [])),
  (115, (.invokevirtual 72, 118, 103, 2, 645, 0, 10, [0])),
  (118, (.istore 8, 120, 8, 0, 0, 1, 0, [])),
  (120, (.iload 7, 122, 7, 0, 0, 0, 0, [])),
  (122, (.ifCond .eq 32, 125, 154, 0, 0, 0, 0, [])),
  (125, (.iload 8, 127, 8, 0, 0, 0, 0, [])),
  (127, (.aload_n 0, 128, 0, 0, 0, 0, 0, [])),
  (128, (.iconst 2, 129, 0, 0, 0, 0, 0, [])),
  (129, (.invokevirtual 13, 132, 106, 2, 276, 0, 10, [0])),
  (132, (.if_icmp .ne 22, 135, 154, 0, 0, 0, 0, [])),
  (135, (.iload 8, 137, 8, 0, 0, 0, 0, [])),
  (137, (.bipush 20, 139, 0, 0, 0, 0, 0, []))]
def rn_t131_1 : List (Nat × rn_E) := [(139, (.if_icmp .gt 15, 142, 154, 0, 0, 0, 0, [])),
  (142, (.aload_n 0, 143, 0, 0, 0, 0, 0, [])),
  (143, (.iconst 5, 144, 0, 0, 0, 0, 0, [])),
  (144, (.invokevirtual 13, 147, 106, 2, 276, 0, 10, [0])),
  (147, (.ifCond .ne 7, 150, 154, 0, 0, 0, 0, [])),
  (150, (.iconst 1, 151, 0, 0, 0, 0, 0, [])),
  (151, (.goto 4, 154, 155, 0, 0, 0, 0, [])),
  (154, (.iconst 0, 155, 0, 0, 0, 0, 0, [])),
  (155, (.istore 7, 157, 7, 0, 0, 1, 0, [])),
  (157, (.bipush 9, 159, 0, 0, 0, 0, 0, [])),
  (159, (.istore 9, 161, 9, 0, 0, 1, 0, [])),
  (161, (.iconst 0, 162, 0, 0, 0, 0, 0, [])),
  (162, (.istore 10, 164, 10, 0, 0, 1, 0, [])),
  (164, (.iload 10, 166, 10, 0, 0, 0, 0, [])),
  (166, (.iload 8, 168, 8, 0, 0, 0, 0, [])),
  (168, (.if_icmp .ge 73, 171, 241, 0, 0, 0, 0, [])),
  (171, (.iload 7, 173, 7, 0, 0, 0, 0, [])),
  (173, (.ifCond .eq 68, 176, 241, 0, 0, 0, 0, [])),
  (176, (.aload_n 0, 177, 0, 0, 0, 0, 0, [])),
  (177, (.iload 10, 179, 10, 0, 0, 0, 0, [])),
  (179, (.iconst 0, 180, 0, 0, 0, 0, 0, [])),
  (180, (.invokevirtual 29, 183, 111, 3, 461, 0, 10, [0])),
  (183, (.istore 11, 185, 11, 0, 0, 1, 0, [])),
  (185, (.aload_n 0, 186, 0, 0, 0, 0, 0, [])),
  (186, (.iload 11, 188, 11, 0, 0, 0, 0, [])),
  (188, (.iconst 0, 189, 0, 0, 0, 0, 0, [])),
  (189, (.invokevirtual 19, 192, 107, 3, 426, 0, 10, [0])),
  (192, (.iload 9, 194, 9, 0, 0, 0, 0, [])),
  (194, (.if_icmp .gt 29, 197, 223, 0, 0, 0, 0, [])),
  (197, (.aload_n 0, 198, 0, 0, 0, 0, 0, [])),
  (198, (.iload 11, 200, 11, 0, 0, 0, 0, [])),
  (200, (.iconst 4, 201, 0, 0, 0, 0, 0, [])),
  (201, (.invokevirtual 19, 204, 107, 3, 426, 0, 10, [0])),
  (204, (.iload_n 1, 205, 1, 0, 0, 0, 0, [])),
  (205, (.if_icmp .gt 18, 208, 223, 0, 0, 0, 0, [])),
  (208, (.aload_n 0, 209, 0, 0, 0, 0, 0, [])),
  (209, (.iload 10, 211, 10, 0, 0, 0, 0, [])),
  (211, (.bipush 6, 213, 0, 0, 0, 0, 0, [])),
  (213, (.invokevirtual 29, 216, 111, 3, 461, 0, 10, [0])),
  (216, (.ifCond .ne 7, 219, 223, 0, 0, 0, 0, [])),
  (219, (.iconst 1, 220, 0, 0, 0, 0, 0, [])),
  (220, (.goto 4, 223, 224, 0, 0, 0, 0, [])),
  (223, (.iconst 0, 224, 0, 0, 0, 0, 0, [])),
  (224, (.istore 7, 226, 7, 0, 0, 1, 0, [])),
  (226, (.aload_n 0, 227, 0, 0, 0, 0, 0, [])),
  (227, (.iload 11, 229, 11, 0, 0, 0, 0, [])),
  (229, (.iconst 0, 230, 0, 0, 0, 0, 0, [])),
  (230, (.invokevirtual 19, 233, 107, 3, 426, 0, 10, [0])),
  (233, (.istore 9, 235, 9, 0, 0, 1, 0, [])),
  (235, (.iinc 10 1, 238, 10, 0, 0, 0, 0, [])),
  (238, (.goto (-74), 241, 164, 0, 0, 0, 0, [])),
  (241, (.iconst 0, 242, 0, 0, 0, 0, 0, [])),
  (242, (.istore 10, 244, 10, 0, 0, 1, 0, [])),
  (244, (.iload 10, 246, 10, 0, 0, 0, 0, [])),
  (246, (.aload_n 0, 247, 0, 0, 0, 0, 0, [])),
  (247, (.iconst 0, 248, 0, 0, 0, 0, 0, [])),
  (248, (.invokevirtual 13, 251, 106, 2, 276, 0, 10, [0])),
  (251, (.if_icmp .ge 51, 254, 302, 0, 0, 0, 0, [])),
  (254, (.iload 7, 256, 7, 0, 0, 0, 0, [])),
  (256, (.ifCond .eq 46, 259, 302, 0, 0, 0, 0, [])),
  (259, (.iload 8, 261, 8, 0, 0, 0, 0, [])),
  (261, (.bipush 20, 263, 0, 0, 0, 0, 0, [])),
  (263, (.if_icmp .eq 26, 266, 289, 0, 0, 0, 0, [])),
  (266, (.aload_n 0, 267, 0, 0, 0, 0, 0, [])),
  (267, (.iload 10, 269, 10, 0, 0, 0, 0, [])),
  (269, (.iconst 4, 270, 0, 0, 0, 0, 0, [])),
  (270, (.invokevirtual 19, 273, 107, 3, 426, 0, 10, [0])),
  (273, (.iload_n 1, 274, 1, 0, 0, 0, 0, [])),
  (274, (.if_icmp .eq 15, 277, 289, 0, 0, 0, 0, [])),
  (277, (.aload_n 0, 278, 0, 0, 0, 0, 0, []))]
def rn_t131_2 : List (Nat × rn_E) := [(278, (.iload 10, 280, 10, 0, 0, 0, 0, [])),
  (280, (.iconst 0, 281, 0, 0, 0, 0, 0, [])),
  (281, (.invokevirtual 88, 284, 116, 3, 705, 0, 10, [0])),
  (284, (.bipush (-9), 286, 0, 0, 0, 0, 0, [])),
  (286, (.if_icmp .ne 7, 289, 293, 0, 0, 0, 0, [])),
  (289, (.iconst 1, 290, 0, 0, 0, 0, 0, [])),
  (290, (.goto 4, 293, 294, 0, 0, 0, 0, [])),
  (293, (.iconst 0, 294, 0, 0, 0, 0, 0, [])),
  (294, (.istore 7, 296, 7, 0, 0, 1, 0, [])),
  (296, (.iinc 10 1, 299, 10, 0, 0, 0, 0, [])),
  (299, (.goto (-55), 302, 244, 0, 0, 0, 0, [])),
  (302, (.iload 7, 304, 7, 0, 0, 0, 0, [])),
  (304, (.ifCond .eq 23, 307, 327, 0, 0, 0, 0, [])),
  (307, (.aload_n 0, 308, 0, 0, 0, 0, 0, [])),
  (308, (.invokevirtual 97, 311, 105, 1, 265, 0, 10, [0])),
  (311, (.ifCond .lt 16, 314, 327, 0, 0, 0, 0, [])),
  (314, (.aload_n 0, 315, 0, 0, 0, 0, 0, [])),
  (315, (.invokestatic 35, 318, 126, 1, 421, 0, 0, [0])),
  (318, (.lload_n 2, 319, 2, 0, 0, 0, 0, [])),
  (319, (.lcmp, 320, 0, 0, 0, 0, 0, [])),
  (320, (.ifCond .ne 7, 323, 327, 0, 0, 0, 0, [])),
  (323, (.iconst 1, 324, 0, 0, 0, 0, 0, [])),
  (324, (.goto 4, 327, 328, 0, 0, 0, 0, [])),
  (327, (.iconst 0, 328, 0, 0, 0, 0, 0, [])),
  (328, (.ireturn, 329, 0, 0, 0, 1, 0, []))]
def rn_t131 : List (Nat × rn_E) := rn_t131_0 ++ (rn_t131_1 ++ (rn_t131_2))
def rn_m131 : rn_Mt := (yL_areTidied, cL_areTidied, 12, (some .boolean), false, 0, 0, 9, 216, rn_t131)
def rn_t132_0 : List (Nat × rn_E) := [(0, (.aload_n 0, 1, 0, 0, 0, 0, 0, [])),
  (1, (.iconst 0, 2, 0, 0, 0, 0, 0, [])),
  (2, (.invokevirtual 13, 5, 106, 2, 276, 0, 10, [0])),
  (5, (.istore_n 3, 6, 3, 0, 0, 1, 0, [])),
  (6, (.iload_n 3, 7, 3, 0, 0, 0, 0, [])),
  (7, (.ifCond .ne 7, 10, 14, 0, 0, 0, 0, [])),
  (10, (.iconst 0, 11, 0, 0, 0, 0, 0, [])),
  (11, (.goto 6, 14, 17, 0, 0, 0, 0, [])),
  (14, (.iload_n 2, 15, 2, 0, 0, 0, 0, [])),
  (15, (.iload_n 3, 16, 3, 0, 0, 0, 0, [])),
  (16, (.irem, 17, 0, 0, 0, 0, 0, [])),
  (17, (.istore 4, 19, 4, 0, 0, 1, 0, [])),
  (19, (.iload_n 1, 20, 1, 0, 0, 0, 0, [])),
  (20, (.bipush 20, 22, 0, 0, 0, 0, 0, [])),
  (22, (.invokestatic 104, 25, 124, 2, 417, 0, 0, [0])),
  (25, (.tableswitch 317 0 16 #[83, 123, 160, 160, 160, 160, 160, 160, 192, 208, 241, 274, 274, 274, 274, 288, 312], 108, 342, 0, 0, 0, 0, [108, 148, 185, 185, 185, 185, 185, 185, 217, 233, 266, 299, 299, 299, 299, 313, 337])),
  (108, (.aload_n 0, 109, 0, 0, 0, 0, 0, [])),
  (109, (.iconst 1, 110, 0, 0, 0, 0, 0, [])),
  (110, (.iload_n 2, 111, 2, 0, 0, 0, 0, [])),
  (111, (.bipush 6, 113, 0, 0, 0, 0, 0, [])),
  (113, (.irem, 114, 0, 0, 0, 0, 0, [])),
  (114, (.iadd, 115, 0, 0, 0, 0, 0, [])),
  (115, (.iconst 4, 116, 0, 0, 0, 0, 0, [])),
  (116, (.iload_n 2, 117, 2, 0, 0, 0, 0, [])),
  (117, (.bipush 6, 119, 0, 0, 0, 0, 0, [])),
  (119, (.idiv, 120, 0, 0, 0, 0, 0, [])),
  (120, (.bipush 14, 122, 0, 0, 0, 0, 0, [])),
  (122, (.irem, 123, 0, 0, 0, 0, 0, [])),
  (123, (.iadd, 124, 0, 0, 0, 0, 0, [])),
  (124, (.iload_n 2, 125, 2, 0, 0, 0, 0, [])),
  (125, (.bipush 84, 127, 0, 0, 0, 0, 0, [])),
  (127, (.idiv, 128, 0, 0, 0, 0, 0, [])),
  (128, (.bipush 14, 130, 0, 0, 0, 0, 0, [])),
  (130, (.irem, 131, 0, 0, 0, 0, 0, [])),
  (131, (.iconst 1, 132, 0, 0, 0, 0, 0, [])),
  (132, (.iload_n 2, 133, 2, 0, 0, 0, 0, [])),
  (133, (.sipush 1176, 136, 0, 0, 0, 0, 0, [])),
  (136, (.idiv, 137, 0, 0, 0, 0, 0, [])),
  (137, (.bipush 9, 139, 0, 0, 0, 0, 0, [])),
  (139, (.irem, 140, 0, 0, 0, 0, 0, [])),
  (140, (.iadd, 141, 0, 0, 0, 0, 0, [])),
  (141, (.iload_n 2, 142, 2, 0, 0, 0, 0, [])),
  (142, (.iconst 3, 143, 0, 0, 0, 0, 0, [])),
  (143, (.irem, 144, 0, 0, 0, 0, 0, [])),
  (144, (.invokevirtual 44, 147, 94, 6, 509, 0, 10, [0])),
  (147, (.ireturn, 148, 0, 0, 0, 0, 0, [])),
  (148, (.aload_n 0, 149, 0, 0, 0, 0, 0, [])),
  (149, (.iload_n 2, 150, 2, 0, 0, 0, 0, [])),
  (150, (.bipush 30, 152, 0, 0, 0, 0, 0, [])),
  (152, (.irem, 153, 0, 0, 0, 0, 0, [])),
  (153, (.iload_n 2, 154, 2, 0, 0, 0, 0, [])),
  (154, (.bipush 30, 156, 0, 0, 0, 0, 0, [])),
  (156, (.idiv, 157, 0, 0, 0, 0, 0, [])),
  (157, (.bipush 20, 159, 0, 0, 0, 0, 0, [])),
  (159, (.irem, 160, 0, 0, 0, 0, 0, [])),
  (160, (.iconst 1, 161, 0, 0, 0, 0, 0, [])),
  (161, (.iload_n 2, 162, 2, 0, 0, 0, 0, [])),
  (162, (.bipush 12, 164, 0, 0, 0, 0, 0, [])),
  (164, (.irem, 165, 0, 0, 0, 0, 0, [])),
  (165, (.iadd, 166, 0, 0, 0, 0, 0, [])),
  (166, (.iconst 1, 167, 0, 0, 0, 0, 0, [])),
  (167, (.iload_n 2, 168, 2, 0, 0, 0, 0, [])),
  (168, (.iconst 3, 169, 0, 0, 0, 0, 0, [])),
  (169, (.irem, 170, 0, 0, 0, 0, 0, [])),
  (170, (.iadd, 171, 0, 0, 0, 0, 0, [])),
  (171, (.iconst 1, 172, 0, 0, 0, 0, 0, [])),
  (172, (.iload_n 2, 173, 2, 0, 0, 0, 0, [])),
  (173, (.sipush 600, 176, 0, 0, 0, 0, 0, [])),
  (176, (.idiv, 177, 0, 0, 0, 0, 0, [])),
  (177, (.bipush 9, 179, 0, 0, 0, 0, 0, []))]
def rn_t132_1 : List (Nat × rn_E) := [(179, (.irem, 180, 0, 0, 0, 0, 0, [])),
  (180, (.iadd, 181, 0, 0, 0, 0, 0, [])),
  (181, (.invokevirtual 48, 184, 95, 6, 592, 0, 10, [0])),
  (184, (.ireturn, 185, 0, 0, 0, 0, 0, [])),
  (185, (.aload_n 0, 186, 0, 0, 0, 0, 0, [])),
  (186, (.iload 4, 188, 4, 0, 0, 0, 0, [])),
  (188, (.iload_n 2, 189, 2, 0, 0, 0, 0, [])),
  (189, (.bipush 6, 191, 0, 0, 0, 0, 0, [])),
  (191, (.idiv, 192, 0, 0, 0, 0, 0, [])),
  (192, (.iconst 3, 193, 0, 0, 0, 0, 0, [])),
  (193, (.irem, 194, 0, 0, 0, 0, 0, [])),
  (194, (.ifCond .ne 13, 197, 207, 0, 0, 0, 0, [])),
  (197, (.iload_n 2, 198, 2, 0, 0, 0, 0, [])),
  (198, (.bipush 18, 200, 0, 0, 0, 0, 0, [])),
  (200, (.idiv, 201, 0, 0, 0, 0, 0, [])),
  (201, (.bipush 8, 203, 0, 0, 0, 0, 0, [])),
  (203, (.irem, 204, 0, 0, 0, 0, 0, [])),
  (204, (.goto 9, 207, 213, 0, 0, 0, 0, [])),
  (207, (.iload_n 2, 208, 2, 0, 0, 0, 0, [])),
  (208, (.bipush 18, 210, 0, 0, 0, 0, 0, [])),
  (210, (.idiv, 211, 0, 0, 0, 0, 0, [])),
  (211, (.iconst 3, 212, 0, 0, 0, 0, 0, [])),
  (212, (.irem, 213, 0, 0, 0, 0, 0, [])),
  (213, (.invokevirtual 51, 216, 96, 3, 598, 0, 10, [0])),
  (216, (.ireturn, 217, 0, 0, 0, 0, 0, [])),
  (217, (.aload_n 0, 218, 0, 0, 0, 0, 0, [])),
  (218, (.iload 4, 220, 4, 0, 0, 0, 0, [])),
  (220, (.iconst 1, 221, 0, 0, 0, 0, 0, [])),
  (221, (.iload_n 2, 222, 2, 0, 0, 0, 0, [])),
  (222, (.bipush 6, 224, 0, 0, 0, 0, 0, [])),
  (224, (.idiv, 225, 0, 0, 0, 0, 0, [])),
  (225, (.bipush 9, 227, 0, 0, 0, 0, 0, [])),
  (227, (.irem, 228, 0, 0, 0, 0, 0, [])),
  (228, (.iadd, 229, 0, 0, 0, 0, 0, [])),
  (229, (.invokevirtual 54, 232, 97, 3, 616, 0, 10, [0])),
  (232, (.ireturn, 233, 0, 0, 0, 0, 0, [])),
  (233, (.iload_n 2, 234, 2, 0, 0, 0, 0, [])),
  (234, (.iconst 2, 235, 0, 0, 0, 0, 0, [])),
  (235, (.irem, 236, 0, 0, 0, 0, 0, [])),
  (236, (.ifCond .ne 18, 239, 254, 0, 0, 0, 0, [])),
  (239, (.aload_n 0, 240, 0, 0, 0, 0, 0, [])),
  (240, (.iload 4, 242, 4, 0, 0, 0, 0, [])),
  (242, (.iload_n 2, 243, 2, 0, 0, 0, 0, [])),
  (243, (.bipush 6, 245, 0, 0, 0, 0, 0, [])),
  (245, (.idiv, 246, 0, 0, 0, 0, 0, [])),
  (246, (.iconst 3, 247, 0, 0, 0, 0, 0, [])),
  (247, (.irem, 248, 0, 0, 0, 0, 0, [])),
  (248, (.invokevirtual 57, 251, 98, 3, 620, 0, 10, [0])),
  (251, (.goto 14, 254, 265, 0, 0, 0, 0, [])),
  (254, (.aload_n 0, 255, 0, 0, 0, 0, 0, [])),
  (255, (.iload_n 2, 256, 2, 0, 0, 0, 0, [])),
  (256, (.bipush 6, 258, 0, 0, 0, 0, 0, [])),
  (258, (.idiv, 259, 0, 0, 0, 0, 0, [])),
  (259, (.bipush 14, 261, 0, 0, 0, 0, 0, [])),
  (261, (.irem, 262, 0, 0, 0, 0, 0, [])),
  (262, (.invokevirtual 63, 265, 100, 2, 628, 0, 10, [0])),
  (265, (.ireturn, 266, 0, 0, 0, 0, 0, [])),
  (266, (.aload_n 0, 267, 0, 0, 0, 0, 0, [])),
  (267, (.aload_n 0, 268, 0, 0, 0, 0, 0, [])),
  (268, (.iconst 1, 269, 0, 0, 0, 0, 0, [])),
  (269, (.invokevirtual 13, 272, 106, 2, 276, 0, 10, [0])),
  (272, (.ifCond .ne 7, 275, 279, 0, 0, 0, 0, [])),
  (275, (.iconst 0, 276, 0, 0, 0, 0, 0, [])),
  (276, (.goto 10, 279, 286, 0, 0, 0, 0, [])),
  (279, (.iload_n 2, 280, 2, 0, 0, 0, 0, [])),
  (280, (.aload_n 0, 281, 0, 0, 0, 0, 0, [])),
  (281, (.iconst 1, 282, 0, 0, 0, 0, 0, [])),
  (282, (.invokevirtual 13, 285, 106, 2, 276, 0, 10, [0])),
  (285, (.irem, 286, 0, 0, 0, 0, 0, [])),
  (286, (.iconst 1, 287, 0, 0, 0, 0, 0, []))]
def rn_t132_2 : List (Nat × rn_E) := [(287, (.iload_n 2, 288, 2, 0, 0, 0, 0, [])),
  (288, (.bipush 10, 290, 0, 0, 0, 0, 0, [])),
  (290, (.idiv, 291, 0, 0, 0, 0, 0, [])),
  (291, (.bipush 9, 293, 0, 0, 0, 0, 0, [])),
  (293, (.irem, 294, 0, 0, 0, 0, 0, [])),
  (294, (.iadd, 295, 0, 0, 0, 0, 0, [])),
  (295, (.invokevirtual 60, 298, 99, 3, 624, 0, 10, [0])),
  (298, (.ireturn, 299, 0, 0, 0, 0, 0, [])),
  (299, (.aload_n 0, 300, 0, 0, 0, 0, 0, [])),
  (300, (.iload 4, 302, 4, 0, 0, 0, 0, [])),
  (302, (.iload_n 2, 303, 2, 0, 0, 0, 0, [])),
  (303, (.bipush 6, 305, 0, 0, 0, 0, 0, [])),
  (305, (.idiv, 306, 0, 0, 0, 0, 0, [])),
  (306, (.bipush 14, 308, 0, 0, 0, 0, 0, [])),
  (308, (.irem, 309, 0, 0, 0, 0, 0, [])),
  (309, (.invokevirtual 66, 312, 101, 3, 632, 0, 10, [0])),
  (312, (.ireturn, 313, 0, 0, 0, 0, 0, [])),
  (313, (.aload_n 0, 314, 0, 0, 0, 0, 0, [])),
  (314, (.aload_n 0, 315, 0, 0, 0, 0, 0, [])),
  (315, (.iconst 2, 316, 0, 0, 0, 0, 0, [])),
  (316, (.invokevirtual 13, 319, 106, 2, 276, 0, 10, [0])),
  (319, (.ifCond .ne 7, 322, 326, 0, 0, 0, 0, [])),
  (322, (.iconst 0, 323, 0, 0, 0, 0, 0, [])),
  (323, (.goto 10, 326, 333, 0, 0, 0, 0, [])),
  (326, (.iload_n 2, 327, 2, 0, 0, 0, 0, [])),
  (327, (.aload_n 0, 328, 0, 0, 0, 0, 0, [])),
  (328, (.iconst 2, 329, 0, 0, 0, 0, 0, [])),
  (329, (.invokevirtual 13, 332, 106, 2, 276, 0, 10, [0])),
  (332, (.irem, 333, 0, 0, 0, 0, 0, [])),
  (333, (.invokevirtual 69, 336, 102, 2, 637, 0, 10, [0])),
  (336, (.ireturn, 337, 0, 0, 0, 0, 0, [])),
  (337, (.aload_n 0, 338, 0, 0, 0, 0, 0, [])),
  (338, (.invokevirtual 101, 341, 104, 1, 738, 0, 10, [0])),
  (341, (.ireturn, 342, 0, 0, 0, 0, 0, [])),
  (342, (.aload_n 0, 343, 0, 0, 0, 0, 0, [])),
  (343, (.iconst 1, 344, 0, 0, 0, 0, 0, [])),
  (344, (.iload_n 2, 345, 2, 0, 0, 0, 0, [])),
  (345, (.iconst 5, 346, 0, 0, 0, 0, 0, [])),
  (346, (.irem, 347, 0, 0, 0, 0, 0, [])),
  (347, (.iadd, 348, 0, 0, 0, 0, 0, [])),
  (348, (.invokevirtual 72, 351, 103, 2, 645, 0, 10, [0])),
  (351, (.ireturn, 352, 0, 0, 0, 0, 0, []))]
def rn_t132 : List (Nat × rn_E) := rn_t132_0 ++ (rn_t132_1 ++ (rn_t132_2))
def rn_m132 : rn_Mt := (yL_acts, cL_acts, 5, (some .int), false, 0, 0, 8, 193, rn_t132)
def rn_t133 : List (Nat × rn_E) := []
def rn_m133 : rn_Mt := (yL_law, cL_law, 12, (some .boolean), false, 0, 0, 0, 0, rn_t133)
def rn_t134 : List (Nat × rn_E) := []
def rn_m134 : rn_Mt := (yL_law, cL_law, 12, (some .boolean), false, 0, 0, 0, 0, rn_t134)
def rn_t135 : List (Nat × rn_E) := []
def rn_m135 : rn_Mt := (yL_law, cL_law, 12, (some .boolean), false, 0, 0, 0, 0, rn_t135)
def rn_t136 : List (Nat × rn_E) := []
def rn_m136 : rn_Mt := (yL_law, cL_law, 12, (some .boolean), false, 0, 0, 0, 0, rn_t136)
def rn_t137 : List (Nat × rn_E) := []
def rn_m137 : rn_Mt := (yL_law, cL_law, 12, (some .boolean), false, 0, 0, 0, 0, rn_t137)
def rn_t138 : List (Nat × rn_E) := []
def rn_m138 : rn_Mt := (yL_law, cL_law, 12, (some .boolean), false, 0, 0, 0, 0, rn_t138)
def rn_t139 : List (Nat × rn_E) := []
def rn_m139 : rn_Mt := (yL_law, cL_law, 12, (some .boolean), false, 0, 0, 0, 0, rn_t139)
def rn_t140 : List (Nat × rn_E) := []
def rn_m140 : rn_Mt := (yL_law, cL_law, 12, (some .boolean), false, 0, 0, 0, 0, rn_t140)
def rn_t141 : List (Nat × rn_E) := []
def rn_m141 : rn_Mt := (yL_law, cL_law, 12, (some .boolean), false, 0, 0, 0, 0, rn_t141)
def rn_t142 : List (Nat × rn_E) := []
def rn_m142 : rn_Mt := (yL_law, cL_law, 12, (some .boolean), false, 0, 0, 0, 0, rn_t142)
def rn_t143 : List (Nat × rn_E) := []
def rn_m143 : rn_Mt := (yL_law, cL_law, 12, (some .boolean), false, 0, 0, 0, 0, rn_t143)
def rn_t144 : List (Nat × rn_E) := []
def rn_m144 : rn_Mt := (yL_law, cL_law, 12, (some .boolean), false, 0, 0, 0, 0, rn_t144)
def rn_t145 : List (Nat × rn_E) := []
def rn_m145 : rn_Mt := (yL_law, cL_law, 12, (some .boolean), false, 0, 0, 0, 0, rn_t145)
def rn_t146 : List (Nat × rn_E) := []
def rn_m146 : rn_Mt := (yL_law, cL_law, 12, (some .boolean), false, 0, 0, 0, 0, rn_t146)
def rn_t147 : List (Nat × rn_E) := []
def rn_m147 : rn_Mt := (yL_law, cL_law, 12, (some .boolean), false, 0, 0, 0, 0, rn_t147)
def rn_t148 : List (Nat × rn_E) := []
def rn_m148 : rn_Mt := (yL_law, cL_law, 12, (some .boolean), false, 0, 0, 0, 0, rn_t148)
def rn_t149 : List (Nat × rn_E) := []
def rn_m149 : rn_Mt := (yL_law, cL_law, 12, (some .boolean), false, 0, 0, 0, 0, rn_t149)
def rn_t150 : List (Nat × rn_E) := []
def rn_m150 : rn_Mt := (yL_law, cL_law, 12, (some .boolean), false, 0, 0, 0, 0, rn_t150)
def rn_t151 : List (Nat × rn_E) := []
def rn_m151 : rn_Mt := (yL_law, cL_law, 12, (some .boolean), false, 0, 0, 0, 0, rn_t151)
def rn_t152 : List (Nat × rn_E) := []
def rn_m152 : rn_Mt := (yL_law, cL_law, 12, (some .boolean), false, 0, 0, 0, 0, rn_t152)
def rn_t153 : List (Nat × rn_E) := []
def rn_m153 : rn_Mt := (yL_law, cL_law, 12, (some .boolean), false, 0, 0, 0, 0, rn_t153)
def rn_t154 : List (Nat × rn_E) := []
def rn_m154 : rn_Mt := (yL_law, cL_law, 12, (some .boolean), false, 0, 0, 0, 0, rn_t154)
def rn_t155 : List (Nat × rn_E) := []
def rn_m155 : rn_Mt := (yL_law, cL_law, 12, (some .boolean), false, 0, 0, 0, 0, rn_t155)
def rn_t156 : List (Nat × rn_E) := []
def rn_m156 : rn_Mt := (yL_law, cL_law, 12, (some .boolean), false, 0, 0, 0, 0, rn_t156)
def rn_t157 : List (Nat × rn_E) := []
def rn_m157 : rn_Mt := (yL_law, cL_law, 12, (some .boolean), false, 0, 0, 0, 0, rn_t157)
def rn_t158 : List (Nat × rn_E) := []
def rn_m158 : rn_Mt := (yL_law, cL_law, 12, (some .boolean), false, 0, 0, 0, 0, rn_t158)
def rn_t159 : List (Nat × rn_E) := []
def rn_m159 : rn_Mt := (yL_law, cL_law, 12, (some .boolean), false, 0, 0, 0, 0, rn_t159)
def rn_t160 : List (Nat × rn_E) := []
def rn_m160 : rn_Mt := (yL_law, cL_law, 12, (some .boolean), false, 0, 0, 0, 0, rn_t160)
def rn_t161 : List (Nat × rn_E) := []
def rn_m161 : rn_Mt := (yL_law, cL_law, 12, (some .boolean), false, 0, 0, 0, 0, rn_t161)
def rn_t162 : List (Nat × rn_E) := []
def rn_m162 : rn_Mt := (yL_law, cL_law, 12, (some .boolean), false, 0, 0, 0, 0, rn_t162)
def rn_t163 : List (Nat × rn_E) := []
def rn_m163 : rn_Mt := (yL_law, cL_law, 12, (some .boolean), false, 0, 0, 0, 0, rn_t163)
def rn_t164 : List (Nat × rn_E) := []
def rn_m164 : rn_Mt := (yL_law, cL_law, 12, (some .boolean), false, 0, 0, 0, 0, rn_t164)
def rn_t165 : List (Nat × rn_E) := []
def rn_m165 : rn_Mt := (yL_law, cL_law, 12, (some .boolean), false, 0, 0, 0, 0, rn_t165)
def rn_t166 : List (Nat × rn_E) := []
def rn_m166 : rn_Mt := (yL_law, cL_law, 12, (some .boolean), false, 0, 0, 0, 0, rn_t166)
def rn_t167 : List (Nat × rn_E) := []
def rn_m167 : rn_Mt := (yL_law, cL_law, 12, (some .boolean), false, 0, 0, 0, 0, rn_t167)
def rn_t168 : List (Nat × rn_E) := []
def rn_m168 : rn_Mt := (yL_law, cL_law, 12, (some .boolean), false, 0, 0, 0, 0, rn_t168)
def rn_t169 : List (Nat × rn_E) := []
def rn_m169 : rn_Mt := (yL_law, cL_law, 12, (some .boolean), false, 0, 0, 0, 0, rn_t169)
def rn_t170 : List (Nat × rn_E) := []
def rn_m170 : rn_Mt := (yL_law, cL_law, 12, (some .boolean), false, 0, 0, 0, 0, rn_t170)
def rn_t171 : List (Nat × rn_E) := []
def rn_m171 : rn_Mt := (yL_law, cL_law, 12, (some .boolean), false, 0, 0, 0, 0, rn_t171)
def rn_t172 : List (Nat × rn_E) := []
def rn_m172 : rn_Mt := (yL_law, cL_law, 12, (some .boolean), false, 0, 0, 0, 0, rn_t172)
def rn_t173 : List (Nat × rn_E) := []
def rn_m173 : rn_Mt := (yL_law, cL_law, 12, (some .boolean), false, 0, 0, 0, 0, rn_t173)
def rn_t174 : List (Nat × rn_E) := []
def rn_m174 : rn_Mt := (yL_law, cL_law, 12, (some .boolean), false, 0, 0, 0, 0, rn_t174)
def rn_t175 : List (Nat × rn_E) := []
def rn_m175 : rn_Mt := (yL_law, cL_law, 12, (some .boolean), false, 0, 0, 0, 0, rn_t175)
def rn_t176 : List (Nat × rn_E) := []
def rn_m176 : rn_Mt := (yL_law, cL_law, 12, (some .boolean), false, 0, 0, 0, 0, rn_t176)
def rn_t177 : List (Nat × rn_E) := []
def rn_m177 : rn_Mt := (yL_law, cL_law, 12, (some .boolean), false, 0, 0, 0, 0, rn_t177)
def rn_t178 : List (Nat × rn_E) := []
def rn_m178 : rn_Mt := (yL_law, cL_law, 12, (some .boolean), false, 0, 0, 0, 0, rn_t178)
def rn_t179 : List (Nat × rn_E) := []
def rn_m179 : rn_Mt := (yL_law, cL_law, 12, (some .boolean), false, 0, 0, 0, 0, rn_t179)
def rn_t180 : List (Nat × rn_E) := []
def rn_m180 : rn_Mt := (yL_law, cL_law, 12, (some .boolean), false, 0, 0, 0, 0, rn_t180)
def rn_t181 : List (Nat × rn_E) := []
def rn_m181 : rn_Mt := (yL_law, cL_law, 12, (some .boolean), false, 0, 0, 0, 0, rn_t181)
def rn_t182 : List (Nat × rn_E) := []
def rn_m182 : rn_Mt := (yL_law, cL_law, 12, (some .boolean), false, 0, 0, 0, 0, rn_t182)
def rn_t183 : List (Nat × rn_E) := []
def rn_m183 : rn_Mt := (yL_law, cL_law, 12, (some .boolean), false, 0, 0, 0, 0, rn_t183)
def rn_t184 : List (Nat × rn_E) := []
def rn_m184 : rn_Mt := (yL_law, cL_law, 12, (some .boolean), false, 0, 0, 0, 0, rn_t184)
def rn_t185 : List (Nat × rn_E) := []
def rn_m185 : rn_Mt := (yL_law, cL_law, 12, (some .boolean), false, 0, 0, 0, 0, rn_t185)
def rn_t186 : List (Nat × rn_E) := []
def rn_m186 : rn_Mt := (yL_law, cL_law, 12, (some .boolean), false, 0, 0, 0, 0, rn_t186)
def rn_t187 : List (Nat × rn_E) := []
def rn_m187 : rn_Mt := (yL_law, cL_law, 12, (some .boolean), false, 0, 0, 0, 0, rn_t187)
def rn_t188 : List (Nat × rn_E) := []
def rn_m188 : rn_Mt := (yL_law, cL_law, 12, (some .boolean), false, 0, 0, 0, 0, rn_t188)
def rn_t189 : List (Nat × rn_E) := []
def rn_m189 : rn_Mt := (yL_law, cL_law, 12, (some .boolean), false, 0, 0, 0, 0, rn_t189)
def rn_t190 : List (Nat × rn_E) := []
def rn_m190 : rn_Mt := (yL_law, cL_law, 12, (some .boolean), false, 0, 0, 0, 0, rn_t190)
def rn_t191 : List (Nat × rn_E) := []
def rn_m191 : rn_Mt := (yL_law, cL_law, 12, (some .boolean), false, 0, 0, 0, 0, rn_t191)
def rn_t192 : List (Nat × rn_E) := []
def rn_m192 : rn_Mt := (yL_law, cL_law, 12, (some .boolean), false, 0, 0, 0, 0, rn_t192)
def rn_t193 : List (Nat × rn_E) := []
def rn_m193 : rn_Mt := (yL_law, cL_law, 12, (some .boolean), false, 0, 0, 0, 0, rn_t193)
def rn_t194 : List (Nat × rn_E) := []
def rn_m194 : rn_Mt := (yL_law, cL_law, 12, (some .boolean), false, 0, 0, 0, 0, rn_t194)
def rn_t195 : List (Nat × rn_E) := []
def rn_m195 : rn_Mt := (yL_law, cL_law, 12, (some .boolean), false, 0, 0, 0, 0, rn_t195)
def rn_t196 : List (Nat × rn_E) := []
def rn_m196 : rn_Mt := (yL_law, cL_law, 12, (some .boolean), false, 0, 0, 0, 0, rn_t196)
def rn_t197 : List (Nat × rn_E) := []
def rn_m197 : rn_Mt := (yL_law, cL_law, 12, (some .boolean), false, 0, 0, 0, 0, rn_t197)
def rn_t198 : List (Nat × rn_E) := []
def rn_m198 : rn_Mt := (yL_law, cL_law, 12, (some .boolean), false, 0, 0, 0, 0, rn_t198)
def rn_t199 : List (Nat × rn_E) := []
def rn_m199 : rn_Mt := (yL_law, cL_law, 12, (some .boolean), false, 0, 0, 0, 0, rn_t199)
def rn_t200 : List (Nat × rn_E) := []
def rn_m200 : rn_Mt := (yL_law, cL_law, 12, (some .boolean), false, 0, 0, 0, 0, rn_t200)
def rn_t201 : List (Nat × rn_E) := []
def rn_m201 : rn_Mt := (yL_law, cL_law, 12, (some .boolean), false, 0, 0, 0, 0, rn_t201)
def rn_t202 : List (Nat × rn_E) := []
def rn_m202 : rn_Mt := (yL_law, cL_law, 12, (some .boolean), false, 0, 0, 0, 0, rn_t202)
def rn_t203 : List (Nat × rn_E) := []
def rn_m203 : rn_Mt := (yL_law, cL_law, 12, (some .boolean), false, 0, 0, 0, 0, rn_t203)
def rn_t204 : List (Nat × rn_E) := [(0, (.iload_n 0, 1, 0, 0, 0, 0, 0, [])),
  (1, (.ifCond .ge 8, 4, 9, 0, 0, 0, 0, [])),
  (4, (.iload_n 0, 5, 0, 0, 0, 0, 0, [])),
  (5, (.ineg, 6, 0, 0, 0, 0, 0, [])),
  (6, (.goto 4, 9, 10, 0, 0, 0, 0, [])),
  (9, (.iload_n 0, 10, 0, 0, 0, 0, 0, [])),
  (10, (.ireturn, 11, 0, 0, 0, 0, 0, []))]
def rn_m204 : rn_Mt := (yJ9_abs_0f7a4, cJ9_abs_0f7a4, 1, (some .int), false, 0, 0, 0, 0, rn_t204)
def rn_t205 : List (Nat × rn_E) := [(0, (.iload_n 0, 1, 0, 0, 0, 0, 0, [])),
  (1, (.iload_n 1, 2, 1, 0, 0, 0, 0, [])),
  (2, (.if_icmp .lt 7, 5, 9, 0, 0, 0, 0, [])),
  (5, (.iload_n 0, 6, 0, 0, 0, 0, 0, [])),
  (6, (.goto 4, 9, 10, 0, 0, 0, 0, [])),
  (9, (.iload_n 1, 10, 1, 0, 0, 0, 0, [])),
  (10, (.ireturn, 11, 0, 0, 0, 0, 0, []))]
def rn_m205 : rn_Mt := (yJ9_max_7cf53, cJ9_max_7cf53, 2, (some .int), false, 0, 0, 0, 0, rn_t205)
def rn_t206 : List (Nat × rn_E) := [(0, (.iload_n 0, 1, 0, 0, 0, 0, 0, [])),
  (1, (.iload_n 1, 2, 1, 0, 0, 0, 0, [])),
  (2, (.if_icmp .gt 7, 5, 9, 0, 0, 0, 0, [])),
  (5, (.iload_n 0, 6, 0, 0, 0, 0, 0, [])),
  (6, (.goto 4, 9, 10, 0, 0, 0, 0, [])),
  (9, (.iload_n 1, 10, 1, 0, 0, 0, 0, [])),
  (10, (.ireturn, 11, 0, 0, 0, 0, 0, []))]
def rn_m206 : rn_Mt := (yJ9_min_7cf53, cJ9_min_7cf53, 2, (some .int), false, 0, 0, 0, 0, rn_t206)
def rn_t207 : List (Nat × rn_E) := []
def rn_m207 : rn_Mt := (yL_law, cL_law, 12, (some .boolean), false, 0, 0, 0, 0, rn_t207)
def rn_t208 : List (Nat × rn_E) := []
def rn_m208 : rn_Mt := (yL_law, cL_law, 12, (some .boolean), false, 0, 0, 0, 0, rn_t208)
def rn_t209 : List (Nat × rn_E) := []
def rn_m209 : rn_Mt := (yL_law, cL_law, 12, (some .boolean), false, 0, 0, 0, 0, rn_t209)
def rn_t210 : List (Nat × rn_E) := []
def rn_m210 : rn_Mt := (yL_law, cL_law, 12, (some .boolean), false, 0, 0, 0, 0, rn_t210)
def rn_t211 : List (Nat × rn_E) := []
def rn_m211 : rn_Mt := (yL_law, cL_law, 12, (some .boolean), false, 0, 0, 0, 0, rn_t211)
def rn_t212 : List (Nat × rn_E) := []
def rn_m212 : rn_Mt := (yL_law, cL_law, 12, (some .boolean), false, 0, 0, 0, 0, rn_t212)
def rn_t213 : List (Nat × rn_E) := [(0, (.iconst 0, 1, 0, 0, 0, 0, 0, [])),
  (1, (.istore_n 2, 2, 2, 0, 0, 0, 0, [])),
  (2, (.aload_n 0, 3, 0, 0, 0, 0, 0, [])),
  (3, (.arraylength, 4, 0, 0, 0, 0, 0, [])),
  (4, (.istore_n 3, 5, 3, 0, 0, 0, 0, [])),
  (5, (.iload_n 2, 6, 2, 0, 0, 0, 0, [])),
  (6, (.iload_n 3, 7, 3, 0, 0, 0, 0, [])),
  (7, (.if_icmp .ge 13, 10, 20, 0, 0, 0, 0, [])),
  (10, (.aload_n 0, 11, 0, 0, 0, 0, 0, [])),
  (11, (.iload_n 2, 12, 2, 0, 0, 0, 0, [])),
  (12, (.iload_n 1, 13, 1, 0, 0, 0, 0, [])),
  (13, (.iastore, 14, 0, 0, 0, 0, 0, [])),
  (14, (.iinc 2 1, 17, 2, 0, 0, 0, 0, [])),
  (17, (.goto (-12), 20, 5, 0, 0, 0, 0, [])),
  (20, (.return_, 21, 0, 0, 0, 0, 0, []))]
def rn_m213 : rn_Mt := (yJ7_fill_53178, cJ7_fill_53178, 4, none, false, 0, 0, 0, 0, rn_t213)
def rn_t214 : List (Nat × rn_E) := []
def rn_m214 : rn_Mt := (yL_law, cL_law, 12, (some .boolean), false, 0, 0, 0, 0, rn_t214)
def rn_t215_0 : List (Nat × rn_E) := [(0, (.new 14, 3, 9, 0, 29, 0, 0, [])),
  (3, (.dup, 4, 0, 0, 0, 0, 0, [])),
  (4, (.invokespecial 107, 7, 90, 1, 31, 4, 10, [0])),
  (7, (.astore_n 1, 8, 1, 0, 0, 1, 0, [])),
  (8, (.aload_n 1, 9, 1, 0, 0, 0, 0, [])),
  (9, (.invokevirtual 97, 12, 105, 1, 265, 0, 10, [0])),
  (12, (.bipush (-2), 14, 0, 0, 0, 0, 0, [])),
  (14, (.if_icmp .ne 21, 17, 35, 0, 0, 0, 0, [])),
  (17, (.aload_n 1, 18, 1, 0, 0, 0, 0, [])),
  (18, (.invokestatic 108, 21, 127, 1, 497, 0, 0, [0])),
  (21, (.ifCond .eq 14, 24, 35, 0, 0, 0, 0, [])),
  (24, (.aload_n 1, 25, 1, 0, 0, 0, 0, [])),
  (25, (.invokestatic 112, 28, 130, 1, 732, 0, 0, [0])),
  (28, (.ifCond .eq 7, 31, 35, 0, 0, 0, 0, [])),
  (31, (.iconst 1, 32, 0, 0, 0, 0, 0, [])),
  (32, (.goto 4, 35, 36, 0, 0, 0, 0, [])),
  (35, (.iconst 0, 36, 0, 0, 0, 0, 0, [])),
  (36, (.istore_n 2, 37, 2, 0, 0, 1, 0, [])),
  (37, (.iconst 0, 38, 0, 0, 0, 0, 0, [])),
  (38, (.istore_n 3, 39, 3, 0, 0, 1, 0, [])),
  (39, (.iload_n 3, 40, 3, 0, 0, 0, 0, [])),
  (40, (.bipush 70, 42, 0, 0, 0, 0, 0, [])),
  (42, (.if_icmp .ge 371, 45, 413, 0, 0, 0, 0, [])),
  (45, (.iload_n 2, 46, 2, 0, 0, 0, 0, [])),
  (46, (.ifCond .eq 367, 49, 413, 0, 0, 0, 0, [])),
  (49, (.aload_n 0, 50, 0, 0, 0, 0, 0, [])),
  (50, (.iconst 2, 51, 0, 0, 0, 0, 0, [])),
  (51, (.iload_n 3, 52, 3, 0, 0, 0, 0, [])),
  (52, (.imul, 53, 0, 0, 0, 0, 0, [])),
  (53, (.invokestatic 115, 56, 123, 2, 413, 0, 0, [0])),
  (56, (.istore 4, 58, 4, 0, 0, 1, 0, [])),
  (58, (.aload_n 0, 59, 0, 0, 0, 0, 0, [])),
  (59, (.iconst 2, 60, 0, 0, 0, 0, 0, [])),
  (60, (.iload_n 3, 61, 3, 0, 0, 0, 0, [])),
  (61, (.imul, 62, 0, 0, 0, 0, 0, [])),
  (62, (.iconst 1, 63, 0, 0, 0, 0, 0, [])),
  (63, (.iadd, 64, 0, 0, 0, 0, 0, [])),
  (64, (.invokestatic 115, 67, 123, 2, 413, 0, 0, [0])),
  (67, (.ldc 118, 69, 1000000, 0, 750, 0, 0, [])),
  (69, (.invokestatic 104, 72, 124, 2, 417, 0, 0, [0])),
  (72, (.istore 5, 74, 5, 0, 0, 1, 0, [])),
  (74, (.aload_n 1, 75, 1, 0, 0, 0, 0, [])),
  (75, (.invokestatic 35, 78, 126, 1, 421, 0, 0, [0])),
  (78, (.lstore 6, 80, 6, 0, 0, 1, 0, [])),
  (80, (.aload_n 1, 81, 1, 0, 0, 0, 0, [])),
  (81, (.bipush 8, 83, 0, 0, 0, 0, 0, [])),
  (83, (.invokevirtual 13, 86, 106, 2, 276, 0, 10, [0])),
  (86, (.istore 8, 88, 8, 0, 0, 1, 0, [])),
  (88, (.iload_n 3, 89, 3, 0, 0, 0, 0, [])),
  (89, (.iconst 4, 90, 0, 0, 0, 0, 0, [])),
  (90, (.if_icmp .ge 7, 93, 97, 0, 0, 0, 0, [])),
  (93, (.iconst 0, 94, 0, 0, 0, 0, 0, [])),
  (94, (.goto 41, 97, 135, 0, 0, 0, 0, [])),
  (97, (.iload_n 3, 98, 3, 0, 0, 0, 0, [])),
  (98, (.bipush 6, 100, 0, 0, 0, 0, 0, [])),
  (100, (.if_icmp .ge 7, 103, 107, 0, 0, 0, 0, [])),
  (103, (.iconst 1, 104, 0, 0, 0, 0, 0, [])),
  (104, (.goto 31, 107, 135, 0, 0, 0, 0, [])),
  (107, (.iload_n 3, 108, 3, 0, 0, 0, 0, [])),
  (108, (.bipush 34, 110, 0, 0, 0, 0, 0, [])),
  (110, (.if_icmp .ge 7, 113, 117, 0, 0, 0, 0, [])),
  (113, (.iconst 2, 114, 0, 0, 0, 0, 0, [])),
  (114, (.goto 21, 117, 135, 0, 0, 0, 0, [])),
  (117, (.iload_n 3, 118, 3, 0, 0, 0, 0, [])),
  (118, (.bipush 34, 120, 0, 0, 0, 0, 0, [])),
  (120, (.if_icmp .ne 8, 123, 128, 0, 0, 0, 0, [])),
  (123, (.bipush 19, 125, 0, 0, 0, 0, 0, [])),
  (125, (.goto 10, 128, 135, 0, 0, 0, 0, [])),
  (128, (.iload 4, 130, 4, 0, 0, 0, 0, [])),
  (130, (.bipush 20, 132, 0, 0, 0, 0, 0, []))]
def rn_t215_1 : List (Nat × rn_E) := [(132, (.invokestatic 104, 135, 124, 2, 417, 0, 0, [0])),
  (135, (.istore 9, 137, 9, 0, 0, 1, 0, [])),
  (137, (.aload_n 1, 138, 1, 0, 0, 0, 0, [])),
  (138, (.bipush 20, 140, 0, 0, 0, 0, 0, [])),
  (140, (.iload 4, 142, 4, 0, 0, 0, 0, [])),
  (142, (.iconst 4, 143, 0, 0, 0, 0, 0, [])),
  (143, (.ishr, 144, 0, 0, 0, 0, 0, [])),
  (144, (.ldc 119, 146, 99999, 0, 751, 0, 0, [])),
  (146, (.invokestatic 104, 149, 124, 2, 417, 0, 0, [0])),
  (149, (.imul, 150, 0, 0, 0, 0, 0, [])),
  (150, (.iload 9, 152, 9, 0, 0, 0, 0, [])),
  (152, (.iadd, 153, 0, 0, 0, 0, 0, [])),
  (153, (.iload 5, 155, 5, 0, 0, 0, 0, [])),
  (155, (.invokestatic 120, 158, 132, 3, 747, 0, 0, [0])),
  (158, (.istore 10, 160, 10, 0, 0, 1, 0, [])),
  (160, (.iload 10, 162, 10, 0, 0, 0, 0, [])),
  (162, (.ifCond .lt 26, 165, 188, 0, 0, 0, 0, [])),
  (165, (.aload_n 1, 166, 1, 0, 0, 0, 0, [])),
  (166, (.bipush 8, 168, 0, 0, 0, 0, 0, [])),
  (168, (.invokevirtual 13, 171, 106, 2, 276, 0, 10, [0])),
  (171, (.iload 8, 173, 8, 0, 0, 0, 0, [])),
  (173, (.iconst 5, 174, 0, 0, 0, 0, 0, [])),
  (174, (.if_icmp .ne 7, 177, 181, 0, 0, 0, 0, [])),
  (177, (.iconst 5, 178, 0, 0, 0, 0, 0, [])),
  (178, (.goto 7, 181, 185, 0, 0, 0, 0, [])),
  (181, (.iload 8, 183, 8, 0, 0, 0, 0, [])),
  (183, (.iconst 1, 184, 0, 0, 0, 0, 0, [])),
  (184, (.iadd, 185, 0, 0, 0, 0, 0, [])),
  (185, (.if_icmp .eq 44, 188, 229, 0, 0, 0, 0, [])),
  (188, (.iload 10, 190, 10, 0, 0, 0, 0, [])),
  (190, (.iconst (-1), 191, 0, 0, 0, 0, 0, [])),
  (191, (.if_icmp .eq 17, 194, 208, 0, 0, 0, 0, [])),
  (194, (.iload 10, 196, 10, 0, 0, 0, 0, [])),
  (196, (.bipush (-2), 198, 0, 0, 0, 0, 0, [])),
  (198, (.if_icmp .eq 10, 201, 208, 0, 0, 0, 0, [])),
  (201, (.iload 10, 203, 10, 0, 0, 0, 0, [])),
  (203, (.bipush (-3), 205, 0, 0, 0, 0, 0, [])),
  (205, (.if_icmp .ne 28, 208, 233, 0, 0, 0, 0, [])),
  (208, (.aload_n 1, 209, 1, 0, 0, 0, 0, [])),
  (209, (.bipush 8, 211, 0, 0, 0, 0, 0, [])),
  (211, (.invokevirtual 13, 214, 106, 2, 276, 0, 10, [0])),
  (214, (.iload 8, 216, 8, 0, 0, 0, 0, [])),
  (216, (.if_icmp .ne 17, 219, 233, 0, 0, 0, 0, [])),
  (219, (.aload_n 1, 220, 1, 0, 0, 0, 0, [])),
  (220, (.invokestatic 35, 223, 126, 1, 421, 0, 0, [0])),
  (223, (.lload 6, 225, 6, 0, 0, 0, 0, [])),
  (225, (.lcmp, 226, 0, 0, 0, 0, 0, [])),
  (226, (.ifCond .ne 7, 229, 233, 0, 0, 0, 0, [])),
  (229, (.iconst 1, 230, 0, 0, 0, 0, 0, [])),
  (230, (.goto 4, 233, 234, 0, 0, 0, 0, [])),
  (233, (.iconst 0, 234, 0, 0, 0, 0, 0, [])),
  (234, (.istore_n 2, 235, 2, 0, 0, 1, 0, [])),
  (235, (.iload_n 2, 236, 2, 0, 0, 0, 0, [])),
  (236, (.ifCond .eq 53, 239, 289, 0, 0, 0, 0, [])),
  (239, (.iload 10, 241, 10, 0, 0, 0, 0, [])),
  (241, (.ifCond .lt 48, 244, 289, 0, 0, 0, 0, [])),
  (244, (.iload 4, 246, 4, 0, 0, 0, 0, [])),
  (246, (.bipush 25, 248, 0, 0, 0, 0, 0, [])),
  (248, (.ishr, 249, 0, 0, 0, 0, 0, [])),
  (249, (.iconst 3, 250, 0, 0, 0, 0, 0, [])),
  (250, (.iand, 251, 0, 0, 0, 0, 0, [])),
  (251, (.ifCond .ne 38, 254, 289, 0, 0, 0, 0, [])),
  (254, (.aload_n 1, 255, 1, 0, 0, 0, 0, [])),
  (255, (.invokevirtual 97, 258, 105, 1, 265, 0, 10, [0])),
  (258, (.iload 8, 260, 8, 0, 0, 0, 0, [])),
  (260, (.iconst 5, 261, 0, 0, 0, 0, 0, [])),
  (261, (.if_icmp .ne 7, 264, 268, 0, 0, 0, 0, [])),
  (264, (.iconst 4, 265, 0, 0, 0, 0, 0, [])),
  (265, (.goto 5, 268, 270, 0, 0, 0, 0, [])),
  (268, (.iload 8, 270, 8, 0, 0, 0, 0, []))]
def rn_t215_2 : List (Nat × rn_E) := [(270, (.if_icmp .ne 17, 273, 287, 0, 0, 0, 0, [])),
  (273, (.aload_n 1, 274, 1, 0, 0, 0, 0, [])),
  (274, (.invokestatic 35, 277, 126, 1, 421, 0, 0, [0])),
  (277, (.lload 6, 279, 6, 0, 0, 0, 0, [])),
  (279, (.lcmp, 280, 0, 0, 0, 0, 0, [])),
  (280, (.ifCond .ne 7, 283, 287, 0, 0, 0, 0, [])),
  (283, (.iconst 1, 284, 0, 0, 0, 0, 0, [])),
  (284, (.goto 4, 287, 288, 0, 0, 0, 0, [])),
  (287, (.iconst 0, 288, 0, 0, 0, 0, 0, [])),
  (288, (.istore_n 2, 289, 2, 0, 0, 1, 0, [])),
  (289, (.aload_n 1, 290, 1, 0, 0, 0, 0, [])),
  (290, (.iconst 0, 291, 0, 0, 0, 0, 0, [])),
  (291, (.invokevirtual 13, 294, 106, 2, 276, 0, 10, [0])),
  (294, (.istore 11, 296, 11, 0, 0, 1, 0, [])),
  (296, (.iload_n 2, 297, 2, 0, 0, 0, 0, [])),
  (297, (.ifCond .eq 108, 300, 405, 0, 0, 0, 0, [])),
  (300, (.iload_n 3, 301, 3, 0, 0, 0, 0, [])),
  (301, (.iconst 2, 302, 0, 0, 0, 0, 0, [])),
  (302, (.irem, 303, 0, 0, 0, 0, 0, [])),
  (303, (.iconst 1, 304, 0, 0, 0, 0, 0, [])),
  (304, (.if_icmp .eq 10, 307, 314, 0, 0, 0, 0, [])),
  (307, (.aload_n 1, 308, 1, 0, 0, 0, 0, [])),
  (308, (.invokestatic 112, 311, 130, 1, 732, 0, 0, [0])),
  (311, (.ifCond .eq 94, 314, 405, 0, 0, 0, 0, [])),
  (314, (.iload_n 3, 315, 3, 0, 0, 0, 0, [])),
  (315, (.iconst 5, 316, 0, 0, 0, 0, 0, [])),
  (316, (.irem, 317, 0, 0, 0, 0, 0, [])),
  (317, (.iconst 4, 318, 0, 0, 0, 0, 0, [])),
  (318, (.if_icmp .ne 20, 321, 338, 0, 0, 0, 0, [])),
  (321, (.iload 11, 323, 11, 0, 0, 0, 0, [])),
  (323, (.ifCond .eq 15, 326, 338, 0, 0, 0, 0, [])),
  (326, (.aload_n 1, 327, 1, 0, 0, 0, 0, [])),
  (327, (.iload 5, 329, 5, 0, 0, 0, 0, [])),
  (329, (.iload 11, 331, 11, 0, 0, 0, 0, [])),
  (331, (.irem, 332, 0, 0, 0, 0, 0, [])),
  (332, (.invokestatic 124, 335, 128, 2, 723, 0, 0, [0])),
  (335, (.ifCond .eq 70, 338, 405, 0, 0, 0, 0, [])),
  (338, (.iload_n 3, 339, 3, 0, 0, 0, 0, [])),
  (339, (.bipush 9, 341, 0, 0, 0, 0, 0, [])),
  (341, (.irem, 342, 0, 0, 0, 0, 0, [])),
  (342, (.bipush 8, 344, 0, 0, 0, 0, 0, [])),
  (344, (.if_icmp .ne 20, 347, 364, 0, 0, 0, 0, [])),
  (347, (.iload 11, 349, 11, 0, 0, 0, 0, [])),
  (349, (.ifCond .eq 15, 352, 364, 0, 0, 0, 0, [])),
  (352, (.aload_n 1, 353, 1, 0, 0, 0, 0, [])),
  (353, (.iload 5, 355, 5, 0, 0, 0, 0, [])),
  (355, (.iload 11, 357, 11, 0, 0, 0, 0, [])),
  (357, (.irem, 358, 0, 0, 0, 0, 0, [])),
  (358, (.invokestatic 128, 361, 129, 2, 726, 0, 0, [0])),
  (361, (.ifCond .eq 44, 364, 405, 0, 0, 0, 0, [])),
  (364, (.iload_n 3, 365, 3, 0, 0, 0, 0, [])),
  (365, (.bipush 8, 367, 0, 0, 0, 0, 0, [])),
  (367, (.irem, 368, 0, 0, 0, 0, 0, [])),
  (368, (.bipush 7, 370, 0, 0, 0, 0, 0, [])),
  (370, (.if_icmp .ne 16, 373, 386, 0, 0, 0, 0, [])),
  (373, (.aload_n 1, 374, 1, 0, 0, 0, 0, [])),
  (374, (.iconst 1, 375, 0, 0, 0, 0, 0, [])),
  (375, (.iload 5, 377, 5, 0, 0, 0, 0, [])),
  (377, (.iconst 5, 378, 0, 0, 0, 0, 0, [])),
  (378, (.irem, 379, 0, 0, 0, 0, 0, [])),
  (379, (.iadd, 380, 0, 0, 0, 0, 0, [])),
  (380, (.invokestatic 131, 383, 131, 2, 735, 0, 0, [0])),
  (383, (.ifCond .eq 22, 386, 405, 0, 0, 0, 0, [])),
  (386, (.iload_n 3, 387, 3, 0, 0, 0, 0, [])),
  (387, (.bipush 11, 389, 0, 0, 0, 0, 0, [])),
  (389, (.irem, 390, 0, 0, 0, 0, 0, [])),
  (390, (.iconst 5, 391, 0, 0, 0, 0, 0, [])),
  (391, (.if_icmp .ne 10, 394, 401, 0, 0, 0, 0, [])),
  (394, (.aload_n 1, 395, 1, 0, 0, 0, 0, [])),
  (395, (.invokestatic 108, 398, 127, 1, 497, 0, 0, [0]))]
def rn_t215_3 : List (Nat × rn_E) := [(398, (.ifCond .eq 7, 401, 405, 0, 0, 0, 0, [])),
  (401, (.iconst 1, 402, 0, 0, 0, 0, 0, [])),
  (402, (.goto 4, 405, 406, 0, 0, 0, 0, [])),
  (405, (.iconst 0, 406, 0, 0, 0, 0, 0, [])),
  (406, (.istore_n 2, 407, 2, 0, 0, 1, 0, [])),
  (407, (.iinc 3 1, 410, 3, 0, 0, 0, 0, [])),
  (410, (.goto (-371), 413, 39, 0, 0, 0, 0, [])),
  (413, (.iload_n 2, 414, 2, 0, 0, 0, 0, [])),
  (414, (.ifCond .eq 21, 417, 435, 0, 0, 0, 0, [])),
  (417, (.aload_n 1, 418, 1, 0, 0, 0, 0, [])),
  (418, (.invokestatic 112, 421, 130, 1, 732, 0, 0, [0])),
  (421, (.ifCond .eq 14, 424, 435, 0, 0, 0, 0, [])),
  (424, (.aload_n 1, 425, 1, 0, 0, 0, 0, [])),
  (425, (.invokestatic 108, 428, 127, 1, 497, 0, 0, [0])),
  (428, (.ifCond .eq 7, 431, 435, 0, 0, 0, 0, [])),
  (431, (.iconst 1, 432, 0, 0, 0, 0, 0, [])),
  (432, (.goto 4, 435, 436, 0, 0, 0, 0, [])),
  (435, (.iconst 0, 436, 0, 0, 0, 0, 0, [])),
  (436, (.ireturn, 437, 0, 0, 0, 1, 0, []))]
def rn_t215 : List (Nat × rn_E) := rn_t215_0 ++ (rn_t215_1 ++ (rn_t215_2 ++ (rn_t215_3)))
def rn_m215 : rn_Mt := (yL_law, cL_law, 12, (some .boolean), true, 1000, 100000, 10, 248, rn_t215)
def rn_mts : List rn_Mt := [rn_m0, rn_m1, rn_m2, rn_m3, rn_m4, rn_m5, rn_m6, rn_m7, rn_m8, rn_m9, rn_m10, rn_m11, rn_m12, rn_m13, rn_m14, rn_m15, rn_m16, rn_m17, rn_m18, rn_m19, rn_m20, rn_m21, rn_m22, rn_m23, rn_m24, rn_m25, rn_m26, rn_m27, rn_m28, rn_m29, rn_m30, rn_m31, rn_m32, rn_m33, rn_m34, rn_m35, rn_m36, rn_m37, rn_m38, rn_m39, rn_m40, rn_m41, rn_m42, rn_m43, rn_m44, rn_m45, rn_m46, rn_m47, rn_m48, rn_m49, rn_m50, rn_m51, rn_m52, rn_m53, rn_m54, rn_m55, rn_m56, rn_m57, rn_m58, rn_m59, rn_m60, rn_m61, rn_m62, rn_m63, rn_m64, rn_m65, rn_m66, rn_m67, rn_m68, rn_m69, rn_m70, rn_m71, rn_m72, rn_m73, rn_m74, rn_m75, rn_m76, rn_m77, rn_m78, rn_m79, rn_m80, rn_m81, rn_m82, rn_m83, rn_m84, rn_m85, rn_m86, rn_m87, rn_m88, rn_m89, rn_m90, rn_m91, rn_m92, rn_m93, rn_m94, rn_m95, rn_m96, rn_m97, rn_m98, rn_m99, rn_m100, rn_m101, rn_m102, rn_m103, rn_m104, rn_m105, rn_m106, rn_m107, rn_m108, rn_m109, rn_m110, rn_m111, rn_m112, rn_m113, rn_m114, rn_m115, rn_m116, rn_m117, rn_m118, rn_m119, rn_m120, rn_m121, rn_m122, rn_m123, rn_m124, rn_m125, rn_m126, rn_m127, rn_m128, rn_m129, rn_m130, rn_m131, rn_m132, rn_m133, rn_m134, rn_m135, rn_m136, rn_m137, rn_m138, rn_m139, rn_m140, rn_m141, rn_m142, rn_m143, rn_m144, rn_m145, rn_m146, rn_m147, rn_m148, rn_m149, rn_m150, rn_m151, rn_m152, rn_m153, rn_m154, rn_m155, rn_m156, rn_m157, rn_m158, rn_m159, rn_m160, rn_m161, rn_m162, rn_m163, rn_m164, rn_m165, rn_m166, rn_m167, rn_m168, rn_m169, rn_m170, rn_m171, rn_m172, rn_m173, rn_m174, rn_m175, rn_m176, rn_m177, rn_m178, rn_m179, rn_m180, rn_m181, rn_m182, rn_m183, rn_m184, rn_m185, rn_m186, rn_m187, rn_m188, rn_m189, rn_m190, rn_m191, rn_m192, rn_m193, rn_m194, rn_m195, rn_m196, rn_m197, rn_m198, rn_m199, rn_m200, rn_m201, rn_m202, rn_m203, rn_m204, rn_m205, rn_m206, rn_m207, rn_m208, rn_m209, rn_m210, rn_m211, rn_m212, rn_m213, rn_m214, rn_m215]
end
section
def rn_look : List (Nat × rn_E) → Nat → Option rn_E
  | [], _ => none
  | (p, e) :: t, q => match Nat.beq p q with | true => some e | false => rn_look t q
def rn_mt (z : Nat) : Option rn_Mt := rn_mts[z]?
def rn_mcs (z : Nat) : Nat × Nat := match rn_mt z with | some (_, _, _, _, _, mc, ms, _) => (mc, ms) | none => (0, 0)
def rn_ml (z : Nat) : Nat := match rn_mt z with | some (_, _, ml, _) => ml | none => 0
def rn_at (z pc : Nat) : Option rn_E := match rn_mt z with | some (_, _, _, _, _, _, _, _, _, t) => rn_look t pc | none => none
abbrev rn_X : Type := Nat → Nat → List rn_V → List rn_V → rn_M → rn_Q → Prop
def rn_pad (n : Nat) (as : List rn_V) : List rn_V := as ++ List.replicate (n - as.length) rn_J
def rn_F (X : rn_X) : rn_X := fun y pc L st M Q => match rn_at y pc with
  | some e => rn_stp rn_mcs rn_nf e L st M Q (fun pc' L' st' M' => X y pc' L' st' M' Q) (fun z as M' Q' => X z 0 (rn_pad (rn_ml z) as) [] M' Q')
  | none => False
def rn_mon (X : rn_X) : Prop := ∀ (y pc : Nat) (L st : List rn_V) (M : rn_M) (Q Q' : rn_Q), (∀ r M', Q r M' → Q' r M') → X y pc L st M Q → X y pc L st M Q'
/-- the least predicate that the instructions allow: from here the machine ends, with Q -/
def rn_WP : rn_X := fun y pc L st M Q => ∀ X : rn_X, rn_mon X → (∀ y pc L st M Q, rn_F X y pc L st M Q → X y pc L st M Q) → X y pc L st M Q
/-- a method from its start -/
def rn_ME (z : Nat) (as : List rn_V) (M : rn_M) (Q : rn_Q) : Prop := rn_WP z 0 (rn_pad (rn_ml z) as) [] M Q
theorem rn_cal_mono {k z mc ms : Nat} {as : List rn_V} {M : rn_M} {C C' : rn_C} {Q Q' : rn_Q} (hQ : ∀ r M, Q r M → Q' r M) (hC : ∀ z as M (P P' : rn_Q), (∀ r M, P r M → P' r M) → C z as M P → C' z as M P') (h : rn_cal k z mc ms as M C Q) : rn_cal k z mc ms as M C' Q' := by
  revert h
  unfold rn_cal
  split
  · exact fun h => ⟨h.1, h.2.1, hC _ _ _ _ _ (fun r M q => hQ _ _ q) h.2.2⟩
  · exact hC _ _ _ _ _ hQ
theorem rn_g_mono {b : Bool} {P P' : Prop} (h : P → P') : rn_g b P → rn_g b P' := by cases b <;> simp [rn_g]; exact h
theorem rn_st1_mono {st : List rn_V} {f f' : Int → List rn_V → Prop} (h : ∀ x t, f x t → f' x t) : rn_st1 st f → rn_st1 st f' := by unfold rn_st1; split <;> first | exact h _ _ | exact id
theorem rn_st2_mono {st : List rn_V} {f f' : Int → Int → List rn_V → Prop} (h : ∀ x y t, f x y t → f' x y t) : rn_st2 st f → rn_st2 st f' := by unfold rn_st2; split <;> first | exact h _ _ _ | exact id
theorem rn_stR_mono {st : List rn_V} {f f' : Nat → List rn_V → Prop} (h : ∀ x t, f x t → f' x t) : rn_stR st f → rn_stR st f' := by unfold rn_stR; split <;> first | exact h _ _ | exact id
theorem rn_stA_mono {st : List rn_V} {f f' : Nat → Int → List rn_V → Prop} (h : ∀ x y t, f x y t → f' x y t) : rn_stA st f → rn_stA st f' := by unfold rn_stA; split <;> first | exact h _ _ _ | exact id
theorem rn_ldI_mono {L : List rn_V} {i : Nat} {f f' : Int → Prop} (h : ∀ x, f x → f' x) : rn_ldI L i f → rn_ldI L i f' := by unfold rn_ldI; split <;> first | exact h _ | exact id
theorem rn_ldR_mono {L : List rn_V} {i : Nat} {f f' : Option Nat → Prop} (h : ∀ x, f x → f' x) : rn_ldR L i f → rn_ldR L i f' := by unfold rn_ldR; split <;> first | exact h _ | exact id
theorem rn_sl1_mono {st : List rn_V} {f f' : Int64 → List rn_V → Prop} (h : ∀ x t, f x t → f' x t) : rn_sl1 st f → rn_sl1 st f' := by unfold rn_sl1; split <;> first | exact h _ _ | exact id
theorem rn_sl2_mono {st : List rn_V} {f f' : Int64 → Int64 → List rn_V → Prop} (h : ∀ x y t, f x y t → f' x y t) : rn_sl2 st f → rn_sl2 st f' := by unfold rn_sl2; split <;> first | exact h _ _ _ | exact id
theorem rn_ldL_mono {L : List rn_V} {i : Nat} {f f' : Int64 → Prop} (h : ∀ x, f x → f' x) : rn_ldL L i f → rn_ldL L i f' := by unfold rn_ldL; split <;> first | exact h _ | exact id
theorem rn_kl_mono {k a : Nat} {L : List rn_V} {P P' : Prop} (h : P → P') : rn_kl k L a P → rn_kl k L a P' := by unfold rn_kl; split; exact h; exact fun q => ⟨q.1, h q.2⟩
theorem rn_br_mono {c A B A' B' : Prop} (hA : A → A') (hB : B → B') : rn_br c A B → rn_br c A' B' := fun h => ⟨fun x => hA (h.1 x), fun x => hB (h.2 x)⟩
theorem rn_sw_mono {ts : List Nat} {i : Nat} {f f' : Nat → Prop} (h : ∀ x, f x → f' x) : rn_sw ts i f → rn_sw ts i f' := by unfold rn_sw; split <;> first | exact h _ | exact id
theorem rn_rcv_mono {as : List rn_V} {f f' : Nat → Prop} (h : ∀ x, f x → f' x) : rn_rcv as f → rn_rcv as f' := by unfold rn_rcv; split <;> first | exact h _ | exact id
theorem rn_put_mono {k : Nat} {st : List rn_V} {M : rn_M} {b : Nat} {f f' : Nat → rn_M → List rn_V → Prop} (h : ∀ x M t, f x M t → f' x M t) : rn_put k st M b f → rn_put k st M b f' := by
  unfold rn_put; split <;> split <;> first | exact h _ _ _ | exact fun q => ⟨q.1, h _ _ _ q.2⟩ | exact id
theorem rn_acp_mono {st : List rn_V} {f f' : Int → Int → Nat → Int → Nat → List rn_V → Prop} (h : ∀ n dp d sp s t, f n dp d sp s t → f' n dp d sp s t) : rn_acp st f → rn_acp st f' := by unfold rn_acp; split <;> first | exact h _ _ _ _ _ _ | exact id
set_option maxHeartbeats 4000000 in
theorem rn_stp_mono {mcs : Nat → Nat × Nat} {nf : Nat → Nat} {e : rn_E} {L st : List rn_V} {M : rn_M} {Q Q' : rn_Q} {K K' : rn_K} {C C' : rn_C} (hQ : ∀ r M, Q r M → Q' r M) (hK : ∀ pc L st M, K pc L st M → K' pc L st M) (hC : ∀ z as M (P P' : rn_Q), (∀ r M, P r M → P' r M) → C z as M P → C' z as M P') :
    rn_stp mcs nf e L st M Q K C → rn_stp mcs nf e L st M Q' K' C' := by
  obtain ⟨ins, nx, a, b, t, k, c, ts⟩ := e
  have hK1 : ∀ pc L st M, K pc L st M → K' pc L st M := hK
  unfold rn_stp
  dsimp only
  split <;> first
    | exact id
    | exact hK _ _ _ _
    | exact rn_ldI_mono fun _ => hK _ _ _ _
    | exact rn_ldR_mono fun _ => hK _ _ _ _
    | exact rn_sl1_mono fun _ _ => rn_g_mono (rn_kl_mono (hK _ _ _ _))
    | exact rn_st1_mono fun _ _ => rn_g_mono (rn_kl_mono (hK _ _ _ _))
    | exact rn_sl2_mono fun _ _ _ => hK _ _ _ _
    | exact rn_ldL_mono fun _ => hK _ _ _ _
    | exact rn_st2_mono fun _ _ _ q => ⟨q.1, q.2.1, hK _ _ _ _ q.2.2⟩
    | exact rn_st1_mono fun _ _ => rn_g_mono (hK _ _ _ _)
    | exact rn_st1_mono fun _ _ => hK _ _ _ _
    | exact rn_st2_mono fun _ _ _ => hK _ _ _ _
    | exact rn_st1_mono fun _ _ => rn_br_mono (hK _ _ _ _) (hK _ _ _ _)
    | exact rn_st2_mono fun _ _ _ => rn_br_mono (hK _ _ _ _) (hK _ _ _ _)
    | exact rn_st1_mono fun _ _ => rn_br_mono (hK _ _ _ _) (rn_sw_mono fun _ => hK _ _ _ _)
    | exact rn_stR_mono fun _ _ q => ⟨q.1, hK _ _ _ _ q.2⟩
    | exact rn_put_mono fun _ _ _ q => ⟨q.1, hK _ _ _ _ q.2⟩
    | exact rn_stA_mono fun _ _ _ q => ⟨q.1, q.2.1, hK _ _ _ _ q.2.2⟩
    | exact rn_st1_mono fun _ _ q => ⟨q.1, q.2.1, hK _ _ _ _ q.2.2⟩
    | exact rn_st1_mono fun _ _ q => ⟨q.1, q.2.1, q.2.2.1, q.2.2.2.1, hK _ _ _ _ q.2.2.2.2⟩
    | exact fun q => ⟨q.1, q.2.1, hK _ _ _ _ q.2.2⟩
    | exact rn_g_mono (rn_rcv_mono fun _ q => ⟨q.1, rn_cal_mono (fun _ _ => hK _ _ _ _) hC q.2⟩)
    | (split <;> first
        | exact id
        | exact hK _ _ _ _
        | exact rn_g_mono (rn_kl_mono (hK _ _ _ _))
        | exact rn_g_mono (hK _ _ _ _)
        | exact rn_stR_mono fun _ _ => rn_g_mono (hK _ _ _ _)
        | exact rn_st1_mono fun _ _ => rn_g_mono (hK _ _ _ _)
        | exact rn_st2_mono fun _ _ _ => rn_g_mono (hK _ _ _ _)
        | exact rn_g_mono (rn_rcv_mono fun _ q => ⟨q.1, rn_cal_mono (fun _ _ => hK _ _ _ _) hC q.2⟩)
        | exact rn_g_mono (rn_cal_mono (fun _ _ => hK _ _ _ _) hC)
        | exact rn_acp_mono fun _ _ _ _ _ _ => rn_g_mono fun q => ⟨q.1, q.2.1, q.2.2.1, q.2.2.2.1, q.2.2.2.2.1, q.2.2.2.2.2.1, q.2.2.2.2.2.2.1, hK _ _ _ _ q.2.2.2.2.2.2.2⟩
        | exact fun q => ⟨q.1, q.2.1, hK _ _ _ _ q.2.2⟩
        | exact fun q => ⟨q.1, q.2.1, q.2.2.1, hK _ _ _ _ q.2.2.2⟩
        | exact fun q => ⟨q.1, hQ _ _ q.2⟩
        | exact hQ _ _)
theorem rn_F_mono {X Y : rn_X} (hY : rn_mon Y) (h : ∀ y pc L st M Q, X y pc L st M Q → Y y pc L st M Q) {y pc : Nat} {L st : List rn_V} {M : rn_M} {Q Q' : rn_Q} (hQ : ∀ r M', Q r M' → Q' r M') : rn_F X y pc L st M Q → rn_F Y y pc L st M Q' := by
  unfold rn_F
  split
  · exact rn_stp_mono hQ (fun pc L st M q => hY _ _ _ _ _ _ _ hQ (h _ _ _ _ _ _ q)) (fun z as M P P' hP q => hY _ _ _ _ _ _ _ hP (h _ _ _ _ _ _ q))
  · exact id
theorem rn_WP_mono : rn_mon rn_WP := fun y pc L st M Q Q' hQ h X hX hF => hX _ _ _ _ _ _ _ hQ (h X hX hF)
theorem rn_WP_in {y pc : Nat} {L st : List rn_V} {M : rn_M} {Q : rn_Q} (h : rn_F rn_WP y pc L st M Q) : rn_WP y pc L st M Q := fun X hX hF => hF _ _ _ _ _ _ (rn_F_mono hX (fun _ _ _ _ _ _ q => q X hX hF) (fun _ _ q => q) h)
theorem rn_WP_out {y pc : Nat} {L st : List rn_V} {M : rn_M} {Q : rn_Q} (h : rn_WP y pc L st M Q) : rn_F rn_WP y pc L st M Q :=
  h (rn_F rn_WP) (fun _ _ _ _ _ _ _ hQ => rn_F_mono rn_WP_mono (fun _ _ _ _ _ _ q => q) hQ) (fun _ _ _ _ _ _ => rn_F_mono rn_WP_mono (fun _ _ _ _ _ _ q => rn_WP_in q) (fun _ _ q => q))
theorem rn_step {y pc : Nat} {L st : List rn_V} {M : rn_M} {Q : rn_Q} {e : rn_E} (he : rn_at y pc = some e) : rn_WP y pc L st M Q ↔ rn_stp rn_mcs rn_nf e L st M Q (fun pc' L' st' M' => rn_WP y pc' L' st' M' Q) rn_ME := by
  refine ⟨fun h => ?_, fun h => rn_WP_in ?_⟩
  · have h2 := rn_WP_out h
    unfold rn_F at h2
    rw [he] at h2
    exact h2
  · unfold rn_F
    rw [he]
    exact h
theorem rn_ME_mono {z : Nat} {as : List rn_V} {M : rn_M} {Q Q' : rn_Q} (hQ : ∀ r M', Q r M' → Q' r M') (h : rn_ME z as M Q) : rn_ME z as M Q' := rn_WP_mono _ _ _ _ _ _ _ hQ h
end
section
/-! the relation between the abstract machine and the machine -/
theorem rn_i32 {x : Int} (h : -2147483648 ≤ x) (h2 : x ≤ 2147483647) : (Int32.ofInt x).toInt = x := Int32.toInt_ofInt_of_le h (by omega)
theorem rn_wr_eq (z : Int) : rn_wr z = z.bmod 4294967296 := by
  rw [Int.bmod_def]
  unfold rn_wr
  omega
theorem rn_ofInt (x : Int) : (Int32.ofInt x).toInt = rn_wr x := by
  rw [rn_wr_eq]; exact Int32.toInt_ofInt
theorem rn_rng (x : Int32) : -2147483648 ≤ x.toInt ∧ x.toInt ≤ 2147483647 := ⟨Int32.le_toInt x, Int32.toInt_le x⟩
theorem rn_back (x : Int32) : Int32.ofInt x.toInt = x := Int32.ofInt_toInt x
theorem rn_add (x y : Int32) : (x + y).toInt = rn_wr (x.toInt + y.toInt) := by rw [rn_wr_eq]; exact Int32.toInt_add x y
theorem rn_sub (x y : Int32) : (x - y).toInt = rn_wr (x.toInt - y.toInt) := by rw [rn_wr_eq]; exact Int32.toInt_sub x y
theorem rn_mul (x y : Int32) : (x * y).toInt = rn_wr (x.toInt * y.toInt) := by rw [rn_wr_eq]; exact Int32.toInt_mul x y
theorem rn_neg (x : Int32) : (0 - x).toInt = rn_wr (-x.toInt) := by
  rw [rn_sub]
  show rn_wr (0 - x.toInt) = _
  rw [Int.zero_sub]
def rn_Wd : List Cond := lw_tbl.filter goodWord
theorem rn_Wd_mem {t : Nat} {w : Cond} (h : lw_tbl[t]? = some w) (hg : goodWord w = true) : w ∈ rn_Wd := List.mem_filter.mpr ⟨List.mem_of_getElem? h, hg⟩
theorem rn_Wd_good : GoodIn rn_Wd rn_Wd := fun w hw => ⟨hw, good_of_word (List.mem_filter.mp hw).2⟩
def rn_isN : Cond → Bool
  | .fieldLinkNest _ _ _ _ _ _ => true
  | .methodLinkNest _ _ _ _ => true
  | _ => false
def rn_nst : List Cond := lw_tbl.filter rn_isN
def rn_vr (n : Nat) (ad : Nat → Nat) (v : rn_V) (x : Value) : Prop := match v with
  | .inl i => ∃ k : Int32, x = .int k ∧ k.toInt = i
  | .inr (.inl none) => x.category = 1
  | .inr (.inl (some none)) => x = .null
  | .inr (.inl (some (some a))) => a < n ∧ x = .ref (ad a)
  | .inr (.inr g) => x = .long g
def rn_ca (v : rn_V) : Nat := match v with | .inr (.inr _) => 2 | _ => 1
theorem rn_vr_ca {n : Nat} {ad : Nat → Nat} {v : rn_V} {x : Value} (h : rn_vr n ad v x) : x.category = rn_ca v := by
  unfold rn_vr at h
  split at h
  · obtain ⟨k, rfl, -⟩ := h; rfl
  · exact h
  · rw [h]; rfl
  · rw [h.2]; rfl
  · rw [h]; rfl
theorem rn_vr_cat {n : Nat} {ad : Nat → Nat} {v : rn_V} {x : Value} (h : rn_vr n ad v x) (hc : rn_ca v = 1) : x.category = 1 := (rn_vr_ca h).trans hc
theorem rn_ca12 (v : rn_V) : rn_ca v = 1 ∨ rn_ca v = 2 := by unfold rn_ca; split <;> simp
theorem rn_sz_c (v : rn_V) (t : List rn_V) : rn_sz (v :: t) = rn_ca v + rn_sz t := by
  unfold rn_ca
  rcases v with x | (r | g) <;> rfl
theorem rn_n2_c {v : rn_V} {t : List rn_V} (h : rn_n2 (v :: t) = true) : rn_ca v = 1 ∧ rn_n2 t = true := by
  rcases v with x | (r | g)
  · exact ⟨rfl, h⟩
  · exact ⟨rfl, h⟩
  · cases h
theorem rn_n2_of : ∀ (t : List rn_V), (∀ v ∈ t, rn_ca v = 1) → rn_n2 t = true
  | [], _ => rfl
  | v :: t, h => by
    have h1 := h v List.mem_cons_self
    have h2 := rn_n2_of t (fun w hw => h w (List.mem_cons_of_mem _ hw))
    rcases v with x | (r | g)
    · exact h2
    · exact h2
    · cases h1
theorem rn_n2_to : ∀ {t : List rn_V}, rn_n2 t = true → ∀ v ∈ t, rn_ca v = 1
  | v :: t, h, w, hw => by
    rcases List.mem_cons.mp hw with e | q
    · rw [e]; exact (rn_n2_c h).1
    · exact rn_n2_to (rn_n2_c h).2 w q
theorem rn_n2_rev {t : List rn_V} (h : rn_n2 t = true) : rn_n2 t.reverse = true := rn_n2_of _ (fun v hv => rn_n2_to h v (List.mem_reverse.mp hv))
theorem rn_vr_ext {n n' : Nat} {ad ad' : Nat → Nat} {v : rn_V} {x : Value} (hn : n ≤ n') (ha : ∀ a, a < n → ad' a = ad a) (h : rn_vr n ad v x) : rn_vr n' ad' v x := by
  unfold rn_vr at h ⊢
  split
  · exact h
  · exact h
  · exact h
  · exact ⟨Nat.lt_of_lt_of_le h.1 hn, by rw [ha _ h.1]; exact h.2⟩
  · exact h
def rn_vs (n : Nat) (ad : Nat → Nat) : List rn_V → List Value → Prop
  | [], [] => True
  | v :: vs, x :: xs => rn_vr n ad v x ∧ rn_vs n ad vs xs
  | _, _ => False
theorem rn_vs_ext {n n' : Nat} {ad ad' : Nat → Nat} (hn : n ≤ n') (ha : ∀ a, a < n → ad' a = ad a) : ∀ {vs : List rn_V} {xs : List Value}, rn_vs n ad vs xs → rn_vs n' ad' vs xs
  | [], [], h => h
  | _ :: _, _ :: _, h => ⟨rn_vr_ext hn ha h.1, rn_vs_ext hn ha h.2⟩
theorem rn_vs_len {n : Nat} {ad : Nat → Nat} : ∀ {vs : List rn_V} {xs : List Value}, rn_vs n ad vs xs → vs.length = xs.length
  | [], [], _ => rfl
  | _ :: _, _ :: _, h => by simp [rn_vs_len h.2]
theorem rn_vs_app {n : Nat} {ad : Nat → Nat} : ∀ {vs ws : List rn_V} {xs ys : List Value}, rn_vs n ad vs xs → rn_vs n ad ws ys → rn_vs n ad (vs ++ ws) (xs ++ ys)
  | [], _, [], _, _, h => h
  | _ :: _, _, _ :: _, _, h1, h => ⟨h1.1, rn_vs_app h1.2 h⟩
theorem rn_vs_rev {n : Nat} {ad : Nat → Nat} : ∀ {vs : List rn_V} {xs : List Value}, rn_vs n ad vs xs → rn_vs n ad vs.reverse xs.reverse
  | [], [], h => h
  | _ :: _, _ :: _, h => by
    rw [List.reverse_cons, List.reverse_cons]
    exact rn_vs_app (rn_vs_rev h.2) ⟨h.1, trivial⟩
theorem rn_vs_take {n : Nat} {ad : Nat → Nat} : ∀ (k : Nat) {vs : List rn_V} {xs : List Value}, rn_vs n ad vs xs → rn_vs n ad (vs.take k) (xs.take k) ∧ rn_vs n ad (vs.drop k) (xs.drop k)
  | 0, _, _, h => ⟨trivial, h⟩
  | _ + 1, [], [], _ => ⟨trivial, trivial⟩
  | k + 1, _ :: _, _ :: _, h => ⟨⟨h.1, (rn_vs_take k h.2).1⟩, (rn_vs_take k h.2).2⟩
theorem rn_vs_sum {n : Nat} {ad : Nat → Nat} : ∀ {vs : List rn_V} {xs : List Value}, rn_vs n ad vs xs → (xs.map fun v => v.category).sum = rn_sz vs
  | [], [], _ => rfl
  | _ :: vs, x :: xs, h => by
    rw [List.map_cons, List.sum_cons, rn_vs_sum h.2, rn_vr_ca h.1, rn_sz_c]
/-- locals -/
def rn_lr (b : Bool) (n : Nat) (ad : Nat → Nat) (L : List rn_V) (ls : Array Slot) : Prop := ∃ lv : List (Nat × Value), lv_has ls L.length lv ∧ (∀ (i : Nat) (v : rn_V), L[i]? = some v → v ≠ rn_J → ∃ x, (i, x) ∈ lv ∧ rn_vr n ad v x) ∧ (b = false → ∀ v ∈ L, rn_ca v = 1)
theorem rn_lr_ext {b : Bool} {n n' : Nat} {ad ad' : Nat → Nat} {L : List rn_V} {ls : Array Slot} (hn : n ≤ n') (ha : ∀ a, a < n → ad' a = ad a) (h : rn_lr b n ad L ls) : rn_lr b n' ad' L ls := by
  obtain ⟨lv, h1, h2, h3⟩ := h
  refine ⟨lv, h1, fun i v hi hv => ?_, h3⟩
  obtain ⟨x, h3, h4⟩ := h2 i v hi hv
  exact ⟨x, h3, rn_vr_ext hn ha h4⟩
theorem rn_lr_get {b : Bool} {n : Nat} {ad : Nat → Nat} {L : List rn_V} {ls : Array Slot} {i : Nat} {v : rn_V} (h : rn_lr b n ad L ls) (hi : L[i]? = some v) (hv : v ≠ rn_J) : ∃ x, ls[i]? = some (.val x) ∧ rn_vr n ad v x := by
  obtain ⟨lv, h1, h2, -⟩ := h
  obtain ⟨x, h3, h4⟩ := h2 i v hi hv
  exact ⟨x, h1.2.2 _ h3, h4⟩
theorem rn_mem_set {L : List rn_V} {i : Nat} {v w : rn_V} (h : w ∈ L.set i v) : w = v ∨ w ∈ L := by
  rcases List.mem_or_eq_of_mem_set h with q | q
  · exact Or.inr q
  · exact Or.inl q
/-- what a write to a local asks -/
theorem rn_kl_out {k a : Nat} {L : List rn_V} {P : Prop} {b : Bool} (hk : (match k with | 0 => !b | _ => true) = true) (h : rn_kl k L a P) : (b = false ∨ rn_nl L a = true) ∧ P := by
  unfold rn_kl at h
  cases k with
  | zero => exact ⟨Or.inl (by cases b; rfl; cases hk), h⟩
  | succ n => exact ⟨Or.inr h.1, h.2⟩
theorem rn_nl_at {L : List rn_V} {i j : Nat} {w : rn_V} (h : rn_nl L i = true) (e : j + 1 = i) (hj : L[j]? = some w) : rn_ca w = 1 := by
  subst e
  unfold rn_nl at h
  dsimp only at h
  rw [hj] at h
  rcases w with x | (r | g)
  · rfl
  · rfl
  · cases h
theorem rn_lr_set {b : Bool} {n nL : Nat} {ad : Nat → Nat} {L : List rn_V} {ls' : Array Slot} {lv : List (Nat × Value)} {i : Nat} {v : rn_V} {x : Value} (hnl : b = false ∨ rn_nl L i = true) (hcv : rn_ca v = 1) (h2 : (∀ (i : Nat) (v : rn_V), L[i]? = some v → v ≠ rn_J → ∃ x, (i, x) ∈ lv ∧ rn_vr n ad v x) ∧ (b = false → ∀ v ∈ L, rn_ca v = 1)) (hnL : nL = L.length) (hx : rn_vr n ad v x)
    (h' : lv_has ls' nL ((i, x) :: lv.filter (fun q => !(q.1 == i) && !(q.1 + 1 == i && q.2.category == 2)))) : rn_lr b n ad (L.set i v) ls' := by
  subst hnL
  refine ⟨_, by rw [List.length_set]; exact h', fun j w hj hw => ?_, fun q w hw => (rn_mem_set hw).elim (fun e => by rw [e]; exact hcv) (fun h => h2.2 q w h)⟩
  by_cases e : i = j
  · subst e
    rw [List.getElem?_set_self (by
      rcases Nat.lt_or_ge i L.length with q | q
      · exact q
      · rw [List.getElem?_eq_none (by rw [List.length_set]; exact q)] at hj; cases hj)] at hj
    cases hj
    exact ⟨x, List.mem_cons_self, hx⟩
  · rw [List.getElem?_set_ne e] at hj
    obtain ⟨z, h3, h4⟩ := h2.1 j w hj hw
    refine ⟨z, List.mem_cons_of_mem _ (List.mem_filter.mpr ⟨h3, ?_⟩), h4⟩
    by_cases e2 : j + 1 = i
    · have h5 := rn_vr_cat h4 (hnl.elim (fun q => h2.2 q _ (List.mem_of_getElem? hj)) (fun q => rn_nl_at q e2 hj))
      simp [h5]
      exact fun q => e q.symm
    · simp [e2]
      exact fun q => e q.symm
theorem rn_lr_set2 {b : Bool} {n nL : Nat} {ad : Nat → Nat} {L : List rn_V} {ls' : Array Slot} {lv : List (Nat × Value)} {i : Nat} {v : rn_V} {x : Value} (hb : b = true) (hnl : b = false ∨ rn_nl L i = true) (h2 : (∀ (i : Nat) (v : rn_V), L[i]? = some v → v ≠ rn_J → ∃ x, (i, x) ∈ lv ∧ rn_vr n ad v x) ∧ (b = false → ∀ v ∈ L, rn_ca v = 1)) (hnL : nL = L.length) (hx : rn_vr n ad v x)
    (h' : lv_has ls' nL ((i, x) :: lv.filter (fun q => !(q.1 == i) && (!(q.1 == i + 1) && !(q.1 + 1 == i && q.2.category == 2))))) : rn_lr b n ad ((L.set i v).set (i + 1) rn_J) ls' := by
  subst hnL
  refine ⟨_, by rw [List.length_set, List.length_set]; exact h', fun j w hj hw => ?_, fun q => by rw [hb] at q; cases q⟩
  by_cases e1 : i + 1 = j
  · subst e1
    rcases Nat.lt_or_ge (i + 1) (L.set i v).length with q | q
    · rw [List.getElem?_set_self q] at hj
      cases hj
      exact absurd rfl hw
    · rw [List.getElem?_eq_none (by rw [List.length_set]; exact q)] at hj; cases hj
  rw [List.getElem?_set_ne e1] at hj
  by_cases e : i = j
  · subst e
    rw [List.getElem?_set_self (by
      rcases Nat.lt_or_ge i L.length with q | q
      · exact q
      · rw [List.getElem?_eq_none (by rw [List.length_set]; exact q)] at hj; cases hj)] at hj
    cases hj
    exact ⟨x, List.mem_cons_self, hx⟩
  · rw [List.getElem?_set_ne e] at hj
    obtain ⟨z, h3, h4⟩ := h2.1 j w hj hw
    refine ⟨z, List.mem_cons_of_mem _ (List.mem_filter.mpr ⟨h3, ?_⟩), h4⟩
    by_cases e2 : j + 1 = i
    · have h5 := rn_vr_cat h4 (hnl.elim (fun q => h2.2 q _ (List.mem_of_getElem? hj)) (fun q => rn_nl_at q e2 hj))
      simp [h5]
      exact ⟨fun q => e q.symm, fun q => e1 q.symm⟩
    · simp [e2]
      exact ⟨fun q => e q.symm, fun q => e1 q.symm⟩
/-- a cell of the world -/
def rn_el (tys : List (ClassId × FieldType)) (n : Nat) (ad : Nat → Nat) (M : rn_M) (a : Nat) (el : va_E) : Prop := match el with
  | .inr (ci, fs) => rn_kd M a = ci + 1 ∧ ci < 11 ∧ fs.length = rn_nf ci ∧ ∀ b, b < rn_nf ci → ∃ x, fs[b]? = some x ∧ rn_vr n ad (rn_fv (rn_fk ci b) M a b) x
  | .inl (cA, len, .inl f) => rn_kd M a = 20 ∧ rn_ln M a = len ∧ len ≤ 100000 ∧ (∃ t : Nat, tys[t]? = some (cA, .int)) ∧ ∀ j, j < len → (f j).toInt = rn_gi M a j
  | .inl (cA, len, .inr (.inr (.inr (.inr f)))) => ∃ ci, rn_kd M a = ci + 30 ∧ ci < 11 ∧ rn_ln M a = len ∧ len ≤ 100000 ∧ (∃ t : Nat, tys[t]? = some (cA, .object (rn_cn ci))) ∧ ∀ j, j < len → rn_vr n ad (.inr (.inl (some (rn_gr M a j)))) (va_rf (f j))
  | _ => False
def rn_Ws (tys : List (ClassId × FieldType)) (ad : Nat → Nat) (M : rn_M) (ws : va_W) : Prop :=
  ws.length + 8 = M.1.length ∧ (∀ a, a < 8 → 21 ≤ rn_kd M a ∧ rn_kd M a ≤ 24) ∧ ∀ k, k < ws.length → ∃ el, ws[k]? = some (ad (k + 8), el) ∧ rn_el tys M.1.length ad M (k + 8) el
def rn_W (D : va_G) (A : Nat → Prop) (tys : List (ClassId × FieldType)) (ws : va_W) (ad : Nat → Nat) (M : rn_M) (U : State) (H : Heap) : Prop :=
  va_K D rn_cl tys U ∧ va_P D rn_cl ws H ∧ va_D A ws ∧ rn_Ws tys ad M ws
/-- what was there before -/
def rn_Ev (ad : Nat → Nat) (M : rn_M) (A : Nat → Prop) (U : State) (H : Heap) : Prop := ∀ a, a < 8 →
  (rn_kd M a = 21 → rn_ln M a ≤ 100000 ∧ va_T .int (ad a) (rn_ln M a) (fun j => .int (Int32.ofInt (rn_gi M a j))) A U H ∧ ∀ j, j < rn_ln M a → (Int32.ofInt (rn_gi M a j)).toInt = rn_gi M a j)
/-- what is fixed: statics, texts, links within the nest, classes of arrays -/
def rn_Ef (ad : Nat → Nat) (A : Nat → Prop) (U : State) (H : Heap) : Prop :=
  va_Z "RiverNames" "STEPS_RIGHT" "[I" (.ref (ad 1)) A U H ∧ va_Z "RiverNames" "STEPS_DOWN" "[I" (.ref (ad 2)) A U H ∧ (∀ w ∈ rn_nst, va_Nw w U) ∧ ∀ ci, (ci = 0 ∨ ci = 3 ∨ ci = 5 ∨ ci = 8) → va_AO (rn_cn ci) U
/-- the foreign cells stay, the world grows -/
def rn_xt (M M' : rn_M) (ad ad' : Nat → Nat) : Prop := M.1.length ≤ M'.1.length ∧ (∀ a, a < M.1.length → ad' a = ad a) ∧ ∀ a, a < 8 → rn_kd M' a = rn_kd M a ∧ rn_ln M' a = rn_ln M a ∧ (∀ j, rn_gi M' a j = rn_gi M a j) ∧ ∀ j, rn_gr M' a j = rn_gr M a j
theorem rn_xt_rf {M : rn_M} {ad : Nat → Nat} : rn_xt M M ad ad := ⟨Nat.le_refl _, fun _ _ => rfl, fun _ _ => ⟨rfl, rfl, fun _ => rfl, fun _ => rfl⟩⟩
theorem rn_xt_tr {M M1 M2 : rn_M} {ad ad1 ad2 : Nat → Nat} (h1 : rn_xt M M1 ad ad1) (h2 : rn_xt M1 M2 ad1 ad2) : rn_xt M M2 ad ad2 := by
  refine ⟨Nat.le_trans h1.1 h2.1, fun a ha => ?_, fun a ha => ?_⟩
  · rw [h2.2.1 a (Nat.lt_of_lt_of_le ha h1.1), h1.2.1 a ha]
  · obtain ⟨q1, q2, q3, q4⟩ := h1.2.2 a ha
    obtain ⟨r1, r2, r3, r4⟩ := h2.2.2 a ha
    exact ⟨r1.trans q1, r2.trans q2, fun j => (r3 j).trans (q3 j), fun j => (r4 j).trans (q4 j)⟩
theorem rn_Ev_xt {M M' : rn_M} {ad ad' : Nat → Nat} {A : Nat → Prop} {U : State} {H : Heap} (hn : 8 ≤ M.1.length) (hx : rn_xt M M' ad ad') (h : rn_Ev ad M A U H) : rn_Ev ad' M' A U H := by
  intro a ha
  have h1 := h a ha
  obtain ⟨r1, r2, r3, r4⟩ := hx.2.2 a ha
  have e : ad' a = ad a := hx.2.1 a (Nat.lt_of_lt_of_le ha hn)
  rw [r1, r2, e]
  simp only [r3]
  exact h1
theorem rn_Ef_xt {M M' : rn_M} {ad ad' : Nat → Nat} {A : Nat → Prop} {U : State} {H : Heap} (hn : 8 ≤ M.1.length) (hx : rn_xt M M' ad ad') (h : rn_Ef ad A U H) : rn_Ef ad' A U H := by
  unfold rn_Ef at h ⊢
  rw [hx.2.1 1 (by omega), hx.2.1 2 (by omega)]
  exact h
theorem rn_Ev_kept {M : rn_M} {ad : Nat → Nat} {A : Nat → Prop} {U : State} {H H1 : Heap} (h : rn_Ev ad M A U H) (hq : ∀ a : Nat, a < H.size → ¬ A a → H1[a]? = H[a]?) : rn_Ev ad M A U H1 := by
  intro a ha q
  obtain ⟨g0, g1, g2⟩ := h a ha q
  exact ⟨g0, g1.kept hq, g2⟩
theorem rn_Ev_moved {M : rn_M} {ad : Nat → Nat} {A : Nat → Prop} {u U : State} {H : Heap} (hvm : u.vm.Alike U.vm) (h : rn_Ev ad M A u H) : rn_Ev ad M A U H := by
  intro a ha q
  obtain ⟨g0, g1, g2⟩ := h a ha q
  exact ⟨g0, g1.moved hvm, g2⟩
theorem rn_Ef_kept {ad : Nat → Nat} {A : Nat → Prop} {U : State} {H H1 : Heap} (h : rn_Ef ad A U H) (hq : ∀ a : Nat, a < H.size → ¬ A a → H1[a]? = H[a]?) : rn_Ef ad A U H1 :=
  ⟨h.1.kept hq, h.2.1.kept hq, h.2.2⟩
theorem rn_Nw_warm {w : Cond} (hn : rn_isN w = true) {s U : State} (hW : s.WarmedH U.vm) (hZ : va_Nw w s) : va_Nw w U := by
  cases w <;> first | exact va_Nw.warmF hW hZ | exact va_Nw.warmM hW hZ | cases hn
theorem rn_Nw_same {w : Cond} (hn : rn_isN w = true) {u U : State} (h : u.vm = U.vm) (hZ : va_Nw w u) : va_Nw w U := by
  cases w <;> first | exact va_Nw.same rfl h hZ | cases hn
theorem rn_Ef_warm {ad : Nat → Nat} {A : Nat → Prop} {s U : State} {H : Heap} (hW : s.WarmedH U.vm) (h : rn_Ef ad A s H) : rn_Ef ad A U H :=
  ⟨h.1.moved hW.alike, h.2.1.moved hW.alike, fun w hw => rn_Nw_warm (List.mem_filter.mp hw).2 hW (h.2.2.1 w hw), fun ci hc => (h.2.2.2 ci hc).moved hW.alike⟩
theorem rn_Ef_same {ad : Nat → Nat} {A : Nat → Prop} {u U : State} {H : Heap} (hv : U.vm = u.vm) (h : rn_Ef ad A u H) : rn_Ef ad A U H := by
  have ha : u.vm.Alike U.vm := by rw [hv]; exact Vm.Alike.refl _
  exact ⟨h.1.moved ha, h.2.1.moved ha, fun w hw => rn_Nw_same (List.mem_filter.mp hw).2 hv.symm (h.2.2.1 w hw), fun ci hc => (h.2.2.2 ci hc).moved ha⟩
theorem rn_W_moved {D : va_G} {A : Nat → Prop} {tys : List (ClassId × FieldType)} {ws : va_W} {ad : Nat → Nat} {M : rn_M} {u U : State} {H : Heap} (ha : u.vm.Alike U.vm) (h : rn_W D A tys ws ad M u H) : rn_W D A tys ws ad M U H := ⟨h.1.moved ha, h.2⟩
end
section
def rn_T : Nat → u_T := fun c => match c with
  | 0 => TX0
  | 1 => TX1
  | 2 => TX2
  | 3 => TX3
  | 4 => TX4
  | 5 => TX5
  | 6 => TX6
  | 7 => TX7
  | 8 => TX8
  | _ => TX9
def rn_ty : Nat → Nat → FieldType := fun c => match c with
  | 0 => tyX0
  | 1 => tyX1
  | 2 => tyX2
  | 3 => tyX3
  | 4 => tyX4
  | 5 => tyX5
  | 6 => tyX6
  | 7 => tyX7
  | 8 => tyX8
  | _ => tyX9
/-- of a class: places of instantiable, initialized -/
def rn_cpl : List (Nat × Nat) := [(79, 20), (72, 19), (227, 24), (164, 23), (38, 17), (90, 21), (237, 25), (44, 18), (137, 22), (30, 16), (30, 16)]
/-- of a method: its kind (0 virtual, 1 static, 2 a constructor), places of code, initialized, static or instance, selects -/
def rn_mpl : List (Nat × Nat × Nat × Nat × Nat) := [(2, 82, 20, 81, 0), (0, 527, 20, 525, 526), (0, 531, 20, 530, 7), (0, 550, 20, 549, 8), (0, 566, 20, 565, 9), (0, 380, 20, 378, 379), (0, 340, 20, 338, 339), (0, 291, 20, 289, 290), (0, 535, 20, 533, 534), (0, 554, 20, 552, 553), (0, 570, 20, 568, 569), (0, 644, 20, 642, 643), (0, 384, 20, 382, 383), (0, 496, 20, 494, 495), (0, 481, 20, 479, 480), (0, 287, 20, 285, 286), (0, 388, 20, 386, 387), (0, 376, 20, 374, 375), (0, 680, 20, 678, 679), (2, 75, 19, 74, 0), (0, 283, 19, 281, 282), (0, 523, 19, 521, 522), (0, 587, 19, 585, 586), (0, 591, 19, 590, 10), (0, 272, 19, 270, 271), (2, 230, 24, 229, 0), (0, 323, 24, 321, 322), (0, 331, 24, 330, 2), (0, 336, 24, 335, 3), (0, 361, 24, 360, 4), (0, 661, 24, 660, 12), (0, 670, 24, 669, 14), (0, 712, 24, 710, 711), (0, 665, 24, 664, 13), (0, 720, 24, 718, 719), (0, 652, 24, 650, 651), (0, 657, 24, 656, 11), (0, 318, 24, 317, 1), (0, 314, 24, 312, 313), (0, 745, 24, 743, 744), (2, 167, 23, 166, 0), (0, 574, 23, 572, 573), (0, 486, 23, 484, 485), (0, 399, 23, 397, 398), (0, 474, 23, 472, 473), (2, 41, 17, 40, 0), (0, 0, 0, 0, 0), (0, 0, 0, 0, 0), (0, 0, 0, 0, 0), (0, 0, 0, 0, 0), (0, 0, 0, 0, 0), (0, 0, 0, 0, 0), (0, 0, 0, 0, 0), (0, 0, 0, 0, 0), (0, 0, 0, 0, 0), (0, 0, 0, 0, 0), (0, 0, 0, 0, 0), (2, 93, 21, 92, 0), (0, 543, 21, 541, 542), (0, 539, 21, 537, 538), (0, 579, 21, 577, 578), (0, 583, 21, 581, 582), (0, 605, 21, 603, 604), (0, 614, 21, 612, 613), (0, 348, 21, 346, 347), (0, 344, 21, 342, 343), (0, 352, 21, 350, 351), (0, 448, 21, 446, 447), (0, 327, 21, 325, 326), (0, 304, 21, 303, 0), (0, 300, 21, 298, 299), (0, 699, 21, 697, 698), (0, 296, 21, 294, 295), (0, 470, 21, 468, 469), (0, 369, 21, 368, 5), (0, 365, 21, 363, 364), (0, 684, 21, 682, 683), (0, 435, 21, 433, 434), (2, 240, 25, 239, 0), (0, 392, 25, 390, 391), (0, 405, 25, 403, 404), (0, 409, 25, 408, 6), (2, 47, 18, 46, 0), (0, 507, 18, 505, 506), (0, 0, 0, 0, 0), (0, 0, 0, 0, 0), (2, 140, 22, 139, 0), (0, 562, 22, 560, 561), (0, 558, 22, 556, 557), (0, 356, 22, 354, 355), (2, 33, 16, 32, 0), (0, 503, 16, 501, 502), (0, 0, 0, 0, 0), (0, 0, 0, 0, 0), (0, 512, 16, 510, 511), (0, 595, 16, 593, 594), (0, 601, 16, 599, 600), (0, 619, 16, 617, 618), (0, 623, 16, 621, 622), (0, 627, 16, 625, 626), (0, 631, 16, 629, 630), (0, 635, 16, 633, 634), (0, 640, 16, 638, 639), (0, 648, 16, 646, 647), (0, 741, 16, 739, 740), (0, 268, 16, 266, 267), (0, 279, 16, 277, 278), (0, 429, 16, 427, 428), (0, 453, 16, 451, 452), (0, 444, 16, 442, 443), (0, 491, 16, 489, 490), (0, 464, 16, 462, 463), (0, 676, 16, 674, 675), (0, 690, 16, 688, 689), (0, 695, 16, 693, 694), (0, 704, 16, 702, 703), (0, 708, 16, 706, 707), (0, 716, 16, 714, 715), (1, 275, 16, 274, 0), (1, 412, 16, 411, 0), (1, 516, 16, 515, 0), (1, 519, 16, 518, 0), (1, 456, 16, 455, 0), (1, 415, 15, 414, 0), (1, 419, 15, 418, 0), (1, 731, 15, 730, 0), (1, 423, 15, 422, 0), (1, 499, 15, 498, 0), (1, 725, 15, 724, 0), (1, 728, 15, 727, 0), (1, 734, 15, 733, 0), (1, 737, 15, 736, 0), (1, 749, 15, 748, 0), (0, 0, 0, 0, 0), (0, 0, 0, 0, 0), (0, 0, 0, 0, 0), (0, 0, 0, 0, 0), (0, 0, 0, 0, 0), (0, 0, 0, 0, 0), (0, 0, 0, 0, 0), (0, 0, 0, 0, 0), (0, 0, 0, 0, 0), (0, 0, 0, 0, 0), (0, 0, 0, 0, 0), (0, 0, 0, 0, 0), (0, 0, 0, 0, 0), (0, 0, 0, 0, 0), (0, 0, 0, 0, 0), (0, 0, 0, 0, 0), (0, 0, 0, 0, 0), (0, 0, 0, 0, 0), (0, 0, 0, 0, 0), (0, 0, 0, 0, 0), (0, 0, 0, 0, 0), (0, 0, 0, 0, 0), (0, 0, 0, 0, 0), (0, 0, 0, 0, 0), (0, 0, 0, 0, 0), (0, 0, 0, 0, 0), (0, 0, 0, 0, 0), (0, 0, 0, 0, 0), (0, 0, 0, 0, 0), (0, 0, 0, 0, 0), (0, 0, 0, 0, 0), (0, 0, 0, 0, 0), (0, 0, 0, 0, 0), (0, 0, 0, 0, 0), (0, 0, 0, 0, 0), (0, 0, 0, 0, 0), (0, 0, 0, 0, 0), (0, 0, 0, 0, 0), (0, 0, 0, 0, 0), (0, 0, 0, 0, 0), (0, 0, 0, 0, 0), (0, 0, 0, 0, 0), (0, 0, 0, 0, 0), (0, 0, 0, 0, 0), (0, 0, 0, 0, 0), (0, 0, 0, 0, 0), (0, 0, 0, 0, 0), (0, 0, 0, 0, 0), (0, 0, 0, 0, 0), (0, 0, 0, 0, 0), (0, 0, 0, 0, 0), (0, 0, 0, 0, 0), (0, 0, 0, 0, 0), (0, 0, 0, 0, 0), (0, 0, 0, 0, 0), (0, 0, 0, 0, 0), (0, 0, 0, 0, 0), (0, 0, 0, 0, 0), (0, 0, 0, 0, 0), (0, 0, 0, 0, 0), (0, 0, 0, 0, 0), (0, 0, 0, 0, 0), (0, 0, 0, 0, 0), (0, 0, 0, 0, 0), (0, 0, 0, 0, 0), (0, 0, 0, 0, 0), (0, 0, 0, 0, 0), (0, 0, 0, 0, 0), (0, 0, 0, 0, 0), (0, 0, 0, 0, 0), (0, 0, 0, 0, 0), (1, 307, 26, 306, 0), (1, 372, 26, 371, 0), (1, 310, 26, 309, 0), (0, 0, 0, 0, 0), (0, 0, 0, 0, 0), (0, 0, 0, 0, 0), (0, 0, 0, 0, 0), (0, 0, 0, 0, 0), (0, 0, 0, 0, 0), (1, 395, 27, 394, 0), (0, 0, 0, 0, 0), (0, 0, 0, 0, 0)]
theorem rn_cl_at : ∀ a, a < 11 → rn_cl[a]? = some (rn_cn a, rn_T a, rn_nf a) := by
  intro a h
  match a, h with
  | 0, _ => rfl
  | 1, _ => rfl
  | 2, _ => rfl
  | 3, _ => rfl
  | 4, _ => rfl
  | 5, _ => rfl
  | 6, _ => rfl
  | 7, _ => rfl
  | 8, _ => rfl
  | 9, _ => rfl
  | 10, _ => rfl
  | k + 11, h => exact absurd h (by omega)
theorem rn_cl_in : ∀ a, a < 11 → ∀ w ∈ u_ws (rn_cn a) (rn_T a) (rn_nf a), w ∈ lw_tbl ∧ goodWord w = true := by
  intro a h
  match a, h with
  | 0, _ => exact fun w hw => ⟨rn_in0 w hw, List.all_eq_true.mp (show (wsX00.all goodWord) = true by decide +kernel) w hw⟩
  | 1, _ => exact fun w hw => ⟨rn_in1 w hw, List.all_eq_true.mp (show (wsX10.all goodWord) = true by decide +kernel) w hw⟩
  | 2, _ => exact fun w hw => ⟨rn_in2 w hw, List.all_eq_true.mp (show (wsX20.all goodWord) = true by decide +kernel) w hw⟩
  | 3, _ => exact fun w hw => ⟨rn_in3 w hw, List.all_eq_true.mp (show (wsX30.all goodWord) = true by decide +kernel) w hw⟩
  | 4, _ => exact fun w hw => ⟨rn_in4 w hw, List.all_eq_true.mp (show (wsX40.all goodWord) = true by decide +kernel) w hw⟩
  | 5, _ => exact fun w hw => ⟨rn_in5 w hw, List.all_eq_true.mp (show (wsX50.all goodWord) = true by decide +kernel) w hw⟩
  | 6, _ => exact fun w hw => ⟨rn_in6 w hw, List.all_eq_true.mp (show (wsX60.all goodWord) = true by decide +kernel) w hw⟩
  | 7, _ => exact fun w hw => ⟨rn_in7 w hw, List.all_eq_true.mp (show (wsX70.all goodWord) = true by decide +kernel) w hw⟩
  | 8, _ => exact fun w hw => ⟨rn_in8 w hw, List.all_eq_true.mp (show (wsX80.all goodWord) = true by decide +kernel) w hw⟩
  | 9, _ => exact fun w hw => ⟨rn_in9 w hw, List.all_eq_true.mp (show (wsX90.all goodWord) = true by decide +kernel) w hw⟩
  | 10, _ => exact fun w hw => ⟨rn_in9 w hw, List.all_eq_true.mp (show (wsX90.all goodWord) = true by decide +kernel) w hw⟩
  | k + 11, h => exact absurd h (by omega)
theorem rn_cl_ty : ∀ a, a < 11 → ∀ k, k < rn_nf a → parseFieldDescriptor (rn_T a k).2.2.1 = some (rn_ty a k) := by
  intro a h
  match a, h with
  | 0, _ => exact tyX0_ok
  | 1, _ => exact tyX1_ok
  | 2, _ => exact tyX2_ok
  | 3, _ => exact tyX3_ok
  | 4, _ => exact tyX4_ok
  | 5, _ => exact tyX5_ok
  | 6, _ => exact tyX6_ok
  | 7, _ => exact tyX7_ok
  | 8, _ => exact tyX8_ok
  | 9, _ => exact tyX9_ok
  | 10, _ => exact tyX9_ok
  | k + 11, h => exact absurd h (by omega)
theorem rn_cl_nm : ∀ a, a < 11 → ∀ i, i < rn_nf a → ∀ b, b < rn_nf a → i ≠ b → (rn_T a i).2.1 ≠ (rn_T a b).2.1 := by
  intro a h
  match a, h with
  | 0, _ => exact nmX0
  | 1, _ => exact nmX1
  | 2, _ => exact nmX2
  | 3, _ => exact nmX3
  | 4, _ => exact nmX4
  | 5, _ => exact nmX5
  | 6, _ => exact nmX6
  | 7, _ => exact nmX7
  | 8, _ => exact nmX8
  | 9, _ => exact nmX9
  | 10, _ => exact nmX9
  | k + 11, h => exact absurd h (by omega)
theorem rn_p_maxc : Cond.code Lib.Math.max.name Lib.Math.max.code 2 (some .int) ∈ rn_Wd := rn_Wd_mem (t := 372) (by decide +kernel) (by decide +kernel)
theorem rn_p_maxs : Cond.static Lib.Math.max.name ∈ rn_Wd := rn_Wd_mem (t := 371) (by decide +kernel) (by decide +kernel)
theorem rn_p_minc : Cond.code Lib.Math.min.name Lib.Math.min.code 2 (some .int) ∈ rn_Wd := rn_Wd_mem (t := 310) (by decide +kernel) (by decide +kernel)
theorem rn_p_mins : Cond.static Lib.Math.min.name ∈ rn_Wd := rn_Wd_mem (t := 309) (by decide +kernel) (by decide +kernel)
theorem rn_p_absc : Cond.code Lib.Math.abs.name Lib.Math.abs.code 1 (some .int) ∈ rn_Wd := rn_Wd_mem (t := 307) (by decide +kernel) (by decide +kernel)
theorem rn_p_abss : Cond.static Lib.Math.abs.name ∈ rn_Wd := rn_Wd_mem (t := 306) (by decide +kernel) (by decide +kernel)
theorem rn_p_mini : Cond.initialized "java/lang/Math" ∈ rn_Wd := rn_Wd_mem (t := 26) (by decide +kernel) (by decide +kernel)
theorem rn_p_nat : Cond.native arraycopyName ∈ rn_Wd := rn_Wd_mem (t := 546) (by decide +kernel) (by decide +kernel)
theorem rn_p_cst : Cond.static arraycopyName ∈ rn_Wd := rn_Wd_mem (t := 545) (by decide +kernel) (by decide +kernel)
theorem rn_p_cin : Cond.initialized "java/lang/System" ∈ rn_Wd := rn_Wd_mem (t := 28) (by decide +kernel) (by decide +kernel)
theorem rn_p_arr : Cond.arrayClass .int ∈ rn_Wd := rn_Wd_mem (t := 57) (by decide +kernel) (by decide +kernel)
theorem rn_p_obi : Cond.instanceMethod Lib.objectInit ∈ rn_Wd := rn_Wd_mem (t := 35) (by decide +kernel) (by decide +kernel)
theorem rn_p_obc : Cond.code Lib.objectInit ⟨#[0xb1]⟩ 1 none ∈ rn_Wd := rn_Wd_mem (t := 36) (by decide +kernel) (by decide +kernel)
theorem rn_nfw : nativeFrameWords "java/lang/System" "arraycopy" 5 ≤ 19 := by decide +kernel
end
section
/-! what the entries must keep to, as a program; and that they do -/
def rn_al (mt : rn_Mt) : Bool := mt.2.2.2.2.1
def rn_fr (mt : rn_Mt) : Nat := mt.2.2.2.2.2.2.2.1
def rn_lw (mt : rn_Mt) : Nat := mt.2.2.2.2.2.2.2.2.1
def rn_mc (mt : rn_Mt) : Nat := mt.2.2.2.2.2.1
def rn_ms (mt : rn_Mt) : Nat := mt.2.2.2.2.2.2.1
def rn_lg (mt : rn_Mt) : Bool := decide (mt.1.cls = "RiverNamesLaw")
def rn_kk (k : Nat) (mt : rn_Mt) : Bool := match k with | 0 => !rn_lg mt | _ => true
def rn_tb (mt : rn_Mt) : List (Nat × rn_E) := mt.2.2.2.2.2.2.2.2.2
def rn_hw (t : Nat) (w : Cond) : Bool := decide (lw_tbl[t]? = some w) && goodWord w
theorem rn_hw_mem {t : Nat} {w : Cond} (h : rn_hw t w = true) : w ∈ rn_Wd := by
  unfold rn_hw at h
  rw [Bool.and_eq_true, decide_eq_true_eq] at h
  exact rn_Wd_mem h.1 h.2
def rn_hn (t : Nat) (w : Cond) : Bool := decide (rn_nst[t]? = some w)
theorem rn_hn_mem {t : Nat} {w : Cond} (h : rn_hn t w = true) : w ∈ rn_nst := by
  unfold rn_hn at h
  rw [decide_eq_true_eq] at h
  exact List.mem_of_getElem? h
def rn_rk (r : Option FieldType) : Nat := match r with | some .int => 0 | some .boolean => 1 | some .byte => 2 | some .char => 3 | some (.object _) => 4 | none => 5 | some .long => 6 | _ => 7
def rn_plain (s : String) : Bool := decide (s ≠ "java/lang/invoke/MethodHandle") && decide (s ≠ "java/lang/invoke/VarHandle")
/-- the methods with many bytes: their code is known by name -/
def rn_big (z : Nat) : Bool := Nat.ble 123 z && Nat.ble z 132
/-- the callee of a call in method mt: kind of the call, arguments -/
def rn_chc (mt : rn_Mt) (kd z b k : Nat) (nst : Bool) (t idx : Nat) : Bool := match rn_mt z, rn_mpl[z]? with
  | some mz, some (kz, pa, pb, pc, pd) => decide (kz = kd) && (rn_big z || rn_hw pa (.code mz.1 mz.2.1 mz.2.2.1 mz.2.2.2.1)) && rn_hw pb (.initialized mz.1.cls) &&
    (match kd with
      | 0 => rn_hw pc (.instanceMethod mz.1) && rn_hw pd (.selects mz.1.cls mz.1 mz.1)
      | 1 => rn_hw pc (.static mz.1)
      | _ => rn_hw pc (.instanceMethod mz.1) && decide (mz.1.name = "<init>") && decide (mz.2.2.2.1 = none)) &&
    (match nst with | true => rn_hn t (.methodLinkNest mt.1.cls idx mz.1 "RiverNames") | false => rn_hw t (.methodLink mt.1.cls idx mz.1)) &&
    rn_plain mz.1.cls && decide ((parseMethodDescriptor mz.1.desc).map (fun d => d.parameters.length) = some (match kd with | 1 => b | _ => b - 1)) && decide (1 ≤ b ∨ kd = 1) &&
    decide (rn_fr mz + 1 ≤ rn_fr mt) && decide (8 + (mz.2.2.1 + 11) + rn_lw mz ≤ rn_lw mt) &&
    (match k with | 4 => rn_al mt | _ => decide (rn_al mz = false) && decide (rn_mc mz = 0) && decide (rn_ms mz = 0)) && plainName mz.1.cls && decide (b ≤ mz.2.2.1)
  | _, _ => false
def rn_chi (mt : rn_Mt) (pc : Nat) (e : rn_E) : Bool :=
  match e with
  | (ins, nx, a, b, t, k, c, ts) =>
  match ins with
  | .iconst n => decide (nx = pc + 1) && decide (-2147483648 ≤ n ∧ n ≤ 2147483647)
  | .bipush n => decide (nx = pc + 2) && decide (((Int8.ofInt n).toInt32).toInt = n)
  | .sipush n => decide (nx = pc + 3) && decide (((Int16.ofInt n).toInt32).toInt = n)
  | .aconst_null => decide (nx = pc + 1)
  | .iload i => decide (nx = pc + 2) && decide (i = a)
  | .iload_n i => decide (nx = pc + 1) && decide (i.val = a)
  | .aload i => decide (nx = pc + 2) && decide (i = a)
  | .aload_n i => decide (nx = pc + 1) && decide (i.val = a)
  | .istore i => decide (nx = pc + 2) && decide (i = a) && rn_kk k mt
  | .istore_n i => decide (nx = pc + 1) && decide (i.val = a) && rn_kk k mt
  | .astore i => decide (nx = pc + 2) && decide (i = a) && rn_kk k mt
  | .astore_n i => decide (nx = pc + 1) && decide (i.val = a) && rn_kk k mt
  | .iinc i _ => decide (nx = pc + 3) && decide (i = a)
  | .lload i => decide (nx = pc + 2) && decide (i = a)
  | .lload_n i => decide (nx = pc + 1) && decide (i.val = a)
  | .lstore i => decide (nx = pc + 2) && decide (i = a) && rn_kk k mt && rn_lg mt
  | .lstore_n i => decide (nx = pc + 1) && decide (i.val = a) && rn_kk k mt && rn_lg mt
  | .ladd => decide (nx = pc + 1)
  | .lmul => decide (nx = pc + 1)
  | .lcmp => decide (nx = pc + 1)
  | .i2l => decide (nx = pc + 1)
  | .ldc2_w idx => decide (nx = pc + 3) && rn_hw t (.constantLong mt.1.cls idx (Int64.ofNat a))
  | .idiv => decide (nx = pc + 1)
  | .irem => decide (nx = pc + 1)
  | .ixor => decide (nx = pc + 1)
  | .iushr => decide (nx = pc + 1)
  | .iadd => decide (nx = pc + 1)
  | .isub => decide (nx = pc + 1)
  | .imul => decide (nx = pc + 1)
  | .iand => decide (nx = pc + 1)
  | .ior => decide (nx = pc + 1)
  | .ishl => decide (nx = pc + 1)
  | .ishr => decide (nx = pc + 1)
  | .ineg => decide (nx = pc + 1)
  | .i2c => decide (nx = pc + 1)
  | .dup => decide (nx = pc + 1)
  | .pop => decide (nx = pc + 1)
  | .goto o => decide (nx = pc + 3) && decide ((pc : Int) + o = (a : Int))
  | .ifCond _ o => decide (nx = pc + 3) && decide ((pc : Int) + o = (a : Int))
  | .if_icmp _ o => decide (nx = pc + 3) && decide ((pc : Int) + o = (a : Int))
  | .ifnull o => decide (nx = pc + 3) && decide ((pc : Int) + o = (a : Int))
  | .ifnonnull o => decide (nx = pc + 3) && decide ((pc : Int) + o = (a : Int))
  | .tableswitch d lo _ offs => decide ((pc : Int) + d = (a : Int)) && decide (offs.toList.map (fun (o : Int) => (pc : Int) + o) = ts.map (fun (n : Nat) => (n : Int))) && decide (-2147483648 ≤ lo)
  | .getfield idx => decide (nx = pc + 3) && (decide (c = a + 1) && decide (a < 11) && decide (b < rn_nf a) && decide (k = rn_fk a b) && rn_hw t (.fieldLink mt.1.cls idx (rn_T a b).1 (rn_T a b).2.1 (rn_T a b).2.2.1))
  | .putfield idx => decide (nx = pc + 3) && decide (c = a + 1) && decide (a < 11) && decide (b < rn_nf a) && decide (k = rn_fk a b) && rn_hw t (.fieldLink mt.1.cls idx (rn_T a b).1 (rn_T a b).2.1 (rn_T a b).2.2.1) &&
      (match k, rn_ty a b with | 0, .int => true | 1, .boolean => true | 2, .object _ => true | 2, .array _ => true | _, _ => false) &&
      (match (rn_T a b).2.2.2 with | true => decide (mt.1.name = "<init>") && decide ((rn_T a b).1 = mt.1.cls) | false => true)
  | .getstatic idx => decide (nx = pc + 3) && (match b with
      | 1 => (match a with | 1 => rn_hn t (.fieldLinkNest mt.1.cls idx "RiverNames" "STEPS_RIGHT" "[I" "RiverNames") | 2 => rn_hn t (.fieldLinkNest mt.1.cls idx "RiverNames" "STEPS_DOWN" "[I" "RiverNames") | _ => false)
      | _ => false)
  | .ldc idx => decide (nx = pc + 2) && rn_hw t (.constant mt.1.cls idx (Int32.ofInt (a : Int))) && decide ((a : Int) ≤ 2147483647)
  | .iaload => decide (nx = pc + 1)
  | .iastore => decide (nx = pc + 1)
  | .aaload => decide (nx = pc + 1)
  | .aastore => decide (nx = pc + 1)
  | .arraylength => decide (nx = pc + 1)
  | .new idx => decide (nx = pc + 3) && decide (a < 11) && rn_al mt && rn_hw t (.classLink mt.1.cls idx (rn_cn a)) && (match rn_cpl[a]? with | some (pa, pb) => rn_hw pa (.instantiable (rn_cn a) (rn_nf a)) && rn_hw pb (.initialized (rn_cn a)) | none => false)
  | .newarray ty => decide (nx = pc + 2) && rn_al mt && decide (ty = .int)
  | .anewarray idx => decide (nx = pc + 3) && rn_al mt && decide (a = 0 ∨ a = 3 ∨ a = 5 ∨ a = 8) && rn_hw t (.classLink mt.1.cls idx (rn_cn a))
  | .invokevirtual idx => decide (nx = pc + 3) && decide (ts = [0]) && (match c with | 0 => false | c + 1 => decide (c < 11) && (match rn_mt a with | some mz => decide (mz.1.cls = rn_cn c) | none => false)) && rn_chc mt 0 a b k false t idx
  | .invokestatic idx => decide (nx = pc + 3) && (match k with
      | 3 => rn_hw t (.methodLink mt.1.cls idx arraycopyName) && decide (1 ≤ rn_fr mt) && decide (38 ≤ rn_lw mt)
      | 5 => rn_hw t (.methodLink mt.1.cls idx Lib.Math.max.name) && decide (1 ≤ rn_fr mt) && decide (21 ≤ rn_lw mt)
      | 6 => rn_hw t (.methodLink mt.1.cls idx Lib.Math.min.name) && decide (1 ≤ rn_fr mt) && decide (21 ≤ rn_lw mt)
      | 7 => rn_hw t (.methodLink mt.1.cls idx Lib.Math.abs.name) && decide (1 ≤ rn_fr mt) && decide (21 ≤ rn_lw mt)
      | _ => (match ts with | [0] => rn_chc mt 1 a b k false t idx | [1] => rn_chc mt 1 a b k true t idx | _ => false))
  | .invokespecial idx => decide (nx = pc + 3) && (match k with
      | 2 => rn_hw t (.methodLink mt.1.cls idx Lib.objectInit) && decide (1 ≤ rn_fr mt) && decide (20 ≤ rn_lw mt)
      | _ => (match ts with | [0] => rn_chc mt 2 a b k false t idx | [1] => rn_chc mt 2 a b k true t idx | _ => false))
  | .ireturn => decide (nx = pc + 1) && decide (k = rn_rk mt.2.2.2.1) && decide (k ≤ 3)
  | .lreturn => decide (nx = pc + 1) && decide (rn_rk mt.2.2.2.1 = 6)
  | .areturn => decide (nx = pc + 1) && decide (rn_rk mt.2.2.2.1 = 4)
  | .return_ => decide (nx = pc + 1) && decide (rn_rk mt.2.2.2.1 = 5)
  | _ => false
def rn_che (mt : rn_Mt) (q : Nat × rn_E) : Bool := decide (decode mt.2.1 q.1 = .ok (q.2.1, q.2.2.1 - q.1)) && rn_chi mt q.1 q.2
def rn_chm (mt : rn_Mt) : Bool := (rn_tb mt).all (rn_che mt)
end
section
theorem rn_big_at {z : Nat} (h : rn_big z = true) : z = 123 ∨ z = 124 ∨ z = 125 ∨ z = 126 ∨ z = 127 ∨ z = 128 ∨ z = 129 ∨ z = 130 ∨ z = 131 ∨ z = 132 := by
  unfold rn_big at h
  rw [Bool.and_eq_true] at h
  have h1 := Nat.le_of_ble_eq_true h.1
  have h2 := Nat.le_of_ble_eq_true h.2
  omega
set_option maxRecDepth 100000 in
theorem rn_big_123 : Cond.code yL_cell cL_cell 3 (some .int) ∈ rn_Wd := rn_Wd_mem (t := 415) rfl rfl
set_option maxRecDepth 100000 in
theorem rn_big_124 : Cond.code yL_low cL_low 2 (some .int) ∈ rn_Wd := rn_Wd_mem (t := 419) rfl rfl
set_option maxRecDepth 100000 in
theorem rn_big_125 : Cond.code yL_size cL_size 1 (some .int) ∈ rn_Wd := rn_Wd_mem (t := 731) rfl rfl
set_option maxRecDepth 100000 in
theorem rn_big_126 : Cond.code yL_print cL_print 5 (some .long) ∈ rn_Wd := rn_Wd_mem (t := 423) rfl rfl
set_option maxRecDepth 100000 in
theorem rn_big_127 : Cond.code yL_refused cL_refused 8 (some .boolean) ∈ rn_Wd := rn_Wd_mem (t := 499) rfl rfl
set_option maxRecDepth 100000 in
theorem rn_big_128 : Cond.code yL_areCells cL_areCells 8 (some .boolean) ∈ rn_Wd := rn_Wd_mem (t := 725) rfl rfl
set_option maxRecDepth 100000 in
theorem rn_big_129 : Cond.code yL_areStarts cL_areStarts 13 (some .boolean) ∈ rn_Wd := rn_Wd_mem (t := 728) rfl rfl
set_option maxRecDepth 100000 in
theorem rn_big_130 : Cond.code yL_areLabels cL_areLabels 17 (some .boolean) ∈ rn_Wd := rn_Wd_mem (t := 734) rfl rfl
set_option maxRecDepth 100000 in
theorem rn_big_131 : Cond.code yL_areTidied cL_areTidied 12 (some .boolean) ∈ rn_Wd := rn_Wd_mem (t := 737) rfl rfl
set_option maxRecDepth 100000 in
theorem rn_big_132 : Cond.code yL_acts cL_acts 5 (some .int) ∈ rn_Wd := rn_Wd_mem (t := 749) rfl rfl
theorem rn_big_in {z : Nat} {mz : rn_Mt} (h : rn_mt z = some mz) (hb : rn_big z = true) : Cond.code mz.1 mz.2.1 mz.2.2.1 mz.2.2.2.1 ∈ rn_Wd := by
  rcases rn_big_at hb with e | e | e | e | e | e | e | e | e | e <;> subst e
  · obtain rfl : rn_m123 = mz := Option.some.inj h
    exact rn_big_123
  · obtain rfl : rn_m124 = mz := Option.some.inj h
    exact rn_big_124
  · obtain rfl : rn_m125 = mz := Option.some.inj h
    exact rn_big_125
  · obtain rfl : rn_m126 = mz := Option.some.inj h
    exact rn_big_126
  · obtain rfl : rn_m127 = mz := Option.some.inj h
    exact rn_big_127
  · obtain rfl : rn_m128 = mz := Option.some.inj h
    exact rn_big_128
  · obtain rfl : rn_m129 = mz := Option.some.inj h
    exact rn_big_129
  · obtain rfl : rn_m130 = mz := Option.some.inj h
    exact rn_big_130
  · obtain rfl : rn_m131 = mz := Option.some.inj h
    exact rn_big_131
  · obtain rfl : rn_m132 = mz := Option.some.inj h
    exact rn_big_132
end
section
/-! the world's cells: read, written, made -/
theorem rn_kd_si {M : rn_M} {a k : Nat} {v : Int} (b : Nat) : rn_kd (rn_si M a k v) b = rn_kd M b := rfl
theorem rn_el_cong {tys : List (ClassId × FieldType)} {n : Nat} {ad : Nat → Nat} {M M' : rn_M} {a : Nat} {el : va_E} (h1 : rn_kd M' a = rn_kd M a) (h2 : rn_ln M' a = rn_ln M a) (h3 : ∀ j, rn_gi M' a j = rn_gi M a j) (h4 : ∀ j, rn_gr M' a j = rn_gr M a j) (h : rn_el tys n ad M a el) : rn_el tys n ad M' a el := by
  revert h
  unfold rn_el
  split
  · intro h
    simp only [rn_fv, h1, h3, h4] at h ⊢
    exact h
  · intro h
    simp only [h1, h2, h3] at h ⊢
    exact h
  · intro h
    simp only [h1, h2, h4] at h ⊢
    exact h
  · exact id
theorem rn_el_ext {tys tys' : List (ClassId × FieldType)} {n n' : Nat} {ad ad' : Nat → Nat} {M : rn_M} {a : Nat} {el : va_E} (hn : n ≤ n') (ha : ∀ a, a < n → ad' a = ad a) (ht : ∀ (t : Nat) (q : ClassId × FieldType), tys[t]? = some q → ∃ t2 : Nat, tys'[t2]? = some q) (h : rn_el tys n ad M a el) : rn_el tys' n' ad' M a el := by
  revert h
  unfold rn_el
  split
  · intro h
    refine ⟨h.1, h.2.1, h.2.2.1, fun b hb => ?_⟩
    obtain ⟨x, h5, h6⟩ := h.2.2.2 b hb
    exact ⟨x, h5, rn_vr_ext hn ha h6⟩
  · intro h
    obtain ⟨g1, g2, g3, ⟨t, g4⟩, g5⟩ := h
    exact ⟨g1, g2, g3, ht t _ g4, g5⟩
  · intro h
    obtain ⟨ci, g1, g2, g3, g6, ⟨t, g4⟩, g5⟩ := h
    exact ⟨ci, g1, g2, g3, g6, ht t _ g4, fun j hj => rn_vr_ext hn ha (g5 j hj)⟩
  · exact id
section RNW
variable {tys : List (ClassId × FieldType)} {ad : Nat → Nat} {M : rn_M} {ws : va_W}
theorem rn_Ws_8 {r : Nat} (h : rn_Ws tys ad M ws) (hk : rn_kd M r < 21 ∨ 24 < rn_kd M r) : 8 ≤ r := by
  rcases Nat.lt_or_ge r 8 with q | q
  · have := h.2.1 r q; omega
  · exact q
theorem rn_W_at {r : Nat} (h : rn_Ws tys ad M ws) (hr : r < M.1.length) (h8 : 8 ≤ r) : ∃ el, ws[r - 8]? = some (ad r, el) ∧ rn_el tys M.1.length ad M r el := by
  obtain ⟨el, h1, h2⟩ := h.2.2 (r - 8) (by have := h.1; omega)
  rw [Nat.sub_add_cancel h8] at h1 h2
  exact ⟨el, h1, h2⟩
theorem rn_W_obj {r ci : Nat} (h : rn_Ws tys ad M ws) (hr : r < M.1.length) (hk : rn_kd M r = ci + 1) (hc : ci < 11) : 8 ≤ r ∧ ∃ fs, ws[r - 8]? = some (ad r, .inr (ci, fs)) ∧ fs.length = rn_nf ci ∧ ∀ b, b < rn_nf ci → ∃ x, fs[b]? = some x ∧ rn_vr M.1.length ad (rn_fv (rn_fk ci b) M r b) x := by
  have h8 := rn_Ws_8 h (r := r) (by omega)
  obtain ⟨el, h1, h2⟩ := rn_W_at h hr h8
  refine ⟨h8, ?_⟩
  unfold rn_el at h2
  split at h2
  · rename_i c2 fs
    obtain ⟨g1, g2, g3, g4⟩ := h2
    have e : c2 = ci := by omega
    subst e
    exact ⟨fs, h1, g3, g4⟩
  · have := h2.1; omega
  · obtain ⟨ci2, g1, g2, -⟩ := h2; omega
  · exact h2.elim
theorem rn_W_arr {r : Nat} (h : rn_Ws tys ad M ws) (hr : r < M.1.length) (hk : rn_kd M r = 20) : 8 ≤ r ∧ rn_ln M r ≤ 100000 ∧ ∃ (cA : ClassId) (f : Nat → Int32) (t : Nat), ws[r - 8]? = some (ad r, .inl (cA, rn_ln M r, .inl f)) ∧ tys[t]? = some (cA, .int) ∧ ∀ j, j < rn_ln M r → (f j).toInt = rn_gi M r j := by
  have h8 := rn_Ws_8 h (r := r) (by omega)
  obtain ⟨el, h1, h2⟩ := rn_W_at h hr h8
  refine ⟨h8, ?_⟩
  unfold rn_el at h2
  split at h2
  · have := h2.1; have := h2.2.1; omega
  · rename_i cA len f
    obtain ⟨g1, rfl, g3, ⟨t, g4⟩, g5⟩ := h2
    exact ⟨g3, cA, f, t, h1, g4, g5⟩
  · obtain ⟨ci2, g1, g2, -⟩ := h2; omega
  · exact h2.elim
theorem rn_W_arq {r : Nat} (h : rn_Ws tys ad M ws) (hr : r < M.1.length) (hk : 30 ≤ rn_kd M r) : 8 ≤ r ∧ rn_ln M r ≤ 100000 ∧ ∃ (ci : Nat) (cA : ClassId) (f : Nat → Option Nat) (t : Nat), rn_kd M r = ci + 30 ∧ ci < 11 ∧ ws[r - 8]? = some (ad r, .inl (cA, rn_ln M r, .inr (.inr (.inr (.inr f))))) ∧ tys[t]? = some (cA, .object (rn_cn ci)) ∧ ∀ j, j < rn_ln M r → rn_vr M.1.length ad (.inr (.inl (some (rn_gr M r j)))) (va_rf (f j)) := by
  have h8 := rn_Ws_8 h (r := r) (by omega)
  obtain ⟨el, h1, h2⟩ := rn_W_at h hr h8
  refine ⟨h8, ?_⟩
  unfold rn_el at h2
  split at h2
  · have := h2.1; have := h2.2.1; omega
  · have := h2.1; omega
  · rename_i cA len f
    obtain ⟨ci, g1, g2, rfl, g3, ⟨t, g4⟩, g5⟩ := h2
    exact ⟨g3, ci, cA, f, t, g1, g2, h1, g4, g5⟩
  · exact h2.elim
theorem rn_Ws_set {M' : rn_M} {r : Nat} {el : va_E} (h : rn_Ws tys ad M ws) (h8 : 8 ≤ r) (hr : r < M.1.length) (h1 : M'.1 = M.1) (h2 : ∀ a, a ≠ r → ∀ j, rn_gi M' a j = rn_gi M a j ∧ rn_gr M' a j = rn_gr M a j) (h3 : rn_el tys M.1.length ad M' r el) : rn_Ws tys ad M' (ws.set (r - 8) (ad r, el)) := by
  have hk : ∀ a, rn_kd M' a = rn_kd M a := fun a => by unfold rn_kd; rw [h1]
  have hl : ∀ a, rn_ln M' a = rn_ln M a := fun a => by unfold rn_ln; rw [h1]
  refine ⟨by rw [List.length_set, h1]; exact h.1, fun a ha => by rw [hk]; exact h.2.1 a ha, fun k hk2 => ?_⟩
  rw [List.length_set] at hk2
  rw [h1]
  by_cases e : r - 8 = k
  · subst e
    rw [List.getElem?_set_self hk2, Nat.sub_add_cancel h8]
    exact ⟨el, rfl, h3⟩
  · rw [List.getElem?_set_ne e]
    obtain ⟨el2, g1, g2⟩ := h.2.2 k hk2
    refine ⟨el2, g1, rn_el_cong (hk _) (hl _) (fun j => (h2 _ ?_ j).1) (fun j => (h2 _ ?_ j).2) g2⟩ <;> omega
end RNW
theorem rn_nw_kd {M : rn_M} {k n a : Nat} (h : a < M.1.length) : rn_kd (rn_nw M k n) a = rn_kd M a ∧ rn_ln (rn_nw M k n) a = rn_ln M a := by
  unfold rn_kd rn_ln rn_nw
  simp only [List.getD_eq_getElem?_getD, List.getElem?_append_left h]
  exact ⟨trivial, trivial⟩
theorem rn_nw_kn {M : rn_M} {k n : Nat} : rn_kd (rn_nw M k n) M.1.length = k ∧ rn_ln (rn_nw M k n) M.1.length = n := by
  unfold rn_kd rn_ln rn_nw
  simp [List.getD_eq_getElem?_getD]
theorem rn_nw_gi {M : rn_M} {k n a : Nat} (h : a < M.1.length) (j : Nat) : rn_gi (rn_nw M k n) a j = rn_gi M a j ∧ rn_gr (rn_nw M k n) a j = rn_gr M a j := by
  have e : a ≠ M.1.length := Nat.ne_of_lt h
  unfold rn_gi rn_gr rn_nw
  simp only [if_neg e]
  exact ⟨trivial, trivial⟩
theorem rn_nw_gn {M : rn_M} {k n : Nat} (j : Nat) : rn_gi (rn_nw M k n) M.1.length j = 0 ∧ rn_gr (rn_nw M k n) M.1.length j = none := by
  unfold rn_gi rn_gr rn_nw
  simp
def rn_ad (ad : Nat → Nat) (n q : Nat) : Nat → Nat := fun a => if a = n then q else ad a
theorem rn_ad_lt {ad : Nat → Nat} {n q a : Nat} (h : a < n) : rn_ad ad n q a = ad a := by
  unfold rn_ad
  rw [if_neg (Nat.ne_of_lt h)]
theorem rn_ad_n {ad : Nat → Nat} {n q : Nat} : rn_ad ad n q n = q := by simp [rn_ad]
theorem rn_nw_len {M : rn_M} {k n : Nat} : (rn_nw M k n).1.length = M.1.length + 1 := by simp [rn_nw]
theorem rn_nw_xt {M : rn_M} {ad : Nat → Nat} {k n q : Nat} (h8 : 8 ≤ M.1.length) : rn_xt M (rn_nw M k n) ad (rn_ad ad M.1.length q) := by
  refine ⟨by rw [rn_nw_len]; omega, fun a h => rn_ad_lt h, fun a h => ?_⟩
  have h2 : a < M.1.length := by omega
  exact ⟨(rn_nw_kd h2).1, (rn_nw_kd h2).2, fun j => (rn_nw_gi h2 j).1, fun j => (rn_nw_gi h2 j).2⟩
theorem rn_Ws_app {tys tys' : List (ClassId × FieldType)} {ad : Nat → Nat} {M : rn_M} {ws : va_W} {k n q : Nat} {el : va_E} (h : rn_Ws tys ad M ws) (ht : ∀ (t : Nat) (q : ClassId × FieldType), tys[t]? = some q → ∃ t2 : Nat, tys'[t2]? = some q)
    (hel : rn_el tys' (M.1.length + 1) (rn_ad ad M.1.length q) (rn_nw M k n) M.1.length el) : rn_Ws tys' (rn_ad ad M.1.length q) (rn_nw M k n) (ws ++ [(q, el)]) := by
  have hl := h.1
  refine ⟨by rw [rn_nw_len, List.length_append, List.length_singleton]; omega, fun a ha => by rw [(rn_nw_kd (by omega)).1]; exact h.2.1 a ha, fun k2 hk2 => ?_⟩
  rw [List.length_append] at hk2
  simp only [List.length_cons, List.length_nil] at hk2
  rw [rn_nw_len]
  rcases Nat.lt_or_ge k2 ws.length with g | g
  · rw [List.getElem?_append_left g]
    obtain ⟨el2, g1, g2⟩ := h.2.2 k2 g
    have h5 : k2 + 8 < M.1.length := by omega
    rw [rn_ad_lt h5]
    refine ⟨el2, g1, ?_⟩
    exact rn_el_ext (n := M.1.length) (by omega) (fun a ha => rn_ad_lt ha) ht (rn_el_cong (rn_nw_kd h5).1 (rn_nw_kd h5).2 (fun j => (rn_nw_gi h5 j).1) (fun j => (rn_nw_gi h5 j).2) g2)
  · have e : k2 = ws.length := by omega
    subst e
    rw [List.getElem?_append_right (Nat.le_refl _), hl, rn_ad_n]
    refine ⟨el, by simp, hel⟩
theorem rn_in_vp {M : rn_M} {r : Nat} {i : Int32} (h : rn_in M r i.toInt) (hl : rn_ln M r ≤ 100000) : vp_in i (rn_ln M r) ∧ i.toNatClampNeg = i.toInt.toNat ∧ i.toInt.toNat < rn_ln M r := by
  obtain ⟨h1, h2⟩ := h
  have e : i.toNatClampNeg = i.toInt.toNat := rfl
  refine ⟨vp_in_iff.mpr ⟨h1, h2⟩, e, by omega⟩
end
section
/-! soundness: what the abstract machine does, the machine does -/
theorem rn_st1_out {st : List rn_V} {f : Int → List rn_V → Prop} (h : rn_st1 st f) : ∃ x t, st = .inl x :: t ∧ f x t := by
  unfold rn_st1 at h; split at h
  · exact ⟨_, _, rfl, h⟩
  · exact h.elim
theorem rn_sl1_out {st : List rn_V} {f : Int64 → List rn_V → Prop} (h : rn_sl1 st f) : ∃ x t, st = .inr (.inr x) :: t ∧ f x t := by
  unfold rn_sl1 at h; split at h
  · exact ⟨_, _, rfl, h⟩
  · exact h.elim
theorem rn_sl2_out {st : List rn_V} {f : Int64 → Int64 → List rn_V → Prop} (h : rn_sl2 st f) : ∃ x y t, st = .inr (.inr y) :: .inr (.inr x) :: t ∧ f x y t := by
  unfold rn_sl2 at h; split at h
  · exact ⟨_, _, _, rfl, h⟩
  · exact h.elim
theorem rn_ldL_out {L : List rn_V} {i : Nat} {f : Int64 → Prop} (h : rn_ldL L i f) : ∃ x, L[i]? = some (.inr (.inr x)) ∧ f x := by
  unfold rn_ldL at h; split at h
  · exact ⟨_, by assumption, h⟩
  · exact h.elim
theorem rn_vs_G {n : Nat} {ad : Nat → Nat} {g : Int64} {t : List rn_V} {stk : List Value} (h : rn_vs n ad (.inr (.inr g) :: t) stk) : ∃ (r : List Value), stk = .long g :: r ∧ rn_vs n ad t r := by
  cases stk with
  | nil => exact h.elim
  | cons v r =>
    obtain ⟨rfl, h2⟩ := h
    exact ⟨r, rfl, h2⟩
theorem rn_st2_out {st : List rn_V} {f : Int → Int → List rn_V → Prop} (h : rn_st2 st f) : ∃ x y t, st = .inl y :: .inl x :: t ∧ f x y t := by
  unfold rn_st2 at h; split at h
  · exact ⟨_, _, _, rfl, h⟩
  · exact h.elim
theorem rn_stR_out {st : List rn_V} {f : Nat → List rn_V → Prop} (h : rn_stR st f) : ∃ a t, st = .inr (.inl (some (some a))) :: t ∧ f a t := by
  unfold rn_stR at h; split at h
  · exact ⟨_, _, rfl, h⟩
  · exact h.elim
theorem rn_stA_out {st : List rn_V} {f : Nat → Int → List rn_V → Prop} (h : rn_stA st f) : ∃ a i t, st = .inl i :: .inr (.inl (some (some a))) :: t ∧ f a i t := by
  unfold rn_stA at h; split at h
  · exact ⟨_, _, _, rfl, h⟩
  · exact h.elim
theorem rn_ldI_out {L : List rn_V} {i : Nat} {f : Int → Prop} (h : rn_ldI L i f) : ∃ x, L[i]? = some (.inl x) ∧ f x := by
  unfold rn_ldI at h; split at h
  · exact ⟨_, by assumption, h⟩
  · exact h.elim
theorem rn_ldR_out {L : List rn_V} {i : Nat} {f : Option Nat → Prop} (h : rn_ldR L i f) : ∃ x, L[i]? = some (.inr (.inl (some x))) ∧ f x := by
  unfold rn_ldR at h; split at h
  · exact ⟨_, by assumption, h⟩
  · exact h.elim
theorem rn_g_out {b : Bool} {P : Prop} (h : rn_g b P) : b = true ∧ P := by cases b; exact h.elim; exact ⟨rfl, h⟩
theorem rn_vs_I {n : Nat} {ad : Nat → Nat} {x : Int} {t : List rn_V} {stk : List Value} (h : rn_vs n ad (.inl x :: t) stk) : ∃ (k : Int32) (r : List Value), stk = .int k :: r ∧ k.toInt = x ∧ rn_vs n ad t r := by
  cases stk with
  | nil => exact h.elim
  | cons v r =>
    obtain ⟨⟨k, rfl, hk⟩, h2⟩ := h
    exact ⟨k, r, rfl, hk, h2⟩
theorem rn_vs_R {n : Nat} {ad : Nat → Nat} {a : Nat} {t : List rn_V} {stk : List Value} (h : rn_vs n ad (.inr (.inl (some (some a))) :: t) stk) : ∃ (r : List Value), stk = .ref (ad a) :: r ∧ a < n ∧ rn_vs n ad t r := by
  cases stk with
  | nil => exact h.elim
  | cons v r =>
    obtain ⟨⟨h1, rfl⟩, h2⟩ := h
    exact ⟨r, rfl, h1, h2⟩
theorem rn_vs_N {n : Nat} {ad : Nat → Nat} {t : List rn_V} {stk : List Value} (h : rn_vs n ad (.inr (.inl (some none)) :: t) stk) : ∃ (r : List Value), stk = .null :: r ∧ rn_vs n ad t r := by
  cases stk with
  | nil => exact h.elim
  | cons v r =>
    obtain ⟨h1, h2⟩ := h
    cases h1
    exact ⟨r, rfl, h2⟩
theorem rn_vs_c {n : Nat} {ad : Nat → Nat} {v : rn_V} {t : List rn_V} {stk : List Value} (h : rn_vs n ad (v :: t) stk) : ∃ (x : Value) (r : List Value), stk = x :: r ∧ rn_vr n ad v x ∧ rn_vs n ad t r := by
  cases stk with
  | nil => exact h.elim
  | cons x r => exact ⟨x, r, rfl, h.1, h.2⟩
theorem rn_i0 {k : Int32} : (k = 0) = (k.toInt = 0) := propext ⟨fun h => by rw [h]; rfl, fun h => Int32.toInt_inj.mp h⟩
theorem rn_ie {k j : Int32} : (k = j) = (k.toInt = j.toInt) := propext ⟨fun h => by rw [h], fun h => Int32.toInt_inj.mp h⟩
theorem rn_il {k j : Int32} : (k < j) = (k.toInt < j.toInt) := propext Int32.lt_iff_toInt_lt
theorem rn_ile {k j : Int32} : (k ≤ j) = (k.toInt ≤ j.toInt) := propext Int32.le_iff_toInt_le
theorem rn_wr_wr (x n : Int) : rn_wr (x + rn_wr n) = rn_wr (x + n) := by unfold rn_wr; omega
theorem rn_wr_id {x : Int} (h : -2147483648 ≤ x) (h2 : x ≤ 2147483647) : rn_wr x = x := by unfold rn_wr; omega
def rn_Cx (A : Nat → Prop) (p : Program) (R : Room) (s : State) (m : MethodId) (args : Array Value) (meth : Method) (c : Code) (mt : rn_Mt) : Prop :=
  p.tables.exec = Jvm.exec ∧ c.code = mt.2.1 ∧ s.vm.findClass mt.1.cls = some m.cls ∧ (∀ w ∈ rn_Wd, w.before args s = true) ∧ (mt.1.name = "<init>" → meth.name = "<init>") ∧ rn_fr mt ≤ R.frames ∧ rn_lw mt ≤ R.locals ∧ ∀ q, s.heap.size ≤ q → A q
def rn_Dz (D : va_G) (A : Nat → Prop) (R : Room) (s : State) (mt : rn_Mt) (ad : Nat → Nat) (tys : List (ClassId × FieldType)) (ws : va_W) (M : rn_M) (H : Heap) (locs : List Loc) (cells slots : Nat) : Prop :=
  rn_W D A tys ws ad M s H ∧ rn_Ev ad M A s s.heap ∧ rn_Ef ad A s s.heap ∧ va_S A s.heap H locs ∧ cells ≤ R.cells ∧ slots ≤ R.slots ∧ (rn_al mt = true → cells + M.2.1.1 ≤ R.cells ∧ slots + M.2.1.2 ≤ R.slots)
def rn_Rt (mt : rn_Mt) (r : Option rn_V) (pc n : Nat) (ad : Nat → Nat) (stk : List Value) : Prop := match r with
  | none => decode mt.2.1 pc = .ok (.return_, 1) ∧ rn_rk mt.2.2.2.1 = 5 ∧ stk = []
  | some (.inl x) => decode mt.2.1 pc = .ok (.ireturn, 1) ∧ rn_rk mt.2.2.2.1 ≤ 3 ∧ rn_okr (rn_rk mt.2.2.2.1) x ∧ ∃ k : Int32, stk = [.int k] ∧ k.toInt = x
  | some (.inr (.inr g)) => decode mt.2.1 pc = .ok (.lreturn, 1) ∧ rn_rk mt.2.2.2.1 = 6 ∧ stk = [.long g]
  | some (.inr (.inl v)) => decode mt.2.1 pc = .ok (.areturn, 1) ∧ rn_rk mt.2.2.2.1 = 4 ∧ ∃ z, stk = [z] ∧ rn_vr n ad (.inr (.inl v)) z ∧ (z = .null ∨ ∃ a, z = .ref a)
def rn_Ex (l : Launch) (D : va_G) (A : Nat → Prop) (p : Program) (e : Env) (R : Room) (s : State) (m : MethodId) (args : Array Value) (below : List Frame) (meth : Method) (c : Code) (mt : rn_Mt) (QQ : State → Prop) (ad : Nat → Nat) (M : rn_M) (Q : rn_Q) : Prop :=
  ∀ (r : Option rn_V) (M' : rn_M) (ad' : Nat → Nat) (tys' : List (ClassId × FieldType)) (ws' : va_W) (H' : Heap) (locs' : List Loc) (cells' slots' pc' : Nat) (ls' : Array Slot) (stk' : List Value), Q r M' → rn_xt M M' ad ad' → (rn_al mt = false → M'.2.1 = M.2.1) → rn_Rt mt r pc' M'.1.length ad' stk' → rn_W D A tys' ws' ad' M' s H' → va_S A s.heap H' locs' → cells' ≤ R.cells → slots' ≤ R.slots → W p l e R s m args below meth c H' locs' cells' slots' QQ (F0 m pc' ls' stk')
def rn_Snd (l : Launch) (D : va_G) (A : Nat → Prop) : rn_X := fun y pc L st M Q => ∀ (mt : rn_Mt), rn_mt y = some mt → ∀ (p : Program) (e : Env) (R : Room) (s : State) (m : MethodId) (args : Array Value) (below : List Frame) (meth : Method) (c : Code) (H : Heap) (locs : List Loc) (cells slots : Nat) (QQ : State → Prop) (ls : Array Slot) (stk : List Value) (ad : Nat → Nat) (tys : List (ClassId × FieldType)) (ws : va_W),
  rn_Cx A p R s m args meth c mt → c.maxLocals = L.length → rn_lr (rn_lg mt) M.1.length ad L ls → rn_vs M.1.length ad st stk → rn_Dz D A R s mt ad tys ws M H locs cells slots → rn_Ex l D A p e R s m args below meth c mt QQ ad M Q → W p l e R s m args below meth c H locs cells slots QQ (F0 m pc ls stk)
theorem rn_Snd_mon {l : Launch} {D : va_G} {A : Nat → Prop} : rn_mon (rn_Snd l D A) := by
  intro y pc L st M Q Q' hQ h mt hm p e R s m args below meth c H locs cells slots QQ ls stk ad tys ws C hml hl hs hz E
  exact h mt hm p e R s m args below meth c H locs cells slots QQ ls stk ad tys ws C hml hl hs hz (fun r M' ad' tys' ws' H' locs' cells' slots' pc' ls' stk' hq => E r M' ad' tys' ws' H' locs' cells' slots' pc' ls' stk' (hQ _ _ hq))
section RNS
variable {l : Launch} {D : va_G} {A : Nat → Prop} {p : Program} {e : Env} {R : Room} {s : State} {m : MethodId} {args : Array Value} {below : List Frame} {meth : Method} {c : Code} {H : Heap} {locs : List Loc} {cells slots : Nat} {QQ : State → Prop} {ls : Array Slot} {stk : List Value} {ad : Nat → Nat} {tys : List (ClassId × FieldType)} {ws : va_W} {mt : rn_Mt} {y pc : Nat} {L st : List rn_V} {M : rn_M} {Q : rn_Q}
theorem rn_Ex_xt {M1 : rn_M} {ad1 : Nat → Nat} (hx : rn_xt M M1 ad ad1) (hb : rn_al mt = false → M1.2.1 = M.2.1) (E : rn_Ex l D A p e R s m args below meth c mt QQ ad M Q) : rn_Ex l D A p e R s m args below meth c mt QQ ad1 M1 Q :=
  fun r M' ad' tys' ws' H' locs' cells' slots' pc' ls' stk' hq hx2 hb2 => E r M' ad' tys' ws' H' locs' cells' slots' pc' ls' stk' hq (rn_xt_tr hx hx2) (fun q => (hb2 q).trans (hb q))
theorem rn_go0 {pc' : Nat} {L' st' : List rn_V} {ls' : Array Slot} {stk' : List Value} (hm : rn_mt y = some mt) (k : rn_Snd l D A y pc' L' st' M Q) (C : rn_Cx A p R s m args meth c mt) (hml : c.maxLocals = L'.length) (hl : rn_lr (rn_lg mt) M.1.length ad L' ls') (hs : rn_vs M.1.length ad st' stk') (hz : rn_Dz D A R s mt ad tys ws M H locs cells slots) (E : rn_Ex l D A p e R s m args below meth c mt QQ ad M Q) :
    W p l e R s m args below meth c H locs cells slots QQ (F0 m pc' ls' stk') := k mt hm p e R s m args below meth c H locs cells slots QQ ls' stk' ad tys ws C hml hl hs hz E
/-- on with another memory of the same shape and room -/
theorem rn_go1 {pc' : Nat} {st' : List rn_V} {stk' : List Value} {M1 : rn_M} {ws1 : va_W} {H1 : Heap} {locs1 : List Loc} (hm : rn_mt y = some mt) (k : rn_Snd l D A y pc' L st' M1 Q) (C : rn_Cx A p R s m args meth c mt) (hml : c.maxLocals = L.length) (hl : rn_lr (rn_lg mt) M.1.length ad L ls) (hs : rn_vs M.1.length ad st' stk') (hz : rn_Dz D A R s mt ad tys ws M H locs cells slots)
    (h1 : M1.1 = M.1) (h2 : M1.2.1 = M.2.1) (h3 : ∀ a, a < 8 → (∀ j, rn_gi M1 a j = rn_gi M a j) ∧ ∀ j, rn_gr M1 a j = rn_gr M a j) (hP : va_P D rn_cl ws1 H1) (hD : va_D A ws1) (hS : va_S A s.heap H1 locs1) (hW : rn_Ws tys ad M1 ws1) (E : rn_Ex l D A p e R s m args below meth c mt QQ ad M Q) :
    W p l e R s m args below meth c H1 locs1 cells slots QQ (F0 m pc' ls stk') := by
  obtain ⟨z1, z2, z3, z4, z5, z6, z7⟩ := hz
  have hx : rn_xt M M1 ad ad := ⟨by rw [h1]; exact Nat.le_refl _, fun _ _ => rfl, fun a ha => ⟨by unfold rn_kd; rw [h1], by unfold rn_ln; rw [h1], (h3 a ha).1, (h3 a ha).2⟩⟩
  have h8 : 8 ≤ M.1.length := by have := z1.2.2.2.1; omega
  refine k mt hm p e R s m args below meth c H1 locs1 cells slots QQ ls stk' ad tys ws1 C hml (by rw [h1]; exact hl) (by rw [h1]; exact hs) ⟨⟨z1.1, hP, hD, hW⟩, rn_Ev_xt h8 hx z2, z3, hS, z5, z6, by rw [h2]; exact z7⟩ (rn_Ex_xt hx (fun _ => h2) E)
/-- on with a new cell -/
theorem rn_go2 {pc' k0 n0 q : Nat} {st' : List rn_V} {stk' : List Value} {tys1 : List (ClassId × FieldType)} {el : va_E} {H1 : Heap} {locs1 : List Loc} (hm : rn_mt y = some mt) (k : rn_Snd l D A y pc' L (rn_R M.1.length :: st') (rn_nw M k0 n0) Q) (C : rn_Cx A p R s m args meth c mt) (hml : c.maxLocals = L.length) (hl : rn_lr (rn_lg mt) M.1.length ad L ls) (hs : rn_vs M.1.length ad st' stk') (hz : rn_Dz D A R s mt ad tys ws M H locs cells slots)
    (hal : rn_al mt = true) (hb1 : 1 ≤ M.2.1.1) (hb2 : n0 ≤ M.2.1.2) (hK : va_K D rn_cl tys1 s) (hP : va_P D rn_cl (ws ++ [(q, el)]) H1) (hD : va_D A (ws ++ [(q, el)])) (hS : va_S A s.heap H1 locs1) (ht : ∀ (t : Nat) (q : ClassId × FieldType), tys[t]? = some q → ∃ t2 : Nat, tys1[t2]? = some q)
    (hel : rn_el tys1 (M.1.length + 1) (rn_ad ad M.1.length q) (rn_nw M k0 n0) M.1.length el) (E : rn_Ex l D A p e R s m args below meth c mt QQ ad M Q) :
    W p l e R s m args below meth c H1 locs1 (cells + 1) (slots + n0) QQ (F0 m pc' ls (.ref q :: stk')) := by
  obtain ⟨z1, z2, z3, z4, z5, z6, z7⟩ := hz
  have h8 : 8 ≤ M.1.length := by have := z1.2.2.2.1; omega
  have hx : rn_xt M (rn_nw M k0 n0) ad (rn_ad ad M.1.length q) := rn_nw_xt h8
  have hb := z7 hal
  have e1 : (rn_nw M k0 n0).2.1.1 = M.2.1.1 - 1 := rfl
  have e2 : (rn_nw M k0 n0).2.1.2 = M.2.1.2 - n0 := rfl
  refine k mt hm p e R s m args below meth c H1 locs1 (cells + 1) (slots + n0) QQ ls _ (rn_ad ad M.1.length q) tys1 (ws ++ [(q, el)]) C hml (rn_lr_ext hx.1 hx.2.1 hl) ⟨⟨by rw [rn_nw_len]; omega, by rw [rn_ad_n]⟩, rn_vs_ext hx.1 hx.2.1 hs⟩ ⟨⟨hK, hP, hD, rn_Ws_app z1.2.2.2 ht hel⟩, rn_Ev_xt h8 hx z2, rn_Ef_xt h8 hx z3, hS, by omega, by omega, fun _ => ⟨by rw [e1]; omega, by rw [e2]; omega⟩⟩ (rn_Ex_xt hx (fun q => by rw [hal] at q; cases q) E)
end RNS
end
section
section RNI
variable {l : Launch} {D : va_G} {A : Nat → Prop} {p : Program} {e : Env} {R : Room} {s : State} {m : MethodId} {args : Array Value} {below : List Frame} {meth : Method} {c : Code} {H : Heap} {locs : List Loc} {cells slots : Nat} {QQ : State → Prop} {ls : Array Slot} {stk : List Value} {ad : Nat → Nat} {tys : List (ClassId × FieldType)} {ws : va_W} {mt : rn_Mt} {y pc : Nat} {L st : List rn_V} {M : rn_M} {Q : rn_Q}
theorem rn_i_get {idx a b t k cc : Nat} (hm : rn_mt y = some mt) (hd : decode mt.2.1 pc = .ok (.getfield idx, 3)) (hc : rn_chi mt pc (.getfield idx, pc + 3, a, b, t, k, cc, []) = true) (h : rn_stR st fun r t => rn_kd M r = cc ∧ rn_Snd l D A y (pc + 3) L (rn_fv k M r b :: t) M Q)
    (C : rn_Cx A p R s m args meth c mt) (hml : c.maxLocals = L.length) (hl : rn_lr (rn_lg mt) M.1.length ad L ls) (hs : rn_vs M.1.length ad st stk) (hz : rn_Dz D A R s mt ad tys ws M H locs cells slots) (E : rn_Ex l D A p e R s m args below meth c mt QQ ad M Q) : W p l e R s m args below meth c H locs cells slots QQ (F0 m pc ls stk) := by
  obtain ⟨r, t', rfl, hkd, hg⟩ := rn_stR_out h
  obtain ⟨stk', rfl, hr, hs'⟩ := rn_vs_R hs
  obtain ⟨z1, z2, z3, z4, z5, z6, z7⟩ := id hz
  unfold rn_chi at hc
  simp only [Bool.and_eq_true, decide_eq_true_eq] at hc
  obtain ⟨-, hc⟩ := hc
  obtain ⟨⟨⟨⟨rfl, ha⟩, hb⟩, rfl⟩, hw⟩ := hc
  obtain ⟨-, fs, g1, g2, g3⟩ := rn_W_obj z1.2.2.2 hr hkd ha
  obtain ⟨x, g4, g5⟩ := g3 b hb
  refine va_get (D := D) (C := rn_cn a) (T := rn_T a) (N := rn_nf a) (Ts := rn_Wd) C.1 C.2.1 C.2.2.2.1 (fun w hw => List.mem_filter.mpr (rn_cl_in a ha w hw)) C.2.2.1 z1.1 z1.2.1 (r - 8) g1 (rn_cl_at a ha) b hb (C.2.2.2.1 _ (rn_hw_mem hw)) (fun _ h9 => h9) g4 hd ?_
  exact rn_go0 hm hg C hml hl ⟨g5, hs'⟩ hz E
theorem rn_fk_b {a b k : Nat} (hk : k = rn_fk a b) {v : rn_V} : True := trivial
/-- the write of a field, whatever it is -/
theorem rn_i_putW {idx a b t r : Nat} {M1 : rn_M} {t' : List rn_V} {stk' : List Value} {v : Value} (hm : rn_mt y = some mt) (hd : decode mt.2.1 pc = .ok (.putfield idx, 3)) (ha : a < 11) (hb : b < rn_nf a) (hw : rn_hw t (.fieldLink mt.1.cls idx (rn_T a b).1 (rn_T a b).2.1 (rn_T a b).2.2.1) = true)
    (hfin : (match (rn_T a b).2.2.2 with | true => decide (mt.1.name = "<init>") && decide ((rn_T a b).1 = mt.1.cls) | false => true) = true) (hr : r < M.1.length) (hkd : rn_kd M r = a + 1) (hn : narrow (rn_ty a b) v = v) (hfit : fits (rn_ty a b) v = true)
    (h1 : M1.1 = M.1) (h1b : M1.2.1 = M.2.1) (h2 : ∀ a, a ≠ r → ∀ j, rn_gi M1 a j = rn_gi M a j ∧ rn_gr M1 a j = rn_gr M a j) (h3 : ∀ b', b' ≠ b → rn_fv (rn_fk a b') M1 r b' = rn_fv (rn_fk a b') M r b') (h4 : rn_vr M.1.length ad (rn_fv (rn_fk a b) M1 r b) v)
    (k : rn_Snd l D A y (pc + 3) L t' M1 Q) (C : rn_Cx A p R s m args meth c mt) (hml : c.maxLocals = L.length) (hl : rn_lr (rn_lg mt) M.1.length ad L ls) (hs : rn_vs M.1.length ad t' stk') (hz : rn_Dz D A R s mt ad tys ws M H locs cells slots) (E : rn_Ex l D A p e R s m args below meth c mt QQ ad M Q) : W p l e R s m args below meth c H locs cells slots QQ (F0 m pc ls (v :: .ref (ad r) :: stk')) := by
  obtain ⟨z1, z2, z3, z4, z5, z6, z7⟩ := id hz
  obtain ⟨h8, fs, g1, g2, g3⟩ := rn_W_obj z1.2.2.2 hr hkd ha
  have kk : ∀ (H1 : Heap) (locs1 : List Loc), va_P D rn_cl (ws.set (r - 8) (ad r, .inr (a, fs.set b v))) H1 → va_D A (ws.set (r - 8) (ad r, .inr (a, fs.set b v))) → va_S A s.heap H1 locs1 → W p l e R s m args below meth c H1 locs1 cells slots QQ (F0 m (pc + 3) ls stk') := by
    intro H1 locs1 hP hD hS
    refine rn_go1 hm k C hml hl hs hz h1 h1b (fun q hq => ⟨fun j => (h2 q (by omega) j).1, fun j => (h2 q (by omega) j).2⟩) hP hD hS (rn_Ws_set z1.2.2.2 h8 hr h1 h2 ?_) E
    refine ⟨by unfold rn_kd at hkd ⊢; rw [h1]; exact hkd, ha, by rw [List.length_set]; exact g2, fun b' hb' => ?_⟩
    by_cases e : b = b'
    · subst e
      rw [List.getElem?_set_self (by rw [g2]; exact hb)]
      exact ⟨v, rfl, h4⟩
    · rw [List.getElem?_set_ne e, h3 b' (Ne.symm e)]
      exact g3 b' hb'
  cases hf : (rn_T a b).2.2.2 with
  | false =>
    exact va_put (D := D) (ci := a) (C := rn_cn a) (T := rn_T a) (N := rn_nf a) (Ts := rn_Wd) C.1 C.2.1 C.2.2.2.1 (fun w hw => List.mem_filter.mpr (rn_cl_in a ha w hw)) (rn_ty a) (rn_cl_ty a ha) (rn_cl_nm a ha) C.2.2.1 z1.1 z1.2.1 z1.2.2.1 z4 (r - 8) g1 (rn_cl_at a ha) b hb (C.2.2.2.1 _ (rn_hw_mem hw)) (fun _ h9 => h9) hf (rn_cl_ty a ha b hb) hn hfit (by rw [g2]; exact hb) hd kk
  | true =>
    rw [hf] at hfin
    simp only [Bool.and_eq_true, decide_eq_true_eq] at hfin
    exact va_putF (D := D) (ci := a) (C := rn_cn a) (T := rn_T a) (N := rn_nf a) (Ts := rn_Wd) C.1 C.2.1 C.2.2.2.1 (fun w hw => List.mem_filter.mpr (rn_cl_in a ha w hw)) (rn_ty a) (rn_cl_ty a ha) (rn_cl_nm a ha) C.2.2.1 z1.1 z1.2.1 z1.2.2.1 z4 (r - 8) g1 (rn_cl_at a ha) b hb (C.2.2.2.1 _ (rn_hw_mem hw)) (fun _ h9 => h9) hf (C.2.2.2.2.1 hfin.1) hfin.2 (rn_cl_ty a ha b hb) hn hfit (by rw [g2]; exact hb) hd kk
theorem rn_si_ne {a b k j : Nat} {v : Int} (h : ¬ (b = a ∧ j = k)) : rn_gi (rn_si M a k v) b j = rn_gi M b j := by unfold rn_gi rn_si; simp only [if_neg h]
theorem rn_si_eq {a k : Nat} {v : Int} : rn_gi (rn_si M a k v) a k = v := by simp [rn_gi, rn_si]
theorem rn_si_gr {a b k j : Nat} {v : Int} : rn_gr (rn_si M a k v) b j = rn_gr M b j := rfl
theorem rn_sr_ne {a b k j : Nat} {v : Option Nat} (h : ¬ (b = a ∧ j = k)) : rn_gr (rn_sr M a k v) b j = rn_gr M b j := by unfold rn_gr rn_sr; simp only [if_neg h]
theorem rn_sr_eq {a k : Nat} {v : Option Nat} : rn_gr (rn_sr M a k v) a k = v := by simp [rn_gr, rn_sr]
theorem rn_sr_gi {a b k j : Nat} {v : Option Nat} : rn_gi (rn_sr M a k v) b j = rn_gi M b j := rfl
theorem rn_fv_cong {k r b : Nat} {M1 : rn_M} (h1 : rn_gi M1 r b = rn_gi M r b) (h2 : rn_gr M1 r b = rn_gr M r b) : rn_fv k M1 r b = rn_fv k M r b := by unfold rn_fv; split <;> simp [h1, h2]
theorem rn_i_put {idx a b t k cc : Nat} (hm : rn_mt y = some mt) (hd : decode mt.2.1 pc = .ok (.putfield idx, 3)) (hc : rn_chi mt pc (.putfield idx, pc + 3, a, b, t, k, cc, []) = true) (h : rn_put k st M b fun r M' t => rn_kd M r = cc ∧ rn_Snd l D A y (pc + 3) L t M' Q)
    (C : rn_Cx A p R s m args meth c mt) (hml : c.maxLocals = L.length) (hl : rn_lr (rn_lg mt) M.1.length ad L ls) (hs : rn_vs M.1.length ad st stk) (hz : rn_Dz D A R s mt ad tys ws M H locs cells slots) (E : rn_Ex l D A p e R s m args below meth c mt QQ ad M Q) : W p l e R s m args below meth c H locs cells slots QQ (F0 m pc ls stk) := by
  unfold rn_chi at hc
  simp only [Bool.and_eq_true, decide_eq_true_eq] at hc
  obtain ⟨⟨⟨⟨⟨⟨⟨-, rfl⟩, ha⟩, hb⟩, hk⟩, hw⟩, hty⟩, hfin⟩ := hc
  unfold rn_put at h
  split at h
  · split at h
    · rename_i x r t'
      obtain ⟨hkd, h⟩ := h
      obtain ⟨kx, stk1, rfl, hx, hs1⟩ := rn_vs_I hs
      obtain ⟨stk2, rfl, hr, hs2⟩ := rn_vs_R hs1
      have ety : rn_ty a b = .int := by revert hty; cases rn_ty a b <;> simp
      exact rn_i_putW (M1 := rn_si M r b x) hm hd ha hb hw hfin hr hkd (by rw [ety]; rfl) (by rw [ety]; rfl) rfl rfl (fun q hq j => ⟨rn_si_ne (fun z => hq z.1), rfl⟩) (fun b' hb' => rn_fv_cong (rn_si_ne (fun z => hb' z.2)) rfl) (by rw [← hk]; exact ⟨kx, rfl, by rw [rn_si_eq]; exact hx⟩) h C hml hl hs2 hz E
    · exact h.elim
  · split at h
    · rename_i x r t'
      obtain ⟨hx01, hkd, h⟩ := h
      obtain ⟨kx, stk1, rfl, hx, hs1⟩ := rn_vs_I hs
      obtain ⟨stk2, rfl, hr, hs2⟩ := rn_vs_R hs1
      have ety : rn_ty a b = .boolean := by revert hty; cases rn_ty a b <;> simp
      have ek : kx = 0 ∨ kx = 1 := by
        rcases hx01 with q | q
        · exact Or.inl (Int32.toInt_inj.mp (by rw [hx, q]; rfl))
        · exact Or.inr (Int32.toInt_inj.mp (by rw [hx, q]; rfl))
      exact rn_i_putW (M1 := rn_si M r b x) hm hd ha hb hw hfin hr hkd (by rw [ety]; rcases ek with q | q <;> subst q <;> rfl) (by rw [ety]; rcases ek with q | q <;> subst q <;> rfl) rfl rfl (fun q hq j => ⟨rn_si_ne (fun z => hq z.1), rfl⟩) (fun b' hb' => rn_fv_cong (rn_si_ne (fun z => hb' z.2)) rfl) (by rw [← hk]; exact ⟨kx, rfl, by rw [rn_si_eq]; exact hx⟩) h C hml hl hs2 hz E
    · exact h.elim
  · rename_i hk0 hk1
    split at h
    · rename_i v r t'
      obtain ⟨hkd, h⟩ := h
      obtain ⟨x, stk1, rfl, hx, hs1⟩ := rn_vs_c hs
      obtain ⟨stk2, rfl, hr, hs2⟩ := rn_vs_R hs1
      have e2 : rn_fk a b = 2 ∧ ((∃ n, rn_ty a b = .object n) ∨ ∃ q, rn_ty a b = .array q) := by
        have hk2 : k = 2 := by
          match k, hk0, hk1, hty with
          | 0, h, _, _ => exact (h rfl).elim
          | 1, _, h, _ => exact (h rfl).elim
          | 2, _, _, _ => rfl
          | n + 3, _, _, h => revert h; cases rn_ty a b <;> simp
        rw [← hk, hk2]
        rw [hk2] at hty
        refine ⟨rfl, ?_⟩
        revert hty
        cases rn_ty a b <;> simp
      have hv : x = .null ∨ ∃ q, x = .ref q := by
        cases v with
        | none => exact Or.inl hx
        | some q => exact Or.inr ⟨_, hx.2⟩
      refine rn_i_putW (M1 := rn_sr M r b v) hm hd ha hb hw hfin hr hkd ?_ ?_ rfl rfl (fun q hq j => ⟨rfl, rn_sr_ne (fun z => hq z.1)⟩) (fun b' hb' => rn_fv_cong rfl (rn_sr_ne (fun z => hb' z.2))) ?_ h C hml hl hs2 hz E
      · rcases e2.2 with ⟨n, q⟩ | ⟨n, q⟩ <;> rw [q] <;> rcases hv with q | ⟨z, q⟩ <;> subst q <;> rfl
      · rcases e2.2 with ⟨n, q⟩ | ⟨n, q⟩ <;> rw [q] <;> rcases hv with q | ⟨z, q⟩ <;> subst q <;> rfl
      · rw [e2.1]
        show rn_vr M.1.length ad (.inr (.inl (some (rn_gr (rn_sr M r b v) r b)))) x
        rw [rn_sr_eq]
        exact hx
    · exact h.elim
end RNI
end
section
theorem rn_df : ((List.range 11).all fun a => (List.range (rn_nf a)).all fun b => decide ((rn_fk a b = 2 ∧ defaultValue (rn_ty a b) = .null) ∨ ((rn_fk a b = 0 ∨ rn_fk a b = 1) ∧ defaultValue (rn_ty a b) = .int 0))) = true := by decide +kernel
theorem rn_df_at {a b : Nat} (ha : a < 11) (hb : b < rn_nf a) : (rn_fk a b = 2 ∧ defaultValue (rn_ty a b) = .null) ∨ ((rn_fk a b = 0 ∨ rn_fk a b = 1) ∧ defaultValue (rn_ty a b) = .int 0) :=
  of_decide_eq_true (List.all_eq_true.mp (List.all_eq_true.mp rn_df a (List.mem_range.mpr ha)) b (List.mem_range.mpr hb))
theorem rn_W_lt8 {tys : List (ClassId × FieldType)} {ad : Nat → Nat} {M : rn_M} {ws : va_W} {r : Nat} (h : rn_Ws tys ad M ws) (hr : r < M.1.length) (hk : 21 ≤ rn_kd M r ∧ rn_kd M r ≤ 24) : r < 8 := by
  rcases Nat.lt_or_ge r 8 with q | q
  · exact q
  · obtain ⟨el, g1, g2⟩ := rn_W_at h hr q
    unfold rn_el at g2
    split at g2
    · have := g2.1; have := g2.2.1; omega
    · have := g2.1; omega
    · obtain ⟨ci, g3, -⟩ := g2; omega
    · exact g2.elim
theorem rn_tnn {k : Int32} (h : 0 ≤ k.toInt) : ¬ k < 0 := by
  rw [rn_il]
  show ¬ k.toInt < (0 : Int32).toInt
  have : (0 : Int32).toInt = 0 := rfl
  omega
section RNA
variable {l : Launch} {D : va_G} {A : Nat → Prop} {p : Program} {e : Env} {R : Room} {s : State} {m : MethodId} {args : Array Value} {below : List Frame} {meth : Method} {c : Code} {H : Heap} {locs : List Loc} {cells slots : Nat} {QQ : State → Prop} {ls : Array Slot} {stk : List Value} {ad : Nat → Nat} {tys : List (ClassId × FieldType)} {ws : va_W} {mt : rn_Mt} {y pc : Nat} {L st : List rn_V} {M : rn_M} {Q : rn_Q}
theorem rn_i_iald (hm : rn_mt y = some mt) (hd : decode mt.2.1 pc = .ok (.iaload, 1)) (h : rn_stA st fun r i t => (rn_kd M r = 20 ∨ rn_kd M r = 21) ∧ rn_in M r i ∧ rn_Snd l D A y (pc + 1) L (.inl (rn_gi M r i.toNat) :: t) M Q)
    (C : rn_Cx A p R s m args meth c mt) (hml : c.maxLocals = L.length) (hl : rn_lr (rn_lg mt) M.1.length ad L ls) (hs : rn_vs M.1.length ad st stk) (hz : rn_Dz D A R s mt ad tys ws M H locs cells slots) (E : rn_Ex l D A p e R s m args below meth c mt QQ ad M Q) : W p l e R s m args below meth c H locs cells slots QQ (F0 m pc ls stk) := by
  obtain ⟨r, i, t', rfl, hkd, hin, hg⟩ := rn_stA_out h
  obtain ⟨k, stk1, rfl, rfl, hs1⟩ := rn_vs_I hs
  obtain ⟨stk2, rfl, hr, hs2⟩ := rn_vs_R hs1
  obtain ⟨z1, z2, z3, z4, z5, z6, z7⟩ := id hz
  rcases hkd with hkd | hkd
  · obtain ⟨h8, hlen, cA, f, t0, g1, g2, g3⟩ := rn_W_arr z1.2.2.2 hr hkd
    obtain ⟨i1, i2, i3⟩ := rn_in_vp hin hlen
    refine va_iald C.1 C.2.1 z1.1 z1.2.1 (r - 8) t0 g1 g2 i1 hd ?_
    exact rn_go0 hm hg C hml hl ⟨⟨_, rfl, by rw [i2]; exact g3 _ i3⟩, hs2⟩ hz E
  · obtain ⟨hlen, hT, hv⟩ := z2 r (rn_W_lt8 z1.2.2.2 hr (by omega)) hkd
    obtain ⟨i1, i2, i3⟩ := rn_in_vp hin hlen
    refine va_ti C.1 C.2.1 hT z4 i1 rfl hd ?_
    exact rn_go0 hm hg C hml hl ⟨⟨_, rfl, by rw [i2]; exact hv _ i3⟩, hs2⟩ hz E
theorem rn_i_alen (hm : rn_mt y = some mt) (hd : decode mt.2.1 pc = .ok (.arraylength, 1)) (h : rn_stR st fun r t => (rn_kd M r = 20 ∨ rn_kd M r = 21) ∧ rn_Snd l D A y (pc + 1) L (.inl (rn_ln M r) :: t) M Q)
    (C : rn_Cx A p R s m args meth c mt) (hml : c.maxLocals = L.length) (hl : rn_lr (rn_lg mt) M.1.length ad L ls) (hs : rn_vs M.1.length ad st stk) (hz : rn_Dz D A R s mt ad tys ws M H locs cells slots) (E : rn_Ex l D A p e R s m args below meth c mt QQ ad M Q) : W p l e R s m args below meth c H locs cells slots QQ (F0 m pc ls stk) := by
  obtain ⟨r, t', rfl, hkd, hg⟩ := rn_stR_out h
  obtain ⟨stk2, rfl, hr, hs2⟩ := rn_vs_R hs
  obtain ⟨z1, z2, z3, z4, z5, z6, z7⟩ := id hz
  have hn : ∀ n : Nat, n ≤ 100000 → (Int32.ofNat n).toInt = (n : Int) := fun n h => nI_toInt (n := n) (by omega)
  rcases hkd with hkd | hkd
  · obtain ⟨h8, hlen, cA, f, t0, g1, g2, g3⟩ := rn_W_arr z1.2.2.2 hr hkd
    refine va_alen C.1 C.2.1 z1.1 z1.2.1 (r - 8) t0 g1 g2 rfl hd ?_
    exact rn_go0 hm hg C hml hl ⟨⟨_, rfl, hn _ hlen⟩, hs2⟩ hz E
  · obtain ⟨hlen, hT, hv⟩ := z2 r (rn_W_lt8 z1.2.2.2 hr (by omega)) hkd
    refine va_tlen C.1 C.2.1 hT z4 rfl hd ?_
    exact rn_go0 hm hg C hml hl ⟨⟨_, rfl, hn _ hlen⟩, hs2⟩ hz E
theorem rn_i_iast {x i : Int} {r : Nat} {t' : List rn_V} (hm : rn_mt y = some mt) (hd : decode mt.2.1 pc = .ok (.iastore, 1)) (hkd : rn_kd M r = 20) (hin : rn_in M r i) (hg : rn_Snd l D A y (pc + 1) L t' (rn_si M r i.toNat x) Q)
    (C : rn_Cx A p R s m args meth c mt) (hml : c.maxLocals = L.length) (hl : rn_lr (rn_lg mt) M.1.length ad L ls) (hs : rn_vs M.1.length ad (.inl x :: .inl i :: .inr (.inl (some (some r))) :: t') stk) (hz : rn_Dz D A R s mt ad tys ws M H locs cells slots) (E : rn_Ex l D A p e R s m args below meth c mt QQ ad M Q) : W p l e R s m args below meth c H locs cells slots QQ (F0 m pc ls stk) := by
  obtain ⟨kx, stk0, rfl, rfl, hs0⟩ := rn_vs_I hs
  obtain ⟨k, stk1, rfl, rfl, hs1⟩ := rn_vs_I hs0
  obtain ⟨stk2, rfl, hr, hs2⟩ := rn_vs_R hs1
  obtain ⟨z1, z2, z3, z4, z5, z6, z7⟩ := id hz
  obtain ⟨h8, hlen, cA, f, t0, g1, g2, g3⟩ := rn_W_arr z1.2.2.2 hr hkd
  obtain ⟨i1, i2, i3⟩ := rn_in_vp hin hlen
  refine va_iast C.1 C.2.1 z1.1 z1.2.1 z1.2.2.1 z4 (r - 8) t0 g1 g2 i1 hd (fun H1 locs1 hP hD hS => ?_)
  refine rn_go1 hm hg C hml hl hs2 hz rfl rfl (fun q hq => ⟨fun j => rn_si_ne (fun z => by omega), fun j => rfl⟩) hP hD hS (rn_Ws_set z1.2.2.2 h8 hr rfl (fun q hq j => ⟨rn_si_ne (fun z => hq z.1), rfl⟩) ?_) E
  refine ⟨hkd, rfl, hlen, ⟨t0, g2⟩, fun j hj => ?_⟩
  rw [i2]
  by_cases e : j = k.toInt.toNat
  · subst e
    rw [pk_us, rn_si_eq]
  · rw [pk_un e, rn_si_ne (fun z => e z.2)]
    exact g3 j hj
theorem rn_i_aald (hm : rn_mt y = some mt) (hd : decode mt.2.1 pc = .ok (.aaload, 1)) (h : rn_stA st fun r i t => 30 ≤ rn_kd M r ∧ rn_in M r i ∧ rn_Snd l D A y (pc + 1) L (.inr (.inl (some (rn_gr M r i.toNat))) :: t) M Q)
    (C : rn_Cx A p R s m args meth c mt) (hml : c.maxLocals = L.length) (hl : rn_lr (rn_lg mt) M.1.length ad L ls) (hs : rn_vs M.1.length ad st stk) (hz : rn_Dz D A R s mt ad tys ws M H locs cells slots) (E : rn_Ex l D A p e R s m args below meth c mt QQ ad M Q) : W p l e R s m args below meth c H locs cells slots QQ (F0 m pc ls stk) := by
  obtain ⟨r, i, t', rfl, hkd, hin, hg⟩ := rn_stA_out h
  obtain ⟨k, stk1, rfl, rfl, hs1⟩ := rn_vs_I hs
  obtain ⟨stk2, rfl, hr, hs2⟩ := rn_vs_R hs1
  obtain ⟨z1, z2, z3, z4, z5, z6, z7⟩ := id hz
  obtain ⟨h8, hlen, ci, cA, f, t0, g0, gc, g1, g2, g3⟩ := rn_W_arq z1.2.2.2 hr hkd
  obtain ⟨i1, i2, i3⟩ := rn_in_vp hin hlen
  refine va_aldq C.1 C.2.1 z1.1 z1.2.1 (r - 8) t0 g1 g2 i1 hd ?_
  exact rn_go0 hm hg C hml hl ⟨by rw [i2]; exact g3 _ i3, hs2⟩ hz E
theorem rn_i_aast {i : Int} {r v : Nat} {t' : List rn_V} (hm : rn_mt y = some mt) (hd : decode mt.2.1 pc = .ok (.aastore, 1)) (hkd : 30 ≤ rn_kd M r) (hkv : rn_kd M v + 29 = rn_kd M r) (hin : rn_in M r i) (hg : rn_Snd l D A y (pc + 1) L t' (rn_sr M r i.toNat (some v)) Q)
    (C : rn_Cx A p R s m args meth c mt) (hml : c.maxLocals = L.length) (hl : rn_lr (rn_lg mt) M.1.length ad L ls) (hs : rn_vs M.1.length ad (.inr (.inl (some (some v))) :: .inl i :: .inr (.inl (some (some r))) :: t') stk) (hz : rn_Dz D A R s mt ad tys ws M H locs cells slots) (E : rn_Ex l D A p e R s m args below meth c mt QQ ad M Q) : W p l e R s m args below meth c H locs cells slots QQ (F0 m pc ls stk) := by
  obtain ⟨stk0, rfl, hv, hs0⟩ := rn_vs_R hs
  obtain ⟨k, stk1, rfl, rfl, hs1⟩ := rn_vs_I hs0
  obtain ⟨stk2, rfl, hr, hs2⟩ := rn_vs_R hs1
  obtain ⟨z1, z2, z3, z4, z5, z6, z7⟩ := id hz
  obtain ⟨h8, hlen, ci, cA, f, t0, g0, gc, g1, g2, g3⟩ := rn_W_arq z1.2.2.2 hr hkd
  obtain ⟨h8v, vs, f1, f2, f3⟩ := rn_W_obj z1.2.2.2 hv (ci := ci) (by omega) gc
  obtain ⟨i1, i2, i3⟩ := rn_in_vp hin hlen
  refine va_astq (r := (rn_cn ci, rn_T ci, rn_nf ci)) C.1 C.2.1 z1.1 z1.2.1 z1.2.2.1 z4 (r - 8) t0 (v - 8) ci g1 g2 f1 (rn_cl_at ci gc) i1 hd (fun H1 locs1 hP hD hS => ?_)
  refine rn_go1 hm hg C hml hl hs2 hz rfl rfl (fun q hq => ⟨fun j => rfl, fun j => rn_sr_ne (fun z => by omega)⟩) hP hD hS (rn_Ws_set z1.2.2.2 h8 hr rfl (fun q hq j => ⟨rfl, rn_sr_ne (fun z => hq z.1)⟩) ?_) E
  refine ⟨ci, g0, gc, rfl, hlen, ⟨t0, g2⟩, fun j hj => ?_⟩
  rw [i2]
  by_cases e : j = k.toInt.toNat
  · subst e
    rw [rn_sr_eq]
    simp only [va_up, if_pos]
    exact ⟨hv, rfl⟩
  · rw [rn_sr_ne (fun z => e z.2)]
    simp only [va_up, if_neg e]
    exact g3 j hj
theorem rn_i_new {idx a t : Nat} (hm : rn_mt y = some mt) (hd : decode mt.2.1 pc = .ok (.new idx, 3)) (ha : a < 11) (hal : rn_al mt = true) (hw : rn_hw t (.classLink mt.1.cls idx (rn_cn a)) = true) (hp : (match rn_cpl[a]? with | some (pa, pb) => rn_hw pa (.instantiable (rn_cn a) (rn_nf a)) && rn_hw pb (.initialized (rn_cn a)) | none => false) = true)
    (hb1 : 1 ≤ M.2.1.1) (hb2 : rn_nf a ≤ M.2.1.2) (hg : rn_Snd l D A y (pc + 3) L (rn_R M.1.length :: st) (rn_nw M (a + 1) (rn_nf a)) Q)
    (C : rn_Cx A p R s m args meth c mt) (hml : c.maxLocals = L.length) (hl : rn_lr (rn_lg mt) M.1.length ad L ls) (hs : rn_vs M.1.length ad st stk) (hz : rn_Dz D A R s mt ad tys ws M H locs cells slots) (E : rn_Ex l D A p e R s m args below meth c mt QQ ad M Q) : W p l e R s m args below meth c H locs cells slots QQ (F0 m pc ls stk) := by
  obtain ⟨z1, z2, z3, z4, z5, z6, z7⟩ := id hz
  have hb := z7 hal
  split at hp
  · simp only [Bool.and_eq_true] at hp
    refine va_new (D := D) (ci := a) (fs := (List.range (rn_nf a)).map fun j => defaultValue (rn_ty a j)) (C := rn_cn a) (T := rn_T a) (N := rn_nf a) (Ts := rn_Wd) C.1 C.2.1 C.2.2.2.1 (fun w hw => List.mem_filter.mpr (rn_cl_in a ha w hw)) (rn_ty a) (rn_cl_ty a ha) C.2.2.1 (C.2.2.2.1 _ (rn_hw_mem hw)) (C.2.2.2.1 _ (rn_hw_mem hp.1)) (C.2.2.2.1 _ (rn_hw_mem hp.2)) z1.1 z1.2.1 z1.2.2.1 z4 C.2.2.2.2.2.2.2 (rn_cl_at a ha) (fun j hj => by simp [vp_V, List.getD_eq_getElem?_getD, hj]) (by omega) (by omega) hd (fun q H1 hP hD hS => ?_)
    refine rn_go2 hm hg C hml hl hs hz hal hb1 hb2 z1.1 hP hD hS (fun t q h => ⟨t, h⟩) ?_ E
    refine ⟨rn_nw_kn.1, ha, by simp, fun b hb => ⟨defaultValue (rn_ty a b), by simp [hb], ?_⟩⟩
    rcases rn_df_at ha hb with ⟨q1, q2⟩ | ⟨q1, q2⟩
    · rw [q1, q2]
      show rn_vr _ _ (.inr (.inl (some (rn_gr (rn_nw M (a + 1) (rn_nf a)) M.1.length b)))) _
      rw [(rn_nw_gn b).2]
      rfl
    · rw [q2]
      have e : rn_fv (rn_fk a b) (rn_nw M (a + 1) (rn_nf a)) M.1.length b = .inl (rn_gi (rn_nw M (a + 1) (rn_nf a)) M.1.length b) := by rcases q1 with q | q <;> rw [q] <;> rfl
      rw [e, (rn_nw_gn b).1]
      exact ⟨0, rfl, rfl⟩
  · cases hp
theorem rn_i_newa {n : Int} {t' : List rn_V} (hm : rn_mt y = some mt) (hd : decode mt.2.1 pc = .ok (.newarray .int, 2)) (hal : rn_al mt = true) (hn0 : 0 ≤ n) (hn1 : n ≤ 100000)
    (hb1 : 1 ≤ M.2.1.1) (hb2 : n.toNat ≤ M.2.1.2) (hg : rn_Snd l D A y (pc + 2) L (rn_R M.1.length :: t') (rn_nw M 20 n.toNat) Q)
    (C : rn_Cx A p R s m args meth c mt) (hml : c.maxLocals = L.length) (hl : rn_lr (rn_lg mt) M.1.length ad L ls) (hs : rn_vs M.1.length ad (.inl n :: t') stk) (hz : rn_Dz D A R s mt ad tys ws M H locs cells slots) (E : rn_Ex l D A p e R s m args below meth c mt QQ ad M Q) : W p l e R s m args below meth c H locs cells slots QQ (F0 m pc ls stk) := by
  obtain ⟨k, stk1, rfl, rfl, hs1⟩ := rn_vs_I hs
  obtain ⟨z1, z2, z3, z4, z5, z6, z7⟩ := id hz
  have hb := z7 hal
  have ek : k.toNatClampNeg = k.toInt.toNat := rfl
  refine va_newa (D := D) (atype := .int) (ty := .int) (a0 := (k.toInt.toNat, .inl (fun _ => 0))) (N' := k.toInt.toNat) C.1 C.2.1 (C.2.2.2.1 _ rn_p_arr) rfl z1.1 z1.2.1 z1.2.2.1 z4 C.2.2.2.2.2.2.2 (fun cA => rfl) (rn_tnn hn0) ek (by show k.toInt.toNat * 4 ≤ _; omega) (by omega) (by omega) hd (fun q cA H1 hK hP hD hS => ?_)
  refine rn_go2 hm hg C hml hl hs1 hz hal hb1 hb2 hK hP hD hS (fun t q h => ⟨t, by rw [List.getElem?_append_left (List.getElem?_eq_some_iff.mp h).1]; exact h⟩) ?_ E
  refine ⟨rn_nw_kn.1, rn_nw_kn.2, by omega, ⟨tys.length, by simp⟩, fun j hj => ?_⟩
  rw [(rn_nw_gn j).1]
  rfl
theorem rn_i_newq {n : Int} {idx a t : Nat} {t' : List rn_V} (hm : rn_mt y = some mt) (hd : decode mt.2.1 pc = .ok (.anewarray idx, 3)) (hal : rn_al mt = true) (ha : a = 0 ∨ a = 3 ∨ a = 5 ∨ a = 8) (hw : rn_hw t (.classLink mt.1.cls idx (rn_cn a)) = true) (hn0 : 0 ≤ n) (hn1 : n ≤ 100000)
    (hb1 : 1 ≤ M.2.1.1) (hb2 : n.toNat ≤ M.2.1.2) (hg : rn_Snd l D A y (pc + 3) L (rn_R M.1.length :: t') (rn_nw M (a + 30) n.toNat) Q)
    (C : rn_Cx A p R s m args meth c mt) (hml : c.maxLocals = L.length) (hl : rn_lr (rn_lg mt) M.1.length ad L ls) (hs : rn_vs M.1.length ad (.inl n :: t') stk) (hz : rn_Dz D A R s mt ad tys ws M H locs cells slots) (E : rn_Ex l D A p e R s m args below meth c mt QQ ad M Q) : W p l e R s m args below meth c H locs cells slots QQ (F0 m pc ls stk) := by
  obtain ⟨k, stk1, rfl, rfl, hs1⟩ := rn_vs_I hs
  obtain ⟨z1, z2, z3, z4, z5, z6, z7⟩ := id hz
  have hb := z7 hal
  have ek : k.toNatClampNeg = k.toInt.toNat := rfl
  refine va_newq (D := D) (C := rn_cn a) (N' := k.toInt.toNat) C.1 C.2.1 C.2.2.1 (C.2.2.2.1 _ (rn_hw_mem hw)) (z3.2.2.2 a ha) z1.1 z1.2.1 z1.2.2.1 z4 C.2.2.2.2.2.2.2 (rn_tnn hn0) ek (by omega) (by omega) (by omega) hd (fun q cA H1 hK hP hD hS => ?_)
  refine rn_go2 hm hg C hml hl hs1 hz hal hb1 hb2 hK hP hD hS (fun t q h => ⟨t, by rw [List.getElem?_append_left (List.getElem?_eq_some_iff.mp h).1]; exact h⟩) ?_ E
  refine ⟨a, rn_nw_kn.1, by omega, rn_nw_kn.2, by omega, ⟨tys.length, by simp⟩, fun j hj => ?_⟩
  rw [(rn_nw_gn j).2]
  rfl
theorem rn_cpy_in {r d sp dp n j : Nat} (h : dp ≤ j ∧ j < dp + n) : rn_gi (rn_cpy M r d sp dp n) d j = rn_gi M r (sp + (j - dp)) := by
  simp [rn_gi, rn_cpy, h]
theorem rn_cpy_out {r d b sp dp n j : Nat} (h : ¬ (b = d ∧ dp ≤ j ∧ j < dp + n)) : rn_gi (rn_cpy M r d sp dp n) b j = rn_gi M b j := by
  unfold rn_gi rn_cpy; simp only [if_neg h]
theorem rn_cpy_gr {r d b sp dp n j : Nat} : rn_gr (rn_cpy M r d sp dp n) b j = rn_gr M b j := rfl
theorem rn_i_copy {n dp sp : Int} {d r idx t : Nat} {t' : List rn_V} (hm : rn_mt y = some mt) (hd : decode mt.2.1 pc = .ok (.invokestatic idx, 3)) (hw : rn_hw t (.methodLink mt.1.cls idx arraycopyName) = true) (hf : 1 ≤ rn_fr mt) (hlo : 38 ≤ rn_lw mt) (ht8 : rn_sz t' ≤ 8)
    (hk1 : rn_kd M r = 20) (hk2 : rn_kd M d = 20) (h0 : 0 ≤ n) (h1 : 0 ≤ dp) (h2 : 0 ≤ sp) (h3 : sp + n ≤ (rn_ln M r : Int)) (h4 : dp + n ≤ (rn_ln M d : Int)) (hg : rn_Snd l D A y (pc + 3) L t' (rn_cpy M r d sp.toNat dp.toNat n.toNat) Q)
    (C : rn_Cx A p R s m args meth c mt) (hml : c.maxLocals = L.length) (hl : rn_lr (rn_lg mt) M.1.length ad L ls) (hs : rn_vs M.1.length ad (.inl n :: .inl dp :: .inr (.inl (some (some d))) :: .inl sp :: .inr (.inl (some (some r))) :: t') stk) (hz : rn_Dz D A R s mt ad tys ws M H locs cells slots) (E : rn_Ex l D A p e R s m args below meth c mt QQ ad M Q) : W p l e R s m args below meth c H locs cells slots QQ (F0 m pc ls stk) := by
  obtain ⟨kn, stk0, rfl, rfl, hs0⟩ := rn_vs_I hs
  obtain ⟨kd, stk1, rfl, rfl, hs1⟩ := rn_vs_I hs0
  obtain ⟨stk2, rfl, hrd, hs2⟩ := rn_vs_R hs1
  obtain ⟨kp, stk3, rfl, rfl, hs3⟩ := rn_vs_I hs2
  obtain ⟨stk4, rfl, hrs, hs4⟩ := rn_vs_R hs3
  obtain ⟨z1, z2, z3, z4, z5, z6, z7⟩ := id hz
  obtain ⟨a8, alen, cA, f, t0, a1, a2, a3⟩ := rn_W_arr z1.2.2.2 hrs hk1
  obtain ⟨b8, blen, cB, g, t1, b1, b2, b3⟩ := rn_W_arr z1.2.2.2 hrd hk2
  have e1 : kn.toNatClampNeg = kn.toInt.toNat := rfl
  have e2 : kd.toNatClampNeg = kd.toInt.toNat := rfl
  have e3 : kp.toNatClampNeg = kp.toInt.toNat := rfl
  have hsum := rn_vs_sum hs4
  refine va_copyi C.1 C.2.1 (by rw [hml]; obtain ⟨lv, hv, -⟩ := hl; exact hv.1.symm) C.2.2.1 (C.2.2.2.1 _ (rn_hw_mem hw)) (C.2.2.2.1 _ rn_p_nat) (C.2.2.2.1 _ rn_p_cst) (C.2.2.2.1 _ rn_p_cin) z1.1 z1.2.1 z1.2.2.1 z4 (r - 8) (d - 8) t0 t1 (ty := .int) a1 b1 a2 b2 rfl (rn_tnn h2) (rn_tnn h1) (rn_tnn h0) (by rw [e1, e3]; omega) (by rw [e1, e2]; omega) (fun i hi => rfl) (Nat.le_trans hf C.2.2.2.2.2.1) (by rw [hsum]; have := rn_nfw; have := C.2.2.2.2.2.2.1; omega) hd (fun H1 locs1 hP hD hS => ?_)
  refine rn_go1 hm hg C hml hl hs4 hz rfl rfl (fun q hq => ⟨fun j => rn_cpy_out (fun z => by omega), fun j => rfl⟩) hP hD hS (rn_Ws_set z1.2.2.2 b8 hrd rfl (fun q hq j => ⟨rn_cpy_out (fun z => hq z.1), rfl⟩) ?_) E
  refine ⟨hk2, rfl, blen, ⟨t1, b2⟩, fun j hj => ?_⟩
  rw [e1, e2, e3]
  by_cases e : kd.toInt.toNat ≤ j ∧ j < kd.toInt.toNat + kn.toInt.toNat
  · rw [rn_cpy_in e, pk_cpy_in e.1 e.2]
    exact a3 _ (by omega)
  · rw [rn_cpy_out (fun z => e z.2), pk_cpy_out (by omega)]
    exact b3 j hj
end RNA
end
section
theorem rn_good {X : List Cond} (h : ∀ w ∈ X, w ∈ rn_Wd) : GoodIn rn_Wd X := fun w hw => rn_Wd_good w (h w hw)
def rn_rm (mz : rn_Mt) : Room := { frames := rn_fr mz, cells := rn_mc mz, slots := rn_ms mz, locals := rn_lw mz }
def rn_ws (mz : rn_Mt) : List Cond := Cond.code mz.1 mz.2.1 mz.2.2.1 mz.2.2.2.1 :: rn_Wd
def rn_Pc (D : va_G) (A : Nat → Prop) (ad : Nat → Nat) (tys : List (ClassId × FieldType)) (ws : va_W) (M : rn_M) (H : Heap) (vals : List Value) : Array Value → State → Prop := fun a U => a = vals.toArray ∧ U.heap = H ∧ rn_W D A tys ws ad M U U.heap ∧ rn_Ev ad M A U U.heap ∧ rn_Ef ad A U U.heap ∧ ∀ q, U.heap.size ≤ q → A q
def rn_rr (n : Nat) (ad : Nat → Nat) (v : Option rn_V) (r : Option Value) : Prop := match v, r with
  | none, none => True
  | some v, some x => rn_vr n ad v x
  | _, _ => False
def rn_Qc (D : va_G) (A : Nat → Prop) (al : Bool) (ad : Nat → Nat) (M : rn_M) (Q : rn_Q) : Array Value → State → Outcome → State → Prop := fun _ st o t =>
  (∃ (v : Option rn_V) (M' : rn_M) (ad' : Nat → Nat) (tys' : List (ClassId × FieldType)) (ws' : va_W) (r : Option Value), Q v M' ∧ o = .returned r ∧ rn_rr M'.1.length ad' v r ∧ rn_xt M M' ad ad' ∧ (al = false → M'.2.1 = M.2.1) ∧ rn_W D A tys' ws' ad' M' t t.heap) ∧ va_F A st t
theorem rn_sl_len {n : Nat} {ad : Nat → Nat} : ∀ {vs : List rn_V} {xs : List Value}, rn_n2 vs = true → rn_vs n ad vs xs → (lg_sl xs).length = xs.length
  | [], [], _, _ => rfl
  | _ :: vs, x :: xs, n2, h => by
    have e : lg_sl (x :: xs) = .val x :: lg_sl xs := by
      show (if x.category = 2 then [Slot.val x, Slot.second] else [Slot.val x]) ++ lg_sl xs = _
      rw [if_neg (by rw [rn_vr_cat h.1 (rn_n2_c n2).1]; decide)]
      rfl
    rw [e, List.length_cons, List.length_cons, rn_sl_len (rn_n2_c n2).2 h.2]
theorem rn_args_mem {n : Nat} {ad : Nat → Nat} : ∀ {vs : List rn_V} {xs : List Value} (k : Nat), rn_n2 vs = true → rn_vs n ad vs xs → ∀ (i : Nat) (v : rn_V), vs[i]? = some v → ∃ x, (k + i, x) ∈ lv_args k xs ∧ rn_vr n ad v x
  | [], [], _, _, _, i, v, h => by simp at h
  | w :: vs, x :: xs, k, n2, h, i, v, hi => by
    have e : lv_args k (x :: xs) = (k, x) :: lv_args (k + 1) xs := by
      show (k, x) :: lv_args (if x.category = 2 then k + 2 else k + 1) xs = _
      rw [if_neg (by rw [rn_vr_cat h.1 (rn_n2_c n2).1]; decide)]
    rw [e]
    cases i with
    | zero =>
      simp only [List.getElem?_cons_zero, Option.some.injEq] at hi
      subst hi
      exact ⟨x, List.mem_cons_self, h.1⟩
    | succ i =>
      rw [List.getElem?_cons_succ] at hi
      obtain ⟨z, h1, h2⟩ := rn_args_mem (k + 1) (rn_n2_c n2).2 h.2 i v hi
      refine ⟨z, List.mem_cons_of_mem _ ?_, h2⟩
      rw [show k + (i + 1) = k + 1 + i by omega]
      exact h1
theorem rn_lr_entry {b : Bool} {n ml : Nat} {ad : Nat → Nat} {as : List rn_V} {vals : List Value} (n2 : rn_n2 as = true) (h : rn_vs n ad as vals) (hl : as.length ≤ ml) : rn_lr b n ad (rn_pad ml as) ((lg_sl vals ++ List.replicate (ml - (lg_sl vals).length) Slot.unset).toArray) := by
  have e1 : (lg_sl vals).length = as.length := by rw [rn_sl_len n2 h, rn_vs_len h]
  have e2 : (rn_pad ml as).length = ml := by unfold rn_pad; simp; omega
  refine ⟨lv_args 0 vals, by rw [e2]; exact lv_entry vals (by omega), fun i v hi hv => ?_, fun _ v hv => ?_⟩
  rotate_left
  · unfold rn_pad at hv
    rcases List.mem_append.mp hv with q | q
    · exact rn_n2_to n2 v q
    · rw [(List.mem_replicate.mp q).2]; rfl
  unfold rn_pad at hi
  rcases Nat.lt_or_ge i as.length with g | g
  · rw [List.getElem?_append_left g] at hi
    obtain ⟨x, h1, h2⟩ := rn_args_mem 0 n2 h i v hi
    rw [Nat.zero_add] at h1
    exact ⟨x, h1, h2⟩
  · rw [List.getElem?_append_right g] at hi
    have := List.mem_of_getElem? hi
    rw [List.mem_replicate] at this
    exact absurd this.2 hv
theorem rn_narrow {ty : FieldType} {k : Int32} (h : rn_rk (some ty) ≤ 3) (hk : rn_okr (rn_rk (some ty)) k.toInt) : narrow ty (.int k) = .int k := by
  cases ty
  case int => rfl
  case boolean =>
    have e : k = 0 ∨ k = 1 := by
      rcases (show k.toInt = 0 ∨ k.toInt = 1 from hk) with q | q
      · exact Or.inl (Int32.toInt_inj.mp q)
      · exact Or.inr (Int32.toInt_inj.mp q)
    rcases e with q | q <;> subst q <;> rfl
  case byte =>
    have e : k = 0 := Int32.toInt_inj.mp (show k.toInt = 0 from hk)
    subst e
    rfl
  case char =>
    obtain ⟨h1, h2⟩ := (show 0 ≤ k.toInt ∧ k.toInt ≤ 65535 from hk)
    obtain ⟨j, hj, rfl⟩ := nI_of (rn_tnn h1)
    rw [nI_toInt hj] at h2
    exact (pk_charN (by omega)).1
  all_goals (exfalso; revert h; simp [rn_rk])
/-- a method's contract out of what the abstract machine says of it -/
theorem rn_met {l : Launch} {D : va_G} {A : Nat → Prop} {z : Nat} {mz : rn_Mt} {as : List rn_V} {M : rn_M} {Q : rn_Q} {ad : Nat → Nat} {tys : List (ClassId × FieldType)} {ws : va_W} {H : Heap} {vals : List Value} (hm : rn_mt z = some mz) (hpl : plainName mz.1.cls = true) (hn2 : rn_n2 as = true) (hla : as.length ≤ mz.2.2.1) (hk : rn_Snd l D A z 0 (rn_pad mz.2.2.1 as) [] M Q) (hv : rn_vs M.1.length ad as vals) (hb : rn_al mz = true → M.2.1 = (rn_mc mz, rn_ms mz)) :
    Met l mz.1 (rn_ws mz) (rn_rm mz) (rn_Pc D A ad tys ws M H vals) (rn_Qc D A (rn_al mz) ad M Q) (rn_mc mz) (rn_ms mz) A := by
  refine Met.ofW (cc := mz.2.1) (maxL := mz.2.2.1) (ret := mz.2.2.2.1) hpl rfl ?_
  intro p e s m args below meth c s₁ B hml hP
  obtain ⟨rfl, hH, hW, hEv, hEf, hA⟩ := hP
  have hts : ∀ w ∈ rn_ws mz, w.before vals.toArray s = true := atoms_spec (ws := rn_ws mz) B.pre
  have hr := B.returns
  have hlocks := B.notSynchronized
  rw [lg_entry_eq]
  have e2 : (rn_pad mz.2.2.1 as).length = mz.2.2.1 := by unfold rn_pad; simp; omega
  refine hk mz hm p e _ s m _ below meth c s.heap [] 0 0 _ _ [] ad tys ws ⟨B.exec, B.bytes, findClass_of_methodNamed B.named, fun w hw => hts w (List.mem_cons_of_mem _ hw), fun q => by rw [← q]; exact (name_of_methodNamed B.named B.method).1, Nat.le_refl _, Nat.le_refl _, hA⟩ (by rw [hml, e2]) (rn_lr_entry hn2 hv hla) trivial ⟨hW, hEv, hEf, va_S.rf, Nat.zero_le _, Nat.zero_le _, fun q => by rw [hb q, Nat.zero_add, Nat.zero_add]; exact ⟨Nat.le_refl _, Nat.le_refl _⟩⟩ ?_
  intro r M' ad' tys' ws' H' locs' cells' slots' pc' ls' stk' hq hx hb2 hR hW' hS' hc1 hc2
  refine W.widen (k := rn_mc mz) (n := rn_ms mz) hc1 hc2 ?_
  have fin : ∀ (rv : Option Value), rn_rr M'.1.length ad' r rv → ∀ t : State, t.heap = H' → s.WarmedH t.vm → rn_Qc D A (rn_al mz) ad M Q vals.toArray s (.returned rv) t := by
    intro rv hrv t ht hw
    exact ⟨⟨r, M', ad', tys', ws', rv, hq, rfl, hrv, hx, hb2, by rw [ht]; exact rn_W_moved hw.alike hW'⟩, hS'.F ht⟩
  match r, hR, fin with
  | none, hR, fin =>
    obtain ⟨hd, hk2, rfl⟩ := hR
    have er : mz.2.2.2.1 = none := by
      revert hk2
      rcases mz.2.2.2.1 with _ | ty
      · intro _; rfl
      · cases ty <;> simp [rn_rk]
    exact W.vret B.exec B.bytes (by rw [hr, er]) (fin none trivial) hS'.2.2 hd hlocks
  | some (.inl x), hR, fin =>
    obtain ⟨hd, hk2, hok, k, rfl, hkx⟩ := hR
    obtain ⟨ty, er⟩ : ∃ ty, mz.2.2.2.1 = some ty := by
      revert hk2
      rcases mz.2.2.2.1 with _ | ty
      · simp [rn_rk]
      · intro _; exact ⟨ty, rfl⟩
    rw [er] at hk2 hok
    exact W.zret (ty := ty) B.exec B.bytes (by rw [hr, er]) (rn_narrow hk2 (by rw [hkx]; exact hok)) (fin (some (.int k)) ⟨k, rfl, hkx⟩) hS'.2.2 hd hlocks
  | some (.inr (.inr g)), hR, fin =>
    obtain ⟨hd, hk2, rfl⟩ := hR
    have er : mz.2.2.2.1 = some .long := by
      revert hk2
      rcases mz.2.2.2.1 with _ | ty
      · simp [rn_rk]
      · cases ty <;> simp [rn_rk]
    exact W.lret B.exec B.bytes (by rw [hr, er]) (fin (some (.long g)) rfl) hS'.2.2 hd hlocks
  | some (.inr (.inl v)), hR, fin =>
    obtain ⟨hd, hk2, zv, rfl, hv2, hn⟩ := hR
    obtain ⟨n, er⟩ : ∃ n, mz.2.2.2.1 = some (.object n) := by
      revert hk2
      rcases mz.2.2.2.1 with _ | ty
      · simp [rn_rk]
      · cases ty <;> simp [rn_rk]
    exact W.aret (rt := .object n) B.exec B.bytes (by rw [hr, er]) (Or.inl ⟨n, rfl⟩) hn (fin (some zv) hv2) hS'.2.2 hd hlocks
theorem rn_Pc_blind {D : va_G} {A : Nat → Prop} {ad : Nat → Nat} {tys : List (ClassId × FieldType)} {ws : va_W} {M : rn_M} {H : Heap} {vals : List Value} : FrameBlind (rn_Pc D A ad tys ws M H vals) := by
  intro a U g mk h
  obtain ⟨h1, h2, h3, h4, h5, h6⟩ := h
  have ha : U.vm.Alike (U.calling g mk a).vm := Vm.Alike.refl U.vm
  exact ⟨h1, h2, rn_W_moved ha h3, rn_Ev_moved ha h4, (show rn_Ef ad A (U.calling g mk a) U.heap from rn_Ef_same (u := U) (U := U.calling g mk a) rfl h5), h6⟩
section RNC
variable {l : Launch} {D : va_G} {A : Nat → Prop} {p : Program} {e : Env} {R : Room} {s : State} {m : MethodId} {args : Array Value} {below : List Frame} {meth : Method} {c : Code} {H : Heap} {locs : List Loc} {cells slots : Nat} {QQ : State → Prop} {ls : Array Slot} {stk : List Value} {ad : Nat → Nat} {tys : List (ClassId × FieldType)} {ws : va_W} {mt : rn_Mt} {y pc : Nat} {L st : List rn_V} {M : rn_M} {Q : rn_Q}
theorem rn_Pc_at {vals : List Value} {Mz : rn_M} (C : rn_Cx A p R s m args meth c mt) (hz : rn_Dz D A R s mt ad tys ws M H locs cells slots) (h1 : Mz.1 = M.1) (h2 : Mz.2.2 = M.2.2) : ∀ U : State, U.heap = H → s.WarmedH U.vm → rn_Pc D A ad tys ws Mz H vals vals.toArray U := by
  intro U hU hW
  obtain ⟨z1, z2, z3, z4, z5, z6, z7⟩ := hz
  have e : Mz = (M.1, Mz.2.1, M.2.2) := by rw [← h1, ← h2]
  rw [e]
  refine ⟨rfl, hU, ?_, ?_, ?_, fun q hq => C.2.2.2.2.2.2.2 q (Nat.le_trans z4.1 (by rw [← hU]; exact hq))⟩
  · rw [hU]; exact rn_W_moved hW.alike z1
  · rw [hU]; exact rn_Ev_moved hW.alike (rn_Ev_kept z2 z4.2.1)
  · rw [hU]; exact rn_Ef_warm hW (rn_Ef_kept z3 z4.2.1)
/-- behind a call -/
theorem rn_after {mc ms x1 x2 : Nat} {al : Bool} {Mz : rn_M} {Qz : rn_Q} {a : Array Value} {t' : List rn_V} {rest : List Value} {g : rn_M → rn_M} (hm : rn_mt y = some mt) (hr : va_Run p l e R s m args below meth c H locs cells slots mc ms (F0 m pc ls stk) rest (rn_Qc D A al ad Mz Qz a) A)
    (hMz : Mz.1 = M.1 ∧ Mz.2.2 = M.2.2) (hg1 : ∀ M', (g M').1 = M'.1 ∧ (g M').2.2 = M'.2.2) (hQz : ∀ v M', Qz v M' → rn_Snd l D A y (pc + 3) L (v.toList ++ t') (g M') Q)
    (hgb : ∀ M', (al = false → M'.2.1 = Mz.2.1) → (rn_al mt = false → (g M').2.1 = M.2.1) ∧ (rn_al mt = true → cells + mc + (g M').2.1.1 ≤ R.cells ∧ slots + ms + (g M').2.1.2 ≤ R.slots)) (hcc : cells + mc ≤ R.cells ∧ slots + ms ≤ R.slots)
    (C : rn_Cx A p R s m args meth c mt) (hml : c.maxLocals = L.length) (hl : rn_lr (rn_lg mt) M.1.length ad L ls) (hs : rn_vs M.1.length ad t' rest) (hz : rn_Dz D A R s mt ad tys ws M H locs cells slots) (E : rn_Ex l D A p e R s m args below meth c mt QQ ad M Q) : W p l e R s m args below meth c H locs cells slots QQ (F0 m pc ls stk) := by
  intro T hT X
  obtain ⟨v, st₀, t, T', Lc, h0, X', hL, e1, e2, ⟨⟨rv, M1, ad1, tys1, ws1, r, hq, hv, hrr, hx, hb, hW1⟩, hz1, hk1⟩, stp⟩ := hr T hT X
  cases hv
  rw [h0] at hz1 hk1
  obtain ⟨z1, z2, z3, z4, z5, z6, z7⟩ := hz
  have hxM : rn_xt M (g M1) ad ad1 := by
    obtain ⟨f1, f2, f3⟩ := hx
    rw [hMz.1] at f1 f2
    refine ⟨by rw [(hg1 M1).1]; exact f1, f2, fun q hq => ?_⟩
    obtain ⟨g1, g2, g3, g4⟩ := f3 q hq
    unfold rn_kd rn_ln rn_gi rn_gr at *
    rw [(hg1 M1).1, (hg1 M1).2]
    rw [hMz.1, hMz.2] at *
    exact ⟨g1, g2, g3, g4⟩
  have h8 : 8 ≤ M.1.length := by have := z1.2.2.2.1; omega
  have eg : g M1 = (M1.1, (g M1).2.1, M1.2.2) := by rw [← (hg1 M1).1, ← (hg1 M1).2]
  have hWg : rn_W D A tys1 ws1 ad1 (g M1) s t.heap := by
    have := rn_W_moved (X'.warmed.alike.symm) (by rw [e2]; exact rn_W_moved (Vm.Alike.refl _) hW1 : rn_W D A tys1 ws1 ad1 M1 (t.setVm T'.vm) t.heap)
    rw [eg]
    exact this
  have hlen : (g M1).1.length = M1.1.length := by rw [(hg1 M1).1]
  have hgb2 := hgb M1 hb
  have hS1 : va_S A s.heap T'.heap (locs ++ Lc) := ⟨Nat.le_trans z4.1 (by rw [e1]; exact hz1), fun q h1 h2 => by rw [e1, hk1 q (Nat.lt_of_lt_of_le h1 z4.1) h2]; exact z4.2.1 q h1 h2, fun q hq => by
    rcases List.mem_append.mp hq with h | h
    · exact z4.2.2 q h
    · exact hL q h⟩
  have hst : rn_vs (g M1).1.length ad1 (rv.toList ++ t') (v.toList ++ rest) := by
    refine rn_vs_app ?_ (rn_vs_ext hxM.1 hxM.2.1 hs)
    rw [hlen]
    match rv, v, hrr with
    | none, none, _ => trivial
    | some _, some _, h => exact ⟨h, trivial⟩
  obtain ⟨t2, a1, b1⟩ := hQz rv M1 hq mt hm p e R s m args below meth c T'.heap (locs ++ Lc) (cells + mc) (slots + ms) QQ ls _ ad1 tys1 ws1 C hml (rn_lr_ext hxM.1 hxM.2.1 hl) hst ⟨by rw [e1]; exact hWg, rn_Ev_xt h8 hxM z2, rn_Ef_xt h8 hxM z3, hS1, hcc.1, hcc.2, hgb2.2⟩ (rn_Ex_xt hxM hgb2.1 E) T' rfl X'
  exact ⟨t2, stp t2 a1, b1⟩
end RNC
end
section
theorem rn_mcs_eq {z : Nat} {mz : rn_Mt} (h : rn_mt z = some mz) : rn_mcs z = (rn_mc mz, rn_ms mz) := by unfold rn_mcs; rw [h]; rfl
theorem rn_ml_eq {z : Nat} {mz : rn_Mt} (h : rn_mt z = some mz) : rn_ml z = mz.2.2.1 := by unfold rn_ml; rw [h]
theorem rn_chc_out {mt : rn_Mt} {kd z b k t idx : Nat} {nst : Bool} (h : rn_chc mt kd z b k nst t idx = true) : ∃ (mz : rn_Mt) (pc pd : Nat), rn_mt z = some mz ∧ Cond.code mz.1 mz.2.1 mz.2.2.1 mz.2.2.2.1 ∈ rn_Wd ∧ Cond.initialized mz.1.cls ∈ rn_Wd ∧
    (match (generalizing := false) kd with
      | 0 => rn_hw pc (.instanceMethod mz.1) && rn_hw pd (.selects mz.1.cls mz.1 mz.1)
      | 1 => rn_hw pc (.static mz.1)
      | _ => rn_hw pc (.instanceMethod mz.1) && decide (mz.1.name = "<init>") && decide (mz.2.2.2.1 = none)) = true ∧
    (match (generalizing := false) nst with | true => rn_hn t (.methodLinkNest mt.1.cls idx mz.1 "RiverNames") | false => rn_hw t (.methodLink mt.1.cls idx mz.1)) = true ∧
    (mz.1.cls ≠ "java/lang/invoke/MethodHandle" ∧ mz.1.cls ≠ "java/lang/invoke/VarHandle") ∧ (parseMethodDescriptor mz.1.desc).map (fun d => d.parameters.length) = some (match (generalizing := false) kd with | 1 => b | _ => b - 1) ∧ (1 ≤ b ∨ kd = 1) ∧
    rn_fr mz + 1 ≤ rn_fr mt ∧ 8 + (mz.2.2.1 + 11) + rn_lw mz ≤ rn_lw mt ∧ (match (generalizing := false) k with | 4 => rn_al mt | _ => decide (rn_al mz = false) && decide (rn_mc mz = 0) && decide (rn_ms mz = 0)) = true ∧ plainName mz.1.cls = true ∧ b ≤ mz.2.2.1 := by
  unfold rn_chc at h
  split at h
  · rename_i mz kz pa pb pc pd h1 h2
    rw [Bool.and_eq_true, Bool.and_eq_true, Bool.and_eq_true, Bool.and_eq_true, Bool.and_eq_true, Bool.and_eq_true, Bool.and_eq_true, Bool.and_eq_true, Bool.and_eq_true, Bool.and_eq_true, Bool.and_eq_true, Bool.and_eq_true] at h
    obtain ⟨⟨⟨⟨⟨⟨⟨⟨⟨⟨⟨⟨g0, g1⟩, g2⟩, g3⟩, g4⟩, g5⟩, g6⟩, g7⟩, g8⟩, g9⟩, g10⟩, g11⟩, g12⟩ := h
    rw [decide_eq_true_eq] at g0 g6 g7 g8 g9 g12
    unfold rn_plain at g5
    rw [Bool.and_eq_true, decide_eq_true_eq, decide_eq_true_eq] at g5
    rw [Bool.or_eq_true] at g1
    exact ⟨mz, pc, pd, h1, g1.elim (fun q => rn_big_in h1 q) rn_hw_mem, rn_hw_mem g2, g3, g4, g5, g6, g7, g8, g9, g10, g11, g12⟩
  · cases h
section RNV
variable {l : Launch} {D : va_G} {A : Nat → Prop} {p : Program} {e : Env} {R : Room} {s : State} {m : MethodId} {args : Array Value} {below : List Frame} {meth : Method} {c : Code} {H : Heap} {locs : List Loc} {cells slots : Nat} {QQ : State → Prop} {ls : Array Slot} {stk : List Value} {ad : Nat → Nat} {tys : List (ClassId × FieldType)} {ws : va_W} {mt : rn_Mt} {y pc : Nat} {L st : List rn_V} {M : rn_M} {Q : rn_Q}
theorem rn_cal_go {z k : Nat} {mz : rn_Mt} {as : List rn_V} {vals rest : List Value} {t' : List rn_V} (hm : rn_mt y = some mt) (hmz : rn_mt z = some mz) (hpl : plainName mz.1.cls = true) (hn2 : rn_n2 as = true) (hla : as.length ≤ mz.2.2.1)
    (hkal : (match k with | 4 => rn_al mt | _ => decide (rn_al mz = false) && decide (rn_mc mz = 0) && decide (rn_ms mz = 0)) = true)
    (hcal : rn_cal k z (rn_mcs z).1 (rn_mcs z).2 as M (fun z as M' Q' => rn_Snd l D A z 0 (rn_pad (rn_ml z) as) [] M' Q') fun v M' => rn_Snd l D A y (pc + 3) L (v.toList ++ t') M' Q) (hvals : rn_vs M.1.length ad as vals)
    (hrun : ∀ (Pc : Array Value → State → Prop) (Qc : Array Value → State → Outcome → State → Prop) (free : Addr → Prop), Met l mz.1 (rn_ws mz) (rn_rm mz) Pc Qc (rn_mc mz) (rn_ms mz) free → FrameBlind Pc → (∀ U : State, U.heap = H → s.WarmedH U.vm → Pc vals.toArray U) → (cells + rn_mc mz ≤ R.cells ∧ slots + rn_ms mz ≤ R.slots) → va_Run p l e R s m args below meth c H locs cells slots (rn_mc mz) (rn_ms mz) (F0 m pc ls stk) rest (Qc vals.toArray) free)
    (C : rn_Cx A p R s m args meth c mt) (hml : c.maxLocals = L.length) (hl : rn_lr (rn_lg mt) M.1.length ad L ls) (hs : rn_vs M.1.length ad t' rest) (hz : rn_Dz D A R s mt ad tys ws M H locs cells slots) (E : rn_Ex l D A p e R s m args below meth c mt QQ ad M Q) : W p l e R s m args below meth c H locs cells slots QQ (F0 m pc ls stk) := by
  rw [rn_mcs_eq hmz] at hcal
  obtain ⟨z1, z2, z3, z4, z5, z6, z7⟩ := id hz
  by_cases hk4 : k = 4
  · subst hk4
    obtain ⟨hb1, hb2, hC⟩ := hcal
    rw [rn_ml_eq hmz] at hC
    have hal : rn_al mt = true := hkal
    have hz7 := z7 hal
    have hb1' : rn_mc mz ≤ M.2.1.1 := hb1
    have hb2' : rn_ms mz ≤ M.2.1.2 := hb2
    refine rn_after (M := M) (x1 := 0) (x2 := 0) (al := rn_al mz) (Mz := rn_sb M (rn_mc mz) (rn_ms mz)) (g := fun M' => rn_sb M' (M.2.1.1 - rn_mc mz) (M.2.1.2 - rn_ms mz)) (t' := t') hm (hrun _ _ _ (rn_met (ad := ad) (tys := tys) (ws := ws) (H := H) hmz hpl hn2 hla hC hvals (fun _ => rfl)) rn_Pc_blind (rn_Pc_at C hz rfl rfl) ⟨by omega, by omega⟩) ⟨rfl, rfl⟩ (fun _ => ⟨rfl, rfl⟩) (fun _ _ q => q) (fun M' _ => ⟨fun q => (by rw [hal] at q; cases q), fun _ => ⟨?_, ?_⟩⟩) ⟨by omega, by omega⟩ C hml hl hs hz E
    · show cells + rn_mc mz + (M.2.1.1 - rn_mc mz) ≤ R.cells
      omega
    · show slots + rn_ms mz + (M.2.1.2 - rn_ms mz) ≤ R.slots
      omega
  · have hkal : (decide (rn_al mz = false) && decide (rn_mc mz = 0) && decide (rn_ms mz = 0)) = true := by
      revert hkal
      split
      · exact absurd rfl hk4
      · exact id
    simp only [Bool.and_eq_true, decide_eq_true_eq] at hkal
    obtain ⟨⟨q1, q2⟩, q3⟩ := hkal
    have hC : rn_Snd l D A z 0 (rn_pad (rn_ml z) as) [] M (fun v M' => rn_Snd l D A y (pc + 3) L (v.toList ++ t') M' Q) := by
      revert hcal
      unfold rn_cal
      split
      · exact absurd rfl hk4
      · exact id
    rw [rn_ml_eq hmz] at hC
    refine rn_after (M := M) (x1 := 0) (x2 := 0) (al := rn_al mz) (Mz := M) (g := fun M' => M') (t' := t') hm (hrun _ _ _ (rn_met (ad := ad) (tys := tys) (ws := ws) (H := H) hmz hpl hn2 hla hC hvals (fun q => by rw [q1] at q; cases q)) rn_Pc_blind (rn_Pc_at C hz rfl rfl) ⟨by omega, by omega⟩) ⟨rfl, rfl⟩ (fun _ => ⟨rfl, rfl⟩) (fun _ _ q => q) (fun M' hb => ⟨fun _ => hb q1, fun q => ?_⟩) ⟨by omega, by omega⟩ C hml hl hs hz E
    rw [hb q1]
    have := z7 q
    omega
theorem rn_stk_split {n b : Nat} {ad : Nat → Nat} (hs : rn_vs n ad st stk) (hb : b ≤ st.length) : rn_vs n ad (st.take b).reverse (stk.take b).reverse ∧ rn_vs n ad (st.drop b) (stk.drop b) ∧ stk = (stk.take b).reverse.reverse ++ stk.drop b ∧ (stk.take b).reverse.length = b ∧ (st.take b).reverse.length = b := by
  have h1 := rn_vs_take b hs
  have h2 := rn_vs_len hs
  refine ⟨rn_vs_rev h1.1, h1.2, by rw [List.reverse_reverse, List.take_append_drop], ?_, ?_⟩ <;> simp <;> omega
theorem rn_i_virt {idx a b t k cc : Nat} (hm : rn_mt y = some mt) (hd : decode mt.2.1 pc = .ok (.invokevirtual idx, 3)) (hcl : (match cc with | 0 => false | c + 1 => decide (c < 11) && (match rn_mt a with | some mz => decide (mz.1.cls = rn_cn c) | none => false)) = true) (hc : rn_chc mt 0 a b k false t idx = true)
    (h : rn_g (Nat.ble b st.length && (Nat.ble (rn_sz (st.drop b)) 8 && rn_n2 (st.take b))) (rn_rcv (st.take b).reverse fun r => rn_kd M r = cc ∧ rn_cal k a (rn_mcs a).1 (rn_mcs a).2 (st.take b).reverse M (fun z as M' Q' => rn_Snd l D A z 0 (rn_pad (rn_ml z) as) [] M' Q') fun v M' => rn_Snd l D A y (pc + 3) L (v.toList ++ st.drop b) M' Q))
    (C : rn_Cx A p R s m args meth c mt) (hml : c.maxLocals = L.length) (hl : rn_lr (rn_lg mt) M.1.length ad L ls) (hs : rn_vs M.1.length ad st stk) (hz : rn_Dz D A R s mt ad tys ws M H locs cells slots) (E : rn_Ex l D A p e R s m args below meth c mt QQ ad M Q) : W p l e R s m args below meth c H locs cells slots QQ (F0 m pc ls stk) := by
  obtain ⟨hg, h⟩ := rn_g_out h
  rw [Bool.and_eq_true, Bool.and_eq_true] at hg
  have hb : b ≤ st.length := Nat.le_of_ble_eq_true hg.1
  have h8 : rn_sz (st.drop b) ≤ 8 := Nat.le_of_ble_eq_true hg.2.1
  have hn0 : rn_n2 (st.take b).reverse = true := rn_n2_rev hg.2.2
  obtain ⟨hv1, hv2, hst, hn1, hn2⟩ := rn_stk_split hs hb
  obtain ⟨mz, pc', pd', hmz, w1, w2, w3, w4, w5, w6, w7, w8, w9, w10, w11, w12⟩ := rn_chc_out hc
  obtain ⟨z1, z2, z3, z4, z5, z6, z7⟩ := id hz
  generalize (st.take b).reverse = as at h hv1 hn2 hn0
  generalize (stk.take b).reverse = vals at hv1 hst hn1
  unfold rn_rcv at h
  split at h
  · rename_i r as'
    obtain ⟨hkd, hcal⟩ := h
    obtain ⟨As, rfl, hr, hAs⟩ := rn_vs_R hv1
    have hrec : ∃ cellB : Cell, H[ad r]? = some cellB ∧ cellB.vm.isStatics = false ∧ s.vm.findClass mz.1.cls = some cellB.cls := by
      rw [hmz] at hcl
      cases cc with
      | zero => cases hcl
      | succ ci =>
        have hcl : (decide (ci < 11) && decide (mz.1.cls = rn_cn ci)) = true := hcl
        rw [Bool.and_eq_true, decide_eq_true_eq, decide_eq_true_eq] at hcl
        obtain ⟨f0, fs, f1, f2, f3⟩ := rn_W_obj z1.2.2.2 hr hkd hcl.1
        rw [hcl.2]
        exact va_recv z1.1 z1.2.1 (rn_cl_at ci hcl.1) f1
    have h9 : (match (0 : Nat) with | 1 => b | _ => b - 1) = b - 1 := rfl
    simp only [Bool.and_eq_true] at w3
    have hAl : As.length = b - 1 := by simp at hn1; omega
    have hsum : ((stk.drop b).map fun v => v.category).sum ≤ 8 := by rw [rn_vs_sum hv2]; exact h8
    refine rn_cal_go (vals := .ref (ad r) :: As) (rest := stk.drop b) hm hmz w11 hn0 (by rw [hn2]; exact w12) w10 hcal hv1 (fun Pc Qc free hM hbl hPc hf => ?_) C hml hl hv2 hz E
    exact va_runV (C := mz.1.cls) (n := b - 1) ⟨C.1, C.2.1, hml, C.2.2.1, C.2.2.2.1⟩ hM (cwV (b - 1) C.2.2.2.1 (rn_good (fun w hw => by
        unfold wsV at hw
        rcases List.mem_append.mp hw with q | q
        · simp only [List.mem_cons, List.not_mem_nil, or_false] at q
          rcases q with rfl | rfl | rfl | rfl
          · exact rn_hw_mem w4
          · exact rn_hw_mem w3.1
          · exact rn_hw_mem w3.2
          · exact w2
        · rcases List.mem_cons.mp q with rfl | q
          · exact w1
          · exact q)) rfl rfl rfl ⟨rfl, w5.1, w5.2, w6⟩ ⟨Nat.le_trans w8 C.2.2.2.2.2.1, Nat.le_trans w9 C.2.2.2.2.2.2.1⟩) ⟨hbl, hrec, hPc⟩ rfl hAl (by obtain ⟨lv, hv, -⟩ := hl; exact hv.1) (by show stk = As.reverse ++ Value.ref (ad r) :: stk.drop b; rw [List.reverse_cons, List.append_assoc] at hst; exact hst) (lv_room hsum) hd hf
  · exact h.elim
theorem rn_i_stat {idx a b t k : Nat} {nst : Bool} (hm : rn_mt y = some mt) (hd : decode mt.2.1 pc = .ok (.invokestatic idx, 3)) (hc : rn_chc mt 1 a b k nst t idx = true)
    (h : rn_g (Nat.ble b st.length && (Nat.ble (rn_sz (st.drop b)) 8 && rn_n2 (st.take b))) (rn_cal k a (rn_mcs a).1 (rn_mcs a).2 (st.take b).reverse M (fun z as M' Q' => rn_Snd l D A z 0 (rn_pad (rn_ml z) as) [] M' Q') fun v M' => rn_Snd l D A y (pc + 3) L (v.toList ++ st.drop b) M' Q))
    (C : rn_Cx A p R s m args meth c mt) (hml : c.maxLocals = L.length) (hl : rn_lr (rn_lg mt) M.1.length ad L ls) (hs : rn_vs M.1.length ad st stk) (hz : rn_Dz D A R s mt ad tys ws M H locs cells slots) (E : rn_Ex l D A p e R s m args below meth c mt QQ ad M Q) : W p l e R s m args below meth c H locs cells slots QQ (F0 m pc ls stk) := by
  obtain ⟨hg, hcal⟩ := rn_g_out h
  rw [Bool.and_eq_true, Bool.and_eq_true] at hg
  have hb : b ≤ st.length := Nat.le_of_ble_eq_true hg.1
  have h8 : rn_sz (st.drop b) ≤ 8 := Nat.le_of_ble_eq_true hg.2.1
  have hn0 : rn_n2 (st.take b).reverse = true := rn_n2_rev hg.2.2
  obtain ⟨hv1, hv2, hst, hn1, hn2⟩ := rn_stk_split hs hb
  obtain ⟨mz, pc', pd', hmz, w1, w2, w3, w4, w5, w6, w7, w8, w9, w10, w11, w12⟩ := rn_chc_out hc
  obtain ⟨z1, z2, z3, z4, z5, z6, z7⟩ := id hz
  have hsum : ((stk.drop b).map fun v => v.category).sum ≤ 8 := by rw [rn_vs_sum hv2]; exact h8
  have hw3 : Cond.static mz.1 ∈ rn_Wd := rn_hw_mem w3
  refine rn_cal_go (vals := (stk.take b).reverse) (rest := stk.drop b) hm hmz w11 hn0 (by rw [hn2]; exact w12) w10 hcal hv1 (fun Pc Qc free hM hbl hPc hf => ?_) C hml hl hv2 hz E
  have hR : (rn_rm mz).frames + 1 ≤ R.frames ∧ 8 + (mz.2.2.1 + 11) + (rn_rm mz).locals ≤ R.locals := ⟨Nat.le_trans w8 C.2.2.2.2.2.1, Nat.le_trans w9 C.2.2.2.2.2.2.1⟩
  cases nst with
  | false =>
    exact va_runS (n := b) ⟨C.1, C.2.1, hml, C.2.2.1, C.2.2.2.1⟩ hM (va_cwS b C.2.2.2.1 (rn_good (fun w hw => by
        unfold va_wsS at hw
        rcases List.mem_append.mp hw with q | q
        · simp only [List.mem_cons, List.not_mem_nil, or_false] at q
          rcases q with rfl | rfl | rfl
          · exact rn_hw_mem w4
          · exact hw3
          · exact w2
        · rcases List.mem_cons.mp q with rfl | q
          · exact w1
          · exact q)) rfl rfl rfl ⟨w5.1, w5.2, w6⟩ hR) ⟨hbl, hPc⟩ rfl hn1 (by obtain ⟨lv, hv, -⟩ := hl; exact hv.1) hst (lv_room hsum) hd hf
  | true =>
    exact va_runSN (n := b) ⟨C.1, C.2.1, hml, C.2.2.1, C.2.2.2.1⟩ hM ⟨va_cnB b C.2.2.2.1 (rn_good (fun w hw => by
        rcases List.mem_cons.mp hw with rfl | q
        · exact w1
        · exact q)) rfl rfl rfl (z3.2.2.1 _ (rn_hn_mem w4)) (C.2.2.2.1 _ w2) ⟨w5.1, w5.2, w6⟩ hR, C.2.2.2.1 _ hw3, trivial⟩ ⟨hbl, hPc⟩ rfl hn1 (by obtain ⟨lv, hv, -⟩ := hl; exact hv.1) hst (lv_room hsum) hd hf
theorem rn_i_spec {idx a b t k cc : Nat} {nst : Bool} (hm : rn_mt y = some mt) (hd : decode mt.2.1 pc = .ok (.invokespecial idx, 3)) (hc : rn_chc mt 2 a b k nst t idx = true)
    (h : rn_g (Nat.ble b st.length && (Nat.ble (rn_sz (st.drop b)) 8 && rn_n2 (st.take b))) (rn_rcv (st.take b).reverse fun r => rn_kd M r = cc ∧ rn_cal k a (rn_mcs a).1 (rn_mcs a).2 (st.take b).reverse M (fun z as M' Q' => rn_Snd l D A z 0 (rn_pad (rn_ml z) as) [] M' Q') fun v M' => rn_Snd l D A y (pc + 3) L (v.toList ++ st.drop b) M' Q))
    (C : rn_Cx A p R s m args meth c mt) (hml : c.maxLocals = L.length) (hl : rn_lr (rn_lg mt) M.1.length ad L ls) (hs : rn_vs M.1.length ad st stk) (hz : rn_Dz D A R s mt ad tys ws M H locs cells slots) (E : rn_Ex l D A p e R s m args below meth c mt QQ ad M Q) : W p l e R s m args below meth c H locs cells slots QQ (F0 m pc ls stk) := by
  obtain ⟨hg, h⟩ := rn_g_out h
  rw [Bool.and_eq_true, Bool.and_eq_true] at hg
  have hb : b ≤ st.length := Nat.le_of_ble_eq_true hg.1
  have h8 : rn_sz (st.drop b) ≤ 8 := Nat.le_of_ble_eq_true hg.2.1
  have hn0 : rn_n2 (st.take b).reverse = true := rn_n2_rev hg.2.2
  obtain ⟨hv1, hv2, hst, hn1, hn2⟩ := rn_stk_split hs hb
  obtain ⟨mz, pc', pd', hmz, w1, w2, w3, w4, w5, w6, w7, w8, w9, w10, w11, w12⟩ := rn_chc_out hc
  obtain ⟨z1, z2, z3, z4, z5, z6, z7⟩ := id hz
  generalize (st.take b).reverse = as at h hv1 hn2 hn0
  generalize (stk.take b).reverse = vals at hv1 hst hn1
  unfold rn_rcv at h
  split at h
  · rename_i r as'
    obtain ⟨hkd, hcal⟩ := h
    obtain ⟨As, rfl, hr, hAs⟩ := rn_vs_R hv1
    simp only [Bool.and_eq_true, decide_eq_true_eq] at w3
    obtain ⟨⟨w3a, w3b⟩, w3c⟩ := w3
    have hAl : As.length = b - 1 := by simp at hn1; omega
    have hsum : ((stk.drop b).map fun v => v.category).sum ≤ 8 := by rw [rn_vs_sum hv2]; exact h8
    have hR : (rn_rm mz).frames + 1 ≤ R.frames ∧ 8 + (mz.2.2.1 + 11) + (rn_rm mz).locals ≤ R.locals := ⟨Nat.le_trans w8 C.2.2.2.2.2.1, Nat.le_trans w9 C.2.2.2.2.2.2.1⟩
    have hws : rn_ws mz = Cond.code mz.1 mz.2.1 mz.2.2.1 none :: rn_Wd := by unfold rn_ws; rw [w3c]
    have hgo : GoodIn rn_Wd (rn_ws mz) := rn_good (fun w hw => by
        rcases List.mem_cons.mp hw with rfl | q
        · exact w1
        · exact q)
    have hst2 : stk = As.reverse ++ Value.ref (ad r) :: stk.drop b := by rw [List.reverse_cons, List.append_assoc] at hst; exact hst
    refine rn_cal_go (vals := .ref (ad r) :: As) (rest := stk.drop b) hm hmz w11 hn0 (by rw [hn2]; exact w12) w10 hcal hv1 (fun Pc Qc free hM hbl hPc hf => ?_) C hml hl hv2 hz E
    cases nst with
    | false =>
      exact va_runI (n := b - 1) ⟨C.1, C.2.1, hml, C.2.2.1, C.2.2.2.1⟩ hM (cwI (b - 1) C.2.2.2.1 hgo hws rfl rfl (C.2.2.2.1 _ w2) (C.2.2.2.1 _ (rn_hw_mem w4)) (C.2.2.2.1 _ (rn_hw_mem w3a)) w3b ⟨w5.1, w5.2, w6⟩ hR) ⟨hbl, hPc⟩ rfl hAl (by obtain ⟨lv, hv, -⟩ := hl; exact hv.1) hst2 (lv_room hsum) hd hf
    | true =>
      exact va_runIN (n := b - 1) ⟨C.1, C.2.1, hml, C.2.2.1, C.2.2.2.1⟩ hM ⟨va_cnB (b - 1) C.2.2.2.1 hgo hws rfl rfl (z3.2.2.1 _ (rn_hn_mem w4)) (C.2.2.2.1 _ w2) ⟨w5.1, w5.2, w6⟩ hR, w3b, C.2.2.2.1 _ (rn_hw_mem w3a)⟩ ⟨hbl, hPc⟩ rfl hAl (by obtain ⟨lv, hv, -⟩ := hl; exact hv.1) hst2 (lv_room hsum) hd hf
  · exact h.elim
end RNV
end
section
/-! the memory with which the law begins: the script, the two tables of steps, the two texts */
-/
def rn_sR : List Int := [1, 1, 0, -1, -1, -1, 0, 1]
def rn_sD : List Int := [0, 1, 1, 1, 0, -1, -1, -1]
def rn_M0 (N : Nat) (xs : Nat → Int) : rn_M := ([(21, N), (21, 8), (21, 8), (24, 0), (24, 0), (24, 0), (24, 0), (24, 0)], (1000, 100000),
  fun a k => match a with | 0 => xs k | 1 => rn_sR.getD k 0 | 2 => rn_sD.getD k 0 | _ => 0,
  fun _ _ => none)
end
