-- ===== PART A: goes FIRST, ahead of the names: the tables' words, and 'selects' of the private methods out of them =====
/-- a private method of a class that the tables say can be made, by its rows of tables_1 -/
def lw_okq (q : MethodName × Nat) : Prop := (q.1.cls ≠ "java/lang/invoke/MethodHandle" ∧ q.1.cls ≠ "java/lang/invoke/VarHandle") ∧ Cond.instantiable q.1.cls q.2 ∈ tables_1 ∧ Cond.privateMethod q.1 ∈ tables_1 ∧ Cond.instanceMethod q.1 ∈ tables_1
theorem lw_p0 : lw_okq (⟨"RiverNames$River", "turnBehind", "(I)I"⟩, 9) := ⟨⟨by decide +kernel, by decide +kernel⟩, List.mem_of_getElem? (i := 75) (by decide +kernel), List.mem_of_getElem? (i := 287) (by decide +kernel), List.mem_of_getElem? (i := 288) (by decide +kernel)⟩
theorem lw_p1 : lw_okq (⟨"RiverNames$Judge", "isMisfit", "(LRiverNames$Board;I)Z"⟩, 1) := ⟨⟨by decide +kernel, by decide +kernel⟩, List.mem_of_getElem? (i := 212) (by decide +kernel), List.mem_of_getElem? (i := 301) (by decide +kernel), List.mem_of_getElem? (i := 302) (by decide +kernel)⟩
theorem lw_p2 : lw_okq (⟨"RiverNames$Judge", "isCrowded", "(LRiverNames$Board;LRiverNames$River;II)Z"⟩, 1) := ⟨⟨by decide +kernel, by decide +kernel⟩, List.mem_of_getElem? (i := 212) (by decide +kernel), List.mem_of_getElem? (i := 314) (by decide +kernel), List.mem_of_getElem? (i := 315) (by decide +kernel)⟩
theorem lw_p3 : lw_okq (⟨"RiverNames$Judge", "townRankAt", "(LRiverNames$Board;LRiverNames$River;I)I"⟩, 1) := ⟨⟨by decide +kernel, by decide +kernel⟩, List.mem_of_getElem? (i := 212) (by decide +kernel), List.mem_of_getElem? (i := 319) (by decide +kernel), List.mem_of_getElem? (i := 320) (by decide +kernel)⟩
theorem lw_p4 : lw_okq (⟨"RiverNames$Judge", "labelRankAt", "(LRiverNames$Board;LRiverNames$River;I)I"⟩, 1) := ⟨⟨by decide +kernel, by decide +kernel⟩, List.mem_of_getElem? (i := 212) (by decide +kernel), List.mem_of_getElem? (i := 344) (by decide +kernel), List.mem_of_getElem? (i := 345) (by decide +kernel)⟩
theorem lw_p5 : lw_okq (⟨"RiverNames$River", "isNear", "(IIII)Z"⟩, 9) := ⟨⟨by decide +kernel, by decide +kernel⟩, List.mem_of_getElem? (i := 75) (by decide +kernel), List.mem_of_getElem? (i := 352) (by decide +kernel), List.mem_of_getElem? (i := 353) (by decide +kernel)⟩
theorem lw_p6 : lw_okq (⟨"RiverNames$Sheet", "mark", "(II)V"⟩, 2) := ⟨⟨by decide +kernel, by decide +kernel⟩, List.mem_of_getElem? (i := 222) (by decide +kernel), List.mem_of_getElem? (i := 392) (by decide +kernel), List.mem_of_getElem? (i := 393) (by decide +kernel)⟩
theorem lw_p7 : lw_okq (⟨"RiverNames$Board", "copyRiver", "(LRiverNames$River;)V"⟩, 7) := ⟨⟨by decide +kernel, by decide +kernel⟩, List.mem_of_getElem? (i := 64) (by decide +kernel), List.mem_of_getElem? (i := 514) (by decide +kernel), List.mem_of_getElem? (i := 515) (by decide +kernel)⟩
theorem lw_p8 : lw_okq (⟨"RiverNames$Board", "copyTown", "(LRiverNames$Town;)V"⟩, 7) := ⟨⟨by decide +kernel, by decide +kernel⟩, List.mem_of_getElem? (i := 64) (by decide +kernel), List.mem_of_getElem? (i := 533) (by decide +kernel), List.mem_of_getElem? (i := 534) (by decide +kernel)⟩
theorem lw_p9 : lw_okq (⟨"RiverNames$Board", "copyLabel", "(LRiverNames$Label;)V"⟩, 7) := ⟨⟨by decide +kernel, by decide +kernel⟩, List.mem_of_getElem? (i := 64) (by decide +kernel), List.mem_of_getElem? (i := 549) (by decide +kernel), List.mem_of_getElem? (i := 550) (by decide +kernel)⟩
theorem lw_p10 : lw_okq (⟨"RiverNames$History", "dropOldest", "()V"⟩, 4) := ⟨⟨by decide +kernel, by decide +kernel⟩, List.mem_of_getElem? (i := 57) (by decide +kernel), List.mem_of_getElem? (i := 574) (by decide +kernel), List.mem_of_getElem? (i := 575) (by decide +kernel)⟩
theorem lw_p11 : lw_okq (⟨"RiverNames$Judge", "letterRiver", "(LRiverNames$Board;LRiverNames$River;I)V"⟩, 1) := ⟨⟨by decide +kernel, by decide +kernel⟩, List.mem_of_getElem? (i := 212) (by decide +kernel), List.mem_of_getElem? (i := 640) (by decide +kernel), List.mem_of_getElem? (i := 641) (by decide +kernel)⟩
theorem lw_p12 : lw_okq (⟨"RiverNames$Judge", "noteRivals", "(LRiverNames$Board;LRiverNames$River;)V"⟩, 1) := ⟨⟨by decide +kernel, by decide +kernel⟩, List.mem_of_getElem? (i := 212) (by decide +kernel), List.mem_of_getElem? (i := 644) (by decide +kernel), List.mem_of_getElem? (i := 645) (by decide +kernel)⟩
theorem lw_p13 : lw_okq (⟨"RiverNames$Judge", "bestStartAsNoted", "(LRiverNames$Board;LRiverNames$River;)I"⟩, 1) := ⟨⟨by decide +kernel, by decide +kernel⟩, List.mem_of_getElem? (i := 212) (by decide +kernel), List.mem_of_getElem? (i := 648) (by decide +kernel), List.mem_of_getElem? (i := 649) (by decide +kernel)⟩
theorem lw_p14 : lw_okq (⟨"RiverNames$Judge", "rivalRank", "(LRiverNames$River;I)I"⟩, 1) := ⟨⟨by decide +kernel, by decide +kernel⟩, List.mem_of_getElem? (i := 212) (by decide +kernel), List.mem_of_getElem? (i := 653) (by decide +kernel), List.mem_of_getElem? (i := 654) (by decide +kernel)⟩
def lw_privs_1 : List (MethodName × Nat) := [(⟨"RiverNames$River", "turnBehind", "(I)I"⟩, 9), (⟨"RiverNames$Judge", "isMisfit", "(LRiverNames$Board;I)Z"⟩, 1), (⟨"RiverNames$Judge", "isCrowded", "(LRiverNames$Board;LRiverNames$River;II)Z"⟩, 1), (⟨"RiverNames$Judge", "townRankAt", "(LRiverNames$Board;LRiverNames$River;I)I"⟩, 1), (⟨"RiverNames$Judge", "labelRankAt", "(LRiverNames$Board;LRiverNames$River;I)I"⟩, 1), (⟨"RiverNames$River", "isNear", "(IIII)Z"⟩, 9), (⟨"RiverNames$Sheet", "mark", "(II)V"⟩, 2), (⟨"RiverNames$Board", "copyRiver", "(LRiverNames$River;)V"⟩, 7), (⟨"RiverNames$Board", "copyTown", "(LRiverNames$Town;)V"⟩, 7), (⟨"RiverNames$Board", "copyLabel", "(LRiverNames$Label;)V"⟩, 7), (⟨"RiverNames$History", "dropOldest", "()V"⟩, 4), (⟨"RiverNames$Judge", "letterRiver", "(LRiverNames$Board;LRiverNames$River;I)V"⟩, 1), (⟨"RiverNames$Judge", "noteRivals", "(LRiverNames$Board;LRiverNames$River;)V"⟩, 1), (⟨"RiverNames$Judge", "bestStartAsNoted", "(LRiverNames$Board;LRiverNames$River;)I"⟩, 1), (⟨"RiverNames$Judge", "rivalRank", "(LRiverNames$River;I)I"⟩, 1)]
theorem lw_r1 : ∀ q ∈ lw_privs_1, lw_okq q := List.forall_mem_cons.mpr ⟨lw_p0, List.forall_mem_cons.mpr ⟨lw_p1, List.forall_mem_cons.mpr ⟨lw_p2, List.forall_mem_cons.mpr ⟨lw_p3, List.forall_mem_cons.mpr ⟨lw_p4, List.forall_mem_cons.mpr ⟨lw_p5, List.forall_mem_cons.mpr ⟨lw_p6, List.forall_mem_cons.mpr ⟨lw_p7, List.forall_mem_cons.mpr ⟨lw_p8, List.forall_mem_cons.mpr ⟨lw_p9, List.forall_mem_cons.mpr ⟨lw_p10, List.forall_mem_cons.mpr ⟨lw_p11, List.forall_mem_cons.mpr ⟨lw_p12, List.forall_mem_cons.mpr ⟨lw_p13, List.forall_mem_cons.mpr ⟨lw_p14, fun _ h => absurd h List.not_mem_nil⟩⟩⟩⟩⟩⟩⟩⟩⟩⟩⟩⟩⟩⟩⟩
def lw_privs : List (MethodName × Nat) := lw_privs_1
def lw_tbl : List Cond := k2_sels lw_privs ++ tables_1
theorem lw_privs_ok : ∀ q ∈ lw_privs, lw_okq q := lw_r1

def RX0 : String := "RiverNames$Board"
def TX0 : u_T := fun k => match k with
  | 0 => ("RiverNames$Board", "riverCount", "I", false)
  | 1 => ("RiverNames$Board", "townCount", "I", false)
  | 2 => ("RiverNames$Board", "labelCount", "I", false)
  | 3 => ("RiverNames$Board", "gap", "I", false)
  | 4 => ("RiverNames$Board", "rivers", "[LRiverNames$River;", true)
  | 5 => ("RiverNames$Board", "towns", "[LRiverNames$Town;", true)
  | _ => ("RiverNames$Board", "labels", "[LRiverNames$Label;", true)
def tyX0 : Nat → FieldType := fun k => match k with
  | 0 => .int
  | 1 => .int
  | 2 => .int
  | 3 => .int
  | 4 => .array (.object "RiverNames$River")
  | 5 => .array (.object "RiverNames$Town")
  | _ => .array (.object "RiverNames$Label")
abbrev wsX00 : List Cond := u_ws RX0 TX0 7
theorem nmX0 : ∀ a, a < 7 → ∀ b, b < 7 → a ≠ b → (TX0 a).2.1 ≠ (TX0 b).2.1 := by decide +kernel
theorem tyX0_ok : ∀ k, k < 7 → parseFieldDescriptor (TX0 k).2.2.1 = some (tyX0 k) := by decide +kernel
def RX1 : String := "RiverNames$History"
def TX1 : u_T := fun k => match k with
  | 0 => ("RiverNames$History", "size", "I", false)
  | 1 => ("RiverNames$History", "kept", "[LRiverNames$Board;", true)
  | 2 => ("RiverNames$History", "present", "LRiverNames$Board;", false)
  | _ => ("RiverNames$History", "draft", "LRiverNames$Board;", false)
def tyX1 : Nat → FieldType := fun k => match k with
  | 0 => .int
  | 1 => .array (.object "RiverNames$Board")
  | 2 => .object "RiverNames$Board"
  | _ => .object "RiverNames$Board"
abbrev wsX10 : List Cond := u_ws RX1 TX1 4
theorem nmX1 : ∀ a, a < 4 → ∀ b, b < 4 → a ≠ b → (TX1 a).2.1 ≠ (TX1 b).2.1 := by decide +kernel
theorem tyX1_ok : ∀ k, k < 4 → parseFieldDescriptor (TX1 k).2.2.1 = some (tyX1 k) := by decide +kernel
def RX2 : String := "RiverNames$Judge"
def TX2 : u_T := fun k => match k with
  | _ => ("RiverNames$Judge", "rivals", "[I", true)
def tyX2 : Nat → FieldType := fun k => match k with
  | _ => .array .int
abbrev wsX20 : List Cond := u_ws RX2 TX2 1
theorem nmX2 : ∀ a, a < 1 → ∀ b, b < 1 → a ≠ b → (TX2 a).2.1 ≠ (TX2 b).2.1 := by decide +kernel
theorem tyX2_ok : ∀ k, k < 1 → parseFieldDescriptor (TX2 k).2.2.1 = some (tyX2 k) := by decide +kernel
def RX3 : String := "RiverNames$Label"
def TX3 : u_T := fun k => match k with
  | 0 => ("RiverNames$Label", "river", "LRiverNames$River;", false)
  | _ => ("RiverNames$Label", "start", "I", false)
def tyX3 : Nat → FieldType := fun k => match k with
  | 0 => .object "RiverNames$River"
  | _ => .int
abbrev wsX30 : List Cond := u_ws RX3 TX3 2
theorem nmX3 : ∀ a, a < 2 → ∀ b, b < 2 → a ≠ b → (TX3 a).2.1 ≠ (TX3 b).2.1 := by decide +kernel
theorem tyX3_ok : ∀ k, k < 2 → parseFieldDescriptor (TX3 k).2.2.1 = some (tyX3 k) := by decide +kernel
def RX4 : String := "RiverNames$Reader"
def TX4 : u_T := fun k => match k with
  | 0 => ("RiverNames$Reader", "text", "LRiverNames$Text;", true)
  | 1 => ("RiverNames$Reader", "tokenStart", "I", false)
  | 2 => ("RiverNames$Reader", "tokenEnd", "I", false)
  | 3 => ("RiverNames$Reader", "tokenKind", "I", false)
  | _ => ("RiverNames$Reader", "refused", "Z", false)
def tyX4 : Nat → FieldType := fun k => match k with
  | 0 => .object "RiverNames$Text"
  | 1 => .int
  | 2 => .int
  | 3 => .int
  | _ => .boolean
abbrev wsX40 : List Cond := u_ws RX4 TX4 5
theorem nmX4 : ∀ a, a < 5 → ∀ b, b < 5 → a ≠ b → (TX4 a).2.1 ≠ (TX4 b).2.1 := by decide +kernel
theorem tyX4_ok : ∀ k, k < 5 → parseFieldDescriptor (TX4 k).2.2.1 = some (tyX4 k) := by decide +kernel
def RX5 : String := "RiverNames$River"
def TX5 : u_T := fun k => match k with
  | 0 => ("RiverNames$River", "number", "I", true)
  | 1 => ("RiverNames$River", "rank", "I", false)
  | 2 => ("RiverNames$River", "halo", "I", false)
  | 3 => ("RiverNames$River", "letters", "I", false)
  | 4 => ("RiverNames$River", "moves", "I", false)
  | 5 => ("RiverNames$River", "name", "[I", true)
  | 6 => ("RiverNames$River", "directions", "[I", true)
  | 7 => ("RiverNames$River", "columns", "[I", true)
  | _ => ("RiverNames$River", "rows", "[I", true)
def tyX5 : Nat → FieldType := fun k => match k with
  | 0 => .int
  | 1 => .int
  | 2 => .int
  | 3 => .int
  | 4 => .int
  | 5 => .array .int
  | 6 => .array .int
  | 7 => .array .int
  | _ => .array .int
abbrev wsX50 : List Cond := u_ws RX5 TX5 9
theorem nmX5 : ∀ a, a < 9 → ∀ b, b < 9 → a ≠ b → (TX5 a).2.1 ≠ (TX5 b).2.1 := by decide +kernel
theorem tyX5_ok : ∀ k, k < 9 → parseFieldDescriptor (TX5 k).2.2.1 = some (tyX5 k) := by decide +kernel
def RX6 : String := "RiverNames$Sheet"
def TX6 : u_T := fun k => match k with
  | 0 => ("RiverNames$Sheet", "marked", "I", false)
  | _ => ("RiverNames$Sheet", "marks", "[I", true)
def tyX6 : Nat → FieldType := fun k => match k with
  | 0 => .int
  | _ => .array .int
abbrev wsX60 : List Cond := u_ws RX6 TX6 2
theorem nmX6 : ∀ a, a < 2 → ∀ b, b < 2 → a ≠ b → (TX6 a).2.1 ≠ (TX6 b).2.1 := by decide +kernel
theorem tyX6_ok : ∀ k, k < 2 → parseFieldDescriptor (TX6 k).2.2.1 = some (tyX6 k) := by decide +kernel
def RX7 : String := "RiverNames$Text"
def TX7 : u_T := fun k => match k with
  | 0 => ("RiverNames$Text", "length", "I", false)
  | _ => ("RiverNames$Text", "signs", "[I", true)
def tyX7 : Nat → FieldType := fun k => match k with
  | 0 => .int
  | _ => .array .int
abbrev wsX70 : List Cond := u_ws RX7 TX7 2
theorem nmX7 : ∀ a, a < 2 → ∀ b, b < 2 → a ≠ b → (TX7 a).2.1 ≠ (TX7 b).2.1 := by decide +kernel
theorem tyX7_ok : ∀ k, k < 2 → parseFieldDescriptor (TX7 k).2.2.1 = some (tyX7 k) := by decide +kernel
def RX8 : String := "RiverNames$Town"
def TX8 : u_T := fun k => match k with
  | 0 => ("RiverNames$Town", "column", "I", false)
  | 1 => ("RiverNames$Town", "row", "I", false)
  | 2 => ("RiverNames$Town", "width", "I", false)
  | 3 => ("RiverNames$Town", "height", "I", false)
  | _ => ("RiverNames$Town", "rank", "I", false)
def tyX8 : Nat → FieldType := fun k => match k with
  | 0 => .int
  | 1 => .int
  | 2 => .int
  | 3 => .int
  | _ => .int
abbrev wsX80 : List Cond := u_ws RX8 TX8 5
theorem nmX8 : ∀ a, a < 5 → ∀ b, b < 5 → a ≠ b → (TX8 a).2.1 ≠ (TX8 b).2.1 := by decide +kernel
theorem tyX8_ok : ∀ k, k < 5 → parseFieldDescriptor (TX8 k).2.2.1 = some (tyX8 k) := by decide +kernel
def RX9 : String := "RiverNames"
def TX9 : u_T := fun k => match k with
  | 0 => ("RiverNames", "reader", "LRiverNames$Reader;", true)
  | 1 => ("RiverNames", "history", "LRiverNames$History;", true)
  | 2 => ("RiverNames", "judge", "LRiverNames$Judge;", true)
  | _ => ("RiverNames", "sheet", "LRiverNames$Sheet;", true)
def tyX9 : Nat → FieldType := fun k => match k with
  | 0 => .object "RiverNames$Reader"
  | 1 => .object "RiverNames$History"
  | 2 => .object "RiverNames$Judge"
  | _ => .object "RiverNames$Sheet"
abbrev wsX90 : List Cond := u_ws RX9 TX9 4
theorem nmX9 : ∀ a, a < 4 → ∀ b, b < 4 → a ≠ b → (TX9 a).2.1 ≠ (TX9 b).2.1 := by decide +kernel
theorem tyX9_ok : ∀ k, k < 4 → parseFieldDescriptor (TX9 k).2.2.1 = some (tyX9 k) := by decide +kernel
def RJ9 : String := "java/lang/Math"
def RJ7 : String := "java/util/Arrays"
def RL : String := "RiverNamesLaw"
abbrev cX0_init : ByteArray := prog_2_method_1_code
def yX0_init : MethodName := ⟨RX0, "<init>", "()V"⟩
abbrev cX0_copyFrom : ByteArray := prog_2_method_2_code
def yX0_copyFrom : MethodName := ⟨RX0, "copyFrom", "(LRiverNames$Board;)V"⟩
abbrev cX0_copyRiver : ByteArray := prog_2_method_3_code
def yX0_copyRiver : MethodName := ⟨RX0, "copyRiver", "(LRiverNames$River;)V"⟩
abbrev cX0_copyTown : ByteArray := prog_2_method_4_code
def yX0_copyTown : MethodName := ⟨RX0, "copyTown", "(LRiverNames$Town;)V"⟩
abbrev cX0_copyLabel : ByteArray := prog_2_method_5_code
def yX0_copyLabel : MethodName := ⟨RX0, "copyLabel", "(LRiverNames$Label;)V"⟩
abbrev cX0_riverAt : ByteArray := prog_2_method_6_code
def yX0_riverAt : MethodName := ⟨RX0, "riverAt", "(I)LRiverNames$River;"⟩
abbrev cX0_townAt : ByteArray := prog_2_method_7_code
def yX0_townAt : MethodName := ⟨RX0, "townAt", "(I)LRiverNames$Town;"⟩
abbrev cX0_labelAt : ByteArray := prog_2_method_8_code
def yX0_labelAt : MethodName := ⟨RX0, "labelAt", "(I)LRiverNames$Label;"⟩
abbrev cX0_nextRiver : ByteArray := prog_2_method_9_code
def yX0_nextRiver : MethodName := ⟨RX0, "nextRiver", "()LRiverNames$River;"⟩
abbrev cX0_nextTown : ByteArray := prog_2_method_10_code
def yX0_nextTown : MethodName := ⟨RX0, "nextTown", "()LRiverNames$Town;"⟩
abbrev cX0_addLabel : ByteArray := prog_2_method_11_code
def yX0_addLabel : MethodName := ⟨RX0, "addLabel", "(LRiverNames$River;I)Z"⟩
abbrev cX0_dropLabel : ByteArray := prog_2_method_12_code
def yX0_dropLabel : MethodName := ⟨RX0, "dropLabel", "(I)Z"⟩
abbrev cX0_labelsOf : ByteArray := prog_2_method_13_code
def yX0_labelsOf : MethodName := ⟨RX0, "labelsOf", "(LRiverNames$River;)I"⟩
abbrev cX0_labelsOver : ByteArray := prog_2_method_14_code
def yX0_labelsOver : MethodName := ⟨RX0, "labelsOver", "(LRiverNames$Town;)I"⟩
abbrev cX0_townsUnder : ByteArray := prog_2_method_15_code
def yX0_townsUnder : MethodName := ⟨RX0, "townsUnder", "(LRiverNames$Label;)I"⟩
abbrev cX0_costOfLabels : ByteArray := prog_2_method_16_code
def yX0_costOfLabels : MethodName := ⟨RX0, "costOfLabels", "()I"⟩
abbrev cX0_cellsOfLabels : ByteArray := prog_2_method_17_code
def yX0_cellsOfLabels : MethodName := ⟨RX0, "cellsOfLabels", "(LRiverNames$Sheet;)I"⟩
abbrev cX0_riversWithoutLabel : ByteArray := prog_2_method_18_code
def yX0_riversWithoutLabel : MethodName := ⟨RX0, "riversWithoutLabel", "()I"⟩
abbrev cX0_signOn : ByteArray := prog_2_method_19_code
def yX0_signOn : MethodName := ⟨RX0, "signOn", "(II)I"⟩
abbrev cX1_init : ByteArray := prog_3_method_1_code
def yX1_init : MethodName := ⟨RX1, "<init>", "()V"⟩
abbrev cX1_present : ByteArray := prog_3_method_2_code
def yX1_present : MethodName := ⟨RX1, "present", "()LRiverNames$Board;"⟩
abbrev cX1_newDraft : ByteArray := prog_3_method_3_code
def yX1_newDraft : MethodName := ⟨RX1, "newDraft", "()LRiverNames$Board;"⟩
abbrev cX1_enterDraft : ByteArray := prog_3_method_4_code
def yX1_enterDraft : MethodName := ⟨RX1, "enterDraft", "()V"⟩
abbrev cX1_dropOldest : ByteArray := prog_3_method_5_code
def yX1_dropOldest : MethodName := ⟨RX1, "dropOldest", "()V"⟩
abbrev cX1_stepBack : ByteArray := prog_3_method_6_code
def yX1_stepBack : MethodName := ⟨RX1, "stepBack", "()I"⟩
abbrev cX2_init : ByteArray := prog_4_method_1_code
def yX2_init : MethodName := ⟨RX2, "<init>", "()V"⟩
abbrev cX2_reasonAgainst : ByteArray := prog_4_method_2_code
def yX2_reasonAgainst : MethodName := ⟨RX2, "reasonAgainst", "(LRiverNames$Board;LRiverNames$River;II)I"⟩
abbrev cX2_isCrowded : ByteArray := prog_4_method_3_code
def yX2_isCrowded : MethodName := ⟨RX2, "isCrowded", "(LRiverNames$Board;LRiverNames$River;II)Z"⟩
abbrev cX2_townRankAt : ByteArray := prog_4_method_4_code
def yX2_townRankAt : MethodName := ⟨RX2, "townRankAt", "(LRiverNames$Board;LRiverNames$River;I)I"⟩
abbrev cX2_labelRankAt : ByteArray := prog_4_method_5_code
def yX2_labelRankAt : MethodName := ⟨RX2, "labelRankAt", "(LRiverNames$Board;LRiverNames$River;I)I"⟩
abbrev cX2_noteRivals : ByteArray := prog_4_method_6_code
def yX2_noteRivals : MethodName := ⟨RX2, "noteRivals", "(LRiverNames$Board;LRiverNames$River;)V"⟩
abbrev cX2_rivalRank : ByteArray := prog_4_method_7_code
def yX2_rivalRank : MethodName := ⟨RX2, "rivalRank", "(LRiverNames$River;I)I"⟩
abbrev cX2_bestStart : ByteArray := prog_4_method_8_code
def yX2_bestStart : MethodName := ⟨RX2, "bestStart", "(LRiverNames$Board;LRiverNames$River;)I"⟩
abbrev cX2_bestStartAsNoted : ByteArray := prog_4_method_9_code
def yX2_bestStartAsNoted : MethodName := ⟨RX2, "bestStartAsNoted", "(LRiverNames$Board;LRiverNames$River;)I"⟩
abbrev cX2_leastRank : ByteArray := prog_4_method_10_code
def yX2_leastRank : MethodName := ⟨RX2, "leastRank", "(LRiverNames$Board;LRiverNames$River;)I"⟩
abbrev cX2_letterAll : ByteArray := prog_4_method_11_code
def yX2_letterAll : MethodName := ⟨RX2, "letterAll", "(LRiverNames$Board;I)V"⟩
abbrev cX2_letterRiver : ByteArray := prog_4_method_12_code
def yX2_letterRiver : MethodName := ⟨RX2, "letterRiver", "(LRiverNames$Board;LRiverNames$River;I)V"⟩
abbrev cX2_isMisfit : ByteArray := prog_4_method_13_code
def yX2_isMisfit : MethodName := ⟨RX2, "isMisfit", "(LRiverNames$Board;I)Z"⟩
abbrev cX2_misfits : ByteArray := prog_4_method_14_code
def yX2_misfits : MethodName := ⟨RX2, "misfits", "(LRiverNames$Board;)I"⟩
abbrev cX2_dropMisfits : ByteArray := prog_4_method_15_code
def yX2_dropMisfits : MethodName := ⟨RX2, "dropMisfits", "(LRiverNames$Board;)I"⟩
abbrev cX3_init : ByteArray := prog_5_method_1_code
def yX3_init : MethodName := ⟨RX3, "<init>", "(LRiverNames$River;)V"⟩
abbrev cX3_put : ByteArray := prog_5_method_2_code
def yX3_put : MethodName := ⟨RX3, "put", "(LRiverNames$River;I)V"⟩
abbrev cX3_lapsOver : ByteArray := prog_5_method_3_code
def yX3_lapsOver : MethodName := ⟨RX3, "lapsOver", "(LRiverNames$Town;)Z"⟩
abbrev cX3_markArea : ByteArray := prog_5_method_4_code
def yX3_markArea : MethodName := ⟨RX3, "markArea", "(LRiverNames$Sheet;)V"⟩
abbrev cX3_cells : ByteArray := prog_5_method_5_code
def yX3_cells : MethodName := ⟨RX3, "cells", "(LRiverNames$Sheet;)I"⟩
abbrev cX4_init : ByteArray := prog_6_method_1_code
def yX4_init : MethodName := ⟨RX4, "<init>", "()V"⟩
abbrev cX5_init : ByteArray := prog_7_method_1_code
def yX5_init : MethodName := ⟨RX5, "<init>", "(I)V"⟩
abbrev cX5_copyFrom : ByteArray := prog_7_method_2_code
def yX5_copyFrom : MethodName := ⟨RX5, "copyFrom", "(LRiverNames$River;)V"⟩
abbrev cX5_forget : ByteArray := prog_7_method_3_code
def yX5_forget : MethodName := ⟨RX5, "forget", "()V"⟩
abbrev cX5_addLetter : ByteArray := prog_7_method_4_code
def yX5_addLetter : MethodName := ⟨RX5, "addLetter", "(I)V"⟩
abbrev cX5_begin : ByteArray := prog_7_method_5_code
def yX5_begin : MethodName := ⟨RX5, "begin", "(IIII)V"⟩
abbrev cX5_leavesMap : ByteArray := prog_7_method_6_code
def yX5_leavesMap : MethodName := ⟨RX5, "leavesMap", "(I)Z"⟩
abbrev cX5_lengthen : ByteArray := prog_7_method_7_code
def yX5_lengthen : MethodName := ⟨RX5, "lengthen", "(I)Z"⟩
abbrev cX5_hasPlace : ByteArray := prog_7_method_8_code
def yX5_hasPlace : MethodName := ⟨RX5, "hasPlace", "(I)Z"⟩
abbrev cX5_columnAt : ByteArray := prog_7_method_9_code
def yX5_columnAt : MethodName := ⟨RX5, "columnAt", "(I)I"⟩
abbrev cX5_rowAt : ByteArray := prog_7_method_10_code
def yX5_rowAt : MethodName := ⟨RX5, "rowAt", "(I)I"⟩
abbrev cX5_letterAt : ByteArray := prog_7_method_11_code
def yX5_letterAt : MethodName := ⟨RX5, "letterAt", "(I)I"⟩
abbrev cX5_lastStart : ByteArray := prog_7_method_12_code
def yX5_lastStart : MethodName := ⟨RX5, "lastStart", "(I)I"⟩
abbrev cX5_turnBehind : ByteArray := prog_7_method_13_code
def yX5_turnBehind : MethodName := ⟨RX5, "turnBehind", "(I)I"⟩
abbrev cX5_bendOf : ByteArray := prog_7_method_14_code
def yX5_bendOf : MethodName := ⟨RX5, "bendOf", "(II)I"⟩
abbrev cX5_straightestStart : ByteArray := prog_7_method_15_code
def yX5_straightestStart : MethodName := ⟨RX5, "straightestStart", "(I)I"⟩
abbrev cX5_costOf : ByteArray := prog_7_method_16_code
def yX5_costOf : MethodName := ⟨RX5, "costOf", "(I)I"⟩
abbrev cX5_turnsNameAt : ByteArray := prog_7_method_17_code
def yX5_turnsNameAt : MethodName := ⟨RX5, "turnsNameAt", "(I)Z"⟩
abbrev cX5_isNear : ByteArray := prog_7_method_18_code
def yX5_isNear : MethodName := ⟨RX5, "isNear", "(IIII)Z"⟩
abbrev cX5_hasLetterNear : ByteArray := prog_7_method_19_code
def yX5_hasLetterNear : MethodName := ⟨RX5, "hasLetterNear", "(IIII)Z"⟩
abbrev cX5_letterOn : ByteArray := prog_7_method_20_code
def yX5_letterOn : MethodName := ⟨RX5, "letterOn", "(III)I"⟩
abbrev cX5_differentCells : ByteArray := prog_7_method_21_code
def yX5_differentCells : MethodName := ⟨RX5, "differentCells", "(LRiverNames$Sheet;)I"⟩
abbrev cX6_init : ByteArray := prog_8_method_1_code
def yX6_init : MethodName := ⟨RX6, "<init>", "()V"⟩
abbrev cX6_clear : ByteArray := prog_8_method_2_code
def yX6_clear : MethodName := ⟨RX6, "clear", "()V"⟩
abbrev cX6_markAround : ByteArray := prog_8_method_3_code
def yX6_markAround : MethodName := ⟨RX6, "markAround", "(III)V"⟩
abbrev cX6_mark : ByteArray := prog_8_method_4_code
def yX6_mark : MethodName := ⟨RX6, "mark", "(II)V"⟩
abbrev cX7_init : ByteArray := prog_9_method_1_code
def yX7_init : MethodName := ⟨RX7, "<init>", "()V"⟩
abbrev cX7_write : ByteArray := prog_9_method_2_code
def yX7_write : MethodName := ⟨RX7, "write", "(I)Z"⟩
abbrev cX8_init : ByteArray := prog_10_method_1_code
def yX8_init : MethodName := ⟨RX8, "<init>", "()V"⟩
abbrev cX8_build : ByteArray := prog_10_method_2_code
def yX8_build : MethodName := ⟨RX8, "build", "(IIIII)V"⟩
abbrev cX8_copyFrom : ByteArray := prog_10_method_3_code
def yX8_copyFrom : MethodName := ⟨RX8, "copyFrom", "(LRiverNames$Town;)V"⟩
abbrev cX8_isNear : ByteArray := prog_10_method_4_code
def yX8_isNear : MethodName := ⟨RX8, "isNear", "(III)Z"⟩
abbrev cX9_init : ByteArray := prog_1_method_1_code
def yX9_init : MethodName := ⟨RX9, "<init>", "()V"⟩
abbrev cX9_append : ByteArray := prog_1_method_2_code
def yX9_append : MethodName := ⟨RX9, "append", "(I)I"⟩
abbrev cX9_addRiver : ByteArray := prog_1_method_5_code
def yX9_addRiver : MethodName := ⟨RX9, "addRiver", "(IIIII)I"⟩
abbrev cX9_addTown : ByteArray := prog_1_method_6_code
def yX9_addTown : MethodName := ⟨RX9, "addTown", "(IIIII)I"⟩
abbrev cX9_flow : ByteArray := prog_1_method_7_code
def yX9_flow : MethodName := ⟨RX9, "flow", "(II)I"⟩
abbrev cX9_setRank : ByteArray := prog_1_method_8_code
def yX9_setRank : MethodName := ⟨RX9, "setRank", "(II)I"⟩
abbrev cX9_setHalo : ByteArray := prog_1_method_9_code
def yX9_setHalo : MethodName := ⟨RX9, "setHalo", "(II)I"⟩
abbrev cX9_setTownRank : ByteArray := prog_1_method_10_code
def yX9_setTownRank : MethodName := ⟨RX9, "setTownRank", "(II)I"⟩
abbrev cX9_setGap : ByteArray := prog_1_method_11_code
def yX9_setGap : MethodName := ⟨RX9, "setGap", "(I)I"⟩
abbrev cX9_set : ByteArray := prog_1_method_12_code
def yX9_set : MethodName := ⟨RX9, "set", "(II)I"⟩
abbrev cX9_remove : ByteArray := prog_1_method_13_code
def yX9_remove : MethodName := ⟨RX9, "remove", "(I)I"⟩
abbrev cX9_place : ByteArray := prog_1_method_14_code
def yX9_place : MethodName := ⟨RX9, "place", "(I)I"⟩
abbrev cX9_tidy : ByteArray := prog_1_method_15_code
def yX9_tidy : MethodName := ⟨RX9, "tidy", "()I"⟩
abbrev cX9_undo : ByteArray := prog_1_method_16_code
def yX9_undo : MethodName := ⟨RX9, "undo", "()I"⟩
abbrev cX9_count : ByteArray := prog_1_method_17_code
def yX9_count : MethodName := ⟨RX9, "count", "(I)I"⟩
abbrev cX9_river : ByteArray := prog_1_method_18_code
def yX9_river : MethodName := ⟨RX9, "river", "(II)I"⟩
abbrev cX9_cell : ByteArray := prog_1_method_19_code
def yX9_cell : MethodName := ⟨RX9, "cell", "(II)I"⟩
abbrev cX9_letter : ByteArray := prog_1_method_20_code
def yX9_letter : MethodName := ⟨RX9, "letter", "(II)I"⟩
abbrev cX9_town : ByteArray := prog_1_method_21_code
def yX9_town : MethodName := ⟨RX9, "town", "(II)I"⟩
abbrev cX9_label : ByteArray := prog_1_method_22_code
def yX9_label : MethodName := ⟨RX9, "label", "(II)I"⟩
abbrev cX9_written : ByteArray := prog_1_method_23_code
def yX9_written : MethodName := ⟨RX9, "written", "(II)I"⟩
abbrev cX9_bend : ByteArray := prog_1_method_24_code
def yX9_bend : MethodName := ⟨RX9, "bend", "(III)I"⟩
abbrev cX9_straightest : ByteArray := prog_1_method_25_code
def yX9_straightest : MethodName := ⟨RX9, "straightest", "(II)I"⟩
abbrev cX9_reason : ByteArray := prog_1_method_26_code
def yX9_reason : MethodName := ⟨RX9, "reason", "(II)I"⟩
abbrev cX9_best : ByteArray := prog_1_method_27_code
def yX9_best : MethodName := ⟨RX9, "best", "(II)I"⟩
abbrev cX9_rankFor : ByteArray := prog_1_method_28_code
def yX9_rankFor : MethodName := ⟨RX9, "rankFor", "(I)I"⟩
abbrev cX9_within : ByteArray := prog_1_method_29_code
def yX9_within : MethodName := ⟨RX9, "within", "(III)Z"⟩
abbrev cX9_onMap : ByteArray := prog_1_method_30_code
def yX9_onMap : MethodName := ⟨RX9, "onMap", "(II)Z"⟩
abbrev cX9_isRank : ByteArray := prog_1_method_31_code
def yX9_isRank : MethodName := ⟨RX9, "isRank", "(I)Z"⟩
abbrev cX9_isHalo : ByteArray := prog_1_method_32_code
def yX9_isHalo : MethodName := ⟨RX9, "isHalo", "(I)Z"⟩
abbrev cX9_isPlaceNumber : ByteArray := prog_1_method_33_code
def yX9_isPlaceNumber : MethodName := ⟨RX9, "isPlaceNumber", "(I)Z"⟩
abbrev cL_cell : ByteArray := method_2_code
def yL_cell : MethodName := ⟨RL, "cell", "([II)I"⟩
abbrev cL_low : ByteArray := method_3_code
def yL_low : MethodName := ⟨RL, "low", "(II)I"⟩
abbrev cL_size : ByteArray := method_8_code
def yL_size : MethodName := ⟨RL, "size", "(I)I"⟩
abbrev cL_print : ByteArray := method_4_code
def yL_print : MethodName := ⟨RL, "print", "(LRiverNames;)J"⟩
abbrev cL_refused : ByteArray := method_5_code
def yL_refused : MethodName := ⟨RL, "refused", "(LRiverNames;)Z"⟩
abbrev cL_areCells : ByteArray := method_6_code
def yL_areCells : MethodName := ⟨RL, "areCells", "(LRiverNames;I)Z"⟩
abbrev cL_areStarts : ByteArray := method_7_code
def yL_areStarts : MethodName := ⟨RL, "areStarts", "(LRiverNames;I)Z"⟩
abbrev cL_areLabels : ByteArray := method_9_code
def yL_areLabels : MethodName := ⟨RL, "areLabels", "(LRiverNames;)Z"⟩
abbrev cL_areTidied : ByteArray := method_10_code
def yL_areTidied : MethodName := ⟨RL, "areTidied", "(LRiverNames;I)Z"⟩
abbrev cL_acts : ByteArray := method_11_code
def yL_acts : MethodName := ⟨RL, "acts", "(LRiverNames;II)I"⟩
abbrev cJ9_abs_0f7a4 : ByteArray := prog_13_method_59_code
def yJ9_abs_0f7a4 : MethodName := ⟨RJ9, "abs", "(I)I"⟩
abbrev cJ9_max_7cf53 : ByteArray := prog_13_method_65_code
def yJ9_max_7cf53 : MethodName := ⟨RJ9, "max", "(II)I"⟩
abbrev cJ9_min_7cf53 : ByteArray := prog_13_method_69_code
def yJ9_min_7cf53 : MethodName := ⟨RJ9, "min", "(II)I"⟩
abbrev cJ7_fill_53178 : ByteArray := prog_15_method_103_code
def yJ7_fill_53178 : MethodName := ⟨RJ7, "fill", "([II)V"⟩
abbrev cL_law : ByteArray := code
def yL_law : MethodName := ⟨RL, "law", "([I)Z"⟩
def rn_cl : List vw_C := [(RX0, TX0, 7), (RX1, TX1, 4), (RX2, TX2, 1), (RX3, TX3, 2), (RX4, TX4, 5), (RX5, TX5, 9), (RX6, TX6, 2), (RX7, TX7, 2), (RX8, TX8, 5), (RX9, TX9, 4), (RX9, TX9, 4)]
def rn_nf : Nat → Nat := fun c => match c with
  | 0 => 7
  | 1 => 4
  | 2 => 1
  | 3 => 2
  | 4 => 5
  | 5 => 9
  | 6 => 2
  | 7 => 2
  | 8 => 5
  | 9 => 4
  | 10 => 4
  | _ => 0
def rn_fk : Nat → Nat → Nat := fun c k => match c with
  | 0 => [0, 0, 0, 0, 2, 2, 2].getD k 0
  | 1 => [0, 2, 2, 2].getD k 0
  | 2 => [2].getD k 0
  | 3 => [2, 0].getD k 0
  | 4 => [2, 0, 0, 0, 1].getD k 0
  | 5 => [0, 0, 0, 0, 0, 2, 2, 2, 2].getD k 0
  | 6 => [0, 2].getD k 0
  | 7 => [0, 2].getD k 0
  | 8 => [0, 0, 0, 0, 0].getD k 0
  | 9 => [2, 2, 2, 2].getD k 0
  | 10 => [2, 2, 2, 2].getD k 0
  | _ => 0
def rn_cn : Nat → String := fun c => match c with
  | 0 => RX0
  | 1 => RX1
  | 2 => RX2
  | 3 => RX3
  | 4 => RX4
  | 5 => RX5
  | 6 => RX6
  | 7 => RX7
  | 8 => RX8
  | _ => RX9
theorem rn_in0 : ∀ w ∈ wsX00, w ∈ lw_tbl := by decide +kernel
theorem rn_in1 : ∀ w ∈ wsX10, w ∈ lw_tbl := by decide +kernel
theorem rn_in2 : ∀ w ∈ wsX20, w ∈ lw_tbl := by decide +kernel
theorem rn_in3 : ∀ w ∈ wsX30, w ∈ lw_tbl := by decide +kernel
theorem rn_in4 : ∀ w ∈ wsX40, w ∈ lw_tbl := by decide +kernel
theorem rn_in5 : ∀ w ∈ wsX50, w ∈ lw_tbl := by decide +kernel
theorem rn_in6 : ∀ w ∈ wsX60, w ∈ lw_tbl := by decide +kernel
theorem rn_in7 : ∀ w ∈ wsX70, w ∈ lw_tbl := by decide +kernel
theorem rn_in8 : ∀ w ∈ wsX80, w ∈ lw_tbl := by decide +kernel
theorem rn_in9 : ∀ w ∈ wsX90, w ∈ lw_tbl := by decide +kernel
