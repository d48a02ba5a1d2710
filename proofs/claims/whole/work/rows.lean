section
-- ===== PART A: goes FIRST, ahead of the names: the tables' words, and 'selects' of the private methods out of them =====
/-- a private method of a class that the tables say can be made, by its rows of tables_1 -/
def lw_okq (q : MethodName × Nat) : Prop := (q.1.cls ≠ "java/lang/invoke/MethodHandle" ∧ q.1.cls ≠ "java/lang/invoke/VarHandle") ∧ Cond.instantiable q.1.cls q.2 ∈ tables_1 ∧ Cond.privateMethod q.1 ∈ tables_1 ∧ Cond.instanceMethod q.1 ∈ tables_1
theorem lw_p0 : lw_okq (⟨"RiverNames$Board", "copyRiver", "(LRiverNames$River;)V"⟩, 7) := ⟨⟨by decide +kernel, by decide +kernel⟩, List.mem_of_getElem? (i := 74) (by decide +kernel), List.mem_of_getElem? (i := 298) (by decide +kernel), List.mem_of_getElem? (i := 299) (by decide +kernel)⟩
theorem lw_p1 : lw_okq (⟨"RiverNames$Board", "copyTown", "(LRiverNames$Town;)V"⟩, 7) := ⟨⟨by decide +kernel, by decide +kernel⟩, List.mem_of_getElem? (i := 74) (by decide +kernel), List.mem_of_getElem? (i := 321) (by decide +kernel), List.mem_of_getElem? (i := 322) (by decide +kernel)⟩
theorem lw_p2 : lw_okq (⟨"RiverNames$Board", "copyLabel", "(LRiverNames$Label;)V"⟩, 7) := ⟨⟨by decide +kernel, by decide +kernel⟩, List.mem_of_getElem? (i := 74) (by decide +kernel), List.mem_of_getElem? (i := 341) (by decide +kernel), List.mem_of_getElem? (i := 342) (by decide +kernel)⟩
theorem lw_p3 : lw_okq (⟨"RiverNames$Reader", "nextToken", "()V"⟩, 5) := ⟨⟨by decide +kernel, by decide +kernel⟩, List.mem_of_getElem? (i := 28) (by decide +kernel), List.mem_of_getElem? (i := 357) (by decide +kernel), List.mem_of_getElem? (i := 358) (by decide +kernel)⟩
theorem lw_p4 : lw_okq (⟨"RiverNames$Reader", "tokenIs", "(Ljava/lang/String;)Z"⟩, 5) := ⟨⟨by decide +kernel, by decide +kernel⟩, List.mem_of_getElem? (i := 28) (by decide +kernel), List.mem_of_getElem? (i := 373) (by decide +kernel), List.mem_of_getElem? (i := 374) (by decide +kernel)⟩
theorem lw_p5 : lw_okq (⟨"RiverNames$Reader", "readRiver", "(LRiverNames$River;)V"⟩, 5) := ⟨⟨by decide +kernel, by decide +kernel⟩, List.mem_of_getElem? (i := 28) (by decide +kernel), List.mem_of_getElem? (i := 426) (by decide +kernel), List.mem_of_getElem? (i := 427) (by decide +kernel)⟩
theorem lw_p6 : lw_okq (⟨"RiverNames$Reader", "readName", "(LRiverNames$River;)V"⟩, 5) := ⟨⟨by decide +kernel, by decide +kernel⟩, List.mem_of_getElem? (i := 28) (by decide +kernel), List.mem_of_getElem? (i := 430) (by decide +kernel), List.mem_of_getElem? (i := 431) (by decide +kernel)⟩
theorem lw_p7 : lw_okq (⟨"RiverNames$Reader", "refuseUnless", "(Z)V"⟩, 5) := ⟨⟨by decide +kernel, by decide +kernel⟩, List.mem_of_getElem? (i := 28) (by decide +kernel), List.mem_of_getElem? (i := 434) (by decide +kernel), List.mem_of_getElem? (i := 435) (by decide +kernel)⟩
theorem lw_p8 : lw_okq (⟨"RiverNames$Reader", "readNumber", "(II)I"⟩, 5) := ⟨⟨by decide +kernel, by decide +kernel⟩, List.mem_of_getElem? (i := 28) (by decide +kernel), List.mem_of_getElem? (i := 443) (by decide +kernel), List.mem_of_getElem? (i := 444) (by decide +kernel)⟩
theorem lw_p9 : lw_okq (⟨"RiverNames$Reader", "readMoves", "(LRiverNames$River;)V"⟩, 5) := ⟨⟨by decide +kernel, by decide +kernel⟩, List.mem_of_getElem? (i := 28) (by decide +kernel), List.mem_of_getElem? (i := 451) (by decide +kernel), List.mem_of_getElem? (i := 452) (by decide +kernel)⟩
theorem lw_p10 : lw_okq (⟨"RiverNames$Reader", "readSemicolon", "()V"⟩, 5) := ⟨⟨by decide +kernel, by decide +kernel⟩, List.mem_of_getElem? (i := 28) (by decide +kernel), List.mem_of_getElem? (i := 482) (by decide +kernel), List.mem_of_getElem? (i := 483) (by decide +kernel)⟩
theorem lw_p11 : lw_okq (⟨"RiverNames$Reader", "readTown", "(LRiverNames$Town;)V"⟩, 5) := ⟨⟨by decide +kernel, by decide +kernel⟩, List.mem_of_getElem? (i := 28) (by decide +kernel), List.mem_of_getElem? (i := 488) (by decide +kernel), List.mem_of_getElem? (i := 489) (by decide +kernel)⟩
theorem lw_p12 : lw_okq (⟨"RiverNames$History", "dropOldest", "()V"⟩, 4) := ⟨⟨by decide +kernel, by decide +kernel⟩, List.mem_of_getElem? (i := 67) (by decide +kernel), List.mem_of_getElem? (i := 497) (by decide +kernel), List.mem_of_getElem? (i := 498) (by decide +kernel)⟩
theorem lw_p13 : lw_okq (⟨"RiverNames$Judge", "isCrowded", "(LRiverNames$Board;LRiverNames$River;II)Z"⟩, 1) := ⟨⟨by decide +kernel, by decide +kernel⟩, List.mem_of_getElem? (i := 222) (by decide +kernel), List.mem_of_getElem? (i := 562) (by decide +kernel), List.mem_of_getElem? (i := 563) (by decide +kernel)⟩
theorem lw_p14 : lw_okq (⟨"RiverNames$Judge", "townRankAt", "(LRiverNames$Board;LRiverNames$River;I)I"⟩, 1) := ⟨⟨by decide +kernel, by decide +kernel⟩, List.mem_of_getElem? (i := 222) (by decide +kernel), List.mem_of_getElem? (i := 570) (by decide +kernel), List.mem_of_getElem? (i := 571) (by decide +kernel)⟩
theorem lw_p15 : lw_okq (⟨"RiverNames$Judge", "labelRankAt", "(LRiverNames$Board;LRiverNames$River;I)I"⟩, 1) := ⟨⟨by decide +kernel, by decide +kernel⟩, List.mem_of_getElem? (i := 222) (by decide +kernel), List.mem_of_getElem? (i := 582) (by decide +kernel), List.mem_of_getElem? (i := 583) (by decide +kernel)⟩
def lw_privs_1 : List (MethodName × Nat) := [(⟨"RiverNames$Board", "copyRiver", "(LRiverNames$River;)V"⟩, 7), (⟨"RiverNames$Board", "copyTown", "(LRiverNames$Town;)V"⟩, 7), (⟨"RiverNames$Board", "copyLabel", "(LRiverNames$Label;)V"⟩, 7), (⟨"RiverNames$Reader", "nextToken", "()V"⟩, 5), (⟨"RiverNames$Reader", "tokenIs", "(Ljava/lang/String;)Z"⟩, 5), (⟨"RiverNames$Reader", "readRiver", "(LRiverNames$River;)V"⟩, 5), (⟨"RiverNames$Reader", "readName", "(LRiverNames$River;)V"⟩, 5), (⟨"RiverNames$Reader", "refuseUnless", "(Z)V"⟩, 5), (⟨"RiverNames$Reader", "readNumber", "(II)I"⟩, 5), (⟨"RiverNames$Reader", "readMoves", "(LRiverNames$River;)V"⟩, 5), (⟨"RiverNames$Reader", "readSemicolon", "()V"⟩, 5), (⟨"RiverNames$Reader", "readTown", "(LRiverNames$Town;)V"⟩, 5), (⟨"RiverNames$History", "dropOldest", "()V"⟩, 4), (⟨"RiverNames$Judge", "isCrowded", "(LRiverNames$Board;LRiverNames$River;II)Z"⟩, 1), (⟨"RiverNames$Judge", "townRankAt", "(LRiverNames$Board;LRiverNames$River;I)I"⟩, 1), (⟨"RiverNames$Judge", "labelRankAt", "(LRiverNames$Board;LRiverNames$River;I)I"⟩, 1)]
theorem lw_r1 : ∀ q ∈ lw_privs_1, lw_okq q := List.forall_mem_cons.mpr ⟨lw_p0, List.forall_mem_cons.mpr ⟨lw_p1, List.forall_mem_cons.mpr ⟨lw_p2, List.forall_mem_cons.mpr ⟨lw_p3, List.forall_mem_cons.mpr ⟨lw_p4, List.forall_mem_cons.mpr ⟨lw_p5, List.forall_mem_cons.mpr ⟨lw_p6, List.forall_mem_cons.mpr ⟨lw_p7, List.forall_mem_cons.mpr ⟨lw_p8, List.forall_mem_cons.mpr ⟨lw_p9, List.forall_mem_cons.mpr ⟨lw_p10, List.forall_mem_cons.mpr ⟨lw_p11, List.forall_mem_cons.mpr ⟨lw_p12, List.forall_mem_cons.mpr ⟨lw_p13, List.forall_mem_cons.mpr ⟨lw_p14, List.forall_mem_cons.mpr ⟨lw_p15, fun _ h => absurd h List.not_mem_nil⟩⟩⟩⟩⟩⟩⟩⟩⟩⟩⟩⟩⟩⟩⟩⟩
theorem lw_p16 : lw_okq (⟨"RiverNames$River", "isNear", "(IIII)Z"⟩, 9) := ⟨⟨by decide +kernel, by decide +kernel⟩, List.mem_of_getElem? (i := 85) (by decide +kernel), List.mem_of_getElem? (i := 590) (by decide +kernel), List.mem_of_getElem? (i := 591) (by decide +kernel)⟩
theorem lw_p17 : lw_okq (⟨"RiverNames$Judge", "letterRiver", "(LRiverNames$Board;LRiverNames$River;I)V"⟩, 1) := ⟨⟨by decide +kernel, by decide +kernel⟩, List.mem_of_getElem? (i := 222) (by decide +kernel), List.mem_of_getElem? (i := 616) (by decide +kernel), List.mem_of_getElem? (i := 617) (by decide +kernel)⟩
theorem lw_p18 : lw_okq (⟨"RiverNames$Judge", "noteRivals", "(LRiverNames$Board;LRiverNames$River;)V"⟩, 1) := ⟨⟨by decide +kernel, by decide +kernel⟩, List.mem_of_getElem? (i := 222) (by decide +kernel), List.mem_of_getElem? (i := 620) (by decide +kernel), List.mem_of_getElem? (i := 621) (by decide +kernel)⟩
theorem lw_p19 : lw_okq (⟨"RiverNames$Judge", "bestStartAsNoted", "(LRiverNames$Board;LRiverNames$River;)I"⟩, 1) := ⟨⟨by decide +kernel, by decide +kernel⟩, List.mem_of_getElem? (i := 222) (by decide +kernel), List.mem_of_getElem? (i := 624) (by decide +kernel), List.mem_of_getElem? (i := 625) (by decide +kernel)⟩
theorem lw_p20 : lw_okq (⟨"RiverNames$River", "turnBehind", "(I)I"⟩, 9) := ⟨⟨by decide +kernel, by decide +kernel⟩, List.mem_of_getElem? (i := 85) (by decide +kernel), List.mem_of_getElem? (i := 636) (by decide +kernel), List.mem_of_getElem? (i := 637) (by decide +kernel)⟩
theorem lw_p21 : lw_okq (⟨"RiverNames$Judge", "rivalRank", "(LRiverNames$River;I)I"⟩, 1) := ⟨⟨by decide +kernel, by decide +kernel⟩, List.mem_of_getElem? (i := 222) (by decide +kernel), List.mem_of_getElem? (i := 641) (by decide +kernel), List.mem_of_getElem? (i := 642) (by decide +kernel)⟩
theorem lw_p22 : lw_okq (⟨"RiverNames$Judge", "isMisfit", "(LRiverNames$Board;I)Z"⟩, 1) := ⟨⟨by decide +kernel, by decide +kernel⟩, List.mem_of_getElem? (i := 222) (by decide +kernel), List.mem_of_getElem? (i := 655) (by decide +kernel), List.mem_of_getElem? (i := 656) (by decide +kernel)⟩
theorem lw_p23 : lw_okq (⟨"RiverNames$Sheet", "mark", "(II)V"⟩, 2) := ⟨⟨by decide +kernel, by decide +kernel⟩, List.mem_of_getElem? (i := 232) (by decide +kernel), List.mem_of_getElem? (i := 715) (by decide +kernel), List.mem_of_getElem? (i := 716) (by decide +kernel)⟩
theorem lw_p24 : lw_okq (⟨"RiverNamesModel", "records", "()V"⟩, 15) := ⟨⟨by decide +kernel, by decide +kernel⟩, List.mem_of_getElem? (i := 830) (by decide +kernel), List.mem_of_getElem? (i := 902) (by decide +kernel), List.mem_of_getElem? (i := 903) (by decide +kernel)⟩
theorem lw_p25 : lw_okq (⟨"RiverNamesModel", "comesRiver", "(IIIII)I"⟩, 15) := ⟨⟨by decide +kernel, by decide +kernel⟩, List.mem_of_getElem? (i := 830) (by decide +kernel), List.mem_of_getElem? (i := 906) (by decide +kernel), List.mem_of_getElem? (i := 907) (by decide +kernel)⟩
theorem lw_p26 : lw_okq (⟨"RiverNamesModel", "comesTown", "(IIIII)I"⟩, 15) := ⟨⟨by decide +kernel, by decide +kernel⟩, List.mem_of_getElem? (i := 830) (by decide +kernel), List.mem_of_getElem? (i := 920) (by decide +kernel), List.mem_of_getElem? (i := 921) (by decide +kernel)⟩
theorem lw_p27 : lw_okq (⟨"RiverNamesModel", "isRiver", "(I)Z"⟩, 15) := ⟨⟨by decide +kernel, by decide +kernel⟩, List.mem_of_getElem? (i := 830) (by decide +kernel), List.mem_of_getElem? (i := 928) (by decide +kernel), List.mem_of_getElem? (i := 929) (by decide +kernel)⟩
theorem lw_p28 : lw_okq (⟨"RiverNamesModel", "walks", "(I)V"⟩, 15) := ⟨⟨by decide +kernel, by decide +kernel⟩, List.mem_of_getElem? (i := 830) (by decide +kernel), List.mem_of_getElem? (i := 932) (by decide +kernel), List.mem_of_getElem? (i := 933) (by decide +kernel)⟩
theorem lw_p29 : lw_okq (⟨"RiverNamesModel", "of", "(II)I"⟩, 15) := ⟨⟨by decide +kernel, by decide +kernel⟩, List.mem_of_getElem? (i := 830) (by decide +kernel), List.mem_of_getElem? (i := 936) (by decide +kernel), List.mem_of_getElem? (i := 937) (by decide +kernel)⟩
theorem lw_p30 : lw_okq (⟨"RiverNamesModel", "lengthens", "(II)V"⟩, 15) := ⟨⟨by decide +kernel, by decide +kernel⟩, List.mem_of_getElem? (i := 830) (by decide +kernel), List.mem_of_getElem? (i := 946) (by decide +kernel), List.mem_of_getElem? (i := 947) (by decide +kernel)⟩
theorem lw_p31 : lw_okq (⟨"RiverNamesModel", "puts", "(II)I"⟩, 15) := ⟨⟨by decide +kernel, by decide +kernel⟩, List.mem_of_getElem? (i := 830) (by decide +kernel), List.mem_of_getElem? (i := 954) (by decide +kernel), List.mem_of_getElem? (i := 955) (by decide +kernel)⟩
def lw_privs_2 : List (MethodName × Nat) := [(⟨"RiverNames$River", "isNear", "(IIII)Z"⟩, 9), (⟨"RiverNames$Judge", "letterRiver", "(LRiverNames$Board;LRiverNames$River;I)V"⟩, 1), (⟨"RiverNames$Judge", "noteRivals", "(LRiverNames$Board;LRiverNames$River;)V"⟩, 1), (⟨"RiverNames$Judge", "bestStartAsNoted", "(LRiverNames$Board;LRiverNames$River;)I"⟩, 1), (⟨"RiverNames$River", "turnBehind", "(I)I"⟩, 9), (⟨"RiverNames$Judge", "rivalRank", "(LRiverNames$River;I)I"⟩, 1), (⟨"RiverNames$Judge", "isMisfit", "(LRiverNames$Board;I)Z"⟩, 1), (⟨"RiverNames$Sheet", "mark", "(II)V"⟩, 2), (⟨"RiverNamesModel", "records", "()V"⟩, 15), (⟨"RiverNamesModel", "comesRiver", "(IIIII)I"⟩, 15), (⟨"RiverNamesModel", "comesTown", "(IIIII)I"⟩, 15), (⟨"RiverNamesModel", "isRiver", "(I)Z"⟩, 15), (⟨"RiverNamesModel", "walks", "(I)V"⟩, 15), (⟨"RiverNamesModel", "of", "(II)I"⟩, 15), (⟨"RiverNamesModel", "lengthens", "(II)V"⟩, 15), (⟨"RiverNamesModel", "puts", "(II)I"⟩, 15)]
theorem lw_r2 : ∀ q ∈ lw_privs_2, lw_okq q := List.forall_mem_cons.mpr ⟨lw_p16, List.forall_mem_cons.mpr ⟨lw_p17, List.forall_mem_cons.mpr ⟨lw_p18, List.forall_mem_cons.mpr ⟨lw_p19, List.forall_mem_cons.mpr ⟨lw_p20, List.forall_mem_cons.mpr ⟨lw_p21, List.forall_mem_cons.mpr ⟨lw_p22, List.forall_mem_cons.mpr ⟨lw_p23, List.forall_mem_cons.mpr ⟨lw_p24, List.forall_mem_cons.mpr ⟨lw_p25, List.forall_mem_cons.mpr ⟨lw_p26, List.forall_mem_cons.mpr ⟨lw_p27, List.forall_mem_cons.mpr ⟨lw_p28, List.forall_mem_cons.mpr ⟨lw_p29, List.forall_mem_cons.mpr ⟨lw_p30, List.forall_mem_cons.mpr ⟨lw_p31, fun _ h => absurd h List.not_mem_nil⟩⟩⟩⟩⟩⟩⟩⟩⟩⟩⟩⟩⟩⟩⟩⟩
theorem lw_p32 : lw_okq (⟨"RiverNamesModel", "isTownNumber", "(I)Z"⟩, 15) := ⟨⟨by decide +kernel, by decide +kernel⟩, List.mem_of_getElem? (i := 830) (by decide +kernel), List.mem_of_getElem? (i := 966) (by decide +kernel), List.mem_of_getElem? (i := 967) (by decide +kernel)⟩
theorem lw_p33 : lw_okq (⟨"RiverNamesModel", "why", "(IIII)I"⟩, 15) := ⟨⟨by decide +kernel, by decide +kernel⟩, List.mem_of_getElem? (i := 830) (by decide +kernel), List.mem_of_getElem? (i := 981) (by decide +kernel), List.mem_of_getElem? (i := 982) (by decide +kernel)⟩
theorem lw_p34 : lw_okq (⟨"RiverNamesModel", "hasPlaces", "(III)Z"⟩, 15) := ⟨⟨by decide +kernel, by decide +kernel⟩, List.mem_of_getElem? (i := 830) (by decide +kernel), List.mem_of_getElem? (i := 985) (by decide +kernel), List.mem_of_getElem? (i := 986) (by decide +kernel)⟩
theorem lw_p35 : lw_okq (⟨"RiverNamesModel", "marks", "(II)I"⟩, 15) := ⟨⟨by decide +kernel, by decide +kernel⟩, List.mem_of_getElem? (i := 830) (by decide +kernel), List.mem_of_getElem? (i := 989) (by decide +kernel), List.mem_of_getElem? (i := 990) (by decide +kernel)⟩
theorem lw_p36 : lw_okq (⟨"RiverNamesModel", "marksMore", "(II)I"⟩, 15) := ⟨⟨by decide +kernel, by decide +kernel⟩, List.mem_of_getElem? (i := 830) (by decide +kernel), List.mem_of_getElem? (i := 993) (by decide +kernel), List.mem_of_getElem? (i := 994) (by decide +kernel)⟩
theorem lw_p37 : lw_okq (⟨"RiverNamesModel", "meetsTown", "(I)Z"⟩, 15) := ⟨⟨by decide +kernel, by decide +kernel⟩, List.mem_of_getElem? (i := 830) (by decide +kernel), List.mem_of_getElem? (i := 997) (by decide +kernel), List.mem_of_getElem? (i := 998) (by decide +kernel)⟩
theorem lw_p38 : lw_okq (⟨"RiverNamesModel", "meetsLabel", "(I)Z"⟩, 15) := ⟨⟨by decide +kernel, by decide +kernel⟩, List.mem_of_getElem? (i := 830) (by decide +kernel), List.mem_of_getElem? (i := 1001) (by decide +kernel), List.mem_of_getElem? (i := 1002) (by decide +kernel)⟩
theorem lw_p39 : lw_okq (⟨"RiverNamesModel", "comesLabel", "(II)I"⟩, 15) := ⟨⟨by decide +kernel, by decide +kernel⟩, List.mem_of_getElem? (i := 830) (by decide +kernel), List.mem_of_getElem? (i := 1005) (by decide +kernel), List.mem_of_getElem? (i := 1006) (by decide +kernel)⟩
theorem lw_p40 : lw_okq (⟨"RiverNamesModel", "isLabel", "(I)Z"⟩, 15) := ⟨⟨by decide +kernel, by decide +kernel⟩, List.mem_of_getElem? (i := 830) (by decide +kernel), List.mem_of_getElem? (i := 1013) (by decide +kernel), List.mem_of_getElem? (i := 1014) (by decide +kernel)⟩
theorem lw_p41 : lw_okq (⟨"RiverNamesModel", "goesLabel", "(I)V"⟩, 15) := ⟨⟨by decide +kernel, by decide +kernel⟩, List.mem_of_getElem? (i := 830) (by decide +kernel), List.mem_of_getElem? (i := 1017) (by decide +kernel), List.mem_of_getElem? (i := 1018) (by decide +kernel)⟩
theorem lw_p42 : lw_okq (⟨"RiverNamesModel", "bestStart", "(I)I"⟩, 15) := ⟨⟨by decide +kernel, by decide +kernel⟩, List.mem_of_getElem? (i := 830) (by decide +kernel), List.mem_of_getElem? (i := 1025) (by decide +kernel), List.mem_of_getElem? (i := 1026) (by decide +kernel)⟩
theorem lw_p43 : lw_okq (⟨"RiverNamesModel", "cost", "(II)I"⟩, 15) := ⟨⟨by decide +kernel, by decide +kernel⟩, List.mem_of_getElem? (i := 830) (by decide +kernel), List.mem_of_getElem? (i := 1029) (by decide +kernel), List.mem_of_getElem? (i := 1030) (by decide +kernel)⟩
theorem lw_p44 : lw_okq (⟨"RiverNamesModel", "bendOf", "(III)I"⟩, 15) := ⟨⟨by decide +kernel, by decide +kernel⟩, List.mem_of_getElem? (i := 830) (by decide +kernel), List.mem_of_getElem? (i := 1033) (by decide +kernel), List.mem_of_getElem? (i := 1034) (by decide +kernel)⟩
theorem lw_p45 : lw_okq (⟨"RiverNamesModel", "whyLabel", "(I)I"⟩, 15) := ⟨⟨by decide +kernel, by decide +kernel⟩, List.mem_of_getElem? (i := 830) (by decide +kernel), List.mem_of_getElem? (i := 1044) (by decide +kernel), List.mem_of_getElem? (i := 1045) (by decide +kernel)⟩
theorem lw_p46 : lw_okq (⟨"RiverNamesModel", "costs", "()I"⟩, 15) := ⟨⟨by decide +kernel, by decide +kernel⟩, List.mem_of_getElem? (i := 830) (by decide +kernel), List.mem_of_getElem? (i := 1052) (by decide +kernel), List.mem_of_getElem? (i := 1053) (by decide +kernel)⟩
theorem lw_p47 : lw_okq (⟨"RiverNamesModel", "wrong", "()I"⟩, 15) := ⟨⟨by decide +kernel, by decide +kernel⟩, List.mem_of_getElem? (i := 830) (by decide +kernel), List.mem_of_getElem? (i := 1056) (by decide +kernel), List.mem_of_getElem? (i := 1057) (by decide +kernel)⟩
def lw_privs_3 : List (MethodName × Nat) := [(⟨"RiverNamesModel", "isTownNumber", "(I)Z"⟩, 15), (⟨"RiverNamesModel", "why", "(IIII)I"⟩, 15), (⟨"RiverNamesModel", "hasPlaces", "(III)Z"⟩, 15), (⟨"RiverNamesModel", "marks", "(II)I"⟩, 15), (⟨"RiverNamesModel", "marksMore", "(II)I"⟩, 15), (⟨"RiverNamesModel", "meetsTown", "(I)Z"⟩, 15), (⟨"RiverNamesModel", "meetsLabel", "(I)Z"⟩, 15), (⟨"RiverNamesModel", "comesLabel", "(II)I"⟩, 15), (⟨"RiverNamesModel", "isLabel", "(I)Z"⟩, 15), (⟨"RiverNamesModel", "goesLabel", "(I)V"⟩, 15), (⟨"RiverNamesModel", "bestStart", "(I)I"⟩, 15), (⟨"RiverNamesModel", "cost", "(II)I"⟩, 15), (⟨"RiverNamesModel", "bendOf", "(III)I"⟩, 15), (⟨"RiverNamesModel", "whyLabel", "(I)I"⟩, 15), (⟨"RiverNamesModel", "costs", "()I"⟩, 15), (⟨"RiverNamesModel", "wrong", "()I"⟩, 15)]
theorem lw_r3 : ∀ q ∈ lw_privs_3, lw_okq q := List.forall_mem_cons.mpr ⟨lw_p32, List.forall_mem_cons.mpr ⟨lw_p33, List.forall_mem_cons.mpr ⟨lw_p34, List.forall_mem_cons.mpr ⟨lw_p35, List.forall_mem_cons.mpr ⟨lw_p36, List.forall_mem_cons.mpr ⟨lw_p37, List.forall_mem_cons.mpr ⟨lw_p38, List.forall_mem_cons.mpr ⟨lw_p39, List.forall_mem_cons.mpr ⟨lw_p40, List.forall_mem_cons.mpr ⟨lw_p41, List.forall_mem_cons.mpr ⟨lw_p42, List.forall_mem_cons.mpr ⟨lw_p43, List.forall_mem_cons.mpr ⟨lw_p44, List.forall_mem_cons.mpr ⟨lw_p45, List.forall_mem_cons.mpr ⟨lw_p46, List.forall_mem_cons.mpr ⟨lw_p47, fun _ h => absurd h List.not_mem_nil⟩⟩⟩⟩⟩⟩⟩⟩⟩⟩⟩⟩⟩⟩⟩⟩
theorem lw_p48 : lw_okq (⟨"RiverNamesModel", "without", "()I"⟩, 15) := ⟨⟨by decide +kernel, by decide +kernel⟩, List.mem_of_getElem? (i := 830) (by decide +kernel), List.mem_of_getElem? (i := 1060) (by decide +kernel), List.mem_of_getElem? (i := 1061) (by decide +kernel)⟩
theorem lw_p49 : lw_okq (⟨"RiverNamesModel", "labelsOf", "(I)I"⟩, 15) := ⟨⟨by decide +kernel, by decide +kernel⟩, List.mem_of_getElem? (i := 830) (by decide +kernel), List.mem_of_getElem? (i := 1064) (by decide +kernel), List.mem_of_getElem? (i := 1065) (by decide +kernel)⟩
theorem lw_p50 : lw_okq (⟨"RiverNamesModel", "covered", "()I"⟩, 15) := ⟨⟨by decide +kernel, by decide +kernel⟩, List.mem_of_getElem? (i := 830) (by decide +kernel), List.mem_of_getElem? (i := 1068) (by decide +kernel), List.mem_of_getElem? (i := 1069) (by decide +kernel)⟩
theorem lw_p51 : lw_okq (⟨"RiverNamesModel", "differentCells", "(I)I"⟩, 15) := ⟨⟨by decide +kernel, by decide +kernel⟩, List.mem_of_getElem? (i := 830) (by decide +kernel), List.mem_of_getElem? (i := 1076) (by decide +kernel), List.mem_of_getElem? (i := 1077) (by decide +kernel)⟩
theorem lw_p52 : lw_okq (⟨"RiverNamesModel", "isTurned", "(II)Z"⟩, 15) := ⟨⟨by decide +kernel, by decide +kernel⟩, List.mem_of_getElem? (i := 830) (by decide +kernel), List.mem_of_getElem? (i := 1096) (by decide +kernel), List.mem_of_getElem? (i := 1097) (by decide +kernel)⟩
theorem lw_p53 : lw_okq (⟨"RiverNamesModel", "townsOf", "(II)I"⟩, 15) := ⟨⟨by decide +kernel, by decide +kernel⟩, List.mem_of_getElem? (i := 830) (by decide +kernel), List.mem_of_getElem? (i := 1100) (by decide +kernel), List.mem_of_getElem? (i := 1101) (by decide +kernel)⟩
theorem lw_p54 : lw_okq (⟨"RiverNamesModel", "placeOn", "(III)I"⟩, 15) := ⟨⟨by decide +kernel, by decide +kernel⟩, List.mem_of_getElem? (i := 830) (by decide +kernel), List.mem_of_getElem? (i := 1108) (by decide +kernel), List.mem_of_getElem? (i := 1109) (by decide +kernel)⟩
theorem lw_p55 : lw_okq (⟨"RiverNamesModel", "keeps", "()V"⟩, 15) := ⟨⟨by decide +kernel, by decide +kernel⟩, List.mem_of_getElem? (i := 830) (by decide +kernel), List.mem_of_getElem? (i := 1144) (by decide +kernel), List.mem_of_getElem? (i := 1145) (by decide +kernel)⟩
theorem lw_p56 : lw_okq (⟨"RiverNamesModel", "nextToken", "()V"⟩, 15) := ⟨⟨by decide +kernel, by decide +kernel⟩, List.mem_of_getElem? (i := 830) (by decide +kernel), List.mem_of_getElem? (i := 1148) (by decide +kernel), List.mem_of_getElem? (i := 1149) (by decide +kernel)⟩
theorem lw_p57 : lw_okq (⟨"RiverNamesModel", "isSort", "(III)Z"⟩, 15) := ⟨⟨by decide +kernel, by decide +kernel⟩, List.mem_of_getElem? (i := 830) (by decide +kernel), List.mem_of_getElem? (i := 1152) (by decide +kernel), List.mem_of_getElem? (i := 1153) (by decide +kernel)⟩
theorem lw_p58 : lw_okq (⟨"RiverNamesModel", "isRiverWord", "()Z"⟩, 15) := ⟨⟨by decide +kernel, by decide +kernel⟩, List.mem_of_getElem? (i := 830) (by decide +kernel), List.mem_of_getElem? (i := 1156) (by decide +kernel), List.mem_of_getElem? (i := 1157) (by decide +kernel)⟩
theorem lw_p59 : lw_okq (⟨"RiverNamesModel", "takesRiver", "()Z"⟩, 15) := ⟨⟨by decide +kernel, by decide +kernel⟩, List.mem_of_getElem? (i := 830) (by decide +kernel), List.mem_of_getElem? (i := 1160) (by decide +kernel), List.mem_of_getElem? (i := 1161) (by decide +kernel)⟩
theorem lw_p60 : lw_okq (⟨"RiverNamesModel", "isNameToken", "()Z"⟩, 15) := ⟨⟨by decide +kernel, by decide +kernel⟩, List.mem_of_getElem? (i := 830) (by decide +kernel), List.mem_of_getElem? (i := 1164) (by decide +kernel), List.mem_of_getElem? (i := 1165) (by decide +kernel)⟩
theorem lw_p61 : lw_okq (⟨"RiverNamesModel", "takesNumber", "(II)Z"⟩, 15) := ⟨⟨by decide +kernel, by decide +kernel⟩, List.mem_of_getElem? (i := 830) (by decide +kernel), List.mem_of_getElem? (i := 1168) (by decide +kernel), List.mem_of_getElem? (i := 1169) (by decide +kernel)⟩
theorem lw_p62 : lw_okq (⟨"RiverNamesModel", "takesMoves", "()Z"⟩, 15) := ⟨⟨by decide +kernel, by decide +kernel⟩, List.mem_of_getElem? (i := 830) (by decide +kernel), List.mem_of_getElem? (i := 1172) (by decide +kernel), List.mem_of_getElem? (i := 1173) (by decide +kernel)⟩
theorem lw_p63 : lw_okq (⟨"RiverNamesModel", "takesSemicolon", "()Z"⟩, 15) := ⟨⟨by decide +kernel, by decide +kernel⟩, List.mem_of_getElem? (i := 830) (by decide +kernel), List.mem_of_getElem? (i := 1176) (by decide +kernel), List.mem_of_getElem? (i := 1177) (by decide +kernel)⟩
def lw_privs_4 : List (MethodName × Nat) := [(⟨"RiverNamesModel", "without", "()I"⟩, 15), (⟨"RiverNamesModel", "labelsOf", "(I)I"⟩, 15), (⟨"RiverNamesModel", "covered", "()I"⟩, 15), (⟨"RiverNamesModel", "differentCells", "(I)I"⟩, 15), (⟨"RiverNamesModel", "isTurned", "(II)Z"⟩, 15), (⟨"RiverNamesModel", "townsOf", "(II)I"⟩, 15), (⟨"RiverNamesModel", "placeOn", "(III)I"⟩, 15), (⟨"RiverNamesModel", "keeps", "()V"⟩, 15), (⟨"RiverNamesModel", "nextToken", "()V"⟩, 15), (⟨"RiverNamesModel", "isSort", "(III)Z"⟩, 15), (⟨"RiverNamesModel", "isRiverWord", "()Z"⟩, 15), (⟨"RiverNamesModel", "takesRiver", "()Z"⟩, 15), (⟨"RiverNamesModel", "isNameToken", "()Z"⟩, 15), (⟨"RiverNamesModel", "takesNumber", "(II)Z"⟩, 15), (⟨"RiverNamesModel", "takesMoves", "()Z"⟩, 15), (⟨"RiverNamesModel", "takesSemicolon", "()Z"⟩, 15)]
theorem lw_r4 : ∀ q ∈ lw_privs_4, lw_okq q := List.forall_mem_cons.mpr ⟨lw_p48, List.forall_mem_cons.mpr ⟨lw_p49, List.forall_mem_cons.mpr ⟨lw_p50, List.forall_mem_cons.mpr ⟨lw_p51, List.forall_mem_cons.mpr ⟨lw_p52, List.forall_mem_cons.mpr ⟨lw_p53, List.forall_mem_cons.mpr ⟨lw_p54, List.forall_mem_cons.mpr ⟨lw_p55, List.forall_mem_cons.mpr ⟨lw_p56, List.forall_mem_cons.mpr ⟨lw_p57, List.forall_mem_cons.mpr ⟨lw_p58, List.forall_mem_cons.mpr ⟨lw_p59, List.forall_mem_cons.mpr ⟨lw_p60, List.forall_mem_cons.mpr ⟨lw_p61, List.forall_mem_cons.mpr ⟨lw_p62, List.forall_mem_cons.mpr ⟨lw_p63, fun _ h => absurd h List.not_mem_nil⟩⟩⟩⟩⟩⟩⟩⟩⟩⟩⟩⟩⟩⟩⟩⟩
theorem lw_p64 : lw_okq (⟨"RiverNamesModel", "isTownWord", "()Z"⟩, 15) := ⟨⟨by decide +kernel, by decide +kernel⟩, List.mem_of_getElem? (i := 830) (by decide +kernel), List.mem_of_getElem? (i := 1180) (by decide +kernel), List.mem_of_getElem? (i := 1181) (by decide +kernel)⟩
theorem lw_p65 : lw_okq (⟨"RiverNamesModel", "takesTown", "()Z"⟩, 15) := ⟨⟨by decide +kernel, by decide +kernel⟩, List.mem_of_getElem? (i := 830) (by decide +kernel), List.mem_of_getElem? (i := 1184) (by decide +kernel), List.mem_of_getElem? (i := 1185) (by decide +kernel)⟩
theorem lw_p66 : lw_okq (⟨"RiverNamesModel", "takesBack", "()V"⟩, 15) := ⟨⟨by decide +kernel, by decide +kernel⟩, List.mem_of_getElem? (i := 830) (by decide +kernel), List.mem_of_getElem? (i := 1188) (by decide +kernel), List.mem_of_getElem? (i := 1189) (by decide +kernel)⟩
def lw_privs_5 : List (MethodName × Nat) := [(⟨"RiverNamesModel", "isTownWord", "()Z"⟩, 15), (⟨"RiverNamesModel", "takesTown", "()Z"⟩, 15), (⟨"RiverNamesModel", "takesBack", "()V"⟩, 15)]
theorem lw_r5 : ∀ q ∈ lw_privs_5, lw_okq q := List.forall_mem_cons.mpr ⟨lw_p64, List.forall_mem_cons.mpr ⟨lw_p65, List.forall_mem_cons.mpr ⟨lw_p66, fun _ h => absurd h List.not_mem_nil⟩⟩⟩
def lw_privs : List (MethodName × Nat) := lw_privs_1 ++ (lw_privs_2 ++ (lw_privs_3 ++ (lw_privs_4 ++ (lw_privs_5))))
def lw_tbl : List Cond := k2_sels lw_privs ++ tables_1
theorem lw_privs_ok : ∀ q ∈ lw_privs, lw_okq q := by
  show ∀ q ∈ lw_privs_1 ++ (lw_privs_2 ++ (lw_privs_3 ++ (lw_privs_4 ++ (lw_privs_5)))), lw_okq q
  exact List.forall_mem_append.mpr ⟨lw_r1, List.forall_mem_append.mpr ⟨lw_r2, List.forall_mem_append.mpr ⟨lw_r3, List.forall_mem_append.mpr ⟨lw_r4, lw_r5⟩⟩⟩⟩

def RX0 : String := "RiverNames$Board"
def TX0 : u_T := fun k => match k with
  | 0 => ("RiverNames$Board", "riverCount", "I", false)
  | 1 => ("RiverNames$Board", "townCount", "I", false)
  | 2 => ("RiverNames$Board", "labelCount", "I", false)
  | 3 => ("RiverNames$Board", "gap", "I", false)
  | 4 => ("RiverNames$Board", "rivers", "[LRiverNames$River;", true)
  | 5 => ("RiverNames$Board", "towns", "[LRiverNames$Town;", true)
  | _ => ("RiverNames$Board", "labels", "[LRiverNames$Label;", true)
def tyX0 : Nat → FieldType := fun k => match k with
  | 0 => .int
  | 1 => .int
  | 2 => .int
  | 3 => .int
  | 4 => .array (.object "RiverNames$River")
  | 5 => .array (.object "RiverNames$Town")
  | _ => .array (.object "RiverNames$Label")
abbrev wsX00 : List Cond := u_ws RX0 TX0 7
theorem nmX0 : ∀ a, a < 7 → ∀ b, b < 7 → a ≠ b → (TX0 a).2.1 ≠ (TX0 b).2.1 := by decide +kernel
theorem tyX0_ok : ∀ k, k < 7 → parseFieldDescriptor (TX0 k).2.2.1 = some (tyX0 k) := by decide +kernel
def RX1 : String := "RiverNames$History"
def TX1 : u_T := fun k => match k with
  | 0 => ("RiverNames$History", "size", "I", false)
  | 1 => ("RiverNames$History", "kept", "[LRiverNames$Board;", true)
  | 2 => ("RiverNames$History", "present", "LRiverNames$Board;", false)
  | _ => ("RiverNames$History", "draft", "LRiverNames$Board;", false)
def tyX1 : Nat → FieldType := fun k => match k with
  | 0 => .int
  | 1 => .array (.object "RiverNames$Board")
  | 2 => .object "RiverNames$Board"
  | _ => .object "RiverNames$Board"
abbrev wsX10 : List Cond := u_ws RX1 TX1 4
theorem nmX1 : ∀ a, a < 4 → ∀ b, b < 4 → a ≠ b → (TX1 a).2.1 ≠ (TX1 b).2.1 := by decide +kernel
theorem tyX1_ok : ∀ k, k < 4 → parseFieldDescriptor (TX1 k).2.2.1 = some (tyX1 k) := by decide +kernel
def RX2 : String := "RiverNames$Judge"
def TX2 : u_T := fun k => match k with
  | _ => ("RiverNames$Judge", "rivals", "[I", true)
def tyX2 : Nat → FieldType := fun k => match k with
  | _ => .array .int
abbrev wsX20 : List Cond := u_ws RX2 TX2 1
theorem nmX2 : ∀ a, a < 1 → ∀ b, b < 1 → a ≠ b → (TX2 a).2.1 ≠ (TX2 b).2.1 := by decide +kernel
theorem tyX2_ok : ∀ k, k < 1 → parseFieldDescriptor (TX2 k).2.2.1 = some (tyX2 k) := by decide +kernel
def RX3 : String := "RiverNames$Label"
def TX3 : u_T := fun k => match k with
  | 0 => ("RiverNames$Label", "river", "LRiverNames$River;", false)
  | _ => ("RiverNames$Label", "start", "I", false)
def tyX3 : Nat → FieldType := fun k => match k with
  | 0 => .object "RiverNames$River"
  | _ => .int
abbrev wsX30 : List Cond := u_ws RX3 TX3 2
theorem nmX3 : ∀ a, a < 2 → ∀ b, b < 2 → a ≠ b → (TX3 a).2.1 ≠ (TX3 b).2.1 := by decide +kernel
theorem tyX3_ok : ∀ k, k < 2 → parseFieldDescriptor (TX3 k).2.2.1 = some (tyX3 k) := by decide +kernel
def RX4 : String := "RiverNames$Reader"
def TX4 : u_T := fun k => match k with
  | 0 => ("RiverNames$Reader", "text", "LRiverNames$Text;", true)
  | 1 => ("RiverNames$Reader", "tokenStart", "I", false)
  | 2 => ("RiverNames$Reader", "tokenEnd", "I", false)
  | 3 => ("RiverNames$Reader", "tokenKind", "I", false)
  | _ => ("RiverNames$Reader", "refused", "Z", false)
def tyX4 : Nat → FieldType := fun k => match k with
  | 0 => .object "RiverNames$Text"
  | 1 => .int
  | 2 => .int
  | 3 => .int
  | _ => .boolean
abbrev wsX40 : List Cond := u_ws RX4 TX4 5
theorem nmX4 : ∀ a, a < 5 → ∀ b, b < 5 → a ≠ b → (TX4 a).2.1 ≠ (TX4 b).2.1 := by decide +kernel
theorem tyX4_ok : ∀ k, k < 5 → parseFieldDescriptor (TX4 k).2.2.1 = some (tyX4 k) := by decide +kernel
def RX5 : String := "RiverNames$River"
def TX5 : u_T := fun k => match k with
  | 0 => ("RiverNames$River", "number", "I", true)
  | 1 => ("RiverNames$River", "rank", "I", false)
  | 2 => ("RiverNames$River", "halo", "I", false)
  | 3 => ("RiverNames$River", "letters", "I", false)
  | 4 => ("RiverNames$River", "moves", "I", false)
  | 5 => ("RiverNames$River", "name", "[I", true)
  | 6 => ("RiverNames$River", "directions", "[I", true)
  | 7 => ("RiverNames$River", "columns", "[I", true)
  | _ => ("RiverNames$River", "rows", "[I", true)
def tyX5 : Nat → FieldType := fun k => match k with
  | 0 => .int
  | 1 => .int
  | 2 => .int
  | 3 => .int
  | 4 => .int
  | 5 => .array .int
  | 6 => .array .int
  | 7 => .array .int
  | _ => .array .int
abbrev wsX50 : List Cond := u_ws RX5 TX5 9
theorem nmX5 : ∀ a, a < 9 → ∀ b, b < 9 → a ≠ b → (TX5 a).2.1 ≠ (TX5 b).2.1 := by decide +kernel
theorem tyX5_ok : ∀ k, k < 9 → parseFieldDescriptor (TX5 k).2.2.1 = some (tyX5 k) := by decide +kernel
def RX6 : String := "RiverNames$Sheet"
def TX6 : u_T := fun k => match k with
  | 0 => ("RiverNames$Sheet", "marked", "I", false)
  | _ => ("RiverNames$Sheet", "marks", "[I", true)
def tyX6 : Nat → FieldType := fun k => match k with
  | 0 => .int
  | _ => .array .int
abbrev wsX60 : List Cond := u_ws RX6 TX6 2
theorem nmX6 : ∀ a, a < 2 → ∀ b, b < 2 → a ≠ b → (TX6 a).2.1 ≠ (TX6 b).2.1 := by decide +kernel
theorem tyX6_ok : ∀ k, k < 2 → parseFieldDescriptor (TX6 k).2.2.1 = some (tyX6 k) := by decide +kernel
def RX7 : String := "RiverNames$Text"
def TX7 : u_T := fun k => match k with
  | 0 => ("RiverNames$Text", "length", "I", false)
  | _ => ("RiverNames$Text", "signs", "[I", true)
def tyX7 : Nat → FieldType := fun k => match k with
  | 0 => .int
  | _ => .array .int
abbrev wsX70 : List Cond := u_ws RX7 TX7 2
theorem nmX7 : ∀ a, a < 2 → ∀ b, b < 2 → a ≠ b → (TX7 a).2.1 ≠ (TX7 b).2.1 := by decide +kernel
theorem tyX7_ok : ∀ k, k < 2 → parseFieldDescriptor (TX7 k).2.2.1 = some (tyX7 k) := by decide +kernel
def RX8 : String := "RiverNames$Town"
def TX8 : u_T := fun k => match k with
  | 0 => ("RiverNames$Town", "column", "I", false)
  | 1 => ("RiverNames$Town", "row", "I", false)
  | 2 => ("RiverNames$Town", "width", "I", false)
  | 3 => ("RiverNames$Town", "height", "I", false)
  | _ => ("RiverNames$Town", "rank", "I", false)
def tyX8 : Nat → FieldType := fun k => match k with
  | 0 => .int
  | 1 => .int
  | 2 => .int
  | 3 => .int
  | _ => .int
abbrev wsX80 : List Cond := u_ws RX8 TX8 5
theorem nmX8 : ∀ a, a < 5 → ∀ b, b < 5 → a ≠ b → (TX8 a).2.1 ≠ (TX8 b).2.1 := by decide +kernel
theorem tyX8_ok : ∀ k, k < 5 → parseFieldDescriptor (TX8 k).2.2.1 = some (tyX8 k) := by decide +kernel
def RX9 : String := "RiverNames"
def TX9 : u_T := fun k => match k with
  | 0 => ("RiverNames", "reader", "LRiverNames$Reader;", true)
  | 1 => ("RiverNames", "history", "LRiverNames$History;", true)
  | 2 => ("RiverNames", "judge", "LRiverNames$Judge;", true)
  | _ => ("RiverNames", "sheet", "LRiverNames$Sheet;", true)
def tyX9 : Nat → FieldType := fun k => match k with
  | 0 => .object "RiverNames$Reader"
  | 1 => .object "RiverNames$History"
  | 2 => .object "RiverNames$Judge"
  | _ => .object "RiverNames$Sheet"
abbrev wsX90 : List Cond := u_ws RX9 TX9 4
theorem nmX9 : ∀ a, a < 4 → ∀ b, b < 4 → a ≠ b → (TX9 a).2.1 ≠ (TX9 b).2.1 := by decide +kernel
theorem tyX9_ok : ∀ k, k < 4 → parseFieldDescriptor (TX9 k).2.2.1 = some (tyX9 k) := by decide +kernel
def RX10 : String := "RiverNamesModel"
def TX10 : u_T := fun k => match k with
  | 0 => ("RiverNamesModel", "now", "[I", true)
  | 1 => ("RiverNamesModel", "past", "[I", true)
  | 2 => ("RiverNamesModel", "saved", "I", false)
  | 3 => ("RiverNamesModel", "text", "[I", true)
  | 4 => ("RiverNamesModel", "length", "I", false)
  | 5 => ("RiverNamesModel", "cellX", "[I", true)
  | 6 => ("RiverNamesModel", "cellY", "[I", true)
  | 7 => ("RiverNamesModel", "marked", "[I", true)
  | 8 => ("RiverNamesModel", "mark", "I", false)
  | 9 => ("RiverNamesModel", "begin", "I", false)
  | 10 => ("RiverNamesModel", "end", "I", false)
  | 11 => ("RiverNamesModel", "number", "I", false)
  | 12 => ("RiverNamesModel", "told", "[I", true)
  | 13 => ("RiverNamesModel", "aside", "[I", true)
  | _ => ("RiverNamesModel", "made", "[I", true)
def tyX10 : Nat → FieldType := fun k => match k with
  | 0 => .array .int
  | 1 => .array .int
  | 2 => .int
  | 3 => .array .int
  | 4 => .int
  | 5 => .array .int
  | 6 => .array .int
  | 7 => .array .int
  | 8 => .int
  | 9 => .int
  | 10 => .int
  | 11 => .int
  | 12 => .array .int
  | 13 => .array .int
  | _ => .array .int
abbrev wsX100 : List Cond := u_ws RX10 TX10 15
theorem nmX10 : ∀ a, a < 15 → ∀ b, b < 15 → a ≠ b → (TX10 a).2.1 ≠ (TX10 b).2.1 := by decide +kernel
theorem tyX10_ok : ∀ k, k < 15 → parseFieldDescriptor (TX10 k).2.2.1 = some (tyX10 k) := by decide +kernel
def RJ9 : String := "java/lang/Math"
def RJ0 : String := "java/lang/String"
def RJ1 : String := "java/lang/StringLatin1"
def RJ3 : String := "jdk/internal/util/Preconditions"
def RJ7 : String := "java/util/Arrays"
def RL : String := "RiverNamesLaw"
abbrev cX0_init : ByteArray := prog_2_method_1_code
def yX0_init : MethodName := ⟨RX0, "<init>", "()V"⟩
abbrev cX0_copyFrom : ByteArray := prog_2_method_2_code
def yX0_copyFrom : MethodName := ⟨RX0, "copyFrom", "(LRiverNames$Board;)V"⟩
abbrev cX0_copyRiver : ByteArray := prog_2_method_3_code
def yX0_copyRiver : MethodName := ⟨RX0, "copyRiver", "(LRiverNames$River;)V"⟩
abbrev cX0_copyTown : ByteArray := prog_2_method_4_code
def yX0_copyTown : MethodName := ⟨RX0, "copyTown", "(LRiverNames$Town;)V"⟩
abbrev cX0_copyLabel : ByteArray := prog_2_method_5_code
def yX0_copyLabel : MethodName := ⟨RX0, "copyLabel", "(LRiverNames$Label;)V"⟩
abbrev cX0_riverAt : ByteArray := prog_2_method_6_code
def yX0_riverAt : MethodName := ⟨RX0, "riverAt", "(I)LRiverNames$River;"⟩
abbrev cX0_townAt : ByteArray := prog_2_method_7_code
def yX0_townAt : MethodName := ⟨RX0, "townAt", "(I)LRiverNames$Town;"⟩
abbrev cX0_labelAt : ByteArray := prog_2_method_8_code
def yX0_labelAt : MethodName := ⟨RX0, "labelAt", "(I)LRiverNames$Label;"⟩
abbrev cX0_nextRiver : ByteArray := prog_2_method_9_code
def yX0_nextRiver : MethodName := ⟨RX0, "nextRiver", "()LRiverNames$River;"⟩
abbrev cX0_nextTown : ByteArray := prog_2_method_10_code
def yX0_nextTown : MethodName := ⟨RX0, "nextTown", "()LRiverNames$Town;"⟩
abbrev cX0_addLabel : ByteArray := prog_2_method_11_code
def yX0_addLabel : MethodName := ⟨RX0, "addLabel", "(LRiverNames$River;I)Z"⟩
abbrev cX0_dropLabel : ByteArray := prog_2_method_12_code
def yX0_dropLabel : MethodName := ⟨RX0, "dropLabel", "(I)Z"⟩
abbrev cX0_labelsOf : ByteArray := prog_2_method_13_code
def yX0_labelsOf : MethodName := ⟨RX0, "labelsOf", "(LRiverNames$River;)I"⟩
abbrev cX0_labelsOver : ByteArray := prog_2_method_14_code
def yX0_labelsOver : MethodName := ⟨RX0, "labelsOver", "(LRiverNames$Town;)I"⟩
abbrev cX0_townsUnder : ByteArray := prog_2_method_15_code
def yX0_townsUnder : MethodName := ⟨RX0, "townsUnder", "(LRiverNames$Label;)I"⟩
abbrev cX0_costOfLabels : ByteArray := prog_2_method_16_code
def yX0_costOfLabels : MethodName := ⟨RX0, "costOfLabels", "()I"⟩
abbrev cX0_cellsOfLabels : ByteArray := prog_2_method_17_code
def yX0_cellsOfLabels : MethodName := ⟨RX0, "cellsOfLabels", "(LRiverNames$Sheet;)I"⟩
abbrev cX0_riversWithoutLabel : ByteArray := prog_2_method_18_code
def yX0_riversWithoutLabel : MethodName := ⟨RX0, "riversWithoutLabel", "()I"⟩
abbrev cX0_signOn : ByteArray := prog_2_method_19_code
def yX0_signOn : MethodName := ⟨RX0, "signOn", "(II)I"⟩
abbrev cX1_init : ByteArray := prog_3_method_1_code
def yX1_init : MethodName := ⟨RX1, "<init>", "()V"⟩
abbrev cX1_present : ByteArray := prog_3_method_2_code
def yX1_present : MethodName := ⟨RX1, "present", "()LRiverNames$Board;"⟩
abbrev cX1_newDraft : ByteArray := prog_3_method_3_code
def yX1_newDraft : MethodName := ⟨RX1, "newDraft", "()LRiverNames$Board;"⟩
abbrev cX1_enterDraft : ByteArray := prog_3_method_4_code
def yX1_enterDraft : MethodName := ⟨RX1, "enterDraft", "()V"⟩
abbrev cX1_dropOldest : ByteArray := prog_3_method_5_code
def yX1_dropOldest : MethodName := ⟨RX1, "dropOldest", "()V"⟩
abbrev cX1_stepBack : ByteArray := prog_3_method_6_code
def yX1_stepBack : MethodName := ⟨RX1, "stepBack", "()I"⟩
abbrev cX2_init : ByteArray := prog_4_method_1_code
def yX2_init : MethodName := ⟨RX2, "<init>", "()V"⟩
abbrev cX2_reasonAgainst : ByteArray := prog_4_method_2_code
def yX2_reasonAgainst : MethodName := ⟨RX2, "reasonAgainst", "(LRiverNames$Board;LRiverNames$River;II)I"⟩
abbrev cX2_isCrowded : ByteArray := prog_4_method_3_code
def yX2_isCrowded : MethodName := ⟨RX2, "isCrowded", "(LRiverNames$Board;LRiverNames$River;II)Z"⟩
abbrev cX2_townRankAt : ByteArray := prog_4_method_4_code
def yX2_townRankAt : MethodName := ⟨RX2, "townRankAt", "(LRiverNames$Board;LRiverNames$River;I)I"⟩
abbrev cX2_labelRankAt : ByteArray := prog_4_method_5_code
def yX2_labelRankAt : MethodName := ⟨RX2, "labelRankAt", "(LRiverNames$Board;LRiverNames$River;I)I"⟩
abbrev cX2_noteRivals : ByteArray := prog_4_method_6_code
def yX2_noteRivals : MethodName := ⟨RX2, "noteRivals", "(LRiverNames$Board;LRiverNames$River;)V"⟩
abbrev cX2_rivalRank : ByteArray := prog_4_method_7_code
def yX2_rivalRank : MethodName := ⟨RX2, "rivalRank", "(LRiverNames$River;I)I"⟩
abbrev cX2_bestStart : ByteArray := prog_4_method_8_code
def yX2_bestStart : MethodName := ⟨RX2, "bestStart", "(LRiverNames$Board;LRiverNames$River;)I"⟩
abbrev cX2_bestStartAsNoted : ByteArray := prog_4_method_9_code
def yX2_bestStartAsNoted : MethodName := ⟨RX2, "bestStartAsNoted", "(LRiverNames$Board;LRiverNames$River;)I"⟩
abbrev cX2_leastRank : ByteArray := prog_4_method_10_code
def yX2_leastRank : MethodName := ⟨RX2, "leastRank", "(LRiverNames$Board;LRiverNames$River;)I"⟩
abbrev cX2_letterAll : ByteArray := prog_4_method_11_code
def yX2_letterAll : MethodName := ⟨RX2, "letterAll", "(LRiverNames$Board;I)V"⟩
abbrev cX2_letterRiver : ByteArray := prog_4_method_12_code
def yX2_letterRiver : MethodName := ⟨RX2, "letterRiver", "(LRiverNames$Board;LRiverNames$River;I)V"⟩
abbrev cX2_isMisfit : ByteArray := prog_4_method_13_code
def yX2_isMisfit : MethodName := ⟨RX2, "isMisfit", "(LRiverNames$Board;I)Z"⟩
abbrev cX2_misfits : ByteArray := prog_4_method_14_code
def yX2_misfits : MethodName := ⟨RX2, "misfits", "(LRiverNames$Board;)I"⟩
abbrev cX2_dropMisfits : ByteArray := prog_4_method_15_code
def yX2_dropMisfits : MethodName := ⟨RX2, "dropMisfits", "(LRiverNames$Board;)I"⟩
abbrev cX3_init : ByteArray := prog_5_method_1_code
def yX3_init : MethodName := ⟨RX3, "<init>", "(LRiverNames$River;)V"⟩
abbrev cX3_put : ByteArray := prog_5_method_2_code
def yX3_put : MethodName := ⟨RX3, "put", "(LRiverNames$River;I)V"⟩
abbrev cX3_lapsOver : ByteArray := prog_5_method_3_code
def yX3_lapsOver : MethodName := ⟨RX3, "lapsOver", "(LRiverNames$Town;)Z"⟩
abbrev cX3_markArea : ByteArray := prog_5_method_4_code
def yX3_markArea : MethodName := ⟨RX3, "markArea", "(LRiverNames$Sheet;)V"⟩
abbrev cX3_cells : ByteArray := prog_5_method_5_code
def yX3_cells : MethodName := ⟨RX3, "cells", "(LRiverNames$Sheet;)I"⟩
abbrev cX4_init : ByteArray := prog_6_method_1_code
def yX4_init : MethodName := ⟨RX4, "<init>", "()V"⟩
abbrev cX4_readInto : ByteArray := prog_6_method_2_code
def yX4_readInto : MethodName := ⟨RX4, "readInto", "(LRiverNames$Board;)I"⟩
abbrev cX4_readRiver : ByteArray := prog_6_method_3_code
def yX4_readRiver : MethodName := ⟨RX4, "readRiver", "(LRiverNames$River;)V"⟩
abbrev cX4_readTown : ByteArray := prog_6_method_4_code
def yX4_readTown : MethodName := ⟨RX4, "readTown", "(LRiverNames$Town;)V"⟩
abbrev cX4_readName : ByteArray := prog_6_method_5_code
def yX4_readName : MethodName := ⟨RX4, "readName", "(LRiverNames$River;)V"⟩
abbrev cX4_readMoves : ByteArray := prog_6_method_6_code
def yX4_readMoves : MethodName := ⟨RX4, "readMoves", "(LRiverNames$River;)V"⟩
abbrev cX4_readNumber : ByteArray := prog_6_method_7_code
def yX4_readNumber : MethodName := ⟨RX4, "readNumber", "(II)I"⟩
abbrev cX4_readSemicolon : ByteArray := prog_6_method_8_code
def yX4_readSemicolon : MethodName := ⟨RX4, "readSemicolon", "()V"⟩
abbrev cX4_refuseUnless : ByteArray := prog_6_method_9_code
def yX4_refuseUnless : MethodName := ⟨RX4, "refuseUnless", "(Z)V"⟩
abbrev cX4_nextToken : ByteArray := prog_6_method_10_code
def yX4_nextToken : MethodName := ⟨RX4, "nextToken", "()V"⟩
abbrev cX4_kindOf : ByteArray := prog_6_method_11_code
def yX4_kindOf : MethodName := ⟨RX4, "kindOf", "(I)I"⟩
abbrev cX4_tokenIs : ByteArray := prog_6_method_12_code
def yX4_tokenIs : MethodName := ⟨RX4, "tokenIs", "(Ljava/lang/String;)Z"⟩
abbrev cX5_init : ByteArray := prog_7_method_1_code
def yX5_init : MethodName := ⟨RX5, "<init>", "(I)V"⟩
abbrev cX5_copyFrom : ByteArray := prog_7_method_2_code
def yX5_copyFrom : MethodName := ⟨RX5, "copyFrom", "(LRiverNames$River;)V"⟩
abbrev cX5_forget : ByteArray := prog_7_method_3_code
def yX5_forget : MethodName := ⟨RX5, "forget", "()V"⟩
abbrev cX5_addLetter : ByteArray := prog_7_method_4_code
def yX5_addLetter : MethodName := ⟨RX5, "addLetter", "(I)V"⟩
abbrev cX5_begin : ByteArray := prog_7_method_5_code
def yX5_begin : MethodName := ⟨RX5, "begin", "(IIII)V"⟩
abbrev cX5_leavesMap : ByteArray := prog_7_method_6_code
def yX5_leavesMap : MethodName := ⟨RX5, "leavesMap", "(I)Z"⟩
abbrev cX5_lengthen : ByteArray := prog_7_method_7_code
def yX5_lengthen : MethodName := ⟨RX5, "lengthen", "(I)Z"⟩
abbrev cX5_hasPlace : ByteArray := prog_7_method_8_code
def yX5_hasPlace : MethodName := ⟨RX5, "hasPlace", "(I)Z"⟩
abbrev cX5_columnAt : ByteArray := prog_7_method_9_code
def yX5_columnAt : MethodName := ⟨RX5, "columnAt", "(I)I"⟩
abbrev cX5_rowAt : ByteArray := prog_7_method_10_code
def yX5_rowAt : MethodName := ⟨RX5, "rowAt", "(I)I"⟩
abbrev cX5_letterAt : ByteArray := prog_7_method_11_code
def yX5_letterAt : MethodName := ⟨RX5, "letterAt", "(I)I"⟩
abbrev cX5_lastStart : ByteArray := prog_7_method_12_code
def yX5_lastStart : MethodName := ⟨RX5, "lastStart", "(I)I"⟩
abbrev cX5_turnBehind : ByteArray := prog_7_method_13_code
def yX5_turnBehind : MethodName := ⟨RX5, "turnBehind", "(I)I"⟩
abbrev cX5_bendOf : ByteArray := prog_7_method_14_code
def yX5_bendOf : MethodName := ⟨RX5, "bendOf", "(II)I"⟩
abbrev cX5_straightestStart : ByteArray := prog_7_method_15_code
def yX5_straightestStart : MethodName := ⟨RX5, "straightestStart", "(I)I"⟩
abbrev cX5_costOf : ByteArray := prog_7_method_16_code
def yX5_costOf : MethodName := ⟨RX5, "costOf", "(I)I"⟩
abbrev cX5_turnsNameAt : ByteArray := prog_7_method_17_code
def yX5_turnsNameAt : MethodName := ⟨RX5, "turnsNameAt", "(I)Z"⟩
abbrev cX5_isNear : ByteArray := prog_7_method_18_code
def yX5_isNear : MethodName := ⟨RX5, "isNear", "(IIII)Z"⟩
abbrev cX5_hasLetterNear : ByteArray := prog_7_method_19_code
def yX5_hasLetterNear : MethodName := ⟨RX5, "hasLetterNear", "(IIII)Z"⟩
abbrev cX5_letterOn : ByteArray := prog_7_method_20_code
def yX5_letterOn : MethodName := ⟨RX5, "letterOn", "(III)I"⟩
abbrev cX5_differentCells : ByteArray := prog_7_method_21_code
def yX5_differentCells : MethodName := ⟨RX5, "differentCells", "(LRiverNames$Sheet;)I"⟩
abbrev cX6_init : ByteArray := prog_8_method_1_code
def yX6_init : MethodName := ⟨RX6, "<init>", "()V"⟩
abbrev cX6_clear : ByteArray := prog_8_method_2_code
def yX6_clear : MethodName := ⟨RX6, "clear", "()V"⟩
abbrev cX6_markAround : ByteArray := prog_8_method_3_code
def yX6_markAround : MethodName := ⟨RX6, "markAround", "(III)V"⟩
abbrev cX6_mark : ByteArray := prog_8_method_4_code
def yX6_mark : MethodName := ⟨RX6, "mark", "(II)V"⟩
abbrev cX7_init : ByteArray := prog_9_method_1_code
def yX7_init : MethodName := ⟨RX7, "<init>", "()V"⟩
abbrev cX7_write : ByteArray := prog_9_method_2_code
def yX7_write : MethodName := ⟨RX7, "write", "(I)Z"⟩
abbrev cX7_wipe : ByteArray := prog_9_method_3_code
def yX7_wipe : MethodName := ⟨RX7, "wipe", "()I"⟩
abbrev cX7_signAt : ByteArray := prog_9_method_4_code
def yX7_signAt : MethodName := ⟨RX7, "signAt", "(I)I"⟩
abbrev cX8_init : ByteArray := prog_10_method_1_code
def yX8_init : MethodName := ⟨RX8, "<init>", "()V"⟩
abbrev cX8_build : ByteArray := prog_10_method_2_code
def yX8_build : MethodName := ⟨RX8, "build", "(IIIII)V"⟩
abbrev cX8_copyFrom : ByteArray := prog_10_method_3_code
def yX8_copyFrom : MethodName := ⟨RX8, "copyFrom", "(LRiverNames$Town;)V"⟩
abbrev cX8_isNear : ByteArray := prog_10_method_4_code
def yX8_isNear : MethodName := ⟨RX8, "isNear", "(III)Z"⟩
abbrev cX9_init : ByteArray := prog_1_method_1_code
def yX9_init : MethodName := ⟨RX9, "<init>", "()V"⟩
abbrev cX9_append : ByteArray := prog_1_method_2_code
def yX9_append : MethodName := ⟨RX9, "append", "(I)I"⟩
abbrev cX9_clearText : ByteArray := prog_1_method_3_code
def yX9_clearText : MethodName := ⟨RX9, "clearText", "()I"⟩
abbrev cX9_load : ByteArray := prog_1_method_4_code
def yX9_load : MethodName := ⟨RX9, "load", "()I"⟩
abbrev cX9_addRiver : ByteArray := prog_1_method_5_code
def yX9_addRiver : MethodName := ⟨RX9, "addRiver", "(IIIII)I"⟩
abbrev cX9_addTown : ByteArray := prog_1_method_6_code
def yX9_addTown : MethodName := ⟨RX9, "addTown", "(IIIII)I"⟩
abbrev cX9_flow : ByteArray := prog_1_method_7_code
def yX9_flow : MethodName := ⟨RX9, "flow", "(II)I"⟩
abbrev cX9_setRank : ByteArray := prog_1_method_8_code
def yX9_setRank : MethodName := ⟨RX9, "setRank", "(II)I"⟩
abbrev cX9_setHalo : ByteArray := prog_1_method_9_code
def yX9_setHalo : MethodName := ⟨RX9, "setHalo", "(II)I"⟩
abbrev cX9_setTownRank : ByteArray := prog_1_method_10_code
def yX9_setTownRank : MethodName := ⟨RX9, "setTownRank", "(II)I"⟩
abbrev cX9_setGap : ByteArray := prog_1_method_11_code
def yX9_setGap : MethodName := ⟨RX9, "setGap", "(I)I"⟩
abbrev cX9_set : ByteArray := prog_1_method_12_code
def yX9_set : MethodName := ⟨RX9, "set", "(II)I"⟩
abbrev cX9_remove : ByteArray := prog_1_method_13_code
def yX9_remove : MethodName := ⟨RX9, "remove", "(I)I"⟩
abbrev cX9_place : ByteArray := prog_1_method_14_code
def yX9_place : MethodName := ⟨RX9, "place", "(I)I"⟩
abbrev cX9_tidy : ByteArray := prog_1_method_15_code
def yX9_tidy : MethodName := ⟨RX9, "tidy", "()I"⟩
abbrev cX9_undo : ByteArray := prog_1_method_16_code
def yX9_undo : MethodName := ⟨RX9, "undo", "()I"⟩
abbrev cX9_count : ByteArray := prog_1_method_17_code
def yX9_count : MethodName := ⟨RX9, "count", "(I)I"⟩
abbrev cX9_river : ByteArray := prog_1_method_18_code
def yX9_river : MethodName := ⟨RX9, "river", "(II)I"⟩
abbrev cX9_cell : ByteArray := prog_1_method_19_code
def yX9_cell : MethodName := ⟨RX9, "cell", "(II)I"⟩
abbrev cX9_letter : ByteArray := prog_1_method_20_code
def yX9_letter : MethodName := ⟨RX9, "letter", "(II)I"⟩
abbrev cX9_town : ByteArray := prog_1_method_21_code
def yX9_town : MethodName := ⟨RX9, "town", "(II)I"⟩
abbrev cX9_label : ByteArray := prog_1_method_22_code
def yX9_label : MethodName := ⟨RX9, "label", "(II)I"⟩
abbrev cX9_written : ByteArray := prog_1_method_23_code
def yX9_written : MethodName := ⟨RX9, "written", "(II)I"⟩
abbrev cX9_bend : ByteArray := prog_1_method_24_code
def yX9_bend : MethodName := ⟨RX9, "bend", "(III)I"⟩
abbrev cX9_straightest : ByteArray := prog_1_method_25_code
def yX9_straightest : MethodName := ⟨RX9, "straightest", "(II)I"⟩
abbrev cX9_reason : ByteArray := prog_1_method_26_code
def yX9_reason : MethodName := ⟨RX9, "reason", "(II)I"⟩
abbrev cX9_best : ByteArray := prog_1_method_27_code
def yX9_best : MethodName := ⟨RX9, "best", "(II)I"⟩
abbrev cX9_rankFor : ByteArray := prog_1_method_28_code
def yX9_rankFor : MethodName := ⟨RX9, "rankFor", "(I)I"⟩
abbrev cX9_within : ByteArray := prog_1_method_29_code
def yX9_within : MethodName := ⟨RX9, "within", "(III)Z"⟩
abbrev cX9_onMap : ByteArray := prog_1_method_30_code
def yX9_onMap : MethodName := ⟨RX9, "onMap", "(II)Z"⟩
abbrev cX9_isRank : ByteArray := prog_1_method_31_code
def yX9_isRank : MethodName := ⟨RX9, "isRank", "(I)Z"⟩
abbrev cX9_isHalo : ByteArray := prog_1_method_32_code
def yX9_isHalo : MethodName := ⟨RX9, "isHalo", "(I)Z"⟩
abbrev cX9_isPlaceNumber : ByteArray := prog_1_method_33_code
def yX9_isPlaceNumber : MethodName := ⟨RX9, "isPlaceNumber", "(I)Z"⟩
abbrev cX10_init : ByteArray := prog_12_method_1_code
def yX10_init : MethodName := ⟨RX10, "<init>", "()V"⟩
abbrev cX10_in : ByteArray := prog_12_method_2_code
def yX10_in : MethodName := ⟨RX10, "in", "(III)Z"⟩
abbrev cX10_records : ByteArray := prog_12_method_3_code
def yX10_records : MethodName := ⟨RX10, "records", "()V"⟩
abbrev cX10_undo : ByteArray := prog_12_method_4_code
def yX10_undo : MethodName := ⟨RX10, "undo", "()I"⟩
abbrev cX10_isRiver : ByteArray := prog_12_method_5_code
def yX10_isRiver : MethodName := ⟨RX10, "isRiver", "(I)Z"⟩
abbrev cX10_riverAt : ByteArray := prog_12_method_6_code
def yX10_riverAt : MethodName := ⟨RX10, "riverAt", "(I)I"⟩
abbrev cX10_of : ByteArray := prog_12_method_7_code
def yX10_of : MethodName := ⟨RX10, "of", "(II)I"⟩
abbrev cX10_stepX : ByteArray := prog_12_method_8_code
def yX10_stepX : MethodName := ⟨RX10, "stepX", "(I)I"⟩
abbrev cX10_stepY : ByteArray := prog_12_method_9_code
def yX10_stepY : MethodName := ⟨RX10, "stepY", "(I)I"⟩
abbrev cX10_isOnMap : ByteArray := prog_12_method_10_code
def yX10_isOnMap : MethodName := ⟨RX10, "isOnMap", "(II)Z"⟩
abbrev cX10_walks : ByteArray := prog_12_method_11_code
def yX10_walks : MethodName := ⟨RX10, "walks", "(I)V"⟩
abbrev cX10_isRank : ByteArray := prog_12_method_12_code
def yX10_isRank : MethodName := ⟨RX10, "isRank", "(I)Z"⟩
abbrev cX10_isHalo : ByteArray := prog_12_method_13_code
def yX10_isHalo : MethodName := ⟨RX10, "isHalo", "(I)Z"⟩
abbrev cX10_comesRiver : ByteArray := prog_12_method_14_code
def yX10_comesRiver : MethodName := ⟨RX10, "comesRiver", "(IIIII)I"⟩
abbrev cX10_addRiver : ByteArray := prog_12_method_15_code
def yX10_addRiver : MethodName := ⟨RX10, "addRiver", "(IIIII)I"⟩
abbrev cX10_isTown : ByteArray := prog_12_method_16_code
def yX10_isTown : MethodName := ⟨RX10, "isTown", "(IIII)Z"⟩
abbrev cX10_comesTown : ByteArray := prog_12_method_17_code
def yX10_comesTown : MethodName := ⟨RX10, "comesTown", "(IIIII)I"⟩
abbrev cX10_addTown : ByteArray := prog_12_method_18_code
def yX10_addTown : MethodName := ⟨RX10, "addTown", "(IIIII)I"⟩
abbrev cX10_lengthens : ByteArray := prog_12_method_19_code
def yX10_lengthens : MethodName := ⟨RX10, "lengthens", "(II)V"⟩
abbrev cX10_flow : ByteArray := prog_12_method_20_code
def yX10_flow : MethodName := ⟨RX10, "flow", "(II)I"⟩
abbrev cX10_puts : ByteArray := prog_12_method_21_code
def yX10_puts : MethodName := ⟨RX10, "puts", "(II)I"⟩
abbrev cX10_setRank : ByteArray := prog_12_method_22_code
def yX10_setRank : MethodName := ⟨RX10, "setRank", "(II)I"⟩
abbrev cX10_setHalo : ByteArray := prog_12_method_23_code
def yX10_setHalo : MethodName := ⟨RX10, "setHalo", "(II)I"⟩
abbrev cX10_isTownNumber : ByteArray := prog_12_method_24_code
def yX10_isTownNumber : MethodName := ⟨RX10, "isTownNumber", "(I)Z"⟩
abbrev cX10_setTownRank : ByteArray := prog_12_method_25_code
def yX10_setTownRank : MethodName := ⟨RX10, "setTownRank", "(II)I"⟩
abbrev cX10_setGap : ByteArray := prog_12_method_26_code
def yX10_setGap : MethodName := ⟨RX10, "setGap", "(I)I"⟩
abbrev cX10_turn : ByteArray := prog_12_method_27_code
def yX10_turn : MethodName := ⟨RX10, "turn", "(II)I"⟩
abbrev cX10_bendOf : ByteArray := prog_12_method_28_code
def yX10_bendOf : MethodName := ⟨RX10, "bendOf", "(III)I"⟩
abbrev cX10_hasPlaces : ByteArray := prog_12_method_29_code
def yX10_hasPlaces : MethodName := ⟨RX10, "hasPlaces", "(III)Z"⟩
abbrev cX10_cost : ByteArray := prog_12_method_30_code
def yX10_cost : MethodName := ⟨RX10, "cost", "(II)I"⟩
abbrev cX10_isTurned : ByteArray := prog_12_method_31_code
def yX10_isTurned : MethodName := ⟨RX10, "isTurned", "(II)Z"⟩
abbrev cX10_marks : ByteArray := prog_12_method_32_code
def yX10_marks : MethodName := ⟨RX10, "marks", "(II)I"⟩
abbrev cX10_marksMore : ByteArray := prog_12_method_33_code
def yX10_marksMore : MethodName := ⟨RX10, "marksMore", "(II)I"⟩
abbrev cX10_meetsLabel : ByteArray := prog_12_method_34_code
def yX10_meetsLabel : MethodName := ⟨RX10, "meetsLabel", "(I)Z"⟩
abbrev cX10_meetsTown : ByteArray := prog_12_method_35_code
def yX10_meetsTown : MethodName := ⟨RX10, "meetsTown", "(I)Z"⟩
abbrev cX10_why : ByteArray := prog_12_method_36_code
def yX10_why : MethodName := ⟨RX10, "why", "(IIII)I"⟩
abbrev cX10_whyLabel : ByteArray := prog_12_method_37_code
def yX10_whyLabel : MethodName := ⟨RX10, "whyLabel", "(I)I"⟩
abbrev cX10_bestStart : ByteArray := prog_12_method_38_code
def yX10_bestStart : MethodName := ⟨RX10, "bestStart", "(I)I"⟩
abbrev cX10_isLabel : ByteArray := prog_12_method_39_code
def yX10_isLabel : MethodName := ⟨RX10, "isLabel", "(I)Z"⟩
abbrev cX10_comesLabel : ByteArray := prog_12_method_40_code
def yX10_comesLabel : MethodName := ⟨RX10, "comesLabel", "(II)I"⟩
abbrev cX10_isStart : ByteArray := prog_12_method_41_code
def yX10_isStart : MethodName := ⟨RX10, "isStart", "(I)Z"⟩
abbrev cX10_set : ByteArray := prog_12_method_42_code
def yX10_set : MethodName := ⟨RX10, "set", "(II)I"⟩
abbrev cX10_goesLabel : ByteArray := prog_12_method_43_code
def yX10_goesLabel : MethodName := ⟨RX10, "goesLabel", "(I)V"⟩
abbrev cX10_remove : ByteArray := prog_12_method_44_code
def yX10_remove : MethodName := ⟨RX10, "remove", "(I)I"⟩
abbrev cX10_place : ByteArray := prog_12_method_45_code
def yX10_place : MethodName := ⟨RX10, "place", "(I)I"⟩
abbrev cX10_tidy : ByteArray := prog_12_method_46_code
def yX10_tidy : MethodName := ⟨RX10, "tidy", "()I"⟩
abbrev cX10_costs : ByteArray := prog_12_method_47_code
def yX10_costs : MethodName := ⟨RX10, "costs", "()I"⟩
abbrev cX10_wrong : ByteArray := prog_12_method_48_code
def yX10_wrong : MethodName := ⟨RX10, "wrong", "()I"⟩
abbrev cX10_labelsOf : ByteArray := prog_12_method_49_code
def yX10_labelsOf : MethodName := ⟨RX10, "labelsOf", "(I)I"⟩
abbrev cX10_without : ByteArray := prog_12_method_50_code
def yX10_without : MethodName := ⟨RX10, "without", "()I"⟩
abbrev cX10_covered : ByteArray := prog_12_method_51_code
def yX10_covered : MethodName := ⟨RX10, "covered", "()I"⟩
abbrev cX10_count : ByteArray := prog_12_method_52_code
def yX10_count : MethodName := ⟨RX10, "count", "(I)I"⟩
abbrev cX10_differentCells : ByteArray := prog_12_method_53_code
def yX10_differentCells : MethodName := ⟨RX10, "differentCells", "(I)I"⟩
abbrev cX10_river : ByteArray := prog_12_method_54_code
def yX10_river : MethodName := ⟨RX10, "river", "(II)I"⟩
abbrev cX10_cell : ByteArray := prog_12_method_55_code
def yX10_cell : MethodName := ⟨RX10, "cell", "(II)I"⟩
abbrev cX10_letter : ByteArray := prog_12_method_56_code
def yX10_letter : MethodName := ⟨RX10, "letter", "(II)I"⟩
abbrev cX10_town : ByteArray := prog_12_method_57_code
def yX10_town : MethodName := ⟨RX10, "town", "(II)I"⟩
abbrev cX10_townsOf : ByteArray := prog_12_method_58_code
def yX10_townsOf : MethodName := ⟨RX10, "townsOf", "(II)I"⟩
abbrev cX10_label : ByteArray := prog_12_method_59_code
def yX10_label : MethodName := ⟨RX10, "label", "(II)I"⟩
abbrev cX10_placeOn : ByteArray := prog_12_method_60_code
def yX10_placeOn : MethodName := ⟨RX10, "placeOn", "(III)I"⟩
abbrev cX10_written : ByteArray := prog_12_method_61_code
def yX10_written : MethodName := ⟨RX10, "written", "(II)I"⟩
abbrev cX10_bend : ByteArray := prog_12_method_62_code
def yX10_bend : MethodName := ⟨RX10, "bend", "(III)I"⟩
abbrev cX10_straightest : ByteArray := prog_12_method_63_code
def yX10_straightest : MethodName := ⟨RX10, "straightest", "(II)I"⟩
abbrev cX10_reason : ByteArray := prog_12_method_64_code
def yX10_reason : MethodName := ⟨RX10, "reason", "(II)I"⟩
abbrev cX10_best : ByteArray := prog_12_method_65_code
def yX10_best : MethodName := ⟨RX10, "best", "(II)I"⟩
abbrev cX10_rankFor : ByteArray := prog_12_method_66_code
def yX10_rankFor : MethodName := ⟨RX10, "rankFor", "(I)I"⟩
abbrev cX10_append : ByteArray := prog_12_method_67_code
def yX10_append : MethodName := ⟨RX10, "append", "(I)I"⟩
abbrev cX10_clearText : ByteArray := prog_12_method_68_code
def yX10_clearText : MethodName := ⟨RX10, "clearText", "()I"⟩
abbrev cX10_isSort : ByteArray := prog_12_method_69_code
def yX10_isSort : MethodName := ⟨RX10, "isSort", "(III)Z"⟩
abbrev cX10_nextToken : ByteArray := prog_12_method_70_code
def yX10_nextToken : MethodName := ⟨RX10, "nextToken", "()V"⟩
abbrev cX10_isNameToken : ByteArray := prog_12_method_71_code
def yX10_isNameToken : MethodName := ⟨RX10, "isNameToken", "()Z"⟩
abbrev cX10_isRiverWord : ByteArray := prog_12_method_72_code
def yX10_isRiverWord : MethodName := ⟨RX10, "isRiverWord", "()Z"⟩
abbrev cX10_isTownWord : ByteArray := prog_12_method_73_code
def yX10_isTownWord : MethodName := ⟨RX10, "isTownWord", "()Z"⟩
abbrev cX10_takesNumber : ByteArray := prog_12_method_74_code
def yX10_takesNumber : MethodName := ⟨RX10, "takesNumber", "(II)Z"⟩
abbrev cX10_takesSemicolon : ByteArray := prog_12_method_75_code
def yX10_takesSemicolon : MethodName := ⟨RX10, "takesSemicolon", "()Z"⟩
abbrev cX10_takesMoves : ByteArray := prog_12_method_76_code
def yX10_takesMoves : MethodName := ⟨RX10, "takesMoves", "()Z"⟩
abbrev cX10_takesRiver : ByteArray := prog_12_method_77_code
def yX10_takesRiver : MethodName := ⟨RX10, "takesRiver", "()Z"⟩
abbrev cX10_takesTown : ByteArray := prog_12_method_78_code
def yX10_takesTown : MethodName := ⟨RX10, "takesTown", "()Z"⟩
abbrev cX10_load : ByteArray := prog_12_method_79_code
def yX10_load : MethodName := ⟨RX10, "load", "()I"⟩
abbrev cX10_keeps : ByteArray := prog_12_method_80_code
def yX10_keeps : MethodName := ⟨RX10, "keeps", "()V"⟩
abbrev cX10_takesBack : ByteArray := prog_12_method_81_code
def yX10_takesBack : MethodName := ⟨RX10, "takesBack", "()V"⟩
abbrev cJ9_abs_0f7a4 : ByteArray := prog_13_method_59_code
def yJ9_abs_0f7a4 : MethodName := ⟨RJ9, "abs", "(I)I"⟩
abbrev cJ9_max_7cf53 : ByteArray := prog_13_method_65_code
def yJ9_max_7cf53 : MethodName := ⟨RJ9, "max", "(II)I"⟩
abbrev cJ9_min_7cf53 : ByteArray := prog_13_method_69_code
def yJ9_min_7cf53 : MethodName := ⟨RJ9, "min", "(II)I"⟩
abbrev cJ0_length_8abf5 : ByteArray := prog_14_method_54_code
def yJ0_length_8abf5 : MethodName := ⟨RJ0, "length", "()I"⟩
abbrev cJ0_charAt_5068e : ByteArray := prog_14_method_56_code
def yJ0_charAt_5068e : MethodName := ⟨RJ0, "charAt", "(I)C"⟩
abbrev cJ0_coder_7d493 : ByteArray := prog_14_method_152_code
def yJ0_coder_7d493 : MethodName := ⟨RJ0, "coder", "()B"⟩
abbrev cJ0_isLatin1_aae02 : ByteArray := prog_14_method_154_code
def yJ0_isLatin1_aae02 : MethodName := ⟨RJ0, "isLatin1", "()Z"⟩
abbrev cJ0_checkIndex_df160 : ByteArray := prog_14_method_155_code
def yJ0_checkIndex_df160 : MethodName := ⟨RJ0, "checkIndex", "(II)V"⟩
abbrev cJ1_charAt_3b067 : ByteArray := prog_15_method_2_code
def yJ1_charAt_3b067 : MethodName := ⟨RJ1, "charAt", "([BI)C"⟩
abbrev cJ7_fill_53178 : ByteArray := prog_18_method_103_code
def yJ7_fill_53178 : MethodName := ⟨RJ7, "fill", "([II)V"⟩
abbrev cJ3_checkIndex_8e157 : ByteArray := prog_19_method_11_code
def yJ3_checkIndex_8e157 : MethodName := ⟨RJ3, "checkIndex", "(IILjava/util/function/BiFunction;)I"⟩
abbrev cL_law : ByteArray := code
def yL_law : MethodName := ⟨RL, "law", "([I)Z"⟩
def rn_cl : List vw_C := [(RX0, TX0, 7), (RX1, TX1, 4), (RX2, TX2, 1), (RX3, TX3, 2), (RX4, TX4, 5), (RX5, TX5, 9), (RX6, TX6, 2), (RX7, TX7, 2), (RX8, TX8, 5), (RX9, TX9, 4), (RX10, TX10, 15)]
def rn_nf : Nat → Nat := fun c => match c with
  | 0 => 7
  | 1 => 4
  | 2 => 1
  | 3 => 2
  | 4 => 5
  | 5 => 9
  | 6 => 2
  | 7 => 2
  | 8 => 5
  | 9 => 4
  | 10 => 15
  | _ => 0
def rn_fk : Nat → Nat → Nat := fun c k => match c with
  | 0 => [0, 0, 0, 0, 2, 2, 2].getD k 0
  | 1 => [0, 2, 2, 2].getD k 0
  | 2 => [2].getD k 0
  | 3 => [2, 0].getD k 0
  | 4 => [2, 0, 0, 0, 1].getD k 0
  | 5 => [0, 0, 0, 0, 0, 2, 2, 2, 2].getD k 0
  | 6 => [0, 2].getD k 0
  | 7 => [0, 2].getD k 0
  | 8 => [0, 0, 0, 0, 0].getD k 0
  | 9 => [2, 2, 2, 2].getD k 0
  | 10 => [2, 2, 0, 2, 0, 2, 2, 2, 0, 0, 0, 0, 2, 2, 2].getD k 0
  | _ => 0
def rn_cn : Nat → String := fun c => match c with
  | 0 => RX0
  | 1 => RX1
  | 2 => RX2
  | 3 => RX3
  | 4 => RX4
  | 5 => RX5
  | 6 => RX6
  | 7 => RX7
  | 8 => RX8
  | 9 => RX9
  | _ => RX10
theorem rn_in0 : ∀ w ∈ wsX00, w ∈ lw_tbl := by decide +kernel
theorem rn_in1 : ∀ w ∈ wsX10, w ∈ lw_tbl := by decide +kernel
theorem rn_in2 : ∀ w ∈ wsX20, w ∈ lw_tbl := by decide +kernel
theorem rn_in3 : ∀ w ∈ wsX30, w ∈ lw_tbl := by decide +kernel
theorem rn_in4 : ∀ w ∈ wsX40, w ∈ lw_tbl := by decide +kernel
theorem rn_in5 : ∀ w ∈ wsX50, w ∈ lw_tbl := by decide +kernel
theorem rn_in6 : ∀ w ∈ wsX60, w ∈ lw_tbl := by decide +kernel
theorem rn_in7 : ∀ w ∈ wsX70, w ∈ lw_tbl := by decide +kernel
theorem rn_in8 : ∀ w ∈ wsX80, w ∈ lw_tbl := by decide +kernel
theorem rn_in9 : ∀ w ∈ wsX90, w ∈ lw_tbl := by decide +kernel
theorem rn_in10 : ∀ w ∈ wsX100, w ∈ lw_tbl := by decide +kernel
end
section
/-! THE ABSTRACT MACHINE: a value is an int (as an Int) or a reference (a place in the world's list; null; or nothing known) -/
abbrev rn_V : Type := Int ⊕ Option (Option Nat)
abbrev rn_I (x : Int) : rn_V := .inl x
abbrev rn_R (a : Nat) : rn_V := .inr (some (some a))
abbrev rn_N : rn_V := .inr (some none)
abbrev rn_J : rn_V := .inr none
/-- shape (kind, size of each cell), room left (cells, slots), ints, references -/
abbrev rn_M : Type := List (Nat × Nat) × (Nat × Nat) × (Nat → Nat → Int) × (Nat → Nat → Option Nat)
/-- instruction, next pc, a, b, place in the tables, kind, class, more -/
abbrev rn_E : Type := Instr × Nat × Nat × Nat × Nat × Nat × Nat × List Nat
/-- name, code, locals, answer, makes cells, cells, slots, frames, words, instructions -/
abbrev rn_Mt : Type := MethodName × ByteArray × Nat × Option FieldType × Bool × Nat × Nat × Nat × Nat × List (Nat × rn_E)
def rn_wr (z : Int) : Int := (z + 2147483648) % 4294967296 - 2147483648
def rn_and (x y : Int) : Int := (Int32.ofInt x &&& Int32.ofInt y).toInt
def rn_or (x y : Int) : Int := (Int32.ofInt x ||| Int32.ofInt y).toInt
def rn_shl (x y : Int) : Int := (Int32.ofInt x <<< (Int32.ofInt y &&& 31)).toInt
def rn_shr (x y : Int) : Int := (Int32.ofInt x >>> (Int32.ofInt y &&& 31)).toInt
def rn_kd (M : rn_M) (a : Nat) : Nat := (M.1.getD a (0, 0)).1
def rn_ln (M : rn_M) (a : Nat) : Nat := (M.1.getD a (0, 0)).2
def rn_gi (M : rn_M) (a k : Nat) : Int := M.2.2.1 a k
def rn_gr (M : rn_M) (a k : Nat) : Option Nat := M.2.2.2 a k
def rn_si (M : rn_M) (a k : Nat) (v : Int) : rn_M := (M.1, M.2.1, fun b j => if b = a ∧ j = k then v else M.2.2.1 b j, M.2.2.2)
def rn_sr (M : rn_M) (a k : Nat) (v : Option Nat) : rn_M := (M.1, M.2.1, M.2.2.1, fun b j => if b = a ∧ j = k then v else M.2.2.2 b j)
def rn_cpy (M : rn_M) (s d sp dp n : Nat) : rn_M := (M.1, M.2.1, fun b j => if b = d ∧ dp ≤ j ∧ j < dp + n then M.2.2.1 s (sp + (j - dp)) else M.2.2.1 b j, M.2.2.2)
def rn_nw (M : rn_M) (k n : Nat) : rn_M := (M.1 ++ [(k, n)], (M.2.1.1 - 1, M.2.1.2 - n), fun b j => if b = M.1.length then 0 else M.2.2.1 b j, fun b j => if b = M.1.length then none else M.2.2.2 b j)
def rn_sb (M : rn_M) (c s : Nat) : rn_M := (M.1, (c, s), M.2.2)
def rn_g (b : Bool) (P : Prop) : Prop := match b with | true => P | false => False
def rn_st1 (st : List rn_V) (f : Int → List rn_V → Prop) : Prop := match st with | .inl x :: t => f x t | _ => False
def rn_st2 (st : List rn_V) (f : Int → Int → List rn_V → Prop) : Prop := match st with | .inl y :: .inl x :: t => f x y t | _ => False
def rn_stR (st : List rn_V) (f : Nat → List rn_V → Prop) : Prop := match st with | .inr (some (some a)) :: t => f a t | _ => False
def rn_stA (st : List rn_V) (f : Nat → Int → List rn_V → Prop) : Prop := match st with | .inl i :: .inr (some (some a)) :: t => f a i t | _ => False
def rn_ldI (L : List rn_V) (i : Nat) (f : Int → Prop) : Prop := match L[i]? with | some (.inl x) => f x | _ => False
def rn_ldR (L : List rn_V) (i : Nat) (f : Option Nat → Prop) : Prop := match L[i]? with | some (.inr (some r)) => f r | _ => False
def rn_br (c A B : Prop) : Prop := (c → A) ∧ (¬ c → B)
def rn_in (M : rn_M) (a : Nat) (i : Int) : Prop := 0 ≤ i ∧ i < (rn_ln M a : Int)
def rn_okr (k : Nat) (x : Int) : Prop := match k with | 0 => True | 1 => x = 0 ∨ x = 1 | 2 => x = 0 | _ => 0 ≤ x ∧ x ≤ 65535
/-- a value of a field as its kind says -/
def rn_fv (k : Nat) (M : rn_M) (a b : Nat) : rn_V := match k with | 2 => .inr (some (rn_gr M a b)) | _ => .inl (rn_gi M a b)
/-- switch's roads -/
def rn_sw (ts : List Nat) (i : Nat) (f : Nat → Prop) : Prop := match ts[i]? with | some t => f t | none => False
abbrev rn_K : Type := Nat → List rn_V → List rn_V → rn_M → Prop
abbrev rn_Q : Type := Option rn_V → rn_M → Prop
abbrev rn_C : Type := Nat → List rn_V → rn_M → rn_Q → Prop
/-- a call: k = 4: of a method that makes cells -/
def rn_cal (k z mc ms : Nat) (as : List rn_V) (M : rn_M) (C : rn_C) (Q : rn_Q) : Prop := match k with
  | 4 => mc ≤ M.2.1.1 ∧ ms ≤ M.2.1.2 ∧ C z as (rn_sb M mc ms) (fun r M' => Q r (rn_sb M' (M.2.1.1 - mc) (M.2.1.2 - ms)))
  | _ => C z as M Q
def rn_rcv (as : List rn_V) (f : Nat → Prop) : Prop := match as with | .inr (some (some a)) :: _ => f a | _ => False
def rn_put (k : Nat) (st : List rn_V) (M : rn_M) (b : Nat) (f : Nat → rn_M → List rn_V → Prop) : Prop := match k with
  | 0 => match st with | .inl x :: .inr (some (some a)) :: t => f a (rn_si M a b x) t | _ => False
  | 1 => match st with | .inl x :: .inr (some (some a)) :: t => (x = 0 ∨ x = 1) ∧ f a (rn_si M a b x) t | _ => False
  | _ => match st with | .inr (some r) :: .inr (some (some a)) :: t => f a (rn_sr M a b r) t | _ => False
def rn_acp (st : List rn_V) (f : Int → Int → Nat → Int → Nat → List rn_V → Prop) : Prop := match st with
  | .inl n :: .inl dp :: .inr (some (some d)) :: .inl sp :: .inr (some (some s)) :: t => f n dp d sp s t
  | _ => False
/-- one instruction; 'mcs': cells and slots of each method -/
def rn_stp (mcs : Nat → Nat × Nat) (nf : Nat → Nat) (e : rn_E) (L st : List rn_V) (M : rn_M) (Q : rn_Q) (K : rn_K) (C : rn_C) : Prop :=
  match e with
  | (ins, nx, a, b, _, k, c, ts) =>
  match ins with
  | .iconst n => K nx L (.inl n :: st) M
  | .bipush n => K nx L (.inl n :: st) M
  | .sipush n => K nx L (.inl n :: st) M
  | .aconst_null => K nx L (.inr (some none) :: st) M
  | .iload _ => rn_ldI L a fun x => K nx L (.inl x :: st) M
  | .iload_n _ => rn_ldI L a fun x => K nx L (.inl x :: st) M
  | .aload _ => rn_ldR L a fun x => K nx L (.inr (some x) :: st) M
  | .aload_n _ => rn_ldR L a fun x => K nx L (.inr (some x) :: st) M
  | .istore _ => rn_st1 st fun x t => rn_g (Nat.blt a L.length) (K nx (L.set a (.inl x)) t M)
  | .istore_n _ => rn_st1 st fun x t => rn_g (Nat.blt a L.length) (K nx (L.set a (.inl x)) t M)
  | .astore _ => match st with | .inr (some r) :: t => rn_g (Nat.blt a L.length) (K nx (L.set a (.inr (some r))) t M) | _ => False
  | .astore_n _ => match st with | .inr (some r) :: t => rn_g (Nat.blt a L.length) (K nx (L.set a (.inr (some r))) t M) | _ => False
  | .iinc _ n => rn_ldI L a fun x => K nx (L.set a (.inl (rn_wr (x + n)))) st M
  | .iadd => rn_st2 st fun x y t => K nx L (.inl (rn_wr (x + y)) :: t) M
  | .isub => rn_st2 st fun x y t => K nx L (.inl (rn_wr (x - y)) :: t) M
  | .imul => rn_st2 st fun x y t => K nx L (.inl (rn_wr (x * y)) :: t) M
  | .iand => rn_st2 st fun x y t => K nx L (.inl (rn_and x y) :: t) M
  | .ior => rn_st2 st fun x y t => K nx L (.inl (rn_or x y) :: t) M
  | .ishl => rn_st2 st fun x y t => K nx L (.inl (rn_shl x y) :: t) M
  | .ishr => rn_st2 st fun x y t => K nx L (.inl (rn_shr x y) :: t) M
  | .ineg => rn_st1 st fun x t => K nx L (.inl (rn_wr (-x)) :: t) M
  | .i2c => rn_st1 st fun x t => 0 ≤ x ∧ x ≤ 65535 ∧ K nx L (.inl x :: t) M
  | .dup => match st with | v :: t => K nx L (v :: v :: t) M | _ => False
  | .dup2 => match st with | v :: w :: t => K nx L (v :: w :: v :: w :: t) M | _ => False
  | .pop => match st with | _ :: t => K nx L t M | _ => False
  | .goto _ => K a L st M
  | .ifCond .eq _ => rn_st1 st fun x t => rn_br (x = 0) (K a L t M) (K nx L t M)
  | .ifCond .ne _ => rn_st1 st fun x t => rn_br (x = 0) (K nx L t M) (K a L t M)
  | .ifCond .lt _ => rn_st1 st fun x t => rn_br (x < 0) (K a L t M) (K nx L t M)
  | .ifCond .ge _ => rn_st1 st fun x t => rn_br (0 ≤ x) (K a L t M) (K nx L t M)
  | .ifCond .gt _ => rn_st1 st fun x t => rn_br (0 < x) (K a L t M) (K nx L t M)
  | .ifCond .le _ => rn_st1 st fun x t => rn_br (x ≤ 0) (K a L t M) (K nx L t M)
  | .if_icmp .eq _ => rn_st2 st fun x y t => rn_br (x = y) (K a L t M) (K nx L t M)
  | .if_icmp .ne _ => rn_st2 st fun x y t => rn_br (x = y) (K nx L t M) (K a L t M)
  | .if_icmp .lt _ => rn_st2 st fun x y t => rn_br (x < y) (K a L t M) (K nx L t M)
  | .if_icmp .ge _ => rn_st2 st fun x y t => rn_br (x < y) (K nx L t M) (K a L t M)
  | .if_icmp .gt _ => rn_st2 st fun x y t => rn_br (y < x) (K a L t M) (K nx L t M)
  | .if_icmp .le _ => rn_st2 st fun x y t => rn_br (x ≤ y) (K a L t M) (K nx L t M)
  | .ifnull _ => match st with | .inr (some none) :: t => K a L t M | .inr (some (some _)) :: t => K nx L t M | _ => False
  | .ifnonnull _ => match st with | .inr (some none) :: t => K nx L t M | .inr (some (some _)) :: t => K a L t M | _ => False
  | .tableswitch _ lo hi _ => rn_st1 st fun x t => rn_br (x < lo ∨ hi < x) (K a L t M) (rn_sw ts (x - lo).toNat fun p => K p L t M)
  | .getfield _ => rn_stR st fun r t => rn_kd M r = c ∧ K nx L (rn_fv k M r b :: t) M
  | .putfield _ => rn_put k st M b fun r M' t => rn_kd M r = c ∧ K nx L t M'
  | .getstatic _ => match b with | 2 => K nx L (.inl 1 :: st) M | 3 => K nx L (.inr none :: st) M | _ => K nx L (.inr (some (some a)) :: st) M
  | .ldc _ => K nx L (.inr (some (some a)) :: st) M
  | .iaload => rn_stA st fun r i t => (rn_kd M r = 20 ∨ rn_kd M r = 21) ∧ rn_in M r i ∧ K nx L (.inl (rn_gi M r i.toNat) :: t) M
  | .baload => rn_stA st fun r i t => rn_kd M r = 23 ∧ rn_in M r i ∧ K nx L (.inl (rn_gi M r i.toNat) :: t) M
  | .iastore => match st with | .inl x :: .inl i :: .inr (some (some r)) :: t => rn_kd M r = 20 ∧ rn_in M r i ∧ K nx L t (rn_si M r i.toNat x) | _ => False
  | .aaload => rn_stA st fun r i t => 30 ≤ rn_kd M r ∧ rn_in M r i ∧ K nx L (.inr (some (rn_gr M r i.toNat)) :: t) M
  | .aastore => match st with | .inr (some (some v)) :: .inl i :: .inr (some (some r)) :: t => 30 ≤ rn_kd M r ∧ rn_kd M v + 29 = rn_kd M r ∧ rn_in M r i ∧ K nx L t (rn_sr M r i.toNat (some v)) | _ => False
  | .arraylength => rn_stR st fun r t => (rn_kd M r = 20 ∨ rn_kd M r = 21 ∨ rn_kd M r = 23) ∧ K nx L (.inl (rn_ln M r) :: t) M
  | .new _ => 1 ≤ M.2.1.1 ∧ nf a ≤ M.2.1.2 ∧ K nx L (.inr (some (some M.1.length)) :: st) (rn_nw M (a + 1) (nf a))
  | .newarray _ => rn_st1 st fun n t => 0 ≤ n ∧ n ≤ 100000 ∧ 1 ≤ M.2.1.1 ∧ n.toNat ≤ M.2.1.2 ∧ K nx L (.inr (some (some M.1.length)) :: t) (rn_nw M 20 n.toNat)
  | .anewarray _ => rn_st1 st fun n t => 0 ≤ n ∧ n ≤ 100000 ∧ 1 ≤ M.2.1.1 ∧ n.toNat ≤ M.2.1.2 ∧ K nx L (.inr (some (some M.1.length)) :: t) (rn_nw M (a + 30) n.toNat)
  | .invokevirtual _ => rn_g (Nat.ble b st.length && Nat.ble (st.drop b).length 8) (rn_rcv (st.take b).reverse fun r => rn_kd M r = c ∧ rn_cal k a (mcs a).1 (mcs a).2 (st.take b).reverse M C fun v M' => K nx L (v.toList ++ st.drop b) M')
  | .invokestatic _ => match k with
    | 3 => rn_acp st fun n dp d sp s t => rn_g (Nat.ble t.length 8) (rn_kd M s = 20 ∧ rn_kd M d = 20 ∧ 0 ≤ n ∧ 0 ≤ dp ∧ 0 ≤ sp ∧ sp + n ≤ (rn_ln M s : Int) ∧ dp + n ≤ (rn_ln M d : Int) ∧ K nx L t (rn_cpy M s d sp.toNat dp.toNat n.toNat))
    | 5 => rn_st2 st fun x y t => rn_g (Nat.ble t.length 8) (K nx L (.inl (max x y) :: t) M)
    | 6 => rn_st2 st fun x y t => rn_g (Nat.ble t.length 8) (K nx L (.inl (min x y) :: t) M)
    | 7 => rn_st1 st fun x t => rn_g (Nat.ble t.length 8) (K nx L (.inl (rn_wr (max x (-x))) :: t) M)
    | _ => rn_g (Nat.ble b st.length && Nat.ble (st.drop b).length 8) (rn_cal k a (mcs a).1 (mcs a).2 (st.take b).reverse M C fun v M' => K nx L (v.toList ++ st.drop b) M')
  | .invokespecial _ => match k with
    | 2 => rn_stR st fun _ t => rn_g (Nat.ble t.length 8) (K nx L t M)
    | _ => rn_g (Nat.ble b st.length && Nat.ble (st.drop b).length 8) (rn_rcv (st.take b).reverse fun r => rn_kd M r = c ∧ rn_cal k a (mcs a).1 (mcs a).2 (st.take b).reverse M C fun v M' => K nx L (v.toList ++ st.drop b) M')
  | .ireturn => match st with | [.inl x] => rn_okr k x ∧ Q (some (.inl x)) M | _ => False
  | .areturn => match st with | [.inr (some r)] => Q (some (.inr (some r))) M | _ => False
  | .return_ => match st with | [] => Q none M | _ => False
  | _ => False
end
section
def rn_t0 : List (Nat × rn_E) := [(0, (.aload_n 0, 1, 0, 0, 0, 0, 0, [])),
  (1, (.invokespecial 3, 4, 1000, 1, 145, 2, 0, [0])),
  (4, (.aload_n 0, 5, 0, 0, 0, 0, 0, [])),
  (5, (.bipush 10, 7, 0, 0, 0, 0, 0, [])),
  (7, (.putfield 9, 10, 0, 3, 253, 0, 1, [])),
  (10, (.aload_n 0, 11, 0, 0, 0, 0, 0, [])),
  (11, (.bipush 6, 13, 0, 0, 0, 0, 0, [])),
  (13, (.anewarray 15, 16, 5, 0, 146, 0, 0, [])),
  (16, (.putfield 17, 19, 0, 4, 256, 2, 1, [])),
  (19, (.aload_n 0, 20, 0, 0, 0, 0, 0, [])),
  (20, (.bipush 10, 22, 0, 0, 0, 0, 0, [])),
  (22, (.anewarray 21, 25, 8, 0, 148, 0, 0, [])),
  (25, (.putfield 23, 28, 0, 5, 257, 2, 1, [])),
  (28, (.aload_n 0, 29, 0, 0, 0, 0, 0, [])),
  (29, (.bipush 20, 31, 0, 0, 0, 0, 0, [])),
  (31, (.anewarray 27, 34, 3, 0, 150, 0, 0, [])),
  (34, (.putfield 29, 37, 0, 6, 258, 2, 1, [])),
  (37, (.iconst 0, 38, 0, 0, 0, 0, 0, [])),
  (38, (.istore_n 1, 39, 1, 0, 0, 0, 0, [])),
  (39, (.iload_n 1, 40, 1, 0, 0, 0, 0, [])),
  (40, (.bipush 6, 42, 0, 0, 0, 0, 0, [])),
  (42, (.if_icmp .ge 23, 45, 65, 0, 0, 0, 0, [])),
  (45, (.aload_n 0, 46, 0, 0, 0, 0, 0, [])),
  (46, (.getfield 17, 49, 0, 4, 256, 2, 1, [])),
  (49, (.iload_n 1, 50, 1, 0, 0, 0, 0, [])),
  (50, (.new 15, 53, 5, 0, 146, 0, 0, [])),
  (53, (.dup, 54, 0, 0, 0, 0, 0, [])),
  (54, (.iload_n 1, 55, 1, 0, 0, 0, 0, [])),
  (55, (.invokespecial 33, 58, 57, 2, 153, 4, 6, [0])),
  (58, (.aastore, 59, 0, 0, 0, 0, 0, [])),
  (59, (.iinc 1 1, 62, 1, 0, 0, 0, 0, [])),
  (62, (.goto (-23), 65, 39, 0, 0, 0, 0, [])),
  (65, (.iconst 0, 66, 0, 0, 0, 0, 0, [])),
  (66, (.istore_n 1, 67, 1, 0, 0, 0, 0, [])),
  (67, (.iload_n 1, 68, 1, 0, 0, 0, 0, [])),
  (68, (.bipush 10, 70, 0, 0, 0, 0, 0, [])),
  (70, (.if_icmp .ge 22, 73, 92, 0, 0, 0, 0, [])),
  (73, (.aload_n 0, 74, 0, 0, 0, 0, 0, [])),
  (74, (.getfield 23, 77, 0, 5, 257, 2, 1, [])),
  (77, (.iload_n 1, 78, 1, 0, 0, 0, 0, [])),
  (78, (.new 21, 81, 8, 0, 148, 0, 0, [])),
  (81, (.dup, 82, 0, 0, 0, 0, 0, [])),
  (82, (.invokespecial 36, 85, 86, 1, 2, 0, 9, [1])),
  (85, (.aastore, 86, 0, 0, 0, 0, 0, [])),
  (86, (.iinc 1 1, 89, 1, 0, 0, 0, 0, [])),
  (89, (.goto (-22), 92, 67, 0, 0, 0, 0, [])),
  (92, (.iconst 0, 93, 0, 0, 0, 0, 0, [])),
  (93, (.istore_n 1, 94, 1, 0, 0, 0, 0, [])),
  (94, (.iload_n 1, 95, 1, 0, 0, 0, 0, [])),
  (95, (.bipush 20, 97, 0, 0, 0, 0, 0, [])),
  (97, (.if_icmp .ge 28, 100, 125, 0, 0, 0, 0, [])),
  (100, (.aload_n 0, 101, 0, 0, 0, 0, 0, [])),
  (101, (.getfield 29, 104, 0, 6, 258, 2, 1, [])),
  (104, (.iload_n 1, 105, 1, 0, 0, 0, 0, [])),
  (105, (.new 27, 108, 3, 0, 150, 0, 0, [])),
  (108, (.dup, 109, 0, 0, 0, 0, 0, [])),
  (109, (.aload_n 0, 110, 0, 0, 0, 0, 0, [])),
  (110, (.getfield 17, 113, 0, 4, 256, 2, 1, [])),
  (113, (.iconst 0, 114, 0, 0, 0, 0, 0, [])),
  (114, (.aaload, 115, 0, 0, 0, 0, 0, [])),
  (115, (.invokespecial 37, 118, 40, 2, 227, 0, 4, [0])),
  (118, (.aastore, 119, 0, 0, 0, 0, 0, [])),
  (119, (.iinc 1 1, 122, 1, 0, 0, 0, 0, [])),
  (122, (.goto (-28), 125, 94, 0, 0, 0, 0, [])),
  (125, (.return_, 126, 0, 0, 0, 0, 0, []))]
def rn_m0 : rn_Mt := (yX0_init, cX0_init, 2, none, true, 63, 3000, 2, 41, rn_t0)
def rn_t1 : List (Nat × rn_E) := [(0, (.aload_n 0, 1, 0, 0, 0, 0, 0, [])),
  (1, (.iconst 0, 2, 0, 0, 0, 0, 0, [])),
  (2, (.putfield 40, 5, 0, 0, 244, 0, 1, [])),
  (5, (.aload_n 0, 6, 0, 0, 0, 0, 0, [])),
  (6, (.iconst 0, 7, 0, 0, 0, 0, 0, [])),
  (7, (.putfield 43, 10, 0, 1, 247, 0, 1, [])),
  (10, (.aload_n 0, 11, 0, 0, 0, 0, 0, [])),
  (11, (.iconst 0, 12, 0, 0, 0, 0, 0, [])),
  (12, (.putfield 46, 15, 0, 2, 250, 0, 1, [])),
  (15, (.aload_n 0, 16, 0, 0, 0, 0, 0, [])),
  (16, (.aload_n 1, 17, 1, 0, 0, 0, 0, [])),
  (17, (.getfield 9, 20, 0, 3, 253, 0, 1, [])),
  (20, (.putfield 9, 23, 0, 3, 253, 0, 1, [])),
  (23, (.iconst 0, 24, 0, 0, 0, 0, 0, [])),
  (24, (.istore_n 2, 25, 2, 0, 0, 0, 0, [])),
  (25, (.iload_n 2, 26, 2, 0, 0, 0, 0, [])),
  (26, (.aload_n 1, 27, 1, 0, 0, 0, 0, [])),
  (27, (.getfield 40, 30, 0, 0, 244, 0, 1, [])),
  (30, (.if_icmp .ge 18, 33, 48, 0, 0, 0, 0, [])),
  (33, (.aload_n 0, 34, 0, 0, 0, 0, 0, [])),
  (34, (.aload_n 1, 35, 1, 0, 0, 0, 0, [])),
  (35, (.iload_n 2, 36, 2, 0, 0, 0, 0, [])),
  (36, (.invokevirtual 49, 39, 5, 2, 359, 0, 1, [0])),
  (39, (.invokevirtual 53, 42, 2, 2, 364, 0, 1, [0])),
  (42, (.iinc 2 1, 45, 2, 0, 0, 0, 0, [])),
  (45, (.goto (-20), 48, 25, 0, 0, 0, 0, [])),
  (48, (.iconst 0, 49, 0, 0, 0, 0, 0, [])),
  (49, (.istore_n 2, 50, 2, 0, 0, 0, 0, [])),
  (50, (.iload_n 2, 51, 2, 0, 0, 0, 0, [])),
  (51, (.aload_n 1, 52, 1, 0, 0, 0, 0, [])),
  (52, (.getfield 43, 55, 0, 1, 247, 0, 1, [])),
  (55, (.if_icmp .ge 18, 58, 73, 0, 0, 0, 0, [])),
  (58, (.aload_n 0, 59, 0, 0, 0, 0, 0, [])),
  (59, (.aload_n 1, 60, 1, 0, 0, 0, 0, [])),
  (60, (.iload_n 2, 61, 2, 0, 0, 0, 0, [])),
  (61, (.invokevirtual 56, 64, 6, 2, 383, 0, 1, [0])),
  (64, (.invokevirtual 60, 67, 3, 2, 387, 0, 1, [0])),
  (67, (.iinc 2 1, 70, 2, 0, 0, 0, 0, [])),
  (70, (.goto (-20), 73, 50, 0, 0, 0, 0, [])),
  (73, (.iconst 0, 74, 0, 0, 0, 0, 0, [])),
  (74, (.istore_n 2, 75, 2, 0, 0, 0, 0, [])),
  (75, (.iload_n 2, 76, 2, 0, 0, 0, 0, [])),
  (76, (.aload_n 1, 77, 1, 0, 0, 0, 0, [])),
  (77, (.getfield 46, 80, 0, 2, 250, 0, 1, [])),
  (80, (.if_icmp .ge 18, 83, 98, 0, 0, 0, 0, [])),
  (83, (.aload_n 0, 84, 0, 0, 0, 0, 0, [])),
  (84, (.aload_n 1, 85, 1, 0, 0, 0, 0, [])),
  (85, (.iload_n 2, 86, 2, 0, 0, 0, 0, [])),
  (86, (.invokevirtual 64, 89, 7, 2, 403, 0, 1, [0])),
  (89, (.invokevirtual 68, 92, 4, 2, 407, 0, 1, [0])),
  (92, (.iinc 2 1, 95, 2, 0, 0, 0, 0, [])),
  (95, (.goto (-20), 98, 75, 0, 0, 0, 0, [])),
  (98, (.return_, 99, 0, 0, 0, 0, 0, []))]
def rn_m1 : rn_Mt := (yX0_copyFrom, cX0_copyFrom, 3, none, false, 0, 0, 3, 81, rn_t1)
def rn_t2 : List (Nat × rn_E) := [(0, (.aload_n 0, 1, 0, 0, 0, 0, 0, [])),
  (1, (.invokevirtual 72, 4, 8, 1, 368, 0, 1, [0])),
  (4, (.astore_n 2, 5, 2, 0, 0, 0, 0, [])),
  (5, (.aload_n 2, 6, 2, 0, 0, 0, 0, [])),
  (6, (.ifnull 12, 9, 18, 0, 0, 0, 0, [])),
  (9, (.aload_n 1, 10, 1, 0, 0, 0, 0, [])),
  (10, (.ifnull 8, 13, 18, 0, 0, 0, 0, [])),
  (13, (.aload_n 2, 14, 2, 0, 0, 0, 0, [])),
  (14, (.aload_n 1, 15, 1, 0, 0, 0, 0, [])),
  (15, (.invokevirtual 76, 18, 58, 2, 376, 0, 6, [0])),
  (18, (.return_, 19, 0, 0, 0, 0, 0, []))]
def rn_m2 : rn_Mt := (yX0_copyRiver, cX0_copyRiver, 3, none, false, 0, 0, 2, 59, rn_t2)
def rn_t3 : List (Nat × rn_E) := [(0, (.aload_n 0, 1, 0, 0, 0, 0, 0, [])),
  (1, (.invokevirtual 79, 4, 9, 1, 391, 0, 1, [0])),
  (4, (.astore_n 2, 5, 2, 0, 0, 0, 0, [])),
  (5, (.aload_n 2, 6, 2, 0, 0, 0, 0, [])),
  (6, (.ifnull 12, 9, 18, 0, 0, 0, 0, [])),
  (9, (.aload_n 1, 10, 1, 0, 0, 0, 0, [])),
  (10, (.ifnull 8, 13, 18, 0, 0, 0, 0, [])),
  (13, (.aload_n 2, 14, 2, 0, 0, 0, 0, [])),
  (14, (.aload_n 1, 15, 1, 0, 0, 0, 0, [])),
  (15, (.invokevirtual 83, 18, 88, 2, 395, 0, 9, [0])),
  (18, (.return_, 19, 0, 0, 0, 0, 0, []))]
def rn_m3 : rn_Mt := (yX0_copyTown, cX0_copyTown, 3, none, false, 0, 0, 2, 46, rn_t3)
def rn_t4 : List (Nat × rn_E) := [(0, (.aload_n 1, 1, 1, 0, 0, 0, 0, [])),
  (1, (.ifnull 23, 4, 24, 0, 0, 0, 0, [])),
  (4, (.aload_n 0, 5, 0, 0, 0, 0, 0, [])),
  (5, (.aload_n 0, 6, 0, 0, 0, 0, 0, [])),
  (6, (.aload_n 1, 7, 1, 0, 0, 0, 0, [])),
  (7, (.getfield 85, 10, 3, 0, 233, 2, 4, [])),
  (10, (.getfield 89, 13, 5, 0, 159, 0, 6, [])),
  (13, (.invokevirtual 49, 16, 5, 2, 359, 0, 1, [0])),
  (16, (.aload_n 1, 17, 1, 0, 0, 0, 0, [])),
  (17, (.getfield 92, 20, 3, 1, 237, 0, 4, [])),
  (20, (.invokevirtual 95, 23, 10, 3, 411, 0, 1, [0])),
  (23, (.pop, 24, 0, 0, 0, 0, 0, [])),
  (24, (.return_, 25, 0, 0, 0, 0, 0, []))]
def rn_m4 : rn_Mt := (yX0_copyLabel, cX0_copyLabel, 2, none, false, 0, 0, 2, 45, rn_t4)
def rn_t5 : List (Nat × rn_E) := [(0, (.iload_n 1, 1, 1, 0, 0, 0, 0, [])),
  (1, (.iconst 0, 2, 0, 0, 0, 0, 0, [])),
  (2, (.aload_n 0, 3, 0, 0, 0, 0, 0, [])),
  (3, (.getfield 40, 6, 0, 0, 244, 0, 1, [])),
  (6, (.iconst 1, 7, 0, 0, 0, 0, 0, [])),
  (7, (.isub, 8, 0, 0, 0, 0, 0, [])),
  (8, (.invokestatic 99, 11, 118, 3, 6, 0, 10, [1])),
  (11, (.ifCond .eq 12, 14, 23, 0, 0, 0, 0, [])),
  (14, (.aload_n 0, 15, 0, 0, 0, 0, 0, [])),
  (15, (.getfield 17, 18, 0, 4, 256, 2, 1, [])),
  (18, (.iload_n 1, 19, 1, 0, 0, 0, 0, [])),
  (19, (.aaload, 20, 0, 0, 0, 0, 0, [])),
  (20, (.goto 4, 23, 24, 0, 0, 0, 0, [])),
  (23, (.aconst_null, 24, 0, 0, 0, 0, 0, [])),
  (24, (.areturn, 25, 0, 0, 0, 0, 0, []))]
def rn_m5 : rn_Mt := (yX0_riverAt, cX0_riverAt, 2, (some (.object "RiverNames$River")), false, 0, 0, 1, 22, rn_t5)
def rn_t6 : List (Nat × rn_E) := [(0, (.iload_n 1, 1, 1, 0, 0, 0, 0, [])),
  (1, (.iconst 0, 2, 0, 0, 0, 0, 0, [])),
  (2, (.aload_n 0, 3, 0, 0, 0, 0, 0, [])),
  (3, (.getfield 43, 6, 0, 1, 247, 0, 1, [])),
  (6, (.iconst 1, 7, 0, 0, 0, 0, 0, [])),
  (7, (.isub, 8, 0, 0, 0, 0, 0, [])),
  (8, (.invokestatic 99, 11, 118, 3, 6, 0, 10, [1])),
  (11, (.ifCond .eq 12, 14, 23, 0, 0, 0, 0, [])),
  (14, (.aload_n 0, 15, 0, 0, 0, 0, 0, [])),
  (15, (.getfield 23, 18, 0, 5, 257, 2, 1, [])),
  (18, (.iload_n 1, 19, 1, 0, 0, 0, 0, [])),
  (19, (.aaload, 20, 0, 0, 0, 0, 0, [])),
  (20, (.goto 4, 23, 24, 0, 0, 0, 0, [])),
  (23, (.aconst_null, 24, 0, 0, 0, 0, 0, [])),
  (24, (.areturn, 25, 0, 0, 0, 0, 0, []))]
def rn_m6 : rn_Mt := (yX0_townAt, cX0_townAt, 2, (some (.object "RiverNames$Town")), false, 0, 0, 1, 22, rn_t6)
def rn_t7 : List (Nat × rn_E) := [(0, (.iload_n 1, 1, 1, 0, 0, 0, 0, [])),
  (1, (.iconst 0, 2, 0, 0, 0, 0, 0, [])),
  (2, (.aload_n 0, 3, 0, 0, 0, 0, 0, [])),
  (3, (.getfield 46, 6, 0, 2, 250, 0, 1, [])),
  (6, (.iconst 1, 7, 0, 0, 0, 0, 0, [])),
  (7, (.isub, 8, 0, 0, 0, 0, 0, [])),
  (8, (.invokestatic 99, 11, 118, 3, 6, 0, 10, [1])),
  (11, (.ifCond .eq 12, 14, 23, 0, 0, 0, 0, [])),
  (14, (.aload_n 0, 15, 0, 0, 0, 0, 0, [])),
  (15, (.getfield 29, 18, 0, 6, 258, 2, 1, [])),
  (18, (.iload_n 1, 19, 1, 0, 0, 0, 0, [])),
  (19, (.aaload, 20, 0, 0, 0, 0, 0, [])),
  (20, (.goto 4, 23, 24, 0, 0, 0, 0, [])),
  (23, (.aconst_null, 24, 0, 0, 0, 0, 0, [])),
  (24, (.areturn, 25, 0, 0, 0, 0, 0, []))]
def rn_m7 : rn_Mt := (yX0_labelAt, cX0_labelAt, 2, (some (.object "RiverNames$Label")), false, 0, 0, 1, 22, rn_t7)
def rn_t8 : List (Nat × rn_E) := [(0, (.aload_n 0, 1, 0, 0, 0, 0, 0, [])),
  (1, (.getfield 40, 4, 0, 0, 244, 0, 1, [])),
  (4, (.iconst 0, 5, 0, 0, 0, 0, 0, [])),
  (5, (.iconst 5, 6, 0, 0, 0, 0, 0, [])),
  (6, (.invokestatic 99, 9, 118, 3, 6, 0, 10, [1])),
  (9, (.ifCond .ne 5, 12, 14, 0, 0, 0, 0, [])),
  (12, (.aconst_null, 13, 0, 0, 0, 0, 0, [])),
  (13, (.areturn, 14, 0, 0, 0, 0, 0, [])),
  (14, (.aload_n 0, 15, 0, 0, 0, 0, 0, [])),
  (15, (.getfield 17, 18, 0, 4, 256, 2, 1, [])),
  (18, (.aload_n 0, 19, 0, 0, 0, 0, 0, [])),
  (19, (.getfield 40, 22, 0, 0, 244, 0, 1, [])),
  (22, (.aaload, 23, 0, 0, 0, 0, 0, [])),
  (23, (.astore_n 1, 24, 1, 0, 0, 0, 0, [])),
  (24, (.aload_n 1, 25, 1, 0, 0, 0, 0, [])),
  (25, (.ifnull 17, 28, 42, 0, 0, 0, 0, [])),
  (28, (.aload_n 1, 29, 1, 0, 0, 0, 0, [])),
  (29, (.invokevirtual 103, 32, 59, 1, 372, 0, 6, [0])),
  (32, (.aload_n 0, 33, 0, 0, 0, 0, 0, [])),
  (33, (.dup, 34, 0, 0, 0, 0, 0, [])),
  (34, (.getfield 40, 37, 0, 0, 244, 0, 1, [])),
  (37, (.iconst 1, 38, 0, 0, 0, 0, 0, [])),
  (38, (.iadd, 39, 0, 0, 0, 0, 0, [])),
  (39, (.putfield 40, 42, 0, 0, 244, 0, 1, [])),
  (42, (.aload_n 1, 43, 1, 0, 0, 0, 0, [])),
  (43, (.areturn, 44, 0, 0, 0, 0, 0, []))]
def rn_m8 : rn_Mt := (yX0_nextRiver, cX0_nextRiver, 2, (some (.object "RiverNames$River")), false, 0, 0, 1, 22, rn_t8)
def rn_t9 : List (Nat × rn_E) := [(0, (.aload_n 0, 1, 0, 0, 0, 0, 0, [])),
  (1, (.getfield 43, 4, 0, 1, 247, 0, 1, [])),
  (4, (.iconst 0, 5, 0, 0, 0, 0, 0, [])),
  (5, (.bipush 9, 7, 0, 0, 0, 0, 0, [])),
  (7, (.invokestatic 99, 10, 118, 3, 6, 0, 10, [1])),
  (10, (.ifCond .ne 5, 13, 15, 0, 0, 0, 0, [])),
  (13, (.aconst_null, 14, 0, 0, 0, 0, 0, [])),
  (14, (.areturn, 15, 0, 0, 0, 0, 0, [])),
  (15, (.aload_n 0, 16, 0, 0, 0, 0, 0, [])),
  (16, (.dup, 17, 0, 0, 0, 0, 0, [])),
  (17, (.getfield 43, 20, 0, 1, 247, 0, 1, [])),
  (20, (.iconst 1, 21, 0, 0, 0, 0, 0, [])),
  (21, (.iadd, 22, 0, 0, 0, 0, 0, [])),
  (22, (.putfield 43, 25, 0, 1, 247, 0, 1, [])),
  (25, (.aload_n 0, 26, 0, 0, 0, 0, 0, [])),
  (26, (.getfield 23, 29, 0, 5, 257, 2, 1, [])),
  (29, (.aload_n 0, 30, 0, 0, 0, 0, 0, [])),
  (30, (.getfield 43, 33, 0, 1, 247, 0, 1, [])),
  (33, (.iconst 1, 34, 0, 0, 0, 0, 0, [])),
  (34, (.isub, 35, 0, 0, 0, 0, 0, [])),
  (35, (.aaload, 36, 0, 0, 0, 0, 0, [])),
  (36, (.areturn, 37, 0, 0, 0, 0, 0, []))]
def rn_m9 : rn_Mt := (yX0_nextTown, cX0_nextTown, 1, (some (.object "RiverNames$Town")), false, 0, 0, 1, 22, rn_t9)
def rn_t10 : List (Nat × rn_E) := [(0, (.aload_n 1, 1, 1, 0, 0, 0, 0, [])),
  (1, (.ifnull 16, 4, 17, 0, 0, 0, 0, [])),
  (4, (.aload_n 0, 5, 0, 0, 0, 0, 0, [])),
  (5, (.getfield 46, 8, 0, 2, 250, 0, 1, [])),
  (8, (.iconst 0, 9, 0, 0, 0, 0, 0, [])),
  (9, (.bipush 19, 11, 0, 0, 0, 0, 0, [])),
  (11, (.invokestatic 99, 14, 118, 3, 6, 0, 10, [1])),
  (14, (.ifCond .ne 5, 17, 19, 0, 0, 0, 0, [])),
  (17, (.iconst 0, 18, 0, 0, 0, 0, 0, [])),
  (18, (.ireturn, 19, 0, 0, 0, 1, 0, [])),
  (19, (.aload_n 0, 20, 0, 0, 0, 0, 0, [])),
  (20, (.getfield 29, 23, 0, 6, 258, 2, 1, [])),
  (23, (.aload_n 0, 24, 0, 0, 0, 0, 0, [])),
  (24, (.getfield 46, 27, 0, 2, 250, 0, 1, [])),
  (27, (.aaload, 28, 0, 0, 0, 0, 0, [])),
  (28, (.astore_n 3, 29, 3, 0, 0, 0, 0, [])),
  (29, (.aload_n 3, 30, 3, 0, 0, 0, 0, [])),
  (30, (.ifnonnull 5, 33, 35, 0, 0, 0, 0, [])),
  (33, (.iconst 0, 34, 0, 0, 0, 0, 0, [])),
  (34, (.ireturn, 35, 0, 0, 0, 1, 0, [])),
  (35, (.aload_n 3, 36, 3, 0, 0, 0, 0, [])),
  (36, (.aload_n 1, 37, 1, 0, 0, 0, 0, [])),
  (37, (.iload_n 2, 38, 2, 0, 0, 0, 0, [])),
  (38, (.invokevirtual 106, 41, 41, 3, 415, 0, 4, [0])),
  (41, (.aload_n 0, 42, 0, 0, 0, 0, 0, [])),
  (42, (.dup, 43, 0, 0, 0, 0, 0, [])),
  (43, (.getfield 46, 46, 0, 2, 250, 0, 1, [])),
  (46, (.iconst 1, 47, 0, 0, 0, 0, 0, [])),
  (47, (.iadd, 48, 0, 0, 0, 0, 0, [])),
  (48, (.putfield 46, 51, 0, 2, 250, 0, 1, [])),
  (51, (.iconst 1, 52, 0, 0, 0, 0, 0, [])),
  (52, (.ireturn, 53, 0, 0, 0, 1, 0, []))]
def rn_m10 : rn_Mt := (yX0_addLabel, cX0_addLabel, 4, (some .boolean), false, 0, 0, 1, 22, rn_t10)
def rn_t11 : List (Nat × rn_E) := [(0, (.aload_n 0, 1, 0, 0, 0, 0, 0, [])),
  (1, (.iload_n 1, 2, 1, 0, 0, 0, 0, [])),
  (2, (.invokevirtual 64, 5, 7, 2, 403, 0, 1, [0])),
  (5, (.astore_n 2, 6, 2, 0, 0, 0, 0, [])),
  (6, (.aload_n 2, 7, 2, 0, 0, 0, 0, [])),
  (7, (.ifnonnull 5, 10, 12, 0, 0, 0, 0, [])),
  (10, (.iconst 0, 11, 0, 0, 0, 0, 0, [])),
  (11, (.ireturn, 12, 0, 0, 0, 1, 0, [])),
  (12, (.iload_n 1, 13, 1, 0, 0, 0, 0, [])),
  (13, (.istore_n 3, 14, 3, 0, 0, 0, 0, [])),
  (14, (.iload_n 3, 15, 3, 0, 0, 0, 0, [])),
  (15, (.aload_n 0, 16, 0, 0, 0, 0, 0, [])),
  (16, (.getfield 46, 19, 0, 2, 250, 0, 1, [])),
  (19, (.iconst 1, 20, 0, 0, 0, 0, 0, [])),
  (20, (.isub, 21, 0, 0, 0, 0, 0, [])),
  (21, (.if_icmp .ge 23, 24, 44, 0, 0, 0, 0, [])),
  (24, (.aload_n 0, 25, 0, 0, 0, 0, 0, [])),
  (25, (.getfield 29, 28, 0, 6, 258, 2, 1, [])),
  (28, (.iload_n 3, 29, 3, 0, 0, 0, 0, [])),
  (29, (.aload_n 0, 30, 0, 0, 0, 0, 0, [])),
  (30, (.getfield 29, 33, 0, 6, 258, 2, 1, [])),
  (33, (.iload_n 3, 34, 3, 0, 0, 0, 0, [])),
  (34, (.iconst 1, 35, 0, 0, 0, 0, 0, [])),
  (35, (.iadd, 36, 0, 0, 0, 0, 0, [])),
  (36, (.aaload, 37, 0, 0, 0, 0, 0, [])),
  (37, (.aastore, 38, 0, 0, 0, 0, 0, [])),
  (38, (.iinc 3 1, 41, 3, 0, 0, 0, 0, [])),
  (41, (.goto (-27), 44, 14, 0, 0, 0, 0, [])),
  (44, (.aload_n 0, 45, 0, 0, 0, 0, 0, [])),
  (45, (.getfield 29, 48, 0, 6, 258, 2, 1, [])),
  (48, (.aload_n 0, 49, 0, 0, 0, 0, 0, [])),
  (49, (.getfield 46, 52, 0, 2, 250, 0, 1, [])),
  (52, (.iconst 1, 53, 0, 0, 0, 0, 0, [])),
  (53, (.isub, 54, 0, 0, 0, 0, 0, [])),
  (54, (.aload_n 2, 55, 2, 0, 0, 0, 0, [])),
  (55, (.aastore, 56, 0, 0, 0, 0, 0, [])),
  (56, (.aload_n 0, 57, 0, 0, 0, 0, 0, [])),
  (57, (.dup, 58, 0, 0, 0, 0, 0, [])),
  (58, (.getfield 46, 61, 0, 2, 250, 0, 1, [])),
  (61, (.iconst 1, 62, 0, 0, 0, 0, 0, [])),
  (62, (.isub, 63, 0, 0, 0, 0, 0, [])),
  (63, (.putfield 46, 66, 0, 2, 250, 0, 1, [])),
  (66, (.iconst 1, 67, 0, 0, 0, 0, 0, [])),
  (67, (.ireturn, 68, 0, 0, 0, 1, 0, []))]
def rn_m11 : rn_Mt := (yX0_dropLabel, cX0_dropLabel, 4, (some .boolean), false, 0, 0, 2, 43, rn_t11)
def rn_t12 : List (Nat × rn_E) := [(0, (.iconst 0, 1, 0, 0, 0, 0, 0, [])),
  (1, (.istore_n 2, 2, 2, 0, 0, 0, 0, [])),
  (2, (.iconst 0, 3, 0, 0, 0, 0, 0, [])),
  (3, (.istore_n 3, 4, 3, 0, 0, 0, 0, [])),
  (4, (.iload_n 3, 5, 3, 0, 0, 0, 0, [])),
  (5, (.aload_n 0, 6, 0, 0, 0, 0, 0, [])),
  (6, (.getfield 46, 9, 0, 2, 250, 0, 1, [])),
  (9, (.if_icmp .ge 39, 12, 48, 0, 0, 0, 0, [])),
  (12, (.aload_n 0, 13, 0, 0, 0, 0, 0, [])),
  (13, (.iload_n 3, 14, 3, 0, 0, 0, 0, [])),
  (14, (.invokevirtual 64, 17, 7, 2, 403, 0, 1, [0])),
  (17, (.astore 4, 19, 4, 0, 0, 0, 0, [])),
  (19, (.aload 4, 21, 4, 0, 0, 0, 0, [])),
  (21, (.ifnull 21, 24, 42, 0, 0, 0, 0, [])),
  (24, (.aload 4, 26, 4, 0, 0, 0, 0, [])),
  (26, (.getfield 85, 29, 3, 0, 233, 2, 4, [])),
  (29, (.getfield 89, 32, 5, 0, 159, 0, 6, [])),
  (32, (.aload_n 1, 33, 1, 0, 0, 0, 0, [])),
  (33, (.getfield 89, 36, 5, 0, 159, 0, 6, [])),
  (36, (.if_icmp .ne 6, 39, 42, 0, 0, 0, 0, [])),
  (39, (.iinc 2 1, 42, 2, 0, 0, 0, 0, [])),
  (42, (.iinc 3 1, 45, 3, 0, 0, 0, 0, [])),
  (45, (.goto (-41), 48, 4, 0, 0, 0, 0, [])),
  (48, (.iload_n 2, 49, 2, 0, 0, 0, 0, [])),
  (49, (.ireturn, 50, 0, 0, 0, 0, 0, []))]
def rn_m12 : rn_Mt := (yX0_labelsOf, cX0_labelsOf, 5, (some .int), false, 0, 0, 2, 43, rn_t12)
def rn_t13 : List (Nat × rn_E) := [(0, (.iconst 0, 1, 0, 0, 0, 0, 0, [])),
  (1, (.istore_n 2, 2, 2, 0, 0, 0, 0, [])),
  (2, (.iconst 0, 3, 0, 0, 0, 0, 0, [])),
  (3, (.istore_n 3, 4, 3, 0, 0, 0, 0, [])),
  (4, (.iload_n 3, 5, 3, 0, 0, 0, 0, [])),
  (5, (.aload_n 0, 6, 0, 0, 0, 0, 0, [])),
  (6, (.getfield 46, 9, 0, 2, 250, 0, 1, [])),
  (9, (.if_icmp .ge 33, 12, 42, 0, 0, 0, 0, [])),
  (12, (.aload_n 0, 13, 0, 0, 0, 0, 0, [])),
  (13, (.iload_n 3, 14, 3, 0, 0, 0, 0, [])),
  (14, (.invokevirtual 64, 17, 7, 2, 403, 0, 1, [0])),
  (17, (.astore 4, 19, 4, 0, 0, 0, 0, [])),
  (19, (.aload 4, 21, 4, 0, 0, 0, 0, [])),
  (21, (.ifnull 15, 24, 36, 0, 0, 0, 0, [])),
  (24, (.aload 4, 26, 4, 0, 0, 0, 0, [])),
  (26, (.aload_n 1, 27, 1, 0, 0, 0, 0, [])),
  (27, (.invokevirtual 110, 30, 42, 2, 821, 0, 4, [0])),
  (30, (.ifCond .eq 6, 33, 36, 0, 0, 0, 0, [])),
  (33, (.iinc 2 1, 36, 2, 0, 0, 0, 0, [])),
  (36, (.iinc 3 1, 39, 3, 0, 0, 0, 0, [])),
  (39, (.goto (-35), 42, 4, 0, 0, 0, 0, [])),
  (42, (.iload_n 2, 43, 2, 0, 0, 0, 0, [])),
  (43, (.ireturn, 44, 0, 0, 0, 0, 0, []))]
def rn_m13 : rn_Mt := (yX0_labelsOver, cX0_labelsOver, 5, (some .int), false, 0, 0, 3, 67, rn_t13)
def rn_t14 : List (Nat × rn_E) := [(0, (.iconst 0, 1, 0, 0, 0, 0, 0, [])),
  (1, (.istore_n 2, 2, 2, 0, 0, 0, 0, [])),
  (2, (.iconst 0, 3, 0, 0, 0, 0, 0, [])),
  (3, (.istore_n 3, 4, 3, 0, 0, 0, 0, [])),
  (4, (.iload_n 3, 5, 3, 0, 0, 0, 0, [])),
  (5, (.aload_n 0, 6, 0, 0, 0, 0, 0, [])),
  (6, (.getfield 43, 9, 0, 1, 247, 0, 1, [])),
  (9, (.if_icmp .ge 33, 12, 42, 0, 0, 0, 0, [])),
  (12, (.aload_n 0, 13, 0, 0, 0, 0, 0, [])),
  (13, (.iload_n 3, 14, 3, 0, 0, 0, 0, [])),
  (14, (.invokevirtual 56, 17, 6, 2, 383, 0, 1, [0])),
  (17, (.astore 4, 19, 4, 0, 0, 0, 0, [])),
  (19, (.aload 4, 21, 4, 0, 0, 0, 0, [])),
  (21, (.ifnull 15, 24, 36, 0, 0, 0, 0, [])),
  (24, (.aload_n 1, 25, 1, 0, 0, 0, 0, [])),
  (25, (.aload 4, 27, 4, 0, 0, 0, 0, [])),
  (27, (.invokevirtual 110, 30, 42, 2, 821, 0, 4, [0])),
  (30, (.ifCond .eq 6, 33, 36, 0, 0, 0, 0, [])),
  (33, (.iinc 2 1, 36, 2, 0, 0, 0, 0, [])),
  (36, (.iinc 3 1, 39, 3, 0, 0, 0, 0, [])),
  (39, (.goto (-35), 42, 4, 0, 0, 0, 0, [])),
  (42, (.iload_n 2, 43, 2, 0, 0, 0, 0, [])),
  (43, (.ireturn, 44, 0, 0, 0, 0, 0, []))]
def rn_m14 : rn_Mt := (yX0_townsUnder, cX0_townsUnder, 5, (some .int), false, 0, 0, 3, 67, rn_t14)
def rn_t15 : List (Nat × rn_E) := [(0, (.iconst 0, 1, 0, 0, 0, 0, 0, [])),
  (1, (.istore_n 1, 2, 1, 0, 0, 0, 0, [])),
  (2, (.iconst 0, 3, 0, 0, 0, 0, 0, [])),
  (3, (.istore_n 2, 4, 2, 0, 0, 0, 0, [])),
  (4, (.iload_n 2, 5, 2, 0, 0, 0, 0, [])),
  (5, (.aload_n 0, 6, 0, 0, 0, 0, 0, [])),
  (6, (.getfield 46, 9, 0, 2, 250, 0, 1, [])),
  (9, (.if_icmp .ge 33, 12, 42, 0, 0, 0, 0, [])),
  (12, (.aload_n 0, 13, 0, 0, 0, 0, 0, [])),
  (13, (.iload_n 2, 14, 2, 0, 0, 0, 0, [])),
  (14, (.invokevirtual 64, 17, 7, 2, 403, 0, 1, [0])),
  (17, (.astore_n 3, 18, 3, 0, 0, 0, 0, [])),
  (18, (.aload_n 3, 19, 3, 0, 0, 0, 0, [])),
  (19, (.ifnull 17, 22, 36, 0, 0, 0, 0, [])),
  (22, (.iload_n 1, 23, 1, 0, 0, 0, 0, [])),
  (23, (.aload_n 3, 24, 3, 0, 0, 0, 0, [])),
  (24, (.getfield 85, 27, 3, 0, 233, 2, 4, [])),
  (27, (.aload_n 3, 28, 3, 0, 0, 0, 0, [])),
  (28, (.getfield 92, 31, 3, 1, 237, 0, 4, [])),
  (31, (.invokevirtual 114, 34, 72, 2, 747, 0, 6, [0])),
  (34, (.iadd, 35, 0, 0, 0, 0, 0, [])),
  (35, (.istore_n 1, 36, 1, 0, 0, 0, 0, [])),
  (36, (.iinc 2 1, 39, 2, 0, 0, 0, 0, [])),
  (39, (.goto (-35), 42, 4, 0, 0, 0, 0, [])),
  (42, (.iload_n 1, 43, 1, 0, 0, 0, 0, [])),
  (43, (.ireturn, 44, 0, 0, 0, 0, 0, []))]
def rn_m15 : rn_Mt := (yX0_costOfLabels, cX0_costOfLabels, 4, (some .int), false, 0, 0, 4, 88, rn_t15)
def rn_t16 : List (Nat × rn_E) := [(0, (.aload_n 1, 1, 1, 0, 0, 0, 0, [])),
  (1, (.invokevirtual 118, 4, 79, 1, 764, 0, 7, [0])),
  (4, (.iconst 0, 5, 0, 0, 0, 0, 0, [])),
  (5, (.istore_n 2, 6, 2, 0, 0, 0, 0, [])),
  (6, (.iload_n 2, 7, 2, 0, 0, 0, 0, [])),
  (7, (.aload_n 0, 8, 0, 0, 0, 0, 0, [])),
  (8, (.getfield 46, 11, 0, 2, 250, 0, 1, [])),
  (11, (.if_icmp .ge 24, 14, 35, 0, 0, 0, 0, [])),
  (14, (.aload_n 0, 15, 0, 0, 0, 0, 0, [])),
  (15, (.iload_n 2, 16, 2, 0, 0, 0, 0, [])),
  (16, (.invokevirtual 64, 19, 7, 2, 403, 0, 1, [0])),
  (19, (.astore_n 3, 20, 3, 0, 0, 0, 0, [])),
  (20, (.aload_n 3, 21, 3, 0, 0, 0, 0, [])),
  (21, (.ifnull 8, 24, 29, 0, 0, 0, 0, [])),
  (24, (.aload_n 3, 25, 3, 0, 0, 0, 0, [])),
  (25, (.aload_n 1, 26, 1, 0, 0, 0, 0, [])),
  (26, (.invokevirtual 123, 29, 43, 2, 771, 0, 4, [0])),
  (29, (.iinc 2 1, 32, 2, 0, 0, 0, 0, [])),
  (32, (.goto (-26), 35, 6, 0, 0, 0, 0, [])),
  (35, (.aload_n 1, 36, 1, 0, 0, 0, 0, [])),
  (36, (.getfield 127, 39, 6, 0, 306, 0, 7, [])),
  (39, (.ireturn, 40, 0, 0, 0, 0, 0, []))]
def rn_m16 : rn_Mt := (yX0_cellsOfLabels, cX0_cellsOfLabels, 4, (some .int), false, 0, 0, 4, 90, rn_t16)
def rn_t17 : List (Nat × rn_E) := [(0, (.iconst 0, 1, 0, 0, 0, 0, 0, [])),
  (1, (.istore_n 1, 2, 1, 0, 0, 0, 0, [])),
  (2, (.iconst 0, 3, 0, 0, 0, 0, 0, [])),
  (3, (.istore_n 2, 4, 2, 0, 0, 0, 0, [])),
  (4, (.iload_n 2, 5, 2, 0, 0, 0, 0, [])),
  (5, (.aload_n 0, 6, 0, 0, 0, 0, 0, [])),
  (6, (.getfield 40, 9, 0, 0, 244, 0, 1, [])),
  (9, (.if_icmp .ge 33, 12, 42, 0, 0, 0, 0, [])),
  (12, (.aload_n 0, 13, 0, 0, 0, 0, 0, [])),
  (13, (.iload_n 2, 14, 2, 0, 0, 0, 0, [])),
  (14, (.invokevirtual 49, 17, 5, 2, 359, 0, 1, [0])),
  (17, (.astore_n 3, 18, 3, 0, 0, 0, 0, [])),
  (18, (.aload_n 3, 19, 3, 0, 0, 0, 0, [])),
  (19, (.ifnull 17, 22, 36, 0, 0, 0, 0, [])),
  (22, (.aload_n 0, 23, 0, 0, 0, 0, 0, [])),
  (23, (.aload_n 3, 24, 3, 0, 0, 0, 0, [])),
  (24, (.invokevirtual 130, 27, 12, 2, 756, 0, 1, [0])),
  (27, (.ifCond .ne 9, 30, 36, 0, 0, 0, 0, [])),
  (30, (.iload_n 1, 31, 1, 0, 0, 0, 0, [])),
  (31, (.iconst 1, 32, 0, 0, 0, 0, 0, [])),
  (32, (.iload_n 2, 33, 2, 0, 0, 0, 0, [])),
  (33, (.ishl, 34, 0, 0, 0, 0, 0, [])),
  (34, (.ior, 35, 0, 0, 0, 0, 0, [])),
  (35, (.istore_n 1, 36, 1, 0, 0, 0, 0, [])),
  (36, (.iinc 2 1, 39, 2, 0, 0, 0, 0, [])),
  (39, (.goto (-35), 42, 4, 0, 0, 0, 0, [])),
  (42, (.iload_n 1, 43, 1, 0, 0, 0, 0, [])),
  (43, (.ireturn, 44, 0, 0, 0, 0, 0, []))]
def rn_m17 : rn_Mt := (yX0_riversWithoutLabel, cX0_riversWithoutLabel, 4, (some .int), false, 0, 0, 3, 67, rn_t17)
def rn_t18 : List (Nat × rn_E) := [(0, (.bipush (-9), 2, 0, 0, 0, 0, 0, [])),
  (2, (.istore_n 3, 3, 3, 0, 0, 0, 0, [])),
  (3, (.iconst 0, 4, 0, 0, 0, 0, 0, [])),
  (4, (.istore 4, 6, 4, 0, 0, 0, 0, [])),
  (6, (.iconst 0, 7, 0, 0, 0, 0, 0, [])),
  (7, (.istore 5, 9, 5, 0, 0, 0, 0, [])),
  (9, (.iload 5, 11, 5, 0, 0, 0, 0, [])),
  (11, (.aload_n 0, 12, 0, 0, 0, 0, 0, [])),
  (12, (.getfield 46, 15, 0, 2, 250, 0, 1, [])),
  (15, (.if_icmp .ge 72, 18, 87, 0, 0, 0, 0, [])),
  (18, (.aload_n 0, 19, 0, 0, 0, 0, 0, [])),
  (19, (.iload 5, 21, 5, 0, 0, 0, 0, [])),
  (21, (.invokevirtual 64, 24, 7, 2, 403, 0, 1, [0])),
  (24, (.astore 6, 26, 6, 0, 0, 0, 0, [])),
  (26, (.aload 6, 28, 6, 0, 0, 0, 0, [])),
  (28, (.ifnull 53, 31, 81, 0, 0, 0, 0, [])),
  (31, (.aload 6, 33, 6, 0, 0, 0, 0, [])),
  (33, (.getfield 85, 36, 3, 0, 233, 2, 4, [])),
  (36, (.getfield 134, 39, 5, 1, 164, 0, 6, [])),
  (39, (.iload 4, 41, 4, 0, 0, 0, 0, [])),
  (41, (.if_icmp .le 40, 44, 81, 0, 0, 0, 0, [])),
  (44, (.aload 6, 46, 6, 0, 0, 0, 0, [])),
  (46, (.getfield 85, 49, 3, 0, 233, 2, 4, [])),
  (49, (.aload 6, 51, 6, 0, 0, 0, 0, [])),
  (51, (.getfield 92, 54, 3, 1, 237, 0, 4, [])),
  (54, (.iload_n 1, 55, 1, 0, 0, 0, 0, [])),
  (55, (.iload_n 2, 56, 2, 0, 0, 0, 0, [])),
  (56, (.invokevirtual 137, 59, 76, 4, 854, 0, 6, [0])),
  (59, (.istore 7, 61, 7, 0, 0, 0, 0, [])),
  (61, (.iload 7, 63, 7, 0, 0, 0, 0, [])),
  (63, (.bipush (-9), 65, 0, 0, 0, 0, 0, [])),
  (65, (.if_icmp .eq 16, 68, 81, 0, 0, 0, 0, [])),
  (68, (.iload 7, 70, 7, 0, 0, 0, 0, [])),
  (70, (.istore_n 3, 71, 3, 0, 0, 0, 0, [])),
  (71, (.aload 6, 73, 6, 0, 0, 0, 0, [])),
  (73, (.getfield 85, 76, 3, 0, 233, 2, 4, [])),
  (76, (.getfield 134, 79, 5, 1, 164, 0, 6, [])),
  (79, (.istore 4, 81, 4, 0, 0, 0, 0, [])),
  (81, (.iinc 5 1, 84, 5, 0, 0, 0, 0, [])),
  (84, (.goto (-75), 87, 9, 0, 0, 0, 0, [])),
  (87, (.iload_n 3, 88, 3, 0, 0, 0, 0, [])),
  (88, (.ireturn, 89, 0, 0, 0, 0, 0, []))]
def rn_m18 : rn_Mt := (yX0_signOn, cX0_signOn, 8, (some .int), false, 0, 0, 4, 90, rn_t18)
def rn_t19 : List (Nat × rn_E) := [(0, (.aload_n 0, 1, 0, 0, 0, 0, 0, [])),
  (1, (.invokespecial 3, 4, 1000, 1, 138, 2, 0, [0])),
  (4, (.aload_n 0, 5, 0, 0, 0, 0, 0, [])),
  (5, (.iconst 5, 6, 0, 0, 0, 0, 0, [])),
  (6, (.anewarray 9, 9, 0, 0, 139, 0, 0, [])),
  (9, (.putfield 11, 12, 1, 1, 276, 2, 2, [])),
  (12, (.aload_n 0, 13, 0, 0, 0, 0, 0, [])),
  (13, (.new 9, 16, 0, 0, 139, 0, 0, [])),
  (16, (.dup, 17, 0, 0, 0, 0, 0, [])),
  (17, (.invokespecial 17, 20, 0, 1, 142, 4, 1, [0])),
  (20, (.putfield 18, 23, 1, 2, 277, 2, 2, [])),
  (23, (.aload_n 0, 24, 0, 0, 0, 0, 0, [])),
  (24, (.new 9, 27, 0, 0, 139, 0, 0, [])),
  (27, (.dup, 28, 0, 0, 0, 0, 0, [])),
  (28, (.invokespecial 17, 31, 0, 1, 142, 4, 1, [0])),
  (31, (.putfield 22, 34, 1, 3, 278, 2, 2, [])),
  (34, (.iconst 0, 35, 0, 0, 0, 0, 0, [])),
  (35, (.istore_n 1, 36, 1, 0, 0, 0, 0, [])),
  (36, (.iload_n 1, 37, 1, 0, 0, 0, 0, [])),
  (37, (.iconst 5, 38, 0, 0, 0, 0, 0, [])),
  (38, (.if_icmp .ge 22, 41, 60, 0, 0, 0, 0, [])),
  (41, (.aload_n 0, 42, 0, 0, 0, 0, 0, [])),
  (42, (.getfield 11, 45, 1, 1, 276, 2, 2, [])),
  (45, (.iload_n 1, 46, 1, 0, 0, 0, 0, [])),
  (46, (.new 9, 49, 0, 0, 139, 0, 0, [])),
  (49, (.dup, 50, 0, 0, 0, 0, 0, [])),
  (50, (.invokespecial 17, 53, 0, 1, 142, 4, 1, [0])),
  (53, (.aastore, 54, 0, 0, 0, 0, 0, [])),
  (54, (.iinc 1 1, 57, 1, 0, 0, 0, 0, [])),
  (57, (.goto (-21), 60, 36, 0, 0, 0, 0, [])),
  (60, (.return_, 61, 0, 0, 0, 0, 0, []))]
def rn_m19 : rn_Mt := (yX1_init, cX1_init, 2, none, true, 500, 30000, 3, 62, rn_t19)
def rn_t20 : List (Nat × rn_E) := [(0, (.aload_n 0, 1, 0, 0, 0, 0, 0, [])),
  (1, (.getfield 18, 4, 1, 2, 277, 2, 2, [])),
  (4, (.areturn, 5, 0, 0, 0, 0, 0, []))]
def rn_m20 : rn_Mt := (yX1_present, cX1_present, 1, (some (.object "RiverNames$Board")), false, 0, 0, 0, 0, rn_t20)
def rn_t21 : List (Nat × rn_E) := [(0, (.aload_n 0, 1, 0, 0, 0, 0, 0, [])),
  (1, (.getfield 22, 4, 1, 3, 278, 2, 2, [])),
  (4, (.aload_n 0, 5, 0, 0, 0, 0, 0, [])),
  (5, (.getfield 18, 8, 1, 2, 277, 2, 2, [])),
  (8, (.invokevirtual 25, 11, 1, 2, 355, 0, 1, [0])),
  (11, (.aload_n 0, 12, 0, 0, 0, 0, 0, [])),
  (12, (.getfield 22, 15, 1, 3, 278, 2, 2, [])),
  (15, (.areturn, 16, 0, 0, 0, 0, 0, []))]
def rn_m21 : rn_Mt := (yX1_newDraft, cX1_newDraft, 1, (some (.object "RiverNames$Board")), false, 0, 0, 4, 103, rn_t21)
def rn_t22 : List (Nat × rn_E) := [(0, (.aload_n 0, 1, 0, 0, 0, 0, 0, [])),
  (1, (.getfield 29, 4, 1, 0, 274, 0, 2, [])),
  (4, (.iconst 5, 5, 0, 0, 0, 0, 0, [])),
  (5, (.if_icmp .lt 7, 8, 12, 0, 0, 0, 0, [])),
  (8, (.aload_n 0, 9, 0, 0, 0, 0, 0, [])),
  (9, (.invokevirtual 33, 12, 23, 1, 563, 0, 2, [0])),
  (12, (.aload_n 0, 13, 0, 0, 0, 0, 0, [])),
  (13, (.getfield 29, 16, 1, 0, 274, 0, 2, [])),
  (16, (.iconst 0, 17, 0, 0, 0, 0, 0, [])),
  (17, (.iconst 4, 18, 0, 0, 0, 0, 0, [])),
  (18, (.invokestatic 36, 21, 118, 3, 12, 0, 10, [1])),
  (21, (.ifCond .ne 4, 24, 25, 0, 0, 0, 0, [])),
  (24, (.return_, 25, 0, 0, 0, 0, 0, [])),
  (25, (.aload_n 0, 26, 0, 0, 0, 0, 0, [])),
  (26, (.getfield 11, 29, 1, 1, 276, 2, 2, [])),
  (29, (.aload_n 0, 30, 0, 0, 0, 0, 0, [])),
  (30, (.getfield 29, 33, 1, 0, 274, 0, 2, [])),
  (33, (.aaload, 34, 0, 0, 0, 0, 0, [])),
  (34, (.astore_n 1, 35, 1, 0, 0, 0, 0, [])),
  (35, (.aload_n 1, 36, 1, 0, 0, 0, 0, [])),
  (36, (.ifnull 39, 39, 75, 0, 0, 0, 0, [])),
  (39, (.aload_n 0, 40, 0, 0, 0, 0, 0, [])),
  (40, (.getfield 11, 43, 1, 1, 276, 2, 2, [])),
  (43, (.aload_n 0, 44, 0, 0, 0, 0, 0, [])),
  (44, (.getfield 29, 47, 1, 0, 274, 0, 2, [])),
  (47, (.aload_n 0, 48, 0, 0, 0, 0, 0, [])),
  (48, (.getfield 18, 51, 1, 2, 277, 2, 2, [])),
  (51, (.aastore, 52, 0, 0, 0, 0, 0, [])),
  (52, (.aload_n 0, 53, 0, 0, 0, 0, 0, [])),
  (53, (.aload_n 0, 54, 0, 0, 0, 0, 0, [])),
  (54, (.getfield 22, 57, 1, 3, 278, 2, 2, [])),
  (57, (.putfield 18, 60, 1, 2, 277, 2, 2, [])),
  (60, (.aload_n 0, 61, 0, 0, 0, 0, 0, [])),
  (61, (.aload_n 1, 62, 1, 0, 0, 0, 0, [])),
  (62, (.putfield 22, 65, 1, 3, 278, 2, 2, [])),
  (65, (.aload_n 0, 66, 0, 0, 0, 0, 0, [])),
  (66, (.dup, 67, 0, 0, 0, 0, 0, [])),
  (67, (.getfield 29, 70, 1, 0, 274, 0, 2, [])),
  (70, (.iconst 1, 71, 0, 0, 0, 0, 0, [])),
  (71, (.iadd, 72, 0, 0, 0, 0, 0, [])),
  (72, (.putfield 29, 75, 1, 0, 274, 0, 2, [])),
  (75, (.return_, 76, 0, 0, 0, 0, 0, []))]
def rn_m22 : rn_Mt := (yX1_enterDraft, cX1_enterDraft, 2, none, false, 0, 0, 1, 22, rn_t22)
def rn_t23 : List (Nat × rn_E) := [(0, (.aload_n 0, 1, 0, 0, 0, 0, 0, [])),
  (1, (.getfield 11, 4, 1, 1, 276, 2, 2, [])),
  (4, (.iconst 0, 5, 0, 0, 0, 0, 0, [])),
  (5, (.aaload, 6, 0, 0, 0, 0, 0, [])),
  (6, (.astore_n 1, 7, 1, 0, 0, 0, 0, [])),
  (7, (.iconst 1, 8, 0, 0, 0, 0, 0, [])),
  (8, (.istore_n 2, 9, 2, 0, 0, 0, 0, [])),
  (9, (.iload_n 2, 10, 2, 0, 0, 0, 0, [])),
  (10, (.iconst 5, 11, 0, 0, 0, 0, 0, [])),
  (11, (.if_icmp .ge 23, 14, 34, 0, 0, 0, 0, [])),
  (14, (.aload_n 0, 15, 0, 0, 0, 0, 0, [])),
  (15, (.getfield 11, 18, 1, 1, 276, 2, 2, [])),
  (18, (.iload_n 2, 19, 2, 0, 0, 0, 0, [])),
  (19, (.iconst 1, 20, 0, 0, 0, 0, 0, [])),
  (20, (.isub, 21, 0, 0, 0, 0, 0, [])),
  (21, (.aload_n 0, 22, 0, 0, 0, 0, 0, [])),
  (22, (.getfield 11, 25, 1, 1, 276, 2, 2, [])),
  (25, (.iload_n 2, 26, 2, 0, 0, 0, 0, [])),
  (26, (.aaload, 27, 0, 0, 0, 0, 0, [])),
  (27, (.aastore, 28, 0, 0, 0, 0, 0, [])),
  (28, (.iinc 2 1, 31, 2, 0, 0, 0, 0, [])),
  (31, (.goto (-22), 34, 9, 0, 0, 0, 0, [])),
  (34, (.aload_n 0, 35, 0, 0, 0, 0, 0, [])),
  (35, (.getfield 11, 38, 1, 1, 276, 2, 2, [])),
  (38, (.iconst 4, 39, 0, 0, 0, 0, 0, [])),
  (39, (.aload_n 1, 40, 1, 0, 0, 0, 0, [])),
  (40, (.aastore, 41, 0, 0, 0, 0, 0, [])),
  (41, (.aload_n 0, 42, 0, 0, 0, 0, 0, [])),
  (42, (.iconst 4, 43, 0, 0, 0, 0, 0, [])),
  (43, (.putfield 29, 46, 1, 0, 274, 0, 2, [])),
  (46, (.return_, 47, 0, 0, 0, 0, 0, []))]
def rn_m23 : rn_Mt := (yX1_dropOldest, cX1_dropOldest, 3, none, false, 0, 0, 0, 0, rn_t23)
def rn_t24 : List (Nat × rn_E) := [(0, (.aload_n 0, 1, 0, 0, 0, 0, 0, [])),
  (1, (.getfield 29, 4, 1, 0, 274, 0, 2, [])),
  (4, (.iconst 1, 5, 0, 0, 0, 0, 0, [])),
  (5, (.iconst 5, 6, 0, 0, 0, 0, 0, [])),
  (6, (.invokestatic 36, 9, 118, 3, 12, 0, 10, [1])),
  (9, (.ifCond .ne 6, 12, 15, 0, 0, 0, 0, [])),
  (12, (.bipush (-2), 14, 0, 0, 0, 0, 0, [])),
  (14, (.ireturn, 15, 0, 0, 0, 0, 0, [])),
  (15, (.aload_n 0, 16, 0, 0, 0, 0, 0, [])),
  (16, (.getfield 11, 19, 1, 1, 276, 2, 2, [])),
  (19, (.aload_n 0, 20, 0, 0, 0, 0, 0, [])),
  (20, (.getfield 29, 23, 1, 0, 274, 0, 2, [])),
  (23, (.iconst 1, 24, 0, 0, 0, 0, 0, [])),
  (24, (.isub, 25, 0, 0, 0, 0, 0, [])),
  (25, (.aaload, 26, 0, 0, 0, 0, 0, [])),
  (26, (.astore_n 1, 27, 1, 0, 0, 0, 0, [])),
  (27, (.aload_n 1, 28, 1, 0, 0, 0, 0, [])),
  (28, (.ifnonnull 6, 31, 34, 0, 0, 0, 0, [])),
  (31, (.bipush (-2), 33, 0, 0, 0, 0, 0, [])),
  (33, (.ireturn, 34, 0, 0, 0, 0, 0, [])),
  (34, (.aload_n 0, 35, 0, 0, 0, 0, 0, [])),
  (35, (.getfield 11, 38, 1, 1, 276, 2, 2, [])),
  (38, (.aload_n 0, 39, 0, 0, 0, 0, 0, [])),
  (39, (.getfield 29, 42, 1, 0, 274, 0, 2, [])),
  (42, (.iconst 1, 43, 0, 0, 0, 0, 0, [])),
  (43, (.isub, 44, 0, 0, 0, 0, 0, [])),
  (44, (.aload_n 0, 45, 0, 0, 0, 0, 0, [])),
  (45, (.getfield 18, 48, 1, 2, 277, 2, 2, [])),
  (48, (.aastore, 49, 0, 0, 0, 0, 0, [])),
  (49, (.aload_n 0, 50, 0, 0, 0, 0, 0, [])),
  (50, (.aload_n 1, 51, 1, 0, 0, 0, 0, [])),
  (51, (.putfield 18, 54, 1, 2, 277, 2, 2, [])),
  (54, (.aload_n 0, 55, 0, 0, 0, 0, 0, [])),
  (55, (.dup, 56, 0, 0, 0, 0, 0, [])),
  (56, (.getfield 29, 59, 1, 0, 274, 0, 2, [])),
  (59, (.iconst 1, 60, 0, 0, 0, 0, 0, [])),
  (60, (.isub, 61, 0, 0, 0, 0, 0, [])),
  (61, (.putfield 29, 64, 1, 0, 274, 0, 2, [])),
  (64, (.aload_n 0, 65, 0, 0, 0, 0, 0, [])),
  (65, (.getfield 29, 68, 1, 0, 274, 0, 2, [])),
  (68, (.ireturn, 69, 0, 0, 0, 0, 0, []))]
def rn_m24 : rn_Mt := (yX1_stepBack, cX1_stepBack, 2, (some .int), false, 0, 0, 1, 22, rn_t24)
def rn_t25 : List (Nat × rn_E) := [(0, (.aload_n 0, 1, 0, 0, 0, 0, 0, [])),
  (1, (.invokespecial 3, 4, 1000, 1, 293, 2, 0, [0])),
  (4, (.aload_n 0, 5, 0, 0, 0, 0, 0, [])),
  (5, (.bipush 61, 7, 0, 0, 0, 0, 0, [])),
  (7, (.newarray .int, 9, 0, 0, 0, 0, 0, [])),
  (9, (.putfield 9, 12, 2, 0, 294, 2, 3, [])),
  (12, (.return_, 13, 0, 0, 0, 0, 0, []))]
def rn_m25 : rn_Mt := (yX2_init, cX2_init, 1, none, true, 1, 70, 1, 20, rn_t25)
def rn_t26 : List (Nat × rn_E) := [(0, (.iload_n 3, 1, 3, 0, 0, 0, 0, [])),
  (1, (.aload_n 2, 2, 2, 0, 0, 0, 0, [])),
  (2, (.aload_n 2, 3, 2, 0, 0, 0, 0, [])),
  (3, (.getfield 15, 6, 5, 3, 169, 0, 6, [])),
  (6, (.invokevirtual 21, 9, 68, 2, 624, 0, 6, [0])),
  (9, (.if_icmp .le 5, 12, 14, 0, 0, 0, 0, [])),
  (12, (.iconst 1, 13, 0, 0, 0, 0, 0, [])),
  (13, (.ireturn, 14, 0, 0, 0, 0, 0, [])),
  (14, (.aload_n 0, 15, 0, 0, 0, 0, 0, [])),
  (15, (.aload_n 1, 16, 1, 0, 0, 0, 0, [])),
  (16, (.aload_n 2, 17, 2, 0, 0, 0, 0, [])),
  (17, (.iload_n 3, 18, 3, 0, 0, 0, 0, [])),
  (18, (.iload 4, 20, 4, 0, 0, 0, 0, [])),
  (20, (.invokevirtual 25, 23, 27, 5, 628, 0, 3, [0])),
  (23, (.ifCond .eq 5, 26, 28, 0, 0, 0, 0, [])),
  (26, (.iconst 2, 27, 0, 0, 0, 0, 0, [])),
  (27, (.ireturn, 28, 0, 0, 0, 0, 0, [])),
  (28, (.iconst 0, 29, 0, 0, 0, 0, 0, [])),
  (29, (.istore 5, 31, 5, 0, 0, 0, 0, [])),
  (31, (.iload_n 3, 32, 3, 0, 0, 0, 0, [])),
  (32, (.istore 6, 34, 6, 0, 0, 0, 0, [])),
  (34, (.iload 6, 36, 6, 0, 0, 0, 0, [])),
  (36, (.iload_n 3, 37, 3, 0, 0, 0, 0, [])),
  (37, (.aload_n 2, 38, 2, 0, 0, 0, 0, [])),
  (38, (.getfield 15, 41, 5, 3, 169, 0, 6, [])),
  (41, (.iadd, 42, 0, 0, 0, 0, 0, [])),
  (42, (.if_icmp .ge 41, 45, 83, 0, 0, 0, 0, [])),
  (45, (.aload_n 0, 46, 0, 0, 0, 0, 0, [])),
  (46, (.aload_n 1, 47, 1, 0, 0, 0, 0, [])),
  (47, (.aload_n 2, 48, 2, 0, 0, 0, 0, [])),
  (48, (.iload 6, 50, 6, 0, 0, 0, 0, [])),
  (50, (.invokevirtual 29, 53, 28, 4, 636, 0, 3, [0])),
  (53, (.aload_n 2, 54, 2, 0, 0, 0, 0, [])),
  (54, (.getfield 33, 57, 5, 1, 162, 0, 6, [])),
  (57, (.if_icmp .lt 5, 60, 62, 0, 0, 0, 0, [])),
  (60, (.iconst 3, 61, 0, 0, 0, 0, 0, [])),
  (61, (.ireturn, 62, 0, 0, 0, 0, 0, [])),
  (62, (.iload 5, 64, 5, 0, 0, 0, 0, [])),
  (64, (.aload_n 0, 65, 0, 0, 0, 0, 0, [])),
  (65, (.aload_n 1, 66, 1, 0, 0, 0, 0, [])),
  (66, (.aload_n 2, 67, 2, 0, 0, 0, 0, [])),
  (67, (.iload 6, 69, 6, 0, 0, 0, 0, [])),
  (69, (.invokevirtual 36, 72, 29, 4, 648, 0, 3, [0])),
  (72, (.invokestatic 39, 75, 205, 2, 661, 5, 0, [0])),
  (75, (.istore 5, 77, 5, 0, 0, 0, 0, [])),
  (77, (.iinc 6 1, 80, 6, 0, 0, 0, 0, [])),
  (80, (.goto (-46), 83, 34, 0, 0, 0, 0, [])),
  (83, (.iload 5, 85, 5, 0, 0, 0, 0, [])),
  (85, (.aload_n 2, 86, 2, 0, 0, 0, 0, [])),
  (86, (.getfield 33, 89, 5, 1, 162, 0, 6, [])),
  (89, (.if_icmp .lt 7, 92, 96, 0, 0, 0, 0, [])),
  (92, (.iconst 4, 93, 0, 0, 0, 0, 0, [])),
  (93, (.goto 4, 96, 97, 0, 0, 0, 0, [])),
  (96, (.iconst 0, 97, 0, 0, 0, 0, 0, [])),
  (97, (.ireturn, 98, 0, 0, 0, 0, 0, []))]
def rn_m26 : rn_Mt := (yX2_reasonAgainst, cX2_reasonAgainst, 7, (some .int), false, 0, 0, 4, 98, rn_t26)
def rn_t27 : List (Nat × rn_E) := [(0, (.iconst 0, 1, 0, 0, 0, 0, 0, [])),
  (1, (.istore 5, 3, 5, 0, 0, 0, 0, [])),
  (3, (.iload 5, 5, 5, 0, 0, 0, 0, [])),
  (5, (.aload_n 1, 6, 1, 0, 0, 0, 0, [])),
  (6, (.getfield 45, 9, 0, 2, 251, 0, 1, [])),
  (9, (.if_icmp .ge 68, 12, 77, 0, 0, 0, 0, [])),
  (12, (.aload_n 1, 13, 1, 0, 0, 0, 0, [])),
  (13, (.iload 5, 15, 5, 0, 0, 0, 0, [])),
  (15, (.invokevirtual 50, 18, 7, 2, 632, 0, 1, [0])),
  (18, (.astore 6, 20, 6, 0, 0, 0, 0, [])),
  (20, (.aload 6, 22, 6, 0, 0, 0, 0, [])),
  (22, (.ifnull 49, 25, 71, 0, 0, 0, 0, [])),
  (25, (.iload 5, 27, 5, 0, 0, 0, 0, [])),
  (27, (.iload 4, 29, 4, 0, 0, 0, 0, [])),
  (29, (.if_icmp .eq 42, 32, 71, 0, 0, 0, 0, [])),
  (32, (.aload 6, 34, 6, 0, 0, 0, 0, [])),
  (34, (.getfield 54, 37, 3, 0, 232, 2, 4, [])),
  (37, (.getfield 60, 40, 5, 0, 158, 0, 6, [])),
  (40, (.aload_n 2, 41, 2, 0, 0, 0, 0, [])),
  (41, (.getfield 60, 44, 5, 0, 158, 0, 6, [])),
  (44, (.if_icmp .ne 27, 47, 71, 0, 0, 0, 0, [])),
  (47, (.aload 6, 49, 6, 0, 0, 0, 0, [])),
  (49, (.getfield 63, 52, 3, 1, 236, 0, 4, [])),
  (52, (.iload_n 3, 53, 3, 0, 0, 0, 0, [])),
  (53, (.isub, 54, 0, 0, 0, 0, 0, [])),
  (54, (.invokestatic 66, 57, 204, 1, 633, 7, 0, [0])),
  (57, (.aload_n 2, 58, 2, 0, 0, 0, 0, [])),
  (58, (.getfield 15, 61, 5, 3, 169, 0, 6, [])),
  (61, (.aload_n 1, 62, 1, 0, 0, 0, 0, [])),
  (62, (.getfield 69, 65, 0, 3, 254, 0, 1, [])),
  (65, (.iadd, 66, 0, 0, 0, 0, 0, [])),
  (66, (.if_icmp .ge 5, 69, 71, 0, 0, 0, 0, [])),
  (69, (.iconst 1, 70, 0, 0, 0, 0, 0, [])),
  (70, (.ireturn, 71, 0, 0, 0, 1, 0, [])),
  (71, (.iinc 5 1, 74, 5, 0, 0, 0, 0, [])),
  (74, (.goto (-71), 77, 3, 0, 0, 0, 0, [])),
  (77, (.iconst 0, 78, 0, 0, 0, 0, 0, [])),
  (78, (.ireturn, 79, 0, 0, 0, 1, 0, []))]
def rn_m27 : rn_Mt := (yX2_isCrowded, cX2_isCrowded, 7, (some .boolean), false, 0, 0, 2, 43, rn_t27)
def rn_t28 : List (Nat × rn_E) := [(0, (.iconst 0, 1, 0, 0, 0, 0, 0, [])),
  (1, (.istore 4, 3, 4, 0, 0, 0, 0, [])),
  (3, (.iconst 0, 4, 0, 0, 0, 0, 0, [])),
  (4, (.istore 5, 6, 5, 0, 0, 0, 0, [])),
  (6, (.iload 5, 8, 5, 0, 0, 0, 0, [])),
  (8, (.aload_n 1, 9, 1, 0, 0, 0, 0, [])),
  (9, (.getfield 72, 12, 0, 1, 248, 0, 1, [])),
  (12, (.if_icmp .ge 61, 15, 73, 0, 0, 0, 0, [])),
  (15, (.aload_n 1, 16, 1, 0, 0, 0, 0, [])),
  (16, (.iload 5, 18, 5, 0, 0, 0, 0, [])),
  (18, (.invokevirtual 75, 21, 6, 2, 640, 0, 1, [0])),
  (21, (.astore 6, 23, 6, 0, 0, 0, 0, [])),
  (23, (.aload 6, 25, 6, 0, 0, 0, 0, [])),
  (25, (.ifnull 42, 28, 67, 0, 0, 0, 0, [])),
  (28, (.aload 6, 30, 6, 0, 0, 0, 0, [])),
  (30, (.getfield 79, 33, 8, 4, 213, 0, 9, [])),
  (33, (.iload 4, 35, 4, 0, 0, 0, 0, [])),
  (35, (.if_icmp .le 32, 38, 67, 0, 0, 0, 0, [])),
  (38, (.aload 6, 40, 6, 0, 0, 0, 0, [])),
  (40, (.aload_n 2, 41, 2, 0, 0, 0, 0, [])),
  (41, (.iload_n 3, 42, 3, 0, 0, 0, 0, [])),
  (42, (.invokevirtual 82, 45, 65, 2, 641, 0, 6, [0])),
  (45, (.aload_n 2, 46, 2, 0, 0, 0, 0, [])),
  (46, (.iload_n 3, 47, 3, 0, 0, 0, 0, [])),
  (47, (.invokevirtual 85, 50, 66, 2, 642, 0, 6, [0])),
  (50, (.aload_n 2, 51, 2, 0, 0, 0, 0, [])),
  (51, (.getfield 88, 54, 5, 2, 167, 0, 6, [])),
  (54, (.invokevirtual 91, 57, 89, 4, 643, 0, 9, [0])),
  (57, (.ifCond .eq 10, 60, 67, 0, 0, 0, 0, [])),
  (60, (.aload 6, 62, 6, 0, 0, 0, 0, [])),
  (62, (.getfield 79, 65, 8, 4, 213, 0, 9, [])),
  (65, (.istore 4, 67, 4, 0, 0, 0, 0, [])),
  (67, (.iinc 5 1, 70, 5, 0, 0, 0, 0, [])),
  (70, (.goto (-64), 73, 6, 0, 0, 0, 0, [])),
  (73, (.iload 4, 75, 4, 0, 0, 0, 0, [])),
  (75, (.ireturn, 76, 0, 0, 0, 0, 0, []))]
def rn_m28 : rn_Mt := (yX2_townRankAt, cX2_townRankAt, 7, (some .int), false, 0, 0, 2, 45, rn_t28)
def rn_t29 : List (Nat × rn_E) := [(0, (.iconst 0, 1, 0, 0, 0, 0, 0, [])),
  (1, (.istore 4, 3, 4, 0, 0, 0, 0, [])),
  (3, (.aload_n 2, 4, 2, 0, 0, 0, 0, [])),
  (4, (.iload_n 3, 5, 3, 0, 0, 0, 0, [])),
  (5, (.invokevirtual 82, 8, 65, 2, 641, 0, 6, [0])),
  (8, (.istore 5, 10, 5, 0, 0, 0, 0, [])),
  (10, (.aload_n 2, 11, 2, 0, 0, 0, 0, [])),
  (11, (.iload_n 3, 12, 3, 0, 0, 0, 0, [])),
  (12, (.invokevirtual 85, 15, 66, 2, 642, 0, 6, [0])),
  (15, (.istore 6, 17, 6, 0, 0, 0, 0, [])),
  (17, (.iconst 0, 18, 0, 0, 0, 0, 0, [])),
  (18, (.istore 7, 20, 7, 0, 0, 0, 0, [])),
  (20, (.iload 7, 22, 7, 0, 0, 0, 0, [])),
  (22, (.aload_n 1, 23, 1, 0, 0, 0, 0, [])),
  (23, (.getfield 45, 26, 0, 2, 251, 0, 1, [])),
  (26, (.if_icmp .ge 93, 29, 119, 0, 0, 0, 0, [])),
  (29, (.aload_n 1, 30, 1, 0, 0, 0, 0, [])),
  (30, (.iload 7, 32, 7, 0, 0, 0, 0, [])),
  (32, (.invokevirtual 50, 35, 7, 2, 632, 0, 1, [0])),
  (35, (.astore 8, 37, 8, 0, 0, 0, 0, [])),
  (37, (.aload 8, 39, 8, 0, 0, 0, 0, [])),
  (39, (.ifnull 74, 42, 113, 0, 0, 0, 0, [])),
  (42, (.aload 8, 44, 8, 0, 0, 0, 0, [])),
  (44, (.getfield 54, 47, 3, 0, 232, 2, 4, [])),
  (47, (.getfield 60, 50, 5, 0, 158, 0, 6, [])),
  (50, (.aload_n 2, 51, 2, 0, 0, 0, 0, [])),
  (51, (.getfield 60, 54, 5, 0, 158, 0, 6, [])),
  (54, (.if_icmp .eq 59, 57, 113, 0, 0, 0, 0, [])),
  (57, (.aload 8, 59, 8, 0, 0, 0, 0, [])),
  (59, (.getfield 54, 62, 3, 0, 232, 2, 4, [])),
  (62, (.getfield 33, 65, 5, 1, 162, 0, 6, [])),
  (65, (.iload 4, 67, 4, 0, 0, 0, 0, [])),
  (67, (.if_icmp .le 46, 70, 113, 0, 0, 0, 0, [])),
  (70, (.aload 8, 72, 8, 0, 0, 0, 0, [])),
  (72, (.getfield 54, 75, 3, 0, 232, 2, 4, [])),
  (75, (.aload 8, 77, 8, 0, 0, 0, 0, [])),
  (77, (.getfield 63, 80, 3, 1, 236, 0, 4, [])),
  (80, (.iload 5, 82, 5, 0, 0, 0, 0, [])),
  (82, (.iload 6, 84, 6, 0, 0, 0, 0, [])),
  (84, (.aload_n 2, 85, 2, 0, 0, 0, 0, [])),
  (85, (.getfield 88, 88, 5, 2, 167, 0, 6, [])),
  (88, (.aload 8, 90, 8, 0, 0, 0, 0, [])),
  (90, (.getfield 54, 93, 3, 0, 232, 2, 4, [])),
  (93, (.getfield 88, 96, 5, 2, 167, 0, 6, [])),
  (96, (.iadd, 97, 0, 0, 0, 0, 0, [])),
  (97, (.invokevirtual 95, 100, 75, 5, 652, 0, 6, [0])),
  (100, (.ifCond .eq 13, 103, 113, 0, 0, 0, 0, [])),
  (103, (.aload 8, 105, 8, 0, 0, 0, 0, [])),
  (105, (.getfield 54, 108, 3, 0, 232, 2, 4, [])),
  (108, (.getfield 33, 111, 5, 1, 162, 0, 6, [])),
  (111, (.istore 4, 113, 4, 0, 0, 0, 0, [])),
  (113, (.iinc 7 1, 116, 7, 0, 0, 0, 0, [])),
  (116, (.goto (-96), 119, 20, 0, 0, 0, 0, [])),
  (119, (.iload 4, 121, 4, 0, 0, 0, 0, [])),
  (121, (.ireturn, 122, 0, 0, 0, 0, 0, []))]
def rn_m29 : rn_Mt := (yX2_labelRankAt, cX2_labelRankAt, 9, (some .int), false, 0, 0, 3, 70, rn_t29)
def rn_t30 : List (Nat × rn_E) := [(0, (.iconst 0, 1, 0, 0, 0, 0, 0, [])),
  (1, (.istore_n 3, 2, 3, 0, 0, 0, 0, [])),
  (2, (.iload_n 3, 3, 3, 0, 0, 0, 0, [])),
  (3, (.aload_n 2, 4, 2, 0, 0, 0, 0, [])),
  (4, (.getfield 99, 7, 5, 4, 174, 0, 6, [])),
  (7, (.if_icmp .gt 38, 10, 45, 0, 0, 0, 0, [])),
  (10, (.iload_n 3, 11, 3, 0, 0, 0, 0, [])),
  (11, (.bipush 61, 13, 0, 0, 0, 0, 0, [])),
  (13, (.if_icmp .ge 32, 16, 45, 0, 0, 0, 0, [])),
  (16, (.aload_n 0, 17, 0, 0, 0, 0, 0, [])),
  (17, (.getfield 9, 20, 2, 0, 294, 2, 3, [])),
  (20, (.iload_n 3, 21, 3, 0, 0, 0, 0, [])),
  (21, (.aload_n 0, 22, 0, 0, 0, 0, 0, [])),
  (22, (.aload_n 1, 23, 1, 0, 0, 0, 0, [])),
  (23, (.aload_n 2, 24, 2, 0, 0, 0, 0, [])),
  (24, (.iload_n 3, 25, 3, 0, 0, 0, 0, [])),
  (25, (.invokevirtual 29, 28, 28, 4, 636, 0, 3, [0])),
  (28, (.aload_n 0, 29, 0, 0, 0, 0, 0, [])),
  (29, (.aload_n 1, 30, 1, 0, 0, 0, 0, [])),
  (30, (.aload_n 2, 31, 2, 0, 0, 0, 0, [])),
  (31, (.iload_n 3, 32, 3, 0, 0, 0, 0, [])),
  (32, (.invokevirtual 36, 35, 29, 4, 648, 0, 3, [0])),
  (35, (.invokestatic 39, 38, 205, 2, 661, 5, 0, [0])),
  (38, (.iastore, 39, 0, 0, 0, 0, 0, [])),
  (39, (.iinc 3 1, 42, 3, 0, 0, 0, 0, [])),
  (42, (.goto (-40), 45, 2, 0, 0, 0, 0, [])),
  (45, (.return_, 46, 0, 0, 0, 0, 0, []))]
def rn_m30 : rn_Mt := (yX2_noteRivals, cX2_noteRivals, 4, none, false, 0, 0, 4, 98, rn_t30)
def rn_t31 : List (Nat × rn_E) := [(0, (.iconst 0, 1, 0, 0, 0, 0, 0, [])),
  (1, (.istore_n 3, 2, 3, 0, 0, 0, 0, [])),
  (2, (.iload_n 2, 3, 2, 0, 0, 0, 0, [])),
  (3, (.istore 4, 5, 4, 0, 0, 0, 0, [])),
  (5, (.iload 4, 7, 4, 0, 0, 0, 0, [])),
  (7, (.iload_n 2, 8, 2, 0, 0, 0, 0, [])),
  (8, (.aload_n 1, 9, 1, 0, 0, 0, 0, [])),
  (9, (.getfield 15, 12, 5, 3, 169, 0, 6, [])),
  (12, (.iadd, 13, 0, 0, 0, 0, 0, [])),
  (13, (.if_icmp .ge 29, 16, 42, 0, 0, 0, 0, [])),
  (16, (.iload 4, 18, 4, 0, 0, 0, 0, [])),
  (18, (.invokestatic 102, 21, 122, 1, 14, 0, 10, [1])),
  (21, (.ifCond .eq 15, 24, 36, 0, 0, 0, 0, [])),
  (24, (.iload_n 3, 25, 3, 0, 0, 0, 0, [])),
  (25, (.aload_n 0, 26, 0, 0, 0, 0, 0, [])),
  (26, (.getfield 9, 29, 2, 0, 294, 2, 3, [])),
  (29, (.iload 4, 31, 4, 0, 0, 0, 0, [])),
  (31, (.iaload, 32, 0, 0, 0, 0, 0, [])),
  (32, (.invokestatic 39, 35, 205, 2, 661, 5, 0, [0])),
  (35, (.istore_n 3, 36, 3, 0, 0, 0, 0, [])),
  (36, (.iinc 4 1, 39, 4, 0, 0, 0, 0, [])),
  (39, (.goto (-34), 42, 5, 0, 0, 0, 0, [])),
  (42, (.iload_n 3, 43, 3, 0, 0, 0, 0, [])),
  (43, (.ireturn, 44, 0, 0, 0, 0, 0, []))]
def rn_m31 : rn_Mt := (yX2_rivalRank, cX2_rivalRank, 5, (some .int), false, 0, 0, 2, 42, rn_t31)
def rn_t32 : List (Nat × rn_E) := [(0, (.aload_n 0, 1, 0, 0, 0, 0, 0, [])),
  (1, (.aload_n 1, 2, 1, 0, 0, 0, 0, [])),
  (2, (.aload_n 2, 3, 2, 0, 0, 0, 0, [])),
  (3, (.invokevirtual 106, 6, 30, 3, 686, 0, 3, [0])),
  (6, (.aload_n 0, 7, 0, 0, 0, 0, 0, [])),
  (7, (.aload_n 1, 8, 1, 0, 0, 0, 0, [])),
  (8, (.aload_n 2, 9, 2, 0, 0, 0, 0, [])),
  (9, (.invokevirtual 110, 12, 33, 3, 690, 0, 3, [0])),
  (12, (.ireturn, 13, 0, 0, 0, 0, 0, []))]
def rn_m32 : rn_Mt := (yX2_bestStart, cX2_bestStart, 3, (some .int), false, 0, 0, 5, 121, rn_t32)
def rn_t33 : List (Nat × rn_E) := [(0, (.bipush (-9), 2, 0, 0, 0, 0, 0, [])),
  (2, (.istore_n 3, 3, 3, 0, 0, 0, 0, [])),
  (3, (.iconst 0, 4, 0, 0, 0, 0, 0, [])),
  (4, (.istore 4, 6, 4, 0, 0, 0, 0, [])),
  (6, (.iconst 0, 7, 0, 0, 0, 0, 0, [])),
  (7, (.istore 5, 9, 5, 0, 0, 0, 0, [])),
  (9, (.iload 5, 11, 5, 0, 0, 0, 0, [])),
  (11, (.aload_n 2, 12, 2, 0, 0, 0, 0, [])),
  (12, (.aload_n 2, 13, 2, 0, 0, 0, 0, [])),
  (13, (.getfield 15, 16, 5, 3, 169, 0, 6, [])),
  (16, (.invokevirtual 21, 19, 68, 2, 624, 0, 6, [0])),
  (19, (.if_icmp .gt 63, 22, 82, 0, 0, 0, 0, [])),
  (22, (.aload_n 2, 23, 2, 0, 0, 0, 0, [])),
  (23, (.iload 5, 25, 5, 0, 0, 0, 0, [])),
  (25, (.invokevirtual 114, 28, 72, 2, 694, 0, 6, [0])),
  (28, (.istore 6, 30, 6, 0, 0, 0, 0, [])),
  (30, (.iload_n 3, 31, 3, 0, 0, 0, 0, [])),
  (31, (.bipush (-9), 33, 0, 0, 0, 0, 0, [])),
  (33, (.if_icmp .eq 10, 36, 43, 0, 0, 0, 0, [])),
  (36, (.iload 6, 38, 6, 0, 0, 0, 0, [])),
  (38, (.iload 4, 40, 4, 0, 0, 0, 0, [])),
  (40, (.if_icmp .ge 36, 43, 76, 0, 0, 0, 0, [])),
  (43, (.aload_n 0, 44, 0, 0, 0, 0, 0, [])),
  (44, (.aload_n 2, 45, 2, 0, 0, 0, 0, [])),
  (45, (.iload 5, 47, 5, 0, 0, 0, 0, [])),
  (47, (.invokevirtual 117, 50, 31, 3, 707, 0, 3, [0])),
  (50, (.aload_n 2, 51, 2, 0, 0, 0, 0, [])),
  (51, (.getfield 33, 54, 5, 1, 162, 0, 6, [])),
  (54, (.if_icmp .ge 22, 57, 76, 0, 0, 0, 0, [])),
  (57, (.aload_n 0, 58, 0, 0, 0, 0, 0, [])),
  (58, (.aload_n 1, 59, 1, 0, 0, 0, 0, [])),
  (59, (.aload_n 2, 60, 2, 0, 0, 0, 0, [])),
  (60, (.iload 5, 62, 5, 0, 0, 0, 0, [])),
  (62, (.iconst (-1), 63, 0, 0, 0, 0, 0, [])),
  (63, (.invokevirtual 25, 66, 27, 5, 628, 0, 3, [0])),
  (66, (.ifCond .ne 10, 69, 76, 0, 0, 0, 0, [])),
  (69, (.iload 5, 71, 5, 0, 0, 0, 0, [])),
  (71, (.istore_n 3, 72, 3, 0, 0, 0, 0, [])),
  (72, (.iload 6, 74, 6, 0, 0, 0, 0, [])),
  (74, (.istore 4, 76, 4, 0, 0, 0, 0, [])),
  (76, (.iinc 5 1, 79, 5, 0, 0, 0, 0, [])),
  (79, (.goto (-70), 82, 9, 0, 0, 0, 0, [])),
  (82, (.iload_n 3, 83, 3, 0, 0, 0, 0, [])),
  (83, (.ireturn, 84, 0, 0, 0, 0, 0, []))]
def rn_m33 : rn_Mt := (yX2_bestStartAsNoted, cX2_bestStartAsNoted, 7, (some .int), false, 0, 0, 4, 88, rn_t33)
def rn_t34 : List (Nat × rn_E) := [(0, (.aload_n 0, 1, 0, 0, 0, 0, 0, [])),
  (1, (.aload_n 1, 2, 1, 0, 0, 0, 0, [])),
  (2, (.aload_n 2, 3, 2, 0, 0, 0, 0, [])),
  (3, (.invokevirtual 106, 6, 30, 3, 686, 0, 3, [0])),
  (6, (.bipush 10, 8, 0, 0, 0, 0, 0, [])),
  (8, (.istore_n 3, 9, 3, 0, 0, 0, 0, [])),
  (9, (.iconst 0, 10, 0, 0, 0, 0, 0, [])),
  (10, (.istore 4, 12, 4, 0, 0, 0, 0, [])),
  (12, (.iload 4, 14, 4, 0, 0, 0, 0, [])),
  (14, (.aload_n 2, 15, 2, 0, 0, 0, 0, [])),
  (15, (.aload_n 2, 16, 2, 0, 0, 0, 0, [])),
  (16, (.getfield 15, 19, 5, 3, 169, 0, 6, [])),
  (19, (.invokevirtual 21, 22, 68, 2, 624, 0, 6, [0])),
  (22, (.if_icmp .gt 35, 25, 57, 0, 0, 0, 0, [])),
  (25, (.aload_n 0, 26, 0, 0, 0, 0, 0, [])),
  (26, (.aload_n 1, 27, 1, 0, 0, 0, 0, [])),
  (27, (.aload_n 2, 28, 2, 0, 0, 0, 0, [])),
  (28, (.iload 4, 30, 4, 0, 0, 0, 0, [])),
  (30, (.iconst (-1), 31, 0, 0, 0, 0, 0, [])),
  (31, (.invokevirtual 25, 34, 27, 5, 628, 0, 3, [0])),
  (34, (.ifCond .ne 17, 37, 51, 0, 0, 0, 0, [])),
  (37, (.iload_n 3, 38, 3, 0, 0, 0, 0, [])),
  (38, (.aload_n 0, 39, 0, 0, 0, 0, 0, [])),
  (39, (.aload_n 2, 40, 2, 0, 0, 0, 0, [])),
  (40, (.iload 4, 42, 4, 0, 0, 0, 0, [])),
  (42, (.invokevirtual 117, 45, 31, 3, 707, 0, 3, [0])),
  (45, (.iconst 1, 46, 0, 0, 0, 0, 0, [])),
  (46, (.iadd, 47, 0, 0, 0, 0, 0, [])),
  (47, (.invokestatic 121, 50, 206, 2, 894, 6, 0, [0])),
  (50, (.istore_n 3, 51, 3, 0, 0, 0, 0, [])),
  (51, (.iinc 4 1, 54, 4, 0, 0, 0, 0, [])),
  (54, (.goto (-42), 57, 12, 0, 0, 0, 0, [])),
  (57, (.iload_n 3, 58, 3, 0, 0, 0, 0, [])),
  (58, (.invokestatic 124, 61, 120, 1, 16, 0, 10, [1])),
  (61, (.ifCond .eq 7, 64, 68, 0, 0, 0, 0, [])),
  (64, (.iload_n 3, 65, 3, 0, 0, 0, 0, [])),
  (65, (.goto 5, 68, 70, 0, 0, 0, 0, [])),
  (68, (.bipush (-9), 70, 0, 0, 0, 0, 0, [])),
  (70, (.ireturn, 71, 0, 0, 0, 0, 0, []))]
def rn_m34 : rn_Mt := (yX2_leastRank, cX2_leastRank, 5, (some .int), false, 0, 0, 5, 121, rn_t34)
def rn_t35 : List (Nat × rn_E) := [(0, (.bipush 9, 2, 0, 0, 0, 0, 0, [])),
  (2, (.istore_n 3, 3, 3, 0, 0, 0, 0, [])),
  (3, (.iload_n 3, 4, 3, 0, 0, 0, 0, [])),
  (4, (.iconst 1, 5, 0, 0, 0, 0, 0, [])),
  (5, (.if_icmp .lt 57, 8, 62, 0, 0, 0, 0, [])),
  (8, (.iconst 0, 9, 0, 0, 0, 0, 0, [])),
  (9, (.istore 4, 11, 4, 0, 0, 0, 0, [])),
  (11, (.iload 4, 13, 4, 0, 0, 0, 0, [])),
  (13, (.aload_n 1, 14, 1, 0, 0, 0, 0, [])),
  (14, (.getfield 127, 17, 0, 0, 245, 0, 1, [])),
  (17, (.if_icmp .ge 39, 20, 56, 0, 0, 0, 0, [])),
  (20, (.aload_n 1, 21, 1, 0, 0, 0, 0, [])),
  (21, (.iload 4, 23, 4, 0, 0, 0, 0, [])),
  (23, (.invokevirtual 130, 26, 5, 2, 681, 0, 1, [0])),
  (26, (.astore 5, 28, 5, 0, 0, 0, 0, [])),
  (28, (.aload 5, 30, 5, 0, 0, 0, 0, [])),
  (30, (.ifnull 20, 33, 50, 0, 0, 0, 0, [])),
  (33, (.aload 5, 35, 5, 0, 0, 0, 0, [])),
  (35, (.getfield 33, 38, 5, 1, 162, 0, 6, [])),
  (38, (.iload_n 3, 39, 3, 0, 0, 0, 0, [])),
  (39, (.if_icmp .ne 11, 42, 50, 0, 0, 0, 0, [])),
  (42, (.aload_n 0, 43, 0, 0, 0, 0, 0, [])),
  (43, (.aload_n 1, 44, 1, 0, 0, 0, 0, [])),
  (44, (.aload 5, 46, 5, 0, 0, 0, 0, [])),
  (46, (.iload_n 2, 47, 2, 0, 0, 0, 0, [])),
  (47, (.invokevirtual 134, 50, 36, 4, 682, 0, 3, [0])),
  (50, (.iinc 4 1, 53, 4, 0, 0, 0, 0, [])),
  (53, (.goto (-42), 56, 11, 0, 0, 0, 0, [])),
  (56, (.iinc 3 (-1), 59, 3, 0, 0, 0, 0, [])),
  (59, (.goto (-56), 62, 3, 0, 0, 0, 0, [])),
  (62, (.return_, 63, 0, 0, 0, 0, 0, []))]
def rn_m35 : rn_Mt := (yX2_letterAll, cX2_letterAll, 6, none, false, 0, 0, 6, 146, rn_t35)
def rn_t36 : List (Nat × rn_E) := [(0, (.aload_n 0, 1, 0, 0, 0, 0, 0, [])),
  (1, (.aload_n 1, 2, 1, 0, 0, 0, 0, [])),
  (2, (.aload_n 2, 3, 2, 0, 0, 0, 0, [])),
  (3, (.invokevirtual 106, 6, 30, 3, 686, 0, 3, [0])),
  (6, (.iconst 0, 7, 0, 0, 0, 0, 0, [])),
  (7, (.istore 4, 9, 4, 0, 0, 0, 0, [])),
  (9, (.iload 4, 11, 4, 0, 0, 0, 0, [])),
  (11, (.iload_n 3, 12, 3, 0, 0, 0, 0, [])),
  (12, (.if_icmp .ge 35, 15, 47, 0, 0, 0, 0, [])),
  (15, (.aload_n 0, 16, 0, 0, 0, 0, 0, [])),
  (16, (.aload_n 1, 17, 1, 0, 0, 0, 0, [])),
  (17, (.aload_n 2, 18, 2, 0, 0, 0, 0, [])),
  (18, (.invokevirtual 110, 21, 33, 3, 690, 0, 3, [0])),
  (21, (.istore 5, 23, 5, 0, 0, 0, 0, [])),
  (23, (.iload 5, 25, 5, 0, 0, 0, 0, [])),
  (25, (.bipush (-9), 27, 0, 0, 0, 0, 0, [])),
  (27, (.if_icmp .eq 13, 30, 40, 0, 0, 0, 0, [])),
  (30, (.aload_n 1, 31, 1, 0, 0, 0, 0, [])),
  (31, (.aload_n 2, 32, 2, 0, 0, 0, 0, [])),
  (32, (.iload 5, 34, 5, 0, 0, 0, 0, [])),
  (34, (.invokevirtual 138, 37, 10, 3, 712, 0, 1, [0])),
  (37, (.ifCond .ne 4, 40, 41, 0, 0, 0, 0, [])),
  (40, (.return_, 41, 0, 0, 0, 0, 0, [])),
  (41, (.iinc 4 1, 44, 4, 0, 0, 0, 0, [])),
  (44, (.goto (-35), 47, 9, 0, 0, 0, 0, [])),
  (47, (.return_, 48, 0, 0, 0, 0, 0, []))]
def rn_m36 : rn_Mt := (yX2_letterRiver, cX2_letterRiver, 6, none, false, 0, 0, 5, 121, rn_t36)
def rn_t37 : List (Nat × rn_E) := [(0, (.aload_n 1, 1, 1, 0, 0, 0, 0, [])),
  (1, (.iload_n 2, 2, 2, 0, 0, 0, 0, [])),
  (2, (.invokevirtual 50, 5, 7, 2, 632, 0, 1, [0])),
  (5, (.astore_n 3, 6, 3, 0, 0, 0, 0, [])),
  (6, (.aload_n 3, 7, 3, 0, 0, 0, 0, [])),
  (7, (.ifnull 24, 10, 31, 0, 0, 0, 0, [])),
  (10, (.aload_n 0, 11, 0, 0, 0, 0, 0, [])),
  (11, (.aload_n 1, 12, 1, 0, 0, 0, 0, [])),
  (12, (.aload_n 3, 13, 3, 0, 0, 0, 0, [])),
  (13, (.getfield 54, 16, 3, 0, 232, 2, 4, [])),
  (16, (.aload_n 3, 17, 3, 0, 0, 0, 0, [])),
  (17, (.getfield 63, 20, 3, 1, 236, 0, 4, [])),
  (20, (.iload_n 2, 21, 2, 0, 0, 0, 0, [])),
  (21, (.invokevirtual 142, 24, 26, 5, 725, 0, 3, [0])),
  (24, (.ifCond .eq 7, 27, 31, 0, 0, 0, 0, [])),
  (27, (.iconst 1, 28, 0, 0, 0, 0, 0, [])),
  (28, (.goto 4, 31, 32, 0, 0, 0, 0, [])),
  (31, (.iconst 0, 32, 0, 0, 0, 0, 0, [])),
  (32, (.ireturn, 33, 0, 0, 0, 1, 0, []))]
def rn_m37 : rn_Mt := (yX2_isMisfit, cX2_isMisfit, 4, (some .boolean), false, 0, 0, 5, 124, rn_t37)
def rn_t38 : List (Nat × rn_E) := [(0, (.iconst 0, 1, 0, 0, 0, 0, 0, [])),
  (1, (.istore_n 2, 2, 2, 0, 0, 0, 0, [])),
  (2, (.iconst 0, 3, 0, 0, 0, 0, 0, [])),
  (3, (.istore_n 3, 4, 3, 0, 0, 0, 0, [])),
  (4, (.iload_n 3, 5, 3, 0, 0, 0, 0, [])),
  (5, (.aload_n 1, 6, 1, 0, 0, 0, 0, [])),
  (6, (.getfield 45, 9, 0, 2, 251, 0, 1, [])),
  (9, (.if_icmp .ge 21, 12, 30, 0, 0, 0, 0, [])),
  (12, (.aload_n 0, 13, 0, 0, 0, 0, 0, [])),
  (13, (.aload_n 1, 14, 1, 0, 0, 0, 0, [])),
  (14, (.iload_n 3, 15, 3, 0, 0, 0, 0, [])),
  (15, (.invokevirtual 146, 18, 37, 3, 721, 0, 3, [0])),
  (18, (.ifCond .eq 6, 21, 24, 0, 0, 0, 0, [])),
  (21, (.iinc 2 1, 24, 2, 0, 0, 0, 0, [])),
  (24, (.iinc 3 1, 27, 3, 0, 0, 0, 0, [])),
  (27, (.goto (-23), 30, 4, 0, 0, 0, 0, [])),
  (30, (.iload_n 2, 31, 2, 0, 0, 0, 0, [])),
  (31, (.ireturn, 32, 0, 0, 0, 0, 0, []))]
def rn_m38 : rn_Mt := (yX2_misfits, cX2_misfits, 4, (some .int), false, 0, 0, 6, 147, rn_t38)
def rn_t39 : List (Nat × rn_E) := [(0, (.aload_n 1, 1, 1, 0, 0, 0, 0, [])),
  (1, (.getfield 45, 4, 0, 2, 251, 0, 1, [])),
  (4, (.istore_n 2, 5, 2, 0, 0, 0, 0, [])),
  (5, (.iconst 0, 6, 0, 0, 0, 0, 0, [])),
  (6, (.istore_n 3, 7, 3, 0, 0, 0, 0, [])),
  (7, (.iconst 0, 8, 0, 0, 0, 0, 0, [])),
  (8, (.istore 4, 10, 4, 0, 0, 0, 0, [])),
  (10, (.iload 4, 12, 4, 0, 0, 0, 0, [])),
  (12, (.iload_n 2, 13, 2, 0, 0, 0, 0, [])),
  (13, (.if_icmp .ge 30, 16, 43, 0, 0, 0, 0, [])),
  (16, (.aload_n 0, 17, 0, 0, 0, 0, 0, [])),
  (17, (.aload_n 1, 18, 1, 0, 0, 0, 0, [])),
  (18, (.iload_n 3, 19, 3, 0, 0, 0, 0, [])),
  (19, (.invokevirtual 146, 22, 37, 3, 721, 0, 3, [0])),
  (22, (.ifCond .eq 12, 25, 34, 0, 0, 0, 0, [])),
  (25, (.aload_n 1, 26, 1, 0, 0, 0, 0, [])),
  (26, (.iload_n 3, 27, 3, 0, 0, 0, 0, [])),
  (27, (.invokevirtual 150, 30, 11, 2, 726, 0, 1, [0])),
  (30, (.pop, 31, 0, 0, 0, 0, 0, [])),
  (31, (.goto 6, 34, 37, 0, 0, 0, 0, [])),
  (34, (.iinc 3 1, 37, 3, 0, 0, 0, 0, [])),
  (37, (.iinc 4 1, 40, 4, 0, 0, 0, 0, [])),
  (40, (.goto (-30), 43, 10, 0, 0, 0, 0, [])),
  (43, (.iload_n 2, 44, 2, 0, 0, 0, 0, [])),
  (44, (.aload_n 1, 45, 1, 0, 0, 0, 0, [])),
  (45, (.getfield 45, 48, 0, 2, 251, 0, 1, [])),
  (48, (.isub, 49, 0, 0, 0, 0, 0, [])),
  (49, (.ireturn, 50, 0, 0, 0, 0, 0, []))]
def rn_m39 : rn_Mt := (yX2_dropMisfits, cX2_dropMisfits, 5, (some .int), false, 0, 0, 6, 147, rn_t39)
def rn_t40 : List (Nat × rn_E) := [(0, (.aload_n 0, 1, 0, 0, 0, 0, 0, [])),
  (1, (.invokespecial 1, 4, 1000, 1, 230, 2, 0, [0])),
  (4, (.aload_n 0, 5, 0, 0, 0, 0, 0, [])),
  (5, (.aload_n 1, 6, 1, 0, 0, 0, 0, [])),
  (6, (.putfield 7, 9, 3, 0, 231, 2, 4, [])),
  (9, (.return_, 10, 0, 0, 0, 0, 0, []))]
def rn_m40 : rn_Mt := (yX3_init, cX3_init, 2, none, false, 0, 0, 1, 20, rn_t40)
def rn_t41 : List (Nat × rn_E) := [(0, (.aload_n 0, 1, 0, 0, 0, 0, 0, [])),
  (1, (.aload_n 1, 2, 1, 0, 0, 0, 0, [])),
  (2, (.putfield 7, 5, 3, 0, 231, 2, 4, [])),
  (5, (.aload_n 0, 6, 0, 0, 0, 0, 0, [])),
  (6, (.iload_n 2, 7, 2, 0, 0, 0, 0, [])),
  (7, (.putfield 13, 10, 3, 1, 235, 0, 4, [])),
  (10, (.return_, 11, 0, 0, 0, 0, 0, []))]
def rn_m41 : rn_Mt := (yX3_put, cX3_put, 3, none, false, 0, 0, 0, 0, rn_t41)
def rn_t42 : List (Nat × rn_E) := [(0, (.aload_n 0, 1, 0, 0, 0, 0, 0, [])),
  (1, (.getfield 13, 4, 3, 1, 235, 0, 4, [])),
  (4, (.istore_n 2, 5, 2, 0, 0, 0, 0, [])),
  (5, (.iload_n 2, 6, 2, 0, 0, 0, 0, [])),
  (6, (.aload_n 0, 7, 0, 0, 0, 0, 0, [])),
  (7, (.getfield 13, 10, 3, 1, 235, 0, 4, [])),
  (10, (.aload_n 0, 11, 0, 0, 0, 0, 0, [])),
  (11, (.getfield 7, 14, 3, 0, 231, 2, 4, [])),
  (14, (.getfield 17, 17, 5, 3, 171, 0, 6, [])),
  (17, (.iadd, 18, 0, 0, 0, 0, 0, [])),
  (18, (.if_icmp .ge 41, 21, 59, 0, 0, 0, 0, [])),
  (21, (.aload_n 1, 22, 1, 0, 0, 0, 0, [])),
  (22, (.aload_n 0, 23, 0, 0, 0, 0, 0, [])),
  (23, (.getfield 7, 26, 3, 0, 231, 2, 4, [])),
  (26, (.iload_n 2, 27, 2, 0, 0, 0, 0, [])),
  (27, (.invokevirtual 22, 30, 65, 2, 775, 0, 6, [0])),
  (30, (.aload_n 0, 31, 0, 0, 0, 0, 0, [])),
  (31, (.getfield 7, 34, 3, 0, 231, 2, 4, [])),
  (34, (.iload_n 2, 35, 2, 0, 0, 0, 0, [])),
  (35, (.invokevirtual 26, 38, 66, 2, 776, 0, 6, [0])),
  (38, (.aload_n 0, 39, 0, 0, 0, 0, 0, [])),
  (39, (.getfield 7, 42, 3, 0, 231, 2, 4, [])),
  (42, (.getfield 29, 45, 5, 2, 166, 0, 6, [])),
  (45, (.invokevirtual 32, 48, 89, 4, 825, 0, 9, [0])),
  (48, (.ifCond .eq 5, 51, 53, 0, 0, 0, 0, [])),
  (51, (.iconst 1, 52, 0, 0, 0, 0, 0, [])),
  (52, (.ireturn, 53, 0, 0, 0, 1, 0, [])),
  (53, (.iinc 2 1, 56, 2, 0, 0, 0, 0, [])),
  (56, (.goto (-51), 59, 5, 0, 0, 0, 0, [])),
  (59, (.iconst 0, 60, 0, 0, 0, 0, 0, [])),
  (60, (.ireturn, 61, 0, 0, 0, 1, 0, []))]
def rn_m42 : rn_Mt := (yX3_lapsOver, cX3_lapsOver, 3, (some .boolean), false, 0, 0, 2, 45, rn_t42)
def rn_t43 : List (Nat × rn_E) := [(0, (.aload_n 0, 1, 0, 0, 0, 0, 0, [])),
  (1, (.getfield 13, 4, 3, 1, 235, 0, 4, [])),
  (4, (.istore_n 2, 5, 2, 0, 0, 0, 0, [])),
  (5, (.iload_n 2, 6, 2, 0, 0, 0, 0, [])),
  (6, (.aload_n 0, 7, 0, 0, 0, 0, 0, [])),
  (7, (.getfield 13, 10, 3, 1, 235, 0, 4, [])),
  (10, (.aload_n 0, 11, 0, 0, 0, 0, 0, [])),
  (11, (.getfield 7, 14, 3, 0, 231, 2, 4, [])),
  (14, (.getfield 17, 17, 5, 3, 171, 0, 6, [])),
  (17, (.iadd, 18, 0, 0, 0, 0, 0, [])),
  (18, (.if_icmp .ge 36, 21, 54, 0, 0, 0, 0, [])),
  (21, (.aload_n 1, 22, 1, 0, 0, 0, 0, [])),
  (22, (.aload_n 0, 23, 0, 0, 0, 0, 0, [])),
  (23, (.getfield 7, 26, 3, 0, 231, 2, 4, [])),
  (26, (.iload_n 2, 27, 2, 0, 0, 0, 0, [])),
  (27, (.invokevirtual 22, 30, 65, 2, 775, 0, 6, [0])),
  (30, (.aload_n 0, 31, 0, 0, 0, 0, 0, [])),
  (31, (.getfield 7, 34, 3, 0, 231, 2, 4, [])),
  (34, (.iload_n 2, 35, 2, 0, 0, 0, 0, [])),
  (35, (.invokevirtual 26, 38, 66, 2, 776, 0, 6, [0])),
  (38, (.aload_n 0, 39, 0, 0, 0, 0, 0, [])),
  (39, (.getfield 7, 42, 3, 0, 231, 2, 4, [])),
  (42, (.getfield 29, 45, 5, 2, 166, 0, 6, [])),
  (45, (.invokevirtual 38, 48, 80, 4, 777, 0, 7, [0])),
  (48, (.iinc 2 1, 51, 2, 0, 0, 0, 0, [])),
  (51, (.goto (-46), 54, 5, 0, 0, 0, 0, [])),
  (54, (.return_, 55, 0, 0, 0, 0, 0, []))]
def rn_m43 : rn_Mt := (yX3_markArea, cX3_markArea, 3, none, false, 0, 0, 3, 68, rn_t43)
def rn_t44 : List (Nat × rn_E) := [(0, (.aload_n 1, 1, 1, 0, 0, 0, 0, [])),
  (1, (.invokevirtual 44, 4, 79, 1, 840, 0, 7, [0])),
  (4, (.aload_n 0, 5, 0, 0, 0, 0, 0, [])),
  (5, (.aload_n 1, 6, 1, 0, 0, 0, 0, [])),
  (6, (.invokevirtual 47, 9, 43, 2, 841, 0, 4, [0])),
  (9, (.aload_n 1, 10, 1, 0, 0, 0, 0, [])),
  (10, (.getfield 51, 13, 6, 0, 305, 0, 7, [])),
  (13, (.ireturn, 14, 0, 0, 0, 0, 0, []))]
def rn_m44 : rn_Mt := (yX3_cells, cX3_cells, 2, (some .int), false, 0, 0, 4, 90, rn_t44)
def rn_t45 : List (Nat × rn_E) := [(0, (.aload_n 0, 1, 0, 0, 0, 0, 0, [])),
  (1, (.invokespecial 3, 4, 1000, 1, 99, 2, 0, [0])),
  (4, (.aload_n 0, 5, 0, 0, 0, 0, 0, [])),
  (5, (.new 9, 8, 7, 0, 100, 0, 0, [])),
  (8, (.dup, 9, 0, 0, 0, 0, 0, [])),
  (9, (.invokespecial 11, 12, 82, 1, 1, 4, 8, [1])),
  (12, (.putfield 12, 15, 4, 0, 116, 2, 5, [])),
  (15, (.return_, 16, 0, 0, 0, 0, 0, []))]
def rn_m45 : rn_Mt := (yX4_init, cX4_init, 1, none, true, 2, 200, 2, 40, rn_t45)
def rn_t46 : List (Nat × rn_E) := [(0, (.aload_n 0, 1, 0, 0, 0, 0, 0, [])),
  (1, (.iconst 0, 2, 0, 0, 0, 0, 0, [])),
  (2, (.putfield 18, 5, 4, 2, 119, 0, 5, [])),
  (5, (.aload_n 0, 6, 0, 0, 0, 0, 0, [])),
  (6, (.iconst 0, 7, 0, 0, 0, 0, 0, [])),
  (7, (.putfield 22, 10, 4, 4, 121, 1, 5, [])),
  (10, (.iconst 0, 11, 0, 0, 0, 0, 0, [])),
  (11, (.istore_n 2, 12, 2, 0, 0, 0, 0, [])),
  (12, (.iload_n 2, 13, 2, 0, 0, 0, 0, [])),
  (13, (.aload_n 0, 14, 0, 0, 0, 0, 0, [])),
  (14, (.getfield 12, 17, 4, 0, 116, 2, 5, [])),
  (17, (.getfield 26, 20, 7, 0, 107, 0, 8, [])),
  (20, (.if_icmp .gt 74, 23, 94, 0, 0, 0, 0, [])),
  (23, (.aload_n 0, 24, 0, 0, 0, 0, 0, [])),
  (24, (.getfield 22, 27, 4, 4, 121, 1, 5, [])),
  (27, (.ifCond .ne 67, 30, 94, 0, 0, 0, 0, [])),
  (30, (.aload_n 0, 31, 0, 0, 0, 0, 0, [])),
  (31, (.invokevirtual 29, 34, 54, 1, 423, 0, 5, [0])),
  (34, (.aload_n 0, 35, 0, 0, 0, 0, 0, [])),
  (35, (.getfield 32, 38, 4, 3, 120, 0, 5, [])),
  (38, (.ifCond .ne 5, 41, 43, 0, 0, 0, 0, [])),
  (41, (.iload_n 2, 42, 2, 0, 0, 0, 0, [])),
  (42, (.ireturn, 43, 0, 0, 0, 0, 0, [])),
  (43, (.aload_n 0, 44, 0, 0, 0, 0, 0, [])),
  (44, (.ldc 35, 46, 3, 0, 0, 0, 0, [])),
  (46, (.invokevirtual 37, 49, 56, 2, 439, 0, 5, [0])),
  (49, (.ifCond .eq 14, 52, 63, 0, 0, 0, 0, [])),
  (52, (.aload_n 0, 53, 0, 0, 0, 0, 0, [])),
  (53, (.aload_n 1, 54, 1, 0, 0, 0, 0, [])),
  (54, (.invokevirtual 41, 57, 8, 1, 491, 0, 1, [0])),
  (57, (.invokevirtual 47, 60, 47, 2, 492, 0, 5, [0])),
  (60, (.goto 28, 63, 88, 0, 0, 0, 0, [])),
  (63, (.aload_n 0, 64, 0, 0, 0, 0, 0, [])),
  (64, (.ldc 51, 66, 4, 0, 0, 0, 0, [])),
  (66, (.invokevirtual 37, 69, 56, 2, 439, 0, 5, [0])),
  (69, (.ifCond .eq 14, 72, 83, 0, 0, 0, 0, [])),
  (72, (.aload_n 0, 73, 0, 0, 0, 0, 0, [])),
  (73, (.aload_n 1, 74, 1, 0, 0, 0, 0, [])),
  (74, (.invokevirtual 53, 77, 9, 1, 553, 0, 1, [0])),
  (77, (.invokevirtual 57, 80, 48, 2, 554, 0, 5, [0])),
  (80, (.goto 8, 83, 88, 0, 0, 0, 0, [])),
  (83, (.aload_n 0, 84, 0, 0, 0, 0, 0, [])),
  (84, (.iconst 1, 85, 0, 0, 0, 0, 0, [])),
  (85, (.putfield 22, 88, 4, 4, 121, 1, 5, [])),
  (88, (.iinc 2 1, 91, 2, 0, 0, 0, 0, [])),
  (91, (.goto (-79), 94, 12, 0, 0, 0, 0, [])),
  (94, (.sipush (-1000), 97, 0, 0, 0, 0, 0, [])),
  (97, (.aload_n 0, 98, 0, 0, 0, 0, 0, [])),
  (98, (.getfield 61, 101, 4, 1, 118, 0, 5, [])),
  (101, (.isub, 102, 0, 0, 0, 0, 0, [])),
  (102, (.ireturn, 103, 0, 0, 0, 0, 0, []))]
def rn_m46 : rn_Mt := (yX4_readInto, cX4_readInto, 3, (some .int), false, 0, 0, 6, 131, rn_t46)
def rn_t47 : List (Nat × rn_E) := [(0, (.aload_n 1, 1, 1, 0, 0, 0, 0, [])),
  (1, (.ifnonnull 9, 4, 10, 0, 0, 0, 0, [])),
  (4, (.aload_n 0, 5, 0, 0, 0, 0, 0, [])),
  (5, (.iconst 1, 6, 0, 0, 0, 0, 0, [])),
  (6, (.putfield 22, 9, 4, 4, 121, 1, 5, [])),
  (9, (.return_, 10, 0, 0, 0, 0, 0, [])),
  (10, (.aload_n 0, 11, 0, 0, 0, 0, 0, [])),
  (11, (.aload_n 1, 12, 1, 0, 0, 0, 0, [])),
  (12, (.invokevirtual 64, 15, 49, 2, 496, 0, 5, [0])),
  (15, (.aload_n 0, 16, 0, 0, 0, 0, 0, [])),
  (16, (.iconst 0, 17, 0, 0, 0, 0, 0, [])),
  (17, (.bipush 59, 19, 0, 0, 0, 0, 0, [])),
  (19, (.invokevirtual 67, 22, 51, 3, 509, 0, 5, [0])),
  (22, (.istore_n 2, 23, 2, 0, 0, 0, 0, [])),
  (23, (.aload_n 0, 24, 0, 0, 0, 0, 0, [])),
  (24, (.iconst 0, 25, 0, 0, 0, 0, 0, [])),
  (25, (.bipush 39, 27, 0, 0, 0, 0, 0, [])),
  (27, (.invokevirtual 67, 30, 51, 3, 509, 0, 5, [0])),
  (30, (.istore_n 3, 31, 3, 0, 0, 0, 0, [])),
  (31, (.aload_n 0, 32, 0, 0, 0, 0, 0, [])),
  (32, (.iconst 1, 33, 0, 0, 0, 0, 0, [])),
  (33, (.bipush 9, 35, 0, 0, 0, 0, 0, [])),
  (35, (.invokevirtual 67, 38, 51, 3, 509, 0, 5, [0])),
  (38, (.istore 4, 40, 4, 0, 0, 0, 0, [])),
  (40, (.aload_n 0, 41, 0, 0, 0, 0, 0, [])),
  (41, (.iconst 0, 42, 0, 0, 0, 0, 0, [])),
  (42, (.iconst 2, 43, 0, 0, 0, 0, 0, [])),
  (43, (.invokevirtual 67, 46, 51, 3, 509, 0, 5, [0])),
  (46, (.istore 5, 48, 5, 0, 0, 0, 0, [])),
  (48, (.aload_n 1, 49, 1, 0, 0, 0, 0, [])),
  (49, (.iload_n 2, 50, 2, 0, 0, 0, 0, [])),
  (50, (.iload_n 3, 51, 3, 0, 0, 0, 0, [])),
  (51, (.iload 4, 53, 4, 0, 0, 0, 0, [])),
  (53, (.iload 5, 55, 5, 0, 0, 0, 0, [])),
  (55, (.invokevirtual 71, 58, 61, 5, 513, 0, 6, [0])),
  (58, (.aload_n 0, 59, 0, 0, 0, 0, 0, [])),
  (59, (.aload_n 1, 60, 1, 0, 0, 0, 0, [])),
  (60, (.invokevirtual 77, 63, 50, 2, 517, 0, 5, [0])),
  (63, (.aload_n 0, 64, 0, 0, 0, 0, 0, [])),
  (64, (.invokevirtual 80, 67, 52, 1, 548, 0, 5, [0])),
  (67, (.return_, 68, 0, 0, 0, 0, 0, []))]
def rn_m47 : rn_Mt := (yX4_readRiver, cX4_readRiver, 6, none, false, 0, 0, 5, 106, rn_t47)
def rn_t48 : List (Nat × rn_E) := [(0, (.aload_n 1, 1, 1, 0, 0, 0, 0, [])),
  (1, (.ifnonnull 9, 4, 10, 0, 0, 0, 0, [])),
  (4, (.aload_n 0, 5, 0, 0, 0, 0, 0, [])),
  (5, (.iconst 1, 6, 0, 0, 0, 0, 0, [])),
  (6, (.putfield 22, 9, 4, 4, 121, 1, 5, [])),
  (9, (.return_, 10, 0, 0, 0, 0, 0, [])),
  (10, (.aload_n 0, 11, 0, 0, 0, 0, 0, [])),
  (11, (.iconst 0, 12, 0, 0, 0, 0, 0, [])),
  (12, (.bipush 59, 14, 0, 0, 0, 0, 0, [])),
  (14, (.invokevirtual 67, 17, 51, 3, 509, 0, 5, [0])),
  (17, (.istore_n 2, 18, 2, 0, 0, 0, 0, [])),
  (18, (.aload_n 0, 19, 0, 0, 0, 0, 0, [])),
  (19, (.iconst 0, 20, 0, 0, 0, 0, 0, [])),
  (20, (.bipush 39, 22, 0, 0, 0, 0, 0, [])),
  (22, (.invokevirtual 67, 25, 51, 3, 509, 0, 5, [0])),
  (25, (.istore_n 3, 26, 3, 0, 0, 0, 0, [])),
  (26, (.aload_n 0, 27, 0, 0, 0, 0, 0, [])),
  (27, (.iconst 1, 28, 0, 0, 0, 0, 0, [])),
  (28, (.bipush 12, 30, 0, 0, 0, 0, 0, [])),
  (30, (.bipush 60, 32, 0, 0, 0, 0, 0, [])),
  (32, (.iload_n 2, 33, 2, 0, 0, 0, 0, [])),
  (33, (.isub, 34, 0, 0, 0, 0, 0, [])),
  (34, (.invokestatic 83, 37, 206, 2, 435, 6, 0, [0])),
  (37, (.invokevirtual 67, 40, 51, 3, 509, 0, 5, [0])),
  (40, (.istore 4, 42, 4, 0, 0, 0, 0, [])),
  (42, (.aload_n 0, 43, 0, 0, 0, 0, 0, [])),
  (43, (.iconst 1, 44, 0, 0, 0, 0, 0, [])),
  (44, (.iconst 3, 45, 0, 0, 0, 0, 0, [])),
  (45, (.bipush 40, 47, 0, 0, 0, 0, 0, [])),
  (47, (.iload_n 3, 48, 3, 0, 0, 0, 0, [])),
  (48, (.isub, 49, 0, 0, 0, 0, 0, [])),
  (49, (.invokestatic 83, 52, 206, 2, 435, 6, 0, [0])),
  (52, (.invokevirtual 67, 55, 51, 3, 509, 0, 5, [0])),
  (55, (.istore 5, 57, 5, 0, 0, 0, 0, [])),
  (57, (.aload_n 0, 58, 0, 0, 0, 0, 0, [])),
  (58, (.iconst 1, 59, 0, 0, 0, 0, 0, [])),
  (59, (.bipush 9, 61, 0, 0, 0, 0, 0, [])),
  (61, (.invokevirtual 67, 64, 51, 3, 509, 0, 5, [0])),
  (64, (.istore 6, 66, 6, 0, 0, 0, 0, [])),
  (66, (.aload_n 1, 67, 1, 0, 0, 0, 0, [])),
  (67, (.iload_n 2, 68, 2, 0, 0, 0, 0, [])),
  (68, (.iload_n 3, 69, 3, 0, 0, 0, 0, [])),
  (69, (.iload 4, 71, 4, 0, 0, 0, 0, [])),
  (71, (.iload 5, 73, 5, 0, 0, 0, 0, [])),
  (73, (.iload 6, 75, 6, 0, 0, 0, 0, [])),
  (75, (.invokevirtual 88, 78, 87, 6, 558, 0, 9, [0])),
  (78, (.aload_n 0, 79, 0, 0, 0, 0, 0, [])),
  (79, (.invokevirtual 80, 82, 52, 1, 548, 0, 5, [0])),
  (82, (.return_, 83, 0, 0, 0, 0, 0, []))]
def rn_m48 : rn_Mt := (yX4_readTown, cX4_readTown, 7, none, false, 0, 0, 4, 89, rn_t48)
def rn_t49 : List (Nat × rn_E) := [(0, (.aload_n 0, 1, 0, 0, 0, 0, 0, [])),
  (1, (.invokevirtual 29, 4, 54, 1, 423, 0, 5, [0])),
  (4, (.aload_n 0, 5, 0, 0, 0, 0, 0, [])),
  (5, (.aload_n 0, 6, 0, 0, 0, 0, 0, [])),
  (6, (.getfield 32, 9, 4, 3, 120, 0, 5, [])),
  (9, (.iconst 1, 10, 0, 0, 0, 0, 0, [])),
  (10, (.if_icmp .ne 21, 13, 31, 0, 0, 0, 0, [])),
  (13, (.aload_n 0, 14, 0, 0, 0, 0, 0, [])),
  (14, (.getfield 18, 17, 4, 2, 119, 0, 5, [])),
  (17, (.aload_n 0, 18, 0, 0, 0, 0, 0, [])),
  (18, (.getfield 61, 21, 4, 1, 118, 0, 5, [])),
  (21, (.isub, 22, 0, 0, 0, 0, 0, [])),
  (22, (.bipush 12, 24, 0, 0, 0, 0, 0, [])),
  (24, (.if_icmp .gt 7, 27, 31, 0, 0, 0, 0, [])),
  (27, (.iconst 1, 28, 0, 0, 0, 0, 0, [])),
  (28, (.goto 4, 31, 32, 0, 0, 0, 0, [])),
  (31, (.iconst 0, 32, 0, 0, 0, 0, 0, [])),
  (32, (.invokevirtual 94, 35, 53, 2, 500, 0, 5, [0])),
  (35, (.aload_n 0, 36, 0, 0, 0, 0, 0, [])),
  (36, (.getfield 61, 39, 4, 1, 118, 0, 5, [])),
  (39, (.istore_n 2, 40, 2, 0, 0, 0, 0, [])),
  (40, (.iload_n 2, 41, 2, 0, 0, 0, 0, [])),
  (41, (.aload_n 0, 42, 0, 0, 0, 0, 0, [])),
  (42, (.getfield 18, 45, 4, 2, 119, 0, 5, [])),
  (45, (.if_icmp .ge 28, 48, 73, 0, 0, 0, 0, [])),
  (48, (.aload_n 0, 49, 0, 0, 0, 0, 0, [])),
  (49, (.getfield 22, 52, 4, 4, 121, 1, 5, [])),
  (52, (.ifCond .ne 21, 55, 73, 0, 0, 0, 0, [])),
  (55, (.aload_n 1, 56, 1, 0, 0, 0, 0, [])),
  (56, (.aload_n 0, 57, 0, 0, 0, 0, 0, [])),
  (57, (.getfield 12, 60, 4, 0, 116, 2, 5, [])),
  (60, (.iload_n 2, 61, 2, 0, 0, 0, 0, [])),
  (61, (.invokevirtual 98, 64, 85, 2, 427, 0, 8, [0])),
  (64, (.invokevirtual 102, 67, 60, 2, 504, 0, 6, [0])),
  (67, (.iinc 2 1, 70, 2, 0, 0, 0, 0, [])),
  (70, (.goto (-30), 73, 40, 0, 0, 0, 0, [])),
  (73, (.return_, 74, 0, 0, 0, 0, 0, []))]
def rn_m49 : rn_Mt := (yX4_readName, cX4_readName, 3, none, false, 0, 0, 3, 63, rn_t49)
def rn_t50 : List (Nat × rn_E) := [(0, (.aload_n 0, 1, 0, 0, 0, 0, 0, [])),
  (1, (.invokevirtual 29, 4, 54, 1, 423, 0, 5, [0])),
  (4, (.aload_n 0, 5, 0, 0, 0, 0, 0, [])),
  (5, (.aload_n 0, 6, 0, 0, 0, 0, 0, [])),
  (6, (.getfield 32, 9, 4, 3, 120, 0, 5, [])),
  (9, (.iconst 2, 10, 0, 0, 0, 0, 0, [])),
  (10, (.if_icmp .ne 7, 13, 17, 0, 0, 0, 0, [])),
  (13, (.iconst 1, 14, 0, 0, 0, 0, 0, [])),
  (14, (.goto 4, 17, 18, 0, 0, 0, 0, [])),
  (17, (.iconst 0, 18, 0, 0, 0, 0, 0, [])),
  (18, (.invokevirtual 94, 21, 53, 2, 500, 0, 5, [0])),
  (21, (.aload_n 0, 22, 0, 0, 0, 0, 0, [])),
  (22, (.getfield 61, 25, 4, 1, 118, 0, 5, [])),
  (25, (.istore_n 2, 26, 2, 0, 0, 0, 0, [])),
  (26, (.iload_n 2, 27, 2, 0, 0, 0, 0, [])),
  (27, (.aload_n 0, 28, 0, 0, 0, 0, 0, [])),
  (28, (.getfield 18, 31, 4, 2, 119, 0, 5, [])),
  (31, (.if_icmp .ge 35, 34, 66, 0, 0, 0, 0, [])),
  (34, (.aload_n 0, 35, 0, 0, 0, 0, 0, [])),
  (35, (.getfield 22, 38, 4, 4, 121, 1, 5, [])),
  (38, (.ifCond .ne 28, 41, 66, 0, 0, 0, 0, [])),
  (41, (.aload_n 0, 42, 0, 0, 0, 0, 0, [])),
  (42, (.aload_n 1, 43, 1, 0, 0, 0, 0, [])),
  (43, (.aload_n 0, 44, 0, 0, 0, 0, 0, [])),
  (44, (.getfield 12, 47, 4, 0, 116, 2, 5, [])),
  (47, (.iload_n 2, 48, 2, 0, 0, 0, 0, [])),
  (48, (.invokevirtual 98, 51, 85, 2, 427, 0, 8, [0])),
  (51, (.bipush 48, 53, 0, 0, 0, 0, 0, [])),
  (53, (.isub, 54, 0, 0, 0, 0, 0, [])),
  (54, (.invokevirtual 106, 57, 63, 2, 521, 0, 6, [0])),
  (57, (.invokevirtual 94, 60, 53, 2, 500, 0, 5, [0])),
  (60, (.iinc 2 1, 63, 2, 0, 0, 0, 0, [])),
  (63, (.goto (-37), 66, 26, 0, 0, 0, 0, [])),
  (66, (.return_, 67, 0, 0, 0, 0, 0, []))]
def rn_m50 : rn_Mt := (yX4_readMoves, cX4_readMoves, 3, none, false, 0, 0, 4, 84, rn_t50)
def rn_t51 : List (Nat × rn_E) := [(0, (.aload_n 0, 1, 0, 0, 0, 0, 0, [])),
  (1, (.invokevirtual 29, 4, 54, 1, 423, 0, 5, [0])),
  (4, (.aload_n 0, 5, 0, 0, 0, 0, 0, [])),
  (5, (.getfield 18, 8, 4, 2, 119, 0, 5, [])),
  (8, (.aload_n 0, 9, 0, 0, 0, 0, 0, [])),
  (9, (.getfield 61, 12, 4, 1, 118, 0, 5, [])),
  (12, (.isub, 13, 0, 0, 0, 0, 0, [])),
  (13, (.istore_n 3, 14, 3, 0, 0, 0, 0, [])),
  (14, (.iload_n 3, 15, 3, 0, 0, 0, 0, [])),
  (15, (.iconst 1, 16, 0, 0, 0, 0, 0, [])),
  (16, (.if_icmp .le 23, 19, 39, 0, 0, 0, 0, [])),
  (19, (.aload_n 0, 20, 0, 0, 0, 0, 0, [])),
  (20, (.getfield 12, 23, 4, 0, 116, 2, 5, [])),
  (23, (.aload_n 0, 24, 0, 0, 0, 0, 0, [])),
  (24, (.getfield 61, 27, 4, 1, 118, 0, 5, [])),
  (27, (.invokevirtual 98, 30, 85, 2, 427, 0, 8, [0])),
  (30, (.bipush 48, 32, 0, 0, 0, 0, 0, [])),
  (32, (.if_icmp .ne 7, 35, 39, 0, 0, 0, 0, [])),
  (35, (.iconst 1, 36, 0, 0, 0, 0, 0, [])),
  (36, (.goto 4, 39, 40, 0, 0, 0, 0, [])),
  (39, (.iconst 0, 40, 0, 0, 0, 0, 0, [])),
  (40, (.istore 4, 42, 4, 0, 0, 0, 0, [])),
  (42, (.aload_n 0, 43, 0, 0, 0, 0, 0, [])),
  (43, (.aload_n 0, 44, 0, 0, 0, 0, 0, [])),
  (44, (.getfield 32, 47, 4, 3, 120, 0, 5, [])),
  (47, (.iconst 2, 48, 0, 0, 0, 0, 0, [])),
  (48, (.if_icmp .ne 17, 51, 65, 0, 0, 0, 0, [])),
  (51, (.iload_n 3, 52, 3, 0, 0, 0, 0, [])),
  (52, (.iconst 2, 53, 0, 0, 0, 0, 0, [])),
  (53, (.if_icmp .gt 12, 56, 65, 0, 0, 0, 0, [])),
  (56, (.iload 4, 58, 4, 0, 0, 0, 0, [])),
  (58, (.ifCond .ne 7, 61, 65, 0, 0, 0, 0, [])),
  (61, (.iconst 1, 62, 0, 0, 0, 0, 0, [])),
  (62, (.goto 4, 65, 66, 0, 0, 0, 0, [])),
  (65, (.iconst 0, 66, 0, 0, 0, 0, 0, [])),
  (66, (.invokevirtual 94, 69, 53, 2, 500, 0, 5, [0])),
  (69, (.iconst 0, 70, 0, 0, 0, 0, 0, [])),
  (70, (.istore 5, 72, 5, 0, 0, 0, 0, [])),
  (72, (.aload_n 0, 73, 0, 0, 0, 0, 0, [])),
  (73, (.getfield 61, 76, 4, 1, 118, 0, 5, [])),
  (76, (.istore 6, 78, 6, 0, 0, 0, 0, [])),
  (78, (.iload 6, 80, 6, 0, 0, 0, 0, [])),
  (80, (.aload_n 0, 81, 0, 0, 0, 0, 0, [])),
  (81, (.getfield 18, 84, 4, 2, 119, 0, 5, [])),
  (84, (.if_icmp .ge 36, 87, 120, 0, 0, 0, 0, [])),
  (87, (.aload_n 0, 88, 0, 0, 0, 0, 0, [])),
  (88, (.getfield 22, 91, 4, 4, 121, 1, 5, [])),
  (91, (.ifCond .ne 29, 94, 120, 0, 0, 0, 0, [])),
  (94, (.bipush 10, 96, 0, 0, 0, 0, 0, [])),
  (96, (.iload 5, 98, 5, 0, 0, 0, 0, [])),
  (98, (.imul, 99, 0, 0, 0, 0, 0, [])),
  (99, (.aload_n 0, 100, 0, 0, 0, 0, 0, [])),
  (100, (.getfield 12, 103, 4, 0, 116, 2, 5, [])),
  (103, (.iload 6, 105, 6, 0, 0, 0, 0, [])),
  (105, (.invokevirtual 98, 108, 85, 2, 427, 0, 8, [0])),
  (108, (.iadd, 109, 0, 0, 0, 0, 0, [])),
  (109, (.bipush 48, 111, 0, 0, 0, 0, 0, [])),
  (111, (.isub, 112, 0, 0, 0, 0, 0, [])),
  (112, (.istore 5, 114, 5, 0, 0, 0, 0, [])),
  (114, (.iinc 6 1, 117, 6, 0, 0, 0, 0, [])),
  (117, (.goto (-39), 120, 78, 0, 0, 0, 0, [])),
  (120, (.aload_n 0, 121, 0, 0, 0, 0, 0, [])),
  (121, (.iload 5, 123, 5, 0, 0, 0, 0, [])),
  (123, (.iload_n 1, 124, 1, 0, 0, 0, 0, [])),
  (124, (.iload_n 2, 125, 2, 0, 0, 0, 0, [])),
  (125, (.invokestatic 110, 128, 118, 3, 7, 0, 10, [1])),
  (128, (.invokevirtual 94, 131, 53, 2, 500, 0, 5, [0])),
  (131, (.aload_n 0, 132, 0, 0, 0, 0, 0, [])),
  (132, (.getfield 22, 135, 4, 4, 121, 1, 5, [])),
  (135, (.ifCond .eq 7, 138, 142, 0, 0, 0, 0, [])),
  (138, (.iload_n 1, 139, 1, 0, 0, 0, 0, [])),
  (139, (.goto 5, 142, 144, 0, 0, 0, 0, [])),
  (142, (.iload 5, 144, 5, 0, 0, 0, 0, [])),
  (144, (.ireturn, 145, 0, 0, 0, 0, 0, []))]
def rn_m51 : rn_Mt := (yX4_readNumber, cX4_readNumber, 7, (some .int), false, 0, 0, 3, 63, rn_t51)
def rn_t52 : List (Nat × rn_E) := [(0, (.aload_n 0, 1, 0, 0, 0, 0, 0, [])),
  (1, (.invokevirtual 29, 4, 54, 1, 423, 0, 5, [0])),
  (4, (.aload_n 0, 5, 0, 0, 0, 0, 0, [])),
  (5, (.aload_n 0, 6, 0, 0, 0, 0, 0, [])),
  (6, (.getfield 12, 9, 4, 0, 116, 2, 5, [])),
  (9, (.aload_n 0, 10, 0, 0, 0, 0, 0, [])),
  (10, (.getfield 61, 13, 4, 1, 118, 0, 5, [])),
  (13, (.invokevirtual 98, 16, 85, 2, 427, 0, 8, [0])),
  (16, (.bipush 59, 18, 0, 0, 0, 0, 0, [])),
  (18, (.if_icmp .ne 7, 21, 25, 0, 0, 0, 0, [])),
  (21, (.iconst 1, 22, 0, 0, 0, 0, 0, [])),
  (22, (.goto 4, 25, 26, 0, 0, 0, 0, [])),
  (25, (.iconst 0, 26, 0, 0, 0, 0, 0, [])),
  (26, (.invokevirtual 94, 29, 53, 2, 500, 0, 5, [0])),
  (29, (.return_, 30, 0, 0, 0, 0, 0, []))]
def rn_m52 : rn_Mt := (yX4_readSemicolon, cX4_readSemicolon, 1, none, false, 0, 0, 3, 63, rn_t52)
def rn_t53 : List (Nat × rn_E) := [(0, (.aload_n 0, 1, 0, 0, 0, 0, 0, [])),
  (1, (.aload_n 0, 2, 0, 0, 0, 0, 0, [])),
  (2, (.getfield 22, 5, 4, 4, 121, 1, 5, [])),
  (5, (.ifCond .ne 7, 8, 12, 0, 0, 0, 0, [])),
  (8, (.iload_n 1, 9, 1, 0, 0, 0, 0, [])),
  (9, (.ifCond .ne 7, 12, 16, 0, 0, 0, 0, [])),
  (12, (.iconst 1, 13, 0, 0, 0, 0, 0, [])),
  (13, (.goto 4, 16, 17, 0, 0, 0, 0, [])),
  (16, (.iconst 0, 17, 0, 0, 0, 0, 0, [])),
  (17, (.putfield 22, 20, 4, 4, 121, 1, 5, [])),
  (20, (.return_, 21, 0, 0, 0, 0, 0, []))]
def rn_m53 : rn_Mt := (yX4_refuseUnless, cX4_refuseUnless, 2, none, false, 0, 0, 0, 0, rn_t53)
def rn_t54 : List (Nat × rn_E) := [(0, (.aload_n 0, 1, 0, 0, 0, 0, 0, [])),
  (1, (.getfield 22, 4, 4, 4, 121, 1, 5, [])),
  (4, (.ifCond .eq 4, 7, 8, 0, 0, 0, 0, [])),
  (7, (.return_, 8, 0, 0, 0, 0, 0, [])),
  (8, (.aload_n 0, 9, 0, 0, 0, 0, 0, [])),
  (9, (.aload_n 0, 10, 0, 0, 0, 0, 0, [])),
  (10, (.getfield 18, 13, 4, 2, 119, 0, 5, [])),
  (13, (.putfield 61, 16, 4, 1, 118, 0, 5, [])),
  (16, (.aload_n 0, 17, 0, 0, 0, 0, 0, [])),
  (17, (.getfield 61, 20, 4, 1, 118, 0, 5, [])),
  (20, (.aload_n 0, 21, 0, 0, 0, 0, 0, [])),
  (21, (.getfield 12, 24, 4, 0, 116, 2, 5, [])),
  (24, (.getfield 26, 27, 7, 0, 107, 0, 8, [])),
  (27, (.if_icmp .ge 32, 30, 59, 0, 0, 0, 0, [])),
  (30, (.aload_n 0, 31, 0, 0, 0, 0, 0, [])),
  (31, (.getfield 12, 34, 4, 0, 116, 2, 5, [])),
  (34, (.aload_n 0, 35, 0, 0, 0, 0, 0, [])),
  (35, (.getfield 61, 38, 4, 1, 118, 0, 5, [])),
  (38, (.invokevirtual 98, 41, 85, 2, 427, 0, 8, [0])),
  (41, (.bipush 32, 43, 0, 0, 0, 0, 0, [])),
  (43, (.if_icmp .ne 16, 46, 59, 0, 0, 0, 0, [])),
  (46, (.aload_n 0, 47, 0, 0, 0, 0, 0, [])),
  (47, (.dup, 48, 0, 0, 0, 0, 0, [])),
  (48, (.getfield 61, 51, 4, 1, 118, 0, 5, [])),
  (51, (.iconst 1, 52, 0, 0, 0, 0, 0, [])),
  (52, (.iadd, 53, 0, 0, 0, 0, 0, [])),
  (53, (.putfield 61, 56, 4, 1, 118, 0, 5, [])),
  (56, (.goto (-40), 59, 16, 0, 0, 0, 0, [])),
  (59, (.aload_n 0, 60, 0, 0, 0, 0, 0, [])),
  (60, (.aload_n 0, 61, 0, 0, 0, 0, 0, [])),
  (61, (.getfield 12, 64, 4, 0, 116, 2, 5, [])),
  (64, (.aload_n 0, 65, 0, 0, 0, 0, 0, [])),
  (65, (.getfield 61, 68, 4, 1, 118, 0, 5, [])),
  (68, (.invokevirtual 98, 71, 85, 2, 427, 0, 8, [0])),
  (71, (.invokestatic 114, 74, 55, 1, 431, 0, 5, [0])),
  (74, (.putfield 32, 77, 4, 3, 120, 0, 5, [])),
  (77, (.aload_n 0, 78, 0, 0, 0, 0, 0, [])),
  (78, (.aload_n 0, 79, 0, 0, 0, 0, 0, [])),
  (79, (.getfield 61, 82, 4, 1, 118, 0, 5, [])),
  (82, (.iconst 1, 83, 0, 0, 0, 0, 0, [])),
  (83, (.iadd, 84, 0, 0, 0, 0, 0, [])),
  (84, (.aload_n 0, 85, 0, 0, 0, 0, 0, [])),
  (85, (.getfield 12, 88, 4, 0, 116, 2, 5, [])),
  (88, (.getfield 26, 91, 7, 0, 107, 0, 8, [])),
  (91, (.invokestatic 83, 94, 206, 2, 435, 6, 0, [0])),
  (94, (.putfield 18, 97, 4, 2, 119, 0, 5, [])),
  (97, (.aload_n 0, 98, 0, 0, 0, 0, 0, [])),
  (98, (.getfield 32, 101, 4, 3, 120, 0, 5, [])),
  (101, (.iconst 1, 102, 0, 0, 0, 0, 0, [])),
  (102, (.if_icmp .eq 11, 105, 113, 0, 0, 0, 0, [])),
  (105, (.aload_n 0, 106, 0, 0, 0, 0, 0, [])),
  (106, (.getfield 32, 109, 4, 3, 120, 0, 5, [])),
  (109, (.iconst 2, 110, 0, 0, 0, 0, 0, [])),
  (110, (.if_icmp .ne 51, 113, 161, 0, 0, 0, 0, [])),
  (113, (.aload_n 0, 114, 0, 0, 0, 0, 0, [])),
  (114, (.getfield 18, 117, 4, 2, 119, 0, 5, [])),
  (117, (.aload_n 0, 118, 0, 0, 0, 0, 0, [])),
  (118, (.getfield 12, 121, 4, 0, 116, 2, 5, [])),
  (121, (.getfield 26, 124, 7, 0, 107, 0, 8, [])),
  (124, (.if_icmp .ge 37, 127, 161, 0, 0, 0, 0, [])),
  (127, (.aload_n 0, 128, 0, 0, 0, 0, 0, [])),
  (128, (.getfield 12, 131, 4, 0, 116, 2, 5, [])),
  (131, (.aload_n 0, 132, 0, 0, 0, 0, 0, [])),
  (132, (.getfield 18, 135, 4, 2, 119, 0, 5, [])),
  (135, (.invokevirtual 98, 138, 85, 2, 427, 0, 8, [0])),
  (138, (.invokestatic 114, 141, 55, 1, 431, 0, 5, [0])),
  (141, (.aload_n 0, 142, 0, 0, 0, 0, 0, [])),
  (142, (.getfield 32, 145, 4, 3, 120, 0, 5, [])),
  (145, (.if_icmp .ne 16, 148, 161, 0, 0, 0, 0, [])),
  (148, (.aload_n 0, 149, 0, 0, 0, 0, 0, [])),
  (149, (.dup, 150, 0, 0, 0, 0, 0, [])),
  (150, (.getfield 18, 153, 4, 2, 119, 0, 5, [])),
  (153, (.iconst 1, 154, 0, 0, 0, 0, 0, [])),
  (154, (.iadd, 155, 0, 0, 0, 0, 0, [])),
  (155, (.putfield 18, 158, 4, 2, 119, 0, 5, [])),
  (158, (.goto (-45), 161, 113, 0, 0, 0, 0, [])),
  (161, (.return_, 162, 0, 0, 0, 0, 0, []))]
def rn_m54 : rn_Mt := (yX4_nextToken, cX4_nextToken, 1, none, false, 0, 0, 2, 43, rn_t54)
def rn_t55 : List (Nat × rn_E) := [(0, (.iload_n 0, 1, 0, 0, 0, 0, 0, [])),
  (1, (.ifCond .ne 5, 4, 6, 0, 0, 0, 0, [])),
  (4, (.iconst 0, 5, 0, 0, 0, 0, 0, [])),
  (5, (.ireturn, 6, 0, 0, 0, 0, 0, [])),
  (6, (.iload_n 0, 7, 0, 0, 0, 0, 0, [])),
  (7, (.bipush 97, 9, 0, 0, 0, 0, 0, [])),
  (9, (.bipush 122, 11, 0, 0, 0, 0, 0, [])),
  (11, (.invokestatic 110, 14, 118, 3, 7, 0, 10, [1])),
  (14, (.ifCond .eq 5, 17, 19, 0, 0, 0, 0, [])),
  (17, (.iconst 1, 18, 0, 0, 0, 0, 0, [])),
  (18, (.ireturn, 19, 0, 0, 0, 0, 0, [])),
  (19, (.iload_n 0, 20, 0, 0, 0, 0, 0, [])),
  (20, (.bipush 48, 22, 0, 0, 0, 0, 0, [])),
  (22, (.bipush 57, 24, 0, 0, 0, 0, 0, [])),
  (24, (.invokestatic 110, 27, 118, 3, 7, 0, 10, [1])),
  (27, (.ifCond .eq 7, 30, 34, 0, 0, 0, 0, [])),
  (30, (.iconst 2, 31, 0, 0, 0, 0, 0, [])),
  (31, (.goto 4, 34, 35, 0, 0, 0, 0, [])),
  (34, (.iconst 3, 35, 0, 0, 0, 0, 0, [])),
  (35, (.ireturn, 36, 0, 0, 0, 0, 0, []))]
def rn_m55 : rn_Mt := (yX4_kindOf, cX4_kindOf, 1, (some .int), false, 0, 0, 1, 22, rn_t55)
def rn_t56 : List (Nat × rn_E) := [(0, (.aload_n 0, 1, 0, 0, 0, 0, 0, [])),
  (1, (.getfield 18, 4, 4, 2, 119, 0, 5, [])),
  (4, (.aload_n 0, 5, 0, 0, 0, 0, 0, [])),
  (5, (.getfield 61, 8, 4, 1, 118, 0, 5, [])),
  (8, (.isub, 9, 0, 0, 0, 0, 0, [])),
  (9, (.aload_n 1, 10, 1, 0, 0, 0, 0, [])),
  (10, (.invokevirtual 117, 13, 207, 1, 443, 0, 22, [0])),
  (13, (.if_icmp .eq 5, 16, 18, 0, 0, 0, 0, [])),
  (16, (.iconst 0, 17, 0, 0, 0, 0, 0, [])),
  (17, (.ireturn, 18, 0, 0, 0, 1, 0, [])),
  (18, (.iconst 0, 19, 0, 0, 0, 0, 0, [])),
  (19, (.istore_n 2, 20, 2, 0, 0, 0, 0, [])),
  (20, (.iload_n 2, 21, 2, 0, 0, 0, 0, [])),
  (21, (.aload_n 1, 22, 1, 0, 0, 0, 0, [])),
  (22, (.invokevirtual 117, 25, 207, 1, 443, 0, 22, [0])),
  (25, (.if_icmp .ge 32, 28, 57, 0, 0, 0, 0, [])),
  (28, (.aload_n 0, 29, 0, 0, 0, 0, 0, [])),
  (29, (.getfield 12, 32, 4, 0, 116, 2, 5, [])),
  (32, (.aload_n 0, 33, 0, 0, 0, 0, 0, [])),
  (33, (.getfield 61, 36, 4, 1, 118, 0, 5, [])),
  (36, (.iload_n 2, 37, 2, 0, 0, 0, 0, [])),
  (37, (.iadd, 38, 0, 0, 0, 0, 0, [])),
  (38, (.invokevirtual 98, 41, 85, 2, 427, 0, 8, [0])),
  (41, (.aload_n 1, 42, 1, 0, 0, 0, 0, [])),
  (42, (.iload_n 2, 43, 2, 0, 0, 0, 0, [])),
  (43, (.invokevirtual 122, 46, 208, 2, 453, 0, 22, [0])),
  (46, (.if_icmp .eq 5, 49, 51, 0, 0, 0, 0, [])),
  (49, (.iconst 0, 50, 0, 0, 0, 0, 0, [])),
  (50, (.ireturn, 51, 0, 0, 0, 1, 0, [])),
  (51, (.iinc 2 1, 54, 2, 0, 0, 0, 0, [])),
  (54, (.goto (-34), 57, 20, 0, 0, 0, 0, [])),
  (57, (.iconst 1, 58, 0, 0, 0, 0, 0, [])),
  (58, (.ireturn, 59, 0, 0, 0, 1, 0, []))]
def rn_m56 : rn_Mt := (yX4_tokenIs, cX4_tokenIs, 3, (some .boolean), false, 0, 0, 4, 85, rn_t56)
def rn_t57 : List (Nat × rn_E) := [(0, (.aload_n 0, 1, 0, 0, 0, 0, 0, [])),
  (1, (.invokespecial 3, 4, 1000, 1, 156, 2, 0, [0])),
  (4, (.aload_n 0, 5, 0, 0, 0, 0, 0, [])),
  (5, (.bipush 12, 7, 0, 0, 0, 0, 0, [])),
  (7, (.newarray .int, 9, 0, 0, 0, 0, 0, [])),
  (9, (.putfield 9, 12, 5, 5, 176, 2, 6, [])),
  (12, (.aload_n 0, 13, 0, 0, 0, 0, 0, [])),
  (13, (.bipush 60, 15, 0, 0, 0, 0, 0, [])),
  (15, (.newarray .int, 17, 0, 0, 0, 0, 0, [])),
  (17, (.putfield 15, 20, 5, 6, 177, 2, 6, [])),
  (20, (.aload_n 0, 21, 0, 0, 0, 0, 0, [])),
  (21, (.bipush 61, 23, 0, 0, 0, 0, 0, [])),
  (23, (.newarray .int, 25, 0, 0, 0, 0, 0, [])),
  (25, (.putfield 18, 28, 5, 7, 178, 2, 6, [])),
  (28, (.aload_n 0, 29, 0, 0, 0, 0, 0, [])),
  (29, (.bipush 61, 31, 0, 0, 0, 0, 0, [])),
  (31, (.newarray .int, 33, 0, 0, 0, 0, 0, [])),
  (33, (.putfield 21, 36, 5, 8, 179, 2, 6, [])),
  (36, (.aload_n 0, 37, 0, 0, 0, 0, 0, [])),
  (37, (.iload_n 1, 38, 1, 0, 0, 0, 0, [])),
  (38, (.putfield 24, 41, 5, 0, 157, 0, 6, [])),
  (41, (.return_, 42, 0, 0, 0, 0, 0, []))]
def rn_m57 : rn_Mt := (yX5_init, cX5_init, 2, none, true, 4, 400, 1, 20, rn_t57)
def rn_t58 : List (Nat × rn_E) := [(0, (.aload_n 0, 1, 0, 0, 0, 0, 0, [])),
  (1, (.aload_n 1, 2, 1, 0, 0, 0, 0, [])),
  (2, (.getfield 28, 5, 5, 1, 161, 0, 6, [])),
  (5, (.putfield 28, 8, 5, 1, 161, 0, 6, [])),
  (8, (.aload_n 0, 9, 0, 0, 0, 0, 0, [])),
  (9, (.aload_n 1, 10, 1, 0, 0, 0, 0, [])),
  (10, (.getfield 31, 13, 5, 2, 165, 0, 6, [])),
  (13, (.putfield 31, 16, 5, 2, 165, 0, 6, [])),
  (16, (.aload_n 0, 17, 0, 0, 0, 0, 0, [])),
  (17, (.aload_n 1, 18, 1, 0, 0, 0, 0, [])),
  (18, (.getfield 34, 21, 5, 3, 170, 0, 6, [])),
  (21, (.putfield 34, 24, 5, 3, 170, 0, 6, [])),
  (24, (.aload_n 0, 25, 0, 0, 0, 0, 0, [])),
  (25, (.aload_n 1, 26, 1, 0, 0, 0, 0, [])),
  (26, (.getfield 37, 29, 5, 4, 173, 0, 6, [])),
  (29, (.putfield 37, 32, 5, 4, 173, 0, 6, [])),
  (32, (.aload_n 1, 33, 1, 0, 0, 0, 0, [])),
  (33, (.getfield 9, 36, 5, 5, 176, 2, 6, [])),
  (36, (.iconst 0, 37, 0, 0, 0, 0, 0, [])),
  (37, (.aload_n 0, 38, 0, 0, 0, 0, 0, [])),
  (38, (.getfield 9, 41, 5, 5, 176, 2, 6, [])),
  (41, (.iconst 0, 42, 0, 0, 0, 0, 0, [])),
  (42, (.bipush 12, 44, 0, 0, 0, 0, 0, [])),
  (44, (.invokestatic 40, 47, 1001, 5, 380, 3, 0, [0])),
  (47, (.aload_n 1, 48, 1, 0, 0, 0, 0, [])),
  (48, (.getfield 15, 51, 5, 6, 177, 2, 6, [])),
  (51, (.iconst 0, 52, 0, 0, 0, 0, 0, [])),
  (52, (.aload_n 0, 53, 0, 0, 0, 0, 0, [])),
  (53, (.getfield 15, 56, 5, 6, 177, 2, 6, [])),
  (56, (.iconst 0, 57, 0, 0, 0, 0, 0, [])),
  (57, (.bipush 60, 59, 0, 0, 0, 0, 0, [])),
  (59, (.invokestatic 40, 62, 1001, 5, 380, 3, 0, [0])),
  (62, (.aload_n 1, 63, 1, 0, 0, 0, 0, [])),
  (63, (.getfield 18, 66, 5, 7, 178, 2, 6, [])),
  (66, (.iconst 0, 67, 0, 0, 0, 0, 0, [])),
  (67, (.aload_n 0, 68, 0, 0, 0, 0, 0, [])),
  (68, (.getfield 18, 71, 5, 7, 178, 2, 6, [])),
  (71, (.iconst 0, 72, 0, 0, 0, 0, 0, [])),
  (72, (.bipush 61, 74, 0, 0, 0, 0, 0, [])),
  (74, (.invokestatic 40, 77, 1001, 5, 380, 3, 0, [0])),
  (77, (.aload_n 1, 78, 1, 0, 0, 0, 0, [])),
  (78, (.getfield 21, 81, 5, 8, 179, 2, 6, [])),
  (81, (.iconst 0, 82, 0, 0, 0, 0, 0, [])),
  (82, (.aload_n 0, 83, 0, 0, 0, 0, 0, [])),
  (83, (.getfield 21, 86, 5, 8, 179, 2, 6, [])),
  (86, (.iconst 0, 87, 0, 0, 0, 0, 0, [])),
  (87, (.bipush 61, 89, 0, 0, 0, 0, 0, [])),
  (89, (.invokestatic 40, 92, 1001, 5, 380, 3, 0, [0])),
  (92, (.return_, 93, 0, 0, 0, 0, 0, []))]
def rn_m58 : rn_Mt := (yX5_copyFrom, cX5_copyFrom, 2, none, false, 0, 0, 1, 38, rn_t58)
def rn_t59 : List (Nat × rn_E) := [(0, (.aload_n 0, 1, 0, 0, 0, 0, 0, [])),
  (1, (.iconst 0, 2, 0, 0, 0, 0, 0, [])),
  (2, (.putfield 34, 5, 5, 3, 170, 0, 6, [])),
  (5, (.aload_n 0, 6, 0, 0, 0, 0, 0, [])),
  (6, (.iconst 0, 7, 0, 0, 0, 0, 0, [])),
  (7, (.putfield 37, 10, 5, 4, 173, 0, 6, [])),
  (10, (.return_, 11, 0, 0, 0, 0, 0, []))]
def rn_m59 : rn_Mt := (yX5_forget, cX5_forget, 1, none, false, 0, 0, 0, 0, rn_t59)
def rn_t60 : List (Nat × rn_E) := [(0, (.aload_n 0, 1, 0, 0, 0, 0, 0, [])),
  (1, (.getfield 34, 4, 5, 3, 170, 0, 6, [])),
  (4, (.iconst 0, 5, 0, 0, 0, 0, 0, [])),
  (5, (.bipush 11, 7, 0, 0, 0, 0, 0, [])),
  (7, (.invokestatic 46, 10, 118, 3, 8, 0, 10, [1])),
  (10, (.ifCond .eq 23, 13, 33, 0, 0, 0, 0, [])),
  (13, (.aload_n 0, 14, 0, 0, 0, 0, 0, [])),
  (14, (.getfield 9, 17, 5, 5, 176, 2, 6, [])),
  (17, (.aload_n 0, 18, 0, 0, 0, 0, 0, [])),
  (18, (.getfield 34, 21, 5, 3, 170, 0, 6, [])),
  (21, (.iload_n 1, 22, 1, 0, 0, 0, 0, [])),
  (22, (.iastore, 23, 0, 0, 0, 0, 0, [])),
  (23, (.aload_n 0, 24, 0, 0, 0, 0, 0, [])),
  (24, (.dup, 25, 0, 0, 0, 0, 0, [])),
  (25, (.getfield 34, 28, 5, 3, 170, 0, 6, [])),
  (28, (.iconst 1, 29, 0, 0, 0, 0, 0, [])),
  (29, (.iadd, 30, 0, 0, 0, 0, 0, [])),
  (30, (.putfield 34, 33, 5, 3, 170, 0, 6, [])),
  (33, (.return_, 34, 0, 0, 0, 0, 0, []))]
def rn_m60 : rn_Mt := (yX5_addLetter, cX5_addLetter, 2, none, false, 0, 0, 1, 22, rn_t60)
def rn_t61 : List (Nat × rn_E) := [(0, (.aload_n 0, 1, 0, 0, 0, 0, 0, [])),
  (1, (.getfield 18, 4, 5, 7, 178, 2, 6, [])),
  (4, (.iconst 0, 5, 0, 0, 0, 0, 0, [])),
  (5, (.iload_n 1, 6, 1, 0, 0, 0, 0, [])),
  (6, (.iastore, 7, 0, 0, 0, 0, 0, [])),
  (7, (.aload_n 0, 8, 0, 0, 0, 0, 0, [])),
  (8, (.getfield 21, 11, 5, 8, 179, 2, 6, [])),
  (11, (.iconst 0, 12, 0, 0, 0, 0, 0, [])),
  (12, (.iload_n 2, 13, 2, 0, 0, 0, 0, [])),
  (13, (.iastore, 14, 0, 0, 0, 0, 0, [])),
  (14, (.aload_n 0, 15, 0, 0, 0, 0, 0, [])),
  (15, (.iload_n 3, 16, 3, 0, 0, 0, 0, [])),
  (16, (.putfield 28, 19, 5, 1, 161, 0, 6, [])),
  (19, (.aload_n 0, 20, 0, 0, 0, 0, 0, [])),
  (20, (.iload 4, 22, 4, 0, 0, 0, 0, [])),
  (22, (.putfield 31, 25, 5, 2, 165, 0, 6, [])),
  (25, (.return_, 26, 0, 0, 0, 0, 0, []))]
def rn_m61 : rn_Mt := (yX5_begin, cX5_begin, 5, none, false, 0, 0, 0, 0, rn_t61)
def rn_t62 : List (Nat × rn_E) := [(0, (.iload_n 1, 1, 1, 0, 0, 0, 0, [])),
  (1, (.iconst 0, 2, 0, 0, 0, 0, 0, [])),
  (2, (.bipush 7, 4, 0, 0, 0, 0, 0, [])),
  (4, (.invokestatic 46, 7, 118, 3, 8, 0, 10, [1])),
  (7, (.ifCond .eq 37, 10, 44, 0, 0, 0, 0, [])),
  (10, (.aload_n 0, 11, 0, 0, 0, 0, 0, [])),
  (11, (.aload_n 0, 12, 0, 0, 0, 0, 0, [])),
  (12, (.getfield 37, 15, 5, 4, 173, 0, 6, [])),
  (15, (.invokevirtual 50, 18, 65, 2, 529, 0, 6, [0])),
  (18, (.getstatic 54, 21, 1, 1, 9, 0, 0, [])),
  (21, (.iload_n 1, 22, 1, 0, 0, 0, 0, [])),
  (22, (.iaload, 23, 0, 0, 0, 0, 0, [])),
  (23, (.iadd, 24, 0, 0, 0, 0, 0, [])),
  (24, (.aload_n 0, 25, 0, 0, 0, 0, 0, [])),
  (25, (.aload_n 0, 26, 0, 0, 0, 0, 0, [])),
  (26, (.getfield 37, 29, 5, 4, 173, 0, 6, [])),
  (29, (.invokevirtual 57, 32, 66, 2, 539, 0, 6, [0])),
  (32, (.getstatic 60, 35, 2, 1, 10, 0, 0, [])),
  (35, (.iload_n 1, 36, 1, 0, 0, 0, 0, [])),
  (36, (.iaload, 37, 0, 0, 0, 0, 0, [])),
  (37, (.iadd, 38, 0, 0, 0, 0, 0, [])),
  (38, (.invokestatic 63, 41, 119, 2, 11, 0, 10, [1])),
  (41, (.ifCond .ne 7, 44, 48, 0, 0, 0, 0, [])),
  (44, (.iconst 1, 45, 0, 0, 0, 0, 0, [])),
  (45, (.goto 4, 48, 49, 0, 0, 0, 0, [])),
  (48, (.iconst 0, 49, 0, 0, 0, 0, 0, [])),
  (49, (.ireturn, 50, 0, 0, 0, 1, 0, []))]
def rn_m62 : rn_Mt := (yX5_leavesMap, cX5_leavesMap, 2, (some .boolean), false, 0, 0, 2, 42, rn_t62)
def rn_t63 : List (Nat × rn_E) := [(0, (.aload_n 0, 1, 0, 0, 0, 0, 0, [])),
  (1, (.getfield 37, 4, 5, 4, 173, 0, 6, [])),
  (4, (.iconst 0, 5, 0, 0, 0, 0, 0, [])),
  (5, (.bipush 59, 7, 0, 0, 0, 0, 0, [])),
  (7, (.invokestatic 46, 10, 118, 3, 8, 0, 10, [1])),
  (10, (.ifCond .eq 11, 13, 21, 0, 0, 0, 0, [])),
  (13, (.aload_n 0, 14, 0, 0, 0, 0, 0, [])),
  (14, (.iload_n 1, 15, 1, 0, 0, 0, 0, [])),
  (15, (.invokevirtual 67, 18, 62, 2, 525, 0, 6, [0])),
  (18, (.ifCond .eq 5, 21, 23, 0, 0, 0, 0, [])),
  (21, (.iconst 0, 22, 0, 0, 0, 0, 0, [])),
  (22, (.ireturn, 23, 0, 0, 0, 1, 0, [])),
  (23, (.aload_n 0, 24, 0, 0, 0, 0, 0, [])),
  (24, (.getfield 18, 27, 5, 7, 178, 2, 6, [])),
  (27, (.aload_n 0, 28, 0, 0, 0, 0, 0, [])),
  (28, (.getfield 37, 31, 5, 4, 173, 0, 6, [])),
  (31, (.iconst 1, 32, 0, 0, 0, 0, 0, [])),
  (32, (.iadd, 33, 0, 0, 0, 0, 0, [])),
  (33, (.aload_n 0, 34, 0, 0, 0, 0, 0, [])),
  (34, (.getfield 18, 37, 5, 7, 178, 2, 6, [])),
  (37, (.aload_n 0, 38, 0, 0, 0, 0, 0, [])),
  (38, (.getfield 37, 41, 5, 4, 173, 0, 6, [])),
  (41, (.iaload, 42, 0, 0, 0, 0, 0, [])),
  (42, (.getstatic 54, 45, 1, 1, 9, 0, 0, [])),
  (45, (.iload_n 1, 46, 1, 0, 0, 0, 0, [])),
  (46, (.iaload, 47, 0, 0, 0, 0, 0, [])),
  (47, (.iadd, 48, 0, 0, 0, 0, 0, [])),
  (48, (.iastore, 49, 0, 0, 0, 0, 0, [])),
  (49, (.aload_n 0, 50, 0, 0, 0, 0, 0, [])),
  (50, (.getfield 21, 53, 5, 8, 179, 2, 6, [])),
  (53, (.aload_n 0, 54, 0, 0, 0, 0, 0, [])),
  (54, (.getfield 37, 57, 5, 4, 173, 0, 6, [])),
  (57, (.iconst 1, 58, 0, 0, 0, 0, 0, [])),
  (58, (.iadd, 59, 0, 0, 0, 0, 0, [])),
  (59, (.aload_n 0, 60, 0, 0, 0, 0, 0, [])),
  (60, (.getfield 21, 63, 5, 8, 179, 2, 6, [])),
  (63, (.aload_n 0, 64, 0, 0, 0, 0, 0, [])),
  (64, (.getfield 37, 67, 5, 4, 173, 0, 6, [])),
  (67, (.iaload, 68, 0, 0, 0, 0, 0, [])),
  (68, (.getstatic 60, 71, 2, 1, 10, 0, 0, [])),
  (71, (.iload_n 1, 72, 1, 0, 0, 0, 0, [])),
  (72, (.iaload, 73, 0, 0, 0, 0, 0, [])),
  (73, (.iadd, 74, 0, 0, 0, 0, 0, [])),
  (74, (.iastore, 75, 0, 0, 0, 0, 0, [])),
  (75, (.aload_n 0, 76, 0, 0, 0, 0, 0, [])),
  (76, (.getfield 15, 79, 5, 6, 177, 2, 6, [])),
  (79, (.aload_n 0, 80, 0, 0, 0, 0, 0, [])),
  (80, (.getfield 37, 83, 5, 4, 173, 0, 6, [])),
  (83, (.iload_n 1, 84, 1, 0, 0, 0, 0, [])),
  (84, (.iastore, 85, 0, 0, 0, 0, 0, [])),
  (85, (.aload_n 0, 86, 0, 0, 0, 0, 0, [])),
  (86, (.dup, 87, 0, 0, 0, 0, 0, [])),
  (87, (.getfield 37, 90, 5, 4, 173, 0, 6, [])),
  (90, (.iconst 1, 91, 0, 0, 0, 0, 0, [])),
  (91, (.iadd, 92, 0, 0, 0, 0, 0, [])),
  (92, (.putfield 37, 95, 5, 4, 173, 0, 6, [])),
  (95, (.iconst 1, 96, 0, 0, 0, 0, 0, [])),
  (96, (.ireturn, 97, 0, 0, 0, 1, 0, []))]
def rn_m63 : rn_Mt := (yX5_lengthen, cX5_lengthen, 2, (some .boolean), false, 0, 0, 3, 63, rn_t63)
def rn_t64 : List (Nat × rn_E) := [(0, (.iload_n 1, 1, 1, 0, 0, 0, 0, [])),
  (1, (.ifCond .lt 15, 4, 16, 0, 0, 0, 0, [])),
  (4, (.iload_n 1, 5, 1, 0, 0, 0, 0, [])),
  (5, (.aload_n 0, 6, 0, 0, 0, 0, 0, [])),
  (6, (.getfield 37, 9, 5, 4, 173, 0, 6, [])),
  (9, (.if_icmp .gt 7, 12, 16, 0, 0, 0, 0, [])),
  (12, (.iconst 1, 13, 0, 0, 0, 0, 0, [])),
  (13, (.goto 4, 16, 17, 0, 0, 0, 0, [])),
  (16, (.iconst 0, 17, 0, 0, 0, 0, 0, [])),
  (17, (.ireturn, 18, 0, 0, 0, 1, 0, []))]
def rn_m64 : rn_Mt := (yX5_hasPlace, cX5_hasPlace, 2, (some .boolean), false, 0, 0, 0, 0, rn_t64)
def rn_t65 : List (Nat × rn_E) := [(0, (.aload_n 0, 1, 0, 0, 0, 0, 0, [])),
  (1, (.iload_n 1, 2, 1, 0, 0, 0, 0, [])),
  (2, (.invokevirtual 71, 5, 64, 2, 533, 0, 6, [0])),
  (5, (.ifCond .eq 12, 8, 17, 0, 0, 0, 0, [])),
  (8, (.aload_n 0, 9, 0, 0, 0, 0, 0, [])),
  (9, (.getfield 18, 12, 5, 7, 178, 2, 6, [])),
  (12, (.iload_n 1, 13, 1, 0, 0, 0, 0, [])),
  (13, (.iaload, 14, 0, 0, 0, 0, 0, [])),
  (14, (.goto 5, 17, 19, 0, 0, 0, 0, [])),
  (17, (.bipush (-9), 19, 0, 0, 0, 0, 0, [])),
  (19, (.ireturn, 20, 0, 0, 0, 0, 0, []))]
def rn_m65 : rn_Mt := (yX5_columnAt, cX5_columnAt, 2, (some .int), false, 0, 0, 1, 21, rn_t65)
def rn_t66 : List (Nat × rn_E) := [(0, (.aload_n 0, 1, 0, 0, 0, 0, 0, [])),
  (1, (.iload_n 1, 2, 1, 0, 0, 0, 0, [])),
  (2, (.invokevirtual 71, 5, 64, 2, 533, 0, 6, [0])),
  (5, (.ifCond .eq 12, 8, 17, 0, 0, 0, 0, [])),
  (8, (.aload_n 0, 9, 0, 0, 0, 0, 0, [])),
  (9, (.getfield 21, 12, 5, 8, 179, 2, 6, [])),
  (12, (.iload_n 1, 13, 1, 0, 0, 0, 0, [])),
  (13, (.iaload, 14, 0, 0, 0, 0, 0, [])),
  (14, (.goto 5, 17, 19, 0, 0, 0, 0, [])),
  (17, (.bipush (-9), 19, 0, 0, 0, 0, 0, [])),
  (19, (.ireturn, 20, 0, 0, 0, 0, 0, []))]
def rn_m66 : rn_Mt := (yX5_rowAt, cX5_rowAt, 2, (some .int), false, 0, 0, 1, 21, rn_t66)
def rn_t67 : List (Nat × rn_E) := [(0, (.iload_n 1, 1, 1, 0, 0, 0, 0, [])),
  (1, (.iconst 0, 2, 0, 0, 0, 0, 0, [])),
  (2, (.aload_n 0, 3, 0, 0, 0, 0, 0, [])),
  (3, (.getfield 34, 6, 5, 3, 170, 0, 6, [])),
  (6, (.iconst 1, 7, 0, 0, 0, 0, 0, [])),
  (7, (.isub, 8, 0, 0, 0, 0, 0, [])),
  (8, (.invokestatic 46, 11, 118, 3, 8, 0, 10, [1])),
  (11, (.ifCond .eq 12, 14, 23, 0, 0, 0, 0, [])),
  (14, (.aload_n 0, 15, 0, 0, 0, 0, 0, [])),
  (15, (.getfield 9, 18, 5, 5, 176, 2, 6, [])),
  (18, (.iload_n 1, 19, 1, 0, 0, 0, 0, [])),
  (19, (.iaload, 20, 0, 0, 0, 0, 0, [])),
  (20, (.goto 5, 23, 25, 0, 0, 0, 0, [])),
  (23, (.bipush (-9), 25, 0, 0, 0, 0, 0, [])),
  (25, (.ireturn, 26, 0, 0, 0, 0, 0, []))]
def rn_m67 : rn_Mt := (yX5_letterAt, cX5_letterAt, 2, (some .int), false, 0, 0, 1, 22, rn_t67)
def rn_t68 : List (Nat × rn_E) := [(0, (.aload_n 0, 1, 0, 0, 0, 0, 0, [])),
  (1, (.getfield 37, 4, 5, 4, 173, 0, 6, [])),
  (4, (.iconst 1, 5, 0, 0, 0, 0, 0, [])),
  (5, (.iadd, 6, 0, 0, 0, 0, 0, [])),
  (6, (.iload_n 1, 7, 1, 0, 0, 0, 0, [])),
  (7, (.isub, 8, 0, 0, 0, 0, 0, [])),
  (8, (.ireturn, 9, 0, 0, 0, 0, 0, []))]
def rn_m68 : rn_Mt := (yX5_lastStart, cX5_lastStart, 2, (some .int), false, 0, 0, 0, 0, rn_t68)
def rn_t69 : List (Nat × rn_E) := [(0, (.iload_n 1, 1, 1, 0, 0, 0, 0, [])),
  (1, (.ifCond .lt 13, 4, 14, 0, 0, 0, 0, [])),
  (4, (.iload_n 1, 5, 1, 0, 0, 0, 0, [])),
  (5, (.aload_n 0, 6, 0, 0, 0, 0, 0, [])),
  (6, (.getfield 37, 9, 5, 4, 173, 0, 6, [])),
  (9, (.iconst 1, 10, 0, 0, 0, 0, 0, [])),
  (10, (.isub, 11, 0, 0, 0, 0, 0, [])),
  (11, (.if_icmp .lt 5, 14, 16, 0, 0, 0, 0, [])),
  (14, (.iconst 0, 15, 0, 0, 0, 0, 0, [])),
  (15, (.ireturn, 16, 0, 0, 0, 0, 0, [])),
  (16, (.aload_n 0, 17, 0, 0, 0, 0, 0, [])),
  (17, (.getfield 15, 20, 5, 6, 177, 2, 6, [])),
  (20, (.iload_n 1, 21, 1, 0, 0, 0, 0, [])),
  (21, (.iaload, 22, 0, 0, 0, 0, 0, [])),
  (22, (.aload_n 0, 23, 0, 0, 0, 0, 0, [])),
  (23, (.getfield 15, 26, 5, 6, 177, 2, 6, [])),
  (26, (.iload_n 1, 27, 1, 0, 0, 0, 0, [])),
  (27, (.iconst 1, 28, 0, 0, 0, 0, 0, [])),
  (28, (.iadd, 29, 0, 0, 0, 0, 0, [])),
  (29, (.iaload, 30, 0, 0, 0, 0, 0, [])),
  (30, (.isub, 31, 0, 0, 0, 0, 0, [])),
  (31, (.invokestatic 74, 34, 204, 1, 660, 7, 0, [0])),
  (34, (.istore_n 2, 35, 2, 0, 0, 0, 0, [])),
  (35, (.iload_n 2, 36, 2, 0, 0, 0, 0, [])),
  (36, (.bipush 8, 38, 0, 0, 0, 0, 0, [])),
  (38, (.iload_n 2, 39, 2, 0, 0, 0, 0, [])),
  (39, (.isub, 40, 0, 0, 0, 0, 0, [])),
  (40, (.invokestatic 79, 43, 206, 2, 706, 6, 0, [0])),
  (43, (.ireturn, 44, 0, 0, 0, 0, 0, []))]
def rn_m69 : rn_Mt := (yX5_turnBehind, cX5_turnBehind, 3, (some .int), false, 0, 0, 1, 21, rn_t69)
def rn_t70 : List (Nat × rn_E) := [(0, (.iconst 0, 1, 0, 0, 0, 0, 0, [])),
  (1, (.istore_n 3, 2, 3, 0, 0, 0, 0, [])),
  (2, (.iload_n 1, 3, 1, 0, 0, 0, 0, [])),
  (3, (.istore 4, 5, 4, 0, 0, 0, 0, [])),
  (5, (.iload 4, 7, 4, 0, 0, 0, 0, [])),
  (7, (.iload_n 1, 8, 1, 0, 0, 0, 0, [])),
  (8, (.iload_n 2, 9, 2, 0, 0, 0, 0, [])),
  (9, (.iadd, 10, 0, 0, 0, 0, 0, [])),
  (10, (.iconst 2, 11, 0, 0, 0, 0, 0, [])),
  (11, (.isub, 12, 0, 0, 0, 0, 0, [])),
  (12, (.if_icmp .ge 18, 15, 30, 0, 0, 0, 0, [])),
  (15, (.iload_n 3, 16, 3, 0, 0, 0, 0, [])),
  (16, (.aload_n 0, 17, 0, 0, 0, 0, 0, [])),
  (17, (.iload 4, 19, 4, 0, 0, 0, 0, [])),
  (19, (.invokevirtual 83, 22, 69, 2, 702, 0, 6, [0])),
  (22, (.iadd, 23, 0, 0, 0, 0, 0, [])),
  (23, (.istore_n 3, 24, 3, 0, 0, 0, 0, [])),
  (24, (.iinc 4 1, 27, 4, 0, 0, 0, 0, [])),
  (27, (.goto (-22), 30, 5, 0, 0, 0, 0, [])),
  (30, (.iload_n 3, 31, 3, 0, 0, 0, 0, [])),
  (31, (.ireturn, 32, 0, 0, 0, 0, 0, []))]
def rn_m70 : rn_Mt := (yX5_bendOf, cX5_bendOf, 5, (some .int), false, 0, 0, 2, 43, rn_t70)
def rn_t71 : List (Nat × rn_E) := [(0, (.bipush (-9), 2, 0, 0, 0, 0, 0, [])),
  (2, (.istore_n 2, 3, 2, 0, 0, 0, 0, [])),
  (3, (.iconst 0, 4, 0, 0, 0, 0, 0, [])),
  (4, (.istore_n 3, 5, 3, 0, 0, 0, 0, [])),
  (5, (.iconst 0, 6, 0, 0, 0, 0, 0, [])),
  (6, (.istore 4, 8, 4, 0, 0, 0, 0, [])),
  (8, (.iload 4, 10, 4, 0, 0, 0, 0, [])),
  (10, (.aload_n 0, 11, 0, 0, 0, 0, 0, [])),
  (11, (.iload_n 1, 12, 1, 0, 0, 0, 0, [])),
  (12, (.invokevirtual 86, 15, 68, 2, 873, 0, 6, [0])),
  (15, (.if_icmp .gt 36, 18, 51, 0, 0, 0, 0, [])),
  (18, (.aload_n 0, 19, 0, 0, 0, 0, 0, [])),
  (19, (.iload 4, 21, 4, 0, 0, 0, 0, [])),
  (21, (.iload_n 1, 22, 1, 0, 0, 0, 0, [])),
  (22, (.invokevirtual 89, 25, 70, 3, 698, 0, 6, [0])),
  (25, (.istore 5, 27, 5, 0, 0, 0, 0, [])),
  (27, (.iload_n 2, 28, 2, 0, 0, 0, 0, [])),
  (28, (.bipush (-9), 30, 0, 0, 0, 0, 0, [])),
  (30, (.if_icmp .eq 9, 33, 39, 0, 0, 0, 0, [])),
  (33, (.iload 5, 35, 5, 0, 0, 0, 0, [])),
  (35, (.iload_n 3, 36, 3, 0, 0, 0, 0, [])),
  (36, (.if_icmp .ge 9, 39, 45, 0, 0, 0, 0, [])),
  (39, (.iload 4, 41, 4, 0, 0, 0, 0, [])),
  (41, (.istore_n 2, 42, 2, 0, 0, 0, 0, [])),
  (42, (.iload 5, 44, 5, 0, 0, 0, 0, [])),
  (44, (.istore_n 3, 45, 3, 0, 0, 0, 0, [])),
  (45, (.iinc 4 1, 48, 4, 0, 0, 0, 0, [])),
  (48, (.goto (-40), 51, 8, 0, 0, 0, 0, [])),
  (51, (.iload_n 2, 52, 2, 0, 0, 0, 0, [])),
  (52, (.ireturn, 53, 0, 0, 0, 0, 0, []))]
def rn_m71 : rn_Mt := (yX5_straightestStart, cX5_straightestStart, 6, (some .int), false, 0, 0, 3, 67, rn_t71)
def rn_t72 : List (Nat × rn_E) := [(0, (.bipush 10, 2, 0, 0, 0, 0, 0, [])),
  (2, (.aload_n 0, 3, 0, 0, 0, 0, 0, [])),
  (3, (.iload_n 1, 4, 1, 0, 0, 0, 0, [])),
  (4, (.aload_n 0, 5, 0, 0, 0, 0, 0, [])),
  (5, (.getfield 34, 8, 5, 3, 170, 0, 6, [])),
  (8, (.invokevirtual 89, 11, 70, 3, 698, 0, 6, [0])),
  (11, (.imul, 12, 0, 0, 0, 0, 0, [])),
  (12, (.iconst 2, 13, 0, 0, 0, 0, 0, [])),
  (13, (.iload_n 1, 14, 1, 0, 0, 0, 0, [])),
  (14, (.imul, 15, 0, 0, 0, 0, 0, [])),
  (15, (.aload_n 0, 16, 0, 0, 0, 0, 0, [])),
  (16, (.getfield 34, 19, 5, 3, 170, 0, 6, [])),
  (19, (.iadd, 20, 0, 0, 0, 0, 0, [])),
  (20, (.iconst 1, 21, 0, 0, 0, 0, 0, [])),
  (21, (.isub, 22, 0, 0, 0, 0, 0, [])),
  (22, (.aload_n 0, 23, 0, 0, 0, 0, 0, [])),
  (23, (.getfield 37, 26, 5, 4, 173, 0, 6, [])),
  (26, (.isub, 27, 0, 0, 0, 0, 0, [])),
  (27, (.invokestatic 74, 30, 204, 1, 660, 7, 0, [0])),
  (30, (.iadd, 31, 0, 0, 0, 0, 0, [])),
  (31, (.ireturn, 32, 0, 0, 0, 0, 0, []))]
def rn_m72 : rn_Mt := (yX5_costOf, cX5_costOf, 2, (some .int), false, 0, 0, 3, 67, rn_t72)
def rn_t73 : List (Nat × rn_E) := [(0, (.iload_n 1, 1, 1, 0, 0, 0, 0, [])),
  (1, (.aload_n 0, 2, 0, 0, 0, 0, 0, [])),
  (2, (.getfield 34, 5, 5, 3, 170, 0, 6, [])),
  (5, (.iadd, 6, 0, 0, 0, 0, 0, [])),
  (6, (.iconst 1, 7, 0, 0, 0, 0, 0, [])),
  (7, (.isub, 8, 0, 0, 0, 0, 0, [])),
  (8, (.istore_n 2, 9, 2, 0, 0, 0, 0, [])),
  (9, (.aload_n 0, 10, 0, 0, 0, 0, 0, [])),
  (10, (.iload_n 2, 11, 2, 0, 0, 0, 0, [])),
  (11, (.invokevirtual 50, 14, 65, 2, 529, 0, 6, [0])),
  (14, (.aload_n 0, 15, 0, 0, 0, 0, 0, [])),
  (15, (.iload_n 1, 16, 1, 0, 0, 0, 0, [])),
  (16, (.invokevirtual 50, 19, 65, 2, 529, 0, 6, [0])),
  (19, (.isub, 20, 0, 0, 0, 0, 0, [])),
  (20, (.istore_n 3, 21, 3, 0, 0, 0, 0, [])),
  (21, (.iload_n 3, 22, 3, 0, 0, 0, 0, [])),
  (22, (.ifCond .lt 20, 25, 42, 0, 0, 0, 0, [])),
  (25, (.iload_n 3, 26, 3, 0, 0, 0, 0, [])),
  (26, (.ifCond .ne 20, 29, 46, 0, 0, 0, 0, [])),
  (29, (.aload_n 0, 30, 0, 0, 0, 0, 0, [])),
  (30, (.iload_n 2, 31, 2, 0, 0, 0, 0, [])),
  (31, (.invokevirtual 57, 34, 66, 2, 539, 0, 6, [0])),
  (34, (.aload_n 0, 35, 0, 0, 0, 0, 0, [])),
  (35, (.iload_n 1, 36, 1, 0, 0, 0, 0, [])),
  (36, (.invokevirtual 57, 39, 66, 2, 539, 0, 6, [0])),
  (39, (.if_icmp .ge 7, 42, 46, 0, 0, 0, 0, [])),
  (42, (.iconst 1, 43, 0, 0, 0, 0, 0, [])),
  (43, (.goto 4, 46, 47, 0, 0, 0, 0, [])),
  (46, (.iconst 0, 47, 0, 0, 0, 0, 0, [])),
  (47, (.ireturn, 48, 0, 0, 0, 1, 0, []))]
def rn_m73 : rn_Mt := (yX5_turnsNameAt, cX5_turnsNameAt, 4, (some .boolean), false, 0, 0, 2, 42, rn_t73)
def rn_t74 : List (Nat × rn_E) := [(0, (.iload_n 1, 1, 1, 0, 0, 0, 0, [])),
  (1, (.ifCond .lt 47, 4, 48, 0, 0, 0, 0, [])),
  (4, (.iload_n 1, 5, 1, 0, 0, 0, 0, [])),
  (5, (.aload_n 0, 6, 0, 0, 0, 0, 0, [])),
  (6, (.getfield 37, 9, 5, 4, 173, 0, 6, [])),
  (9, (.if_icmp .gt 39, 12, 48, 0, 0, 0, 0, [])),
  (12, (.aload_n 0, 13, 0, 0, 0, 0, 0, [])),
  (13, (.getfield 18, 16, 5, 7, 178, 2, 6, [])),
  (16, (.iload_n 1, 17, 1, 0, 0, 0, 0, [])),
  (17, (.iaload, 18, 0, 0, 0, 0, 0, [])),
  (18, (.iload_n 2, 19, 2, 0, 0, 0, 0, [])),
  (19, (.isub, 20, 0, 0, 0, 0, 0, [])),
  (20, (.invokestatic 74, 23, 204, 1, 660, 7, 0, [0])),
  (23, (.iload 4, 25, 4, 0, 0, 0, 0, [])),
  (25, (.if_icmp .gt 23, 28, 48, 0, 0, 0, 0, [])),
  (28, (.aload_n 0, 29, 0, 0, 0, 0, 0, [])),
  (29, (.getfield 21, 32, 5, 8, 179, 2, 6, [])),
  (32, (.iload_n 1, 33, 1, 0, 0, 0, 0, [])),
  (33, (.iaload, 34, 0, 0, 0, 0, 0, [])),
  (34, (.iload_n 3, 35, 3, 0, 0, 0, 0, [])),
  (35, (.isub, 36, 0, 0, 0, 0, 0, [])),
  (36, (.invokestatic 74, 39, 204, 1, 660, 7, 0, [0])),
  (39, (.iload 4, 41, 4, 0, 0, 0, 0, [])),
  (41, (.if_icmp .gt 7, 44, 48, 0, 0, 0, 0, [])),
  (44, (.iconst 1, 45, 0, 0, 0, 0, 0, [])),
  (45, (.goto 4, 48, 49, 0, 0, 0, 0, [])),
  (48, (.iconst 0, 49, 0, 0, 0, 0, 0, [])),
  (49, (.ireturn, 50, 0, 0, 0, 1, 0, []))]
def rn_m74 : rn_Mt := (yX5_isNear, cX5_isNear, 5, (some .boolean), false, 0, 0, 1, 21, rn_t74)
def rn_t75 : List (Nat × rn_E) := [(0, (.iload_n 1, 1, 1, 0, 0, 0, 0, [])),
  (1, (.istore 5, 3, 5, 0, 0, 0, 0, [])),
  (3, (.iload 5, 5, 5, 0, 0, 0, 0, [])),
  (5, (.iload_n 1, 6, 1, 0, 0, 0, 0, [])),
  (6, (.aload_n 0, 7, 0, 0, 0, 0, 0, [])),
  (7, (.getfield 34, 10, 5, 3, 170, 0, 6, [])),
  (10, (.iadd, 11, 0, 0, 0, 0, 0, [])),
  (11, (.if_icmp .ge 24, 14, 35, 0, 0, 0, 0, [])),
  (14, (.aload_n 0, 15, 0, 0, 0, 0, 0, [])),
  (15, (.iload 5, 17, 5, 0, 0, 0, 0, [])),
  (17, (.iload_n 2, 18, 2, 0, 0, 0, 0, [])),
  (18, (.iload_n 3, 19, 3, 0, 0, 0, 0, [])),
  (19, (.iload 4, 21, 4, 0, 0, 0, 0, [])),
  (21, (.invokevirtual 92, 24, 74, 5, 656, 0, 6, [0])),
  (24, (.ifCond .eq 5, 27, 29, 0, 0, 0, 0, [])),
  (27, (.iconst 1, 28, 0, 0, 0, 0, 0, [])),
  (28, (.ireturn, 29, 0, 0, 0, 1, 0, [])),
  (29, (.iinc 5 1, 32, 5, 0, 0, 0, 0, [])),
  (32, (.goto (-29), 35, 3, 0, 0, 0, 0, [])),
  (35, (.iconst 0, 36, 0, 0, 0, 0, 0, [])),
  (36, (.ireturn, 37, 0, 0, 0, 1, 0, []))]
def rn_m75 : rn_Mt := (yX5_hasLetterNear, cX5_hasLetterNear, 6, (some .boolean), false, 0, 0, 2, 45, rn_t75)
def rn_t76 : List (Nat × rn_E) := [(0, (.iload_n 1, 1, 1, 0, 0, 0, 0, [])),
  (1, (.istore 4, 3, 4, 0, 0, 0, 0, [])),
  (3, (.iload 4, 5, 4, 0, 0, 0, 0, [])),
  (5, (.iload_n 1, 6, 1, 0, 0, 0, 0, [])),
  (6, (.aload_n 0, 7, 0, 0, 0, 0, 0, [])),
  (7, (.getfield 34, 10, 5, 3, 170, 0, 6, [])),
  (10, (.iadd, 11, 0, 0, 0, 0, 0, [])),
  (11, (.if_icmp .ge 54, 14, 65, 0, 0, 0, 0, [])),
  (14, (.aload_n 0, 15, 0, 0, 0, 0, 0, [])),
  (15, (.iload 4, 17, 4, 0, 0, 0, 0, [])),
  (17, (.iload_n 2, 18, 2, 0, 0, 0, 0, [])),
  (18, (.iload_n 3, 19, 3, 0, 0, 0, 0, [])),
  (19, (.iconst 0, 20, 0, 0, 0, 0, 0, [])),
  (20, (.invokevirtual 92, 23, 74, 5, 656, 0, 6, [0])),
  (23, (.ifCond .eq 36, 26, 59, 0, 0, 0, 0, [])),
  (26, (.iload 4, 28, 4, 0, 0, 0, 0, [])),
  (28, (.iload_n 1, 29, 1, 0, 0, 0, 0, [])),
  (29, (.isub, 30, 0, 0, 0, 0, 0, [])),
  (30, (.istore 5, 32, 5, 0, 0, 0, 0, [])),
  (32, (.aload_n 0, 33, 0, 0, 0, 0, 0, [])),
  (33, (.aload_n 0, 34, 0, 0, 0, 0, 0, [])),
  (34, (.iload_n 1, 35, 1, 0, 0, 0, 0, [])),
  (35, (.invokevirtual 96, 38, 73, 2, 858, 0, 6, [0])),
  (38, (.ifCond .eq 15, 41, 53, 0, 0, 0, 0, [])),
  (41, (.aload_n 0, 42, 0, 0, 0, 0, 0, [])),
  (42, (.getfield 34, 45, 5, 3, 170, 0, 6, [])),
  (45, (.iconst 1, 46, 0, 0, 0, 0, 0, [])),
  (46, (.isub, 47, 0, 0, 0, 0, 0, [])),
  (47, (.iload 5, 49, 5, 0, 0, 0, 0, [])),
  (49, (.isub, 50, 0, 0, 0, 0, 0, [])),
  (50, (.goto 5, 53, 55, 0, 0, 0, 0, [])),
  (53, (.iload 5, 55, 5, 0, 0, 0, 0, [])),
  (55, (.invokevirtual 99, 58, 67, 2, 859, 0, 6, [0])),
  (58, (.ireturn, 59, 0, 0, 0, 0, 0, [])),
  (59, (.iinc 4 1, 62, 4, 0, 0, 0, 0, [])),
  (62, (.goto (-59), 65, 3, 0, 0, 0, 0, [])),
  (65, (.bipush (-9), 67, 0, 0, 0, 0, 0, [])),
  (67, (.ireturn, 68, 0, 0, 0, 0, 0, []))]
def rn_m76 : rn_Mt := (yX5_letterOn, cX5_letterOn, 6, (some .int), false, 0, 0, 3, 65, rn_t76)
def rn_t77 : List (Nat × rn_E) := [(0, (.aload_n 1, 1, 1, 0, 0, 0, 0, [])),
  (1, (.invokevirtual 102, 4, 79, 1, 795, 0, 7, [0])),
  (4, (.iconst 0, 5, 0, 0, 0, 0, 0, [])),
  (5, (.istore_n 2, 6, 2, 0, 0, 0, 0, [])),
  (6, (.iload_n 2, 7, 2, 0, 0, 0, 0, [])),
  (7, (.aload_n 0, 8, 0, 0, 0, 0, 0, [])),
  (8, (.getfield 37, 11, 5, 4, 173, 0, 6, [])),
  (11, (.if_icmp .gt 24, 14, 35, 0, 0, 0, 0, [])),
  (14, (.aload_n 1, 15, 1, 0, 0, 0, 0, [])),
  (15, (.aload_n 0, 16, 0, 0, 0, 0, 0, [])),
  (16, (.iload_n 2, 17, 2, 0, 0, 0, 0, [])),
  (17, (.invokevirtual 50, 20, 65, 2, 529, 0, 6, [0])),
  (20, (.aload_n 0, 21, 0, 0, 0, 0, 0, [])),
  (21, (.iload_n 2, 22, 2, 0, 0, 0, 0, [])),
  (22, (.invokevirtual 57, 25, 66, 2, 539, 0, 6, [0])),
  (25, (.iconst 0, 26, 0, 0, 0, 0, 0, [])),
  (26, (.invokevirtual 107, 29, 80, 4, 796, 0, 7, [0])),
  (29, (.iinc 2 1, 32, 2, 0, 0, 0, 0, [])),
  (32, (.goto (-26), 35, 6, 0, 0, 0, 0, [])),
  (35, (.aload_n 1, 36, 1, 0, 0, 0, 0, [])),
  (36, (.getfield 111, 39, 6, 0, 307, 0, 7, [])),
  (39, (.ireturn, 40, 0, 0, 0, 0, 0, []))]
def rn_m77 : rn_Mt := (yX5_differentCells, cX5_differentCells, 3, (some .int), false, 0, 0, 3, 68, rn_t77)
def rn_t78 : List (Nat × rn_E) := [(0, (.aload_n 0, 1, 0, 0, 0, 0, 0, [])),
  (1, (.invokespecial 3, 4, 1000, 1, 303, 2, 0, [0])),
  (4, (.aload_n 0, 5, 0, 0, 0, 0, 0, [])),
  (5, (.sipush 2400, 8, 0, 0, 0, 0, 0, [])),
  (8, (.newarray .int, 10, 0, 0, 0, 0, 0, [])),
  (10, (.putfield 9, 13, 6, 1, 308, 2, 7, [])),
  (13, (.return_, 14, 0, 0, 0, 0, 0, []))]
def rn_m78 : rn_Mt := (yX6_init, cX6_init, 1, none, true, 1, 2400, 1, 20, rn_t78)
def rn_t79 : List (Nat × rn_E) := [(0, (.aload_n 0, 1, 0, 0, 0, 0, 0, [])),
  (1, (.getfield 9, 4, 6, 1, 308, 2, 7, [])),
  (4, (.iconst 0, 5, 0, 0, 0, 0, 0, [])),
  (5, (.invokestatic 15, 8, 213, 2, 768, 0, 0, [0])),
  (8, (.aload_n 0, 9, 0, 0, 0, 0, 0, [])),
  (9, (.iconst 0, 10, 0, 0, 0, 0, 0, [])),
  (10, (.putfield 21, 13, 6, 0, 304, 0, 7, [])),
  (13, (.return_, 14, 0, 0, 0, 0, 0, []))]
def rn_m79 : rn_Mt := (yX6_clear, cX6_clear, 1, none, false, 0, 0, 1, 23, rn_t79)
def rn_t80 : List (Nat × rn_E) := [(0, (.iload_n 2, 1, 2, 0, 0, 0, 0, [])),
  (1, (.iload_n 3, 2, 3, 0, 0, 0, 0, [])),
  (2, (.isub, 3, 0, 0, 0, 0, 0, [])),
  (3, (.istore 4, 5, 4, 0, 0, 0, 0, [])),
  (5, (.iload 4, 7, 4, 0, 0, 0, 0, [])),
  (7, (.iload_n 2, 8, 2, 0, 0, 0, 0, [])),
  (8, (.iload_n 3, 9, 3, 0, 0, 0, 0, [])),
  (9, (.iadd, 10, 0, 0, 0, 0, 0, [])),
  (10, (.if_icmp .gt 36, 13, 46, 0, 0, 0, 0, [])),
  (13, (.iload_n 1, 14, 1, 0, 0, 0, 0, [])),
  (14, (.iload_n 3, 15, 3, 0, 0, 0, 0, [])),
  (15, (.isub, 16, 0, 0, 0, 0, 0, [])),
  (16, (.istore 5, 18, 5, 0, 0, 0, 0, [])),
  (18, (.iload 5, 20, 5, 0, 0, 0, 0, [])),
  (20, (.iload_n 1, 21, 1, 0, 0, 0, 0, [])),
  (21, (.iload_n 3, 22, 3, 0, 0, 0, 0, [])),
  (22, (.iadd, 23, 0, 0, 0, 0, 0, [])),
  (23, (.if_icmp .gt 17, 26, 40, 0, 0, 0, 0, [])),
  (26, (.aload_n 0, 27, 0, 0, 0, 0, 0, [])),
  (27, (.iload 5, 29, 5, 0, 0, 0, 0, [])),
  (29, (.iload 4, 31, 4, 0, 0, 0, 0, [])),
  (31, (.invokevirtual 25, 34, 81, 3, 781, 0, 7, [0])),
  (34, (.iinc 5 1, 37, 5, 0, 0, 0, 0, [])),
  (37, (.goto (-19), 40, 18, 0, 0, 0, 0, [])),
  (40, (.iinc 4 1, 43, 4, 0, 0, 0, 0, [])),
  (43, (.goto (-38), 46, 5, 0, 0, 0, 0, [])),
  (46, (.return_, 47, 0, 0, 0, 0, 0, []))]
def rn_m80 : rn_Mt := (yX6_markAround, cX6_markAround, 6, none, false, 0, 0, 2, 43, rn_t80)
def rn_t81 : List (Nat × rn_E) := [(0, (.iload_n 1, 1, 1, 0, 0, 0, 0, [])),
  (1, (.iload_n 2, 2, 2, 0, 0, 0, 0, [])),
  (2, (.invokestatic 29, 5, 119, 2, 15, 0, 10, [1])),
  (5, (.ifCond .eq 39, 8, 44, 0, 0, 0, 0, [])),
  (8, (.aload_n 0, 9, 0, 0, 0, 0, 0, [])),
  (9, (.getfield 9, 12, 6, 1, 308, 2, 7, [])),
  (12, (.iload_n 2, 13, 2, 0, 0, 0, 0, [])),
  (13, (.bipush 60, 15, 0, 0, 0, 0, 0, [])),
  (15, (.imul, 16, 0, 0, 0, 0, 0, [])),
  (16, (.iload_n 1, 17, 1, 0, 0, 0, 0, [])),
  (17, (.iadd, 18, 0, 0, 0, 0, 0, [])),
  (18, (.iaload, 19, 0, 0, 0, 0, 0, [])),
  (19, (.ifCond .ne 25, 22, 44, 0, 0, 0, 0, [])),
  (22, (.aload_n 0, 23, 0, 0, 0, 0, 0, [])),
  (23, (.getfield 9, 26, 6, 1, 308, 2, 7, [])),
  (26, (.iload_n 2, 27, 2, 0, 0, 0, 0, [])),
  (27, (.bipush 60, 29, 0, 0, 0, 0, 0, [])),
  (29, (.imul, 30, 0, 0, 0, 0, 0, [])),
  (30, (.iload_n 1, 31, 1, 0, 0, 0, 0, [])),
  (31, (.iadd, 32, 0, 0, 0, 0, 0, [])),
  (32, (.iconst 1, 33, 0, 0, 0, 0, 0, [])),
  (33, (.iastore, 34, 0, 0, 0, 0, 0, [])),
  (34, (.aload_n 0, 35, 0, 0, 0, 0, 0, [])),
  (35, (.dup, 36, 0, 0, 0, 0, 0, [])),
  (36, (.getfield 21, 39, 6, 0, 304, 0, 7, [])),
  (39, (.iconst 1, 40, 0, 0, 0, 0, 0, [])),
  (40, (.iadd, 41, 0, 0, 0, 0, 0, [])),
  (41, (.putfield 21, 44, 6, 0, 304, 0, 7, [])),
  (44, (.return_, 45, 0, 0, 0, 0, 0, []))]
def rn_m81 : rn_Mt := (yX6_mark, cX6_mark, 3, none, false, 0, 0, 1, 21, rn_t81)
def rn_t82 : List (Nat × rn_E) := [(0, (.aload_n 0, 1, 0, 0, 0, 0, 0, [])),
  (1, (.invokespecial 3, 4, 1000, 1, 105, 2, 0, [0])),
  (4, (.aload_n 0, 5, 0, 0, 0, 0, 0, [])),
  (5, (.sipush 150, 8, 0, 0, 0, 0, 0, [])),
  (8, (.newarray .int, 10, 0, 0, 0, 0, 0, [])),
  (10, (.putfield 9, 13, 7, 1, 109, 2, 8, [])),
  (13, (.return_, 14, 0, 0, 0, 0, 0, []))]
def rn_m82 : rn_Mt := (yX7_init, cX7_init, 1, none, true, 1, 150, 1, 20, rn_t82)
def rn_t83 : List (Nat × rn_E) := [(0, (.aload_n 0, 1, 0, 0, 0, 0, 0, [])),
  (1, (.getfield 15, 4, 7, 0, 106, 0, 8, [])),
  (4, (.iconst 0, 5, 0, 0, 0, 0, 0, [])),
  (5, (.sipush 149, 8, 0, 0, 0, 0, 0, [])),
  (8, (.invokestatic 19, 11, 118, 3, 5, 0, 10, [1])),
  (11, (.ifCond .ne 5, 14, 16, 0, 0, 0, 0, [])),
  (14, (.iconst 0, 15, 0, 0, 0, 0, 0, [])),
  (15, (.ireturn, 16, 0, 0, 0, 1, 0, [])),
  (16, (.aload_n 0, 17, 0, 0, 0, 0, 0, [])),
  (17, (.getfield 9, 20, 7, 1, 109, 2, 8, [])),
  (20, (.aload_n 0, 21, 0, 0, 0, 0, 0, [])),
  (21, (.getfield 15, 24, 7, 0, 106, 0, 8, [])),
  (24, (.iload_n 1, 25, 1, 0, 0, 0, 0, [])),
  (25, (.iastore, 26, 0, 0, 0, 0, 0, [])),
  (26, (.aload_n 0, 27, 0, 0, 0, 0, 0, [])),
  (27, (.dup, 28, 0, 0, 0, 0, 0, [])),
  (28, (.getfield 15, 31, 7, 0, 106, 0, 8, [])),
  (31, (.iconst 1, 32, 0, 0, 0, 0, 0, [])),
  (32, (.iadd, 33, 0, 0, 0, 0, 0, [])),
  (33, (.putfield 15, 36, 7, 0, 106, 0, 8, [])),
  (36, (.iconst 1, 37, 0, 0, 0, 0, 0, [])),
  (37, (.ireturn, 38, 0, 0, 0, 1, 0, []))]
def rn_m83 : rn_Mt := (yX7_write, cX7_write, 2, (some .boolean), false, 0, 0, 1, 22, rn_t83)
def rn_t84 : List (Nat × rn_E) := [(0, (.aload_n 0, 1, 0, 0, 0, 0, 0, [])),
  (1, (.getfield 15, 4, 7, 0, 106, 0, 8, [])),
  (4, (.istore_n 1, 5, 1, 0, 0, 0, 0, [])),
  (5, (.aload_n 0, 6, 0, 0, 0, 0, 0, [])),
  (6, (.iconst 0, 7, 0, 0, 0, 0, 0, [])),
  (7, (.putfield 15, 10, 7, 0, 106, 0, 8, [])),
  (10, (.iload_n 1, 11, 1, 0, 0, 0, 0, [])),
  (11, (.ireturn, 12, 0, 0, 0, 0, 0, []))]
def rn_m84 : rn_Mt := (yX7_wipe, cX7_wipe, 2, (some .int), false, 0, 0, 0, 0, rn_t84)
def rn_t85 : List (Nat × rn_E) := [(0, (.iload_n 1, 1, 1, 0, 0, 0, 0, [])),
  (1, (.iconst 0, 2, 0, 0, 0, 0, 0, [])),
  (2, (.aload_n 0, 3, 0, 0, 0, 0, 0, [])),
  (3, (.getfield 15, 6, 7, 0, 106, 0, 8, [])),
  (6, (.iconst 1, 7, 0, 0, 0, 0, 0, [])),
  (7, (.isub, 8, 0, 0, 0, 0, 0, [])),
  (8, (.invokestatic 19, 11, 118, 3, 5, 0, 10, [1])),
  (11, (.ifCond .eq 12, 14, 23, 0, 0, 0, 0, [])),
  (14, (.aload_n 0, 15, 0, 0, 0, 0, 0, [])),
  (15, (.getfield 9, 18, 7, 1, 109, 2, 8, [])),
  (18, (.iload_n 1, 19, 1, 0, 0, 0, 0, [])),
  (19, (.iaload, 20, 0, 0, 0, 0, 0, [])),
  (20, (.goto 4, 23, 24, 0, 0, 0, 0, [])),
  (23, (.iconst 0, 24, 0, 0, 0, 0, 0, [])),
  (24, (.ireturn, 25, 0, 0, 0, 0, 0, []))]
def rn_m85 : rn_Mt := (yX7_signAt, cX7_signAt, 2, (some .int), false, 0, 0, 1, 22, rn_t85)
def rn_t86 : List (Nat × rn_E) := [(0, (.aload_n 0, 1, 0, 0, 0, 0, 0, [])),
  (1, (.invokespecial 1, 4, 1000, 1, 203, 2, 0, [0])),
  (4, (.return_, 5, 0, 0, 0, 0, 0, []))]
def rn_m86 : rn_Mt := (yX8_init, cX8_init, 1, none, false, 0, 0, 1, 20, rn_t86)
def rn_t87 : List (Nat × rn_E) := [(0, (.aload_n 0, 1, 0, 0, 0, 0, 0, [])),
  (1, (.iload_n 1, 2, 1, 0, 0, 0, 0, [])),
  (2, (.putfield 7, 5, 8, 0, 204, 0, 9, [])),
  (5, (.aload_n 0, 6, 0, 0, 0, 0, 0, [])),
  (6, (.iload_n 2, 7, 2, 0, 0, 0, 0, [])),
  (7, (.putfield 13, 10, 8, 1, 206, 0, 9, [])),
  (10, (.aload_n 0, 11, 0, 0, 0, 0, 0, [])),
  (11, (.iload_n 3, 12, 3, 0, 0, 0, 0, [])),
  (12, (.putfield 16, 15, 8, 2, 208, 0, 9, [])),
  (15, (.aload_n 0, 16, 0, 0, 0, 0, 0, [])),
  (16, (.iload 4, 18, 4, 0, 0, 0, 0, [])),
  (18, (.putfield 19, 21, 8, 3, 210, 0, 9, [])),
  (21, (.aload_n 0, 22, 0, 0, 0, 0, 0, [])),
  (22, (.iload 5, 24, 5, 0, 0, 0, 0, [])),
  (24, (.putfield 22, 27, 8, 4, 212, 0, 9, [])),
  (27, (.return_, 28, 0, 0, 0, 0, 0, []))]
def rn_m87 : rn_Mt := (yX8_build, cX8_build, 6, none, false, 0, 0, 0, 0, rn_t87)
def rn_t88 : List (Nat × rn_E) := [(0, (.aload_n 0, 1, 0, 0, 0, 0, 0, [])),
  (1, (.aload_n 1, 2, 1, 0, 0, 0, 0, [])),
  (2, (.getfield 7, 5, 8, 0, 204, 0, 9, [])),
  (5, (.aload_n 1, 6, 1, 0, 0, 0, 0, [])),
  (6, (.getfield 13, 9, 8, 1, 206, 0, 9, [])),
  (9, (.aload_n 1, 10, 1, 0, 0, 0, 0, [])),
  (10, (.getfield 16, 13, 8, 2, 208, 0, 9, [])),
  (13, (.aload_n 1, 14, 1, 0, 0, 0, 0, [])),
  (14, (.getfield 19, 17, 8, 3, 210, 0, 9, [])),
  (17, (.aload_n 1, 18, 1, 0, 0, 0, 0, [])),
  (18, (.getfield 22, 21, 8, 4, 212, 0, 9, [])),
  (21, (.invokevirtual 25, 24, 87, 6, 399, 0, 9, [0])),
  (24, (.return_, 25, 0, 0, 0, 0, 0, []))]
def rn_m88 : rn_Mt := (yX8_copyFrom, cX8_copyFrom, 2, none, false, 0, 0, 1, 25, rn_t88)
def rn_t89 : List (Nat × rn_E) := [(0, (.iload_n 1, 1, 1, 0, 0, 0, 0, [])),
  (1, (.aload_n 0, 2, 0, 0, 0, 0, 0, [])),
  (2, (.getfield 7, 5, 8, 0, 204, 0, 9, [])),
  (5, (.iload_n 3, 6, 3, 0, 0, 0, 0, [])),
  (6, (.isub, 7, 0, 0, 0, 0, 0, [])),
  (7, (.aload_n 0, 8, 0, 0, 0, 0, 0, [])),
  (8, (.getfield 7, 11, 8, 0, 204, 0, 9, [])),
  (11, (.aload_n 0, 12, 0, 0, 0, 0, 0, [])),
  (12, (.getfield 16, 15, 8, 2, 208, 0, 9, [])),
  (15, (.iadd, 16, 0, 0, 0, 0, 0, [])),
  (16, (.iconst 1, 17, 0, 0, 0, 0, 0, [])),
  (17, (.isub, 18, 0, 0, 0, 0, 0, [])),
  (18, (.iload_n 3, 19, 3, 0, 0, 0, 0, [])),
  (19, (.iadd, 20, 0, 0, 0, 0, 0, [])),
  (20, (.invokestatic 29, 23, 118, 3, 13, 0, 10, [1])),
  (23, (.ifCond .eq 33, 26, 56, 0, 0, 0, 0, [])),
  (26, (.iload_n 2, 27, 2, 0, 0, 0, 0, [])),
  (27, (.aload_n 0, 28, 0, 0, 0, 0, 0, [])),
  (28, (.getfield 13, 31, 8, 1, 206, 0, 9, [])),
  (31, (.iload_n 3, 32, 3, 0, 0, 0, 0, [])),
  (32, (.isub, 33, 0, 0, 0, 0, 0, [])),
  (33, (.aload_n 0, 34, 0, 0, 0, 0, 0, [])),
  (34, (.getfield 13, 37, 8, 1, 206, 0, 9, [])),
  (37, (.aload_n 0, 38, 0, 0, 0, 0, 0, [])),
  (38, (.getfield 19, 41, 8, 3, 210, 0, 9, [])),
  (41, (.iadd, 42, 0, 0, 0, 0, 0, [])),
  (42, (.iconst 1, 43, 0, 0, 0, 0, 0, [])),
  (43, (.isub, 44, 0, 0, 0, 0, 0, [])),
  (44, (.iload_n 3, 45, 3, 0, 0, 0, 0, [])),
  (45, (.iadd, 46, 0, 0, 0, 0, 0, [])),
  (46, (.invokestatic 29, 49, 118, 3, 13, 0, 10, [1])),
  (49, (.ifCond .eq 7, 52, 56, 0, 0, 0, 0, [])),
  (52, (.iconst 1, 53, 0, 0, 0, 0, 0, [])),
  (53, (.goto 4, 56, 57, 0, 0, 0, 0, [])),
  (56, (.iconst 0, 57, 0, 0, 0, 0, 0, [])),
  (57, (.ireturn, 58, 0, 0, 0, 1, 0, []))]
def rn_m89 : rn_Mt := (yX8_isNear, cX8_isNear, 4, (some .boolean), false, 0, 0, 1, 22, rn_t89)
def rn_t90 : List (Nat × rn_E) := [(0, (.aload_n 0, 1, 0, 0, 0, 0, 0, [])),
  (1, (.invokespecial 3, 4, 1000, 1, 91, 2, 0, [0])),
  (4, (.aload_n 0, 5, 0, 0, 0, 0, 0, [])),
  (5, (.new 9, 8, 4, 0, 94, 0, 0, [])),
  (8, (.dup, 9, 0, 0, 0, 0, 0, [])),
  (9, (.invokespecial 11, 12, 45, 1, 0, 4, 5, [1])),
  (12, (.putfield 12, 15, 9, 0, 314, 2, 10, [])),
  (15, (.aload_n 0, 16, 0, 0, 0, 0, 0, [])),
  (16, (.new 16, 19, 1, 0, 133, 0, 0, [])),
  (19, (.dup, 20, 0, 0, 0, 0, 0, [])),
  (20, (.invokespecial 18, 23, 19, 1, 135, 4, 2, [0])),
  (23, (.putfield 19, 26, 9, 1, 315, 2, 10, [])),
  (26, (.aload_n 0, 27, 0, 0, 0, 0, 0, [])),
  (27, (.new 23, 30, 2, 0, 288, 0, 0, [])),
  (30, (.dup, 31, 0, 0, 0, 0, 0, [])),
  (31, (.invokespecial 25, 34, 25, 1, 3, 4, 3, [1])),
  (34, (.putfield 26, 37, 9, 2, 316, 2, 10, [])),
  (37, (.aload_n 0, 38, 0, 0, 0, 0, 0, [])),
  (38, (.new 30, 41, 6, 0, 298, 0, 0, [])),
  (41, (.dup, 42, 0, 0, 0, 0, 0, [])),
  (42, (.invokespecial 32, 45, 78, 1, 4, 4, 7, [1])),
  (45, (.putfield 33, 48, 9, 3, 317, 2, 10, [])),
  (48, (.return_, 49, 0, 0, 0, 0, 0, []))]
def rn_m90 : rn_Mt := (yX9_init, cX9_init, 1, none, true, 600, 50000, 4, 83, rn_t90)
def rn_t91 : List (Nat × rn_E) := [(0, (.iload_n 1, 1, 1, 0, 0, 0, 0, [])),
  (1, (.iconst 1, 2, 0, 0, 0, 0, 0, [])),
  (2, (.sipush 255, 5, 0, 0, 0, 0, 0, [])),
  (5, (.invokestatic 37, 8, 118, 3, 331, 0, 10, [0])),
  (8, (.ifCond .ne 5, 11, 13, 0, 0, 0, 0, [])),
  (11, (.iconst (-1), 12, 0, 0, 0, 0, 0, [])),
  (12, (.ireturn, 13, 0, 0, 0, 0, 0, [])),
  (13, (.aload_n 0, 14, 0, 0, 0, 0, 0, [])),
  (14, (.getfield 12, 17, 9, 0, 314, 2, 10, [])),
  (17, (.getfield 41, 20, 4, 0, 117, 2, 5, [])),
  (20, (.iload_n 1, 21, 1, 0, 0, 0, 0, [])),
  (21, (.invokevirtual 45, 24, 83, 2, 334, 0, 8, [0])),
  (24, (.ifCond .eq 16, 27, 40, 0, 0, 0, 0, [])),
  (27, (.aload_n 0, 28, 0, 0, 0, 0, 0, [])),
  (28, (.getfield 12, 31, 9, 0, 314, 2, 10, [])),
  (31, (.getfield 41, 34, 4, 0, 117, 2, 5, [])),
  (34, (.getfield 51, 37, 7, 0, 108, 0, 8, [])),
  (37, (.goto 5, 40, 42, 0, 0, 0, 0, [])),
  (40, (.bipush (-3), 42, 0, 0, 0, 0, 0, [])),
  (42, (.ireturn, 43, 0, 0, 0, 0, 0, []))]
def rn_m91 : rn_Mt := (yX9_append, cX9_append, 2, (some .int), false, 0, 0, 2, 43, rn_t91)
def rn_t92 : List (Nat × rn_E) := [(0, (.aload_n 0, 1, 0, 0, 0, 0, 0, [])),
  (1, (.getfield 12, 4, 9, 0, 314, 2, 10, [])),
  (4, (.getfield 41, 7, 4, 0, 117, 2, 5, [])),
  (7, (.invokevirtual 55, 10, 84, 1, 343, 0, 8, [0])),
  (10, (.ireturn, 11, 0, 0, 0, 0, 0, []))]
def rn_m92 : rn_Mt := (yX9_clearText, cX9_clearText, 1, (some .int), false, 0, 0, 1, 21, rn_t92)
def rn_t93 : List (Nat × rn_E) := [(0, (.aload_n 0, 1, 0, 0, 0, 0, 0, [])),
  (1, (.getfield 12, 4, 9, 0, 314, 2, 10, [])),
  (4, (.aload_n 0, 5, 0, 0, 0, 0, 0, [])),
  (5, (.getfield 19, 8, 9, 1, 315, 2, 10, [])),
  (8, (.invokevirtual 59, 11, 21, 1, 351, 0, 2, [0])),
  (11, (.invokevirtual 63, 14, 46, 2, 419, 0, 5, [0])),
  (14, (.istore_n 1, 15, 1, 0, 0, 0, 0, [])),
  (15, (.iload_n 1, 16, 1, 0, 0, 0, 0, [])),
  (16, (.ifCond .lt 21, 19, 37, 0, 0, 0, 0, [])),
  (19, (.aload_n 0, 20, 0, 0, 0, 0, 0, [])),
  (20, (.getfield 19, 23, 9, 1, 315, 2, 10, [])),
  (23, (.invokevirtual 67, 26, 22, 1, 559, 0, 2, [0])),
  (26, (.aload_n 0, 27, 0, 0, 0, 0, 0, [])),
  (27, (.getfield 12, 30, 9, 0, 314, 2, 10, [])),
  (30, (.getfield 41, 33, 4, 0, 117, 2, 5, [])),
  (33, (.invokevirtual 55, 36, 84, 1, 343, 0, 8, [0])),
  (36, (.pop, 37, 0, 0, 0, 0, 0, [])),
  (37, (.iload_n 1, 38, 1, 0, 0, 0, 0, [])),
  (38, (.ireturn, 39, 0, 0, 0, 0, 0, []))]
def rn_m93 : rn_Mt := (yX9_load, cX9_load, 2, (some .int), false, 0, 0, 7, 153, rn_t93)
def rn_t94 : List (Nat × rn_E) := [(0, (.iload_n 1, 1, 1, 0, 0, 0, 0, [])),
  (1, (.iconst 1, 2, 0, 0, 0, 0, 0, [])),
  (2, (.bipush 12, 4, 0, 0, 0, 0, 0, [])),
  (4, (.invokestatic 37, 7, 118, 3, 331, 0, 10, [0])),
  (7, (.ifCond .eq 27, 10, 34, 0, 0, 0, 0, [])),
  (10, (.iload_n 2, 11, 2, 0, 0, 0, 0, [])),
  (11, (.iload_n 3, 12, 3, 0, 0, 0, 0, [])),
  (12, (.invokestatic 70, 15, 119, 2, 573, 0, 10, [0])),
  (15, (.ifCond .eq 19, 18, 34, 0, 0, 0, 0, [])),
  (18, (.iload 4, 20, 4, 0, 0, 0, 0, [])),
  (20, (.invokestatic 74, 23, 120, 1, 574, 0, 10, [0])),
  (23, (.ifCond .eq 11, 26, 34, 0, 0, 0, 0, [])),
  (26, (.iload 5, 28, 5, 0, 0, 0, 0, [])),
  (28, (.invokestatic 77, 31, 121, 1, 577, 0, 10, [0])),
  (31, (.ifCond .ne 5, 34, 36, 0, 0, 0, 0, [])),
  (34, (.iconst (-1), 35, 0, 0, 0, 0, 0, [])),
  (35, (.ireturn, 36, 0, 0, 0, 0, 0, [])),
  (36, (.aload_n 0, 37, 0, 0, 0, 0, 0, [])),
  (37, (.getfield 19, 40, 9, 1, 315, 2, 10, [])),
  (40, (.invokevirtual 59, 43, 21, 1, 351, 0, 2, [0])),
  (43, (.invokevirtual 80, 46, 8, 1, 580, 0, 1, [0])),
  (46, (.astore 6, 48, 6, 0, 0, 0, 0, [])),
  (48, (.aload 6, 50, 6, 0, 0, 0, 0, [])),
  (50, (.ifnonnull 6, 53, 56, 0, 0, 0, 0, [])),
  (53, (.bipush (-3), 55, 0, 0, 0, 0, 0, [])),
  (55, (.ireturn, 56, 0, 0, 0, 0, 0, [])),
  (56, (.iconst 0, 57, 0, 0, 0, 0, 0, [])),
  (57, (.istore 7, 59, 7, 0, 0, 0, 0, [])),
  (59, (.iload 7, 61, 7, 0, 0, 0, 0, [])),
  (61, (.iload_n 1, 62, 1, 0, 0, 0, 0, [])),
  (62, (.if_icmp .ge 19, 65, 81, 0, 0, 0, 0, [])),
  (65, (.aload 6, 67, 6, 0, 0, 0, 0, [])),
  (67, (.bipush 97, 69, 0, 0, 0, 0, 0, [])),
  (69, (.iload 7, 71, 7, 0, 0, 0, 0, [])),
  (71, (.iadd, 72, 0, 0, 0, 0, 0, [])),
  (72, (.invokevirtual 86, 75, 60, 2, 581, 0, 6, [0])),
  (75, (.iinc 7 1, 78, 7, 0, 0, 0, 0, [])),
  (78, (.goto (-19), 81, 59, 0, 0, 0, 0, [])),
  (81, (.aload 6, 83, 6, 0, 0, 0, 0, [])),
  (83, (.iload_n 2, 84, 2, 0, 0, 0, 0, [])),
  (84, (.iload_n 3, 85, 3, 0, 0, 0, 0, [])),
  (85, (.iload 4, 87, 4, 0, 0, 0, 0, [])),
  (87, (.iload 5, 89, 5, 0, 0, 0, 0, [])),
  (89, (.invokevirtual 92, 92, 61, 5, 582, 0, 6, [0])),
  (92, (.aload_n 0, 93, 0, 0, 0, 0, 0, [])),
  (93, (.getfield 19, 96, 9, 1, 315, 2, 10, [])),
  (96, (.invokevirtual 67, 99, 22, 1, 559, 0, 2, [0])),
  (99, (.aload 6, 101, 6, 0, 0, 0, 0, [])),
  (101, (.getfield 96, 104, 5, 0, 160, 0, 6, [])),
  (104, (.ireturn, 105, 0, 0, 0, 0, 0, []))]
def rn_m94 : rn_Mt := (yX9_addRiver, cX9_addRiver, 8, (some .int), false, 0, 0, 5, 123, rn_t94)
def rn_t95 : List (Nat × rn_E) := [(0, (.iload_n 1, 1, 1, 0, 0, 0, 0, [])),
  (1, (.iload_n 2, 2, 2, 0, 0, 0, 0, [])),
  (2, (.invokestatic 70, 5, 119, 2, 573, 0, 10, [0])),
  (5, (.ifCond .eq 48, 8, 53, 0, 0, 0, 0, [])),
  (8, (.iload_n 3, 9, 3, 0, 0, 0, 0, [])),
  (9, (.iconst 1, 10, 0, 0, 0, 0, 0, [])),
  (10, (.bipush 12, 12, 0, 0, 0, 0, 0, [])),
  (12, (.invokestatic 37, 15, 118, 3, 331, 0, 10, [0])),
  (15, (.ifCond .eq 38, 18, 53, 0, 0, 0, 0, [])),
  (18, (.iload 4, 20, 4, 0, 0, 0, 0, [])),
  (20, (.iconst 1, 21, 0, 0, 0, 0, 0, [])),
  (21, (.iconst 3, 22, 0, 0, 0, 0, 0, [])),
  (22, (.invokestatic 37, 25, 118, 3, 331, 0, 10, [0])),
  (25, (.ifCond .eq 28, 28, 53, 0, 0, 0, 0, [])),
  (28, (.iload 5, 30, 5, 0, 0, 0, 0, [])),
  (30, (.invokestatic 74, 33, 120, 1, 574, 0, 10, [0])),
  (33, (.ifCond .eq 20, 36, 53, 0, 0, 0, 0, [])),
  (36, (.iload_n 1, 37, 1, 0, 0, 0, 0, [])),
  (37, (.iload_n 3, 38, 3, 0, 0, 0, 0, [])),
  (38, (.iadd, 39, 0, 0, 0, 0, 0, [])),
  (39, (.iconst 1, 40, 0, 0, 0, 0, 0, [])),
  (40, (.isub, 41, 0, 0, 0, 0, 0, [])),
  (41, (.iload_n 2, 42, 2, 0, 0, 0, 0, [])),
  (42, (.iload 4, 44, 4, 0, 0, 0, 0, [])),
  (44, (.iadd, 45, 0, 0, 0, 0, 0, [])),
  (45, (.iconst 1, 46, 0, 0, 0, 0, 0, [])),
  (46, (.isub, 47, 0, 0, 0, 0, 0, [])),
  (47, (.invokestatic 70, 50, 119, 2, 573, 0, 10, [0])),
  (50, (.ifCond .ne 5, 53, 55, 0, 0, 0, 0, [])),
  (53, (.iconst (-1), 54, 0, 0, 0, 0, 0, [])),
  (54, (.ireturn, 55, 0, 0, 0, 0, 0, [])),
  (55, (.aload_n 0, 56, 0, 0, 0, 0, 0, [])),
  (56, (.getfield 19, 59, 9, 1, 315, 2, 10, [])),
  (59, (.invokevirtual 59, 62, 21, 1, 351, 0, 2, [0])),
  (62, (.astore 6, 64, 6, 0, 0, 0, 0, [])),
  (64, (.aload 6, 66, 6, 0, 0, 0, 0, [])),
  (66, (.invokevirtual 99, 69, 9, 1, 587, 0, 1, [0])),
  (69, (.astore 7, 71, 7, 0, 0, 0, 0, [])),
  (71, (.aload 7, 73, 7, 0, 0, 0, 0, [])),
  (73, (.ifnonnull 6, 76, 79, 0, 0, 0, 0, [])),
  (76, (.bipush (-3), 78, 0, 0, 0, 0, 0, [])),
  (78, (.ireturn, 79, 0, 0, 0, 0, 0, [])),
  (79, (.aload 7, 81, 7, 0, 0, 0, 0, [])),
  (81, (.iload_n 1, 82, 1, 0, 0, 0, 0, [])),
  (82, (.iload_n 2, 83, 2, 0, 0, 0, 0, [])),
  (83, (.iload_n 3, 84, 3, 0, 0, 0, 0, [])),
  (84, (.iload 4, 86, 4, 0, 0, 0, 0, [])),
  (86, (.iload 5, 88, 5, 0, 0, 0, 0, [])),
  (88, (.invokevirtual 103, 91, 87, 6, 588, 0, 9, [0])),
  (91, (.aload_n 0, 92, 0, 0, 0, 0, 0, [])),
  (92, (.getfield 19, 95, 9, 1, 315, 2, 10, [])),
  (95, (.invokevirtual 67, 98, 22, 1, 559, 0, 2, [0])),
  (98, (.aload 6, 100, 6, 0, 0, 0, 0, [])),
  (100, (.getfield 109, 103, 0, 1, 249, 0, 1, [])),
  (103, (.iconst 1, 104, 0, 0, 0, 0, 0, [])),
  (104, (.isub, 105, 0, 0, 0, 0, 0, [])),
  (105, (.ireturn, 106, 0, 0, 0, 0, 0, []))]
def rn_m95 : rn_Mt := (yX9_addTown, cX9_addTown, 8, (some .int), false, 0, 0, 5, 123, rn_t95)
def rn_t96 : List (Nat × rn_E) := [(0, (.aload_n 0, 1, 0, 0, 0, 0, 0, [])),
  (1, (.getfield 19, 4, 9, 1, 315, 2, 10, [])),
  (4, (.invokevirtual 59, 7, 21, 1, 351, 0, 2, [0])),
  (7, (.iload_n 1, 8, 1, 0, 0, 0, 0, [])),
  (8, (.invokevirtual 112, 11, 5, 2, 593, 0, 1, [0])),
  (11, (.astore_n 3, 12, 3, 0, 0, 0, 0, [])),
  (12, (.aload_n 3, 13, 3, 0, 0, 0, 0, [])),
  (13, (.ifnull 13, 16, 26, 0, 0, 0, 0, [])),
  (16, (.iload_n 2, 17, 2, 0, 0, 0, 0, [])),
  (17, (.iconst 0, 18, 0, 0, 0, 0, 0, [])),
  (18, (.bipush 7, 20, 0, 0, 0, 0, 0, [])),
  (20, (.invokestatic 37, 23, 118, 3, 331, 0, 10, [0])),
  (23, (.ifCond .ne 5, 26, 28, 0, 0, 0, 0, [])),
  (26, (.iconst (-1), 27, 0, 0, 0, 0, 0, [])),
  (27, (.ireturn, 28, 0, 0, 0, 0, 0, [])),
  (28, (.aload_n 3, 29, 3, 0, 0, 0, 0, [])),
  (29, (.iload_n 2, 30, 2, 0, 0, 0, 0, [])),
  (30, (.invokevirtual 116, 33, 62, 2, 594, 0, 6, [0])),
  (33, (.ifCond .eq 6, 36, 39, 0, 0, 0, 0, [])),
  (36, (.bipush (-2), 38, 0, 0, 0, 0, 0, [])),
  (38, (.ireturn, 39, 0, 0, 0, 0, 0, [])),
  (39, (.aload_n 3, 40, 3, 0, 0, 0, 0, [])),
  (40, (.iload_n 2, 41, 2, 0, 0, 0, 0, [])),
  (41, (.invokevirtual 119, 44, 63, 2, 595, 0, 6, [0])),
  (44, (.ifCond .ne 6, 47, 50, 0, 0, 0, 0, [])),
  (47, (.bipush (-3), 49, 0, 0, 0, 0, 0, [])),
  (49, (.ireturn, 50, 0, 0, 0, 0, 0, [])),
  (50, (.aload_n 0, 51, 0, 0, 0, 0, 0, [])),
  (51, (.getfield 19, 54, 9, 1, 315, 2, 10, [])),
  (54, (.invokevirtual 67, 57, 22, 1, 559, 0, 2, [0])),
  (57, (.aload_n 3, 58, 3, 0, 0, 0, 0, [])),
  (58, (.getfield 122, 61, 5, 4, 175, 0, 6, [])),
  (61, (.ireturn, 62, 0, 0, 0, 0, 0, []))]
def rn_m96 : rn_Mt := (yX9_flow, cX9_flow, 4, (some .int), false, 0, 0, 5, 123, rn_t96)
def rn_t97 : List (Nat × rn_E) := [(0, (.aload_n 0, 1, 0, 0, 0, 0, 0, [])),
  (1, (.getfield 19, 4, 9, 1, 315, 2, 10, [])),
  (4, (.invokevirtual 59, 7, 21, 1, 351, 0, 2, [0])),
  (7, (.iload_n 1, 8, 1, 0, 0, 0, 0, [])),
  (8, (.invokevirtual 112, 11, 5, 2, 593, 0, 1, [0])),
  (11, (.astore_n 3, 12, 3, 0, 0, 0, 0, [])),
  (12, (.aload_n 3, 13, 3, 0, 0, 0, 0, [])),
  (13, (.ifnull 10, 16, 23, 0, 0, 0, 0, [])),
  (16, (.iload_n 2, 17, 2, 0, 0, 0, 0, [])),
  (17, (.invokestatic 74, 20, 120, 1, 574, 0, 10, [0])),
  (20, (.ifCond .ne 5, 23, 25, 0, 0, 0, 0, [])),
  (23, (.iconst (-1), 24, 0, 0, 0, 0, 0, [])),
  (24, (.ireturn, 25, 0, 0, 0, 0, 0, [])),
  (25, (.aload_n 3, 26, 3, 0, 0, 0, 0, [])),
  (26, (.getfield 125, 29, 5, 1, 163, 0, 6, [])),
  (29, (.istore 4, 31, 4, 0, 0, 0, 0, [])),
  (31, (.aload_n 3, 32, 3, 0, 0, 0, 0, [])),
  (32, (.iload_n 2, 33, 2, 0, 0, 0, 0, [])),
  (33, (.putfield 125, 36, 5, 1, 163, 0, 6, [])),
  (36, (.aload_n 0, 37, 0, 0, 0, 0, 0, [])),
  (37, (.getfield 19, 40, 9, 1, 315, 2, 10, [])),
  (40, (.invokevirtual 67, 43, 22, 1, 559, 0, 2, [0])),
  (43, (.iload 4, 45, 4, 0, 0, 0, 0, [])),
  (45, (.ireturn, 46, 0, 0, 0, 0, 0, []))]
def rn_m97 : rn_Mt := (yX9_setRank, cX9_setRank, 5, (some .int), false, 0, 0, 5, 123, rn_t97)
def rn_t98 : List (Nat × rn_E) := [(0, (.aload_n 0, 1, 0, 0, 0, 0, 0, [])),
  (1, (.getfield 19, 4, 9, 1, 315, 2, 10, [])),
  (4, (.invokevirtual 59, 7, 21, 1, 351, 0, 2, [0])),
  (7, (.iload_n 1, 8, 1, 0, 0, 0, 0, [])),
  (8, (.invokevirtual 112, 11, 5, 2, 593, 0, 1, [0])),
  (11, (.astore_n 3, 12, 3, 0, 0, 0, 0, [])),
  (12, (.aload_n 3, 13, 3, 0, 0, 0, 0, [])),
  (13, (.ifnull 10, 16, 23, 0, 0, 0, 0, [])),
  (16, (.iload_n 2, 17, 2, 0, 0, 0, 0, [])),
  (17, (.invokestatic 77, 20, 121, 1, 577, 0, 10, [0])),
  (20, (.ifCond .ne 5, 23, 25, 0, 0, 0, 0, [])),
  (23, (.iconst (-1), 24, 0, 0, 0, 0, 0, [])),
  (24, (.ireturn, 25, 0, 0, 0, 0, 0, [])),
  (25, (.aload_n 3, 26, 3, 0, 0, 0, 0, [])),
  (26, (.getfield 128, 29, 5, 2, 168, 0, 6, [])),
  (29, (.istore 4, 31, 4, 0, 0, 0, 0, [])),
  (31, (.aload_n 3, 32, 3, 0, 0, 0, 0, [])),
  (32, (.iload_n 2, 33, 2, 0, 0, 0, 0, [])),
  (33, (.putfield 128, 36, 5, 2, 168, 0, 6, [])),
  (36, (.aload_n 0, 37, 0, 0, 0, 0, 0, [])),
  (37, (.getfield 19, 40, 9, 1, 315, 2, 10, [])),
  (40, (.invokevirtual 67, 43, 22, 1, 559, 0, 2, [0])),
  (43, (.iload 4, 45, 4, 0, 0, 0, 0, [])),
  (45, (.ireturn, 46, 0, 0, 0, 0, 0, []))]
def rn_m98 : rn_Mt := (yX9_setHalo, cX9_setHalo, 5, (some .int), false, 0, 0, 5, 123, rn_t98)
def rn_t99 : List (Nat × rn_E) := [(0, (.aload_n 0, 1, 0, 0, 0, 0, 0, [])),
  (1, (.getfield 19, 4, 9, 1, 315, 2, 10, [])),
  (4, (.invokevirtual 59, 7, 21, 1, 351, 0, 2, [0])),
  (7, (.iload_n 1, 8, 1, 0, 0, 0, 0, [])),
  (8, (.invokevirtual 131, 11, 6, 2, 608, 0, 1, [0])),
  (11, (.astore_n 3, 12, 3, 0, 0, 0, 0, [])),
  (12, (.aload_n 3, 13, 3, 0, 0, 0, 0, [])),
  (13, (.ifnull 10, 16, 23, 0, 0, 0, 0, [])),
  (16, (.iload_n 2, 17, 2, 0, 0, 0, 0, [])),
  (17, (.invokestatic 74, 20, 120, 1, 574, 0, 10, [0])),
  (20, (.ifCond .ne 5, 23, 25, 0, 0, 0, 0, [])),
  (23, (.iconst (-1), 24, 0, 0, 0, 0, 0, [])),
  (24, (.ireturn, 25, 0, 0, 0, 0, 0, [])),
  (25, (.aload_n 3, 26, 3, 0, 0, 0, 0, [])),
  (26, (.getfield 135, 29, 8, 4, 214, 0, 9, [])),
  (29, (.istore 4, 31, 4, 0, 0, 0, 0, [])),
  (31, (.aload_n 3, 32, 3, 0, 0, 0, 0, [])),
  (32, (.iload_n 2, 33, 2, 0, 0, 0, 0, [])),
  (33, (.putfield 135, 36, 8, 4, 214, 0, 9, [])),
  (36, (.aload_n 0, 37, 0, 0, 0, 0, 0, [])),
  (37, (.getfield 19, 40, 9, 1, 315, 2, 10, [])),
  (40, (.invokevirtual 67, 43, 22, 1, 559, 0, 2, [0])),
  (43, (.iload 4, 45, 4, 0, 0, 0, 0, [])),
  (45, (.ireturn, 46, 0, 0, 0, 0, 0, []))]
def rn_m99 : rn_Mt := (yX9_setTownRank, cX9_setTownRank, 5, (some .int), false, 0, 0, 5, 123, rn_t99)
def rn_t100 : List (Nat × rn_E) := [(0, (.iload_n 1, 1, 1, 0, 0, 0, 0, [])),
  (1, (.iconst 0, 2, 0, 0, 0, 0, 0, [])),
  (2, (.bipush 60, 4, 0, 0, 0, 0, 0, [])),
  (4, (.invokestatic 37, 7, 118, 3, 331, 0, 10, [0])),
  (7, (.ifCond .ne 5, 10, 12, 0, 0, 0, 0, [])),
  (10, (.iconst (-1), 11, 0, 0, 0, 0, 0, [])),
  (11, (.ireturn, 12, 0, 0, 0, 0, 0, [])),
  (12, (.aload_n 0, 13, 0, 0, 0, 0, 0, [])),
  (13, (.getfield 19, 16, 9, 1, 315, 2, 10, [])),
  (16, (.invokevirtual 59, 19, 21, 1, 351, 0, 2, [0])),
  (19, (.astore_n 2, 20, 2, 0, 0, 0, 0, [])),
  (20, (.aload_n 2, 21, 2, 0, 0, 0, 0, [])),
  (21, (.getfield 136, 24, 0, 3, 255, 0, 1, [])),
  (24, (.istore_n 3, 25, 3, 0, 0, 0, 0, [])),
  (25, (.aload_n 2, 26, 2, 0, 0, 0, 0, [])),
  (26, (.iload_n 1, 27, 1, 0, 0, 0, 0, [])),
  (27, (.putfield 136, 30, 0, 3, 255, 0, 1, [])),
  (30, (.aload_n 0, 31, 0, 0, 0, 0, 0, [])),
  (31, (.getfield 19, 34, 9, 1, 315, 2, 10, [])),
  (34, (.invokevirtual 67, 37, 22, 1, 559, 0, 2, [0])),
  (37, (.iload_n 3, 38, 3, 0, 0, 0, 0, [])),
  (38, (.ireturn, 39, 0, 0, 0, 0, 0, []))]
def rn_m100 : rn_Mt := (yX9_setGap, cX9_setGap, 4, (some .int), false, 0, 0, 5, 123, rn_t100)
def rn_t101 : List (Nat × rn_E) := [(0, (.aload_n 0, 1, 0, 0, 0, 0, 0, [])),
  (1, (.getfield 19, 4, 9, 1, 315, 2, 10, [])),
  (4, (.invokevirtual 59, 7, 21, 1, 351, 0, 2, [0])),
  (7, (.astore_n 3, 8, 3, 0, 0, 0, 0, [])),
  (8, (.aload_n 3, 9, 3, 0, 0, 0, 0, [])),
  (9, (.iload_n 1, 10, 1, 0, 0, 0, 0, [])),
  (10, (.invokevirtual 112, 13, 5, 2, 593, 0, 1, [0])),
  (13, (.astore 4, 15, 4, 0, 0, 0, 0, [])),
  (15, (.aload 4, 17, 4, 0, 0, 0, 0, [])),
  (17, (.ifnull 10, 20, 27, 0, 0, 0, 0, [])),
  (20, (.iload_n 2, 21, 2, 0, 0, 0, 0, [])),
  (21, (.invokestatic 139, 24, 122, 1, 617, 0, 10, [0])),
  (24, (.ifCond .ne 5, 27, 29, 0, 0, 0, 0, [])),
  (27, (.iconst (-1), 28, 0, 0, 0, 0, 0, [])),
  (28, (.ireturn, 29, 0, 0, 0, 0, 0, [])),
  (29, (.aload_n 0, 30, 0, 0, 0, 0, 0, [])),
  (30, (.getfield 26, 33, 9, 2, 316, 2, 10, [])),
  (33, (.aload_n 3, 34, 3, 0, 0, 0, 0, [])),
  (34, (.aload 4, 36, 4, 0, 0, 0, 0, [])),
  (36, (.iload_n 2, 37, 2, 0, 0, 0, 0, [])),
  (37, (.iconst (-1), 38, 0, 0, 0, 0, 0, [])),
  (38, (.invokevirtual 142, 41, 26, 5, 620, 0, 3, [0])),
  (41, (.ifCond .eq 6, 44, 47, 0, 0, 0, 0, [])),
  (44, (.bipush (-2), 46, 0, 0, 0, 0, 0, [])),
  (46, (.ireturn, 47, 0, 0, 0, 0, 0, [])),
  (47, (.aload_n 3, 48, 3, 0, 0, 0, 0, [])),
  (48, (.aload 4, 50, 4, 0, 0, 0, 0, [])),
  (50, (.iload_n 2, 51, 2, 0, 0, 0, 0, [])),
  (51, (.invokevirtual 146, 54, 10, 3, 664, 0, 1, [0])),
  (54, (.ifCond .ne 6, 57, 60, 0, 0, 0, 0, [])),
  (57, (.bipush (-3), 59, 0, 0, 0, 0, 0, [])),
  (59, (.ireturn, 60, 0, 0, 0, 0, 0, [])),
  (60, (.aload_n 0, 61, 0, 0, 0, 0, 0, [])),
  (61, (.getfield 19, 64, 9, 1, 315, 2, 10, [])),
  (64, (.invokevirtual 67, 67, 22, 1, 559, 0, 2, [0])),
  (67, (.aload_n 3, 68, 3, 0, 0, 0, 0, [])),
  (68, (.getfield 150, 71, 0, 2, 252, 0, 1, [])),
  (71, (.iconst 1, 72, 0, 0, 0, 0, 0, [])),
  (72, (.isub, 73, 0, 0, 0, 0, 0, [])),
  (73, (.ireturn, 74, 0, 0, 0, 0, 0, []))]
def rn_m101 : rn_Mt := (yX9_set, cX9_set, 5, (some .int), false, 0, 0, 5, 124, rn_t101)
def rn_t102 : List (Nat × rn_E) := [(0, (.aload_n 0, 1, 0, 0, 0, 0, 0, [])),
  (1, (.getfield 19, 4, 9, 1, 315, 2, 10, [])),
  (4, (.invokevirtual 59, 7, 21, 1, 351, 0, 2, [0])),
  (7, (.astore_n 2, 8, 2, 0, 0, 0, 0, [])),
  (8, (.aload_n 2, 9, 2, 0, 0, 0, 0, [])),
  (9, (.iload_n 1, 10, 1, 0, 0, 0, 0, [])),
  (10, (.invokevirtual 153, 13, 11, 2, 669, 0, 1, [0])),
  (13, (.ifCond .ne 5, 16, 18, 0, 0, 0, 0, [])),
  (16, (.iconst (-1), 17, 0, 0, 0, 0, 0, [])),
  (17, (.ireturn, 18, 0, 0, 0, 0, 0, [])),
  (18, (.aload_n 0, 19, 0, 0, 0, 0, 0, [])),
  (19, (.getfield 19, 22, 9, 1, 315, 2, 10, [])),
  (22, (.invokevirtual 67, 25, 22, 1, 559, 0, 2, [0])),
  (25, (.aload_n 2, 26, 2, 0, 0, 0, 0, [])),
  (26, (.getfield 150, 29, 0, 2, 252, 0, 1, [])),
  (29, (.ireturn, 30, 0, 0, 0, 0, 0, []))]
def rn_m102 : rn_Mt := (yX9_remove, cX9_remove, 3, (some .int), false, 0, 0, 5, 123, rn_t102)
def rn_t103 : List (Nat × rn_E) := [(0, (.iload_n 1, 1, 1, 0, 0, 0, 0, [])),
  (1, (.iconst 1, 2, 0, 0, 0, 0, 0, [])),
  (2, (.iconst 5, 3, 0, 0, 0, 0, 0, [])),
  (3, (.invokestatic 37, 6, 118, 3, 331, 0, 10, [0])),
  (6, (.ifCond .ne 5, 9, 11, 0, 0, 0, 0, [])),
  (9, (.iconst (-1), 10, 0, 0, 0, 0, 0, [])),
  (10, (.ireturn, 11, 0, 0, 0, 0, 0, [])),
  (11, (.aload_n 0, 12, 0, 0, 0, 0, 0, [])),
  (12, (.getfield 19, 15, 9, 1, 315, 2, 10, [])),
  (15, (.invokevirtual 59, 18, 21, 1, 351, 0, 2, [0])),
  (18, (.astore_n 2, 19, 2, 0, 0, 0, 0, [])),
  (19, (.aload_n 2, 20, 2, 0, 0, 0, 0, [])),
  (20, (.iconst 0, 21, 0, 0, 0, 0, 0, [])),
  (21, (.putfield 150, 24, 0, 2, 252, 0, 1, [])),
  (24, (.aload_n 0, 25, 0, 0, 0, 0, 0, [])),
  (25, (.getfield 26, 28, 9, 2, 316, 2, 10, [])),
  (28, (.aload_n 2, 29, 2, 0, 0, 0, 0, [])),
  (29, (.iload_n 1, 30, 1, 0, 0, 0, 0, [])),
  (30, (.invokevirtual 156, 33, 35, 3, 677, 0, 3, [0])),
  (33, (.aload_n 0, 34, 0, 0, 0, 0, 0, [])),
  (34, (.getfield 19, 37, 9, 1, 315, 2, 10, [])),
  (37, (.invokevirtual 67, 40, 22, 1, 559, 0, 2, [0])),
  (40, (.aload_n 2, 41, 2, 0, 0, 0, 0, [])),
  (41, (.getfield 150, 44, 0, 2, 252, 0, 1, [])),
  (44, (.ireturn, 45, 0, 0, 0, 0, 0, []))]
def rn_m103 : rn_Mt := (yX9_place, cX9_place, 3, (some .int), false, 0, 0, 7, 171, rn_t103)
def rn_t104 : List (Nat × rn_E) := [(0, (.aload_n 0, 1, 0, 0, 0, 0, 0, [])),
  (1, (.getfield 26, 4, 9, 2, 316, 2, 10, [])),
  (4, (.aload_n 0, 5, 0, 0, 0, 0, 0, [])),
  (5, (.getfield 19, 8, 9, 1, 315, 2, 10, [])),
  (8, (.invokevirtual 59, 11, 21, 1, 351, 0, 2, [0])),
  (11, (.invokevirtual 160, 14, 39, 2, 717, 0, 3, [0])),
  (14, (.istore_n 1, 15, 1, 0, 0, 0, 0, [])),
  (15, (.aload_n 0, 16, 0, 0, 0, 0, 0, [])),
  (16, (.getfield 19, 19, 9, 1, 315, 2, 10, [])),
  (19, (.invokevirtual 67, 22, 22, 1, 559, 0, 2, [0])),
  (22, (.iload_n 1, 23, 1, 0, 0, 0, 0, [])),
  (23, (.ireturn, 24, 0, 0, 0, 0, 0, []))]
def rn_m104 : rn_Mt := (yX9_tidy, cX9_tidy, 2, (some .int), false, 0, 0, 7, 171, rn_t104)
def rn_t105 : List (Nat × rn_E) := [(0, (.aload_n 0, 1, 0, 0, 0, 0, 0, [])),
  (1, (.getfield 19, 4, 9, 1, 315, 2, 10, [])),
  (4, (.invokevirtual 163, 7, 24, 1, 731, 0, 2, [0])),
  (7, (.ireturn, 8, 0, 0, 0, 0, 0, []))]
def rn_m105 : rn_Mt := (yX9_undo, cX9_undo, 1, (some .int), false, 0, 0, 2, 43, rn_t105)
def rn_t106 : List (Nat × rn_E) := [(0, (.aload_n 0, 1, 0, 0, 0, 0, 0, [])),
  (1, (.getfield 19, 4, 9, 1, 315, 2, 10, [])),
  (4, (.invokevirtual 166, 7, 20, 1, 739, 0, 2, [0])),
  (7, (.astore_n 2, 8, 2, 0, 0, 0, 0, [])),
  (8, (.iload_n 1, 9, 1, 0, 0, 0, 0, [])),
  (9, (.tableswitch 122 0 9 #[55, 60, 65, 70, 75, 80, 89, 94, 103, 111], 64, 131, 0, 0, 0, 0, [64, 69, 74, 79, 84, 89, 98, 103, 112, 120])),
  (64, (.aload_n 2, 65, 2, 0, 0, 0, 0, [])),
  (65, (.getfield 169, 68, 0, 0, 246, 0, 1, [])),
  (68, (.ireturn, 69, 0, 0, 0, 0, 0, [])),
  (69, (.aload_n 2, 70, 2, 0, 0, 0, 0, [])),
  (70, (.getfield 109, 73, 0, 1, 249, 0, 1, [])),
  (73, (.ireturn, 74, 0, 0, 0, 0, 0, [])),
  (74, (.aload_n 2, 75, 2, 0, 0, 0, 0, [])),
  (75, (.getfield 150, 78, 0, 2, 252, 0, 1, [])),
  (78, (.ireturn, 79, 0, 0, 0, 0, 0, [])),
  (79, (.aload_n 2, 80, 2, 0, 0, 0, 0, [])),
  (80, (.getfield 136, 83, 0, 3, 255, 0, 1, [])),
  (83, (.ireturn, 84, 0, 0, 0, 0, 0, [])),
  (84, (.aload_n 2, 85, 2, 0, 0, 0, 0, [])),
  (85, (.invokevirtual 172, 88, 15, 1, 743, 0, 1, [0])),
  (88, (.ireturn, 89, 0, 0, 0, 0, 0, [])),
  (89, (.aload_n 0, 90, 0, 0, 0, 0, 0, [])),
  (90, (.getfield 26, 93, 9, 2, 316, 2, 10, [])),
  (93, (.aload_n 2, 94, 2, 0, 0, 0, 0, [])),
  (94, (.invokevirtual 175, 97, 38, 2, 748, 0, 3, [0])),
  (97, (.ireturn, 98, 0, 0, 0, 0, 0, [])),
  (98, (.aload_n 2, 99, 2, 0, 0, 0, 0, [])),
  (99, (.invokevirtual 178, 102, 17, 1, 752, 0, 1, [0])),
  (102, (.ireturn, 103, 0, 0, 0, 0, 0, [])),
  (103, (.aload_n 2, 104, 2, 0, 0, 0, 0, [])),
  (104, (.aload_n 0, 105, 0, 0, 0, 0, 0, [])),
  (105, (.getfield 33, 108, 9, 3, 317, 2, 10, [])),
  (108, (.invokevirtual 181, 111, 16, 2, 760, 0, 1, [0])),
  (111, (.ireturn, 112, 0, 0, 0, 0, 0, [])),
  (112, (.aload_n 0, 113, 0, 0, 0, 0, 0, [])),
  (113, (.getfield 19, 116, 9, 1, 315, 2, 10, [])),
  (116, (.getfield 185, 119, 1, 0, 275, 0, 2, [])),
  (119, (.ireturn, 120, 0, 0, 0, 0, 0, [])),
  (120, (.aload_n 0, 121, 0, 0, 0, 0, 0, [])),
  (121, (.getfield 12, 124, 9, 0, 314, 2, 10, [])),
  (124, (.getfield 41, 127, 4, 0, 117, 2, 5, [])),
  (127, (.getfield 51, 130, 7, 0, 108, 0, 8, [])),
  (130, (.ireturn, 131, 0, 0, 0, 0, 0, [])),
  (131, (.iconst (-1), 132, 0, 0, 0, 0, 0, [])),
  (132, (.ireturn, 133, 0, 0, 0, 0, 0, []))]
def rn_m106 : rn_Mt := (yX9_count, cX9_count, 3, (some .int), false, 0, 0, 7, 170, rn_t106)
def rn_t107 : List (Nat × rn_E) := [(0, (.aload_n 0, 1, 0, 0, 0, 0, 0, [])),
  (1, (.getfield 19, 4, 9, 1, 315, 2, 10, [])),
  (4, (.invokevirtual 166, 7, 20, 1, 739, 0, 2, [0])),
  (7, (.astore_n 3, 8, 3, 0, 0, 0, 0, [])),
  (8, (.aload_n 3, 9, 3, 0, 0, 0, 0, [])),
  (9, (.iload_n 1, 10, 1, 0, 0, 0, 0, [])),
  (10, (.invokevirtual 112, 13, 5, 2, 593, 0, 1, [0])),
  (13, (.astore 4, 15, 4, 0, 0, 0, 0, [])),
  (15, (.aload 4, 17, 4, 0, 0, 0, 0, [])),
  (17, (.ifnonnull 5, 20, 22, 0, 0, 0, 0, [])),
  (20, (.iconst (-1), 21, 0, 0, 0, 0, 0, [])),
  (21, (.ireturn, 22, 0, 0, 0, 0, 0, [])),
  (22, (.iload_n 2, 23, 2, 0, 0, 0, 0, [])),
  (23, (.tableswitch 96 0 6 #[41, 47, 53, 59, 65, 72, 82], 64, 119, 0, 0, 0, 0, [64, 70, 76, 82, 88, 95, 105])),
  (64, (.aload 4, 66, 4, 0, 0, 0, 0, [])),
  (66, (.getfield 125, 69, 5, 1, 163, 0, 6, [])),
  (69, (.ireturn, 70, 0, 0, 0, 0, 0, [])),
  (70, (.aload 4, 72, 4, 0, 0, 0, 0, [])),
  (72, (.getfield 128, 75, 5, 2, 168, 0, 6, [])),
  (75, (.ireturn, 76, 0, 0, 0, 0, 0, [])),
  (76, (.aload 4, 78, 4, 0, 0, 0, 0, [])),
  (78, (.getfield 188, 81, 5, 3, 172, 0, 6, [])),
  (81, (.ireturn, 82, 0, 0, 0, 0, 0, [])),
  (82, (.aload 4, 84, 4, 0, 0, 0, 0, [])),
  (84, (.getfield 122, 87, 5, 4, 175, 0, 6, [])),
  (87, (.ireturn, 88, 0, 0, 0, 0, 0, [])),
  (88, (.aload_n 3, 89, 3, 0, 0, 0, 0, [])),
  (89, (.aload 4, 91, 4, 0, 0, 0, 0, [])),
  (91, (.invokevirtual 191, 94, 12, 2, 790, 0, 1, [0])),
  (94, (.ireturn, 95, 0, 0, 0, 0, 0, [])),
  (95, (.aload 4, 97, 4, 0, 0, 0, 0, [])),
  (97, (.aload_n 0, 98, 0, 0, 0, 0, 0, [])),
  (98, (.getfield 33, 101, 9, 3, 317, 2, 10, [])),
  (101, (.invokevirtual 195, 104, 77, 2, 791, 0, 6, [0])),
  (104, (.ireturn, 105, 0, 0, 0, 0, 0, [])),
  (105, (.aload 4, 107, 4, 0, 0, 0, 0, [])),
  (107, (.iconst 0, 108, 0, 0, 0, 0, 0, [])),
  (108, (.aload 4, 110, 4, 0, 0, 0, 0, [])),
  (110, (.getfield 122, 113, 5, 4, 175, 0, 6, [])),
  (113, (.iconst 1, 114, 0, 0, 0, 0, 0, [])),
  (114, (.iadd, 115, 0, 0, 0, 0, 0, [])),
  (115, (.invokevirtual 198, 118, 70, 3, 797, 0, 6, [0])),
  (118, (.ireturn, 119, 0, 0, 0, 0, 0, [])),
  (119, (.iconst (-1), 120, 0, 0, 0, 0, 0, [])),
  (120, (.ireturn, 121, 0, 0, 0, 0, 0, []))]
def rn_m107 : rn_Mt := (yX9_river, cX9_river, 5, (some .int), false, 0, 0, 4, 90, rn_t107)
def rn_t108 : List (Nat × rn_E) := [(0, (.aload_n 0, 1, 0, 0, 0, 0, 0, [])),
  (1, (.getfield 19, 4, 9, 1, 315, 2, 10, [])),
  (4, (.invokevirtual 166, 7, 20, 1, 739, 0, 2, [0])),
  (7, (.iload_n 1, 8, 1, 0, 0, 0, 0, [])),
  (8, (.invokevirtual 112, 11, 5, 2, 593, 0, 1, [0])),
  (11, (.astore_n 3, 12, 3, 0, 0, 0, 0, [])),
  (12, (.aload_n 3, 13, 3, 0, 0, 0, 0, [])),
  (13, (.ifnull 10, 16, 23, 0, 0, 0, 0, [])),
  (16, (.iload_n 2, 17, 2, 0, 0, 0, 0, [])),
  (17, (.invokestatic 139, 20, 122, 1, 617, 0, 10, [0])),
  (20, (.ifCond .ne 5, 23, 25, 0, 0, 0, 0, [])),
  (23, (.iconst (-1), 24, 0, 0, 0, 0, 0, [])),
  (24, (.ireturn, 25, 0, 0, 0, 0, 0, [])),
  (25, (.aload_n 3, 26, 3, 0, 0, 0, 0, [])),
  (26, (.iload_n 2, 27, 2, 0, 0, 0, 0, [])),
  (27, (.invokevirtual 202, 30, 64, 2, 802, 0, 6, [0])),
  (30, (.ifCond .eq 20, 33, 50, 0, 0, 0, 0, [])),
  (33, (.bipush 100, 35, 0, 0, 0, 0, 0, [])),
  (35, (.aload_n 3, 36, 3, 0, 0, 0, 0, [])),
  (36, (.iload_n 2, 37, 2, 0, 0, 0, 0, [])),
  (37, (.invokevirtual 205, 40, 65, 2, 803, 0, 6, [0])),
  (40, (.imul, 41, 0, 0, 0, 0, 0, [])),
  (41, (.aload_n 3, 42, 3, 0, 0, 0, 0, [])),
  (42, (.iload_n 2, 43, 2, 0, 0, 0, 0, [])),
  (43, (.invokevirtual 209, 46, 66, 2, 804, 0, 6, [0])),
  (46, (.iadd, 47, 0, 0, 0, 0, 0, [])),
  (47, (.goto 5, 50, 52, 0, 0, 0, 0, [])),
  (50, (.bipush (-9), 52, 0, 0, 0, 0, 0, [])),
  (52, (.ireturn, 53, 0, 0, 0, 0, 0, []))]
def rn_m108 : rn_Mt := (yX9_cell, cX9_cell, 4, (some .int), false, 0, 0, 2, 43, rn_t108)
def rn_t109 : List (Nat × rn_E) := [(0, (.aload_n 0, 1, 0, 0, 0, 0, 0, [])),
  (1, (.getfield 19, 4, 9, 1, 315, 2, 10, [])),
  (4, (.invokevirtual 166, 7, 20, 1, 739, 0, 2, [0])),
  (7, (.iload_n 1, 8, 1, 0, 0, 0, 0, [])),
  (8, (.invokevirtual 112, 11, 5, 2, 593, 0, 1, [0])),
  (11, (.astore_n 3, 12, 3, 0, 0, 0, 0, [])),
  (12, (.aload_n 3, 13, 3, 0, 0, 0, 0, [])),
  (13, (.ifnull 7, 16, 20, 0, 0, 0, 0, [])),
  (16, (.iload_n 2, 17, 2, 0, 0, 0, 0, [])),
  (17, (.ifCond .ge 5, 20, 22, 0, 0, 0, 0, [])),
  (20, (.iconst (-1), 21, 0, 0, 0, 0, 0, [])),
  (21, (.ireturn, 22, 0, 0, 0, 0, 0, [])),
  (22, (.aload_n 3, 23, 3, 0, 0, 0, 0, [])),
  (23, (.iload_n 2, 24, 2, 0, 0, 0, 0, [])),
  (24, (.invokevirtual 212, 27, 67, 2, 809, 0, 6, [0])),
  (27, (.ireturn, 28, 0, 0, 0, 0, 0, []))]
def rn_m109 : rn_Mt := (yX9_letter, cX9_letter, 4, (some .int), false, 0, 0, 2, 43, rn_t109)
def rn_t110 : List (Nat × rn_E) := [(0, (.aload_n 0, 1, 0, 0, 0, 0, 0, [])),
  (1, (.getfield 19, 4, 9, 1, 315, 2, 10, [])),
  (4, (.invokevirtual 166, 7, 20, 1, 739, 0, 2, [0])),
  (7, (.astore_n 3, 8, 3, 0, 0, 0, 0, [])),
  (8, (.aload_n 3, 9, 3, 0, 0, 0, 0, [])),
  (9, (.iload_n 1, 10, 1, 0, 0, 0, 0, [])),
  (10, (.invokevirtual 131, 13, 6, 2, 608, 0, 1, [0])),
  (13, (.astore 4, 15, 4, 0, 0, 0, 0, [])),
  (15, (.aload 4, 17, 4, 0, 0, 0, 0, [])),
  (17, (.ifnonnull 5, 20, 22, 0, 0, 0, 0, [])),
  (20, (.iconst (-1), 21, 0, 0, 0, 0, 0, [])),
  (21, (.ireturn, 22, 0, 0, 0, 0, 0, [])),
  (22, (.iload_n 2, 23, 2, 0, 0, 0, 0, [])),
  (23, (.tableswitch 74 0 5 #[37, 43, 49, 55, 61, 67], 60, 97, 0, 0, 0, 0, [60, 66, 72, 78, 84, 90])),
  (60, (.aload 4, 62, 4, 0, 0, 0, 0, [])),
  (62, (.getfield 215, 65, 8, 0, 205, 0, 9, [])),
  (65, (.ireturn, 66, 0, 0, 0, 0, 0, [])),
  (66, (.aload 4, 68, 4, 0, 0, 0, 0, [])),
  (68, (.getfield 218, 71, 8, 1, 207, 0, 9, [])),
  (71, (.ireturn, 72, 0, 0, 0, 0, 0, [])),
  (72, (.aload 4, 74, 4, 0, 0, 0, 0, [])),
  (74, (.getfield 221, 77, 8, 2, 209, 0, 9, [])),
  (77, (.ireturn, 78, 0, 0, 0, 0, 0, [])),
  (78, (.aload 4, 80, 4, 0, 0, 0, 0, [])),
  (80, (.getfield 224, 83, 8, 3, 211, 0, 9, [])),
  (83, (.ireturn, 84, 0, 0, 0, 0, 0, [])),
  (84, (.aload 4, 86, 4, 0, 0, 0, 0, [])),
  (86, (.getfield 135, 89, 8, 4, 214, 0, 9, [])),
  (89, (.ireturn, 90, 0, 0, 0, 0, 0, [])),
  (90, (.aload_n 3, 91, 3, 0, 0, 0, 0, [])),
  (91, (.aload 4, 93, 4, 0, 0, 0, 0, [])),
  (93, (.invokevirtual 227, 96, 13, 2, 817, 0, 1, [0])),
  (96, (.ireturn, 97, 0, 0, 0, 0, 0, [])),
  (97, (.iconst (-1), 98, 0, 0, 0, 0, 0, [])),
  (98, (.ireturn, 99, 0, 0, 0, 0, 0, []))]
def rn_m110 : rn_Mt := (yX9_town, cX9_town, 5, (some .int), false, 0, 0, 4, 91, rn_t110)
def rn_t111 : List (Nat × rn_E) := [(0, (.aload_n 0, 1, 0, 0, 0, 0, 0, [])),
  (1, (.getfield 19, 4, 9, 1, 315, 2, 10, [])),
  (4, (.invokevirtual 166, 7, 20, 1, 739, 0, 2, [0])),
  (7, (.astore_n 3, 8, 3, 0, 0, 0, 0, [])),
  (8, (.aload_n 3, 9, 3, 0, 0, 0, 0, [])),
  (9, (.iload_n 1, 10, 1, 0, 0, 0, 0, [])),
  (10, (.invokevirtual 231, 13, 7, 2, 830, 0, 1, [0])),
  (13, (.astore 4, 15, 4, 0, 0, 0, 0, [])),
  (15, (.aload 4, 17, 4, 0, 0, 0, 0, [])),
  (17, (.ifnonnull 5, 20, 22, 0, 0, 0, 0, [])),
  (20, (.iconst (-1), 21, 0, 0, 0, 0, 0, [])),
  (21, (.ireturn, 22, 0, 0, 0, 0, 0, [])),
  (22, (.aload 4, 24, 4, 0, 0, 0, 0, [])),
  (24, (.getfield 235, 27, 3, 0, 234, 2, 4, [])),
  (27, (.astore 5, 29, 5, 0, 0, 0, 0, [])),
  (29, (.iload_n 2, 30, 2, 0, 0, 0, 0, [])),
  (30, (.tableswitch 138 0 7 #[46, 52, 58, 69, 85, 104, 114, 131], 76, 168, 0, 0, 0, 0, [76, 82, 88, 99, 115, 134, 144, 161])),
  (76, (.aload 5, 78, 5, 0, 0, 0, 0, [])),
  (78, (.getfield 96, 81, 5, 0, 160, 0, 6, [])),
  (81, (.ireturn, 82, 0, 0, 0, 0, 0, [])),
  (82, (.aload 4, 84, 4, 0, 0, 0, 0, [])),
  (84, (.getfield 241, 87, 3, 1, 238, 0, 4, [])),
  (87, (.ireturn, 88, 0, 0, 0, 0, 0, [])),
  (88, (.aload 5, 90, 5, 0, 0, 0, 0, [])),
  (90, (.aload 4, 92, 4, 0, 0, 0, 0, [])),
  (92, (.getfield 241, 95, 3, 1, 238, 0, 4, [])),
  (95, (.invokevirtual 244, 98, 72, 2, 831, 0, 6, [0])),
  (98, (.ireturn, 99, 0, 0, 0, 0, 0, [])),
  (99, (.aload 5, 101, 5, 0, 0, 0, 0, [])),
  (101, (.aload 4, 103, 4, 0, 0, 0, 0, [])),
  (103, (.getfield 241, 106, 3, 1, 238, 0, 4, [])),
  (106, (.aload 5, 108, 5, 0, 0, 0, 0, [])),
  (108, (.getfield 188, 111, 5, 3, 172, 0, 6, [])),
  (111, (.invokevirtual 198, 114, 70, 3, 797, 0, 6, [0])),
  (114, (.ireturn, 115, 0, 0, 0, 0, 0, [])),
  (115, (.aload 5, 117, 5, 0, 0, 0, 0, [])),
  (117, (.aload 4, 119, 4, 0, 0, 0, 0, [])),
  (119, (.getfield 241, 122, 3, 1, 238, 0, 4, [])),
  (122, (.invokevirtual 247, 125, 73, 2, 832, 0, 6, [0])),
  (125, (.ifCond .eq 7, 128, 132, 0, 0, 0, 0, [])),
  (128, (.iconst 1, 129, 0, 0, 0, 0, 0, [])),
  (129, (.goto 4, 132, 133, 0, 0, 0, 0, [])),
  (132, (.iconst 0, 133, 0, 0, 0, 0, 0, [])),
  (133, (.ireturn, 134, 0, 0, 0, 0, 0, [])),
  (134, (.aload 4, 136, 4, 0, 0, 0, 0, [])),
  (136, (.aload_n 0, 137, 0, 0, 0, 0, 0, [])),
  (137, (.getfield 33, 140, 9, 3, 317, 2, 10, [])),
  (140, (.invokevirtual 250, 143, 44, 2, 836, 0, 4, [0])),
  (143, (.ireturn, 144, 0, 0, 0, 0, 0, [])),
  (144, (.aload_n 0, 145, 0, 0, 0, 0, 0, [])),
  (145, (.getfield 26, 148, 9, 2, 316, 2, 10, [])),
  (148, (.aload_n 3, 149, 3, 0, 0, 0, 0, [])),
  (149, (.aload 5, 151, 5, 0, 0, 0, 0, [])),
  (151, (.aload 4, 153, 4, 0, 0, 0, 0, [])),
  (153, (.getfield 241, 156, 3, 1, 238, 0, 4, [])),
  (156, (.iload_n 1, 157, 1, 0, 0, 0, 0, [])),
  (157, (.invokevirtual 142, 160, 26, 5, 620, 0, 3, [0])),
  (160, (.ireturn, 161, 0, 0, 0, 0, 0, [])),
  (161, (.aload_n 3, 162, 3, 0, 0, 0, 0, [])),
  (162, (.aload 4, 164, 4, 0, 0, 0, 0, [])),
  (164, (.invokevirtual 253, 167, 14, 2, 842, 0, 1, [0])),
  (167, (.ireturn, 168, 0, 0, 0, 0, 0, [])),
  (168, (.iconst (-1), 169, 0, 0, 0, 0, 0, [])),
  (169, (.ireturn, 170, 0, 0, 0, 0, 0, []))]
def rn_m111 : rn_Mt := (yX9_label, cX9_label, 6, (some .int), false, 0, 0, 5, 124, rn_t111)
def rn_t112 : List (Nat × rn_E) := [(0, (.iload_n 1, 1, 1, 0, 0, 0, 0, [])),
  (1, (.iload_n 2, 2, 2, 0, 0, 0, 0, [])),
  (2, (.invokestatic 70, 5, 119, 2, 573, 0, 10, [0])),
  (5, (.ifCond .ne 5, 8, 10, 0, 0, 0, 0, [])),
  (8, (.iconst (-1), 9, 0, 0, 0, 0, 0, [])),
  (9, (.ireturn, 10, 0, 0, 0, 0, 0, [])),
  (10, (.aload_n 0, 11, 0, 0, 0, 0, 0, [])),
  (11, (.getfield 19, 14, 9, 1, 315, 2, 10, [])),
  (14, (.invokevirtual 166, 17, 20, 1, 739, 0, 2, [0])),
  (17, (.iload_n 1, 18, 1, 0, 0, 0, 0, [])),
  (18, (.iload_n 2, 19, 2, 0, 0, 0, 0, [])),
  (19, (.invokevirtual 257, 22, 18, 3, 850, 0, 1, [0])),
  (22, (.ireturn, 23, 0, 0, 0, 0, 0, []))]
def rn_m112 : rn_Mt := (yX9_written, cX9_written, 3, (some .int), false, 0, 0, 5, 117, rn_t112)
def rn_t113 : List (Nat × rn_E) := [(0, (.aload_n 0, 1, 0, 0, 0, 0, 0, [])),
  (1, (.getfield 19, 4, 9, 1, 315, 2, 10, [])),
  (4, (.invokevirtual 166, 7, 20, 1, 739, 0, 2, [0])),
  (7, (.iload_n 1, 8, 1, 0, 0, 0, 0, [])),
  (8, (.invokevirtual 112, 11, 5, 2, 593, 0, 1, [0])),
  (11, (.astore 4, 13, 4, 0, 0, 0, 0, [])),
  (13, (.aload 4, 15, 4, 0, 0, 0, 0, [])),
  (15, (.ifnull 20, 18, 35, 0, 0, 0, 0, [])),
  (18, (.iload_n 2, 19, 2, 0, 0, 0, 0, [])),
  (19, (.invokestatic 139, 22, 122, 1, 617, 0, 10, [0])),
  (22, (.ifCond .eq 13, 25, 35, 0, 0, 0, 0, [])),
  (25, (.iload_n 3, 26, 3, 0, 0, 0, 0, [])),
  (26, (.iconst 1, 27, 0, 0, 0, 0, 0, [])),
  (27, (.bipush 61, 29, 0, 0, 0, 0, 0, [])),
  (29, (.invokestatic 37, 32, 118, 3, 331, 0, 10, [0])),
  (32, (.ifCond .ne 5, 35, 37, 0, 0, 0, 0, [])),
  (35, (.iconst (-1), 36, 0, 0, 0, 0, 0, [])),
  (36, (.ireturn, 37, 0, 0, 0, 0, 0, [])),
  (37, (.iload_n 2, 38, 2, 0, 0, 0, 0, [])),
  (38, (.aload 4, 40, 4, 0, 0, 0, 0, [])),
  (40, (.iload_n 3, 41, 3, 0, 0, 0, 0, [])),
  (41, (.invokevirtual 260, 44, 68, 2, 864, 0, 6, [0])),
  (44, (.if_icmp .gt 13, 47, 57, 0, 0, 0, 0, [])),
  (47, (.aload 4, 49, 4, 0, 0, 0, 0, [])),
  (49, (.iload_n 2, 50, 2, 0, 0, 0, 0, [])),
  (50, (.iload_n 3, 51, 3, 0, 0, 0, 0, [])),
  (51, (.invokevirtual 198, 54, 70, 3, 797, 0, 6, [0])),
  (54, (.goto 5, 57, 59, 0, 0, 0, 0, [])),
  (57, (.bipush (-9), 59, 0, 0, 0, 0, 0, [])),
  (59, (.ireturn, 60, 0, 0, 0, 0, 0, []))]
def rn_m113 : rn_Mt := (yX9_bend, cX9_bend, 5, (some .int), false, 0, 0, 3, 67, rn_t113)
def rn_t114 : List (Nat × rn_E) := [(0, (.aload_n 0, 1, 0, 0, 0, 0, 0, [])),
  (1, (.getfield 19, 4, 9, 1, 315, 2, 10, [])),
  (4, (.invokevirtual 166, 7, 20, 1, 739, 0, 2, [0])),
  (7, (.iload_n 1, 8, 1, 0, 0, 0, 0, [])),
  (8, (.invokevirtual 112, 11, 5, 2, 593, 0, 1, [0])),
  (11, (.astore_n 3, 12, 3, 0, 0, 0, 0, [])),
  (12, (.aload_n 3, 13, 3, 0, 0, 0, 0, [])),
  (13, (.ifnull 13, 16, 26, 0, 0, 0, 0, [])),
  (16, (.iload_n 2, 17, 2, 0, 0, 0, 0, [])),
  (17, (.iconst 1, 18, 0, 0, 0, 0, 0, [])),
  (18, (.bipush 61, 20, 0, 0, 0, 0, 0, [])),
  (20, (.invokestatic 37, 23, 118, 3, 331, 0, 10, [0])),
  (23, (.ifCond .ne 5, 26, 28, 0, 0, 0, 0, [])),
  (26, (.iconst (-1), 27, 0, 0, 0, 0, 0, [])),
  (27, (.ireturn, 28, 0, 0, 0, 0, 0, [])),
  (28, (.aload_n 3, 29, 3, 0, 0, 0, 0, [])),
  (29, (.iload_n 2, 30, 2, 0, 0, 0, 0, [])),
  (30, (.invokevirtual 263, 33, 71, 2, 869, 0, 6, [0])),
  (33, (.ireturn, 34, 0, 0, 0, 0, 0, []))]
def rn_m114 : rn_Mt := (yX9_straightest, cX9_straightest, 4, (some .int), false, 0, 0, 4, 92, rn_t114)
def rn_t115 : List (Nat × rn_E) := [(0, (.aload_n 0, 1, 0, 0, 0, 0, 0, [])),
  (1, (.getfield 19, 4, 9, 1, 315, 2, 10, [])),
  (4, (.invokevirtual 166, 7, 20, 1, 739, 0, 2, [0])),
  (7, (.astore_n 3, 8, 3, 0, 0, 0, 0, [])),
  (8, (.aload_n 3, 9, 3, 0, 0, 0, 0, [])),
  (9, (.iload_n 1, 10, 1, 0, 0, 0, 0, [])),
  (10, (.invokevirtual 112, 13, 5, 2, 593, 0, 1, [0])),
  (13, (.astore 4, 15, 4, 0, 0, 0, 0, [])),
  (15, (.aload 4, 17, 4, 0, 0, 0, 0, [])),
  (17, (.ifnull 10, 20, 27, 0, 0, 0, 0, [])),
  (20, (.iload_n 2, 21, 2, 0, 0, 0, 0, [])),
  (21, (.invokestatic 139, 24, 122, 1, 617, 0, 10, [0])),
  (24, (.ifCond .ne 5, 27, 29, 0, 0, 0, 0, [])),
  (27, (.iconst (-1), 28, 0, 0, 0, 0, 0, [])),
  (28, (.ireturn, 29, 0, 0, 0, 0, 0, [])),
  (29, (.aload_n 0, 30, 0, 0, 0, 0, 0, [])),
  (30, (.getfield 26, 33, 9, 2, 316, 2, 10, [])),
  (33, (.aload_n 3, 34, 3, 0, 0, 0, 0, [])),
  (34, (.aload 4, 36, 4, 0, 0, 0, 0, [])),
  (36, (.iload_n 2, 37, 2, 0, 0, 0, 0, [])),
  (37, (.iconst (-1), 38, 0, 0, 0, 0, 0, [])),
  (38, (.invokevirtual 142, 41, 26, 5, 620, 0, 3, [0])),
  (41, (.ireturn, 42, 0, 0, 0, 0, 0, []))]
def rn_m115 : rn_Mt := (yX9_reason, cX9_reason, 5, (some .int), false, 0, 0, 5, 124, rn_t115)
def rn_t116 : List (Nat × rn_E) := [(0, (.aload_n 0, 1, 0, 0, 0, 0, 0, [])),
  (1, (.getfield 19, 4, 9, 1, 315, 2, 10, [])),
  (4, (.invokevirtual 166, 7, 20, 1, 739, 0, 2, [0])),
  (7, (.astore_n 3, 8, 3, 0, 0, 0, 0, [])),
  (8, (.aload_n 3, 9, 3, 0, 0, 0, 0, [])),
  (9, (.iload_n 1, 10, 1, 0, 0, 0, 0, [])),
  (10, (.invokevirtual 112, 13, 5, 2, 593, 0, 1, [0])),
  (13, (.astore 4, 15, 4, 0, 0, 0, 0, [])),
  (15, (.aload 4, 17, 4, 0, 0, 0, 0, [])),
  (17, (.ifnull 12, 20, 29, 0, 0, 0, 0, [])),
  (20, (.iload_n 2, 21, 2, 0, 0, 0, 0, [])),
  (21, (.iconst 0, 22, 0, 0, 0, 0, 0, [])),
  (22, (.iconst 1, 23, 0, 0, 0, 0, 0, [])),
  (23, (.invokestatic 37, 26, 118, 3, 331, 0, 10, [0])),
  (26, (.ifCond .ne 5, 29, 31, 0, 0, 0, 0, [])),
  (29, (.iconst (-1), 30, 0, 0, 0, 0, 0, [])),
  (30, (.ireturn, 31, 0, 0, 0, 0, 0, [])),
  (31, (.aload_n 0, 32, 0, 0, 0, 0, 0, [])),
  (32, (.getfield 26, 35, 9, 2, 316, 2, 10, [])),
  (35, (.aload_n 3, 36, 3, 0, 0, 0, 0, [])),
  (36, (.aload 4, 38, 4, 0, 0, 0, 0, [])),
  (38, (.invokevirtual 266, 41, 32, 3, 882, 0, 3, [0])),
  (41, (.istore 5, 43, 5, 0, 0, 0, 0, [])),
  (43, (.iload 5, 45, 5, 0, 0, 0, 0, [])),
  (45, (.bipush (-9), 47, 0, 0, 0, 0, 0, [])),
  (47, (.if_icmp .eq 7, 50, 54, 0, 0, 0, 0, [])),
  (50, (.iload_n 2, 51, 2, 0, 0, 0, 0, [])),
  (51, (.ifCond .ne 8, 54, 59, 0, 0, 0, 0, [])),
  (54, (.iload 5, 56, 5, 0, 0, 0, 0, [])),
  (56, (.goto 10, 59, 66, 0, 0, 0, 0, [])),
  (59, (.aload 4, 61, 4, 0, 0, 0, 0, [])),
  (61, (.iload 5, 63, 5, 0, 0, 0, 0, [])),
  (63, (.invokevirtual 244, 66, 72, 2, 831, 0, 6, [0])),
  (66, (.ireturn, 67, 0, 0, 0, 0, 0, []))]
def rn_m116 : rn_Mt := (yX9_best, cX9_best, 6, (some .int), false, 0, 0, 6, 143, rn_t116)
def rn_t117 : List (Nat × rn_E) := [(0, (.aload_n 0, 1, 0, 0, 0, 0, 0, [])),
  (1, (.getfield 19, 4, 9, 1, 315, 2, 10, [])),
  (4, (.invokevirtual 166, 7, 20, 1, 739, 0, 2, [0])),
  (7, (.astore_n 2, 8, 2, 0, 0, 0, 0, [])),
  (8, (.aload_n 2, 9, 2, 0, 0, 0, 0, [])),
  (9, (.iload_n 1, 10, 1, 0, 0, 0, 0, [])),
  (10, (.invokevirtual 112, 13, 5, 2, 593, 0, 1, [0])),
  (13, (.astore_n 3, 14, 3, 0, 0, 0, 0, [])),
  (14, (.aload_n 3, 15, 3, 0, 0, 0, 0, [])),
  (15, (.ifnonnull 7, 18, 22, 0, 0, 0, 0, [])),
  (18, (.iconst (-1), 19, 0, 0, 0, 0, 0, [])),
  (19, (.goto 12, 22, 31, 0, 0, 0, 0, [])),
  (22, (.aload_n 0, 23, 0, 0, 0, 0, 0, [])),
  (23, (.getfield 26, 26, 9, 2, 316, 2, 10, [])),
  (26, (.aload_n 2, 27, 2, 0, 0, 0, 0, [])),
  (27, (.aload_n 3, 28, 3, 0, 0, 0, 0, [])),
  (28, (.invokevirtual 270, 31, 34, 3, 890, 0, 3, [0])),
  (31, (.ireturn, 32, 0, 0, 0, 0, 0, []))]
def rn_m117 : rn_Mt := (yX9_rankFor, cX9_rankFor, 4, (some .int), false, 0, 0, 6, 145, rn_t117)
def rn_t118 : List (Nat × rn_E) := [(0, (.iload_n 0, 1, 0, 0, 0, 0, 0, [])),
  (1, (.iload_n 1, 2, 1, 0, 0, 0, 0, [])),
  (2, (.if_icmp .lt 12, 5, 14, 0, 0, 0, 0, [])),
  (5, (.iload_n 0, 6, 0, 0, 0, 0, 0, [])),
  (6, (.iload_n 2, 7, 2, 0, 0, 0, 0, [])),
  (7, (.if_icmp .gt 7, 10, 14, 0, 0, 0, 0, [])),
  (10, (.iconst 1, 11, 0, 0, 0, 0, 0, [])),
  (11, (.goto 4, 14, 15, 0, 0, 0, 0, [])),
  (14, (.iconst 0, 15, 0, 0, 0, 0, 0, [])),
  (15, (.ireturn, 16, 0, 0, 0, 1, 0, []))]
def rn_m118 : rn_Mt := (yX9_within, cX9_within, 3, (some .boolean), false, 0, 0, 0, 0, rn_t118)
def rn_t119 : List (Nat × rn_E) := [(0, (.iload_n 0, 1, 0, 0, 0, 0, 0, [])),
  (1, (.ifCond .lt 23, 4, 24, 0, 0, 0, 0, [])),
  (4, (.iload_n 0, 5, 0, 0, 0, 0, 0, [])),
  (5, (.bipush 60, 7, 0, 0, 0, 0, 0, [])),
  (7, (.if_icmp .ge 17, 10, 24, 0, 0, 0, 0, [])),
  (10, (.iload_n 1, 11, 1, 0, 0, 0, 0, [])),
  (11, (.ifCond .lt 13, 14, 24, 0, 0, 0, 0, [])),
  (14, (.iload_n 1, 15, 1, 0, 0, 0, 0, [])),
  (15, (.bipush 40, 17, 0, 0, 0, 0, 0, [])),
  (17, (.if_icmp .ge 7, 20, 24, 0, 0, 0, 0, [])),
  (20, (.iconst 1, 21, 0, 0, 0, 0, 0, [])),
  (21, (.goto 4, 24, 25, 0, 0, 0, 0, [])),
  (24, (.iconst 0, 25, 0, 0, 0, 0, 0, [])),
  (25, (.ireturn, 26, 0, 0, 0, 1, 0, []))]
def rn_m119 : rn_Mt := (yX9_onMap, cX9_onMap, 2, (some .boolean), false, 0, 0, 0, 0, rn_t119)
def rn_t120 : List (Nat × rn_E) := [(0, (.iload_n 0, 1, 0, 0, 0, 0, 0, [])),
  (1, (.iconst 1, 2, 0, 0, 0, 0, 0, [])),
  (2, (.bipush 9, 4, 0, 0, 0, 0, 0, [])),
  (4, (.invokestatic 37, 7, 118, 3, 331, 0, 10, [0])),
  (7, (.ireturn, 8, 0, 0, 0, 1, 0, []))]
def rn_m120 : rn_Mt := (yX9_isRank, cX9_isRank, 1, (some .boolean), false, 0, 0, 1, 22, rn_t120)
def rn_t121 : List (Nat × rn_E) := [(0, (.iload_n 0, 1, 0, 0, 0, 0, 0, [])),
  (1, (.iconst 0, 2, 0, 0, 0, 0, 0, [])),
  (2, (.iconst 2, 3, 0, 0, 0, 0, 0, [])),
  (3, (.invokestatic 37, 6, 118, 3, 331, 0, 10, [0])),
  (6, (.ireturn, 7, 0, 0, 0, 1, 0, []))]
def rn_m121 : rn_Mt := (yX9_isHalo, cX9_isHalo, 1, (some .boolean), false, 0, 0, 1, 22, rn_t121)
def rn_t122 : List (Nat × rn_E) := [(0, (.iload_n 0, 1, 0, 0, 0, 0, 0, [])),
  (1, (.iconst 0, 2, 0, 0, 0, 0, 0, [])),
  (2, (.bipush 60, 4, 0, 0, 0, 0, 0, [])),
  (4, (.invokestatic 37, 7, 118, 3, 331, 0, 10, [0])),
  (7, (.ireturn, 8, 0, 0, 0, 1, 0, []))]
def rn_m122 : rn_Mt := (yX9_isPlaceNumber, cX9_isPlaceNumber, 1, (some .boolean), false, 0, 0, 1, 22, rn_t122)
def rn_t123 : List (Nat × rn_E) := [(0, (.aload_n 0, 1, 0, 0, 0, 0, 0, [])),
  (1, (.invokespecial 1, 4, 1000, 1, 901, 2, 0, [0])),
  (4, (.aload_n 0, 5, 0, 0, 0, 0, 0, [])),
  (5, (.sipush 562, 8, 0, 0, 0, 0, 0, [])),
  (8, (.newarray .int, 10, 0, 0, 0, 0, 0, [])),
  (10, (.putfield 7, 13, 10, 0, 902, 2, 11, [])),
  (13, (.aload_n 0, 14, 0, 0, 0, 0, 0, [])),
  (14, (.sipush 2810, 17, 0, 0, 0, 0, 0, [])),
  (17, (.newarray .int, 19, 0, 0, 0, 0, 0, [])),
  (19, (.putfield 13, 22, 10, 1, 903, 2, 11, [])),
  (22, (.aload_n 0, 23, 0, 0, 0, 0, 0, [])),
  (23, (.sipush 150, 26, 0, 0, 0, 0, 0, [])),
  (26, (.newarray .int, 28, 0, 0, 0, 0, 0, [])),
  (28, (.putfield 16, 31, 10, 3, 905, 2, 11, [])),
  (31, (.aload_n 0, 32, 0, 0, 0, 0, 0, [])),
  (32, (.bipush 61, 34, 0, 0, 0, 0, 0, [])),
  (34, (.newarray .int, 36, 0, 0, 0, 0, 0, [])),
  (36, (.putfield 19, 39, 10, 5, 907, 2, 11, [])),
  (39, (.aload_n 0, 40, 0, 0, 0, 0, 0, [])),
  (40, (.bipush 61, 42, 0, 0, 0, 0, 0, [])),
  (42, (.newarray .int, 44, 0, 0, 0, 0, 0, [])),
  (44, (.putfield 22, 47, 10, 6, 908, 2, 11, [])),
  (47, (.aload_n 0, 48, 0, 0, 0, 0, 0, [])),
  (48, (.sipush 2400, 51, 0, 0, 0, 0, 0, [])),
  (51, (.newarray .int, 53, 0, 0, 0, 0, 0, [])),
  (53, (.putfield 25, 56, 10, 7, 909, 2, 11, [])),
  (56, (.aload_n 0, 57, 0, 0, 0, 0, 0, [])),
  (57, (.iconst 5, 58, 0, 0, 0, 0, 0, [])),
  (58, (.newarray .int, 60, 0, 0, 0, 0, 0, [])),
  (60, (.putfield 28, 63, 10, 12, 914, 2, 11, [])),
  (63, (.aload_n 0, 64, 0, 0, 0, 0, 0, [])),
  (64, (.sipush 562, 67, 0, 0, 0, 0, 0, [])),
  (67, (.newarray .int, 69, 0, 0, 0, 0, 0, [])),
  (69, (.putfield 31, 72, 10, 13, 915, 2, 11, [])),
  (72, (.aload_n 0, 73, 0, 0, 0, 0, 0, [])),
  (73, (.sipush 562, 76, 0, 0, 0, 0, 0, [])),
  (76, (.newarray .int, 78, 0, 0, 0, 0, 0, [])),
  (78, (.putfield 34, 81, 10, 14, 916, 2, 11, [])),
  (81, (.aload_n 0, 82, 0, 0, 0, 0, 0, [])),
  (82, (.getfield 7, 85, 10, 0, 902, 2, 11, [])),
  (85, (.iconst 3, 86, 0, 0, 0, 0, 0, [])),
  (86, (.bipush 10, 88, 0, 0, 0, 0, 0, [])),
  (88, (.iastore, 89, 0, 0, 0, 0, 0, [])),
  (89, (.return_, 90, 0, 0, 0, 0, 0, []))]
def rn_m123 : rn_Mt := (yX10_init, cX10_init, 1, none, true, 20, 10000, 1, 20, rn_t123)
def rn_t124 : List (Nat × rn_E) := [(0, (.iload_n 0, 1, 0, 0, 0, 0, 0, [])),
  (1, (.iload_n 1, 2, 1, 0, 0, 0, 0, [])),
  (2, (.if_icmp .lt 12, 5, 14, 0, 0, 0, 0, [])),
  (5, (.iload_n 0, 6, 0, 0, 0, 0, 0, [])),
  (6, (.iload_n 2, 7, 2, 0, 0, 0, 0, [])),
  (7, (.if_icmp .gt 7, 10, 14, 0, 0, 0, 0, [])),
  (10, (.iconst 1, 11, 0, 0, 0, 0, 0, [])),
  (11, (.goto 4, 14, 15, 0, 0, 0, 0, [])),
  (14, (.iconst 0, 15, 0, 0, 0, 0, 0, [])),
  (15, (.ireturn, 16, 0, 0, 0, 1, 0, []))]
def rn_m124 : rn_Mt := (yX10_in, cX10_in, 3, (some .boolean), false, 0, 0, 0, 0, rn_t124)
def rn_t125 : List (Nat × rn_E) := [(0, (.aload_n 0, 1, 0, 0, 0, 0, 0, [])),
  (1, (.getfield 37, 4, 10, 2, 904, 0, 11, [])),
  (4, (.iconst 5, 5, 0, 0, 0, 0, 0, [])),
  (5, (.if_icmp .ne 44, 8, 49, 0, 0, 0, 0, [])),
  (8, (.iconst 0, 9, 0, 0, 0, 0, 0, [])),
  (9, (.istore_n 1, 10, 1, 0, 0, 0, 0, [])),
  (10, (.iload_n 1, 11, 1, 0, 0, 0, 0, [])),
  (11, (.sipush 2248, 14, 0, 0, 0, 0, 0, [])),
  (14, (.if_icmp .ge 25, 17, 39, 0, 0, 0, 0, [])),
  (17, (.aload_n 0, 18, 0, 0, 0, 0, 0, [])),
  (18, (.getfield 13, 21, 10, 1, 903, 2, 11, [])),
  (21, (.iload_n 1, 22, 1, 0, 0, 0, 0, [])),
  (22, (.aload_n 0, 23, 0, 0, 0, 0, 0, [])),
  (23, (.getfield 13, 26, 10, 1, 903, 2, 11, [])),
  (26, (.iload_n 1, 27, 1, 0, 0, 0, 0, [])),
  (27, (.sipush 562, 30, 0, 0, 0, 0, 0, [])),
  (30, (.iadd, 31, 0, 0, 0, 0, 0, [])),
  (31, (.iaload, 32, 0, 0, 0, 0, 0, [])),
  (32, (.iastore, 33, 0, 0, 0, 0, 0, [])),
  (33, (.iinc 1 1, 36, 1, 0, 0, 0, 0, [])),
  (36, (.goto (-26), 39, 10, 0, 0, 0, 0, [])),
  (39, (.aload_n 0, 40, 0, 0, 0, 0, 0, [])),
  (40, (.dup, 41, 0, 0, 0, 0, 0, [])),
  (41, (.getfield 37, 44, 10, 2, 904, 0, 11, [])),
  (44, (.iconst 1, 45, 0, 0, 0, 0, 0, [])),
  (45, (.isub, 46, 0, 0, 0, 0, 0, [])),
  (46, (.putfield 37, 49, 10, 2, 904, 0, 11, [])),
  (49, (.iconst 0, 50, 0, 0, 0, 0, 0, [])),
  (50, (.istore_n 1, 51, 1, 0, 0, 0, 0, [])),
  (51, (.iload_n 1, 52, 1, 0, 0, 0, 0, [])),
  (52, (.sipush 562, 55, 0, 0, 0, 0, 0, [])),
  (55, (.if_icmp .ge 30, 58, 85, 0, 0, 0, 0, [])),
  (58, (.aload_n 0, 59, 0, 0, 0, 0, 0, [])),
  (59, (.getfield 13, 62, 10, 1, 903, 2, 11, [])),
  (62, (.sipush 562, 65, 0, 0, 0, 0, 0, [])),
  (65, (.aload_n 0, 66, 0, 0, 0, 0, 0, [])),
  (66, (.getfield 37, 69, 10, 2, 904, 0, 11, [])),
  (69, (.imul, 70, 0, 0, 0, 0, 0, [])),
  (70, (.iload_n 1, 71, 1, 0, 0, 0, 0, [])),
  (71, (.iadd, 72, 0, 0, 0, 0, 0, [])),
  (72, (.aload_n 0, 73, 0, 0, 0, 0, 0, [])),
  (73, (.getfield 7, 76, 10, 0, 902, 2, 11, [])),
  (76, (.iload_n 1, 77, 1, 0, 0, 0, 0, [])),
  (77, (.iaload, 78, 0, 0, 0, 0, 0, [])),
  (78, (.iastore, 79, 0, 0, 0, 0, 0, [])),
  (79, (.iinc 1 1, 82, 1, 0, 0, 0, 0, [])),
  (82, (.goto (-31), 85, 51, 0, 0, 0, 0, [])),
  (85, (.aload_n 0, 86, 0, 0, 0, 0, 0, [])),
  (86, (.dup, 87, 0, 0, 0, 0, 0, [])),
  (87, (.getfield 37, 90, 10, 2, 904, 0, 11, [])),
  (90, (.iconst 1, 91, 0, 0, 0, 0, 0, [])),
  (91, (.iadd, 92, 0, 0, 0, 0, 0, [])),
  (92, (.putfield 37, 95, 10, 2, 904, 0, 11, [])),
  (95, (.return_, 96, 0, 0, 0, 0, 0, []))]
def rn_m125 : rn_Mt := (yX10_records, cX10_records, 2, none, false, 0, 0, 0, 0, rn_t125)
def rn_t126 : List (Nat × rn_E) := [(0, (.aload_n 0, 1, 0, 0, 0, 0, 0, [])),
  (1, (.getfield 37, 4, 10, 2, 904, 0, 11, [])),
  (4, (.ifCond .ne 6, 7, 10, 0, 0, 0, 0, [])),
  (7, (.bipush (-2), 9, 0, 0, 0, 0, 0, [])),
  (9, (.ireturn, 10, 0, 0, 0, 0, 0, [])),
  (10, (.aload_n 0, 11, 0, 0, 0, 0, 0, [])),
  (11, (.dup, 12, 0, 0, 0, 0, 0, [])),
  (12, (.getfield 37, 15, 10, 2, 904, 0, 11, [])),
  (15, (.iconst 1, 16, 0, 0, 0, 0, 0, [])),
  (16, (.isub, 17, 0, 0, 0, 0, 0, [])),
  (17, (.putfield 37, 20, 10, 2, 904, 0, 11, [])),
  (20, (.iconst 0, 21, 0, 0, 0, 0, 0, [])),
  (21, (.istore_n 1, 22, 1, 0, 0, 0, 0, [])),
  (22, (.iload_n 1, 23, 1, 0, 0, 0, 0, [])),
  (23, (.sipush 562, 26, 0, 0, 0, 0, 0, [])),
  (26, (.if_icmp .ge 30, 29, 56, 0, 0, 0, 0, [])),
  (29, (.aload_n 0, 30, 0, 0, 0, 0, 0, [])),
  (30, (.getfield 7, 33, 10, 0, 902, 2, 11, [])),
  (33, (.iload_n 1, 34, 1, 0, 0, 0, 0, [])),
  (34, (.aload_n 0, 35, 0, 0, 0, 0, 0, [])),
  (35, (.getfield 13, 38, 10, 1, 903, 2, 11, [])),
  (38, (.sipush 562, 41, 0, 0, 0, 0, 0, [])),
  (41, (.aload_n 0, 42, 0, 0, 0, 0, 0, [])),
  (42, (.getfield 37, 45, 10, 2, 904, 0, 11, [])),
  (45, (.imul, 46, 0, 0, 0, 0, 0, [])),
  (46, (.iload_n 1, 47, 1, 0, 0, 0, 0, [])),
  (47, (.iadd, 48, 0, 0, 0, 0, 0, [])),
  (48, (.iaload, 49, 0, 0, 0, 0, 0, [])),
  (49, (.iastore, 50, 0, 0, 0, 0, 0, [])),
  (50, (.iinc 1 1, 53, 1, 0, 0, 0, 0, [])),
  (53, (.goto (-31), 56, 22, 0, 0, 0, 0, [])),
  (56, (.aload_n 0, 57, 0, 0, 0, 0, 0, [])),
  (57, (.getfield 37, 60, 10, 2, 904, 0, 11, [])),
  (60, (.ireturn, 61, 0, 0, 0, 0, 0, []))]
def rn_m126 : rn_Mt := (yX10_undo, cX10_undo, 2, (some .int), false, 0, 0, 0, 0, rn_t126)
def rn_t127 : List (Nat × rn_E) := [(0, (.iload_n 1, 1, 1, 0, 0, 0, 0, [])),
  (1, (.iconst 0, 2, 0, 0, 0, 0, 0, [])),
  (2, (.aload_n 0, 3, 0, 0, 0, 0, 0, [])),
  (3, (.getfield 7, 6, 10, 0, 902, 2, 11, [])),
  (6, (.iconst 0, 7, 0, 0, 0, 0, 0, [])),
  (7, (.iaload, 8, 0, 0, 0, 0, 0, [])),
  (8, (.iconst 1, 9, 0, 0, 0, 0, 0, [])),
  (9, (.isub, 10, 0, 0, 0, 0, 0, [])),
  (10, (.invokestatic 41, 13, 124, 3, 956, 0, 11, [0])),
  (13, (.ireturn, 14, 0, 0, 0, 1, 0, []))]
def rn_m127 : rn_Mt := (yX10_isRiver, cX10_isRiver, 2, (some .boolean), false, 0, 0, 1, 22, rn_t127)
def rn_t128 : List (Nat × rn_E) := [(0, (.iconst 4, 1, 0, 0, 0, 0, 0, [])),
  (1, (.bipush 78, 3, 0, 0, 0, 0, 0, [])),
  (3, (.iload_n 0, 4, 0, 0, 0, 0, 0, [])),
  (4, (.imul, 5, 0, 0, 0, 0, 0, [])),
  (5, (.iadd, 6, 0, 0, 0, 0, 0, [])),
  (6, (.ireturn, 7, 0, 0, 0, 0, 0, []))]
def rn_m128 : rn_Mt := (yX10_riverAt, cX10_riverAt, 1, (some .int), false, 0, 0, 0, 0, rn_t128)
def rn_t129 : List (Nat × rn_E) := [(0, (.aload_n 0, 1, 0, 0, 0, 0, 0, [])),
  (1, (.getfield 7, 4, 10, 0, 902, 2, 11, [])),
  (4, (.iload_n 1, 5, 1, 0, 0, 0, 0, [])),
  (5, (.invokestatic 45, 8, 128, 1, 976, 0, 11, [0])),
  (8, (.iload_n 2, 9, 2, 0, 0, 0, 0, [])),
  (9, (.iadd, 10, 0, 0, 0, 0, 0, [])),
  (10, (.iaload, 11, 0, 0, 0, 0, 0, [])),
  (11, (.ireturn, 12, 0, 0, 0, 0, 0, []))]
def rn_m129 : rn_Mt := (yX10_of, cX10_of, 3, (some .int), false, 0, 0, 1, 21, rn_t129)
def rn_t130 : List (Nat × rn_E) := [(0, (.iload_n 0, 1, 0, 0, 0, 0, 0, [])),
  (1, (.bipush 7, 3, 0, 0, 0, 0, 0, [])),
  (3, (.if_icmp .eq 8, 6, 11, 0, 0, 0, 0, [])),
  (6, (.iload_n 0, 7, 0, 0, 0, 0, 0, [])),
  (7, (.iconst 2, 8, 0, 0, 0, 0, 0, [])),
  (8, (.if_icmp .ge 7, 11, 15, 0, 0, 0, 0, [])),
  (11, (.iconst 1, 12, 0, 0, 0, 0, 0, [])),
  (12, (.goto 17, 15, 29, 0, 0, 0, 0, [])),
  (15, (.iload_n 0, 16, 0, 0, 0, 0, 0, [])),
  (16, (.iconst 3, 17, 0, 0, 0, 0, 0, [])),
  (17, (.iconst 5, 18, 0, 0, 0, 0, 0, [])),
  (18, (.invokestatic 41, 21, 124, 3, 956, 0, 11, [0])),
  (21, (.ifCond .eq 7, 24, 28, 0, 0, 0, 0, [])),
  (24, (.iconst (-1), 25, 0, 0, 0, 0, 0, [])),
  (25, (.goto 4, 28, 29, 0, 0, 0, 0, [])),
  (28, (.iconst 0, 29, 0, 0, 0, 0, 0, [])),
  (29, (.ireturn, 30, 0, 0, 0, 0, 0, []))]
def rn_m130 : rn_Mt := (yX10_stepX, cX10_stepX, 1, (some .int), false, 0, 0, 1, 22, rn_t130)
def rn_t131 : List (Nat × rn_E) := [(0, (.iload_n 0, 1, 0, 0, 0, 0, 0, [])),
  (1, (.iconst 1, 2, 0, 0, 0, 0, 0, [])),
  (2, (.iconst 3, 3, 0, 0, 0, 0, 0, [])),
  (3, (.invokestatic 41, 6, 124, 3, 956, 0, 11, [0])),
  (6, (.ifCond .eq 7, 9, 13, 0, 0, 0, 0, [])),
  (9, (.iconst 1, 10, 0, 0, 0, 0, 0, [])),
  (10, (.goto 13, 13, 23, 0, 0, 0, 0, [])),
  (13, (.iload_n 0, 14, 0, 0, 0, 0, 0, [])),
  (14, (.iconst 4, 15, 0, 0, 0, 0, 0, [])),
  (15, (.if_icmp .le 7, 18, 22, 0, 0, 0, 0, [])),
  (18, (.iconst (-1), 19, 0, 0, 0, 0, 0, [])),
  (19, (.goto 4, 22, 23, 0, 0, 0, 0, [])),
  (22, (.iconst 0, 23, 0, 0, 0, 0, 0, [])),
  (23, (.ireturn, 24, 0, 0, 0, 0, 0, []))]
def rn_m131 : rn_Mt := (yX10_stepY, cX10_stepY, 1, (some .int), false, 0, 0, 1, 22, rn_t131)
def rn_t132 : List (Nat × rn_E) := [(0, (.iload_n 0, 1, 0, 0, 0, 0, 0, [])),
  (1, (.iconst 0, 2, 0, 0, 0, 0, 0, [])),
  (2, (.bipush 59, 4, 0, 0, 0, 0, 0, [])),
  (4, (.invokestatic 41, 7, 124, 3, 956, 0, 11, [0])),
  (7, (.ifCond .eq 17, 10, 24, 0, 0, 0, 0, [])),
  (10, (.iload_n 1, 11, 1, 0, 0, 0, 0, [])),
  (11, (.iconst 0, 12, 0, 0, 0, 0, 0, [])),
  (12, (.bipush 39, 14, 0, 0, 0, 0, 0, [])),
  (14, (.invokestatic 41, 17, 124, 3, 956, 0, 11, [0])),
  (17, (.ifCond .eq 7, 20, 24, 0, 0, 0, 0, [])),
  (20, (.iconst 1, 21, 0, 0, 0, 0, 0, [])),
  (21, (.goto 4, 24, 25, 0, 0, 0, 0, [])),
  (24, (.iconst 0, 25, 0, 0, 0, 0, 0, [])),
  (25, (.ireturn, 26, 0, 0, 0, 1, 0, []))]
def rn_m132 : rn_Mt := (yX10_isOnMap, cX10_isOnMap, 2, (some .boolean), false, 0, 0, 1, 22, rn_t132)
def rn_t133 : List (Nat × rn_E) := [(0, (.aload_n 0, 1, 0, 0, 0, 0, 0, [])),
  (1, (.getfield 19, 4, 10, 5, 907, 2, 11, [])),
  (4, (.iconst 0, 5, 0, 0, 0, 0, 0, [])),
  (5, (.aload_n 0, 6, 0, 0, 0, 0, 0, [])),
  (6, (.iload_n 1, 7, 1, 0, 0, 0, 0, [])),
  (7, (.iconst 3, 8, 0, 0, 0, 0, 0, [])),
  (8, (.invokevirtual 49, 11, 129, 3, 1002, 0, 11, [0])),
  (11, (.iastore, 12, 0, 0, 0, 0, 0, [])),
  (12, (.aload_n 0, 13, 0, 0, 0, 0, 0, [])),
  (13, (.getfield 22, 16, 10, 6, 908, 2, 11, [])),
  (16, (.iconst 0, 17, 0, 0, 0, 0, 0, [])),
  (17, (.aload_n 0, 18, 0, 0, 0, 0, 0, [])),
  (18, (.iload_n 1, 19, 1, 0, 0, 0, 0, [])),
  (19, (.iconst 4, 20, 0, 0, 0, 0, 0, [])),
  (20, (.invokevirtual 49, 23, 129, 3, 1002, 0, 11, [0])),
  (23, (.iastore, 24, 0, 0, 0, 0, 0, [])),
  (24, (.iconst 0, 25, 0, 0, 0, 0, 0, [])),
  (25, (.istore_n 2, 26, 2, 0, 0, 0, 0, [])),
  (26, (.iload_n 2, 27, 2, 0, 0, 0, 0, [])),
  (27, (.aload_n 0, 28, 0, 0, 0, 0, 0, [])),
  (28, (.iload_n 1, 29, 1, 0, 0, 0, 0, [])),
  (29, (.iconst 5, 30, 0, 0, 0, 0, 0, [])),
  (30, (.invokevirtual 49, 33, 129, 3, 1002, 0, 11, [0])),
  (33, (.if_icmp .ge 63, 36, 96, 0, 0, 0, 0, [])),
  (36, (.aload_n 0, 37, 0, 0, 0, 0, 0, [])),
  (37, (.getfield 19, 40, 10, 5, 907, 2, 11, [])),
  (40, (.iload_n 2, 41, 2, 0, 0, 0, 0, [])),
  (41, (.iconst 1, 42, 0, 0, 0, 0, 0, [])),
  (42, (.iadd, 43, 0, 0, 0, 0, 0, [])),
  (43, (.aload_n 0, 44, 0, 0, 0, 0, 0, [])),
  (44, (.getfield 19, 47, 10, 5, 907, 2, 11, [])),
  (47, (.iload_n 2, 48, 2, 0, 0, 0, 0, [])),
  (48, (.iaload, 49, 0, 0, 0, 0, 0, [])),
  (49, (.aload_n 0, 50, 0, 0, 0, 0, 0, [])),
  (50, (.iload_n 1, 51, 1, 0, 0, 0, 0, [])),
  (51, (.bipush 18, 53, 0, 0, 0, 0, 0, [])),
  (53, (.iload_n 2, 54, 2, 0, 0, 0, 0, [])),
  (54, (.iadd, 55, 0, 0, 0, 0, 0, [])),
  (55, (.invokevirtual 49, 58, 129, 3, 1002, 0, 11, [0])),
  (58, (.invokestatic 53, 61, 130, 1, 1006, 0, 11, [0])),
  (61, (.iadd, 62, 0, 0, 0, 0, 0, [])),
  (62, (.iastore, 63, 0, 0, 0, 0, 0, [])),
  (63, (.aload_n 0, 64, 0, 0, 0, 0, 0, [])),
  (64, (.getfield 22, 67, 10, 6, 908, 2, 11, [])),
  (67, (.iload_n 2, 68, 2, 0, 0, 0, 0, [])),
  (68, (.iconst 1, 69, 0, 0, 0, 0, 0, [])),
  (69, (.iadd, 70, 0, 0, 0, 0, 0, [])),
  (70, (.aload_n 0, 71, 0, 0, 0, 0, 0, [])),
  (71, (.getfield 22, 74, 10, 6, 908, 2, 11, [])),
  (74, (.iload_n 2, 75, 2, 0, 0, 0, 0, [])),
  (75, (.iaload, 76, 0, 0, 0, 0, 0, [])),
  (76, (.aload_n 0, 77, 0, 0, 0, 0, 0, [])),
  (77, (.iload_n 1, 78, 1, 0, 0, 0, 0, [])),
  (78, (.bipush 18, 80, 0, 0, 0, 0, 0, [])),
  (80, (.iload_n 2, 81, 2, 0, 0, 0, 0, [])),
  (81, (.iadd, 82, 0, 0, 0, 0, 0, [])),
  (82, (.invokevirtual 49, 85, 129, 3, 1002, 0, 11, [0])),
  (85, (.invokestatic 56, 88, 131, 1, 1009, 0, 11, [0])),
  (88, (.iadd, 89, 0, 0, 0, 0, 0, [])),
  (89, (.iastore, 90, 0, 0, 0, 0, 0, [])),
  (90, (.iinc 2 1, 93, 2, 0, 0, 0, 0, [])),
  (93, (.goto (-67), 96, 26, 0, 0, 0, 0, [])),
  (96, (.return_, 97, 0, 0, 0, 0, 0, []))]
def rn_m133 : rn_Mt := (yX10_walks, cX10_walks, 3, none, false, 0, 0, 2, 43, rn_t133)
def rn_t134 : List (Nat × rn_E) := [(0, (.iload_n 0, 1, 0, 0, 0, 0, 0, [])),
  (1, (.iconst 1, 2, 0, 0, 0, 0, 0, [])),
  (2, (.bipush 9, 4, 0, 0, 0, 0, 0, [])),
  (4, (.invokestatic 41, 7, 124, 3, 956, 0, 11, [0])),
  (7, (.ireturn, 8, 0, 0, 0, 1, 0, []))]
def rn_m134 : rn_Mt := (yX10_isRank, cX10_isRank, 1, (some .boolean), false, 0, 0, 1, 22, rn_t134)
def rn_t135 : List (Nat × rn_E) := [(0, (.iload_n 0, 1, 0, 0, 0, 0, 0, [])),
  (1, (.iconst 0, 2, 0, 0, 0, 0, 0, [])),
  (2, (.iconst 2, 3, 0, 0, 0, 0, 0, [])),
  (3, (.invokestatic 41, 6, 124, 3, 956, 0, 11, [0])),
  (6, (.ireturn, 7, 0, 0, 0, 1, 0, []))]
def rn_m135 : rn_Mt := (yX10_isHalo, cX10_isHalo, 1, (some .boolean), false, 0, 0, 1, 22, rn_t135)
def rn_t136 : List (Nat × rn_E) := [(0, (.aload_n 0, 1, 0, 0, 0, 0, 0, [])),
  (1, (.getfield 7, 4, 10, 0, 902, 2, 11, [])),
  (4, (.iconst 0, 5, 0, 0, 0, 0, 0, [])),
  (5, (.iaload, 6, 0, 0, 0, 0, 0, [])),
  (6, (.invokestatic 45, 9, 128, 1, 976, 0, 11, [0])),
  (9, (.istore 6, 11, 6, 0, 0, 0, 0, [])),
  (11, (.iconst 0, 12, 0, 0, 0, 0, 0, [])),
  (12, (.istore 7, 14, 7, 0, 0, 0, 0, [])),
  (14, (.iload 7, 16, 7, 0, 0, 0, 0, [])),
  (16, (.bipush 78, 18, 0, 0, 0, 0, 0, [])),
  (18, (.if_icmp .ge 20, 21, 38, 0, 0, 0, 0, [])),
  (21, (.aload_n 0, 22, 0, 0, 0, 0, 0, [])),
  (22, (.getfield 7, 25, 10, 0, 902, 2, 11, [])),
  (25, (.iload 6, 27, 6, 0, 0, 0, 0, [])),
  (27, (.iload 7, 29, 7, 0, 0, 0, 0, [])),
  (29, (.iadd, 30, 0, 0, 0, 0, 0, [])),
  (30, (.iconst 0, 31, 0, 0, 0, 0, 0, [])),
  (31, (.iastore, 32, 0, 0, 0, 0, 0, [])),
  (32, (.iinc 7 1, 35, 7, 0, 0, 0, 0, [])),
  (35, (.goto (-21), 38, 14, 0, 0, 0, 0, [])),
  (38, (.aload_n 0, 39, 0, 0, 0, 0, 0, [])),
  (39, (.getfield 7, 42, 10, 0, 902, 2, 11, [])),
  (42, (.iload 6, 44, 6, 0, 0, 0, 0, [])),
  (44, (.iconst 0, 45, 0, 0, 0, 0, 0, [])),
  (45, (.iadd, 46, 0, 0, 0, 0, 0, [])),
  (46, (.iload_n 1, 47, 1, 0, 0, 0, 0, [])),
  (47, (.iastore, 48, 0, 0, 0, 0, 0, [])),
  (48, (.aload_n 0, 49, 0, 0, 0, 0, 0, [])),
  (49, (.getfield 7, 52, 10, 0, 902, 2, 11, [])),
  (52, (.iload 6, 54, 6, 0, 0, 0, 0, [])),
  (54, (.iconst 1, 55, 0, 0, 0, 0, 0, [])),
  (55, (.iadd, 56, 0, 0, 0, 0, 0, [])),
  (56, (.iload 4, 58, 4, 0, 0, 0, 0, [])),
  (58, (.iastore, 59, 0, 0, 0, 0, 0, [])),
  (59, (.aload_n 0, 60, 0, 0, 0, 0, 0, [])),
  (60, (.getfield 7, 63, 10, 0, 902, 2, 11, [])),
  (63, (.iload 6, 65, 6, 0, 0, 0, 0, [])),
  (65, (.iconst 2, 66, 0, 0, 0, 0, 0, [])),
  (66, (.iadd, 67, 0, 0, 0, 0, 0, [])),
  (67, (.iload 5, 69, 5, 0, 0, 0, 0, [])),
  (69, (.iastore, 70, 0, 0, 0, 0, 0, [])),
  (70, (.aload_n 0, 71, 0, 0, 0, 0, 0, [])),
  (71, (.getfield 7, 74, 10, 0, 902, 2, 11, [])),
  (74, (.iload 6, 76, 6, 0, 0, 0, 0, [])),
  (76, (.iconst 3, 77, 0, 0, 0, 0, 0, [])),
  (77, (.iadd, 78, 0, 0, 0, 0, 0, [])),
  (78, (.iload_n 2, 79, 2, 0, 0, 0, 0, [])),
  (79, (.iastore, 80, 0, 0, 0, 0, 0, [])),
  (80, (.aload_n 0, 81, 0, 0, 0, 0, 0, [])),
  (81, (.getfield 7, 84, 10, 0, 902, 2, 11, [])),
  (84, (.iload 6, 86, 6, 0, 0, 0, 0, [])),
  (86, (.iconst 4, 87, 0, 0, 0, 0, 0, [])),
  (87, (.iadd, 88, 0, 0, 0, 0, 0, [])),
  (88, (.iload_n 3, 89, 3, 0, 0, 0, 0, [])),
  (89, (.iastore, 90, 0, 0, 0, 0, 0, [])),
  (90, (.iconst 0, 91, 0, 0, 0, 0, 0, [])),
  (91, (.istore 7, 93, 7, 0, 0, 0, 0, [])),
  (93, (.iload 7, 95, 7, 0, 0, 0, 0, [])),
  (95, (.iload_n 1, 96, 1, 0, 0, 0, 0, [])),
  (96, (.if_icmp .ge 27, 99, 123, 0, 0, 0, 0, [])),
  (99, (.aload_n 0, 100, 0, 0, 0, 0, 0, [])),
  (100, (.getfield 7, 103, 10, 0, 902, 2, 11, [])),
  (103, (.iload 6, 105, 6, 0, 0, 0, 0, [])),
  (105, (.bipush 6, 107, 0, 0, 0, 0, 0, [])),
  (107, (.iadd, 108, 0, 0, 0, 0, 0, [])),
  (108, (.iload 7, 110, 7, 0, 0, 0, 0, [])),
  (110, (.iadd, 111, 0, 0, 0, 0, 0, [])),
  (111, (.bipush 97, 113, 0, 0, 0, 0, 0, [])),
  (113, (.iload 7, 115, 7, 0, 0, 0, 0, [])),
  (115, (.iadd, 116, 0, 0, 0, 0, 0, [])),
  (116, (.iastore, 117, 0, 0, 0, 0, 0, [])),
  (117, (.iinc 7 1, 120, 7, 0, 0, 0, 0, [])),
  (120, (.goto (-27), 123, 93, 0, 0, 0, 0, [])),
  (123, (.aload_n 0, 124, 0, 0, 0, 0, 0, [])),
  (124, (.getfield 7, 127, 10, 0, 902, 2, 11, [])),
  (127, (.iconst 0, 128, 0, 0, 0, 0, 0, [])),
  (128, (.dup2, 129, 0, 0, 0, 0, 0, [])),
  (129, (.iaload, 130, 0, 0, 0, 0, 0, [])),
  (130, (.iconst 1, 131, 0, 0, 0, 0, 0, [])),
  (131, (.iadd, 132, 0, 0, 0, 0, 0, [])),
  (132, (.iastore, 133, 0, 0, 0, 0, 0, [])),
  (133, (.aload_n 0, 134, 0, 0, 0, 0, 0, [])),
  (134, (.getfield 7, 137, 10, 0, 902, 2, 11, [])),
  (137, (.iconst 0, 138, 0, 0, 0, 0, 0, [])),
  (138, (.iaload, 139, 0, 0, 0, 0, 0, [])),
  (139, (.iconst 1, 140, 0, 0, 0, 0, 0, [])),
  (140, (.isub, 141, 0, 0, 0, 0, 0, [])),
  (141, (.ireturn, 142, 0, 0, 0, 0, 0, []))]
def rn_m136 : rn_Mt := (yX10_comesRiver, cX10_comesRiver, 8, (some .int), false, 0, 0, 1, 21, rn_t136)
def rn_t137 : List (Nat × rn_E) := [(0, (.iload_n 1, 1, 1, 0, 0, 0, 0, [])),
  (1, (.iconst 1, 2, 0, 0, 0, 0, 0, [])),
  (2, (.bipush 12, 4, 0, 0, 0, 0, 0, [])),
  (4, (.invokestatic 41, 7, 124, 3, 956, 0, 11, [0])),
  (7, (.ifCond .eq 27, 10, 34, 0, 0, 0, 0, [])),
  (10, (.iload_n 2, 11, 2, 0, 0, 0, 0, [])),
  (11, (.iload_n 3, 12, 3, 0, 0, 0, 0, [])),
  (12, (.invokestatic 59, 15, 132, 2, 959, 0, 11, [0])),
  (15, (.ifCond .eq 19, 18, 34, 0, 0, 0, 0, [])),
  (18, (.iload 4, 20, 4, 0, 0, 0, 0, [])),
  (20, (.invokestatic 63, 23, 134, 1, 962, 0, 11, [0])),
  (23, (.ifCond .eq 11, 26, 34, 0, 0, 0, 0, [])),
  (26, (.iload 5, 28, 5, 0, 0, 0, 0, [])),
  (28, (.invokestatic 67, 31, 135, 1, 965, 0, 11, [0])),
  (31, (.ifCond .ne 5, 34, 36, 0, 0, 0, 0, [])),
  (34, (.iconst (-1), 35, 0, 0, 0, 0, 0, [])),
  (35, (.ireturn, 36, 0, 0, 0, 0, 0, [])),
  (36, (.aload_n 0, 37, 0, 0, 0, 0, 0, [])),
  (37, (.getfield 7, 40, 10, 0, 902, 2, 11, [])),
  (40, (.iconst 0, 41, 0, 0, 0, 0, 0, [])),
  (41, (.iaload, 42, 0, 0, 0, 0, 0, [])),
  (42, (.bipush 6, 44, 0, 0, 0, 0, 0, [])),
  (44, (.if_icmp .ne 6, 47, 50, 0, 0, 0, 0, [])),
  (47, (.bipush (-3), 49, 0, 0, 0, 0, 0, [])),
  (49, (.ireturn, 50, 0, 0, 0, 0, 0, [])),
  (50, (.aload_n 0, 51, 0, 0, 0, 0, 0, [])),
  (51, (.invokevirtual 70, 54, 125, 1, 968, 0, 11, [0])),
  (54, (.aload_n 0, 55, 0, 0, 0, 0, 0, [])),
  (55, (.iload_n 1, 56, 1, 0, 0, 0, 0, [])),
  (56, (.iload_n 2, 57, 2, 0, 0, 0, 0, [])),
  (57, (.iload_n 3, 58, 3, 0, 0, 0, 0, [])),
  (58, (.iload 4, 60, 4, 0, 0, 0, 0, [])),
  (60, (.iload 5, 62, 5, 0, 0, 0, 0, [])),
  (62, (.invokevirtual 73, 65, 136, 6, 972, 0, 11, [0])),
  (65, (.ireturn, 66, 0, 0, 0, 0, 0, []))]
def rn_m137 : rn_Mt := (yX10_addRiver, cX10_addRiver, 6, (some .int), false, 0, 0, 2, 48, rn_t137)
def rn_t138 : List (Nat × rn_E) := [(0, (.iload_n 0, 1, 0, 0, 0, 0, 0, [])),
  (1, (.iload_n 1, 2, 1, 0, 0, 0, 0, [])),
  (2, (.invokestatic 59, 5, 132, 2, 959, 0, 11, [0])),
  (5, (.ifCond .eq 42, 8, 47, 0, 0, 0, 0, [])),
  (8, (.iload_n 2, 9, 2, 0, 0, 0, 0, [])),
  (9, (.iconst 1, 10, 0, 0, 0, 0, 0, [])),
  (10, (.bipush 12, 12, 0, 0, 0, 0, 0, [])),
  (12, (.invokestatic 41, 15, 124, 3, 956, 0, 11, [0])),
  (15, (.ifCond .eq 32, 18, 47, 0, 0, 0, 0, [])),
  (18, (.iload_n 3, 19, 3, 0, 0, 0, 0, [])),
  (19, (.iconst 1, 20, 0, 0, 0, 0, 0, [])),
  (20, (.iconst 3, 21, 0, 0, 0, 0, 0, [])),
  (21, (.invokestatic 41, 24, 124, 3, 956, 0, 11, [0])),
  (24, (.ifCond .eq 23, 27, 47, 0, 0, 0, 0, [])),
  (27, (.iload_n 0, 28, 0, 0, 0, 0, 0, [])),
  (28, (.iload_n 2, 29, 2, 0, 0, 0, 0, [])),
  (29, (.iadd, 30, 0, 0, 0, 0, 0, [])),
  (30, (.bipush 60, 32, 0, 0, 0, 0, 0, [])),
  (32, (.if_icmp .gt 15, 35, 47, 0, 0, 0, 0, [])),
  (35, (.iload_n 1, 36, 1, 0, 0, 0, 0, [])),
  (36, (.iload_n 3, 37, 3, 0, 0, 0, 0, [])),
  (37, (.iadd, 38, 0, 0, 0, 0, 0, [])),
  (38, (.bipush 40, 40, 0, 0, 0, 0, 0, [])),
  (40, (.if_icmp .gt 7, 43, 47, 0, 0, 0, 0, [])),
  (43, (.iconst 1, 44, 0, 0, 0, 0, 0, [])),
  (44, (.goto 4, 47, 48, 0, 0, 0, 0, [])),
  (47, (.iconst 0, 48, 0, 0, 0, 0, 0, [])),
  (48, (.ireturn, 49, 0, 0, 0, 1, 0, []))]
def rn_m138 : rn_Mt := (yX10_isTown, cX10_isTown, 4, (some .boolean), false, 0, 0, 2, 43, rn_t138)
def rn_t139 : List (Nat × rn_E) := [(0, (.sipush 472, 3, 0, 0, 0, 0, 0, [])),
  (3, (.iconst 5, 4, 0, 0, 0, 0, 0, [])),
  (4, (.aload_n 0, 5, 0, 0, 0, 0, 0, [])),
  (5, (.getfield 7, 8, 10, 0, 902, 2, 11, [])),
  (8, (.iconst 1, 9, 0, 0, 0, 0, 0, [])),
  (9, (.iaload, 10, 0, 0, 0, 0, 0, [])),
  (10, (.imul, 11, 0, 0, 0, 0, 0, [])),
  (11, (.iadd, 12, 0, 0, 0, 0, 0, [])),
  (12, (.istore 6, 14, 6, 0, 0, 0, 0, [])),
  (14, (.aload_n 0, 15, 0, 0, 0, 0, 0, [])),
  (15, (.getfield 7, 18, 10, 0, 902, 2, 11, [])),
  (18, (.iload 6, 20, 6, 0, 0, 0, 0, [])),
  (20, (.iload_n 1, 21, 1, 0, 0, 0, 0, [])),
  (21, (.iastore, 22, 0, 0, 0, 0, 0, [])),
  (22, (.aload_n 0, 23, 0, 0, 0, 0, 0, [])),
  (23, (.getfield 7, 26, 10, 0, 902, 2, 11, [])),
  (26, (.iload 6, 28, 6, 0, 0, 0, 0, [])),
  (28, (.iconst 1, 29, 0, 0, 0, 0, 0, [])),
  (29, (.iadd, 30, 0, 0, 0, 0, 0, [])),
  (30, (.iload_n 2, 31, 2, 0, 0, 0, 0, [])),
  (31, (.iastore, 32, 0, 0, 0, 0, 0, [])),
  (32, (.aload_n 0, 33, 0, 0, 0, 0, 0, [])),
  (33, (.getfield 7, 36, 10, 0, 902, 2, 11, [])),
  (36, (.iload 6, 38, 6, 0, 0, 0, 0, [])),
  (38, (.iconst 2, 39, 0, 0, 0, 0, 0, [])),
  (39, (.iadd, 40, 0, 0, 0, 0, 0, [])),
  (40, (.iload_n 3, 41, 3, 0, 0, 0, 0, [])),
  (41, (.iastore, 42, 0, 0, 0, 0, 0, [])),
  (42, (.aload_n 0, 43, 0, 0, 0, 0, 0, [])),
  (43, (.getfield 7, 46, 10, 0, 902, 2, 11, [])),
  (46, (.iload 6, 48, 6, 0, 0, 0, 0, [])),
  (48, (.iconst 3, 49, 0, 0, 0, 0, 0, [])),
  (49, (.iadd, 50, 0, 0, 0, 0, 0, [])),
  (50, (.iload 4, 52, 4, 0, 0, 0, 0, [])),
  (52, (.iastore, 53, 0, 0, 0, 0, 0, [])),
  (53, (.aload_n 0, 54, 0, 0, 0, 0, 0, [])),
  (54, (.getfield 7, 57, 10, 0, 902, 2, 11, [])),
  (57, (.iload 6, 59, 6, 0, 0, 0, 0, [])),
  (59, (.iconst 4, 60, 0, 0, 0, 0, 0, [])),
  (60, (.iadd, 61, 0, 0, 0, 0, 0, [])),
  (61, (.iload 5, 63, 5, 0, 0, 0, 0, [])),
  (63, (.iastore, 64, 0, 0, 0, 0, 0, [])),
  (64, (.aload_n 0, 65, 0, 0, 0, 0, 0, [])),
  (65, (.getfield 7, 68, 10, 0, 902, 2, 11, [])),
  (68, (.iconst 1, 69, 0, 0, 0, 0, 0, [])),
  (69, (.dup2, 70, 0, 0, 0, 0, 0, [])),
  (70, (.iaload, 71, 0, 0, 0, 0, 0, [])),
  (71, (.iconst 1, 72, 0, 0, 0, 0, 0, [])),
  (72, (.iadd, 73, 0, 0, 0, 0, 0, [])),
  (73, (.iastore, 74, 0, 0, 0, 0, 0, [])),
  (74, (.aload_n 0, 75, 0, 0, 0, 0, 0, [])),
  (75, (.getfield 7, 78, 10, 0, 902, 2, 11, [])),
  (78, (.iconst 1, 79, 0, 0, 0, 0, 0, [])),
  (79, (.iaload, 80, 0, 0, 0, 0, 0, [])),
  (80, (.iconst 1, 81, 0, 0, 0, 0, 0, [])),
  (81, (.isub, 82, 0, 0, 0, 0, 0, [])),
  (82, (.ireturn, 83, 0, 0, 0, 0, 0, []))]
def rn_m139 : rn_Mt := (yX10_comesTown, cX10_comesTown, 7, (some .int), false, 0, 0, 0, 0, rn_t139)
def rn_t140 : List (Nat × rn_E) := [(0, (.iload_n 1, 1, 1, 0, 0, 0, 0, [])),
  (1, (.iload_n 2, 2, 2, 0, 0, 0, 0, [])),
  (2, (.iload_n 3, 3, 3, 0, 0, 0, 0, [])),
  (3, (.iload 4, 5, 4, 0, 0, 0, 0, [])),
  (5, (.invokestatic 77, 8, 138, 4, 983, 0, 11, [0])),
  (8, (.ifCond .eq 11, 11, 19, 0, 0, 0, 0, [])),
  (11, (.iload 5, 13, 5, 0, 0, 0, 0, [])),
  (13, (.invokestatic 63, 16, 134, 1, 962, 0, 11, [0])),
  (16, (.ifCond .ne 5, 19, 21, 0, 0, 0, 0, [])),
  (19, (.iconst (-1), 20, 0, 0, 0, 0, 0, [])),
  (20, (.ireturn, 21, 0, 0, 0, 0, 0, [])),
  (21, (.aload_n 0, 22, 0, 0, 0, 0, 0, [])),
  (22, (.getfield 7, 25, 10, 0, 902, 2, 11, [])),
  (25, (.iconst 1, 26, 0, 0, 0, 0, 0, [])),
  (26, (.iaload, 27, 0, 0, 0, 0, 0, [])),
  (27, (.bipush 10, 29, 0, 0, 0, 0, 0, [])),
  (29, (.if_icmp .ne 6, 32, 35, 0, 0, 0, 0, [])),
  (32, (.bipush (-3), 34, 0, 0, 0, 0, 0, [])),
  (34, (.ireturn, 35, 0, 0, 0, 0, 0, [])),
  (35, (.aload_n 0, 36, 0, 0, 0, 0, 0, [])),
  (36, (.invokevirtual 70, 39, 125, 1, 968, 0, 11, [0])),
  (39, (.aload_n 0, 40, 0, 0, 0, 0, 0, [])),
  (40, (.iload_n 1, 41, 1, 0, 0, 0, 0, [])),
  (41, (.iload_n 2, 42, 2, 0, 0, 0, 0, [])),
  (42, (.iload_n 3, 43, 3, 0, 0, 0, 0, [])),
  (43, (.iload 4, 45, 4, 0, 0, 0, 0, [])),
  (45, (.iload 5, 47, 5, 0, 0, 0, 0, [])),
  (47, (.invokevirtual 81, 50, 139, 6, 986, 0, 11, [0])),
  (50, (.ireturn, 51, 0, 0, 0, 0, 0, []))]
def rn_m140 : rn_Mt := (yX10_addTown, cX10_addTown, 6, (some .int), false, 0, 0, 3, 66, rn_t140)
def rn_t141 : List (Nat × rn_E) := [(0, (.iload_n 1, 1, 1, 0, 0, 0, 0, [])),
  (1, (.invokestatic 45, 4, 128, 1, 976, 0, 11, [0])),
  (4, (.istore_n 3, 5, 3, 0, 0, 0, 0, [])),
  (5, (.aload_n 0, 6, 0, 0, 0, 0, 0, [])),
  (6, (.getfield 7, 9, 10, 0, 902, 2, 11, [])),
  (9, (.iload_n 3, 10, 3, 0, 0, 0, 0, [])),
  (10, (.bipush 18, 12, 0, 0, 0, 0, 0, [])),
  (12, (.iadd, 13, 0, 0, 0, 0, 0, [])),
  (13, (.aload_n 0, 14, 0, 0, 0, 0, 0, [])),
  (14, (.getfield 7, 17, 10, 0, 902, 2, 11, [])),
  (17, (.iload_n 3, 18, 3, 0, 0, 0, 0, [])),
  (18, (.iconst 5, 19, 0, 0, 0, 0, 0, [])),
  (19, (.iadd, 20, 0, 0, 0, 0, 0, [])),
  (20, (.iaload, 21, 0, 0, 0, 0, 0, [])),
  (21, (.iadd, 22, 0, 0, 0, 0, 0, [])),
  (22, (.iload_n 2, 23, 2, 0, 0, 0, 0, [])),
  (23, (.iastore, 24, 0, 0, 0, 0, 0, [])),
  (24, (.aload_n 0, 25, 0, 0, 0, 0, 0, [])),
  (25, (.getfield 7, 28, 10, 0, 902, 2, 11, [])),
  (28, (.iload_n 3, 29, 3, 0, 0, 0, 0, [])),
  (29, (.iconst 5, 30, 0, 0, 0, 0, 0, [])),
  (30, (.iadd, 31, 0, 0, 0, 0, 0, [])),
  (31, (.dup2, 32, 0, 0, 0, 0, 0, [])),
  (32, (.iaload, 33, 0, 0, 0, 0, 0, [])),
  (33, (.iconst 1, 34, 0, 0, 0, 0, 0, [])),
  (34, (.iadd, 35, 0, 0, 0, 0, 0, [])),
  (35, (.iastore, 36, 0, 0, 0, 0, 0, [])),
  (36, (.return_, 37, 0, 0, 0, 0, 0, []))]
def rn_m141 : rn_Mt := (yX10_lengthens, cX10_lengthens, 4, none, false, 0, 0, 1, 21, rn_t141)
def rn_t142 : List (Nat × rn_E) := [(0, (.aload_n 0, 1, 0, 0, 0, 0, 0, [])),
  (1, (.iload_n 1, 2, 1, 0, 0, 0, 0, [])),
  (2, (.invokevirtual 84, 5, 127, 2, 994, 0, 11, [0])),
  (5, (.ifCond .eq 13, 8, 18, 0, 0, 0, 0, [])),
  (8, (.iload_n 2, 9, 2, 0, 0, 0, 0, [])),
  (9, (.iconst 0, 10, 0, 0, 0, 0, 0, [])),
  (10, (.bipush 7, 12, 0, 0, 0, 0, 0, [])),
  (12, (.invokestatic 41, 15, 124, 3, 956, 0, 11, [0])),
  (15, (.ifCond .ne 5, 18, 20, 0, 0, 0, 0, [])),
  (18, (.iconst (-1), 19, 0, 0, 0, 0, 0, [])),
  (19, (.ireturn, 20, 0, 0, 0, 0, 0, [])),
  (20, (.aload_n 0, 21, 0, 0, 0, 0, 0, [])),
  (21, (.iload_n 1, 22, 1, 0, 0, 0, 0, [])),
  (22, (.invokevirtual 87, 25, 133, 2, 998, 0, 11, [0])),
  (25, (.aload_n 0, 26, 0, 0, 0, 0, 0, [])),
  (26, (.iload_n 1, 27, 1, 0, 0, 0, 0, [])),
  (27, (.iconst 5, 28, 0, 0, 0, 0, 0, [])),
  (28, (.invokevirtual 49, 31, 129, 3, 1002, 0, 11, [0])),
  (31, (.istore_n 3, 32, 3, 0, 0, 0, 0, [])),
  (32, (.aload_n 0, 33, 0, 0, 0, 0, 0, [])),
  (33, (.getfield 19, 36, 10, 5, 907, 2, 11, [])),
  (36, (.iload_n 3, 37, 3, 0, 0, 0, 0, [])),
  (37, (.iaload, 38, 0, 0, 0, 0, 0, [])),
  (38, (.iload_n 2, 39, 2, 0, 0, 0, 0, [])),
  (39, (.invokestatic 53, 42, 130, 1, 1006, 0, 11, [0])),
  (42, (.iadd, 43, 0, 0, 0, 0, 0, [])),
  (43, (.aload_n 0, 44, 0, 0, 0, 0, 0, [])),
  (44, (.getfield 22, 47, 10, 6, 908, 2, 11, [])),
  (47, (.iload_n 3, 48, 3, 0, 0, 0, 0, [])),
  (48, (.iaload, 49, 0, 0, 0, 0, 0, [])),
  (49, (.iload_n 2, 50, 2, 0, 0, 0, 0, [])),
  (50, (.invokestatic 56, 53, 131, 1, 1009, 0, 11, [0])),
  (53, (.iadd, 54, 0, 0, 0, 0, 0, [])),
  (54, (.invokestatic 59, 57, 132, 2, 959, 0, 11, [0])),
  (57, (.ifCond .ne 6, 60, 63, 0, 0, 0, 0, [])),
  (60, (.bipush (-2), 62, 0, 0, 0, 0, 0, [])),
  (62, (.ireturn, 63, 0, 0, 0, 0, 0, [])),
  (63, (.iload_n 3, 64, 3, 0, 0, 0, 0, [])),
  (64, (.bipush 60, 66, 0, 0, 0, 0, 0, [])),
  (66, (.if_icmp .ne 6, 69, 72, 0, 0, 0, 0, [])),
  (69, (.bipush (-3), 71, 0, 0, 0, 0, 0, [])),
  (71, (.ireturn, 72, 0, 0, 0, 0, 0, [])),
  (72, (.aload_n 0, 73, 0, 0, 0, 0, 0, [])),
  (73, (.invokevirtual 70, 76, 125, 1, 968, 0, 11, [0])),
  (76, (.aload_n 0, 77, 0, 0, 0, 0, 0, [])),
  (77, (.iload_n 1, 78, 1, 0, 0, 0, 0, [])),
  (78, (.iload_n 2, 79, 2, 0, 0, 0, 0, [])),
  (79, (.invokevirtual 91, 82, 141, 3, 1012, 0, 11, [0])),
  (82, (.iload_n 3, 83, 3, 0, 0, 0, 0, [])),
  (83, (.iconst 1, 84, 0, 0, 0, 0, 0, [])),
  (84, (.iadd, 85, 0, 0, 0, 0, 0, [])),
  (85, (.ireturn, 86, 0, 0, 0, 0, 0, []))]
def rn_m142 : rn_Mt := (yX10_flow, cX10_flow, 4, (some .int), false, 0, 0, 3, 65, rn_t142)
def rn_t143 : List (Nat × rn_E) := [(0, (.aload_n 0, 1, 0, 0, 0, 0, 0, [])),
  (1, (.invokevirtual 70, 4, 125, 1, 968, 0, 11, [0])),
  (4, (.aload_n 0, 5, 0, 0, 0, 0, 0, [])),
  (5, (.getfield 7, 8, 10, 0, 902, 2, 11, [])),
  (8, (.iload_n 1, 9, 1, 0, 0, 0, 0, [])),
  (9, (.iaload, 10, 0, 0, 0, 0, 0, [])),
  (10, (.istore_n 3, 11, 3, 0, 0, 0, 0, [])),
  (11, (.aload_n 0, 12, 0, 0, 0, 0, 0, [])),
  (12, (.getfield 7, 15, 10, 0, 902, 2, 11, [])),
  (15, (.iload_n 1, 16, 1, 0, 0, 0, 0, [])),
  (16, (.iload_n 2, 17, 2, 0, 0, 0, 0, [])),
  (17, (.iastore, 18, 0, 0, 0, 0, 0, [])),
  (18, (.iload_n 3, 19, 3, 0, 0, 0, 0, [])),
  (19, (.ireturn, 20, 0, 0, 0, 0, 0, []))]
def rn_m143 : rn_Mt := (yX10_puts, cX10_puts, 4, (some .int), false, 0, 0, 1, 21, rn_t143)
def rn_t144 : List (Nat × rn_E) := [(0, (.aload_n 0, 1, 0, 0, 0, 0, 0, [])),
  (1, (.iload_n 1, 2, 1, 0, 0, 0, 0, [])),
  (2, (.invokevirtual 84, 5, 127, 2, 994, 0, 11, [0])),
  (5, (.ifCond .eq 24, 8, 29, 0, 0, 0, 0, [])),
  (8, (.iload_n 2, 9, 2, 0, 0, 0, 0, [])),
  (9, (.invokestatic 63, 12, 134, 1, 962, 0, 11, [0])),
  (12, (.ifCond .eq 17, 15, 29, 0, 0, 0, 0, [])),
  (15, (.aload_n 0, 16, 0, 0, 0, 0, 0, [])),
  (16, (.iload_n 1, 17, 1, 0, 0, 0, 0, [])),
  (17, (.invokestatic 45, 20, 128, 1, 976, 0, 11, [0])),
  (20, (.iconst 1, 21, 0, 0, 0, 0, 0, [])),
  (21, (.iadd, 22, 0, 0, 0, 0, 0, [])),
  (22, (.iload_n 2, 23, 2, 0, 0, 0, 0, [])),
  (23, (.invokevirtual 95, 26, 143, 3, 1020, 0, 11, [0])),
  (26, (.goto 4, 29, 30, 0, 0, 0, 0, [])),
  (29, (.iconst (-1), 30, 0, 0, 0, 0, 0, [])),
  (30, (.ireturn, 31, 0, 0, 0, 0, 0, []))]
def rn_m144 : rn_Mt := (yX10_setRank, cX10_setRank, 3, (some .int), false, 0, 0, 2, 44, rn_t144)
def rn_t145 : List (Nat × rn_E) := [(0, (.aload_n 0, 1, 0, 0, 0, 0, 0, [])),
  (1, (.iload_n 1, 2, 1, 0, 0, 0, 0, [])),
  (2, (.invokevirtual 84, 5, 127, 2, 994, 0, 11, [0])),
  (5, (.ifCond .eq 24, 8, 29, 0, 0, 0, 0, [])),
  (8, (.iload_n 2, 9, 2, 0, 0, 0, 0, [])),
  (9, (.invokestatic 67, 12, 135, 1, 965, 0, 11, [0])),
  (12, (.ifCond .eq 17, 15, 29, 0, 0, 0, 0, [])),
  (15, (.aload_n 0, 16, 0, 0, 0, 0, 0, [])),
  (16, (.iload_n 1, 17, 1, 0, 0, 0, 0, [])),
  (17, (.invokestatic 45, 20, 128, 1, 976, 0, 11, [0])),
  (20, (.iconst 2, 21, 0, 0, 0, 0, 0, [])),
  (21, (.iadd, 22, 0, 0, 0, 0, 0, [])),
  (22, (.iload_n 2, 23, 2, 0, 0, 0, 0, [])),
  (23, (.invokevirtual 95, 26, 143, 3, 1020, 0, 11, [0])),
  (26, (.goto 4, 29, 30, 0, 0, 0, 0, [])),
  (29, (.iconst (-1), 30, 0, 0, 0, 0, 0, [])),
  (30, (.ireturn, 31, 0, 0, 0, 0, 0, []))]
def rn_m145 : rn_Mt := (yX10_setHalo, cX10_setHalo, 3, (some .int), false, 0, 0, 2, 44, rn_t145)
def rn_t146 : List (Nat × rn_E) := [(0, (.iload_n 1, 1, 1, 0, 0, 0, 0, [])),
  (1, (.iconst 0, 2, 0, 0, 0, 0, 0, [])),
  (2, (.aload_n 0, 3, 0, 0, 0, 0, 0, [])),
  (3, (.getfield 7, 6, 10, 0, 902, 2, 11, [])),
  (6, (.iconst 1, 7, 0, 0, 0, 0, 0, [])),
  (7, (.iaload, 8, 0, 0, 0, 0, 0, [])),
  (8, (.iconst 1, 9, 0, 0, 0, 0, 0, [])),
  (9, (.isub, 10, 0, 0, 0, 0, 0, [])),
  (10, (.invokestatic 41, 13, 124, 3, 956, 0, 11, [0])),
  (13, (.ireturn, 14, 0, 0, 0, 1, 0, []))]
def rn_m146 : rn_Mt := (yX10_isTownNumber, cX10_isTownNumber, 2, (some .boolean), false, 0, 0, 1, 22, rn_t146)
def rn_t147 : List (Nat × rn_E) := [(0, (.aload_n 0, 1, 0, 0, 0, 0, 0, [])),
  (1, (.iload_n 1, 2, 1, 0, 0, 0, 0, [])),
  (2, (.invokevirtual 98, 5, 146, 2, 1032, 0, 11, [0])),
  (5, (.ifCond .eq 27, 8, 32, 0, 0, 0, 0, [])),
  (8, (.iload_n 2, 9, 2, 0, 0, 0, 0, [])),
  (9, (.invokestatic 63, 12, 134, 1, 962, 0, 11, [0])),
  (12, (.ifCond .eq 20, 15, 32, 0, 0, 0, 0, [])),
  (15, (.aload_n 0, 16, 0, 0, 0, 0, 0, [])),
  (16, (.sipush 472, 19, 0, 0, 0, 0, 0, [])),
  (19, (.iconst 5, 20, 0, 0, 0, 0, 0, [])),
  (20, (.iload_n 1, 21, 1, 0, 0, 0, 0, [])),
  (21, (.imul, 22, 0, 0, 0, 0, 0, [])),
  (22, (.iadd, 23, 0, 0, 0, 0, 0, [])),
  (23, (.iconst 4, 24, 0, 0, 0, 0, 0, [])),
  (24, (.iadd, 25, 0, 0, 0, 0, 0, [])),
  (25, (.iload_n 2, 26, 2, 0, 0, 0, 0, [])),
  (26, (.invokevirtual 95, 29, 143, 3, 1020, 0, 11, [0])),
  (29, (.goto 4, 32, 33, 0, 0, 0, 0, [])),
  (32, (.iconst (-1), 33, 0, 0, 0, 0, 0, [])),
  (33, (.ireturn, 34, 0, 0, 0, 0, 0, []))]
def rn_m147 : rn_Mt := (yX10_setTownRank, cX10_setTownRank, 3, (some .int), false, 0, 0, 2, 44, rn_t147)
def rn_t148 : List (Nat × rn_E) := [(0, (.iload_n 1, 1, 1, 0, 0, 0, 0, [])),
  (1, (.iconst 0, 2, 0, 0, 0, 0, 0, [])),
  (2, (.bipush 60, 4, 0, 0, 0, 0, 0, [])),
  (4, (.invokestatic 41, 7, 124, 3, 956, 0, 11, [0])),
  (7, (.ifCond .eq 12, 10, 19, 0, 0, 0, 0, [])),
  (10, (.aload_n 0, 11, 0, 0, 0, 0, 0, [])),
  (11, (.iconst 3, 12, 0, 0, 0, 0, 0, [])),
  (12, (.iload_n 1, 13, 1, 0, 0, 0, 0, [])),
  (13, (.invokevirtual 95, 16, 143, 3, 1020, 0, 11, [0])),
  (16, (.goto 4, 19, 20, 0, 0, 0, 0, [])),
  (19, (.iconst (-1), 20, 0, 0, 0, 0, 0, [])),
  (20, (.ireturn, 21, 0, 0, 0, 0, 0, []))]
def rn_m148 : rn_Mt := (yX10_setGap, cX10_setGap, 2, (some .int), false, 0, 0, 2, 44, rn_t148)
def rn_t149 : List (Nat × rn_E) := [(0, (.iload_n 0, 1, 0, 0, 0, 0, 0, [])),
  (1, (.iload_n 1, 2, 1, 0, 0, 0, 0, [])),
  (2, (.if_icmp .ge 9, 5, 11, 0, 0, 0, 0, [])),
  (5, (.iload_n 1, 6, 1, 0, 0, 0, 0, [])),
  (6, (.iload_n 0, 7, 0, 0, 0, 0, 0, [])),
  (7, (.isub, 8, 0, 0, 0, 0, 0, [])),
  (8, (.goto 6, 11, 14, 0, 0, 0, 0, [])),
  (11, (.iload_n 0, 12, 0, 0, 0, 0, 0, [])),
  (12, (.iload_n 1, 13, 1, 0, 0, 0, 0, [])),
  (13, (.isub, 14, 0, 0, 0, 0, 0, [])),
  (14, (.istore_n 2, 15, 2, 0, 0, 0, 0, [])),
  (15, (.iload_n 2, 16, 2, 0, 0, 0, 0, [])),
  (16, (.iconst 4, 17, 0, 0, 0, 0, 0, [])),
  (17, (.if_icmp .le 10, 20, 27, 0, 0, 0, 0, [])),
  (20, (.bipush 8, 22, 0, 0, 0, 0, 0, [])),
  (22, (.iload_n 2, 23, 2, 0, 0, 0, 0, [])),
  (23, (.isub, 24, 0, 0, 0, 0, 0, [])),
  (24, (.goto 4, 27, 28, 0, 0, 0, 0, [])),
  (27, (.iload_n 2, 28, 2, 0, 0, 0, 0, [])),
  (28, (.ireturn, 29, 0, 0, 0, 0, 0, []))]
def rn_m149 : rn_Mt := (yX10_turn, cX10_turn, 3, (some .int), false, 0, 0, 0, 0, rn_t149)
def rn_t150 : List (Nat × rn_E) := [(0, (.iconst 0, 1, 0, 0, 0, 0, 0, [])),
  (1, (.istore 4, 3, 4, 0, 0, 0, 0, [])),
  (3, (.iload_n 2, 4, 2, 0, 0, 0, 0, [])),
  (4, (.iconst 1, 5, 0, 0, 0, 0, 0, [])),
  (5, (.iadd, 6, 0, 0, 0, 0, 0, [])),
  (6, (.istore 5, 8, 5, 0, 0, 0, 0, [])),
  (8, (.iload 5, 10, 5, 0, 0, 0, 0, [])),
  (10, (.iload_n 2, 11, 2, 0, 0, 0, 0, [])),
  (11, (.iload_n 3, 12, 3, 0, 0, 0, 0, [])),
  (12, (.iadd, 13, 0, 0, 0, 0, 0, [])),
  (13, (.iconst 1, 14, 0, 0, 0, 0, 0, [])),
  (14, (.isub, 15, 0, 0, 0, 0, 0, [])),
  (15, (.if_icmp .ge 39, 18, 54, 0, 0, 0, 0, [])),
  (18, (.iload 4, 20, 4, 0, 0, 0, 0, [])),
  (20, (.aload_n 0, 21, 0, 0, 0, 0, 0, [])),
  (21, (.iload_n 1, 22, 1, 0, 0, 0, 0, [])),
  (22, (.bipush 18, 24, 0, 0, 0, 0, 0, [])),
  (24, (.iload 5, 26, 5, 0, 0, 0, 0, [])),
  (26, (.iadd, 27, 0, 0, 0, 0, 0, [])),
  (27, (.iconst 1, 28, 0, 0, 0, 0, 0, [])),
  (28, (.isub, 29, 0, 0, 0, 0, 0, [])),
  (29, (.invokevirtual 49, 32, 129, 3, 1002, 0, 11, [0])),
  (32, (.aload_n 0, 33, 0, 0, 0, 0, 0, [])),
  (33, (.iload_n 1, 34, 1, 0, 0, 0, 0, [])),
  (34, (.bipush 18, 36, 0, 0, 0, 0, 0, [])),
  (36, (.iload 5, 38, 5, 0, 0, 0, 0, [])),
  (38, (.iadd, 39, 0, 0, 0, 0, 0, [])),
  (39, (.invokevirtual 49, 42, 129, 3, 1002, 0, 11, [0])),
  (42, (.invokestatic 101, 45, 149, 2, 1103, 0, 11, [0])),
  (45, (.iadd, 46, 0, 0, 0, 0, 0, [])),
  (46, (.istore 4, 48, 4, 0, 0, 0, 0, [])),
  (48, (.iinc 5 1, 51, 5, 0, 0, 0, 0, [])),
  (51, (.goto (-43), 54, 8, 0, 0, 0, 0, [])),
  (54, (.iload 4, 56, 4, 0, 0, 0, 0, [])),
  (56, (.ireturn, 57, 0, 0, 0, 0, 0, []))]
def rn_m150 : rn_Mt := (yX10_bendOf, cX10_bendOf, 6, (some .int), false, 0, 0, 2, 43, rn_t150)
def rn_t151 : List (Nat × rn_E) := [(0, (.iload_n 2, 1, 2, 0, 0, 0, 0, [])),
  (1, (.iload_n 3, 2, 3, 0, 0, 0, 0, [])),
  (2, (.iadd, 3, 0, 0, 0, 0, 0, [])),
  (3, (.aload_n 0, 4, 0, 0, 0, 0, 0, [])),
  (4, (.iload_n 1, 5, 1, 0, 0, 0, 0, [])),
  (5, (.iconst 5, 6, 0, 0, 0, 0, 0, [])),
  (6, (.invokevirtual 49, 9, 129, 3, 1002, 0, 11, [0])),
  (9, (.iconst 1, 10, 0, 0, 0, 0, 0, [])),
  (10, (.iadd, 11, 0, 0, 0, 0, 0, [])),
  (11, (.if_icmp .gt 7, 14, 18, 0, 0, 0, 0, [])),
  (14, (.iconst 1, 15, 0, 0, 0, 0, 0, [])),
  (15, (.goto 4, 18, 19, 0, 0, 0, 0, [])),
  (18, (.iconst 0, 19, 0, 0, 0, 0, 0, [])),
  (19, (.ireturn, 20, 0, 0, 0, 1, 0, []))]
def rn_m151 : rn_Mt := (yX10_hasPlaces, cX10_hasPlaces, 4, (some .boolean), false, 0, 0, 2, 43, rn_t151)
def rn_t152 : List (Nat × rn_E) := [(0, (.iconst 2, 1, 0, 0, 0, 0, 0, [])),
  (1, (.iload_n 2, 2, 2, 0, 0, 0, 0, [])),
  (2, (.imul, 3, 0, 0, 0, 0, 0, [])),
  (3, (.aload_n 0, 4, 0, 0, 0, 0, 0, [])),
  (4, (.iload_n 1, 5, 1, 0, 0, 0, 0, [])),
  (5, (.iconst 0, 6, 0, 0, 0, 0, 0, [])),
  (6, (.invokevirtual 49, 9, 129, 3, 1002, 0, 11, [0])),
  (9, (.iadd, 10, 0, 0, 0, 0, 0, [])),
  (10, (.iconst 1, 11, 0, 0, 0, 0, 0, [])),
  (11, (.isub, 12, 0, 0, 0, 0, 0, [])),
  (12, (.aload_n 0, 13, 0, 0, 0, 0, 0, [])),
  (13, (.iload_n 1, 14, 1, 0, 0, 0, 0, [])),
  (14, (.iconst 5, 15, 0, 0, 0, 0, 0, [])),
  (15, (.invokevirtual 49, 18, 129, 3, 1002, 0, 11, [0])),
  (18, (.isub, 19, 0, 0, 0, 0, 0, [])),
  (19, (.istore_n 3, 20, 3, 0, 0, 0, 0, [])),
  (20, (.bipush 10, 22, 0, 0, 0, 0, 0, [])),
  (22, (.aload_n 0, 23, 0, 0, 0, 0, 0, [])),
  (23, (.iload_n 1, 24, 1, 0, 0, 0, 0, [])),
  (24, (.iload_n 2, 25, 2, 0, 0, 0, 0, [])),
  (25, (.aload_n 0, 26, 0, 0, 0, 0, 0, [])),
  (26, (.iload_n 1, 27, 1, 0, 0, 0, 0, [])),
  (27, (.iconst 0, 28, 0, 0, 0, 0, 0, [])),
  (28, (.invokevirtual 49, 31, 129, 3, 1002, 0, 11, [0])),
  (31, (.invokevirtual 104, 34, 150, 4, 1099, 0, 11, [0])),
  (34, (.imul, 35, 0, 0, 0, 0, 0, [])),
  (35, (.iload_n 3, 36, 3, 0, 0, 0, 0, [])),
  (36, (.ifCond .ge 8, 39, 44, 0, 0, 0, 0, [])),
  (39, (.iload_n 3, 40, 3, 0, 0, 0, 0, [])),
  (40, (.ineg, 41, 0, 0, 0, 0, 0, [])),
  (41, (.goto 4, 44, 45, 0, 0, 0, 0, [])),
  (44, (.iload_n 3, 45, 3, 0, 0, 0, 0, [])),
  (45, (.iadd, 46, 0, 0, 0, 0, 0, [])),
  (46, (.ireturn, 47, 0, 0, 0, 0, 0, []))]
def rn_m152 : rn_Mt := (yX10_cost, cX10_cost, 4, (some .int), false, 0, 0, 3, 68, rn_t152)
def rn_t153 : List (Nat × rn_E) := [(0, (.aload_n 0, 1, 0, 0, 0, 0, 0, [])),
  (1, (.iload_n 1, 2, 1, 0, 0, 0, 0, [])),
  (2, (.invokevirtual 87, 5, 133, 2, 998, 0, 11, [0])),
  (5, (.iload_n 2, 6, 2, 0, 0, 0, 0, [])),
  (6, (.aload_n 0, 7, 0, 0, 0, 0, 0, [])),
  (7, (.iload_n 1, 8, 1, 0, 0, 0, 0, [])),
  (8, (.iconst 0, 9, 0, 0, 0, 0, 0, [])),
  (9, (.invokevirtual 49, 12, 129, 3, 1002, 0, 11, [0])),
  (12, (.iadd, 13, 0, 0, 0, 0, 0, [])),
  (13, (.iconst 1, 14, 0, 0, 0, 0, 0, [])),
  (14, (.isub, 15, 0, 0, 0, 0, 0, [])),
  (15, (.istore_n 3, 16, 3, 0, 0, 0, 0, [])),
  (16, (.aload_n 0, 17, 0, 0, 0, 0, 0, [])),
  (17, (.getfield 19, 20, 10, 5, 907, 2, 11, [])),
  (20, (.iload_n 3, 21, 3, 0, 0, 0, 0, [])),
  (21, (.iaload, 22, 0, 0, 0, 0, 0, [])),
  (22, (.aload_n 0, 23, 0, 0, 0, 0, 0, [])),
  (23, (.getfield 19, 26, 10, 5, 907, 2, 11, [])),
  (26, (.iload_n 2, 27, 2, 0, 0, 0, 0, [])),
  (27, (.iaload, 28, 0, 0, 0, 0, 0, [])),
  (28, (.if_icmp .lt 33, 31, 61, 0, 0, 0, 0, [])),
  (31, (.aload_n 0, 32, 0, 0, 0, 0, 0, [])),
  (32, (.getfield 19, 35, 10, 5, 907, 2, 11, [])),
  (35, (.iload_n 3, 36, 3, 0, 0, 0, 0, [])),
  (36, (.iaload, 37, 0, 0, 0, 0, 0, [])),
  (37, (.aload_n 0, 38, 0, 0, 0, 0, 0, [])),
  (38, (.getfield 19, 41, 10, 5, 907, 2, 11, [])),
  (41, (.iload_n 2, 42, 2, 0, 0, 0, 0, [])),
  (42, (.iaload, 43, 0, 0, 0, 0, 0, [])),
  (43, (.if_icmp .ne 22, 46, 65, 0, 0, 0, 0, [])),
  (46, (.aload_n 0, 47, 0, 0, 0, 0, 0, [])),
  (47, (.getfield 22, 50, 10, 6, 908, 2, 11, [])),
  (50, (.iload_n 3, 51, 3, 0, 0, 0, 0, [])),
  (51, (.iaload, 52, 0, 0, 0, 0, 0, [])),
  (52, (.aload_n 0, 53, 0, 0, 0, 0, 0, [])),
  (53, (.getfield 22, 56, 10, 6, 908, 2, 11, [])),
  (56, (.iload_n 2, 57, 2, 0, 0, 0, 0, [])),
  (57, (.iaload, 58, 0, 0, 0, 0, 0, [])),
  (58, (.if_icmp .ge 7, 61, 65, 0, 0, 0, 0, [])),
  (61, (.iconst 1, 62, 0, 0, 0, 0, 0, [])),
  (62, (.goto 4, 65, 66, 0, 0, 0, 0, [])),
  (65, (.iconst 0, 66, 0, 0, 0, 0, 0, [])),
  (66, (.ireturn, 67, 0, 0, 0, 1, 0, []))]
def rn_m153 : rn_Mt := (yX10_isTurned, cX10_isTurned, 4, (some .boolean), false, 0, 0, 3, 65, rn_t153)
def rn_t154 : List (Nat × rn_E) := [(0, (.aload_n 0, 1, 0, 0, 0, 0, 0, [])),
  (1, (.dup, 2, 0, 0, 0, 0, 0, [])),
  (2, (.getfield 108, 5, 10, 8, 910, 0, 11, [])),
  (5, (.iconst 1, 6, 0, 0, 0, 0, 0, [])),
  (6, (.iadd, 7, 0, 0, 0, 0, 0, [])),
  (7, (.putfield 108, 10, 10, 8, 910, 0, 11, [])),
  (10, (.aload_n 0, 11, 0, 0, 0, 0, 0, [])),
  (11, (.iload_n 1, 12, 1, 0, 0, 0, 0, [])),
  (12, (.iload_n 2, 13, 2, 0, 0, 0, 0, [])),
  (13, (.invokevirtual 111, 16, 155, 3, 1059, 0, 11, [0])),
  (16, (.ireturn, 17, 0, 0, 0, 0, 0, []))]
def rn_m154 : rn_Mt := (yX10_marks, cX10_marks, 3, (some .int), false, 0, 0, 4, 92, rn_t154)
def rn_t155 : List (Nat × rn_E) := [(0, (.aload_n 0, 1, 0, 0, 0, 0, 0, [])),
  (1, (.iload_n 1, 2, 1, 0, 0, 0, 0, [])),
  (2, (.invokevirtual 87, 5, 133, 2, 998, 0, 11, [0])),
  (5, (.aload_n 0, 6, 0, 0, 0, 0, 0, [])),
  (6, (.iload_n 1, 7, 1, 0, 0, 0, 0, [])),
  (7, (.iconst 2, 8, 0, 0, 0, 0, 0, [])),
  (8, (.invokevirtual 49, 11, 129, 3, 1002, 0, 11, [0])),
  (11, (.istore_n 3, 12, 3, 0, 0, 0, 0, [])),
  (12, (.iconst 0, 13, 0, 0, 0, 0, 0, [])),
  (13, (.istore 4, 15, 4, 0, 0, 0, 0, [])),
  (15, (.iload_n 2, 16, 2, 0, 0, 0, 0, [])),
  (16, (.istore 5, 18, 5, 0, 0, 0, 0, [])),
  (18, (.iload 5, 20, 5, 0, 0, 0, 0, [])),
  (20, (.iload_n 2, 21, 2, 0, 0, 0, 0, [])),
  (21, (.aload_n 0, 22, 0, 0, 0, 0, 0, [])),
  (22, (.iload_n 1, 23, 1, 0, 0, 0, 0, [])),
  (23, (.iconst 0, 24, 0, 0, 0, 0, 0, [])),
  (24, (.invokevirtual 49, 27, 129, 3, 1002, 0, 11, [0])),
  (27, (.iadd, 28, 0, 0, 0, 0, 0, [])),
  (28, (.if_icmp .ge 121, 31, 149, 0, 0, 0, 0, [])),
  (31, (.aload_n 0, 32, 0, 0, 0, 0, 0, [])),
  (32, (.getfield 19, 35, 10, 5, 907, 2, 11, [])),
  (35, (.iload 5, 37, 5, 0, 0, 0, 0, [])),
  (37, (.iaload, 38, 0, 0, 0, 0, 0, [])),
  (38, (.iload_n 3, 39, 3, 0, 0, 0, 0, [])),
  (39, (.isub, 40, 0, 0, 0, 0, 0, [])),
  (40, (.istore 6, 42, 6, 0, 0, 0, 0, [])),
  (42, (.iload 6, 44, 6, 0, 0, 0, 0, [])),
  (44, (.aload_n 0, 45, 0, 0, 0, 0, 0, [])),
  (45, (.getfield 19, 48, 10, 5, 907, 2, 11, [])),
  (48, (.iload 5, 50, 5, 0, 0, 0, 0, [])),
  (50, (.iaload, 51, 0, 0, 0, 0, 0, [])),
  (51, (.iload_n 3, 52, 3, 0, 0, 0, 0, [])),
  (52, (.iadd, 53, 0, 0, 0, 0, 0, [])),
  (53, (.if_icmp .gt 90, 56, 143, 0, 0, 0, 0, [])),
  (56, (.aload_n 0, 57, 0, 0, 0, 0, 0, [])),
  (57, (.getfield 22, 60, 10, 6, 908, 2, 11, [])),
  (60, (.iload 5, 62, 5, 0, 0, 0, 0, [])),
  (62, (.iaload, 63, 0, 0, 0, 0, 0, [])),
  (63, (.iload_n 3, 64, 3, 0, 0, 0, 0, [])),
  (64, (.isub, 65, 0, 0, 0, 0, 0, [])),
  (65, (.istore 7, 67, 7, 0, 0, 0, 0, [])),
  (67, (.iload 7, 69, 7, 0, 0, 0, 0, [])),
  (69, (.aload_n 0, 70, 0, 0, 0, 0, 0, [])),
  (70, (.getfield 22, 73, 10, 6, 908, 2, 11, [])),
  (73, (.iload 5, 75, 5, 0, 0, 0, 0, [])),
  (75, (.iaload, 76, 0, 0, 0, 0, 0, [])),
  (76, (.iload_n 3, 77, 3, 0, 0, 0, 0, [])),
  (77, (.iadd, 78, 0, 0, 0, 0, 0, [])),
  (78, (.if_icmp .gt 59, 81, 137, 0, 0, 0, 0, [])),
  (81, (.iload 6, 83, 6, 0, 0, 0, 0, [])),
  (83, (.iload 7, 85, 7, 0, 0, 0, 0, [])),
  (85, (.invokestatic 59, 88, 132, 2, 959, 0, 11, [0])),
  (88, (.ifCond .eq 43, 91, 131, 0, 0, 0, 0, [])),
  (91, (.aload_n 0, 92, 0, 0, 0, 0, 0, [])),
  (92, (.getfield 25, 95, 10, 7, 909, 2, 11, [])),
  (95, (.bipush 60, 97, 0, 0, 0, 0, 0, [])),
  (97, (.iload 7, 99, 7, 0, 0, 0, 0, [])),
  (99, (.imul, 100, 0, 0, 0, 0, 0, [])),
  (100, (.iload 6, 102, 6, 0, 0, 0, 0, [])),
  (102, (.iadd, 103, 0, 0, 0, 0, 0, [])),
  (103, (.iaload, 104, 0, 0, 0, 0, 0, [])),
  (104, (.aload_n 0, 105, 0, 0, 0, 0, 0, [])),
  (105, (.getfield 108, 108, 10, 8, 910, 0, 11, [])),
  (108, (.if_icmp .eq 23, 111, 131, 0, 0, 0, 0, [])),
  (111, (.aload_n 0, 112, 0, 0, 0, 0, 0, [])),
  (112, (.getfield 25, 115, 10, 7, 909, 2, 11, [])),
  (115, (.bipush 60, 117, 0, 0, 0, 0, 0, [])),
  (117, (.iload 7, 119, 7, 0, 0, 0, 0, [])),
  (119, (.imul, 120, 0, 0, 0, 0, 0, [])),
  (120, (.iload 6, 122, 6, 0, 0, 0, 0, [])),
  (122, (.iadd, 123, 0, 0, 0, 0, 0, [])),
  (123, (.aload_n 0, 124, 0, 0, 0, 0, 0, [])),
  (124, (.getfield 108, 127, 10, 8, 910, 0, 11, [])),
  (127, (.iastore, 128, 0, 0, 0, 0, 0, [])),
  (128, (.iinc 4 1, 131, 4, 0, 0, 0, 0, [])),
  (131, (.iinc 7 1, 134, 7, 0, 0, 0, 0, [])),
  (134, (.goto (-67), 137, 67, 0, 0, 0, 0, [])),
  (137, (.iinc 6 1, 140, 6, 0, 0, 0, 0, [])),
  (140, (.goto (-98), 143, 42, 0, 0, 0, 0, [])),
  (143, (.iinc 5 1, 146, 5, 0, 0, 0, 0, [])),
  (146, (.goto (-128), 149, 18, 0, 0, 0, 0, [])),
  (149, (.iload 4, 151, 4, 0, 0, 0, 0, [])),
  (151, (.ireturn, 152, 0, 0, 0, 0, 0, []))]
def rn_m155 : rn_Mt := (yX10_marksMore, cX10_marksMore, 8, (some .int), false, 0, 0, 3, 65, rn_t155)
def rn_t156 : List (Nat × rn_E) := [(0, (.aload_n 0, 1, 0, 0, 0, 0, 0, [])),
  (1, (.getfield 7, 4, 10, 0, 902, 2, 11, [])),
  (4, (.sipush 522, 7, 0, 0, 0, 0, 0, [])),
  (7, (.iconst 2, 8, 0, 0, 0, 0, 0, [])),
  (8, (.iload_n 1, 9, 1, 0, 0, 0, 0, [])),
  (9, (.imul, 10, 0, 0, 0, 0, 0, [])),
  (10, (.iadd, 11, 0, 0, 0, 0, 0, [])),
  (11, (.iaload, 12, 0, 0, 0, 0, 0, [])),
  (12, (.istore_n 2, 13, 2, 0, 0, 0, 0, [])),
  (13, (.aload_n 0, 14, 0, 0, 0, 0, 0, [])),
  (14, (.getfield 7, 17, 10, 0, 902, 2, 11, [])),
  (17, (.sipush 522, 20, 0, 0, 0, 0, 0, [])),
  (20, (.iconst 2, 21, 0, 0, 0, 0, 0, [])),
  (21, (.iload_n 1, 22, 1, 0, 0, 0, 0, [])),
  (22, (.imul, 23, 0, 0, 0, 0, 0, [])),
  (23, (.iadd, 24, 0, 0, 0, 0, 0, [])),
  (24, (.iconst 1, 25, 0, 0, 0, 0, 0, [])),
  (25, (.iadd, 26, 0, 0, 0, 0, 0, [])),
  (26, (.iaload, 27, 0, 0, 0, 0, 0, [])),
  (27, (.istore_n 3, 28, 3, 0, 0, 0, 0, [])),
  (28, (.aload_n 0, 29, 0, 0, 0, 0, 0, [])),
  (29, (.iload_n 2, 30, 2, 0, 0, 0, 0, [])),
  (30, (.invokevirtual 87, 33, 133, 2, 998, 0, 11, [0])),
  (33, (.aload_n 0, 34, 0, 0, 0, 0, 0, [])),
  (34, (.iload_n 2, 35, 2, 0, 0, 0, 0, [])),
  (35, (.iconst 2, 36, 0, 0, 0, 0, 0, [])),
  (36, (.invokevirtual 49, 39, 129, 3, 1002, 0, 11, [0])),
  (39, (.istore 4, 41, 4, 0, 0, 0, 0, [])),
  (41, (.iload_n 3, 42, 3, 0, 0, 0, 0, [])),
  (42, (.istore 5, 44, 5, 0, 0, 0, 0, [])),
  (44, (.iload 5, 46, 5, 0, 0, 0, 0, [])),
  (46, (.iload_n 3, 47, 3, 0, 0, 0, 0, [])),
  (47, (.aload_n 0, 48, 0, 0, 0, 0, 0, [])),
  (48, (.iload_n 2, 49, 2, 0, 0, 0, 0, [])),
  (49, (.iconst 0, 50, 0, 0, 0, 0, 0, [])),
  (50, (.invokevirtual 49, 53, 129, 3, 1002, 0, 11, [0])),
  (53, (.iadd, 54, 0, 0, 0, 0, 0, [])),
  (54, (.if_icmp .ge 107, 57, 161, 0, 0, 0, 0, [])),
  (57, (.aload_n 0, 58, 0, 0, 0, 0, 0, [])),
  (58, (.getfield 19, 61, 10, 5, 907, 2, 11, [])),
  (61, (.iload 5, 63, 5, 0, 0, 0, 0, [])),
  (63, (.iaload, 64, 0, 0, 0, 0, 0, [])),
  (64, (.iload 4, 66, 4, 0, 0, 0, 0, [])),
  (66, (.isub, 67, 0, 0, 0, 0, 0, [])),
  (67, (.istore 6, 69, 6, 0, 0, 0, 0, [])),
  (69, (.iload 6, 71, 6, 0, 0, 0, 0, [])),
  (71, (.aload_n 0, 72, 0, 0, 0, 0, 0, [])),
  (72, (.getfield 19, 75, 10, 5, 907, 2, 11, [])),
  (75, (.iload 5, 77, 5, 0, 0, 0, 0, [])),
  (77, (.iaload, 78, 0, 0, 0, 0, 0, [])),
  (78, (.iload 4, 80, 4, 0, 0, 0, 0, [])),
  (80, (.iadd, 81, 0, 0, 0, 0, 0, [])),
  (81, (.if_icmp .gt 74, 84, 155, 0, 0, 0, 0, [])),
  (84, (.aload_n 0, 85, 0, 0, 0, 0, 0, [])),
  (85, (.getfield 22, 88, 10, 6, 908, 2, 11, [])),
  (88, (.iload 5, 90, 5, 0, 0, 0, 0, [])),
  (90, (.iaload, 91, 0, 0, 0, 0, 0, [])),
  (91, (.iload 4, 93, 4, 0, 0, 0, 0, [])),
  (93, (.isub, 94, 0, 0, 0, 0, 0, [])),
  (94, (.istore 7, 96, 7, 0, 0, 0, 0, [])),
  (96, (.iload 7, 98, 7, 0, 0, 0, 0, [])),
  (98, (.aload_n 0, 99, 0, 0, 0, 0, 0, [])),
  (99, (.getfield 22, 102, 10, 6, 908, 2, 11, [])),
  (102, (.iload 5, 104, 5, 0, 0, 0, 0, [])),
  (104, (.iaload, 105, 0, 0, 0, 0, 0, [])),
  (105, (.iload 4, 107, 4, 0, 0, 0, 0, [])),
  (107, (.iadd, 108, 0, 0, 0, 0, 0, [])),
  (108, (.if_icmp .gt 41, 111, 149, 0, 0, 0, 0, [])),
  (111, (.iload 6, 113, 6, 0, 0, 0, 0, [])),
  (113, (.iload 7, 115, 7, 0, 0, 0, 0, [])),
  (115, (.invokestatic 59, 118, 132, 2, 959, 0, 11, [0])),
  (118, (.ifCond .eq 25, 121, 143, 0, 0, 0, 0, [])),
  (121, (.aload_n 0, 122, 0, 0, 0, 0, 0, [])),
  (122, (.getfield 25, 125, 10, 7, 909, 2, 11, [])),
  (125, (.bipush 60, 127, 0, 0, 0, 0, 0, [])),
  (127, (.iload 7, 129, 7, 0, 0, 0, 0, [])),
  (129, (.imul, 130, 0, 0, 0, 0, 0, [])),
  (130, (.iload 6, 132, 6, 0, 0, 0, 0, [])),
  (132, (.iadd, 133, 0, 0, 0, 0, 0, [])),
  (133, (.iaload, 134, 0, 0, 0, 0, 0, [])),
  (134, (.aload_n 0, 135, 0, 0, 0, 0, 0, [])),
  (135, (.getfield 108, 138, 10, 8, 910, 0, 11, [])),
  (138, (.if_icmp .ne 5, 141, 143, 0, 0, 0, 0, [])),
  (141, (.iconst 1, 142, 0, 0, 0, 0, 0, [])),
  (142, (.ireturn, 143, 0, 0, 0, 1, 0, [])),
  (143, (.iinc 7 1, 146, 7, 0, 0, 0, 0, [])),
  (146, (.goto (-50), 149, 96, 0, 0, 0, 0, [])),
  (149, (.iinc 6 1, 152, 6, 0, 0, 0, 0, [])),
  (152, (.goto (-83), 155, 69, 0, 0, 0, 0, [])),
  (155, (.iinc 5 1, 158, 5, 0, 0, 0, 0, [])),
  (158, (.goto (-114), 161, 44, 0, 0, 0, 0, [])),
  (161, (.iconst 0, 162, 0, 0, 0, 0, 0, [])),
  (162, (.ireturn, 163, 0, 0, 0, 1, 0, []))]
def rn_m156 : rn_Mt := (yX10_meetsLabel, cX10_meetsLabel, 8, (some .boolean), false, 0, 0, 3, 65, rn_t156)
def rn_t157 : List (Nat × rn_E) := [(0, (.sipush 472, 3, 0, 0, 0, 0, 0, [])),
  (3, (.iconst 5, 4, 0, 0, 0, 0, 0, [])),
  (4, (.iload_n 1, 5, 1, 0, 0, 0, 0, [])),
  (5, (.imul, 6, 0, 0, 0, 0, 0, [])),
  (6, (.iadd, 7, 0, 0, 0, 0, 0, [])),
  (7, (.istore_n 2, 8, 2, 0, 0, 0, 0, [])),
  (8, (.aload_n 0, 9, 0, 0, 0, 0, 0, [])),
  (9, (.getfield 7, 12, 10, 0, 902, 2, 11, [])),
  (12, (.iload_n 2, 13, 2, 0, 0, 0, 0, [])),
  (13, (.iaload, 14, 0, 0, 0, 0, 0, [])),
  (14, (.istore_n 3, 15, 3, 0, 0, 0, 0, [])),
  (15, (.iload_n 3, 16, 3, 0, 0, 0, 0, [])),
  (16, (.aload_n 0, 17, 0, 0, 0, 0, 0, [])),
  (17, (.getfield 7, 20, 10, 0, 902, 2, 11, [])),
  (20, (.iload_n 2, 21, 2, 0, 0, 0, 0, [])),
  (21, (.iaload, 22, 0, 0, 0, 0, 0, [])),
  (22, (.aload_n 0, 23, 0, 0, 0, 0, 0, [])),
  (23, (.getfield 7, 26, 10, 0, 902, 2, 11, [])),
  (26, (.iload_n 2, 27, 2, 0, 0, 0, 0, [])),
  (27, (.iconst 2, 28, 0, 0, 0, 0, 0, [])),
  (28, (.iadd, 29, 0, 0, 0, 0, 0, [])),
  (29, (.iaload, 30, 0, 0, 0, 0, 0, [])),
  (30, (.iadd, 31, 0, 0, 0, 0, 0, [])),
  (31, (.if_icmp .ge 68, 34, 99, 0, 0, 0, 0, [])),
  (34, (.aload_n 0, 35, 0, 0, 0, 0, 0, [])),
  (35, (.getfield 7, 38, 10, 0, 902, 2, 11, [])),
  (38, (.iload_n 2, 39, 2, 0, 0, 0, 0, [])),
  (39, (.iconst 1, 40, 0, 0, 0, 0, 0, [])),
  (40, (.iadd, 41, 0, 0, 0, 0, 0, [])),
  (41, (.iaload, 42, 0, 0, 0, 0, 0, [])),
  (42, (.istore 4, 44, 4, 0, 0, 0, 0, [])),
  (44, (.iload 4, 46, 4, 0, 0, 0, 0, [])),
  (46, (.aload_n 0, 47, 0, 0, 0, 0, 0, [])),
  (47, (.getfield 7, 50, 10, 0, 902, 2, 11, [])),
  (50, (.iload_n 2, 51, 2, 0, 0, 0, 0, [])),
  (51, (.iconst 1, 52, 0, 0, 0, 0, 0, [])),
  (52, (.iadd, 53, 0, 0, 0, 0, 0, [])),
  (53, (.iaload, 54, 0, 0, 0, 0, 0, [])),
  (54, (.aload_n 0, 55, 0, 0, 0, 0, 0, [])),
  (55, (.getfield 7, 58, 10, 0, 902, 2, 11, [])),
  (58, (.iload_n 2, 59, 2, 0, 0, 0, 0, [])),
  (59, (.iconst 3, 60, 0, 0, 0, 0, 0, [])),
  (60, (.iadd, 61, 0, 0, 0, 0, 0, [])),
  (61, (.iaload, 62, 0, 0, 0, 0, 0, [])),
  (62, (.iadd, 63, 0, 0, 0, 0, 0, [])),
  (63, (.if_icmp .ge 30, 66, 93, 0, 0, 0, 0, [])),
  (66, (.aload_n 0, 67, 0, 0, 0, 0, 0, [])),
  (67, (.getfield 25, 70, 10, 7, 909, 2, 11, [])),
  (70, (.bipush 60, 72, 0, 0, 0, 0, 0, [])),
  (72, (.iload 4, 74, 4, 0, 0, 0, 0, [])),
  (74, (.imul, 75, 0, 0, 0, 0, 0, [])),
  (75, (.iload_n 3, 76, 3, 0, 0, 0, 0, [])),
  (76, (.iadd, 77, 0, 0, 0, 0, 0, [])),
  (77, (.iaload, 78, 0, 0, 0, 0, 0, [])),
  (78, (.aload_n 0, 79, 0, 0, 0, 0, 0, [])),
  (79, (.getfield 108, 82, 10, 8, 910, 0, 11, [])),
  (82, (.if_icmp .ne 5, 85, 87, 0, 0, 0, 0, [])),
  (85, (.iconst 1, 86, 0, 0, 0, 0, 0, [])),
  (86, (.ireturn, 87, 0, 0, 0, 1, 0, [])),
  (87, (.iinc 4 1, 90, 4, 0, 0, 0, 0, [])),
  (90, (.goto (-46), 93, 44, 0, 0, 0, 0, [])),
  (93, (.iinc 3 1, 96, 3, 0, 0, 0, 0, [])),
  (96, (.goto (-81), 99, 15, 0, 0, 0, 0, [])),
  (99, (.iconst 0, 100, 0, 0, 0, 0, 0, [])),
  (100, (.ireturn, 101, 0, 0, 0, 1, 0, []))]
def rn_m157 : rn_Mt := (yX10_meetsTown, cX10_meetsTown, 5, (some .boolean), false, 0, 0, 0, 0, rn_t157)
def rn_t158 : List (Nat × rn_E) := [(0, (.aload_n 0, 1, 0, 0, 0, 0, 0, [])),
  (1, (.iload_n 1, 2, 1, 0, 0, 0, 0, [])),
  (2, (.iconst 0, 3, 0, 0, 0, 0, 0, [])),
  (3, (.invokevirtual 49, 6, 129, 3, 1002, 0, 11, [0])),
  (6, (.istore 5, 8, 5, 0, 0, 0, 0, [])),
  (8, (.aload_n 0, 9, 0, 0, 0, 0, 0, [])),
  (9, (.iload_n 1, 10, 1, 0, 0, 0, 0, [])),
  (10, (.iload_n 2, 11, 2, 0, 0, 0, 0, [])),
  (11, (.iload 5, 13, 5, 0, 0, 0, 0, [])),
  (13, (.invokevirtual 114, 16, 151, 4, 1051, 0, 11, [0])),
  (16, (.ifCond .ne 5, 19, 21, 0, 0, 0, 0, [])),
  (19, (.iconst 1, 20, 0, 0, 0, 0, 0, [])),
  (20, (.ireturn, 21, 0, 0, 0, 0, 0, [])),
  (21, (.iconst 0, 22, 0, 0, 0, 0, 0, [])),
  (22, (.istore 6, 24, 6, 0, 0, 0, 0, [])),
  (24, (.iload 6, 26, 6, 0, 0, 0, 0, [])),
  (26, (.aload_n 0, 27, 0, 0, 0, 0, 0, [])),
  (27, (.getfield 7, 30, 10, 0, 902, 2, 11, [])),
  (30, (.iconst 2, 31, 0, 0, 0, 0, 0, [])),
  (31, (.iaload, 32, 0, 0, 0, 0, 0, [])),
  (32, (.if_icmp .ge 79, 35, 111, 0, 0, 0, 0, [])),
  (35, (.iload_n 2, 36, 2, 0, 0, 0, 0, [])),
  (36, (.aload_n 0, 37, 0, 0, 0, 0, 0, [])),
  (37, (.getfield 7, 40, 10, 0, 902, 2, 11, [])),
  (40, (.sipush 522, 43, 0, 0, 0, 0, 0, [])),
  (43, (.iconst 2, 44, 0, 0, 0, 0, 0, [])),
  (44, (.iload 6, 46, 6, 0, 0, 0, 0, [])),
  (46, (.imul, 47, 0, 0, 0, 0, 0, [])),
  (47, (.iadd, 48, 0, 0, 0, 0, 0, [])),
  (48, (.iconst 1, 49, 0, 0, 0, 0, 0, [])),
  (49, (.iadd, 50, 0, 0, 0, 0, 0, [])),
  (50, (.iaload, 51, 0, 0, 0, 0, 0, [])),
  (51, (.isub, 52, 0, 0, 0, 0, 0, [])),
  (52, (.istore 7, 54, 7, 0, 0, 0, 0, [])),
  (54, (.iload 6, 56, 6, 0, 0, 0, 0, [])),
  (56, (.iload 4, 58, 4, 0, 0, 0, 0, [])),
  (58, (.if_icmp .eq 47, 61, 105, 0, 0, 0, 0, [])),
  (61, (.aload_n 0, 62, 0, 0, 0, 0, 0, [])),
  (62, (.getfield 7, 65, 10, 0, 902, 2, 11, [])),
  (65, (.sipush 522, 68, 0, 0, 0, 0, 0, [])),
  (68, (.iconst 2, 69, 0, 0, 0, 0, 0, [])),
  (69, (.iload 6, 71, 6, 0, 0, 0, 0, [])),
  (71, (.imul, 72, 0, 0, 0, 0, 0, [])),
  (72, (.iadd, 73, 0, 0, 0, 0, 0, [])),
  (73, (.iaload, 74, 0, 0, 0, 0, 0, [])),
  (74, (.iload_n 1, 75, 1, 0, 0, 0, 0, [])),
  (75, (.if_icmp .ne 30, 78, 105, 0, 0, 0, 0, [])),
  (78, (.iload 7, 80, 7, 0, 0, 0, 0, [])),
  (80, (.ifCond .ge 9, 83, 89, 0, 0, 0, 0, [])),
  (83, (.iload 7, 85, 7, 0, 0, 0, 0, [])),
  (85, (.ineg, 86, 0, 0, 0, 0, 0, [])),
  (86, (.goto 5, 89, 91, 0, 0, 0, 0, [])),
  (89, (.iload 7, 91, 7, 0, 0, 0, 0, [])),
  (91, (.iload 5, 93, 5, 0, 0, 0, 0, [])),
  (93, (.aload_n 0, 94, 0, 0, 0, 0, 0, [])),
  (94, (.getfield 7, 97, 10, 0, 902, 2, 11, [])),
  (97, (.iconst 3, 98, 0, 0, 0, 0, 0, [])),
  (98, (.iaload, 99, 0, 0, 0, 0, 0, [])),
  (99, (.iadd, 100, 0, 0, 0, 0, 0, [])),
  (100, (.if_icmp .ge 5, 103, 105, 0, 0, 0, 0, [])),
  (103, (.iconst 2, 104, 0, 0, 0, 0, 0, [])),
  (104, (.ireturn, 105, 0, 0, 0, 0, 0, [])),
  (105, (.iinc 6 1, 108, 6, 0, 0, 0, 0, [])),
  (108, (.goto (-84), 111, 24, 0, 0, 0, 0, [])),
  (111, (.aload_n 0, 112, 0, 0, 0, 0, 0, [])),
  (112, (.iload_n 1, 113, 1, 0, 0, 0, 0, [])),
  (113, (.iload_n 2, 114, 2, 0, 0, 0, 0, [])),
  (114, (.invokevirtual 117, 117, 154, 3, 1055, 0, 11, [0])),
  (117, (.istore 6, 119, 6, 0, 0, 0, 0, [])),
  (119, (.iconst 0, 120, 0, 0, 0, 0, 0, [])),
  (120, (.istore 7, 122, 7, 0, 0, 0, 0, [])),
  (122, (.iload 7, 124, 7, 0, 0, 0, 0, [])),
  (124, (.aload_n 0, 125, 0, 0, 0, 0, 0, [])),
  (125, (.getfield 7, 128, 10, 0, 902, 2, 11, [])),
  (128, (.iconst 1, 129, 0, 0, 0, 0, 0, [])),
  (129, (.iaload, 130, 0, 0, 0, 0, 0, [])),
  (130, (.if_icmp .ge 39, 133, 169, 0, 0, 0, 0, [])),
  (133, (.aload_n 0, 134, 0, 0, 0, 0, 0, [])),
  (134, (.getfield 7, 137, 10, 0, 902, 2, 11, [])),
  (137, (.sipush 472, 140, 0, 0, 0, 0, 0, [])),
  (140, (.iconst 5, 141, 0, 0, 0, 0, 0, [])),
  (141, (.iload 7, 143, 7, 0, 0, 0, 0, [])),
  (143, (.imul, 144, 0, 0, 0, 0, 0, [])),
  (144, (.iadd, 145, 0, 0, 0, 0, 0, [])),
  (145, (.iconst 4, 146, 0, 0, 0, 0, 0, [])),
  (146, (.iadd, 147, 0, 0, 0, 0, 0, [])),
  (147, (.iaload, 148, 0, 0, 0, 0, 0, [])),
  (148, (.iload_n 3, 149, 3, 0, 0, 0, 0, [])),
  (149, (.if_icmp .lt 14, 152, 163, 0, 0, 0, 0, [])),
  (152, (.aload_n 0, 153, 0, 0, 0, 0, 0, [])),
  (153, (.iload 7, 155, 7, 0, 0, 0, 0, [])),
  (155, (.invokevirtual 120, 158, 157, 2, 1063, 0, 11, [0])),
  (158, (.ifCond .eq 5, 161, 163, 0, 0, 0, 0, [])),
  (161, (.iconst 3, 162, 0, 0, 0, 0, 0, [])),
  (162, (.ireturn, 163, 0, 0, 0, 0, 0, [])),
  (163, (.iinc 7 1, 166, 7, 0, 0, 0, 0, [])),
  (166, (.goto (-44), 169, 122, 0, 0, 0, 0, [])),
  (169, (.iconst 0, 170, 0, 0, 0, 0, 0, [])),
  (170, (.istore 7, 172, 7, 0, 0, 0, 0, [])),
  (172, (.iload 7, 174, 7, 0, 0, 0, 0, [])),
  (174, (.aload_n 0, 175, 0, 0, 0, 0, 0, [])),
  (175, (.getfield 7, 178, 10, 0, 902, 2, 11, [])),
  (178, (.iconst 2, 179, 0, 0, 0, 0, 0, [])),
  (179, (.iaload, 180, 0, 0, 0, 0, 0, [])),
  (180, (.if_icmp .ge 59, 183, 239, 0, 0, 0, 0, [])),
  (183, (.aload_n 0, 184, 0, 0, 0, 0, 0, [])),
  (184, (.getfield 7, 187, 10, 0, 902, 2, 11, [])),
  (187, (.sipush 522, 190, 0, 0, 0, 0, 0, [])),
  (190, (.iconst 2, 191, 0, 0, 0, 0, 0, [])),
  (191, (.iload 7, 193, 7, 0, 0, 0, 0, [])),
  (193, (.imul, 194, 0, 0, 0, 0, 0, [])),
  (194, (.iadd, 195, 0, 0, 0, 0, 0, [])),
  (195, (.iaload, 196, 0, 0, 0, 0, 0, [])),
  (196, (.istore 8, 198, 8, 0, 0, 0, 0, [])),
  (198, (.iload 7, 200, 7, 0, 0, 0, 0, [])),
  (200, (.iload 4, 202, 4, 0, 0, 0, 0, [])),
  (202, (.if_icmp .eq 31, 205, 233, 0, 0, 0, 0, [])),
  (205, (.iload 8, 207, 8, 0, 0, 0, 0, [])),
  (207, (.iload_n 1, 208, 1, 0, 0, 0, 0, [])),
  (208, (.if_icmp .eq 25, 211, 233, 0, 0, 0, 0, [])),
  (211, (.aload_n 0, 212, 0, 0, 0, 0, 0, [])),
  (212, (.iload 8, 214, 8, 0, 0, 0, 0, [])),
  (214, (.iconst 1, 215, 0, 0, 0, 0, 0, [])),
  (215, (.invokevirtual 49, 218, 129, 3, 1002, 0, 11, [0])),
  (218, (.iload_n 3, 219, 3, 0, 0, 0, 0, [])),
  (219, (.if_icmp .lt 14, 222, 233, 0, 0, 0, 0, [])),
  (222, (.aload_n 0, 223, 0, 0, 0, 0, 0, [])),
  (223, (.iload 7, 225, 7, 0, 0, 0, 0, [])),
  (225, (.invokevirtual 123, 228, 156, 2, 1067, 0, 11, [0])),
  (228, (.ifCond .eq 5, 231, 233, 0, 0, 0, 0, [])),
  (231, (.iconst 4, 232, 0, 0, 0, 0, 0, [])),
  (232, (.ireturn, 233, 0, 0, 0, 0, 0, [])),
  (233, (.iinc 7 1, 236, 7, 0, 0, 0, 0, [])),
  (236, (.goto (-64), 239, 172, 0, 0, 0, 0, [])),
  (239, (.iconst 0, 240, 0, 0, 0, 0, 0, [])),
  (240, (.ireturn, 241, 0, 0, 0, 0, 0, []))]
def rn_m158 : rn_Mt := (yX10_why, cX10_why, 9, (some .int), false, 0, 0, 5, 114, rn_t158)
def rn_t159 : List (Nat × rn_E) := [(0, (.aload_n 0, 1, 0, 0, 0, 0, 0, [])),
  (1, (.getfield 7, 4, 10, 0, 902, 2, 11, [])),
  (4, (.sipush 522, 7, 0, 0, 0, 0, 0, [])),
  (7, (.iconst 2, 8, 0, 0, 0, 0, 0, [])),
  (8, (.iload_n 1, 9, 1, 0, 0, 0, 0, [])),
  (9, (.imul, 10, 0, 0, 0, 0, 0, [])),
  (10, (.iadd, 11, 0, 0, 0, 0, 0, [])),
  (11, (.iaload, 12, 0, 0, 0, 0, 0, [])),
  (12, (.istore_n 2, 13, 2, 0, 0, 0, 0, [])),
  (13, (.aload_n 0, 14, 0, 0, 0, 0, 0, [])),
  (14, (.iload_n 2, 15, 2, 0, 0, 0, 0, [])),
  (15, (.aload_n 0, 16, 0, 0, 0, 0, 0, [])),
  (16, (.getfield 7, 19, 10, 0, 902, 2, 11, [])),
  (19, (.sipush 522, 22, 0, 0, 0, 0, 0, [])),
  (22, (.iconst 2, 23, 0, 0, 0, 0, 0, [])),
  (23, (.iload_n 1, 24, 1, 0, 0, 0, 0, [])),
  (24, (.imul, 25, 0, 0, 0, 0, 0, [])),
  (25, (.iadd, 26, 0, 0, 0, 0, 0, [])),
  (26, (.iconst 1, 27, 0, 0, 0, 0, 0, [])),
  (27, (.iadd, 28, 0, 0, 0, 0, 0, [])),
  (28, (.iaload, 29, 0, 0, 0, 0, 0, [])),
  (29, (.aload_n 0, 30, 0, 0, 0, 0, 0, [])),
  (30, (.iload_n 2, 31, 2, 0, 0, 0, 0, [])),
  (31, (.iconst 1, 32, 0, 0, 0, 0, 0, [])),
  (32, (.invokevirtual 49, 35, 129, 3, 1002, 0, 11, [0])),
  (35, (.iload_n 1, 36, 1, 0, 0, 0, 0, [])),
  (36, (.invokevirtual 126, 39, 158, 5, 1047, 0, 11, [0])),
  (39, (.ireturn, 40, 0, 0, 0, 0, 0, []))]
def rn_m159 : rn_Mt := (yX10_whyLabel, cX10_whyLabel, 3, (some .int), false, 0, 0, 6, 142, rn_t159)
def rn_t160 : List (Nat × rn_E) := [(0, (.bipush (-9), 2, 0, 0, 0, 0, 0, [])),
  (2, (.istore_n 2, 3, 2, 0, 0, 0, 0, [])),
  (3, (.iconst 0, 4, 0, 0, 0, 0, 0, [])),
  (4, (.istore_n 3, 5, 3, 0, 0, 0, 0, [])),
  (5, (.iload_n 3, 6, 3, 0, 0, 0, 0, [])),
  (6, (.aload_n 0, 7, 0, 0, 0, 0, 0, [])),
  (7, (.iload_n 1, 8, 1, 0, 0, 0, 0, [])),
  (8, (.iconst 5, 9, 0, 0, 0, 0, 0, [])),
  (9, (.invokevirtual 49, 12, 129, 3, 1002, 0, 11, [0])),
  (12, (.if_icmp .gt 65, 15, 77, 0, 0, 0, 0, [])),
  (15, (.aload_n 0, 16, 0, 0, 0, 0, 0, [])),
  (16, (.iload_n 1, 17, 1, 0, 0, 0, 0, [])),
  (17, (.iload_n 3, 18, 3, 0, 0, 0, 0, [])),
  (18, (.aload_n 0, 19, 0, 0, 0, 0, 0, [])),
  (19, (.iload_n 1, 20, 1, 0, 0, 0, 0, [])),
  (20, (.iconst 1, 21, 0, 0, 0, 0, 0, [])),
  (21, (.invokevirtual 49, 24, 129, 3, 1002, 0, 11, [0])),
  (24, (.bipush (-9), 26, 0, 0, 0, 0, 0, [])),
  (26, (.invokevirtual 126, 29, 158, 5, 1047, 0, 11, [0])),
  (29, (.ifCond .ne 28, 32, 57, 0, 0, 0, 0, [])),
  (32, (.iload_n 2, 33, 2, 0, 0, 0, 0, [])),
  (33, (.bipush (-9), 35, 0, 0, 0, 0, 0, [])),
  (35, (.if_icmp .eq 18, 38, 53, 0, 0, 0, 0, [])),
  (38, (.aload_n 0, 39, 0, 0, 0, 0, 0, [])),
  (39, (.iload_n 1, 40, 1, 0, 0, 0, 0, [])),
  (40, (.iload_n 3, 41, 3, 0, 0, 0, 0, [])),
  (41, (.invokevirtual 130, 44, 152, 3, 1095, 0, 11, [0])),
  (44, (.aload_n 0, 45, 0, 0, 0, 0, 0, [])),
  (45, (.iload_n 1, 46, 1, 0, 0, 0, 0, [])),
  (46, (.iload_n 2, 47, 2, 0, 0, 0, 0, [])),
  (47, (.invokevirtual 130, 50, 152, 3, 1095, 0, 11, [0])),
  (50, (.if_icmp .ge 7, 53, 57, 0, 0, 0, 0, [])),
  (53, (.iconst 1, 54, 0, 0, 0, 0, 0, [])),
  (54, (.goto 4, 57, 58, 0, 0, 0, 0, [])),
  (57, (.iconst 0, 58, 0, 0, 0, 0, 0, [])),
  (58, (.istore 4, 60, 4, 0, 0, 0, 0, [])),
  (60, (.iload 4, 62, 4, 0, 0, 0, 0, [])),
  (62, (.ifCond .eq 7, 65, 69, 0, 0, 0, 0, [])),
  (65, (.iload_n 3, 66, 3, 0, 0, 0, 0, [])),
  (66, (.goto 4, 69, 70, 0, 0, 0, 0, [])),
  (69, (.iload_n 2, 70, 2, 0, 0, 0, 0, [])),
  (70, (.istore_n 2, 71, 2, 0, 0, 0, 0, [])),
  (71, (.iinc 3 1, 74, 3, 0, 0, 0, 0, [])),
  (74, (.goto (-69), 77, 5, 0, 0, 0, 0, [])),
  (77, (.iload_n 2, 78, 2, 0, 0, 0, 0, [])),
  (78, (.ireturn, 79, 0, 0, 0, 0, 0, []))]
def rn_m160 : rn_Mt := (yX10_bestStart, cX10_bestStart, 5, (some .int), false, 0, 0, 6, 142, rn_t160)
def rn_t161 : List (Nat × rn_E) := [(0, (.iload_n 1, 1, 1, 0, 0, 0, 0, [])),
  (1, (.iconst 0, 2, 0, 0, 0, 0, 0, [])),
  (2, (.aload_n 0, 3, 0, 0, 0, 0, 0, [])),
  (3, (.getfield 7, 6, 10, 0, 902, 2, 11, [])),
  (6, (.iconst 2, 7, 0, 0, 0, 0, 0, [])),
  (7, (.iaload, 8, 0, 0, 0, 0, 0, [])),
  (8, (.iconst 1, 9, 0, 0, 0, 0, 0, [])),
  (9, (.isub, 10, 0, 0, 0, 0, 0, [])),
  (10, (.invokestatic 41, 13, 124, 3, 956, 0, 11, [0])),
  (13, (.ireturn, 14, 0, 0, 0, 1, 0, []))]
def rn_m161 : rn_Mt := (yX10_isLabel, cX10_isLabel, 2, (some .boolean), false, 0, 0, 1, 22, rn_t161)
def rn_t162 : List (Nat × rn_E) := [(0, (.aload_n 0, 1, 0, 0, 0, 0, 0, [])),
  (1, (.getfield 7, 4, 10, 0, 902, 2, 11, [])),
  (4, (.sipush 522, 7, 0, 0, 0, 0, 0, [])),
  (7, (.iconst 2, 8, 0, 0, 0, 0, 0, [])),
  (8, (.aload_n 0, 9, 0, 0, 0, 0, 0, [])),
  (9, (.getfield 7, 12, 10, 0, 902, 2, 11, [])),
  (12, (.iconst 2, 13, 0, 0, 0, 0, 0, [])),
  (13, (.iaload, 14, 0, 0, 0, 0, 0, [])),
  (14, (.imul, 15, 0, 0, 0, 0, 0, [])),
  (15, (.iadd, 16, 0, 0, 0, 0, 0, [])),
  (16, (.iload_n 1, 17, 1, 0, 0, 0, 0, [])),
  (17, (.iastore, 18, 0, 0, 0, 0, 0, [])),
  (18, (.aload_n 0, 19, 0, 0, 0, 0, 0, [])),
  (19, (.getfield 7, 22, 10, 0, 902, 2, 11, [])),
  (22, (.sipush 522, 25, 0, 0, 0, 0, 0, [])),
  (25, (.iconst 2, 26, 0, 0, 0, 0, 0, [])),
  (26, (.aload_n 0, 27, 0, 0, 0, 0, 0, [])),
  (27, (.getfield 7, 30, 10, 0, 902, 2, 11, [])),
  (30, (.iconst 2, 31, 0, 0, 0, 0, 0, [])),
  (31, (.iaload, 32, 0, 0, 0, 0, 0, [])),
  (32, (.imul, 33, 0, 0, 0, 0, 0, [])),
  (33, (.iadd, 34, 0, 0, 0, 0, 0, [])),
  (34, (.iconst 1, 35, 0, 0, 0, 0, 0, [])),
  (35, (.iadd, 36, 0, 0, 0, 0, 0, [])),
  (36, (.iload_n 2, 37, 2, 0, 0, 0, 0, [])),
  (37, (.iastore, 38, 0, 0, 0, 0, 0, [])),
  (38, (.aload_n 0, 39, 0, 0, 0, 0, 0, [])),
  (39, (.getfield 7, 42, 10, 0, 902, 2, 11, [])),
  (42, (.iconst 2, 43, 0, 0, 0, 0, 0, [])),
  (43, (.dup2, 44, 0, 0, 0, 0, 0, [])),
  (44, (.iaload, 45, 0, 0, 0, 0, 0, [])),
  (45, (.iconst 1, 46, 0, 0, 0, 0, 0, [])),
  (46, (.iadd, 47, 0, 0, 0, 0, 0, [])),
  (47, (.iastore, 48, 0, 0, 0, 0, 0, [])),
  (48, (.aload_n 0, 49, 0, 0, 0, 0, 0, [])),
  (49, (.getfield 7, 52, 10, 0, 902, 2, 11, [])),
  (52, (.iconst 2, 53, 0, 0, 0, 0, 0, [])),
  (53, (.iaload, 54, 0, 0, 0, 0, 0, [])),
  (54, (.iconst 1, 55, 0, 0, 0, 0, 0, [])),
  (55, (.isub, 56, 0, 0, 0, 0, 0, [])),
  (56, (.ireturn, 57, 0, 0, 0, 0, 0, []))]
def rn_m162 : rn_Mt := (yX10_comesLabel, cX10_comesLabel, 3, (some .int), false, 0, 0, 0, 0, rn_t162)
def rn_t163 : List (Nat × rn_E) := [(0, (.iload_n 0, 1, 0, 0, 0, 0, 0, [])),
  (1, (.iconst 0, 2, 0, 0, 0, 0, 0, [])),
  (2, (.bipush 60, 4, 0, 0, 0, 0, 0, [])),
  (4, (.invokestatic 41, 7, 124, 3, 956, 0, 11, [0])),
  (7, (.ireturn, 8, 0, 0, 0, 1, 0, []))]
def rn_m163 : rn_Mt := (yX10_isStart, cX10_isStart, 1, (some .boolean), false, 0, 0, 1, 22, rn_t163)
def rn_t164 : List (Nat × rn_E) := [(0, (.aload_n 0, 1, 0, 0, 0, 0, 0, [])),
  (1, (.iload_n 1, 2, 1, 0, 0, 0, 0, [])),
  (2, (.invokevirtual 84, 5, 127, 2, 994, 0, 11, [0])),
  (5, (.ifCond .eq 10, 8, 15, 0, 0, 0, 0, [])),
  (8, (.iload_n 2, 9, 2, 0, 0, 0, 0, [])),
  (9, (.invokestatic 133, 12, 163, 1, 1044, 0, 11, [0])),
  (12, (.ifCond .ne 5, 15, 17, 0, 0, 0, 0, [])),
  (15, (.iconst (-1), 16, 0, 0, 0, 0, 0, [])),
  (16, (.ireturn, 17, 0, 0, 0, 0, 0, [])),
  (17, (.aload_n 0, 18, 0, 0, 0, 0, 0, [])),
  (18, (.iload_n 1, 19, 1, 0, 0, 0, 0, [])),
  (19, (.iload_n 2, 20, 2, 0, 0, 0, 0, [])),
  (20, (.aload_n 0, 21, 0, 0, 0, 0, 0, [])),
  (21, (.iload_n 1, 22, 1, 0, 0, 0, 0, [])),
  (22, (.iconst 1, 23, 0, 0, 0, 0, 0, [])),
  (23, (.invokevirtual 49, 26, 129, 3, 1002, 0, 11, [0])),
  (26, (.bipush (-9), 28, 0, 0, 0, 0, 0, [])),
  (28, (.invokevirtual 126, 31, 158, 5, 1047, 0, 11, [0])),
  (31, (.ifCond .eq 6, 34, 37, 0, 0, 0, 0, [])),
  (34, (.bipush (-2), 36, 0, 0, 0, 0, 0, [])),
  (36, (.ireturn, 37, 0, 0, 0, 0, 0, [])),
  (37, (.aload_n 0, 38, 0, 0, 0, 0, 0, [])),
  (38, (.getfield 7, 41, 10, 0, 902, 2, 11, [])),
  (41, (.iconst 2, 42, 0, 0, 0, 0, 0, [])),
  (42, (.iaload, 43, 0, 0, 0, 0, 0, [])),
  (43, (.bipush 20, 45, 0, 0, 0, 0, 0, [])),
  (45, (.if_icmp .ne 6, 48, 51, 0, 0, 0, 0, [])),
  (48, (.bipush (-3), 50, 0, 0, 0, 0, 0, [])),
  (50, (.ireturn, 51, 0, 0, 0, 0, 0, [])),
  (51, (.aload_n 0, 52, 0, 0, 0, 0, 0, [])),
  (52, (.invokevirtual 70, 55, 125, 1, 968, 0, 11, [0])),
  (55, (.aload_n 0, 56, 0, 0, 0, 0, 0, [])),
  (56, (.iload_n 1, 57, 1, 0, 0, 0, 0, [])),
  (57, (.iload_n 2, 58, 2, 0, 0, 0, 0, [])),
  (58, (.invokevirtual 136, 61, 162, 3, 1071, 0, 11, [0])),
  (61, (.ireturn, 62, 0, 0, 0, 0, 0, []))]
def rn_m164 : rn_Mt := (yX10_set, cX10_set, 3, (some .int), false, 0, 0, 6, 142, rn_t164)
def rn_t165 : List (Nat × rn_E) := [(0, (.aload_n 0, 1, 0, 0, 0, 0, 0, [])),
  (1, (.getfield 7, 4, 10, 0, 902, 2, 11, [])),
  (4, (.iconst 2, 5, 0, 0, 0, 0, 0, [])),
  (5, (.dup2, 6, 0, 0, 0, 0, 0, [])),
  (6, (.iaload, 7, 0, 0, 0, 0, 0, [])),
  (7, (.iconst 1, 8, 0, 0, 0, 0, 0, [])),
  (8, (.isub, 9, 0, 0, 0, 0, 0, [])),
  (9, (.iastore, 10, 0, 0, 0, 0, 0, [])),
  (10, (.sipush 522, 13, 0, 0, 0, 0, 0, [])),
  (13, (.iconst 2, 14, 0, 0, 0, 0, 0, [])),
  (14, (.iload_n 1, 15, 1, 0, 0, 0, 0, [])),
  (15, (.imul, 16, 0, 0, 0, 0, 0, [])),
  (16, (.iadd, 17, 0, 0, 0, 0, 0, [])),
  (17, (.istore_n 2, 18, 2, 0, 0, 0, 0, [])),
  (18, (.iload_n 2, 19, 2, 0, 0, 0, 0, [])),
  (19, (.sipush 522, 22, 0, 0, 0, 0, 0, [])),
  (22, (.iconst 2, 23, 0, 0, 0, 0, 0, [])),
  (23, (.aload_n 0, 24, 0, 0, 0, 0, 0, [])),
  (24, (.getfield 7, 27, 10, 0, 902, 2, 11, [])),
  (27, (.iconst 2, 28, 0, 0, 0, 0, 0, [])),
  (28, (.iaload, 29, 0, 0, 0, 0, 0, [])),
  (29, (.imul, 30, 0, 0, 0, 0, 0, [])),
  (30, (.iadd, 31, 0, 0, 0, 0, 0, [])),
  (31, (.if_icmp .ge 23, 34, 54, 0, 0, 0, 0, [])),
  (34, (.aload_n 0, 35, 0, 0, 0, 0, 0, [])),
  (35, (.getfield 7, 38, 10, 0, 902, 2, 11, [])),
  (38, (.iload_n 2, 39, 2, 0, 0, 0, 0, [])),
  (39, (.aload_n 0, 40, 0, 0, 0, 0, 0, [])),
  (40, (.getfield 7, 43, 10, 0, 902, 2, 11, [])),
  (43, (.iload_n 2, 44, 2, 0, 0, 0, 0, [])),
  (44, (.iconst 2, 45, 0, 0, 0, 0, 0, [])),
  (45, (.iadd, 46, 0, 0, 0, 0, 0, [])),
  (46, (.iaload, 47, 0, 0, 0, 0, 0, [])),
  (47, (.iastore, 48, 0, 0, 0, 0, 0, [])),
  (48, (.iinc 2 1, 51, 2, 0, 0, 0, 0, [])),
  (51, (.goto (-33), 54, 18, 0, 0, 0, 0, [])),
  (54, (.return_, 55, 0, 0, 0, 0, 0, []))]
def rn_m165 : rn_Mt := (yX10_goesLabel, cX10_goesLabel, 3, none, false, 0, 0, 0, 0, rn_t165)
def rn_t166 : List (Nat × rn_E) := [(0, (.aload_n 0, 1, 0, 0, 0, 0, 0, [])),
  (1, (.iload_n 1, 2, 1, 0, 0, 0, 0, [])),
  (2, (.invokevirtual 139, 5, 161, 2, 1079, 0, 11, [0])),
  (5, (.ifCond .ne 5, 8, 10, 0, 0, 0, 0, [])),
  (8, (.iconst (-1), 9, 0, 0, 0, 0, 0, [])),
  (9, (.ireturn, 10, 0, 0, 0, 0, 0, [])),
  (10, (.aload_n 0, 11, 0, 0, 0, 0, 0, [])),
  (11, (.invokevirtual 70, 14, 125, 1, 968, 0, 11, [0])),
  (14, (.aload_n 0, 15, 0, 0, 0, 0, 0, [])),
  (15, (.iload_n 1, 16, 1, 0, 0, 0, 0, [])),
  (16, (.invokevirtual 142, 19, 165, 2, 1083, 0, 11, [0])),
  (19, (.aload_n 0, 20, 0, 0, 0, 0, 0, [])),
  (20, (.getfield 7, 23, 10, 0, 902, 2, 11, [])),
  (23, (.iconst 2, 24, 0, 0, 0, 0, 0, [])),
  (24, (.iaload, 25, 0, 0, 0, 0, 0, [])),
  (25, (.ireturn, 26, 0, 0, 0, 0, 0, []))]
def rn_m166 : rn_Mt := (yX10_remove, cX10_remove, 2, (some .int), false, 0, 0, 2, 43, rn_t166)
def rn_t167 : List (Nat × rn_E) := [(0, (.iload_n 1, 1, 1, 0, 0, 0, 0, [])),
  (1, (.iconst 1, 2, 0, 0, 0, 0, 0, [])),
  (2, (.iconst 5, 3, 0, 0, 0, 0, 0, [])),
  (3, (.invokestatic 41, 6, 124, 3, 956, 0, 11, [0])),
  (6, (.ifCond .ne 5, 9, 11, 0, 0, 0, 0, [])),
  (9, (.iconst (-1), 10, 0, 0, 0, 0, 0, [])),
  (10, (.ireturn, 11, 0, 0, 0, 0, 0, [])),
  (11, (.aload_n 0, 12, 0, 0, 0, 0, 0, [])),
  (12, (.invokevirtual 70, 15, 125, 1, 968, 0, 11, [0])),
  (15, (.aload_n 0, 16, 0, 0, 0, 0, 0, [])),
  (16, (.getfield 7, 19, 10, 0, 902, 2, 11, [])),
  (19, (.iconst 2, 20, 0, 0, 0, 0, 0, [])),
  (20, (.iconst 0, 21, 0, 0, 0, 0, 0, [])),
  (21, (.iastore, 22, 0, 0, 0, 0, 0, [])),
  (22, (.bipush 9, 24, 0, 0, 0, 0, 0, [])),
  (24, (.istore_n 2, 25, 2, 0, 0, 0, 0, [])),
  (25, (.iload_n 2, 26, 2, 0, 0, 0, 0, [])),
  (26, (.ifCond .le 108, 29, 134, 0, 0, 0, 0, [])),
  (29, (.iconst 0, 30, 0, 0, 0, 0, 0, [])),
  (30, (.istore_n 3, 31, 3, 0, 0, 0, 0, [])),
  (31, (.iload_n 3, 32, 3, 0, 0, 0, 0, [])),
  (32, (.aload_n 0, 33, 0, 0, 0, 0, 0, [])),
  (33, (.getfield 7, 36, 10, 0, 902, 2, 11, [])),
  (36, (.iconst 0, 37, 0, 0, 0, 0, 0, [])),
  (37, (.iaload, 38, 0, 0, 0, 0, 0, [])),
  (38, (.if_icmp .ge 90, 41, 128, 0, 0, 0, 0, [])),
  (41, (.aload_n 0, 42, 0, 0, 0, 0, 0, [])),
  (42, (.iload_n 3, 43, 3, 0, 0, 0, 0, [])),
  (43, (.iconst 1, 44, 0, 0, 0, 0, 0, [])),
  (44, (.invokevirtual 49, 47, 129, 3, 1002, 0, 11, [0])),
  (47, (.iload_n 2, 48, 2, 0, 0, 0, 0, [])),
  (48, (.if_icmp .ne 7, 51, 55, 0, 0, 0, 0, [])),
  (51, (.iload_n 1, 52, 1, 0, 0, 0, 0, [])),
  (52, (.goto 4, 55, 56, 0, 0, 0, 0, [])),
  (55, (.iconst 0, 56, 0, 0, 0, 0, 0, [])),
  (56, (.istore 4, 58, 4, 0, 0, 0, 0, [])),
  (58, (.iload 4, 60, 4, 0, 0, 0, 0, [])),
  (60, (.ifCond .le 62, 63, 122, 0, 0, 0, 0, [])),
  (63, (.aload_n 0, 64, 0, 0, 0, 0, 0, [])),
  (64, (.getfield 7, 67, 10, 0, 902, 2, 11, [])),
  (67, (.iconst 2, 68, 0, 0, 0, 0, 0, [])),
  (68, (.iaload, 69, 0, 0, 0, 0, 0, [])),
  (69, (.bipush 20, 71, 0, 0, 0, 0, 0, [])),
  (71, (.if_icmp .ge 51, 74, 122, 0, 0, 0, 0, [])),
  (74, (.aload_n 0, 75, 0, 0, 0, 0, 0, [])),
  (75, (.iload_n 3, 76, 3, 0, 0, 0, 0, [])),
  (76, (.invokevirtual 145, 79, 160, 2, 1091, 0, 11, [0])),
  (79, (.istore 5, 81, 5, 0, 0, 0, 0, [])),
  (81, (.iload 5, 83, 5, 0, 0, 0, 0, [])),
  (83, (.bipush (-9), 85, 0, 0, 0, 0, 0, [])),
  (85, (.if_icmp .ne 7, 88, 92, 0, 0, 0, 0, [])),
  (88, (.iconst 0, 89, 0, 0, 0, 0, 0, [])),
  (89, (.goto 7, 92, 96, 0, 0, 0, 0, [])),
  (92, (.iload 4, 94, 4, 0, 0, 0, 0, [])),
  (94, (.iconst 1, 95, 0, 0, 0, 0, 0, [])),
  (95, (.isub, 96, 0, 0, 0, 0, 0, [])),
  (96, (.istore 4, 98, 4, 0, 0, 0, 0, [])),
  (98, (.iload 5, 100, 5, 0, 0, 0, 0, [])),
  (100, (.bipush (-9), 102, 0, 0, 0, 0, 0, [])),
  (102, (.if_icmp .ne 8, 105, 110, 0, 0, 0, 0, [])),
  (105, (.bipush (-9), 107, 0, 0, 0, 0, 0, [])),
  (107, (.goto 10, 110, 117, 0, 0, 0, 0, [])),
  (110, (.aload_n 0, 111, 0, 0, 0, 0, 0, [])),
  (111, (.iload_n 3, 112, 3, 0, 0, 0, 0, [])),
  (112, (.iload 5, 114, 5, 0, 0, 0, 0, [])),
  (114, (.invokevirtual 136, 117, 162, 3, 1071, 0, 11, [0])),
  (117, (.istore 6, 119, 6, 0, 0, 0, 0, [])),
  (119, (.goto (-61), 122, 58, 0, 0, 0, 0, [])),
  (122, (.iinc 3 1, 125, 3, 0, 0, 0, 0, [])),
  (125, (.goto (-94), 128, 31, 0, 0, 0, 0, [])),
  (128, (.iinc 2 (-1), 131, 2, 0, 0, 0, 0, [])),
  (131, (.goto (-106), 134, 25, 0, 0, 0, 0, [])),
  (134, (.aload_n 0, 135, 0, 0, 0, 0, 0, [])),
  (135, (.getfield 7, 138, 10, 0, 902, 2, 11, [])),
  (138, (.iconst 2, 139, 0, 0, 0, 0, 0, [])),
  (139, (.iaload, 140, 0, 0, 0, 0, 0, [])),
  (140, (.ireturn, 141, 0, 0, 0, 0, 0, []))]
def rn_m167 : rn_Mt := (yX10_place, cX10_place, 7, (some .int), false, 0, 0, 7, 166, rn_t167)
def rn_t168 : List (Nat × rn_E) := [(0, (.aload_n 0, 1, 0, 0, 0, 0, 0, [])),
  (1, (.invokevirtual 70, 4, 125, 1, 968, 0, 11, [0])),
  (4, (.aload_n 0, 5, 0, 0, 0, 0, 0, [])),
  (5, (.getfield 7, 8, 10, 0, 902, 2, 11, [])),
  (8, (.iconst 2, 9, 0, 0, 0, 0, 0, [])),
  (9, (.iaload, 10, 0, 0, 0, 0, 0, [])),
  (10, (.istore_n 1, 11, 1, 0, 0, 0, 0, [])),
  (11, (.iconst 0, 12, 0, 0, 0, 0, 0, [])),
  (12, (.istore_n 2, 13, 2, 0, 0, 0, 0, [])),
  (13, (.iload_n 2, 14, 2, 0, 0, 0, 0, [])),
  (14, (.aload_n 0, 15, 0, 0, 0, 0, 0, [])),
  (15, (.getfield 7, 18, 10, 0, 902, 2, 11, [])),
  (18, (.iconst 2, 19, 0, 0, 0, 0, 0, [])),
  (19, (.iaload, 20, 0, 0, 0, 0, 0, [])),
  (20, (.if_icmp .ge 25, 23, 45, 0, 0, 0, 0, [])),
  (23, (.aload_n 0, 24, 0, 0, 0, 0, 0, [])),
  (24, (.iload_n 2, 25, 2, 0, 0, 0, 0, [])),
  (25, (.invokevirtual 148, 28, 159, 2, 1110, 0, 11, [0])),
  (28, (.ifCond .eq 11, 31, 39, 0, 0, 0, 0, [])),
  (31, (.aload_n 0, 32, 0, 0, 0, 0, 0, [])),
  (32, (.iload_n 2, 33, 2, 0, 0, 0, 0, [])),
  (33, (.invokevirtual 142, 36, 165, 2, 1083, 0, 11, [0])),
  (36, (.goto (-23), 39, 13, 0, 0, 0, 0, [])),
  (39, (.iinc 2 1, 42, 2, 0, 0, 0, 0, [])),
  (42, (.goto (-29), 45, 13, 0, 0, 0, 0, [])),
  (45, (.iload_n 1, 46, 1, 0, 0, 0, 0, [])),
  (46, (.aload_n 0, 47, 0, 0, 0, 0, 0, [])),
  (47, (.getfield 7, 50, 10, 0, 902, 2, 11, [])),
  (50, (.iconst 2, 51, 0, 0, 0, 0, 0, [])),
  (51, (.iaload, 52, 0, 0, 0, 0, 0, [])),
  (52, (.isub, 53, 0, 0, 0, 0, 0, [])),
  (53, (.ireturn, 54, 0, 0, 0, 0, 0, []))]
def rn_m168 : rn_Mt := (yX10_tidy, cX10_tidy, 3, (some .int), false, 0, 0, 7, 164, rn_t168)
def rn_t169 : List (Nat × rn_E) := [(0, (.iconst 0, 1, 0, 0, 0, 0, 0, [])),
  (1, (.istore_n 1, 2, 1, 0, 0, 0, 0, [])),
  (2, (.iconst 0, 3, 0, 0, 0, 0, 0, [])),
  (3, (.istore_n 2, 4, 2, 0, 0, 0, 0, [])),
  (4, (.iload_n 2, 5, 2, 0, 0, 0, 0, [])),
  (5, (.aload_n 0, 6, 0, 0, 0, 0, 0, [])),
  (6, (.getfield 7, 9, 10, 0, 902, 2, 11, [])),
  (9, (.iconst 2, 10, 0, 0, 0, 0, 0, [])),
  (10, (.iaload, 11, 0, 0, 0, 0, 0, [])),
  (11, (.if_icmp .ge 42, 14, 53, 0, 0, 0, 0, [])),
  (14, (.iload_n 1, 15, 1, 0, 0, 0, 0, [])),
  (15, (.aload_n 0, 16, 0, 0, 0, 0, 0, [])),
  (16, (.aload_n 0, 17, 0, 0, 0, 0, 0, [])),
  (17, (.getfield 7, 20, 10, 0, 902, 2, 11, [])),
  (20, (.sipush 522, 23, 0, 0, 0, 0, 0, [])),
  (23, (.iconst 2, 24, 0, 0, 0, 0, 0, [])),
  (24, (.iload_n 2, 25, 2, 0, 0, 0, 0, [])),
  (25, (.imul, 26, 0, 0, 0, 0, 0, [])),
  (26, (.iadd, 27, 0, 0, 0, 0, 0, [])),
  (27, (.iaload, 28, 0, 0, 0, 0, 0, [])),
  (28, (.aload_n 0, 29, 0, 0, 0, 0, 0, [])),
  (29, (.getfield 7, 32, 10, 0, 902, 2, 11, [])),
  (32, (.sipush 522, 35, 0, 0, 0, 0, 0, [])),
  (35, (.iconst 2, 36, 0, 0, 0, 0, 0, [])),
  (36, (.iload_n 2, 37, 2, 0, 0, 0, 0, [])),
  (37, (.imul, 38, 0, 0, 0, 0, 0, [])),
  (38, (.iadd, 39, 0, 0, 0, 0, 0, [])),
  (39, (.iconst 1, 40, 0, 0, 0, 0, 0, [])),
  (40, (.iadd, 41, 0, 0, 0, 0, 0, [])),
  (41, (.iaload, 42, 0, 0, 0, 0, 0, [])),
  (42, (.invokevirtual 130, 45, 152, 3, 1095, 0, 11, [0])),
  (45, (.iadd, 46, 0, 0, 0, 0, 0, [])),
  (46, (.istore_n 1, 47, 1, 0, 0, 0, 0, [])),
  (47, (.iinc 2 1, 50, 2, 0, 0, 0, 0, [])),
  (50, (.goto (-46), 53, 4, 0, 0, 0, 0, [])),
  (53, (.iload_n 1, 54, 1, 0, 0, 0, 0, [])),
  (54, (.ireturn, 55, 0, 0, 0, 0, 0, []))]
def rn_m169 : rn_Mt := (yX10_costs, cX10_costs, 3, (some .int), false, 0, 0, 4, 91, rn_t169)
def rn_t170 : List (Nat × rn_E) := [(0, (.iconst 0, 1, 0, 0, 0, 0, 0, [])),
  (1, (.istore_n 1, 2, 1, 0, 0, 0, 0, [])),
  (2, (.iconst 0, 3, 0, 0, 0, 0, 0, [])),
  (3, (.istore_n 2, 4, 2, 0, 0, 0, 0, [])),
  (4, (.iload_n 2, 5, 2, 0, 0, 0, 0, [])),
  (5, (.aload_n 0, 6, 0, 0, 0, 0, 0, [])),
  (6, (.getfield 7, 9, 10, 0, 902, 2, 11, [])),
  (9, (.iconst 2, 10, 0, 0, 0, 0, 0, [])),
  (10, (.iaload, 11, 0, 0, 0, 0, 0, [])),
  (11, (.if_icmp .ge 25, 14, 36, 0, 0, 0, 0, [])),
  (14, (.iload_n 1, 15, 1, 0, 0, 0, 0, [])),
  (15, (.aload_n 0, 16, 0, 0, 0, 0, 0, [])),
  (16, (.iload_n 2, 17, 2, 0, 0, 0, 0, [])),
  (17, (.invokevirtual 148, 20, 159, 2, 1110, 0, 11, [0])),
  (20, (.ifCond .ne 7, 23, 27, 0, 0, 0, 0, [])),
  (23, (.iconst 0, 24, 0, 0, 0, 0, 0, [])),
  (24, (.goto 4, 27, 28, 0, 0, 0, 0, [])),
  (27, (.iconst 1, 28, 0, 0, 0, 0, 0, [])),
  (28, (.iadd, 29, 0, 0, 0, 0, 0, [])),
  (29, (.istore_n 1, 30, 1, 0, 0, 0, 0, [])),
  (30, (.iinc 2 1, 33, 2, 0, 0, 0, 0, [])),
  (33, (.goto (-29), 36, 4, 0, 0, 0, 0, [])),
  (36, (.iload_n 1, 37, 1, 0, 0, 0, 0, [])),
  (37, (.ireturn, 38, 0, 0, 0, 0, 0, []))]
def rn_m170 : rn_Mt := (yX10_wrong, cX10_wrong, 3, (some .int), false, 0, 0, 7, 164, rn_t170)
def rn_t171 : List (Nat × rn_E) := [(0, (.iconst 0, 1, 0, 0, 0, 0, 0, [])),
  (1, (.istore_n 2, 2, 2, 0, 0, 0, 0, [])),
  (2, (.iconst 0, 3, 0, 0, 0, 0, 0, [])),
  (3, (.istore_n 3, 4, 3, 0, 0, 0, 0, [])),
  (4, (.iload_n 3, 5, 3, 0, 0, 0, 0, [])),
  (5, (.aload_n 0, 6, 0, 0, 0, 0, 0, [])),
  (6, (.getfield 7, 9, 10, 0, 902, 2, 11, [])),
  (9, (.iconst 2, 10, 0, 0, 0, 0, 0, [])),
  (10, (.iaload, 11, 0, 0, 0, 0, 0, [])),
  (11, (.if_icmp .ge 33, 14, 44, 0, 0, 0, 0, [])),
  (14, (.iload_n 2, 15, 2, 0, 0, 0, 0, [])),
  (15, (.aload_n 0, 16, 0, 0, 0, 0, 0, [])),
  (16, (.getfield 7, 19, 10, 0, 902, 2, 11, [])),
  (19, (.sipush 522, 22, 0, 0, 0, 0, 0, [])),
  (22, (.iconst 2, 23, 0, 0, 0, 0, 0, [])),
  (23, (.iload_n 3, 24, 3, 0, 0, 0, 0, [])),
  (24, (.imul, 25, 0, 0, 0, 0, 0, [])),
  (25, (.iadd, 26, 0, 0, 0, 0, 0, [])),
  (26, (.iaload, 27, 0, 0, 0, 0, 0, [])),
  (27, (.iload_n 1, 28, 1, 0, 0, 0, 0, [])),
  (28, (.if_icmp .ne 7, 31, 35, 0, 0, 0, 0, [])),
  (31, (.iconst 1, 32, 0, 0, 0, 0, 0, [])),
  (32, (.goto 4, 35, 36, 0, 0, 0, 0, [])),
  (35, (.iconst 0, 36, 0, 0, 0, 0, 0, [])),
  (36, (.iadd, 37, 0, 0, 0, 0, 0, [])),
  (37, (.istore_n 2, 38, 2, 0, 0, 0, 0, [])),
  (38, (.iinc 3 1, 41, 3, 0, 0, 0, 0, [])),
  (41, (.goto (-37), 44, 4, 0, 0, 0, 0, [])),
  (44, (.iload_n 2, 45, 2, 0, 0, 0, 0, [])),
  (45, (.ireturn, 46, 0, 0, 0, 0, 0, []))]
def rn_m171 : rn_Mt := (yX10_labelsOf, cX10_labelsOf, 4, (some .int), false, 0, 0, 0, 0, rn_t171)
def rn_t172 : List (Nat × rn_E) := [(0, (.iconst 0, 1, 0, 0, 0, 0, 0, [])),
  (1, (.istore_n 1, 2, 1, 0, 0, 0, 0, [])),
  (2, (.iconst 0, 3, 0, 0, 0, 0, 0, [])),
  (3, (.istore_n 2, 4, 2, 0, 0, 0, 0, [])),
  (4, (.iload_n 2, 5, 2, 0, 0, 0, 0, [])),
  (5, (.aload_n 0, 6, 0, 0, 0, 0, 0, [])),
  (6, (.getfield 7, 9, 10, 0, 902, 2, 11, [])),
  (9, (.iconst 0, 10, 0, 0, 0, 0, 0, [])),
  (10, (.iaload, 11, 0, 0, 0, 0, 0, [])),
  (11, (.if_icmp .ge 27, 14, 38, 0, 0, 0, 0, [])),
  (14, (.iload_n 1, 15, 1, 0, 0, 0, 0, [])),
  (15, (.aload_n 0, 16, 0, 0, 0, 0, 0, [])),
  (16, (.iload_n 2, 17, 2, 0, 0, 0, 0, [])),
  (17, (.invokevirtual 151, 20, 171, 2, 1130, 0, 11, [0])),
  (20, (.ifCond .ne 9, 23, 29, 0, 0, 0, 0, [])),
  (23, (.iconst 1, 24, 0, 0, 0, 0, 0, [])),
  (24, (.iload_n 2, 25, 2, 0, 0, 0, 0, [])),
  (25, (.ishl, 26, 0, 0, 0, 0, 0, [])),
  (26, (.goto 4, 29, 30, 0, 0, 0, 0, [])),
  (29, (.iconst 0, 30, 0, 0, 0, 0, 0, [])),
  (30, (.ior, 31, 0, 0, 0, 0, 0, [])),
  (31, (.istore_n 1, 32, 1, 0, 0, 0, 0, [])),
  (32, (.iinc 2 1, 35, 2, 0, 0, 0, 0, [])),
  (35, (.goto (-31), 38, 4, 0, 0, 0, 0, [])),
  (38, (.iload_n 1, 39, 1, 0, 0, 0, 0, [])),
  (39, (.ireturn, 40, 0, 0, 0, 0, 0, []))]
def rn_m172 : rn_Mt := (yX10_without, cX10_without, 3, (some .int), false, 0, 0, 1, 23, rn_t172)
def rn_t173 : List (Nat × rn_E) := [(0, (.aload_n 0, 1, 0, 0, 0, 0, 0, [])),
  (1, (.dup, 2, 0, 0, 0, 0, 0, [])),
  (2, (.getfield 108, 5, 10, 8, 910, 0, 11, [])),
  (5, (.iconst 1, 6, 0, 0, 0, 0, 0, [])),
  (6, (.iadd, 7, 0, 0, 0, 0, 0, [])),
  (7, (.putfield 108, 10, 10, 8, 910, 0, 11, [])),
  (10, (.iconst 0, 11, 0, 0, 0, 0, 0, [])),
  (11, (.istore_n 1, 12, 1, 0, 0, 0, 0, [])),
  (12, (.iconst 0, 13, 0, 0, 0, 0, 0, [])),
  (13, (.istore_n 2, 14, 2, 0, 0, 0, 0, [])),
  (14, (.iload_n 2, 15, 2, 0, 0, 0, 0, [])),
  (15, (.aload_n 0, 16, 0, 0, 0, 0, 0, [])),
  (16, (.getfield 7, 19, 10, 0, 902, 2, 11, [])),
  (19, (.iconst 2, 20, 0, 0, 0, 0, 0, [])),
  (20, (.iaload, 21, 0, 0, 0, 0, 0, [])),
  (21, (.if_icmp .ge 42, 24, 63, 0, 0, 0, 0, [])),
  (24, (.iload_n 1, 25, 1, 0, 0, 0, 0, [])),
  (25, (.aload_n 0, 26, 0, 0, 0, 0, 0, [])),
  (26, (.aload_n 0, 27, 0, 0, 0, 0, 0, [])),
  (27, (.getfield 7, 30, 10, 0, 902, 2, 11, [])),
  (30, (.sipush 522, 33, 0, 0, 0, 0, 0, [])),
  (33, (.iconst 2, 34, 0, 0, 0, 0, 0, [])),
  (34, (.iload_n 2, 35, 2, 0, 0, 0, 0, [])),
  (35, (.imul, 36, 0, 0, 0, 0, 0, [])),
  (36, (.iadd, 37, 0, 0, 0, 0, 0, [])),
  (37, (.iaload, 38, 0, 0, 0, 0, 0, [])),
  (38, (.aload_n 0, 39, 0, 0, 0, 0, 0, [])),
  (39, (.getfield 7, 42, 10, 0, 902, 2, 11, [])),
  (42, (.sipush 522, 45, 0, 0, 0, 0, 0, [])),
  (45, (.iconst 2, 46, 0, 0, 0, 0, 0, [])),
  (46, (.iload_n 2, 47, 2, 0, 0, 0, 0, [])),
  (47, (.imul, 48, 0, 0, 0, 0, 0, [])),
  (48, (.iadd, 49, 0, 0, 0, 0, 0, [])),
  (49, (.iconst 1, 50, 0, 0, 0, 0, 0, [])),
  (50, (.iadd, 51, 0, 0, 0, 0, 0, [])),
  (51, (.iaload, 52, 0, 0, 0, 0, 0, [])),
  (52, (.invokevirtual 111, 55, 155, 3, 1059, 0, 11, [0])),
  (55, (.iadd, 56, 0, 0, 0, 0, 0, [])),
  (56, (.istore_n 1, 57, 1, 0, 0, 0, 0, [])),
  (57, (.iinc 2 1, 60, 2, 0, 0, 0, 0, [])),
  (60, (.goto (-46), 63, 14, 0, 0, 0, 0, [])),
  (63, (.iload_n 1, 64, 1, 0, 0, 0, 0, [])),
  (64, (.ireturn, 65, 0, 0, 0, 0, 0, []))]
def rn_m173 : rn_Mt := (yX10_covered, cX10_covered, 3, (some .int), false, 0, 0, 4, 92, rn_t173)
def rn_t174 : List (Nat × rn_E) := [(0, (.iload_n 1, 1, 1, 0, 0, 0, 0, [])),
  (1, (.tableswitch 92 0 9 #[55, 55, 55, 55, 62, 67, 72, 77, 82, 87], 56, 93, 0, 0, 0, 0, [56, 56, 56, 56, 63, 68, 73, 78, 83, 88])),
  (56, (.aload_n 0, 57, 0, 0, 0, 0, 0, [])),
  (57, (.getfield 7, 60, 10, 0, 902, 2, 11, [])),
  (60, (.iload_n 1, 61, 1, 0, 0, 0, 0, [])),
  (61, (.iaload, 62, 0, 0, 0, 0, 0, [])),
  (62, (.ireturn, 63, 0, 0, 0, 0, 0, [])),
  (63, (.aload_n 0, 64, 0, 0, 0, 0, 0, [])),
  (64, (.invokevirtual 154, 67, 169, 1, 1118, 0, 11, [0])),
  (67, (.ireturn, 68, 0, 0, 0, 0, 0, [])),
  (68, (.aload_n 0, 69, 0, 0, 0, 0, 0, [])),
  (69, (.invokevirtual 158, 72, 170, 1, 1122, 0, 11, [0])),
  (72, (.ireturn, 73, 0, 0, 0, 0, 0, [])),
  (73, (.aload_n 0, 74, 0, 0, 0, 0, 0, [])),
  (74, (.invokevirtual 161, 77, 172, 1, 1126, 0, 11, [0])),
  (77, (.ireturn, 78, 0, 0, 0, 0, 0, [])),
  (78, (.aload_n 0, 79, 0, 0, 0, 0, 0, [])),
  (79, (.invokevirtual 164, 82, 173, 1, 1134, 0, 11, [0])),
  (82, (.ireturn, 83, 0, 0, 0, 0, 0, [])),
  (83, (.aload_n 0, 84, 0, 0, 0, 0, 0, [])),
  (84, (.getfield 37, 87, 10, 2, 904, 0, 11, [])),
  (87, (.ireturn, 88, 0, 0, 0, 0, 0, [])),
  (88, (.aload_n 0, 89, 0, 0, 0, 0, 0, [])),
  (89, (.getfield 167, 92, 10, 4, 906, 0, 11, [])),
  (92, (.ireturn, 93, 0, 0, 0, 0, 0, [])),
  (93, (.iconst (-1), 94, 0, 0, 0, 0, 0, [])),
  (94, (.ireturn, 95, 0, 0, 0, 0, 0, []))]
def rn_m174 : rn_Mt := (yX10_count, cX10_count, 2, (some .int), false, 0, 0, 8, 186, rn_t174)
def rn_t175 : List (Nat × rn_E) := [(0, (.aload_n 0, 1, 0, 0, 0, 0, 0, [])),
  (1, (.dup, 2, 0, 0, 0, 0, 0, [])),
  (2, (.getfield 108, 5, 10, 8, 910, 0, 11, [])),
  (5, (.iconst 1, 6, 0, 0, 0, 0, 0, [])),
  (6, (.iadd, 7, 0, 0, 0, 0, 0, [])),
  (7, (.putfield 108, 10, 10, 8, 910, 0, 11, [])),
  (10, (.aload_n 0, 11, 0, 0, 0, 0, 0, [])),
  (11, (.iload_n 1, 12, 1, 0, 0, 0, 0, [])),
  (12, (.invokevirtual 87, 15, 133, 2, 998, 0, 11, [0])),
  (15, (.iconst 0, 16, 0, 0, 0, 0, 0, [])),
  (16, (.istore_n 2, 17, 2, 0, 0, 0, 0, [])),
  (17, (.iconst 0, 18, 0, 0, 0, 0, 0, [])),
  (18, (.istore_n 3, 19, 3, 0, 0, 0, 0, [])),
  (19, (.iload_n 3, 20, 3, 0, 0, 0, 0, [])),
  (20, (.aload_n 0, 21, 0, 0, 0, 0, 0, [])),
  (21, (.iload_n 1, 22, 1, 0, 0, 0, 0, [])),
  (22, (.iconst 5, 23, 0, 0, 0, 0, 0, [])),
  (23, (.invokevirtual 49, 26, 129, 3, 1002, 0, 11, [0])),
  (26, (.if_icmp .gt 60, 29, 86, 0, 0, 0, 0, [])),
  (29, (.bipush 60, 31, 0, 0, 0, 0, 0, [])),
  (31, (.aload_n 0, 32, 0, 0, 0, 0, 0, [])),
  (32, (.getfield 22, 35, 10, 6, 908, 2, 11, [])),
  (35, (.iload_n 3, 36, 3, 0, 0, 0, 0, [])),
  (36, (.iaload, 37, 0, 0, 0, 0, 0, [])),
  (37, (.imul, 38, 0, 0, 0, 0, 0, [])),
  (38, (.aload_n 0, 39, 0, 0, 0, 0, 0, [])),
  (39, (.getfield 19, 42, 10, 5, 907, 2, 11, [])),
  (42, (.iload_n 3, 43, 3, 0, 0, 0, 0, [])),
  (43, (.iaload, 44, 0, 0, 0, 0, 0, [])),
  (44, (.iadd, 45, 0, 0, 0, 0, 0, [])),
  (45, (.istore 4, 47, 4, 0, 0, 0, 0, [])),
  (47, (.iload_n 2, 48, 2, 0, 0, 0, 0, [])),
  (48, (.aload_n 0, 49, 0, 0, 0, 0, 0, [])),
  (49, (.getfield 25, 52, 10, 7, 909, 2, 11, [])),
  (52, (.iload 4, 54, 4, 0, 0, 0, 0, [])),
  (54, (.iaload, 55, 0, 0, 0, 0, 0, [])),
  (55, (.aload_n 0, 56, 0, 0, 0, 0, 0, [])),
  (56, (.getfield 108, 59, 10, 8, 910, 0, 11, [])),
  (59, (.if_icmp .ne 7, 62, 66, 0, 0, 0, 0, [])),
  (62, (.iconst 0, 63, 0, 0, 0, 0, 0, [])),
  (63, (.goto 4, 66, 67, 0, 0, 0, 0, [])),
  (66, (.iconst 1, 67, 0, 0, 0, 0, 0, [])),
  (67, (.iadd, 68, 0, 0, 0, 0, 0, [])),
  (68, (.istore_n 2, 69, 2, 0, 0, 0, 0, [])),
  (69, (.aload_n 0, 70, 0, 0, 0, 0, 0, [])),
  (70, (.getfield 25, 73, 10, 7, 909, 2, 11, [])),
  (73, (.iload 4, 75, 4, 0, 0, 0, 0, [])),
  (75, (.aload_n 0, 76, 0, 0, 0, 0, 0, [])),
  (76, (.getfield 108, 79, 10, 8, 910, 0, 11, [])),
  (79, (.iastore, 80, 0, 0, 0, 0, 0, [])),
  (80, (.iinc 3 1, 83, 3, 0, 0, 0, 0, [])),
  (83, (.goto (-64), 86, 19, 0, 0, 0, 0, [])),
  (86, (.iload_n 2, 87, 2, 0, 0, 0, 0, [])),
  (87, (.ireturn, 88, 0, 0, 0, 0, 0, []))]
def rn_m175 : rn_Mt := (yX10_differentCells, cX10_differentCells, 5, (some .int), false, 0, 0, 3, 65, rn_t175)
def rn_t176 : List (Nat × rn_E) := [(0, (.aload_n 0, 1, 0, 0, 0, 0, 0, [])),
  (1, (.iload_n 1, 2, 1, 0, 0, 0, 0, [])),
  (2, (.invokevirtual 84, 5, 127, 2, 994, 0, 11, [0])),
  (5, (.ifCond .eq 13, 8, 18, 0, 0, 0, 0, [])),
  (8, (.iload_n 2, 9, 2, 0, 0, 0, 0, [])),
  (9, (.iconst 0, 10, 0, 0, 0, 0, 0, [])),
  (10, (.bipush 6, 12, 0, 0, 0, 0, 0, [])),
  (12, (.invokestatic 41, 15, 124, 3, 956, 0, 11, [0])),
  (15, (.ifCond .ne 5, 18, 20, 0, 0, 0, 0, [])),
  (18, (.iconst (-1), 19, 0, 0, 0, 0, 0, [])),
  (19, (.ireturn, 20, 0, 0, 0, 0, 0, [])),
  (20, (.iload_n 2, 21, 2, 0, 0, 0, 0, [])),
  (21, (.tableswitch 79 0 5 #[39, 46, 53, 60, 67, 73], 60, 100, 0, 0, 0, 0, [60, 67, 74, 81, 88, 94])),
  (60, (.aload_n 0, 61, 0, 0, 0, 0, 0, [])),
  (61, (.iload_n 1, 62, 1, 0, 0, 0, 0, [])),
  (62, (.iconst 1, 63, 0, 0, 0, 0, 0, [])),
  (63, (.invokevirtual 49, 66, 129, 3, 1002, 0, 11, [0])),
  (66, (.ireturn, 67, 0, 0, 0, 0, 0, [])),
  (67, (.aload_n 0, 68, 0, 0, 0, 0, 0, [])),
  (68, (.iload_n 1, 69, 1, 0, 0, 0, 0, [])),
  (69, (.iconst 2, 70, 0, 0, 0, 0, 0, [])),
  (70, (.invokevirtual 49, 73, 129, 3, 1002, 0, 11, [0])),
  (73, (.ireturn, 74, 0, 0, 0, 0, 0, [])),
  (74, (.aload_n 0, 75, 0, 0, 0, 0, 0, [])),
  (75, (.iload_n 1, 76, 1, 0, 0, 0, 0, [])),
  (76, (.iconst 0, 77, 0, 0, 0, 0, 0, [])),
  (77, (.invokevirtual 49, 80, 129, 3, 1002, 0, 11, [0])),
  (80, (.ireturn, 81, 0, 0, 0, 0, 0, [])),
  (81, (.aload_n 0, 82, 0, 0, 0, 0, 0, [])),
  (82, (.iload_n 1, 83, 1, 0, 0, 0, 0, [])),
  (83, (.iconst 5, 84, 0, 0, 0, 0, 0, [])),
  (84, (.invokevirtual 49, 87, 129, 3, 1002, 0, 11, [0])),
  (87, (.ireturn, 88, 0, 0, 0, 0, 0, [])),
  (88, (.aload_n 0, 89, 0, 0, 0, 0, 0, [])),
  (89, (.iload_n 1, 90, 1, 0, 0, 0, 0, [])),
  (90, (.invokevirtual 151, 93, 171, 2, 1130, 0, 11, [0])),
  (93, (.ireturn, 94, 0, 0, 0, 0, 0, [])),
  (94, (.aload_n 0, 95, 0, 0, 0, 0, 0, [])),
  (95, (.iload_n 1, 96, 1, 0, 0, 0, 0, [])),
  (96, (.invokevirtual 170, 99, 175, 2, 1142, 0, 11, [0])),
  (99, (.ireturn, 100, 0, 0, 0, 0, 0, [])),
  (100, (.aload_n 0, 101, 0, 0, 0, 0, 0, [])),
  (101, (.iload_n 1, 102, 1, 0, 0, 0, 0, [])),
  (102, (.iconst 0, 103, 0, 0, 0, 0, 0, [])),
  (103, (.aload_n 0, 104, 0, 0, 0, 0, 0, [])),
  (104, (.iload_n 1, 105, 1, 0, 0, 0, 0, [])),
  (105, (.iconst 5, 106, 0, 0, 0, 0, 0, [])),
  (106, (.invokevirtual 49, 109, 129, 3, 1002, 0, 11, [0])),
  (109, (.iconst 1, 110, 0, 0, 0, 0, 0, [])),
  (110, (.iadd, 111, 0, 0, 0, 0, 0, [])),
  (111, (.invokevirtual 104, 114, 150, 4, 1099, 0, 11, [0])),
  (114, (.ireturn, 115, 0, 0, 0, 0, 0, []))]
def rn_m176 : rn_Mt := (yX10_river, cX10_river, 3, (some .int), false, 0, 0, 4, 89, rn_t176)
def rn_t177 : List (Nat × rn_E) := [(0, (.aload_n 0, 1, 0, 0, 0, 0, 0, [])),
  (1, (.iload_n 1, 2, 1, 0, 0, 0, 0, [])),
  (2, (.invokevirtual 84, 5, 127, 2, 994, 0, 11, [0])),
  (5, (.ifCond .eq 10, 8, 15, 0, 0, 0, 0, [])),
  (8, (.iload_n 2, 9, 2, 0, 0, 0, 0, [])),
  (9, (.invokestatic 133, 12, 163, 1, 1044, 0, 11, [0])),
  (12, (.ifCond .ne 5, 15, 17, 0, 0, 0, 0, [])),
  (15, (.iconst (-1), 16, 0, 0, 0, 0, 0, [])),
  (16, (.ireturn, 17, 0, 0, 0, 0, 0, [])),
  (17, (.aload_n 0, 18, 0, 0, 0, 0, 0, [])),
  (18, (.iload_n 1, 19, 1, 0, 0, 0, 0, [])),
  (19, (.invokevirtual 87, 22, 133, 2, 998, 0, 11, [0])),
  (22, (.iload_n 2, 23, 2, 0, 0, 0, 0, [])),
  (23, (.aload_n 0, 24, 0, 0, 0, 0, 0, [])),
  (24, (.iload_n 1, 25, 1, 0, 0, 0, 0, [])),
  (25, (.iconst 5, 26, 0, 0, 0, 0, 0, [])),
  (26, (.invokevirtual 49, 29, 129, 3, 1002, 0, 11, [0])),
  (29, (.if_icmp .le 8, 32, 37, 0, 0, 0, 0, [])),
  (32, (.bipush (-9), 34, 0, 0, 0, 0, 0, [])),
  (34, (.goto 19, 37, 53, 0, 0, 0, 0, [])),
  (37, (.bipush 100, 39, 0, 0, 0, 0, 0, [])),
  (39, (.aload_n 0, 40, 0, 0, 0, 0, 0, [])),
  (40, (.getfield 19, 43, 10, 5, 907, 2, 11, [])),
  (43, (.iload_n 2, 44, 2, 0, 0, 0, 0, [])),
  (44, (.iaload, 45, 0, 0, 0, 0, 0, [])),
  (45, (.imul, 46, 0, 0, 0, 0, 0, [])),
  (46, (.aload_n 0, 47, 0, 0, 0, 0, 0, [])),
  (47, (.getfield 22, 50, 10, 6, 908, 2, 11, [])),
  (50, (.iload_n 2, 51, 2, 0, 0, 0, 0, [])),
  (51, (.iaload, 52, 0, 0, 0, 0, 0, [])),
  (52, (.iadd, 53, 0, 0, 0, 0, 0, [])),
  (53, (.ireturn, 54, 0, 0, 0, 0, 0, []))]
def rn_m177 : rn_Mt := (yX10_cell, cX10_cell, 3, (some .int), false, 0, 0, 3, 65, rn_t177)
def rn_t178 : List (Nat × rn_E) := [(0, (.aload_n 0, 1, 0, 0, 0, 0, 0, [])),
  (1, (.iload_n 1, 2, 1, 0, 0, 0, 0, [])),
  (2, (.invokevirtual 84, 5, 127, 2, 994, 0, 11, [0])),
  (5, (.ifCond .eq 7, 8, 12, 0, 0, 0, 0, [])),
  (8, (.iload_n 2, 9, 2, 0, 0, 0, 0, [])),
  (9, (.ifCond .ge 5, 12, 14, 0, 0, 0, 0, [])),
  (12, (.iconst (-1), 13, 0, 0, 0, 0, 0, [])),
  (13, (.ireturn, 14, 0, 0, 0, 0, 0, [])),
  (14, (.iload_n 2, 15, 2, 0, 0, 0, 0, [])),
  (15, (.aload_n 0, 16, 0, 0, 0, 0, 0, [])),
  (16, (.iload_n 1, 17, 1, 0, 0, 0, 0, [])),
  (17, (.iconst 0, 18, 0, 0, 0, 0, 0, [])),
  (18, (.invokevirtual 49, 21, 129, 3, 1002, 0, 11, [0])),
  (21, (.if_icmp .lt 8, 24, 29, 0, 0, 0, 0, [])),
  (24, (.bipush (-9), 26, 0, 0, 0, 0, 0, [])),
  (26, (.goto 12, 29, 38, 0, 0, 0, 0, [])),
  (29, (.aload_n 0, 30, 0, 0, 0, 0, 0, [])),
  (30, (.iload_n 1, 31, 1, 0, 0, 0, 0, [])),
  (31, (.bipush 6, 33, 0, 0, 0, 0, 0, [])),
  (33, (.iload_n 2, 34, 2, 0, 0, 0, 0, [])),
  (34, (.iadd, 35, 0, 0, 0, 0, 0, [])),
  (35, (.invokevirtual 49, 38, 129, 3, 1002, 0, 11, [0])),
  (38, (.ireturn, 39, 0, 0, 0, 0, 0, []))]
def rn_m178 : rn_Mt := (yX10_letter, cX10_letter, 3, (some .int), false, 0, 0, 2, 43, rn_t178)
def rn_t179 : List (Nat × rn_E) := [(0, (.aload_n 0, 1, 0, 0, 0, 0, 0, [])),
  (1, (.iload_n 1, 2, 1, 0, 0, 0, 0, [])),
  (2, (.invokevirtual 98, 5, 146, 2, 1032, 0, 11, [0])),
  (5, (.ifCond .eq 12, 8, 17, 0, 0, 0, 0, [])),
  (8, (.iload_n 2, 9, 2, 0, 0, 0, 0, [])),
  (9, (.iconst 0, 10, 0, 0, 0, 0, 0, [])),
  (10, (.iconst 5, 11, 0, 0, 0, 0, 0, [])),
  (11, (.invokestatic 41, 14, 124, 3, 956, 0, 11, [0])),
  (14, (.ifCond .ne 5, 17, 19, 0, 0, 0, 0, [])),
  (17, (.iconst (-1), 18, 0, 0, 0, 0, 0, [])),
  (18, (.ireturn, 19, 0, 0, 0, 0, 0, [])),
  (19, (.iload_n 2, 20, 2, 0, 0, 0, 0, [])),
  (20, (.iconst 5, 21, 0, 0, 0, 0, 0, [])),
  (21, (.if_icmp .ge 18, 24, 39, 0, 0, 0, 0, [])),
  (24, (.aload_n 0, 25, 0, 0, 0, 0, 0, [])),
  (25, (.getfield 7, 28, 10, 0, 902, 2, 11, [])),
  (28, (.sipush 472, 31, 0, 0, 0, 0, 0, [])),
  (31, (.iconst 5, 32, 0, 0, 0, 0, 0, [])),
  (32, (.iload_n 1, 33, 1, 0, 0, 0, 0, [])),
  (33, (.imul, 34, 0, 0, 0, 0, 0, [])),
  (34, (.iadd, 35, 0, 0, 0, 0, 0, [])),
  (35, (.iload_n 2, 36, 2, 0, 0, 0, 0, [])),
  (36, (.iadd, 37, 0, 0, 0, 0, 0, [])),
  (37, (.iaload, 38, 0, 0, 0, 0, 0, [])),
  (38, (.ireturn, 39, 0, 0, 0, 0, 0, [])),
  (39, (.iconst 0, 40, 0, 0, 0, 0, 0, [])),
  (40, (.istore_n 3, 41, 3, 0, 0, 0, 0, [])),
  (41, (.iconst 0, 42, 0, 0, 0, 0, 0, [])),
  (42, (.istore 4, 44, 4, 0, 0, 0, 0, [])),
  (44, (.iload 4, 46, 4, 0, 0, 0, 0, [])),
  (46, (.aload_n 0, 47, 0, 0, 0, 0, 0, [])),
  (47, (.getfield 7, 50, 10, 0, 902, 2, 11, [])),
  (50, (.iconst 2, 51, 0, 0, 0, 0, 0, [])),
  (51, (.iaload, 52, 0, 0, 0, 0, 0, [])),
  (52, (.if_icmp .ge 59, 55, 111, 0, 0, 0, 0, [])),
  (55, (.aload_n 0, 56, 0, 0, 0, 0, 0, [])),
  (56, (.aload_n 0, 57, 0, 0, 0, 0, 0, [])),
  (57, (.getfield 7, 60, 10, 0, 902, 2, 11, [])),
  (60, (.sipush 522, 63, 0, 0, 0, 0, 0, [])),
  (63, (.iconst 2, 64, 0, 0, 0, 0, 0, [])),
  (64, (.iload 4, 66, 4, 0, 0, 0, 0, [])),
  (66, (.imul, 67, 0, 0, 0, 0, 0, [])),
  (67, (.iadd, 68, 0, 0, 0, 0, 0, [])),
  (68, (.iaload, 69, 0, 0, 0, 0, 0, [])),
  (69, (.aload_n 0, 70, 0, 0, 0, 0, 0, [])),
  (70, (.getfield 7, 73, 10, 0, 902, 2, 11, [])),
  (73, (.sipush 522, 76, 0, 0, 0, 0, 0, [])),
  (76, (.iconst 2, 77, 0, 0, 0, 0, 0, [])),
  (77, (.iload 4, 79, 4, 0, 0, 0, 0, [])),
  (79, (.imul, 80, 0, 0, 0, 0, 0, [])),
  (80, (.iadd, 81, 0, 0, 0, 0, 0, [])),
  (81, (.iconst 1, 82, 0, 0, 0, 0, 0, [])),
  (82, (.iadd, 83, 0, 0, 0, 0, 0, [])),
  (83, (.iaload, 84, 0, 0, 0, 0, 0, [])),
  (84, (.invokevirtual 117, 87, 154, 3, 1055, 0, 11, [0])),
  (87, (.istore 5, 89, 5, 0, 0, 0, 0, [])),
  (89, (.iload_n 3, 90, 3, 0, 0, 0, 0, [])),
  (90, (.aload_n 0, 91, 0, 0, 0, 0, 0, [])),
  (91, (.iload_n 1, 92, 1, 0, 0, 0, 0, [])),
  (92, (.invokevirtual 120, 95, 157, 2, 1063, 0, 11, [0])),
  (95, (.ifCond .eq 7, 98, 102, 0, 0, 0, 0, [])),
  (98, (.iconst 1, 99, 0, 0, 0, 0, 0, [])),
  (99, (.goto 4, 102, 103, 0, 0, 0, 0, [])),
  (102, (.iconst 0, 103, 0, 0, 0, 0, 0, [])),
  (103, (.iadd, 104, 0, 0, 0, 0, 0, [])),
  (104, (.istore_n 3, 105, 3, 0, 0, 0, 0, [])),
  (105, (.iinc 4 1, 108, 4, 0, 0, 0, 0, [])),
  (108, (.goto (-64), 111, 44, 0, 0, 0, 0, [])),
  (111, (.iload_n 3, 112, 3, 0, 0, 0, 0, [])),
  (112, (.ireturn, 113, 0, 0, 0, 0, 0, []))]
def rn_m179 : rn_Mt := (yX10_town, cX10_town, 6, (some .int), false, 0, 0, 5, 114, rn_t179)
def rn_t180 : List (Nat × rn_E) := [(0, (.aload_n 0, 1, 0, 0, 0, 0, 0, [])),
  (1, (.iload_n 1, 2, 1, 0, 0, 0, 0, [])),
  (2, (.iload_n 2, 3, 2, 0, 0, 0, 0, [])),
  (3, (.invokevirtual 117, 6, 154, 3, 1055, 0, 11, [0])),
  (6, (.istore_n 3, 7, 3, 0, 0, 0, 0, [])),
  (7, (.iconst 0, 8, 0, 0, 0, 0, 0, [])),
  (8, (.istore 4, 10, 4, 0, 0, 0, 0, [])),
  (10, (.iconst 0, 11, 0, 0, 0, 0, 0, [])),
  (11, (.istore 5, 13, 5, 0, 0, 0, 0, [])),
  (13, (.iload 5, 15, 5, 0, 0, 0, 0, [])),
  (15, (.aload_n 0, 16, 0, 0, 0, 0, 0, [])),
  (16, (.getfield 7, 19, 10, 0, 902, 2, 11, [])),
  (19, (.iconst 1, 20, 0, 0, 0, 0, 0, [])),
  (20, (.iaload, 21, 0, 0, 0, 0, 0, [])),
  (21, (.if_icmp .ge 28, 24, 49, 0, 0, 0, 0, [])),
  (24, (.iload 4, 26, 4, 0, 0, 0, 0, [])),
  (26, (.aload_n 0, 27, 0, 0, 0, 0, 0, [])),
  (27, (.iload 5, 29, 5, 0, 0, 0, 0, [])),
  (29, (.invokevirtual 120, 32, 157, 2, 1063, 0, 11, [0])),
  (32, (.ifCond .eq 7, 35, 39, 0, 0, 0, 0, [])),
  (35, (.iconst 1, 36, 0, 0, 0, 0, 0, [])),
  (36, (.goto 4, 39, 40, 0, 0, 0, 0, [])),
  (39, (.iconst 0, 40, 0, 0, 0, 0, 0, [])),
  (40, (.iadd, 41, 0, 0, 0, 0, 0, [])),
  (41, (.istore 4, 43, 4, 0, 0, 0, 0, [])),
  (43, (.iinc 5 1, 46, 5, 0, 0, 0, 0, [])),
  (46, (.goto (-33), 49, 13, 0, 0, 0, 0, [])),
  (49, (.iload 4, 51, 4, 0, 0, 0, 0, [])),
  (51, (.ireturn, 52, 0, 0, 0, 0, 0, []))]
def rn_m180 : rn_Mt := (yX10_townsOf, cX10_townsOf, 6, (some .int), false, 0, 0, 5, 114, rn_t180)
def rn_t181 : List (Nat × rn_E) := [(0, (.aload_n 0, 1, 0, 0, 0, 0, 0, [])),
  (1, (.iload_n 1, 2, 1, 0, 0, 0, 0, [])),
  (2, (.invokevirtual 139, 5, 161, 2, 1079, 0, 11, [0])),
  (5, (.ifCond .eq 13, 8, 18, 0, 0, 0, 0, [])),
  (8, (.iload_n 2, 9, 2, 0, 0, 0, 0, [])),
  (9, (.iconst 0, 10, 0, 0, 0, 0, 0, [])),
  (10, (.bipush 7, 12, 0, 0, 0, 0, 0, [])),
  (12, (.invokestatic 41, 15, 124, 3, 956, 0, 11, [0])),
  (15, (.ifCond .ne 5, 18, 20, 0, 0, 0, 0, [])),
  (18, (.iconst (-1), 19, 0, 0, 0, 0, 0, [])),
  (19, (.ireturn, 20, 0, 0, 0, 0, 0, [])),
  (20, (.aload_n 0, 21, 0, 0, 0, 0, 0, [])),
  (21, (.getfield 7, 24, 10, 0, 902, 2, 11, [])),
  (24, (.sipush 522, 27, 0, 0, 0, 0, 0, [])),
  (27, (.iconst 2, 28, 0, 0, 0, 0, 0, [])),
  (28, (.iload_n 1, 29, 1, 0, 0, 0, 0, [])),
  (29, (.imul, 30, 0, 0, 0, 0, 0, [])),
  (30, (.iadd, 31, 0, 0, 0, 0, 0, [])),
  (31, (.iaload, 32, 0, 0, 0, 0, 0, [])),
  (32, (.istore_n 3, 33, 3, 0, 0, 0, 0, [])),
  (33, (.aload_n 0, 34, 0, 0, 0, 0, 0, [])),
  (34, (.getfield 7, 37, 10, 0, 902, 2, 11, [])),
  (37, (.sipush 522, 40, 0, 0, 0, 0, 0, [])),
  (40, (.iconst 2, 41, 0, 0, 0, 0, 0, [])),
  (41, (.iload_n 1, 42, 1, 0, 0, 0, 0, [])),
  (42, (.imul, 43, 0, 0, 0, 0, 0, [])),
  (43, (.iadd, 44, 0, 0, 0, 0, 0, [])),
  (44, (.iconst 1, 45, 0, 0, 0, 0, 0, [])),
  (45, (.iadd, 46, 0, 0, 0, 0, 0, [])),
  (46, (.iaload, 47, 0, 0, 0, 0, 0, [])),
  (47, (.istore 4, 49, 4, 0, 0, 0, 0, [])),
  (49, (.iload_n 2, 50, 2, 0, 0, 0, 0, [])),
  (50, (.tableswitch 99 0 6 #[42, 44, 47, 55, 69, 85, 93], 92, 149, 0, 0, 0, 0, [92, 94, 97, 105, 119, 135, 143])),
  (92, (.iload_n 3, 93, 3, 0, 0, 0, 0, [])),
  (93, (.ireturn, 94, 0, 0, 0, 0, 0, [])),
  (94, (.iload 4, 96, 4, 0, 0, 0, 0, [])),
  (96, (.ireturn, 97, 0, 0, 0, 0, 0, [])),
  (97, (.aload_n 0, 98, 0, 0, 0, 0, 0, [])),
  (98, (.iload_n 3, 99, 3, 0, 0, 0, 0, [])),
  (99, (.iload 4, 101, 4, 0, 0, 0, 0, [])),
  (101, (.invokevirtual 130, 104, 152, 3, 1095, 0, 11, [0])),
  (104, (.ireturn, 105, 0, 0, 0, 0, 0, [])),
  (105, (.aload_n 0, 106, 0, 0, 0, 0, 0, [])),
  (106, (.iload_n 3, 107, 3, 0, 0, 0, 0, [])),
  (107, (.iload 4, 109, 4, 0, 0, 0, 0, [])),
  (109, (.aload_n 0, 110, 0, 0, 0, 0, 0, [])),
  (110, (.iload_n 3, 111, 3, 0, 0, 0, 0, [])),
  (111, (.iconst 0, 112, 0, 0, 0, 0, 0, [])),
  (112, (.invokevirtual 49, 115, 129, 3, 1002, 0, 11, [0])),
  (115, (.invokevirtual 104, 118, 150, 4, 1099, 0, 11, [0])),
  (118, (.ireturn, 119, 0, 0, 0, 0, 0, [])),
  (119, (.aload_n 0, 120, 0, 0, 0, 0, 0, [])),
  (120, (.iload_n 3, 121, 3, 0, 0, 0, 0, [])),
  (121, (.iload 4, 123, 4, 0, 0, 0, 0, [])),
  (123, (.invokevirtual 173, 126, 153, 3, 1162, 0, 11, [0])),
  (126, (.ifCond .eq 7, 129, 133, 0, 0, 0, 0, [])),
  (129, (.iconst 1, 130, 0, 0, 0, 0, 0, [])),
  (130, (.goto 4, 133, 134, 0, 0, 0, 0, [])),
  (133, (.iconst 0, 134, 0, 0, 0, 0, 0, [])),
  (134, (.ireturn, 135, 0, 0, 0, 0, 0, [])),
  (135, (.aload_n 0, 136, 0, 0, 0, 0, 0, [])),
  (136, (.iload_n 3, 137, 3, 0, 0, 0, 0, [])),
  (137, (.iload 4, 139, 4, 0, 0, 0, 0, [])),
  (139, (.invokevirtual 117, 142, 154, 3, 1055, 0, 11, [0])),
  (142, (.ireturn, 143, 0, 0, 0, 0, 0, [])),
  (143, (.aload_n 0, 144, 0, 0, 0, 0, 0, [])),
  (144, (.iload_n 1, 145, 1, 0, 0, 0, 0, [])),
  (145, (.invokevirtual 148, 148, 159, 2, 1110, 0, 11, [0])),
  (148, (.ireturn, 149, 0, 0, 0, 0, 0, [])),
  (149, (.aload_n 0, 150, 0, 0, 0, 0, 0, [])),
  (150, (.iload_n 3, 151, 3, 0, 0, 0, 0, [])),
  (151, (.iload 4, 153, 4, 0, 0, 0, 0, [])),
  (153, (.invokevirtual 176, 156, 180, 3, 1166, 0, 11, [0])),
  (156, (.ireturn, 157, 0, 0, 0, 0, 0, []))]
def rn_m181 : rn_Mt := (yX10_label, cX10_label, 5, (some .int), false, 0, 0, 7, 164, rn_t181)
def rn_t182 : List (Nat × rn_E) := [(0, (.aload_n 0, 1, 0, 0, 0, 0, 0, [])),
  (1, (.getfield 7, 4, 10, 0, 902, 2, 11, [])),
  (4, (.sipush 522, 7, 0, 0, 0, 0, 0, [])),
  (7, (.iconst 2, 8, 0, 0, 0, 0, 0, [])),
  (8, (.iload_n 1, 9, 1, 0, 0, 0, 0, [])),
  (9, (.imul, 10, 0, 0, 0, 0, 0, [])),
  (10, (.iadd, 11, 0, 0, 0, 0, 0, [])),
  (11, (.iaload, 12, 0, 0, 0, 0, 0, [])),
  (12, (.istore 4, 14, 4, 0, 0, 0, 0, [])),
  (14, (.aload_n 0, 15, 0, 0, 0, 0, 0, [])),
  (15, (.getfield 7, 18, 10, 0, 902, 2, 11, [])),
  (18, (.sipush 522, 21, 0, 0, 0, 0, 0, [])),
  (21, (.iconst 2, 22, 0, 0, 0, 0, 0, [])),
  (22, (.iload_n 1, 23, 1, 0, 0, 0, 0, [])),
  (23, (.imul, 24, 0, 0, 0, 0, 0, [])),
  (24, (.iadd, 25, 0, 0, 0, 0, 0, [])),
  (25, (.iconst 1, 26, 0, 0, 0, 0, 0, [])),
  (26, (.iadd, 27, 0, 0, 0, 0, 0, [])),
  (27, (.iaload, 28, 0, 0, 0, 0, 0, [])),
  (28, (.istore 5, 30, 5, 0, 0, 0, 0, [])),
  (30, (.aload_n 0, 31, 0, 0, 0, 0, 0, [])),
  (31, (.iload 4, 33, 4, 0, 0, 0, 0, [])),
  (33, (.invokevirtual 87, 36, 133, 2, 998, 0, 11, [0])),
  (36, (.iload 5, 38, 5, 0, 0, 0, 0, [])),
  (38, (.istore 6, 40, 6, 0, 0, 0, 0, [])),
  (40, (.iload 6, 42, 6, 0, 0, 0, 0, [])),
  (42, (.iload 5, 44, 5, 0, 0, 0, 0, [])),
  (44, (.aload_n 0, 45, 0, 0, 0, 0, 0, [])),
  (45, (.iload 4, 47, 4, 0, 0, 0, 0, [])),
  (47, (.iconst 0, 48, 0, 0, 0, 0, 0, [])),
  (48, (.invokevirtual 49, 51, 129, 3, 1002, 0, 11, [0])),
  (51, (.iadd, 52, 0, 0, 0, 0, 0, [])),
  (52, (.if_icmp .ge 34, 55, 86, 0, 0, 0, 0, [])),
  (55, (.aload_n 0, 56, 0, 0, 0, 0, 0, [])),
  (56, (.getfield 19, 59, 10, 5, 907, 2, 11, [])),
  (59, (.iload 6, 61, 6, 0, 0, 0, 0, [])),
  (61, (.iaload, 62, 0, 0, 0, 0, 0, [])),
  (62, (.iload_n 2, 63, 2, 0, 0, 0, 0, [])),
  (63, (.if_icmp .ne 17, 66, 80, 0, 0, 0, 0, [])),
  (66, (.aload_n 0, 67, 0, 0, 0, 0, 0, [])),
  (67, (.getfield 22, 70, 10, 6, 908, 2, 11, [])),
  (70, (.iload 6, 72, 6, 0, 0, 0, 0, [])),
  (72, (.iaload, 73, 0, 0, 0, 0, 0, [])),
  (73, (.iload_n 3, 74, 3, 0, 0, 0, 0, [])),
  (74, (.if_icmp .ne 6, 77, 80, 0, 0, 0, 0, [])),
  (77, (.iload 6, 79, 6, 0, 0, 0, 0, [])),
  (79, (.ireturn, 80, 0, 0, 0, 0, 0, [])),
  (80, (.iinc 6 1, 83, 6, 0, 0, 0, 0, [])),
  (83, (.goto (-43), 86, 40, 0, 0, 0, 0, [])),
  (86, (.bipush (-9), 88, 0, 0, 0, 0, 0, [])),
  (88, (.ireturn, 89, 0, 0, 0, 0, 0, []))]
def rn_m182 : rn_Mt := (yX10_placeOn, cX10_placeOn, 7, (some .int), false, 0, 0, 3, 65, rn_t182)
def rn_t183 : List (Nat × rn_E) := [(0, (.iload_n 1, 1, 1, 0, 0, 0, 0, [])),
  (1, (.iload_n 2, 2, 2, 0, 0, 0, 0, [])),
  (2, (.invokestatic 59, 5, 132, 2, 959, 0, 11, [0])),
  (5, (.ifCond .ne 5, 8, 10, 0, 0, 0, 0, [])),
  (8, (.iconst (-1), 9, 0, 0, 0, 0, 0, [])),
  (9, (.ireturn, 10, 0, 0, 0, 0, 0, [])),
  (10, (.bipush (-9), 12, 0, 0, 0, 0, 0, [])),
  (12, (.istore_n 3, 13, 3, 0, 0, 0, 0, [])),
  (13, (.iconst 0, 14, 0, 0, 0, 0, 0, [])),
  (14, (.istore 4, 16, 4, 0, 0, 0, 0, [])),
  (16, (.iload 4, 18, 4, 0, 0, 0, 0, [])),
  (18, (.aload_n 0, 19, 0, 0, 0, 0, 0, [])),
  (19, (.getfield 7, 22, 10, 0, 902, 2, 11, [])),
  (22, (.iconst 2, 23, 0, 0, 0, 0, 0, [])),
  (23, (.iaload, 24, 0, 0, 0, 0, 0, [])),
  (24, (.if_icmp .ge 85, 27, 109, 0, 0, 0, 0, [])),
  (27, (.iload_n 3, 28, 3, 0, 0, 0, 0, [])),
  (28, (.bipush (-9), 30, 0, 0, 0, 0, 0, [])),
  (30, (.if_icmp .eq 41, 33, 71, 0, 0, 0, 0, [])),
  (33, (.aload_n 0, 34, 0, 0, 0, 0, 0, [])),
  (34, (.aload_n 0, 35, 0, 0, 0, 0, 0, [])),
  (35, (.getfield 7, 38, 10, 0, 902, 2, 11, [])),
  (38, (.sipush 522, 41, 0, 0, 0, 0, 0, [])),
  (41, (.iconst 2, 42, 0, 0, 0, 0, 0, [])),
  (42, (.iload 4, 44, 4, 0, 0, 0, 0, [])),
  (44, (.imul, 45, 0, 0, 0, 0, 0, [])),
  (45, (.iadd, 46, 0, 0, 0, 0, 0, [])),
  (46, (.iaload, 47, 0, 0, 0, 0, 0, [])),
  (47, (.iconst 1, 48, 0, 0, 0, 0, 0, [])),
  (48, (.invokevirtual 49, 51, 129, 3, 1002, 0, 11, [0])),
  (51, (.aload_n 0, 52, 0, 0, 0, 0, 0, [])),
  (52, (.aload_n 0, 53, 0, 0, 0, 0, 0, [])),
  (53, (.getfield 7, 56, 10, 0, 902, 2, 11, [])),
  (56, (.sipush 522, 59, 0, 0, 0, 0, 0, [])),
  (59, (.iconst 2, 60, 0, 0, 0, 0, 0, [])),
  (60, (.iload_n 3, 61, 3, 0, 0, 0, 0, [])),
  (61, (.imul, 62, 0, 0, 0, 0, 0, [])),
  (62, (.iadd, 63, 0, 0, 0, 0, 0, [])),
  (63, (.iaload, 64, 0, 0, 0, 0, 0, [])),
  (64, (.iconst 1, 65, 0, 0, 0, 0, 0, [])),
  (65, (.invokevirtual 49, 68, 129, 3, 1002, 0, 11, [0])),
  (68, (.if_icmp .le 7, 71, 75, 0, 0, 0, 0, [])),
  (71, (.iconst 1, 72, 0, 0, 0, 0, 0, [])),
  (72, (.goto 4, 75, 76, 0, 0, 0, 0, [])),
  (75, (.iconst 0, 76, 0, 0, 0, 0, 0, [])),
  (76, (.istore 5, 78, 5, 0, 0, 0, 0, [])),
  (78, (.iload 5, 80, 5, 0, 0, 0, 0, [])),
  (80, (.ifCond .eq 21, 83, 101, 0, 0, 0, 0, [])),
  (83, (.aload_n 0, 84, 0, 0, 0, 0, 0, [])),
  (84, (.iload 4, 86, 4, 0, 0, 0, 0, [])),
  (86, (.iload_n 1, 87, 1, 0, 0, 0, 0, [])),
  (87, (.iload_n 2, 88, 2, 0, 0, 0, 0, [])),
  (88, (.invokevirtual 179, 91, 182, 4, 1174, 0, 11, [0])),
  (91, (.bipush (-9), 93, 0, 0, 0, 0, 0, [])),
  (93, (.if_icmp .eq 8, 96, 101, 0, 0, 0, 0, [])),
  (96, (.iload 4, 98, 4, 0, 0, 0, 0, [])),
  (98, (.goto 4, 101, 102, 0, 0, 0, 0, [])),
  (101, (.iload_n 3, 102, 3, 0, 0, 0, 0, [])),
  (102, (.istore_n 3, 103, 3, 0, 0, 0, 0, [])),
  (103, (.iinc 4 1, 106, 4, 0, 0, 0, 0, [])),
  (106, (.goto (-90), 109, 16, 0, 0, 0, 0, [])),
  (109, (.iload_n 3, 110, 3, 0, 0, 0, 0, [])),
  (110, (.bipush (-9), 112, 0, 0, 0, 0, 0, [])),
  (112, (.if_icmp .ne 6, 115, 118, 0, 0, 0, 0, [])),
  (115, (.bipush (-9), 117, 0, 0, 0, 0, 0, [])),
  (117, (.ireturn, 118, 0, 0, 0, 0, 0, [])),
  (118, (.aload_n 0, 119, 0, 0, 0, 0, 0, [])),
  (119, (.getfield 7, 122, 10, 0, 902, 2, 11, [])),
  (122, (.sipush 522, 125, 0, 0, 0, 0, 0, [])),
  (125, (.iconst 2, 126, 0, 0, 0, 0, 0, [])),
  (126, (.iload_n 3, 127, 3, 0, 0, 0, 0, [])),
  (127, (.imul, 128, 0, 0, 0, 0, 0, [])),
  (128, (.iadd, 129, 0, 0, 0, 0, 0, [])),
  (129, (.iaload, 130, 0, 0, 0, 0, 0, [])),
  (130, (.istore 4, 132, 4, 0, 0, 0, 0, [])),
  (132, (.aload_n 0, 133, 0, 0, 0, 0, 0, [])),
  (133, (.getfield 7, 136, 10, 0, 902, 2, 11, [])),
  (136, (.sipush 522, 139, 0, 0, 0, 0, 0, [])),
  (139, (.iconst 2, 140, 0, 0, 0, 0, 0, [])),
  (140, (.iload_n 3, 141, 3, 0, 0, 0, 0, [])),
  (141, (.imul, 142, 0, 0, 0, 0, 0, [])),
  (142, (.iadd, 143, 0, 0, 0, 0, 0, [])),
  (143, (.iconst 1, 144, 0, 0, 0, 0, 0, [])),
  (144, (.iadd, 145, 0, 0, 0, 0, 0, [])),
  (145, (.iaload, 146, 0, 0, 0, 0, 0, [])),
  (146, (.istore 5, 148, 5, 0, 0, 0, 0, [])),
  (148, (.aload_n 0, 149, 0, 0, 0, 0, 0, [])),
  (149, (.iload_n 3, 150, 3, 0, 0, 0, 0, [])),
  (150, (.iload_n 1, 151, 1, 0, 0, 0, 0, [])),
  (151, (.iload_n 2, 152, 2, 0, 0, 0, 0, [])),
  (152, (.invokevirtual 179, 155, 182, 4, 1174, 0, 11, [0])),
  (155, (.iload 5, 157, 5, 0, 0, 0, 0, [])),
  (157, (.isub, 158, 0, 0, 0, 0, 0, [])),
  (158, (.istore 6, 160, 6, 0, 0, 0, 0, [])),
  (160, (.aload_n 0, 161, 0, 0, 0, 0, 0, [])),
  (161, (.iload 4, 163, 4, 0, 0, 0, 0, [])),
  (163, (.bipush 6, 165, 0, 0, 0, 0, 0, [])),
  (165, (.aload_n 0, 166, 0, 0, 0, 0, 0, [])),
  (166, (.iload 4, 168, 4, 0, 0, 0, 0, [])),
  (168, (.iload 5, 170, 5, 0, 0, 0, 0, [])),
  (170, (.invokevirtual 173, 173, 153, 3, 1162, 0, 11, [0])),
  (173, (.ifCond .eq 18, 176, 191, 0, 0, 0, 0, [])),
  (176, (.aload_n 0, 177, 0, 0, 0, 0, 0, [])),
  (177, (.iload 4, 179, 4, 0, 0, 0, 0, [])),
  (179, (.iconst 0, 180, 0, 0, 0, 0, 0, [])),
  (180, (.invokevirtual 49, 183, 129, 3, 1002, 0, 11, [0])),
  (183, (.iconst 1, 184, 0, 0, 0, 0, 0, [])),
  (184, (.isub, 185, 0, 0, 0, 0, 0, [])),
  (185, (.iload 6, 187, 6, 0, 0, 0, 0, [])),
  (187, (.isub, 188, 0, 0, 0, 0, 0, [])),
  (188, (.goto 5, 191, 193, 0, 0, 0, 0, [])),
  (191, (.iload 6, 193, 6, 0, 0, 0, 0, [])),
  (193, (.iadd, 194, 0, 0, 0, 0, 0, [])),
  (194, (.invokevirtual 49, 197, 129, 3, 1002, 0, 11, [0])),
  (197, (.ireturn, 198, 0, 0, 0, 0, 0, []))]
def rn_m183 : rn_Mt := (yX10_written, cX10_written, 7, (some .int), false, 0, 0, 4, 91, rn_t183)
def rn_t184 : List (Nat × rn_E) := [(0, (.aload_n 0, 1, 0, 0, 0, 0, 0, [])),
  (1, (.iload_n 1, 2, 1, 0, 0, 0, 0, [])),
  (2, (.invokevirtual 84, 5, 127, 2, 994, 0, 11, [0])),
  (5, (.ifCond .eq 20, 8, 25, 0, 0, 0, 0, [])),
  (8, (.iload_n 2, 9, 2, 0, 0, 0, 0, [])),
  (9, (.invokestatic 133, 12, 163, 1, 1044, 0, 11, [0])),
  (12, (.ifCond .eq 13, 15, 25, 0, 0, 0, 0, [])),
  (15, (.iload_n 3, 16, 3, 0, 0, 0, 0, [])),
  (16, (.iconst 1, 17, 0, 0, 0, 0, 0, [])),
  (17, (.bipush 61, 19, 0, 0, 0, 0, 0, [])),
  (19, (.invokestatic 41, 22, 124, 3, 956, 0, 11, [0])),
  (22, (.ifCond .ne 5, 25, 27, 0, 0, 0, 0, [])),
  (25, (.iconst (-1), 26, 0, 0, 0, 0, 0, [])),
  (26, (.ireturn, 27, 0, 0, 0, 0, 0, [])),
  (27, (.aload_n 0, 28, 0, 0, 0, 0, 0, [])),
  (28, (.iload_n 1, 29, 1, 0, 0, 0, 0, [])),
  (29, (.iload_n 2, 30, 2, 0, 0, 0, 0, [])),
  (30, (.iload_n 3, 31, 3, 0, 0, 0, 0, [])),
  (31, (.invokevirtual 114, 34, 151, 4, 1051, 0, 11, [0])),
  (34, (.ifCond .eq 13, 37, 47, 0, 0, 0, 0, [])),
  (37, (.aload_n 0, 38, 0, 0, 0, 0, 0, [])),
  (38, (.iload_n 1, 39, 1, 0, 0, 0, 0, [])),
  (39, (.iload_n 2, 40, 2, 0, 0, 0, 0, [])),
  (40, (.iload_n 3, 41, 3, 0, 0, 0, 0, [])),
  (41, (.invokevirtual 104, 44, 150, 4, 1099, 0, 11, [0])),
  (44, (.goto 5, 47, 49, 0, 0, 0, 0, [])),
  (47, (.bipush (-9), 49, 0, 0, 0, 0, 0, [])),
  (49, (.ireturn, 50, 0, 0, 0, 0, 0, []))]
def rn_m184 : rn_Mt := (yX10_bend, cX10_bend, 4, (some .int), false, 0, 0, 3, 68, rn_t184)
def rn_t185 : List (Nat × rn_E) := [(0, (.aload_n 0, 1, 0, 0, 0, 0, 0, [])),
  (1, (.iload_n 1, 2, 1, 0, 0, 0, 0, [])),
  (2, (.invokevirtual 84, 5, 127, 2, 994, 0, 11, [0])),
  (5, (.ifCond .eq 13, 8, 18, 0, 0, 0, 0, [])),
  (8, (.iload_n 2, 9, 2, 0, 0, 0, 0, [])),
  (9, (.iconst 1, 10, 0, 0, 0, 0, 0, [])),
  (10, (.bipush 61, 12, 0, 0, 0, 0, 0, [])),
  (12, (.invokestatic 41, 15, 124, 3, 956, 0, 11, [0])),
  (15, (.ifCond .ne 5, 18, 20, 0, 0, 0, 0, [])),
  (18, (.iconst (-1), 19, 0, 0, 0, 0, 0, [])),
  (19, (.ireturn, 20, 0, 0, 0, 0, 0, [])),
  (20, (.bipush (-9), 22, 0, 0, 0, 0, 0, [])),
  (22, (.istore_n 3, 23, 3, 0, 0, 0, 0, [])),
  (23, (.iconst 0, 24, 0, 0, 0, 0, 0, [])),
  (24, (.istore 4, 26, 4, 0, 0, 0, 0, [])),
  (26, (.aload_n 0, 27, 0, 0, 0, 0, 0, [])),
  (27, (.iload_n 1, 28, 1, 0, 0, 0, 0, [])),
  (28, (.iload 4, 30, 4, 0, 0, 0, 0, [])),
  (30, (.iload_n 2, 31, 2, 0, 0, 0, 0, [])),
  (31, (.invokevirtual 114, 34, 151, 4, 1051, 0, 11, [0])),
  (34, (.ifCond .eq 40, 37, 74, 0, 0, 0, 0, [])),
  (37, (.iload_n 3, 38, 3, 0, 0, 0, 0, [])),
  (38, (.bipush (-9), 40, 0, 0, 0, 0, 0, [])),
  (40, (.if_icmp .eq 21, 43, 61, 0, 0, 0, 0, [])),
  (43, (.aload_n 0, 44, 0, 0, 0, 0, 0, [])),
  (44, (.iload_n 1, 45, 1, 0, 0, 0, 0, [])),
  (45, (.iload 4, 47, 4, 0, 0, 0, 0, [])),
  (47, (.iload_n 2, 48, 2, 0, 0, 0, 0, [])),
  (48, (.invokevirtual 104, 51, 150, 4, 1099, 0, 11, [0])),
  (51, (.aload_n 0, 52, 0, 0, 0, 0, 0, [])),
  (52, (.iload_n 1, 53, 1, 0, 0, 0, 0, [])),
  (53, (.iload_n 3, 54, 3, 0, 0, 0, 0, [])),
  (54, (.iload_n 2, 55, 2, 0, 0, 0, 0, [])),
  (55, (.invokevirtual 104, 58, 150, 4, 1099, 0, 11, [0])),
  (58, (.if_icmp .ge 8, 61, 66, 0, 0, 0, 0, [])),
  (61, (.iload 4, 63, 4, 0, 0, 0, 0, [])),
  (63, (.goto 4, 66, 67, 0, 0, 0, 0, [])),
  (66, (.iload_n 3, 67, 3, 0, 0, 0, 0, [])),
  (67, (.istore_n 3, 68, 3, 0, 0, 0, 0, [])),
  (68, (.iinc 4 1, 71, 4, 0, 0, 0, 0, [])),
  (71, (.goto (-45), 74, 26, 0, 0, 0, 0, [])),
  (74, (.iload_n 3, 75, 3, 0, 0, 0, 0, [])),
  (75, (.ireturn, 76, 0, 0, 0, 0, 0, []))]
def rn_m185 : rn_Mt := (yX10_straightest, cX10_straightest, 5, (some .int), false, 0, 0, 3, 68, rn_t185)
def rn_t186 : List (Nat × rn_E) := [(0, (.aload_n 0, 1, 0, 0, 0, 0, 0, [])),
  (1, (.iload_n 1, 2, 1, 0, 0, 0, 0, [])),
  (2, (.invokevirtual 84, 5, 127, 2, 994, 0, 11, [0])),
  (5, (.ifCond .eq 27, 8, 32, 0, 0, 0, 0, [])),
  (8, (.iload_n 2, 9, 2, 0, 0, 0, 0, [])),
  (9, (.invokestatic 133, 12, 163, 1, 1044, 0, 11, [0])),
  (12, (.ifCond .eq 20, 15, 32, 0, 0, 0, 0, [])),
  (15, (.aload_n 0, 16, 0, 0, 0, 0, 0, [])),
  (16, (.iload_n 1, 17, 1, 0, 0, 0, 0, [])),
  (17, (.iload_n 2, 18, 2, 0, 0, 0, 0, [])),
  (18, (.aload_n 0, 19, 0, 0, 0, 0, 0, [])),
  (19, (.iload_n 1, 20, 1, 0, 0, 0, 0, [])),
  (20, (.iconst 1, 21, 0, 0, 0, 0, 0, [])),
  (21, (.invokevirtual 49, 24, 129, 3, 1002, 0, 11, [0])),
  (24, (.bipush (-9), 26, 0, 0, 0, 0, 0, [])),
  (26, (.invokevirtual 126, 29, 158, 5, 1047, 0, 11, [0])),
  (29, (.goto 4, 32, 33, 0, 0, 0, 0, [])),
  (32, (.iconst (-1), 33, 0, 0, 0, 0, 0, [])),
  (33, (.ireturn, 34, 0, 0, 0, 0, 0, []))]
def rn_m186 : rn_Mt := (yX10_reason, cX10_reason, 3, (some .int), false, 0, 0, 6, 142, rn_t186)
def rn_t187 : List (Nat × rn_E) := [(0, (.aload_n 0, 1, 0, 0, 0, 0, 0, [])),
  (1, (.iload_n 1, 2, 1, 0, 0, 0, 0, [])),
  (2, (.invokevirtual 84, 5, 127, 2, 994, 0, 11, [0])),
  (5, (.ifCond .eq 12, 8, 17, 0, 0, 0, 0, [])),
  (8, (.iload_n 2, 9, 2, 0, 0, 0, 0, [])),
  (9, (.iconst 0, 10, 0, 0, 0, 0, 0, [])),
  (10, (.iconst 1, 11, 0, 0, 0, 0, 0, [])),
  (11, (.invokestatic 41, 14, 124, 3, 956, 0, 11, [0])),
  (14, (.ifCond .ne 5, 17, 19, 0, 0, 0, 0, [])),
  (17, (.iconst (-1), 18, 0, 0, 0, 0, 0, [])),
  (18, (.ireturn, 19, 0, 0, 0, 0, 0, [])),
  (19, (.aload_n 0, 20, 0, 0, 0, 0, 0, [])),
  (20, (.iload_n 1, 21, 1, 0, 0, 0, 0, [])),
  (21, (.invokevirtual 145, 24, 160, 2, 1091, 0, 11, [0])),
  (24, (.istore_n 3, 25, 3, 0, 0, 0, 0, [])),
  (25, (.iload_n 3, 26, 3, 0, 0, 0, 0, [])),
  (26, (.bipush (-9), 28, 0, 0, 0, 0, 0, [])),
  (28, (.if_icmp .eq 7, 31, 35, 0, 0, 0, 0, [])),
  (31, (.iload_n 2, 32, 2, 0, 0, 0, 0, [])),
  (32, (.ifCond .ne 7, 35, 39, 0, 0, 0, 0, [])),
  (35, (.iload_n 3, 36, 3, 0, 0, 0, 0, [])),
  (36, (.goto 9, 39, 45, 0, 0, 0, 0, [])),
  (39, (.aload_n 0, 40, 0, 0, 0, 0, 0, [])),
  (40, (.iload_n 1, 41, 1, 0, 0, 0, 0, [])),
  (41, (.iload_n 3, 42, 3, 0, 0, 0, 0, [])),
  (42, (.invokevirtual 130, 45, 152, 3, 1095, 0, 11, [0])),
  (45, (.ireturn, 46, 0, 0, 0, 0, 0, []))]
def rn_m187 : rn_Mt := (yX10_best, cX10_best, 4, (some .int), false, 0, 0, 7, 166, rn_t187)
def rn_t188 : List (Nat × rn_E) := [(0, (.aload_n 0, 1, 0, 0, 0, 0, 0, [])),
  (1, (.iload_n 1, 2, 1, 0, 0, 0, 0, [])),
  (2, (.invokevirtual 84, 5, 127, 2, 994, 0, 11, [0])),
  (5, (.ifCond .ne 5, 8, 10, 0, 0, 0, 0, [])),
  (8, (.iconst (-1), 9, 0, 0, 0, 0, 0, [])),
  (9, (.ireturn, 10, 0, 0, 0, 0, 0, [])),
  (10, (.iconst 1, 11, 0, 0, 0, 0, 0, [])),
  (11, (.istore_n 2, 12, 2, 0, 0, 0, 0, [])),
  (12, (.iload_n 2, 13, 2, 0, 0, 0, 0, [])),
  (13, (.bipush 9, 15, 0, 0, 0, 0, 0, [])),
  (15, (.if_icmp .gt 41, 18, 56, 0, 0, 0, 0, [])),
  (18, (.iconst 0, 19, 0, 0, 0, 0, 0, [])),
  (19, (.istore_n 3, 20, 3, 0, 0, 0, 0, [])),
  (20, (.iload_n 3, 21, 3, 0, 0, 0, 0, [])),
  (21, (.aload_n 0, 22, 0, 0, 0, 0, 0, [])),
  (22, (.iload_n 1, 23, 1, 0, 0, 0, 0, [])),
  (23, (.iconst 5, 24, 0, 0, 0, 0, 0, [])),
  (24, (.invokevirtual 49, 27, 129, 3, 1002, 0, 11, [0])),
  (27, (.if_icmp .gt 23, 30, 50, 0, 0, 0, 0, [])),
  (30, (.aload_n 0, 31, 0, 0, 0, 0, 0, [])),
  (31, (.iload_n 1, 32, 1, 0, 0, 0, 0, [])),
  (32, (.iload_n 3, 33, 3, 0, 0, 0, 0, [])),
  (33, (.iload_n 2, 34, 2, 0, 0, 0, 0, [])),
  (34, (.bipush (-9), 36, 0, 0, 0, 0, 0, [])),
  (36, (.invokevirtual 126, 39, 158, 5, 1047, 0, 11, [0])),
  (39, (.ifCond .ne 5, 42, 44, 0, 0, 0, 0, [])),
  (42, (.iload_n 2, 43, 2, 0, 0, 0, 0, [])),
  (43, (.ireturn, 44, 0, 0, 0, 0, 0, [])),
  (44, (.iinc 3 1, 47, 3, 0, 0, 0, 0, [])),
  (47, (.goto (-27), 50, 20, 0, 0, 0, 0, [])),
  (50, (.iinc 2 1, 53, 2, 0, 0, 0, 0, [])),
  (53, (.goto (-41), 56, 12, 0, 0, 0, 0, [])),
  (56, (.bipush (-9), 58, 0, 0, 0, 0, 0, [])),
  (58, (.ireturn, 59, 0, 0, 0, 0, 0, []))]
def rn_m188 : rn_Mt := (yX10_rankFor, cX10_rankFor, 4, (some .int), false, 0, 0, 6, 142, rn_t188)
def rn_t189 : List (Nat × rn_E) := [(0, (.iload_n 1, 1, 1, 0, 0, 0, 0, [])),
  (1, (.iconst 1, 2, 0, 0, 0, 0, 0, [])),
  (2, (.sipush 255, 5, 0, 0, 0, 0, 0, [])),
  (5, (.invokestatic 41, 8, 124, 3, 956, 0, 11, [0])),
  (8, (.ifCond .ne 5, 11, 13, 0, 0, 0, 0, [])),
  (11, (.iconst (-1), 12, 0, 0, 0, 0, 0, [])),
  (12, (.ireturn, 13, 0, 0, 0, 0, 0, [])),
  (13, (.aload_n 0, 14, 0, 0, 0, 0, 0, [])),
  (14, (.getfield 167, 17, 10, 4, 906, 0, 11, [])),
  (17, (.sipush 150, 20, 0, 0, 0, 0, 0, [])),
  (20, (.if_icmp .ne 6, 23, 26, 0, 0, 0, 0, [])),
  (23, (.bipush (-3), 25, 0, 0, 0, 0, 0, [])),
  (25, (.ireturn, 26, 0, 0, 0, 0, 0, [])),
  (26, (.aload_n 0, 27, 0, 0, 0, 0, 0, [])),
  (27, (.getfield 16, 30, 10, 3, 905, 2, 11, [])),
  (30, (.aload_n 0, 31, 0, 0, 0, 0, 0, [])),
  (31, (.getfield 167, 34, 10, 4, 906, 0, 11, [])),
  (34, (.iload_n 1, 35, 1, 0, 0, 0, 0, [])),
  (35, (.iastore, 36, 0, 0, 0, 0, 0, [])),
  (36, (.aload_n 0, 37, 0, 0, 0, 0, 0, [])),
  (37, (.dup, 38, 0, 0, 0, 0, 0, [])),
  (38, (.getfield 167, 41, 10, 4, 906, 0, 11, [])),
  (41, (.iconst 1, 42, 0, 0, 0, 0, 0, [])),
  (42, (.iadd, 43, 0, 0, 0, 0, 0, [])),
  (43, (.putfield 167, 46, 10, 4, 906, 0, 11, [])),
  (46, (.aload_n 0, 47, 0, 0, 0, 0, 0, [])),
  (47, (.getfield 167, 50, 10, 4, 906, 0, 11, [])),
  (50, (.ireturn, 51, 0, 0, 0, 0, 0, []))]
def rn_m189 : rn_Mt := (yX10_append, cX10_append, 2, (some .int), false, 0, 0, 1, 22, rn_t189)
def rn_t190 : List (Nat × rn_E) := [(0, (.aload_n 0, 1, 0, 0, 0, 0, 0, [])),
  (1, (.getfield 167, 4, 10, 4, 906, 0, 11, [])),
  (4, (.istore_n 1, 5, 1, 0, 0, 0, 0, [])),
  (5, (.aload_n 0, 6, 0, 0, 0, 0, 0, [])),
  (6, (.iconst 0, 7, 0, 0, 0, 0, 0, [])),
  (7, (.putfield 167, 10, 10, 4, 906, 0, 11, [])),
  (10, (.iload_n 1, 11, 1, 0, 0, 0, 0, [])),
  (11, (.ireturn, 12, 0, 0, 0, 0, 0, []))]
def rn_m190 : rn_Mt := (yX10_clearText, cX10_clearText, 2, (some .int), false, 0, 0, 0, 0, rn_t190)
def rn_t191 : List (Nat × rn_E) := [(0, (.iload_n 1, 1, 1, 0, 0, 0, 0, [])),
  (1, (.aload_n 0, 2, 0, 0, 0, 0, 0, [])),
  (2, (.getfield 167, 5, 10, 4, 906, 0, 11, [])),
  (5, (.if_icmp .ge 21, 8, 26, 0, 0, 0, 0, [])),
  (8, (.aload_n 0, 9, 0, 0, 0, 0, 0, [])),
  (9, (.getfield 16, 12, 10, 3, 905, 2, 11, [])),
  (12, (.iload_n 1, 13, 1, 0, 0, 0, 0, [])),
  (13, (.iaload, 14, 0, 0, 0, 0, 0, [])),
  (14, (.iload_n 2, 15, 2, 0, 0, 0, 0, [])),
  (15, (.iload_n 3, 16, 3, 0, 0, 0, 0, [])),
  (16, (.invokestatic 41, 19, 124, 3, 956, 0, 11, [0])),
  (19, (.ifCond .eq 7, 22, 26, 0, 0, 0, 0, [])),
  (22, (.iconst 1, 23, 0, 0, 0, 0, 0, [])),
  (23, (.goto 4, 26, 27, 0, 0, 0, 0, [])),
  (26, (.iconst 0, 27, 0, 0, 0, 0, 0, [])),
  (27, (.ireturn, 28, 0, 0, 0, 1, 0, []))]
def rn_m191 : rn_Mt := (yX10_isSort, cX10_isSort, 4, (some .boolean), false, 0, 0, 1, 22, rn_t191)
def rn_t192 : List (Nat × rn_E) := [(0, (.aload_n 0, 1, 0, 0, 0, 0, 0, [])),
  (1, (.aload_n 0, 2, 0, 0, 0, 0, 0, [])),
  (2, (.getfield 182, 5, 10, 10, 912, 0, 11, [])),
  (5, (.putfield 185, 8, 10, 9, 911, 0, 11, [])),
  (8, (.aload_n 0, 9, 0, 0, 0, 0, 0, [])),
  (9, (.aload_n 0, 10, 0, 0, 0, 0, 0, [])),
  (10, (.getfield 185, 13, 10, 9, 911, 0, 11, [])),
  (13, (.bipush 32, 15, 0, 0, 0, 0, 0, [])),
  (15, (.bipush 32, 17, 0, 0, 0, 0, 0, [])),
  (17, (.invokevirtual 188, 20, 191, 4, 1218, 0, 11, [0])),
  (20, (.ifCond .eq 16, 23, 36, 0, 0, 0, 0, [])),
  (23, (.aload_n 0, 24, 0, 0, 0, 0, 0, [])),
  (24, (.dup, 25, 0, 0, 0, 0, 0, [])),
  (25, (.getfield 185, 28, 10, 9, 911, 0, 11, [])),
  (28, (.iconst 1, 29, 0, 0, 0, 0, 0, [])),
  (29, (.iadd, 30, 0, 0, 0, 0, 0, [])),
  (30, (.putfield 185, 33, 10, 9, 911, 0, 11, [])),
  (33, (.goto (-25), 36, 8, 0, 0, 0, 0, [])),
  (36, (.aload_n 0, 37, 0, 0, 0, 0, 0, [])),
  (37, (.aload_n 0, 38, 0, 0, 0, 0, 0, [])),
  (38, (.getfield 185, 41, 10, 9, 911, 0, 11, [])),
  (41, (.putfield 182, 44, 10, 10, 912, 0, 11, [])),
  (44, (.aload_n 0, 45, 0, 0, 0, 0, 0, [])),
  (45, (.aload_n 0, 46, 0, 0, 0, 0, 0, [])),
  (46, (.getfield 185, 49, 10, 9, 911, 0, 11, [])),
  (49, (.bipush 97, 51, 0, 0, 0, 0, 0, [])),
  (51, (.bipush 122, 53, 0, 0, 0, 0, 0, [])),
  (53, (.invokevirtual 188, 56, 191, 4, 1218, 0, 11, [0])),
  (56, (.ifCond .eq 31, 59, 87, 0, 0, 0, 0, [])),
  (59, (.aload_n 0, 60, 0, 0, 0, 0, 0, [])),
  (60, (.aload_n 0, 61, 0, 0, 0, 0, 0, [])),
  (61, (.getfield 182, 64, 10, 10, 912, 0, 11, [])),
  (64, (.bipush 97, 66, 0, 0, 0, 0, 0, [])),
  (66, (.bipush 122, 68, 0, 0, 0, 0, 0, [])),
  (68, (.invokevirtual 188, 71, 191, 4, 1218, 0, 11, [0])),
  (71, (.ifCond .eq 80, 74, 151, 0, 0, 0, 0, [])),
  (74, (.aload_n 0, 75, 0, 0, 0, 0, 0, [])),
  (75, (.dup, 76, 0, 0, 0, 0, 0, [])),
  (76, (.getfield 182, 79, 10, 10, 912, 0, 11, [])),
  (79, (.iconst 1, 80, 0, 0, 0, 0, 0, [])),
  (80, (.iadd, 81, 0, 0, 0, 0, 0, [])),
  (81, (.putfield 182, 84, 10, 10, 912, 0, 11, [])),
  (84, (.goto (-25), 87, 59, 0, 0, 0, 0, [])),
  (87, (.aload_n 0, 88, 0, 0, 0, 0, 0, [])),
  (88, (.aload_n 0, 89, 0, 0, 0, 0, 0, [])),
  (89, (.getfield 185, 92, 10, 9, 911, 0, 11, [])),
  (92, (.bipush 48, 94, 0, 0, 0, 0, 0, [])),
  (94, (.bipush 57, 96, 0, 0, 0, 0, 0, [])),
  (96, (.invokevirtual 188, 99, 191, 4, 1218, 0, 11, [0])),
  (99, (.ifCond .eq 31, 102, 130, 0, 0, 0, 0, [])),
  (102, (.aload_n 0, 103, 0, 0, 0, 0, 0, [])),
  (103, (.aload_n 0, 104, 0, 0, 0, 0, 0, [])),
  (104, (.getfield 182, 107, 10, 10, 912, 0, 11, [])),
  (107, (.bipush 48, 109, 0, 0, 0, 0, 0, [])),
  (109, (.bipush 57, 111, 0, 0, 0, 0, 0, [])),
  (111, (.invokevirtual 188, 114, 191, 4, 1218, 0, 11, [0])),
  (114, (.ifCond .eq 37, 117, 151, 0, 0, 0, 0, [])),
  (117, (.aload_n 0, 118, 0, 0, 0, 0, 0, [])),
  (118, (.dup, 119, 0, 0, 0, 0, 0, [])),
  (119, (.getfield 182, 122, 10, 10, 912, 0, 11, [])),
  (122, (.iconst 1, 123, 0, 0, 0, 0, 0, [])),
  (123, (.iadd, 124, 0, 0, 0, 0, 0, [])),
  (124, (.putfield 182, 127, 10, 10, 912, 0, 11, [])),
  (127, (.goto (-25), 130, 102, 0, 0, 0, 0, [])),
  (130, (.aload_n 0, 131, 0, 0, 0, 0, 0, [])),
  (131, (.getfield 185, 134, 10, 9, 911, 0, 11, [])),
  (134, (.aload_n 0, 135, 0, 0, 0, 0, 0, [])),
  (135, (.getfield 167, 138, 10, 4, 906, 0, 11, [])),
  (138, (.if_icmp .ge 13, 141, 151, 0, 0, 0, 0, [])),
  (141, (.aload_n 0, 142, 0, 0, 0, 0, 0, [])),
  (142, (.dup, 143, 0, 0, 0, 0, 0, [])),
  (143, (.getfield 182, 146, 10, 10, 912, 0, 11, [])),
  (146, (.iconst 1, 147, 0, 0, 0, 0, 0, [])),
  (147, (.iadd, 148, 0, 0, 0, 0, 0, [])),
  (148, (.putfield 182, 151, 10, 10, 912, 0, 11, [])),
  (151, (.return_, 152, 0, 0, 0, 0, 0, []))]
def rn_m192 : rn_Mt := (yX10_nextToken, cX10_nextToken, 1, none, false, 0, 0, 2, 45, rn_t192)
def rn_t193 : List (Nat × rn_E) := [(0, (.aload_n 0, 1, 0, 0, 0, 0, 0, [])),
  (1, (.aload_n 0, 2, 0, 0, 0, 0, 0, [])),
  (2, (.getfield 185, 5, 10, 9, 911, 0, 11, [])),
  (5, (.bipush 97, 7, 0, 0, 0, 0, 0, [])),
  (7, (.bipush 122, 9, 0, 0, 0, 0, 0, [])),
  (9, (.invokevirtual 188, 12, 191, 4, 1218, 0, 11, [0])),
  (12, (.ifCond .eq 21, 15, 33, 0, 0, 0, 0, [])),
  (15, (.aload_n 0, 16, 0, 0, 0, 0, 0, [])),
  (16, (.getfield 182, 19, 10, 10, 912, 0, 11, [])),
  (19, (.aload_n 0, 20, 0, 0, 0, 0, 0, [])),
  (20, (.getfield 185, 23, 10, 9, 911, 0, 11, [])),
  (23, (.isub, 24, 0, 0, 0, 0, 0, [])),
  (24, (.bipush 12, 26, 0, 0, 0, 0, 0, [])),
  (26, (.if_icmp .gt 7, 29, 33, 0, 0, 0, 0, [])),
  (29, (.iconst 1, 30, 0, 0, 0, 0, 0, [])),
  (30, (.goto 4, 33, 34, 0, 0, 0, 0, [])),
  (33, (.iconst 0, 34, 0, 0, 0, 0, 0, [])),
  (34, (.ireturn, 35, 0, 0, 0, 1, 0, []))]
def rn_m193 : rn_Mt := (yX10_isNameToken, cX10_isNameToken, 1, (some .boolean), false, 0, 0, 2, 45, rn_t193)
def rn_t194 : List (Nat × rn_E) := [(0, (.aload_n 0, 1, 0, 0, 0, 0, 0, [])),
  (1, (.getfield 182, 4, 10, 10, 912, 0, 11, [])),
  (4, (.aload_n 0, 5, 0, 0, 0, 0, 0, [])),
  (5, (.getfield 185, 8, 10, 9, 911, 0, 11, [])),
  (8, (.isub, 9, 0, 0, 0, 0, 0, [])),
  (9, (.iconst 5, 10, 0, 0, 0, 0, 0, [])),
  (10, (.if_icmp .ne 85, 13, 95, 0, 0, 0, 0, [])),
  (13, (.aload_n 0, 14, 0, 0, 0, 0, 0, [])),
  (14, (.getfield 16, 17, 10, 3, 905, 2, 11, [])),
  (17, (.aload_n 0, 18, 0, 0, 0, 0, 0, [])),
  (18, (.getfield 185, 21, 10, 9, 911, 0, 11, [])),
  (21, (.iaload, 22, 0, 0, 0, 0, 0, [])),
  (22, (.bipush 114, 24, 0, 0, 0, 0, 0, [])),
  (24, (.if_icmp .ne 71, 27, 95, 0, 0, 0, 0, [])),
  (27, (.aload_n 0, 28, 0, 0, 0, 0, 0, [])),
  (28, (.getfield 16, 31, 10, 3, 905, 2, 11, [])),
  (31, (.aload_n 0, 32, 0, 0, 0, 0, 0, [])),
  (32, (.getfield 185, 35, 10, 9, 911, 0, 11, [])),
  (35, (.iconst 1, 36, 0, 0, 0, 0, 0, [])),
  (36, (.iadd, 37, 0, 0, 0, 0, 0, [])),
  (37, (.iaload, 38, 0, 0, 0, 0, 0, [])),
  (38, (.bipush 105, 40, 0, 0, 0, 0, 0, [])),
  (40, (.if_icmp .ne 55, 43, 95, 0, 0, 0, 0, [])),
  (43, (.aload_n 0, 44, 0, 0, 0, 0, 0, [])),
  (44, (.getfield 16, 47, 10, 3, 905, 2, 11, [])),
  (47, (.aload_n 0, 48, 0, 0, 0, 0, 0, [])),
  (48, (.getfield 185, 51, 10, 9, 911, 0, 11, [])),
  (51, (.iconst 2, 52, 0, 0, 0, 0, 0, [])),
  (52, (.iadd, 53, 0, 0, 0, 0, 0, [])),
  (53, (.iaload, 54, 0, 0, 0, 0, 0, [])),
  (54, (.bipush 118, 56, 0, 0, 0, 0, 0, [])),
  (56, (.if_icmp .ne 39, 59, 95, 0, 0, 0, 0, [])),
  (59, (.aload_n 0, 60, 0, 0, 0, 0, 0, [])),
  (60, (.getfield 16, 63, 10, 3, 905, 2, 11, [])),
  (63, (.aload_n 0, 64, 0, 0, 0, 0, 0, [])),
  (64, (.getfield 185, 67, 10, 9, 911, 0, 11, [])),
  (67, (.iconst 3, 68, 0, 0, 0, 0, 0, [])),
  (68, (.iadd, 69, 0, 0, 0, 0, 0, [])),
  (69, (.iaload, 70, 0, 0, 0, 0, 0, [])),
  (70, (.bipush 101, 72, 0, 0, 0, 0, 0, [])),
  (72, (.if_icmp .ne 23, 75, 95, 0, 0, 0, 0, [])),
  (75, (.aload_n 0, 76, 0, 0, 0, 0, 0, [])),
  (76, (.getfield 16, 79, 10, 3, 905, 2, 11, [])),
  (79, (.aload_n 0, 80, 0, 0, 0, 0, 0, [])),
  (80, (.getfield 185, 83, 10, 9, 911, 0, 11, [])),
  (83, (.iconst 4, 84, 0, 0, 0, 0, 0, [])),
  (84, (.iadd, 85, 0, 0, 0, 0, 0, [])),
  (85, (.iaload, 86, 0, 0, 0, 0, 0, [])),
  (86, (.bipush 114, 88, 0, 0, 0, 0, 0, [])),
  (88, (.if_icmp .ne 7, 91, 95, 0, 0, 0, 0, [])),
  (91, (.iconst 1, 92, 0, 0, 0, 0, 0, [])),
  (92, (.goto 4, 95, 96, 0, 0, 0, 0, [])),
  (95, (.iconst 0, 96, 0, 0, 0, 0, 0, [])),
  (96, (.ireturn, 97, 0, 0, 0, 1, 0, []))]
def rn_m194 : rn_Mt := (yX10_isRiverWord, cX10_isRiverWord, 1, (some .boolean), false, 0, 0, 0, 0, rn_t194)
def rn_t195 : List (Nat × rn_E) := [(0, (.aload_n 0, 1, 0, 0, 0, 0, 0, [])),
  (1, (.getfield 182, 4, 10, 10, 912, 0, 11, [])),
  (4, (.aload_n 0, 5, 0, 0, 0, 0, 0, [])),
  (5, (.getfield 185, 8, 10, 9, 911, 0, 11, [])),
  (8, (.isub, 9, 0, 0, 0, 0, 0, [])),
  (9, (.iconst 4, 10, 0, 0, 0, 0, 0, [])),
  (10, (.if_icmp .ne 69, 13, 79, 0, 0, 0, 0, [])),
  (13, (.aload_n 0, 14, 0, 0, 0, 0, 0, [])),
  (14, (.getfield 16, 17, 10, 3, 905, 2, 11, [])),
  (17, (.aload_n 0, 18, 0, 0, 0, 0, 0, [])),
  (18, (.getfield 185, 21, 10, 9, 911, 0, 11, [])),
  (21, (.iaload, 22, 0, 0, 0, 0, 0, [])),
  (22, (.bipush 116, 24, 0, 0, 0, 0, 0, [])),
  (24, (.if_icmp .ne 55, 27, 79, 0, 0, 0, 0, [])),
  (27, (.aload_n 0, 28, 0, 0, 0, 0, 0, [])),
  (28, (.getfield 16, 31, 10, 3, 905, 2, 11, [])),
  (31, (.aload_n 0, 32, 0, 0, 0, 0, 0, [])),
  (32, (.getfield 185, 35, 10, 9, 911, 0, 11, [])),
  (35, (.iconst 1, 36, 0, 0, 0, 0, 0, [])),
  (36, (.iadd, 37, 0, 0, 0, 0, 0, [])),
  (37, (.iaload, 38, 0, 0, 0, 0, 0, [])),
  (38, (.bipush 111, 40, 0, 0, 0, 0, 0, [])),
  (40, (.if_icmp .ne 39, 43, 79, 0, 0, 0, 0, [])),
  (43, (.aload_n 0, 44, 0, 0, 0, 0, 0, [])),
  (44, (.getfield 16, 47, 10, 3, 905, 2, 11, [])),
  (47, (.aload_n 0, 48, 0, 0, 0, 0, 0, [])),
  (48, (.getfield 185, 51, 10, 9, 911, 0, 11, [])),
  (51, (.iconst 2, 52, 0, 0, 0, 0, 0, [])),
  (52, (.iadd, 53, 0, 0, 0, 0, 0, [])),
  (53, (.iaload, 54, 0, 0, 0, 0, 0, [])),
  (54, (.bipush 119, 56, 0, 0, 0, 0, 0, [])),
  (56, (.if_icmp .ne 23, 59, 79, 0, 0, 0, 0, [])),
  (59, (.aload_n 0, 60, 0, 0, 0, 0, 0, [])),
  (60, (.getfield 16, 63, 10, 3, 905, 2, 11, [])),
  (63, (.aload_n 0, 64, 0, 0, 0, 0, 0, [])),
  (64, (.getfield 185, 67, 10, 9, 911, 0, 11, [])),
  (67, (.iconst 3, 68, 0, 0, 0, 0, 0, [])),
  (68, (.iadd, 69, 0, 0, 0, 0, 0, [])),
  (69, (.iaload, 70, 0, 0, 0, 0, 0, [])),
  (70, (.bipush 110, 72, 0, 0, 0, 0, 0, [])),
  (72, (.if_icmp .ne 7, 75, 79, 0, 0, 0, 0, [])),
  (75, (.iconst 1, 76, 0, 0, 0, 0, 0, [])),
  (76, (.goto 4, 79, 80, 0, 0, 0, 0, [])),
  (79, (.iconst 0, 80, 0, 0, 0, 0, 0, [])),
  (80, (.ireturn, 81, 0, 0, 0, 1, 0, []))]
def rn_m195 : rn_Mt := (yX10_isTownWord, cX10_isTownWord, 1, (some .boolean), false, 0, 0, 0, 0, rn_t195)
def rn_t196 : List (Nat × rn_E) := [(0, (.aload_n 0, 1, 0, 0, 0, 0, 0, [])),
  (1, (.aload_n 0, 2, 0, 0, 0, 0, 0, [])),
  (2, (.getfield 185, 5, 10, 9, 911, 0, 11, [])),
  (5, (.bipush 48, 7, 0, 0, 0, 0, 0, [])),
  (7, (.bipush 57, 9, 0, 0, 0, 0, 0, [])),
  (9, (.invokevirtual 188, 12, 191, 4, 1218, 0, 11, [0])),
  (12, (.ifCond .eq 43, 15, 55, 0, 0, 0, 0, [])),
  (15, (.aload_n 0, 16, 0, 0, 0, 0, 0, [])),
  (16, (.getfield 16, 19, 10, 3, 905, 2, 11, [])),
  (19, (.aload_n 0, 20, 0, 0, 0, 0, 0, [])),
  (20, (.getfield 185, 23, 10, 9, 911, 0, 11, [])),
  (23, (.iaload, 24, 0, 0, 0, 0, 0, [])),
  (24, (.bipush 48, 26, 0, 0, 0, 0, 0, [])),
  (26, (.if_icmp .ne 16, 29, 42, 0, 0, 0, 0, [])),
  (29, (.aload_n 0, 30, 0, 0, 0, 0, 0, [])),
  (30, (.getfield 182, 33, 10, 10, 912, 0, 11, [])),
  (33, (.aload_n 0, 34, 0, 0, 0, 0, 0, [])),
  (34, (.getfield 185, 37, 10, 9, 911, 0, 11, [])),
  (37, (.isub, 38, 0, 0, 0, 0, 0, [])),
  (38, (.iconst 1, 39, 0, 0, 0, 0, 0, [])),
  (39, (.if_icmp .gt 16, 42, 55, 0, 0, 0, 0, [])),
  (42, (.aload_n 0, 43, 0, 0, 0, 0, 0, [])),
  (43, (.getfield 182, 46, 10, 10, 912, 0, 11, [])),
  (46, (.aload_n 0, 47, 0, 0, 0, 0, 0, [])),
  (47, (.getfield 185, 50, 10, 9, 911, 0, 11, [])),
  (50, (.isub, 51, 0, 0, 0, 0, 0, [])),
  (51, (.iconst 3, 52, 0, 0, 0, 0, 0, [])),
  (52, (.if_icmp .le 5, 55, 57, 0, 0, 0, 0, [])),
  (55, (.iconst 0, 56, 0, 0, 0, 0, 0, [])),
  (56, (.ireturn, 57, 0, 0, 0, 1, 0, [])),
  (57, (.iconst 0, 58, 0, 0, 0, 0, 0, [])),
  (58, (.istore_n 3, 59, 3, 0, 0, 0, 0, [])),
  (59, (.aload_n 0, 60, 0, 0, 0, 0, 0, [])),
  (60, (.getfield 185, 63, 10, 9, 911, 0, 11, [])),
  (63, (.istore 4, 65, 4, 0, 0, 0, 0, [])),
  (65, (.iload 4, 67, 4, 0, 0, 0, 0, [])),
  (67, (.aload_n 0, 68, 0, 0, 0, 0, 0, [])),
  (68, (.getfield 182, 71, 10, 10, 912, 0, 11, [])),
  (71, (.if_icmp .ge 25, 74, 96, 0, 0, 0, 0, [])),
  (74, (.bipush 10, 76, 0, 0, 0, 0, 0, [])),
  (76, (.iload_n 3, 77, 3, 0, 0, 0, 0, [])),
  (77, (.imul, 78, 0, 0, 0, 0, 0, [])),
  (78, (.aload_n 0, 79, 0, 0, 0, 0, 0, [])),
  (79, (.getfield 16, 82, 10, 3, 905, 2, 11, [])),
  (82, (.iload 4, 84, 4, 0, 0, 0, 0, [])),
  (84, (.iaload, 85, 0, 0, 0, 0, 0, [])),
  (85, (.iadd, 86, 0, 0, 0, 0, 0, [])),
  (86, (.bipush 48, 88, 0, 0, 0, 0, 0, [])),
  (88, (.isub, 89, 0, 0, 0, 0, 0, [])),
  (89, (.istore_n 3, 90, 3, 0, 0, 0, 0, [])),
  (90, (.iinc 4 1, 93, 4, 0, 0, 0, 0, [])),
  (93, (.goto (-28), 96, 65, 0, 0, 0, 0, [])),
  (96, (.iload_n 3, 97, 3, 0, 0, 0, 0, [])),
  (97, (.iload_n 1, 98, 1, 0, 0, 0, 0, [])),
  (98, (.iload_n 2, 99, 2, 0, 0, 0, 0, [])),
  (99, (.invokestatic 41, 102, 124, 3, 956, 0, 11, [0])),
  (102, (.ifCond .ne 5, 105, 107, 0, 0, 0, 0, [])),
  (105, (.iconst 0, 106, 0, 0, 0, 0, 0, [])),
  (106, (.ireturn, 107, 0, 0, 0, 1, 0, [])),
  (107, (.aload_n 0, 108, 0, 0, 0, 0, 0, [])),
  (108, (.iload_n 3, 109, 3, 0, 0, 0, 0, [])),
  (109, (.putfield 191, 112, 10, 11, 913, 0, 11, [])),
  (112, (.aload_n 0, 113, 0, 0, 0, 0, 0, [])),
  (113, (.invokevirtual 194, 116, 192, 1, 1214, 0, 11, [0])),
  (116, (.iconst 1, 117, 0, 0, 0, 0, 0, [])),
  (117, (.ireturn, 118, 0, 0, 0, 1, 0, []))]
def rn_m196 : rn_Mt := (yX10_takesNumber, cX10_takesNumber, 5, (some .boolean), false, 0, 0, 3, 65, rn_t196)
def rn_t197 : List (Nat × rn_E) := [(0, (.aload_n 0, 1, 0, 0, 0, 0, 0, [])),
  (1, (.aload_n 0, 2, 0, 0, 0, 0, 0, [])),
  (2, (.getfield 185, 5, 10, 9, 911, 0, 11, [])),
  (5, (.bipush 59, 7, 0, 0, 0, 0, 0, [])),
  (7, (.bipush 59, 9, 0, 0, 0, 0, 0, [])),
  (9, (.invokevirtual 188, 12, 191, 4, 1218, 0, 11, [0])),
  (12, (.ifCond .ne 5, 15, 17, 0, 0, 0, 0, [])),
  (15, (.iconst 0, 16, 0, 0, 0, 0, 0, [])),
  (16, (.ireturn, 17, 0, 0, 0, 1, 0, [])),
  (17, (.aload_n 0, 18, 0, 0, 0, 0, 0, [])),
  (18, (.invokevirtual 194, 21, 192, 1, 1214, 0, 11, [0])),
  (21, (.iconst 1, 22, 0, 0, 0, 0, 0, [])),
  (22, (.ireturn, 23, 0, 0, 0, 1, 0, []))]
def rn_m197 : rn_Mt := (yX10_takesSemicolon, cX10_takesSemicolon, 1, (some .boolean), false, 0, 0, 3, 65, rn_t197)
def rn_t198 : List (Nat × rn_E) := [(0, (.aload_n 0, 1, 0, 0, 0, 0, 0, [])),
  (1, (.aload_n 0, 2, 0, 0, 0, 0, 0, [])),
  (2, (.getfield 185, 5, 10, 9, 911, 0, 11, [])),
  (5, (.bipush 48, 7, 0, 0, 0, 0, 0, [])),
  (7, (.bipush 57, 9, 0, 0, 0, 0, 0, [])),
  (9, (.invokevirtual 188, 12, 191, 4, 1218, 0, 11, [0])),
  (12, (.ifCond .eq 17, 15, 29, 0, 0, 0, 0, [])),
  (15, (.aload_n 0, 16, 0, 0, 0, 0, 0, [])),
  (16, (.getfield 182, 19, 10, 10, 912, 0, 11, [])),
  (19, (.aload_n 0, 20, 0, 0, 0, 0, 0, [])),
  (20, (.getfield 185, 23, 10, 9, 911, 0, 11, [])),
  (23, (.isub, 24, 0, 0, 0, 0, 0, [])),
  (24, (.bipush 60, 26, 0, 0, 0, 0, 0, [])),
  (26, (.if_icmp .le 5, 29, 31, 0, 0, 0, 0, [])),
  (29, (.iconst 0, 30, 0, 0, 0, 0, 0, [])),
  (30, (.ireturn, 31, 0, 0, 0, 1, 0, [])),
  (31, (.aload_n 0, 32, 0, 0, 0, 0, 0, [])),
  (32, (.getfield 7, 35, 10, 0, 902, 2, 11, [])),
  (35, (.iconst 0, 36, 0, 0, 0, 0, 0, [])),
  (36, (.iaload, 37, 0, 0, 0, 0, 0, [])),
  (37, (.iconst 1, 38, 0, 0, 0, 0, 0, [])),
  (38, (.isub, 39, 0, 0, 0, 0, 0, [])),
  (39, (.istore_n 1, 40, 1, 0, 0, 0, 0, [])),
  (40, (.aload_n 0, 41, 0, 0, 0, 0, 0, [])),
  (41, (.getfield 185, 44, 10, 9, 911, 0, 11, [])),
  (44, (.istore_n 2, 45, 2, 0, 0, 0, 0, [])),
  (45, (.iload_n 2, 46, 2, 0, 0, 0, 0, [])),
  (46, (.aload_n 0, 47, 0, 0, 0, 0, 0, [])),
  (47, (.getfield 182, 50, 10, 10, 912, 0, 11, [])),
  (50, (.if_icmp .ge 36, 53, 86, 0, 0, 0, 0, [])),
  (53, (.aload_n 0, 54, 0, 0, 0, 0, 0, [])),
  (54, (.getfield 16, 57, 10, 3, 905, 2, 11, [])),
  (57, (.iload_n 2, 58, 2, 0, 0, 0, 0, [])),
  (58, (.iaload, 59, 0, 0, 0, 0, 0, [])),
  (59, (.bipush 55, 61, 0, 0, 0, 0, 0, [])),
  (61, (.if_icmp .le 5, 64, 66, 0, 0, 0, 0, [])),
  (64, (.iconst 0, 65, 0, 0, 0, 0, 0, [])),
  (65, (.ireturn, 66, 0, 0, 0, 1, 0, [])),
  (66, (.aload_n 0, 67, 0, 0, 0, 0, 0, [])),
  (67, (.iload_n 1, 68, 1, 0, 0, 0, 0, [])),
  (68, (.aload_n 0, 69, 0, 0, 0, 0, 0, [])),
  (69, (.getfield 16, 72, 10, 3, 905, 2, 11, [])),
  (72, (.iload_n 2, 73, 2, 0, 0, 0, 0, [])),
  (73, (.iaload, 74, 0, 0, 0, 0, 0, [])),
  (74, (.bipush 48, 76, 0, 0, 0, 0, 0, [])),
  (76, (.isub, 77, 0, 0, 0, 0, 0, [])),
  (77, (.invokevirtual 91, 80, 141, 3, 1012, 0, 11, [0])),
  (80, (.iinc 2 1, 83, 2, 0, 0, 0, 0, [])),
  (83, (.goto (-38), 86, 45, 0, 0, 0, 0, [])),
  (86, (.aload_n 0, 87, 0, 0, 0, 0, 0, [])),
  (87, (.iload_n 1, 88, 1, 0, 0, 0, 0, [])),
  (88, (.invokevirtual 87, 91, 133, 2, 998, 0, 11, [0])),
  (91, (.iconst 0, 92, 0, 0, 0, 0, 0, [])),
  (92, (.istore_n 2, 93, 2, 0, 0, 0, 0, [])),
  (93, (.iload_n 2, 94, 2, 0, 0, 0, 0, [])),
  (94, (.aload_n 0, 95, 0, 0, 0, 0, 0, [])),
  (95, (.iload_n 1, 96, 1, 0, 0, 0, 0, [])),
  (96, (.iconst 5, 97, 0, 0, 0, 0, 0, [])),
  (97, (.invokevirtual 49, 100, 129, 3, 1002, 0, 11, [0])),
  (100, (.if_icmp .gt 29, 103, 129, 0, 0, 0, 0, [])),
  (103, (.aload_n 0, 104, 0, 0, 0, 0, 0, [])),
  (104, (.getfield 19, 107, 10, 5, 907, 2, 11, [])),
  (107, (.iload_n 2, 108, 2, 0, 0, 0, 0, [])),
  (108, (.iaload, 109, 0, 0, 0, 0, 0, [])),
  (109, (.aload_n 0, 110, 0, 0, 0, 0, 0, [])),
  (110, (.getfield 22, 113, 10, 6, 908, 2, 11, [])),
  (113, (.iload_n 2, 114, 2, 0, 0, 0, 0, [])),
  (114, (.iaload, 115, 0, 0, 0, 0, 0, [])),
  (115, (.invokestatic 59, 118, 132, 2, 959, 0, 11, [0])),
  (118, (.ifCond .ne 5, 121, 123, 0, 0, 0, 0, [])),
  (121, (.iconst 0, 122, 0, 0, 0, 0, 0, [])),
  (122, (.ireturn, 123, 0, 0, 0, 1, 0, [])),
  (123, (.iinc 2 1, 126, 2, 0, 0, 0, 0, [])),
  (126, (.goto (-33), 129, 93, 0, 0, 0, 0, [])),
  (129, (.aload_n 0, 130, 0, 0, 0, 0, 0, [])),
  (130, (.invokevirtual 194, 133, 192, 1, 1214, 0, 11, [0])),
  (133, (.iconst 1, 134, 0, 0, 0, 0, 0, [])),
  (134, (.ireturn, 135, 0, 0, 0, 1, 0, []))]
def rn_m198 : rn_Mt := (yX10_takesMoves, cX10_takesMoves, 3, (some .boolean), false, 0, 0, 3, 65, rn_t198)
def rn_t199 : List (Nat × rn_E) := [(0, (.aload_n 0, 1, 0, 0, 0, 0, 0, [])),
  (1, (.getfield 7, 4, 10, 0, 902, 2, 11, [])),
  (4, (.iconst 0, 5, 0, 0, 0, 0, 0, [])),
  (5, (.iaload, 6, 0, 0, 0, 0, 0, [])),
  (6, (.bipush 6, 8, 0, 0, 0, 0, 0, [])),
  (8, (.if_icmp .ne 5, 11, 13, 0, 0, 0, 0, [])),
  (11, (.iconst 0, 12, 0, 0, 0, 0, 0, [])),
  (12, (.ireturn, 13, 0, 0, 0, 1, 0, [])),
  (13, (.aload_n 0, 14, 0, 0, 0, 0, 0, [])),
  (14, (.invokevirtual 194, 17, 192, 1, 1214, 0, 11, [0])),
  (17, (.aload_n 0, 18, 0, 0, 0, 0, 0, [])),
  (18, (.invokevirtual 197, 21, 193, 1, 1230, 0, 11, [0])),
  (21, (.ifCond .ne 5, 24, 26, 0, 0, 0, 0, [])),
  (24, (.iconst 0, 25, 0, 0, 0, 0, 0, [])),
  (25, (.ireturn, 26, 0, 0, 0, 1, 0, [])),
  (26, (.aload_n 0, 27, 0, 0, 0, 0, 0, [])),
  (27, (.getfield 185, 30, 10, 9, 911, 0, 11, [])),
  (30, (.istore_n 1, 31, 1, 0, 0, 0, 0, [])),
  (31, (.aload_n 0, 32, 0, 0, 0, 0, 0, [])),
  (32, (.getfield 182, 35, 10, 10, 912, 0, 11, [])),
  (35, (.aload_n 0, 36, 0, 0, 0, 0, 0, [])),
  (36, (.getfield 185, 39, 10, 9, 911, 0, 11, [])),
  (39, (.isub, 40, 0, 0, 0, 0, 0, [])),
  (40, (.istore_n 2, 41, 2, 0, 0, 0, 0, [])),
  (41, (.aload_n 0, 42, 0, 0, 0, 0, 0, [])),
  (42, (.invokevirtual 194, 45, 192, 1, 1214, 0, 11, [0])),
  (45, (.iconst 0, 46, 0, 0, 0, 0, 0, [])),
  (46, (.istore_n 3, 47, 3, 0, 0, 0, 0, [])),
  (47, (.iload_n 3, 48, 3, 0, 0, 0, 0, [])),
  (48, (.iconst 4, 49, 0, 0, 0, 0, 0, [])),
  (49, (.if_icmp .ge 68, 52, 117, 0, 0, 0, 0, [])),
  (52, (.aload_n 0, 53, 0, 0, 0, 0, 0, [])),
  (53, (.iload_n 3, 54, 3, 0, 0, 0, 0, [])),
  (54, (.iconst 2, 55, 0, 0, 0, 0, 0, [])),
  (55, (.if_icmp .ne 7, 58, 62, 0, 0, 0, 0, [])),
  (58, (.iconst 1, 59, 0, 0, 0, 0, 0, [])),
  (59, (.goto 4, 62, 63, 0, 0, 0, 0, [])),
  (62, (.iconst 0, 63, 0, 0, 0, 0, 0, [])),
  (63, (.iload_n 3, 64, 3, 0, 0, 0, 0, [])),
  (64, (.ifCond .ne 8, 67, 72, 0, 0, 0, 0, [])),
  (67, (.bipush 59, 69, 0, 0, 0, 0, 0, [])),
  (69, (.goto 24, 72, 93, 0, 0, 0, 0, [])),
  (72, (.iload_n 3, 73, 3, 0, 0, 0, 0, [])),
  (73, (.iconst 1, 74, 0, 0, 0, 0, 0, [])),
  (74, (.if_icmp .ne 8, 77, 82, 0, 0, 0, 0, [])),
  (77, (.bipush 39, 79, 0, 0, 0, 0, 0, [])),
  (79, (.goto 14, 82, 93, 0, 0, 0, 0, [])),
  (82, (.iload_n 3, 83, 3, 0, 0, 0, 0, [])),
  (83, (.iconst 2, 84, 0, 0, 0, 0, 0, [])),
  (84, (.if_icmp .ne 8, 87, 92, 0, 0, 0, 0, [])),
  (87, (.bipush 9, 89, 0, 0, 0, 0, 0, [])),
  (89, (.goto 4, 92, 93, 0, 0, 0, 0, [])),
  (92, (.iconst 2, 93, 0, 0, 0, 0, 0, [])),
  (93, (.invokevirtual 201, 96, 196, 3, 1234, 0, 11, [0])),
  (96, (.ifCond .ne 5, 99, 101, 0, 0, 0, 0, [])),
  (99, (.iconst 0, 100, 0, 0, 0, 0, 0, [])),
  (100, (.ireturn, 101, 0, 0, 0, 1, 0, [])),
  (101, (.aload_n 0, 102, 0, 0, 0, 0, 0, [])),
  (102, (.getfield 28, 105, 10, 12, 914, 2, 11, [])),
  (105, (.iload_n 3, 106, 3, 0, 0, 0, 0, [])),
  (106, (.aload_n 0, 107, 0, 0, 0, 0, 0, [])),
  (107, (.getfield 191, 110, 10, 11, 913, 0, 11, [])),
  (110, (.iastore, 111, 0, 0, 0, 0, 0, [])),
  (111, (.iinc 3 1, 114, 3, 0, 0, 0, 0, [])),
  (114, (.goto (-67), 117, 47, 0, 0, 0, 0, [])),
  (117, (.aload_n 0, 118, 0, 0, 0, 0, 0, [])),
  (118, (.iload_n 2, 119, 2, 0, 0, 0, 0, [])),
  (119, (.aload_n 0, 120, 0, 0, 0, 0, 0, [])),
  (120, (.getfield 28, 123, 10, 12, 914, 2, 11, [])),
  (123, (.iconst 0, 124, 0, 0, 0, 0, 0, [])),
  (124, (.iaload, 125, 0, 0, 0, 0, 0, [])),
  (125, (.aload_n 0, 126, 0, 0, 0, 0, 0, [])),
  (126, (.getfield 28, 129, 10, 12, 914, 2, 11, [])),
  (129, (.iconst 1, 130, 0, 0, 0, 0, 0, [])),
  (130, (.iaload, 131, 0, 0, 0, 0, 0, [])),
  (131, (.aload_n 0, 132, 0, 0, 0, 0, 0, [])),
  (132, (.getfield 28, 135, 10, 12, 914, 2, 11, [])),
  (135, (.iconst 2, 136, 0, 0, 0, 0, 0, [])),
  (136, (.iaload, 137, 0, 0, 0, 0, 0, [])),
  (137, (.aload_n 0, 138, 0, 0, 0, 0, 0, [])),
  (138, (.getfield 28, 141, 10, 12, 914, 2, 11, [])),
  (141, (.iconst 3, 142, 0, 0, 0, 0, 0, [])),
  (142, (.iaload, 143, 0, 0, 0, 0, 0, [])),
  (143, (.invokevirtual 73, 146, 136, 6, 972, 0, 11, [0])),
  (146, (.istore_n 3, 147, 3, 0, 0, 0, 0, [])),
  (147, (.iconst 0, 148, 0, 0, 0, 0, 0, [])),
  (148, (.istore 4, 150, 4, 0, 0, 0, 0, [])),
  (150, (.iload 4, 152, 4, 0, 0, 0, 0, [])),
  (152, (.iload_n 2, 153, 2, 0, 0, 0, 0, [])),
  (153, (.if_icmp .ge 33, 156, 186, 0, 0, 0, 0, [])),
  (156, (.aload_n 0, 157, 0, 0, 0, 0, 0, [])),
  (157, (.getfield 7, 160, 10, 0, 902, 2, 11, [])),
  (160, (.iload_n 3, 161, 3, 0, 0, 0, 0, [])),
  (161, (.invokestatic 45, 164, 128, 1, 976, 0, 11, [0])),
  (164, (.bipush 6, 166, 0, 0, 0, 0, 0, [])),
  (166, (.iadd, 167, 0, 0, 0, 0, 0, [])),
  (167, (.iload 4, 169, 4, 0, 0, 0, 0, [])),
  (169, (.iadd, 170, 0, 0, 0, 0, 0, [])),
  (170, (.aload_n 0, 171, 0, 0, 0, 0, 0, [])),
  (171, (.getfield 16, 174, 10, 3, 905, 2, 11, [])),
  (174, (.iload_n 1, 175, 1, 0, 0, 0, 0, [])),
  (175, (.iload 4, 177, 4, 0, 0, 0, 0, [])),
  (177, (.iadd, 178, 0, 0, 0, 0, 0, [])),
  (178, (.iaload, 179, 0, 0, 0, 0, 0, [])),
  (179, (.iastore, 180, 0, 0, 0, 0, 0, [])),
  (180, (.iinc 4 1, 183, 4, 0, 0, 0, 0, [])),
  (183, (.goto (-33), 186, 150, 0, 0, 0, 0, [])),
  (186, (.aload_n 0, 187, 0, 0, 0, 0, 0, [])),
  (187, (.invokevirtual 204, 190, 198, 1, 1238, 0, 11, [0])),
  (190, (.ifCond .eq 14, 193, 204, 0, 0, 0, 0, [])),
  (193, (.aload_n 0, 194, 0, 0, 0, 0, 0, [])),
  (194, (.invokevirtual 207, 197, 197, 1, 1242, 0, 11, [0])),
  (197, (.ifCond .eq 7, 200, 204, 0, 0, 0, 0, [])),
  (200, (.iconst 1, 201, 0, 0, 0, 0, 0, [])),
  (201, (.goto 4, 204, 205, 0, 0, 0, 0, [])),
  (204, (.iconst 0, 205, 0, 0, 0, 0, 0, [])),
  (205, (.ireturn, 206, 0, 0, 0, 1, 0, []))]
def rn_m199 : rn_Mt := (yX10_takesRiver, cX10_takesRiver, 5, (some .boolean), false, 0, 0, 4, 89, rn_t199)
def rn_t200 : List (Nat × rn_E) := [(0, (.aload_n 0, 1, 0, 0, 0, 0, 0, [])),
  (1, (.getfield 7, 4, 10, 0, 902, 2, 11, [])),
  (4, (.iconst 1, 5, 0, 0, 0, 0, 0, [])),
  (5, (.iaload, 6, 0, 0, 0, 0, 0, [])),
  (6, (.bipush 10, 8, 0, 0, 0, 0, 0, [])),
  (8, (.if_icmp .ne 5, 11, 13, 0, 0, 0, 0, [])),
  (11, (.iconst 0, 12, 0, 0, 0, 0, 0, [])),
  (12, (.ireturn, 13, 0, 0, 0, 1, 0, [])),
  (13, (.aload_n 0, 14, 0, 0, 0, 0, 0, [])),
  (14, (.invokevirtual 194, 17, 192, 1, 1214, 0, 11, [0])),
  (17, (.iconst 0, 18, 0, 0, 0, 0, 0, [])),
  (18, (.istore_n 1, 19, 1, 0, 0, 0, 0, [])),
  (19, (.iload_n 1, 20, 1, 0, 0, 0, 0, [])),
  (20, (.iconst 5, 21, 0, 0, 0, 0, 0, [])),
  (21, (.if_icmp .ge 126, 24, 147, 0, 0, 0, 0, [])),
  (24, (.iload_n 1, 25, 1, 0, 0, 0, 0, [])),
  (25, (.iconst 2, 26, 0, 0, 0, 0, 0, [])),
  (26, (.if_icmp .ne 15, 29, 41, 0, 0, 0, 0, [])),
  (29, (.bipush 60, 31, 0, 0, 0, 0, 0, [])),
  (31, (.aload_n 0, 32, 0, 0, 0, 0, 0, [])),
  (32, (.getfield 28, 35, 10, 12, 914, 2, 11, [])),
  (35, (.iconst 0, 36, 0, 0, 0, 0, 0, [])),
  (36, (.iaload, 37, 0, 0, 0, 0, 0, [])),
  (37, (.isub, 38, 0, 0, 0, 0, 0, [])),
  (38, (.goto 22, 41, 60, 0, 0, 0, 0, [])),
  (41, (.iload_n 1, 42, 1, 0, 0, 0, 0, [])),
  (42, (.iconst 3, 43, 0, 0, 0, 0, 0, [])),
  (43, (.if_icmp .ne 15, 46, 58, 0, 0, 0, 0, [])),
  (46, (.bipush 40, 48, 0, 0, 0, 0, 0, [])),
  (48, (.aload_n 0, 49, 0, 0, 0, 0, 0, [])),
  (49, (.getfield 28, 52, 10, 12, 914, 2, 11, [])),
  (52, (.iconst 1, 53, 0, 0, 0, 0, 0, [])),
  (53, (.iaload, 54, 0, 0, 0, 0, 0, [])),
  (54, (.isub, 55, 0, 0, 0, 0, 0, [])),
  (55, (.goto 5, 58, 60, 0, 0, 0, 0, [])),
  (58, (.bipush 99, 60, 0, 0, 0, 0, 0, [])),
  (60, (.istore_n 2, 61, 2, 0, 0, 0, 0, [])),
  (61, (.iload_n 1, 62, 1, 0, 0, 0, 0, [])),
  (62, (.ifCond .ne 8, 65, 70, 0, 0, 0, 0, [])),
  (65, (.bipush 59, 67, 0, 0, 0, 0, 0, [])),
  (67, (.goto 34, 70, 101, 0, 0, 0, 0, [])),
  (70, (.iload_n 1, 71, 1, 0, 0, 0, 0, [])),
  (71, (.iconst 1, 72, 0, 0, 0, 0, 0, [])),
  (72, (.if_icmp .ne 8, 75, 80, 0, 0, 0, 0, [])),
  (75, (.bipush 39, 77, 0, 0, 0, 0, 0, [])),
  (77, (.goto 24, 80, 101, 0, 0, 0, 0, [])),
  (80, (.iload_n 1, 81, 1, 0, 0, 0, 0, [])),
  (81, (.iconst 2, 82, 0, 0, 0, 0, 0, [])),
  (82, (.if_icmp .ne 8, 85, 90, 0, 0, 0, 0, [])),
  (85, (.bipush 12, 87, 0, 0, 0, 0, 0, [])),
  (87, (.goto 14, 90, 101, 0, 0, 0, 0, [])),
  (90, (.iload_n 1, 91, 1, 0, 0, 0, 0, [])),
  (91, (.iconst 3, 92, 0, 0, 0, 0, 0, [])),
  (92, (.if_icmp .ne 7, 95, 99, 0, 0, 0, 0, [])),
  (95, (.iconst 3, 96, 0, 0, 0, 0, 0, [])),
  (96, (.goto 5, 99, 101, 0, 0, 0, 0, [])),
  (99, (.bipush 9, 101, 0, 0, 0, 0, 0, [])),
  (101, (.istore_n 3, 102, 3, 0, 0, 0, 0, [])),
  (102, (.aload_n 0, 103, 0, 0, 0, 0, 0, [])),
  (103, (.iload_n 1, 104, 1, 0, 0, 0, 0, [])),
  (104, (.iconst 2, 105, 0, 0, 0, 0, 0, [])),
  (105, (.if_icmp .ge 7, 108, 112, 0, 0, 0, 0, [])),
  (108, (.iconst 0, 109, 0, 0, 0, 0, 0, [])),
  (109, (.goto 4, 112, 113, 0, 0, 0, 0, [])),
  (112, (.iconst 1, 113, 0, 0, 0, 0, 0, [])),
  (113, (.iload_n 3, 114, 3, 0, 0, 0, 0, [])),
  (114, (.iload_n 2, 115, 2, 0, 0, 0, 0, [])),
  (115, (.if_icmp .ge 7, 118, 122, 0, 0, 0, 0, [])),
  (118, (.iload_n 3, 119, 3, 0, 0, 0, 0, [])),
  (119, (.goto 4, 122, 123, 0, 0, 0, 0, [])),
  (122, (.iload_n 2, 123, 2, 0, 0, 0, 0, [])),
  (123, (.invokevirtual 201, 126, 196, 3, 1234, 0, 11, [0])),
  (126, (.ifCond .ne 5, 129, 131, 0, 0, 0, 0, [])),
  (129, (.iconst 0, 130, 0, 0, 0, 0, 0, [])),
  (130, (.ireturn, 131, 0, 0, 0, 1, 0, [])),
  (131, (.aload_n 0, 132, 0, 0, 0, 0, 0, [])),
  (132, (.getfield 28, 135, 10, 12, 914, 2, 11, [])),
  (135, (.iload_n 1, 136, 1, 0, 0, 0, 0, [])),
  (136, (.aload_n 0, 137, 0, 0, 0, 0, 0, [])),
  (137, (.getfield 191, 140, 10, 11, 913, 0, 11, [])),
  (140, (.iastore, 141, 0, 0, 0, 0, 0, [])),
  (141, (.iinc 1 1, 144, 1, 0, 0, 0, 0, [])),
  (144, (.goto (-125), 147, 19, 0, 0, 0, 0, [])),
  (147, (.aload_n 0, 148, 0, 0, 0, 0, 0, [])),
  (148, (.aload_n 0, 149, 0, 0, 0, 0, 0, [])),
  (149, (.getfield 185, 152, 10, 9, 911, 0, 11, [])),
  (152, (.bipush 59, 154, 0, 0, 0, 0, 0, [])),
  (154, (.bipush 59, 156, 0, 0, 0, 0, 0, [])),
  (156, (.invokevirtual 188, 159, 191, 4, 1218, 0, 11, [0])),
  (159, (.ifCond .ne 5, 162, 164, 0, 0, 0, 0, [])),
  (162, (.iconst 0, 163, 0, 0, 0, 0, 0, [])),
  (163, (.ireturn, 164, 0, 0, 0, 1, 0, [])),
  (164, (.aload_n 0, 165, 0, 0, 0, 0, 0, [])),
  (165, (.aload_n 0, 166, 0, 0, 0, 0, 0, [])),
  (166, (.getfield 28, 169, 10, 12, 914, 2, 11, [])),
  (169, (.iconst 0, 170, 0, 0, 0, 0, 0, [])),
  (170, (.iaload, 171, 0, 0, 0, 0, 0, [])),
  (171, (.aload_n 0, 172, 0, 0, 0, 0, 0, [])),
  (172, (.getfield 28, 175, 10, 12, 914, 2, 11, [])),
  (175, (.iconst 1, 176, 0, 0, 0, 0, 0, [])),
  (176, (.iaload, 177, 0, 0, 0, 0, 0, [])),
  (177, (.aload_n 0, 178, 0, 0, 0, 0, 0, [])),
  (178, (.getfield 28, 181, 10, 12, 914, 2, 11, [])),
  (181, (.iconst 2, 182, 0, 0, 0, 0, 0, [])),
  (182, (.iaload, 183, 0, 0, 0, 0, 0, [])),
  (183, (.aload_n 0, 184, 0, 0, 0, 0, 0, [])),
  (184, (.getfield 28, 187, 10, 12, 914, 2, 11, [])),
  (187, (.iconst 3, 188, 0, 0, 0, 0, 0, [])),
  (188, (.iaload, 189, 0, 0, 0, 0, 0, [])),
  (189, (.aload_n 0, 190, 0, 0, 0, 0, 0, [])),
  (190, (.getfield 28, 193, 10, 12, 914, 2, 11, [])),
  (193, (.iconst 4, 194, 0, 0, 0, 0, 0, [])),
  (194, (.iaload, 195, 0, 0, 0, 0, 0, [])),
  (195, (.invokevirtual 81, 198, 139, 6, 986, 0, 11, [0])),
  (198, (.istore_n 1, 199, 1, 0, 0, 0, 0, [])),
  (199, (.aload_n 0, 200, 0, 0, 0, 0, 0, [])),
  (200, (.invokevirtual 194, 203, 192, 1, 1214, 0, 11, [0])),
  (203, (.iconst 1, 204, 0, 0, 0, 0, 0, [])),
  (204, (.ireturn, 205, 0, 0, 0, 1, 0, []))]
def rn_m200 : rn_Mt := (yX10_takesTown, cX10_takesTown, 4, (some .boolean), false, 0, 0, 4, 89, rn_t200)
def rn_t201 : List (Nat × rn_E) := [(0, (.aload_n 0, 1, 0, 0, 0, 0, 0, [])),
  (1, (.invokevirtual 210, 4, 202, 1, 1210, 0, 11, [0])),
  (4, (.aload_n 0, 5, 0, 0, 0, 0, 0, [])),
  (5, (.iconst 0, 6, 0, 0, 0, 0, 0, [])),
  (6, (.putfield 182, 9, 10, 10, 912, 0, 11, [])),
  (9, (.aload_n 0, 10, 0, 0, 0, 0, 0, [])),
  (10, (.invokevirtual 194, 13, 192, 1, 1214, 0, 11, [0])),
  (13, (.iconst 0, 14, 0, 0, 0, 0, 0, [])),
  (14, (.istore_n 1, 15, 1, 0, 0, 0, 0, [])),
  (15, (.iconst 1, 16, 0, 0, 0, 0, 0, [])),
  (16, (.istore_n 2, 17, 2, 0, 0, 0, 0, [])),
  (17, (.iload_n 2, 18, 2, 0, 0, 0, 0, [])),
  (18, (.ifCond .eq 54, 21, 72, 0, 0, 0, 0, [])),
  (21, (.aload_n 0, 22, 0, 0, 0, 0, 0, [])),
  (22, (.getfield 185, 25, 10, 9, 911, 0, 11, [])),
  (25, (.aload_n 0, 26, 0, 0, 0, 0, 0, [])),
  (26, (.getfield 167, 29, 10, 4, 906, 0, 11, [])),
  (29, (.if_icmp .ge 43, 32, 72, 0, 0, 0, 0, [])),
  (32, (.aload_n 0, 33, 0, 0, 0, 0, 0, [])),
  (33, (.invokevirtual 213, 36, 194, 1, 1222, 0, 11, [0])),
  (36, (.ifCond .eq 10, 39, 46, 0, 0, 0, 0, [])),
  (39, (.aload_n 0, 40, 0, 0, 0, 0, 0, [])),
  (40, (.invokevirtual 216, 43, 199, 1, 1226, 0, 11, [0])),
  (43, (.goto 22, 46, 65, 0, 0, 0, 0, [])),
  (46, (.aload_n 0, 47, 0, 0, 0, 0, 0, [])),
  (47, (.invokevirtual 219, 50, 195, 1, 1246, 0, 11, [0])),
  (50, (.ifCond .eq 14, 53, 64, 0, 0, 0, 0, [])),
  (53, (.aload_n 0, 54, 0, 0, 0, 0, 0, [])),
  (54, (.invokevirtual 222, 57, 200, 1, 1250, 0, 11, [0])),
  (57, (.ifCond .eq 7, 60, 64, 0, 0, 0, 0, [])),
  (60, (.iconst 1, 61, 0, 0, 0, 0, 0, [])),
  (61, (.goto 4, 64, 65, 0, 0, 0, 0, [])),
  (64, (.iconst 0, 65, 0, 0, 0, 0, 0, [])),
  (65, (.istore_n 2, 66, 2, 0, 0, 0, 0, [])),
  (66, (.iinc 1 1, 69, 1, 0, 0, 0, 0, [])),
  (69, (.goto (-52), 72, 17, 0, 0, 0, 0, [])),
  (72, (.iload_n 2, 73, 2, 0, 0, 0, 0, [])),
  (73, (.ifCond .ne 16, 76, 89, 0, 0, 0, 0, [])),
  (76, (.aload_n 0, 77, 0, 0, 0, 0, 0, [])),
  (77, (.invokevirtual 225, 80, 203, 1, 1254, 0, 11, [0])),
  (80, (.sipush (-1000), 83, 0, 0, 0, 0, 0, [])),
  (83, (.aload_n 0, 84, 0, 0, 0, 0, 0, [])),
  (84, (.getfield 185, 87, 10, 9, 911, 0, 11, [])),
  (87, (.isub, 88, 0, 0, 0, 0, 0, [])),
  (88, (.ireturn, 89, 0, 0, 0, 0, 0, [])),
  (89, (.iconst 0, 90, 0, 0, 0, 0, 0, [])),
  (90, (.istore_n 3, 91, 3, 0, 0, 0, 0, [])),
  (91, (.iload_n 3, 92, 3, 0, 0, 0, 0, [])),
  (92, (.sipush 562, 95, 0, 0, 0, 0, 0, [])),
  (95, (.if_icmp .ge 21, 98, 116, 0, 0, 0, 0, [])),
  (98, (.aload_n 0, 99, 0, 0, 0, 0, 0, [])),
  (99, (.getfield 34, 102, 10, 14, 916, 2, 11, [])),
  (102, (.iload_n 3, 103, 3, 0, 0, 0, 0, [])),
  (103, (.aload_n 0, 104, 0, 0, 0, 0, 0, [])),
  (104, (.getfield 7, 107, 10, 0, 902, 2, 11, [])),
  (107, (.iload_n 3, 108, 3, 0, 0, 0, 0, [])),
  (108, (.iaload, 109, 0, 0, 0, 0, 0, [])),
  (109, (.iastore, 110, 0, 0, 0, 0, 0, [])),
  (110, (.iinc 3 1, 113, 3, 0, 0, 0, 0, [])),
  (113, (.goto (-22), 116, 91, 0, 0, 0, 0, [])),
  (116, (.aload_n 0, 117, 0, 0, 0, 0, 0, [])),
  (117, (.invokevirtual 225, 120, 203, 1, 1254, 0, 11, [0])),
  (120, (.aload_n 0, 121, 0, 0, 0, 0, 0, [])),
  (121, (.invokevirtual 70, 124, 125, 1, 968, 0, 11, [0])),
  (124, (.iconst 0, 125, 0, 0, 0, 0, 0, [])),
  (125, (.istore_n 3, 126, 3, 0, 0, 0, 0, [])),
  (126, (.iload_n 3, 127, 3, 0, 0, 0, 0, [])),
  (127, (.sipush 562, 130, 0, 0, 0, 0, 0, [])),
  (130, (.if_icmp .ge 21, 133, 151, 0, 0, 0, 0, [])),
  (133, (.aload_n 0, 134, 0, 0, 0, 0, 0, [])),
  (134, (.getfield 7, 137, 10, 0, 902, 2, 11, [])),
  (137, (.iload_n 3, 138, 3, 0, 0, 0, 0, [])),
  (138, (.aload_n 0, 139, 0, 0, 0, 0, 0, [])),
  (139, (.getfield 34, 142, 10, 14, 916, 2, 11, [])),
  (142, (.iload_n 3, 143, 3, 0, 0, 0, 0, [])),
  (143, (.iaload, 144, 0, 0, 0, 0, 0, [])),
  (144, (.iastore, 145, 0, 0, 0, 0, 0, [])),
  (145, (.iinc 3 1, 148, 3, 0, 0, 0, 0, [])),
  (148, (.goto (-22), 151, 126, 0, 0, 0, 0, [])),
  (151, (.aload_n 0, 152, 0, 0, 0, 0, 0, [])),
  (152, (.iconst 0, 153, 0, 0, 0, 0, 0, [])),
  (153, (.putfield 167, 156, 10, 4, 906, 0, 11, [])),
  (156, (.iload_n 1, 157, 1, 0, 0, 0, 0, [])),
  (157, (.ireturn, 158, 0, 0, 0, 0, 0, []))]
def rn_m201 : rn_Mt := (yX10_load, cX10_load, 4, (some .int), false, 0, 0, 5, 113, rn_t201)
def rn_t202 : List (Nat × rn_E) := [(0, (.iconst 0, 1, 0, 0, 0, 0, 0, [])),
  (1, (.istore_n 1, 2, 1, 0, 0, 0, 0, [])),
  (2, (.iload_n 1, 3, 1, 0, 0, 0, 0, [])),
  (3, (.sipush 562, 6, 0, 0, 0, 0, 0, [])),
  (6, (.if_icmp .ge 21, 9, 27, 0, 0, 0, 0, [])),
  (9, (.aload_n 0, 10, 0, 0, 0, 0, 0, [])),
  (10, (.getfield 31, 13, 10, 13, 915, 2, 11, [])),
  (13, (.iload_n 1, 14, 1, 0, 0, 0, 0, [])),
  (14, (.aload_n 0, 15, 0, 0, 0, 0, 0, [])),
  (15, (.getfield 7, 18, 10, 0, 902, 2, 11, [])),
  (18, (.iload_n 1, 19, 1, 0, 0, 0, 0, [])),
  (19, (.iaload, 20, 0, 0, 0, 0, 0, [])),
  (20, (.iastore, 21, 0, 0, 0, 0, 0, [])),
  (21, (.iinc 1 1, 24, 1, 0, 0, 0, 0, [])),
  (24, (.goto (-22), 27, 2, 0, 0, 0, 0, [])),
  (27, (.return_, 28, 0, 0, 0, 0, 0, []))]
def rn_m202 : rn_Mt := (yX10_keeps, cX10_keeps, 2, none, false, 0, 0, 0, 0, rn_t202)
def rn_t203 : List (Nat × rn_E) := [(0, (.iconst 0, 1, 0, 0, 0, 0, 0, [])),
  (1, (.istore_n 1, 2, 1, 0, 0, 0, 0, [])),
  (2, (.iload_n 1, 3, 1, 0, 0, 0, 0, [])),
  (3, (.sipush 562, 6, 0, 0, 0, 0, 0, [])),
  (6, (.if_icmp .ge 21, 9, 27, 0, 0, 0, 0, [])),
  (9, (.aload_n 0, 10, 0, 0, 0, 0, 0, [])),
  (10, (.getfield 7, 13, 10, 0, 902, 2, 11, [])),
  (13, (.iload_n 1, 14, 1, 0, 0, 0, 0, [])),
  (14, (.aload_n 0, 15, 0, 0, 0, 0, 0, [])),
  (15, (.getfield 31, 18, 10, 13, 915, 2, 11, [])),
  (18, (.iload_n 1, 19, 1, 0, 0, 0, 0, [])),
  (19, (.iaload, 20, 0, 0, 0, 0, 0, [])),
  (20, (.iastore, 21, 0, 0, 0, 0, 0, [])),
  (21, (.iinc 1 1, 24, 1, 0, 0, 0, 0, [])),
  (24, (.goto (-22), 27, 2, 0, 0, 0, 0, [])),
  (27, (.return_, 28, 0, 0, 0, 0, 0, []))]
def rn_m203 : rn_Mt := (yX10_takesBack, cX10_takesBack, 2, none, false, 0, 0, 0, 0, rn_t203)
def rn_t204 : List (Nat × rn_E) := [(0, (.iload_n 0, 1, 0, 0, 0, 0, 0, [])),
  (1, (.ifCond .ge 8, 4, 9, 0, 0, 0, 0, [])),
  (4, (.iload_n 0, 5, 0, 0, 0, 0, 0, [])),
  (5, (.ineg, 6, 0, 0, 0, 0, 0, [])),
  (6, (.goto 4, 9, 10, 0, 0, 0, 0, [])),
  (9, (.iload_n 0, 10, 0, 0, 0, 0, 0, [])),
  (10, (.ireturn, 11, 0, 0, 0, 0, 0, []))]
def rn_m204 : rn_Mt := (yJ9_abs_0f7a4, cJ9_abs_0f7a4, 1, (some .int), false, 0, 0, 0, 0, rn_t204)
def rn_t205 : List (Nat × rn_E) := [(0, (.iload_n 0, 1, 0, 0, 0, 0, 0, [])),
  (1, (.iload_n 1, 2, 1, 0, 0, 0, 0, [])),
  (2, (.if_icmp .lt 7, 5, 9, 0, 0, 0, 0, [])),
  (5, (.iload_n 0, 6, 0, 0, 0, 0, 0, [])),
  (6, (.goto 4, 9, 10, 0, 0, 0, 0, [])),
  (9, (.iload_n 1, 10, 1, 0, 0, 0, 0, [])),
  (10, (.ireturn, 11, 0, 0, 0, 0, 0, []))]
def rn_m205 : rn_Mt := (yJ9_max_7cf53, cJ9_max_7cf53, 2, (some .int), false, 0, 0, 0, 0, rn_t205)
def rn_t206 : List (Nat × rn_E) := [(0, (.iload_n 0, 1, 0, 0, 0, 0, 0, [])),
  (1, (.iload_n 1, 2, 1, 0, 0, 0, 0, [])),
  (2, (.if_icmp .gt 7, 5, 9, 0, 0, 0, 0, [])),
  (5, (.iload_n 0, 6, 0, 0, 0, 0, 0, [])),
  (6, (.goto 4, 9, 10, 0, 0, 0, 0, [])),
  (9, (.iload_n 1, 10, 1, 0, 0, 0, 0, [])),
  (10, (.ireturn, 11, 0, 0, 0, 0, 0, []))]
def rn_m206 : rn_Mt := (yJ9_min_7cf53, cJ9_min_7cf53, 2, (some .int), false, 0, 0, 0, 0, rn_t206)
def rn_t207 : List (Nat × rn_E) := [(0, (.aload_n 0, 1, 0, 0, 0, 0, 0, [])),
  (1, (.getfield 9, 4, 99, 0, 1258, 2, 22, [])),
  (4, (.arraylength, 5, 0, 0, 0, 0, 0, [])),
  (5, (.aload_n 0, 6, 0, 0, 0, 0, 0, [])),
  (6, (.invokevirtual 335, 9, 209, 1, 447, 0, 22, [0])),
  (9, (.ishr, 10, 0, 0, 0, 0, 0, [])),
  (10, (.ireturn, 11, 0, 0, 0, 0, 0, []))]
def rn_m207 : rn_Mt := (yJ0_length_8abf5, cJ0_length_8abf5, 1, (some .int), false, 0, 0, 1, 21, rn_t207)
def rn_t208 : List (Nat × rn_E) := [(0, (.aload_n 0, 1, 0, 0, 0, 0, 0, [])),
  (1, (.invokevirtual 492, 4, 210, 1, 457, 0, 22, [0])),
  (4, (.ifCond .eq 12, 7, 16, 0, 0, 0, 0, [])),
  (7, (.aload_n 0, 8, 0, 0, 0, 0, 0, [])),
  (8, (.getfield 9, 11, 99, 0, 1258, 2, 22, [])),
  (11, (.iload_n 1, 12, 1, 0, 0, 0, 0, [])),
  (12, (.invokestatic 495, 15, 212, 2, 461, 0, 0, [0])),
  (15, (.ireturn, 16, 0, 0, 0, 3, 0, [])),
  (16, (.aload_n 0, 17, 0, 0, 0, 0, 0, [])),
  (17, (.getfield 9, 20, 99, 0, 1258, 2, 22, [])),
  (20, (.iload_n 1, 21, 1, 0, 0, 0, 0, [])),
  (24, (.ireturn, 25, 0, 0, 0, 3, 0, []))]
def rn_m208 : rn_Mt := (yJ0_charAt_5068e, cJ0_charAt_5068e, 2, (some .char), false, 0, 0, 3, 64, rn_t208)
def rn_t209 : List (Nat × rn_E) := [(0, (.getstatic 38, 3, 0, 2, 451, 0, 0, [])),
  (3, (.ifCond .eq 10, 6, 13, 0, 0, 0, 0, [])),
  (6, (.aload_n 0, 7, 0, 0, 0, 0, 0, [])),
  (7, (.getfield 15, 10, 99, 1, 1259, 0, 22, [])),
  (10, (.goto 4, 13, 14, 0, 0, 0, 0, [])),
  (13, (.iconst 1, 14, 0, 0, 0, 0, 0, [])),
  (14, (.ireturn, 15, 0, 0, 0, 2, 0, []))]
def rn_m209 : rn_Mt := (yJ0_coder_7d493, cJ0_coder_7d493, 1, (some .byte), false, 0, 0, 0, 0, rn_t209)
def rn_t210 : List (Nat × rn_E) := [(0, (.getstatic 38, 3, 0, 2, 451, 0, 0, [])),
  (3, (.ifCond .eq 14, 6, 17, 0, 0, 0, 0, [])),
  (6, (.aload_n 0, 7, 0, 0, 0, 0, 0, [])),
  (7, (.getfield 15, 10, 99, 1, 1259, 0, 22, [])),
  (10, (.ifCond .ne 7, 13, 17, 0, 0, 0, 0, [])),
  (13, (.iconst 1, 14, 0, 0, 0, 0, 0, [])),
  (14, (.goto 4, 17, 18, 0, 0, 0, 0, [])),
  (17, (.iconst 0, 18, 0, 0, 0, 0, 0, [])),
  (18, (.ireturn, 19, 0, 0, 0, 1, 0, []))]
def rn_m210 : rn_Mt := (yJ0_isLatin1_aae02, cJ0_isLatin1_aae02, 1, (some .boolean), false, 0, 0, 0, 0, rn_t210)
def rn_t211 : List (Nat × rn_E) := [(0, (.iload_n 0, 1, 0, 0, 0, 0, 0, [])),
  (1, (.iload_n 1, 2, 1, 0, 0, 0, 0, [])),
  (2, (.getstatic 1053, 5, 7, 3, 467, 0, 0, [])),
  (5, (.invokestatic 1059, 8, 214, 3, 469, 0, 0, [0])),
  (8, (.pop, 9, 0, 0, 0, 0, 0, [])),
  (9, (.return_, 10, 0, 0, 0, 0, 0, []))]
def rn_m211 : rn_Mt := (yJ0_checkIndex_df160, cJ0_checkIndex_df160, 2, none, false, 0, 0, 1, 22, rn_t211)
def rn_t212 : List (Nat × rn_E) := [(0, (.iload_n 1, 1, 1, 0, 0, 0, 0, [])),
  (1, (.aload_n 0, 2, 0, 0, 0, 0, 0, [])),
  (2, (.arraylength, 3, 0, 0, 0, 0, 0, [])),
  (3, (.invokestatic 9, 6, 211, 2, 464, 0, 22, [0])),
  (6, (.aload_n 0, 7, 0, 0, 0, 0, 0, [])),
  (7, (.iload_n 1, 8, 1, 0, 0, 0, 0, [])),
  (8, (.baload, 9, 0, 0, 0, 0, 0, [])),
  (9, (.sipush 255, 12, 0, 0, 0, 0, 0, [])),
  (12, (.iand, 13, 0, 0, 0, 0, 0, [])),
  (13, (.i2c, 14, 0, 0, 0, 0, 0, [])),
  (14, (.ireturn, 15, 0, 0, 0, 3, 0, []))]
def rn_m212 : rn_Mt := (yJ1_charAt_3b067, cJ1_charAt_3b067, 2, (some .char), false, 0, 0, 2, 43, rn_t212)
def rn_t213 : List (Nat × rn_E) := [(0, (.iconst 0, 1, 0, 0, 0, 0, 0, [])),
  (1, (.istore_n 2, 2, 2, 0, 0, 0, 0, [])),
  (2, (.aload_n 0, 3, 0, 0, 0, 0, 0, [])),
  (3, (.arraylength, 4, 0, 0, 0, 0, 0, [])),
  (4, (.istore_n 3, 5, 3, 0, 0, 0, 0, [])),
  (5, (.iload_n 2, 6, 2, 0, 0, 0, 0, [])),
  (6, (.iload_n 3, 7, 3, 0, 0, 0, 0, [])),
  (7, (.if_icmp .ge 13, 10, 20, 0, 0, 0, 0, [])),
  (10, (.aload_n 0, 11, 0, 0, 0, 0, 0, [])),
  (11, (.iload_n 2, 12, 2, 0, 0, 0, 0, [])),
  (12, (.iload_n 1, 13, 1, 0, 0, 0, 0, [])),
  (13, (.iastore, 14, 0, 0, 0, 0, 0, [])),
  (14, (.iinc 2 1, 17, 2, 0, 0, 0, 0, [])),
  (17, (.goto (-12), 20, 5, 0, 0, 0, 0, [])),
  (20, (.return_, 21, 0, 0, 0, 0, 0, []))]
def rn_m213 : rn_Mt := (yJ7_fill_53178, cJ7_fill_53178, 4, none, false, 0, 0, 0, 0, rn_t213)
def rn_t214 : List (Nat × rn_E) := [(0, (.iload_n 0, 1, 0, 0, 0, 0, 0, [])),
  (1, (.ifCond .lt 8, 4, 9, 0, 0, 0, 0, [])),
  (4, (.iload_n 0, 5, 0, 0, 0, 0, 0, [])),
  (5, (.iload_n 1, 6, 1, 0, 0, 0, 0, [])),
  (6, (.if_icmp .lt 10, 9, 16, 0, 0, 0, 0, [])),
  (9, (.aload_n 2, 10, 2, 0, 0, 0, 0, [])),
  (10, (.iload_n 0, 11, 0, 0, 0, 0, 0, [])),
  (11, (.iload_n 1, 12, 1, 0, 0, 0, 0, [])),
  (16, (.iload_n 0, 17, 0, 0, 0, 0, 0, [])),
  (17, (.ireturn, 18, 0, 0, 0, 0, 0, []))]
def rn_m214 : rn_Mt := (yJ3_checkIndex_8e157, cJ3_checkIndex_8e157, 3, (some .int), false, 0, 0, 0, 0, rn_t214)
def rn_t215_0 : List (Nat × rn_E) := [(0, (.new 7, 3, 9, 0, 86, 0, 0, [])),
  (3, (.dup, 4, 0, 0, 0, 0, 0, [])),
  (4, (.invokespecial 9, 7, 90, 1, 88, 4, 10, [0])),
  (7, (.astore_n 1, 8, 1, 0, 0, 0, 0, [])),
  (8, (.new 10, 11, 10, 0, 896, 0, 0, [])),
  (11, (.dup, 12, 0, 0, 0, 0, 0, [])),
  (12, (.invokespecial 12, 15, 123, 1, 898, 4, 11, [0])),
  (15, (.astore_n 2, 16, 2, 0, 0, 0, 0, [])),
  (16, (.iconst 0, 17, 0, 0, 0, 0, 0, [])),
  (17, (.istore_n 3, 18, 3, 0, 0, 0, 0, [])),
  (18, (.iload_n 3, 19, 3, 0, 0, 0, 0, [])),
  (19, (.aload_n 0, 20, 0, 0, 0, 0, 0, [])),
  (20, (.arraylength, 21, 0, 0, 0, 0, 0, [])),
  (21, (.bipush 6, 23, 0, 0, 0, 0, 0, [])),
  (23, (.isub, 24, 0, 0, 0, 0, 0, [])),
  (24, (.if_icmp .gt 959, 27, 983, 0, 0, 0, 0, [])),
  (27, (.aload_n 0, 28, 0, 0, 0, 0, 0, [])),
  (28, (.iload_n 3, 29, 3, 0, 0, 0, 0, [])),
  (29, (.iaload, 30, 0, 0, 0, 0, 0, [])),
  (30, (.bipush 31, 32, 0, 0, 0, 0, 0, [])),
  (32, (.iand, 33, 0, 0, 0, 0, 0, [])),
  (33, (.tableswitch 944 0 26 #[123, 146, 159, 172, 235, 298, 331, 364, 397, 430, 453, 486, 509, 532, 545, 558, 581, 614, 647, 680, 713, 746, 779, 822, 855, 888, 921], 156, 977, 0, 0, 0, 0, [156, 179, 192, 205, 268, 331, 364, 397, 430, 463, 486, 519, 542, 565, 578, 591, 614, 647, 680, 713, 746, 779, 812, 855, 888, 921, 954])),
  (156, (.aload_n 1, 157, 1, 0, 0, 0, 0, [])),
  (157, (.aload_n 0, 158, 0, 0, 0, 0, 0, [])),
  (158, (.iload_n 3, 159, 3, 0, 0, 0, 0, [])),
  (159, (.iconst 1, 160, 0, 0, 0, 0, 0, [])),
  (160, (.iadd, 161, 0, 0, 0, 0, 0, [])),
  (161, (.iaload, 162, 0, 0, 0, 0, 0, [])),
  (162, (.invokevirtual 13, 165, 91, 2, 327, 0, 10, [0])),
  (165, (.aload_n 2, 166, 2, 0, 0, 0, 0, [])),
  (166, (.aload_n 0, 167, 0, 0, 0, 0, 0, [])),
  (167, (.iload_n 3, 168, 3, 0, 0, 0, 0, [])),
  (168, (.iconst 1, 169, 0, 0, 0, 0, 0, [])),
  (169, (.iadd, 170, 0, 0, 0, 0, 0, [])),
  (170, (.iaload, 171, 0, 0, 0, 0, 0, [])),
  (171, (.invokevirtual 17, 174, 189, 2, 1198, 0, 11, [0])),
  (174, (.if_icmp .eq 803, 177, 977, 0, 0, 0, 0, [])),
  (177, (.iconst 0, 178, 0, 0, 0, 0, 0, [])),
  (178, (.ireturn, 179, 0, 0, 0, 1, 0, [])),
  (179, (.aload_n 1, 180, 1, 0, 0, 0, 0, [])),
  (180, (.invokevirtual 18, 183, 92, 1, 339, 0, 10, [0])),
  (183, (.aload_n 2, 184, 2, 0, 0, 0, 0, [])),
  (184, (.invokevirtual 22, 187, 190, 1, 1202, 0, 11, [0])),
  (187, (.if_icmp .eq 790, 190, 977, 0, 0, 0, 0, [])),
  (190, (.iconst 0, 191, 0, 0, 0, 0, 0, [])),
  (191, (.ireturn, 192, 0, 0, 0, 1, 0, [])),
  (192, (.aload_n 1, 193, 1, 0, 0, 0, 0, [])),
  (193, (.invokevirtual 23, 196, 93, 1, 347, 0, 10, [0])),
  (196, (.aload_n 2, 197, 2, 0, 0, 0, 0, [])),
  (197, (.invokevirtual 26, 200, 201, 1, 1206, 0, 11, [0])),
  (200, (.if_icmp .eq 777, 203, 977, 0, 0, 0, 0, [])),
  (203, (.iconst 0, 204, 0, 0, 0, 0, 0, [])),
  (204, (.ireturn, 205, 0, 0, 0, 1, 0, [])),
  (205, (.aload_n 1, 206, 1, 0, 0, 0, 0, [])),
  (206, (.aload_n 0, 207, 0, 0, 0, 0, 0, [])),
  (207, (.iload_n 3, 208, 3, 0, 0, 0, 0, [])),
  (208, (.iconst 1, 209, 0, 0, 0, 0, 0, [])),
  (209, (.iadd, 210, 0, 0, 0, 0, 0, [])),
  (210, (.iaload, 211, 0, 0, 0, 0, 0, [])),
  (211, (.aload_n 0, 212, 0, 0, 0, 0, 0, [])),
  (212, (.iload_n 3, 213, 3, 0, 0, 0, 0, [])),
  (213, (.iconst 2, 214, 0, 0, 0, 0, 0, [])),
  (214, (.iadd, 215, 0, 0, 0, 0, 0, [])),
  (215, (.iaload, 216, 0, 0, 0, 0, 0, [])),
  (216, (.aload_n 0, 217, 0, 0, 0, 0, 0, [])),
  (217, (.iload_n 3, 218, 3, 0, 0, 0, 0, [])),
  (218, (.iconst 3, 219, 0, 0, 0, 0, 0, [])),
  (219, (.iadd, 220, 0, 0, 0, 0, 0, [])),
  (220, (.iaload, 221, 0, 0, 0, 0, 0, [])),
  (221, (.aload_n 0, 222, 0, 0, 0, 0, 0, []))]
def rn_t215_1 : List (Nat × rn_E) := [(222, (.iload_n 3, 223, 3, 0, 0, 0, 0, [])),
  (223, (.iconst 4, 224, 0, 0, 0, 0, 0, [])),
  (224, (.iadd, 225, 0, 0, 0, 0, 0, [])),
  (225, (.iaload, 226, 0, 0, 0, 0, 0, [])),
  (226, (.aload_n 0, 227, 0, 0, 0, 0, 0, [])),
  (227, (.iload_n 3, 228, 3, 0, 0, 0, 0, [])),
  (228, (.iconst 5, 229, 0, 0, 0, 0, 0, [])),
  (229, (.iadd, 230, 0, 0, 0, 0, 0, [])),
  (230, (.iaload, 231, 0, 0, 0, 0, 0, [])),
  (231, (.invokevirtual 27, 234, 94, 6, 569, 0, 10, [0])),
  (234, (.aload_n 2, 235, 2, 0, 0, 0, 0, [])),
  (235, (.aload_n 0, 236, 0, 0, 0, 0, 0, [])),
  (236, (.iload_n 3, 237, 3, 0, 0, 0, 0, [])),
  (237, (.iconst 1, 238, 0, 0, 0, 0, 0, [])),
  (238, (.iadd, 239, 0, 0, 0, 0, 0, [])),
  (239, (.iaload, 240, 0, 0, 0, 0, 0, [])),
  (240, (.aload_n 0, 241, 0, 0, 0, 0, 0, [])),
  (241, (.iload_n 3, 242, 3, 0, 0, 0, 0, [])),
  (242, (.iconst 2, 243, 0, 0, 0, 0, 0, [])),
  (243, (.iadd, 244, 0, 0, 0, 0, 0, [])),
  (244, (.iaload, 245, 0, 0, 0, 0, 0, [])),
  (245, (.aload_n 0, 246, 0, 0, 0, 0, 0, [])),
  (246, (.iload_n 3, 247, 3, 0, 0, 0, 0, [])),
  (247, (.iconst 3, 248, 0, 0, 0, 0, 0, [])),
  (248, (.iadd, 249, 0, 0, 0, 0, 0, [])),
  (249, (.iaload, 250, 0, 0, 0, 0, 0, [])),
  (250, (.aload_n 0, 251, 0, 0, 0, 0, 0, [])),
  (251, (.iload_n 3, 252, 3, 0, 0, 0, 0, [])),
  (252, (.iconst 4, 253, 0, 0, 0, 0, 0, [])),
  (253, (.iadd, 254, 0, 0, 0, 0, 0, [])),
  (254, (.iaload, 255, 0, 0, 0, 0, 0, [])),
  (255, (.aload_n 0, 256, 0, 0, 0, 0, 0, [])),
  (256, (.iload_n 3, 257, 3, 0, 0, 0, 0, [])),
  (257, (.iconst 5, 258, 0, 0, 0, 0, 0, [])),
  (258, (.iadd, 259, 0, 0, 0, 0, 0, [])),
  (259, (.iaload, 260, 0, 0, 0, 0, 0, [])),
  (260, (.invokevirtual 31, 263, 137, 6, 952, 0, 11, [0])),
  (263, (.if_icmp .eq 714, 266, 977, 0, 0, 0, 0, [])),
  (266, (.iconst 0, 267, 0, 0, 0, 0, 0, [])),
  (267, (.ireturn, 268, 0, 0, 0, 1, 0, [])),
  (268, (.aload_n 1, 269, 1, 0, 0, 0, 0, [])),
  (269, (.aload_n 0, 270, 0, 0, 0, 0, 0, [])),
  (270, (.iload_n 3, 271, 3, 0, 0, 0, 0, [])),
  (271, (.iconst 1, 272, 0, 0, 0, 0, 0, [])),
  (272, (.iadd, 273, 0, 0, 0, 0, 0, [])),
  (273, (.iaload, 274, 0, 0, 0, 0, 0, [])),
  (274, (.aload_n 0, 275, 0, 0, 0, 0, 0, [])),
  (275, (.iload_n 3, 276, 3, 0, 0, 0, 0, [])),
  (276, (.iconst 2, 277, 0, 0, 0, 0, 0, [])),
  (277, (.iadd, 278, 0, 0, 0, 0, 0, [])),
  (278, (.iaload, 279, 0, 0, 0, 0, 0, [])),
  (279, (.aload_n 0, 280, 0, 0, 0, 0, 0, [])),
  (280, (.iload_n 3, 281, 3, 0, 0, 0, 0, [])),
  (281, (.iconst 3, 282, 0, 0, 0, 0, 0, [])),
  (282, (.iadd, 283, 0, 0, 0, 0, 0, [])),
  (283, (.iaload, 284, 0, 0, 0, 0, 0, [])),
  (284, (.aload_n 0, 285, 0, 0, 0, 0, 0, [])),
  (285, (.iload_n 3, 286, 3, 0, 0, 0, 0, [])),
  (286, (.iconst 4, 287, 0, 0, 0, 0, 0, [])),
  (287, (.iadd, 288, 0, 0, 0, 0, 0, [])),
  (288, (.iaload, 289, 0, 0, 0, 0, 0, [])),
  (289, (.aload_n 0, 290, 0, 0, 0, 0, 0, [])),
  (290, (.iload_n 3, 291, 3, 0, 0, 0, 0, [])),
  (291, (.iconst 5, 292, 0, 0, 0, 0, 0, [])),
  (292, (.iadd, 293, 0, 0, 0, 0, 0, [])),
  (293, (.iaload, 294, 0, 0, 0, 0, 0, [])),
  (294, (.invokevirtual 32, 297, 95, 6, 583, 0, 10, [0])),
  (297, (.aload_n 2, 298, 2, 0, 0, 0, 0, [])),
  (298, (.aload_n 0, 299, 0, 0, 0, 0, 0, [])),
  (299, (.iload_n 3, 300, 3, 0, 0, 0, 0, []))]
def rn_t215_2 : List (Nat × rn_E) := [(300, (.iconst 1, 301, 0, 0, 0, 0, 0, [])),
  (301, (.iadd, 302, 0, 0, 0, 0, 0, [])),
  (302, (.iaload, 303, 0, 0, 0, 0, 0, [])),
  (303, (.aload_n 0, 304, 0, 0, 0, 0, 0, [])),
  (304, (.iload_n 3, 305, 3, 0, 0, 0, 0, [])),
  (305, (.iconst 2, 306, 0, 0, 0, 0, 0, [])),
  (306, (.iadd, 307, 0, 0, 0, 0, 0, [])),
  (307, (.iaload, 308, 0, 0, 0, 0, 0, [])),
  (308, (.aload_n 0, 309, 0, 0, 0, 0, 0, [])),
  (309, (.iload_n 3, 310, 3, 0, 0, 0, 0, [])),
  (310, (.iconst 3, 311, 0, 0, 0, 0, 0, [])),
  (311, (.iadd, 312, 0, 0, 0, 0, 0, [])),
  (312, (.iaload, 313, 0, 0, 0, 0, 0, [])),
  (313, (.aload_n 0, 314, 0, 0, 0, 0, 0, [])),
  (314, (.iload_n 3, 315, 3, 0, 0, 0, 0, [])),
  (315, (.iconst 4, 316, 0, 0, 0, 0, 0, [])),
  (316, (.iadd, 317, 0, 0, 0, 0, 0, [])),
  (317, (.iaload, 318, 0, 0, 0, 0, 0, [])),
  (318, (.aload_n 0, 319, 0, 0, 0, 0, 0, [])),
  (319, (.iload_n 3, 320, 3, 0, 0, 0, 0, [])),
  (320, (.iconst 5, 321, 0, 0, 0, 0, 0, [])),
  (321, (.iadd, 322, 0, 0, 0, 0, 0, [])),
  (322, (.iaload, 323, 0, 0, 0, 0, 0, [])),
  (323, (.invokevirtual 35, 326, 140, 6, 979, 0, 11, [0])),
  (326, (.if_icmp .eq 651, 329, 977, 0, 0, 0, 0, [])),
  (329, (.iconst 0, 330, 0, 0, 0, 0, 0, [])),
  (330, (.ireturn, 331, 0, 0, 0, 1, 0, [])),
  (331, (.aload_n 1, 332, 1, 0, 0, 0, 0, [])),
  (332, (.aload_n 0, 333, 0, 0, 0, 0, 0, [])),
  (333, (.iload_n 3, 334, 3, 0, 0, 0, 0, [])),
  (334, (.iconst 1, 335, 0, 0, 0, 0, 0, [])),
  (335, (.iadd, 336, 0, 0, 0, 0, 0, [])),
  (336, (.iaload, 337, 0, 0, 0, 0, 0, [])),
  (337, (.aload_n 0, 338, 0, 0, 0, 0, 0, [])),
  (338, (.iload_n 3, 339, 3, 0, 0, 0, 0, [])),
  (339, (.iconst 2, 340, 0, 0, 0, 0, 0, [])),
  (340, (.iadd, 341, 0, 0, 0, 0, 0, [])),
  (341, (.iaload, 342, 0, 0, 0, 0, 0, [])),
  (342, (.invokevirtual 36, 345, 96, 3, 589, 0, 10, [0])),
  (345, (.aload_n 2, 346, 2, 0, 0, 0, 0, [])),
  (346, (.aload_n 0, 347, 0, 0, 0, 0, 0, [])),
  (347, (.iload_n 3, 348, 3, 0, 0, 0, 0, [])),
  (348, (.iconst 1, 349, 0, 0, 0, 0, 0, [])),
  (349, (.iadd, 350, 0, 0, 0, 0, 0, [])),
  (350, (.iaload, 351, 0, 0, 0, 0, 0, [])),
  (351, (.aload_n 0, 352, 0, 0, 0, 0, 0, [])),
  (352, (.iload_n 3, 353, 3, 0, 0, 0, 0, [])),
  (353, (.iconst 2, 354, 0, 0, 0, 0, 0, [])),
  (354, (.iadd, 355, 0, 0, 0, 0, 0, [])),
  (355, (.iaload, 356, 0, 0, 0, 0, 0, [])),
  (356, (.invokevirtual 40, 359, 142, 3, 990, 0, 11, [0])),
  (359, (.if_icmp .eq 618, 362, 977, 0, 0, 0, 0, [])),
  (362, (.iconst 0, 363, 0, 0, 0, 0, 0, [])),
  (363, (.ireturn, 364, 0, 0, 0, 1, 0, [])),
  (364, (.aload_n 1, 365, 1, 0, 0, 0, 0, [])),
  (365, (.aload_n 0, 366, 0, 0, 0, 0, 0, [])),
  (366, (.iload_n 3, 367, 3, 0, 0, 0, 0, [])),
  (367, (.iconst 1, 368, 0, 0, 0, 0, 0, [])),
  (368, (.iadd, 369, 0, 0, 0, 0, 0, [])),
  (369, (.iaload, 370, 0, 0, 0, 0, 0, [])),
  (370, (.aload_n 0, 371, 0, 0, 0, 0, 0, [])),
  (371, (.iload_n 3, 372, 3, 0, 0, 0, 0, [])),
  (372, (.iconst 2, 373, 0, 0, 0, 0, 0, [])),
  (373, (.iadd, 374, 0, 0, 0, 0, 0, [])),
  (374, (.iaload, 375, 0, 0, 0, 0, 0, [])),
  (375, (.invokevirtual 41, 378, 97, 3, 596, 0, 10, [0])),
  (378, (.aload_n 2, 379, 2, 0, 0, 0, 0, [])),
  (379, (.aload_n 0, 380, 0, 0, 0, 0, 0, [])),
  (380, (.iload_n 3, 381, 3, 0, 0, 0, 0, [])),
  (381, (.iconst 1, 382, 0, 0, 0, 0, 0, []))]
def rn_t215_3 : List (Nat × rn_E) := [(382, (.iadd, 383, 0, 0, 0, 0, 0, [])),
  (383, (.iaload, 384, 0, 0, 0, 0, 0, [])),
  (384, (.aload_n 0, 385, 0, 0, 0, 0, 0, [])),
  (385, (.iload_n 3, 386, 3, 0, 0, 0, 0, [])),
  (386, (.iconst 2, 387, 0, 0, 0, 0, 0, [])),
  (387, (.iadd, 388, 0, 0, 0, 0, 0, [])),
  (388, (.iaload, 389, 0, 0, 0, 0, 0, [])),
  (389, (.invokevirtual 44, 392, 144, 3, 1016, 0, 11, [0])),
  (392, (.if_icmp .eq 585, 395, 977, 0, 0, 0, 0, [])),
  (395, (.iconst 0, 396, 0, 0, 0, 0, 0, [])),
  (396, (.ireturn, 397, 0, 0, 0, 1, 0, [])),
  (397, (.aload_n 1, 398, 1, 0, 0, 0, 0, [])),
  (398, (.aload_n 0, 399, 0, 0, 0, 0, 0, [])),
  (399, (.iload_n 3, 400, 3, 0, 0, 0, 0, [])),
  (400, (.iconst 1, 401, 0, 0, 0, 0, 0, [])),
  (401, (.iadd, 402, 0, 0, 0, 0, 0, [])),
  (402, (.iaload, 403, 0, 0, 0, 0, 0, [])),
  (403, (.aload_n 0, 404, 0, 0, 0, 0, 0, [])),
  (404, (.iload_n 3, 405, 3, 0, 0, 0, 0, [])),
  (405, (.iconst 2, 406, 0, 0, 0, 0, 0, [])),
  (406, (.iadd, 407, 0, 0, 0, 0, 0, [])),
  (407, (.iaload, 408, 0, 0, 0, 0, 0, [])),
  (408, (.invokevirtual 45, 411, 98, 3, 600, 0, 10, [0])),
  (411, (.aload_n 2, 412, 2, 0, 0, 0, 0, [])),
  (412, (.aload_n 0, 413, 0, 0, 0, 0, 0, [])),
  (413, (.iload_n 3, 414, 3, 0, 0, 0, 0, [])),
  (414, (.iconst 1, 415, 0, 0, 0, 0, 0, [])),
  (415, (.iadd, 416, 0, 0, 0, 0, 0, [])),
  (416, (.iaload, 417, 0, 0, 0, 0, 0, [])),
  (417, (.aload_n 0, 418, 0, 0, 0, 0, 0, [])),
  (418, (.iload_n 3, 419, 3, 0, 0, 0, 0, [])),
  (419, (.iconst 2, 420, 0, 0, 0, 0, 0, [])),
  (420, (.iadd, 421, 0, 0, 0, 0, 0, [])),
  (421, (.iaload, 422, 0, 0, 0, 0, 0, [])),
  (422, (.invokevirtual 48, 425, 145, 3, 1024, 0, 11, [0])),
  (425, (.if_icmp .eq 552, 428, 977, 0, 0, 0, 0, [])),
  (428, (.iconst 0, 429, 0, 0, 0, 0, 0, [])),
  (429, (.ireturn, 430, 0, 0, 0, 1, 0, [])),
  (430, (.aload_n 1, 431, 1, 0, 0, 0, 0, [])),
  (431, (.aload_n 0, 432, 0, 0, 0, 0, 0, [])),
  (432, (.iload_n 3, 433, 3, 0, 0, 0, 0, [])),
  (433, (.iconst 1, 434, 0, 0, 0, 0, 0, [])),
  (434, (.iadd, 435, 0, 0, 0, 0, 0, [])),
  (435, (.iaload, 436, 0, 0, 0, 0, 0, [])),
  (436, (.aload_n 0, 437, 0, 0, 0, 0, 0, [])),
  (437, (.iload_n 3, 438, 3, 0, 0, 0, 0, [])),
  (438, (.iconst 2, 439, 0, 0, 0, 0, 0, [])),
  (439, (.iadd, 440, 0, 0, 0, 0, 0, [])),
  (440, (.iaload, 441, 0, 0, 0, 0, 0, [])),
  (441, (.invokevirtual 49, 444, 99, 3, 604, 0, 10, [0])),
  (444, (.aload_n 2, 445, 2, 0, 0, 0, 0, [])),
  (445, (.aload_n 0, 446, 0, 0, 0, 0, 0, [])),
  (446, (.iload_n 3, 447, 3, 0, 0, 0, 0, [])),
  (447, (.iconst 1, 448, 0, 0, 0, 0, 0, [])),
  (448, (.iadd, 449, 0, 0, 0, 0, 0, [])),
  (449, (.iaload, 450, 0, 0, 0, 0, 0, [])),
  (450, (.aload_n 0, 451, 0, 0, 0, 0, 0, [])),
  (451, (.iload_n 3, 452, 3, 0, 0, 0, 0, [])),
  (452, (.iconst 2, 453, 0, 0, 0, 0, 0, [])),
  (453, (.iadd, 454, 0, 0, 0, 0, 0, [])),
  (454, (.iaload, 455, 0, 0, 0, 0, 0, [])),
  (455, (.invokevirtual 52, 458, 147, 3, 1028, 0, 11, [0])),
  (458, (.if_icmp .eq 519, 461, 977, 0, 0, 0, 0, [])),
  (461, (.iconst 0, 462, 0, 0, 0, 0, 0, [])),
  (462, (.ireturn, 463, 0, 0, 0, 1, 0, [])),
  (463, (.aload_n 1, 464, 1, 0, 0, 0, 0, [])),
  (464, (.aload_n 0, 465, 0, 0, 0, 0, 0, [])),
  (465, (.iload_n 3, 466, 3, 0, 0, 0, 0, [])),
  (466, (.iconst 1, 467, 0, 0, 0, 0, 0, [])),
  (467, (.iadd, 468, 0, 0, 0, 0, 0, []))]
def rn_t215_4 : List (Nat × rn_E) := [(468, (.iaload, 469, 0, 0, 0, 0, 0, [])),
  (469, (.invokevirtual 53, 472, 100, 2, 609, 0, 10, [0])),
  (472, (.aload_n 2, 473, 2, 0, 0, 0, 0, [])),
  (473, (.aload_n 0, 474, 0, 0, 0, 0, 0, [])),
  (474, (.iload_n 3, 475, 3, 0, 0, 0, 0, [])),
  (475, (.iconst 1, 476, 0, 0, 0, 0, 0, [])),
  (476, (.iadd, 477, 0, 0, 0, 0, 0, [])),
  (477, (.iaload, 478, 0, 0, 0, 0, 0, [])),
  (478, (.invokevirtual 56, 481, 148, 2, 1036, 0, 11, [0])),
  (481, (.if_icmp .eq 496, 484, 977, 0, 0, 0, 0, [])),
  (484, (.iconst 0, 485, 0, 0, 0, 0, 0, [])),
  (485, (.ireturn, 486, 0, 0, 0, 1, 0, [])),
  (486, (.aload_n 1, 487, 1, 0, 0, 0, 0, [])),
  (487, (.aload_n 0, 488, 0, 0, 0, 0, 0, [])),
  (488, (.iload_n 3, 489, 3, 0, 0, 0, 0, [])),
  (489, (.iconst 1, 490, 0, 0, 0, 0, 0, [])),
  (490, (.iadd, 491, 0, 0, 0, 0, 0, [])),
  (491, (.iaload, 492, 0, 0, 0, 0, 0, [])),
  (492, (.aload_n 0, 493, 0, 0, 0, 0, 0, [])),
  (493, (.iload_n 3, 494, 3, 0, 0, 0, 0, [])),
  (494, (.iconst 2, 495, 0, 0, 0, 0, 0, [])),
  (495, (.iadd, 496, 0, 0, 0, 0, 0, [])),
  (496, (.iaload, 497, 0, 0, 0, 0, 0, [])),
  (497, (.invokevirtual 57, 500, 101, 3, 613, 0, 10, [0])),
  (500, (.aload_n 2, 501, 2, 0, 0, 0, 0, [])),
  (501, (.aload_n 0, 502, 0, 0, 0, 0, 0, [])),
  (502, (.iload_n 3, 503, 3, 0, 0, 0, 0, [])),
  (503, (.iconst 1, 504, 0, 0, 0, 0, 0, [])),
  (504, (.iadd, 505, 0, 0, 0, 0, 0, [])),
  (505, (.iaload, 506, 0, 0, 0, 0, 0, [])),
  (506, (.aload_n 0, 507, 0, 0, 0, 0, 0, [])),
  (507, (.iload_n 3, 508, 3, 0, 0, 0, 0, [])),
  (508, (.iconst 2, 509, 0, 0, 0, 0, 0, [])),
  (509, (.iadd, 510, 0, 0, 0, 0, 0, [])),
  (510, (.iaload, 511, 0, 0, 0, 0, 0, [])),
  (511, (.invokevirtual 60, 514, 164, 3, 1040, 0, 11, [0])),
  (514, (.if_icmp .eq 463, 517, 977, 0, 0, 0, 0, [])),
  (517, (.iconst 0, 518, 0, 0, 0, 0, 0, [])),
  (518, (.ireturn, 519, 0, 0, 0, 1, 0, [])),
  (519, (.aload_n 1, 520, 1, 0, 0, 0, 0, [])),
  (520, (.aload_n 0, 521, 0, 0, 0, 0, 0, [])),
  (521, (.iload_n 3, 522, 3, 0, 0, 0, 0, [])),
  (522, (.iconst 1, 523, 0, 0, 0, 0, 0, [])),
  (523, (.iadd, 524, 0, 0, 0, 0, 0, [])),
  (524, (.iaload, 525, 0, 0, 0, 0, 0, [])),
  (525, (.invokevirtual 61, 528, 102, 2, 665, 0, 10, [0])),
  (528, (.aload_n 2, 529, 2, 0, 0, 0, 0, [])),
  (529, (.aload_n 0, 530, 0, 0, 0, 0, 0, [])),
  (530, (.iload_n 3, 531, 3, 0, 0, 0, 0, [])),
  (531, (.iconst 1, 532, 0, 0, 0, 0, 0, [])),
  (532, (.iadd, 533, 0, 0, 0, 0, 0, [])),
  (533, (.iaload, 534, 0, 0, 0, 0, 0, [])),
  (534, (.invokevirtual 64, 537, 166, 2, 1075, 0, 11, [0])),
  (537, (.if_icmp .eq 440, 540, 977, 0, 0, 0, 0, [])),
  (540, (.iconst 0, 541, 0, 0, 0, 0, 0, [])),
  (541, (.ireturn, 542, 0, 0, 0, 1, 0, [])),
  (542, (.aload_n 1, 543, 1, 0, 0, 0, 0, [])),
  (543, (.aload_n 0, 544, 0, 0, 0, 0, 0, [])),
  (544, (.iload_n 3, 545, 3, 0, 0, 0, 0, [])),
  (545, (.iconst 1, 546, 0, 0, 0, 0, 0, [])),
  (546, (.iadd, 547, 0, 0, 0, 0, 0, [])),
  (547, (.iaload, 548, 0, 0, 0, 0, 0, [])),
  (548, (.invokevirtual 65, 551, 103, 2, 673, 0, 10, [0])),
  (551, (.aload_n 2, 552, 2, 0, 0, 0, 0, [])),
  (552, (.aload_n 0, 553, 0, 0, 0, 0, 0, [])),
  (553, (.iload_n 3, 554, 3, 0, 0, 0, 0, [])),
  (554, (.iconst 1, 555, 0, 0, 0, 0, 0, [])),
  (555, (.iadd, 556, 0, 0, 0, 0, 0, [])),
  (556, (.iaload, 557, 0, 0, 0, 0, 0, [])),
  (557, (.invokevirtual 68, 560, 167, 2, 1087, 0, 11, [0]))]
def rn_t215_5 : List (Nat × rn_E) := [(560, (.if_icmp .eq 417, 563, 977, 0, 0, 0, 0, [])),
  (563, (.iconst 0, 564, 0, 0, 0, 0, 0, [])),
  (564, (.ireturn, 565, 0, 0, 0, 1, 0, [])),
  (565, (.aload_n 1, 566, 1, 0, 0, 0, 0, [])),
  (566, (.invokevirtual 69, 569, 104, 1, 713, 0, 10, [0])),
  (569, (.aload_n 2, 570, 2, 0, 0, 0, 0, [])),
  (570, (.invokevirtual 72, 573, 168, 1, 1106, 0, 11, [0])),
  (573, (.if_icmp .eq 404, 576, 977, 0, 0, 0, 0, [])),
  (576, (.iconst 0, 577, 0, 0, 0, 0, 0, [])),
  (577, (.ireturn, 578, 0, 0, 0, 1, 0, [])),
  (578, (.aload_n 1, 579, 1, 0, 0, 0, 0, [])),
  (579, (.invokevirtual 73, 582, 105, 1, 727, 0, 10, [0])),
  (582, (.aload_n 2, 583, 2, 0, 0, 0, 0, [])),
  (583, (.invokevirtual 76, 586, 126, 1, 948, 0, 11, [0])),
  (586, (.if_icmp .eq 391, 589, 977, 0, 0, 0, 0, [])),
  (589, (.iconst 0, 590, 0, 0, 0, 0, 0, [])),
  (590, (.ireturn, 591, 0, 0, 0, 1, 0, [])),
  (591, (.aload_n 1, 592, 1, 0, 0, 0, 0, [])),
  (592, (.aload_n 0, 593, 0, 0, 0, 0, 0, [])),
  (593, (.iload_n 3, 594, 3, 0, 0, 0, 0, [])),
  (594, (.iconst 1, 595, 0, 0, 0, 0, 0, [])),
  (595, (.iadd, 596, 0, 0, 0, 0, 0, [])),
  (596, (.iaload, 597, 0, 0, 0, 0, 0, [])),
  (597, (.invokevirtual 77, 600, 106, 2, 735, 0, 10, [0])),
  (600, (.aload_n 2, 601, 2, 0, 0, 0, 0, [])),
  (601, (.aload_n 0, 602, 0, 0, 0, 0, 0, [])),
  (602, (.iload_n 3, 603, 3, 0, 0, 0, 0, [])),
  (603, (.iconst 1, 604, 0, 0, 0, 0, 0, [])),
  (604, (.iadd, 605, 0, 0, 0, 0, 0, [])),
  (605, (.iaload, 606, 0, 0, 0, 0, 0, [])),
  (606, (.invokevirtual 80, 609, 174, 2, 1114, 0, 11, [0])),
  (609, (.if_icmp .eq 368, 612, 977, 0, 0, 0, 0, [])),
  (612, (.iconst 0, 613, 0, 0, 0, 0, 0, [])),
  (613, (.ireturn, 614, 0, 0, 0, 1, 0, [])),
  (614, (.aload_n 1, 615, 1, 0, 0, 0, 0, [])),
  (615, (.aload_n 0, 616, 0, 0, 0, 0, 0, [])),
  (616, (.iload_n 3, 617, 3, 0, 0, 0, 0, [])),
  (617, (.iconst 1, 618, 0, 0, 0, 0, 0, [])),
  (618, (.iadd, 619, 0, 0, 0, 0, 0, [])),
  (619, (.iaload, 620, 0, 0, 0, 0, 0, [])),
  (620, (.aload_n 0, 621, 0, 0, 0, 0, 0, [])),
  (621, (.iload_n 3, 622, 3, 0, 0, 0, 0, [])),
  (622, (.iconst 2, 623, 0, 0, 0, 0, 0, [])),
  (623, (.iadd, 624, 0, 0, 0, 0, 0, [])),
  (624, (.iaload, 625, 0, 0, 0, 0, 0, [])),
  (625, (.invokevirtual 81, 628, 107, 3, 786, 0, 10, [0])),
  (628, (.aload_n 2, 629, 2, 0, 0, 0, 0, [])),
  (629, (.aload_n 0, 630, 0, 0, 0, 0, 0, [])),
  (630, (.iload_n 3, 631, 3, 0, 0, 0, 0, [])),
  (631, (.iconst 1, 632, 0, 0, 0, 0, 0, [])),
  (632, (.iadd, 633, 0, 0, 0, 0, 0, [])),
  (633, (.iaload, 634, 0, 0, 0, 0, 0, [])),
  (634, (.aload_n 0, 635, 0, 0, 0, 0, 0, [])),
  (635, (.iload_n 3, 636, 3, 0, 0, 0, 0, [])),
  (636, (.iconst 2, 637, 0, 0, 0, 0, 0, [])),
  (637, (.iadd, 638, 0, 0, 0, 0, 0, [])),
  (638, (.iaload, 639, 0, 0, 0, 0, 0, [])),
  (639, (.invokevirtual 84, 642, 176, 3, 1138, 0, 11, [0])),
  (642, (.if_icmp .eq 335, 645, 977, 0, 0, 0, 0, [])),
  (645, (.iconst 0, 646, 0, 0, 0, 0, 0, [])),
  (646, (.ireturn, 647, 0, 0, 0, 1, 0, [])),
  (647, (.aload_n 1, 648, 1, 0, 0, 0, 0, [])),
  (648, (.aload_n 0, 649, 0, 0, 0, 0, 0, [])),
  (649, (.iload_n 3, 650, 3, 0, 0, 0, 0, [])),
  (650, (.iconst 1, 651, 0, 0, 0, 0, 0, [])),
  (651, (.iadd, 652, 0, 0, 0, 0, 0, [])),
  (652, (.iaload, 653, 0, 0, 0, 0, 0, [])),
  (653, (.aload_n 0, 654, 0, 0, 0, 0, 0, [])),
  (654, (.iload_n 3, 655, 3, 0, 0, 0, 0, [])),
  (655, (.iconst 2, 656, 0, 0, 0, 0, 0, []))]
def rn_t215_6 : List (Nat × rn_E) := [(656, (.iadd, 657, 0, 0, 0, 0, 0, [])),
  (657, (.iaload, 658, 0, 0, 0, 0, 0, [])),
  (658, (.invokevirtual 85, 661, 108, 3, 798, 0, 10, [0])),
  (661, (.aload_n 2, 662, 2, 0, 0, 0, 0, [])),
  (662, (.aload_n 0, 663, 0, 0, 0, 0, 0, [])),
  (663, (.iload_n 3, 664, 3, 0, 0, 0, 0, [])),
  (664, (.iconst 1, 665, 0, 0, 0, 0, 0, [])),
  (665, (.iadd, 666, 0, 0, 0, 0, 0, [])),
  (666, (.iaload, 667, 0, 0, 0, 0, 0, [])),
  (667, (.aload_n 0, 668, 0, 0, 0, 0, 0, [])),
  (668, (.iload_n 3, 669, 3, 0, 0, 0, 0, [])),
  (669, (.iconst 2, 670, 0, 0, 0, 0, 0, [])),
  (670, (.iadd, 671, 0, 0, 0, 0, 0, [])),
  (671, (.iaload, 672, 0, 0, 0, 0, 0, [])),
  (672, (.invokevirtual 88, 675, 177, 3, 1146, 0, 11, [0])),
  (675, (.if_icmp .eq 302, 678, 977, 0, 0, 0, 0, [])),
  (678, (.iconst 0, 679, 0, 0, 0, 0, 0, [])),
  (679, (.ireturn, 680, 0, 0, 0, 1, 0, [])),
  (680, (.aload_n 1, 681, 1, 0, 0, 0, 0, [])),
  (681, (.aload_n 0, 682, 0, 0, 0, 0, 0, [])),
  (682, (.iload_n 3, 683, 3, 0, 0, 0, 0, [])),
  (683, (.iconst 1, 684, 0, 0, 0, 0, 0, [])),
  (684, (.iadd, 685, 0, 0, 0, 0, 0, [])),
  (685, (.iaload, 686, 0, 0, 0, 0, 0, [])),
  (686, (.aload_n 0, 687, 0, 0, 0, 0, 0, [])),
  (687, (.iload_n 3, 688, 3, 0, 0, 0, 0, [])),
  (688, (.iconst 2, 689, 0, 0, 0, 0, 0, [])),
  (689, (.iadd, 690, 0, 0, 0, 0, 0, [])),
  (690, (.iaload, 691, 0, 0, 0, 0, 0, [])),
  (691, (.invokevirtual 89, 694, 109, 3, 805, 0, 10, [0])),
  (694, (.aload_n 2, 695, 2, 0, 0, 0, 0, [])),
  (695, (.aload_n 0, 696, 0, 0, 0, 0, 0, [])),
  (696, (.iload_n 3, 697, 3, 0, 0, 0, 0, [])),
  (697, (.iconst 1, 698, 0, 0, 0, 0, 0, [])),
  (698, (.iadd, 699, 0, 0, 0, 0, 0, [])),
  (699, (.iaload, 700, 0, 0, 0, 0, 0, [])),
  (700, (.aload_n 0, 701, 0, 0, 0, 0, 0, [])),
  (701, (.iload_n 3, 702, 3, 0, 0, 0, 0, [])),
  (702, (.iconst 2, 703, 0, 0, 0, 0, 0, [])),
  (703, (.iadd, 704, 0, 0, 0, 0, 0, [])),
  (704, (.iaload, 705, 0, 0, 0, 0, 0, [])),
  (705, (.invokevirtual 92, 708, 178, 3, 1150, 0, 11, [0])),
  (708, (.if_icmp .eq 269, 711, 977, 0, 0, 0, 0, [])),
  (711, (.iconst 0, 712, 0, 0, 0, 0, 0, [])),
  (712, (.ireturn, 713, 0, 0, 0, 1, 0, [])),
  (713, (.aload_n 1, 714, 1, 0, 0, 0, 0, [])),
  (714, (.aload_n 0, 715, 0, 0, 0, 0, 0, [])),
  (715, (.iload_n 3, 716, 3, 0, 0, 0, 0, [])),
  (716, (.iconst 1, 717, 0, 0, 0, 0, 0, [])),
  (717, (.iadd, 718, 0, 0, 0, 0, 0, [])),
  (718, (.iaload, 719, 0, 0, 0, 0, 0, [])),
  (719, (.aload_n 0, 720, 0, 0, 0, 0, 0, [])),
  (720, (.iload_n 3, 721, 3, 0, 0, 0, 0, [])),
  (721, (.iconst 2, 722, 0, 0, 0, 0, 0, [])),
  (722, (.iadd, 723, 0, 0, 0, 0, 0, [])),
  (723, (.iaload, 724, 0, 0, 0, 0, 0, [])),
  (724, (.invokevirtual 93, 727, 110, 3, 813, 0, 10, [0])),
  (727, (.aload_n 2, 728, 2, 0, 0, 0, 0, [])),
  (728, (.aload_n 0, 729, 0, 0, 0, 0, 0, [])),
  (729, (.iload_n 3, 730, 3, 0, 0, 0, 0, [])),
  (730, (.iconst 1, 731, 0, 0, 0, 0, 0, [])),
  (731, (.iadd, 732, 0, 0, 0, 0, 0, [])),
  (732, (.iaload, 733, 0, 0, 0, 0, 0, [])),
  (733, (.aload_n 0, 734, 0, 0, 0, 0, 0, [])),
  (734, (.iload_n 3, 735, 3, 0, 0, 0, 0, [])),
  (735, (.iconst 2, 736, 0, 0, 0, 0, 0, [])),
  (736, (.iadd, 737, 0, 0, 0, 0, 0, [])),
  (737, (.iaload, 738, 0, 0, 0, 0, 0, [])),
  (738, (.invokevirtual 96, 741, 179, 3, 1154, 0, 11, [0])),
  (741, (.if_icmp .eq 236, 744, 977, 0, 0, 0, 0, []))]
def rn_t215_7 : List (Nat × rn_E) := [(744, (.iconst 0, 745, 0, 0, 0, 0, 0, [])),
  (745, (.ireturn, 746, 0, 0, 0, 1, 0, [])),
  (746, (.aload_n 1, 747, 1, 0, 0, 0, 0, [])),
  (747, (.aload_n 0, 748, 0, 0, 0, 0, 0, [])),
  (748, (.iload_n 3, 749, 3, 0, 0, 0, 0, [])),
  (749, (.iconst 1, 750, 0, 0, 0, 0, 0, [])),
  (750, (.iadd, 751, 0, 0, 0, 0, 0, [])),
  (751, (.iaload, 752, 0, 0, 0, 0, 0, [])),
  (752, (.aload_n 0, 753, 0, 0, 0, 0, 0, [])),
  (753, (.iload_n 3, 754, 3, 0, 0, 0, 0, [])),
  (754, (.iconst 2, 755, 0, 0, 0, 0, 0, [])),
  (755, (.iadd, 756, 0, 0, 0, 0, 0, [])),
  (756, (.iaload, 757, 0, 0, 0, 0, 0, [])),
  (757, (.invokevirtual 97, 760, 111, 3, 826, 0, 10, [0])),
  (760, (.aload_n 2, 761, 2, 0, 0, 0, 0, [])),
  (761, (.aload_n 0, 762, 0, 0, 0, 0, 0, [])),
  (762, (.iload_n 3, 763, 3, 0, 0, 0, 0, [])),
  (763, (.iconst 1, 764, 0, 0, 0, 0, 0, [])),
  (764, (.iadd, 765, 0, 0, 0, 0, 0, [])),
  (765, (.iaload, 766, 0, 0, 0, 0, 0, [])),
  (766, (.aload_n 0, 767, 0, 0, 0, 0, 0, [])),
  (767, (.iload_n 3, 768, 3, 0, 0, 0, 0, [])),
  (768, (.iconst 2, 769, 0, 0, 0, 0, 0, [])),
  (769, (.iadd, 770, 0, 0, 0, 0, 0, [])),
  (770, (.iaload, 771, 0, 0, 0, 0, 0, [])),
  (771, (.invokevirtual 100, 774, 181, 3, 1158, 0, 11, [0])),
  (774, (.if_icmp .eq 203, 777, 977, 0, 0, 0, 0, [])),
  (777, (.iconst 0, 778, 0, 0, 0, 0, 0, [])),
  (778, (.ireturn, 779, 0, 0, 0, 1, 0, [])),
  (779, (.aload_n 1, 780, 1, 0, 0, 0, 0, [])),
  (780, (.aload_n 0, 781, 0, 0, 0, 0, 0, [])),
  (781, (.iload_n 3, 782, 3, 0, 0, 0, 0, [])),
  (782, (.iconst 1, 783, 0, 0, 0, 0, 0, [])),
  (783, (.iadd, 784, 0, 0, 0, 0, 0, [])),
  (784, (.iaload, 785, 0, 0, 0, 0, 0, [])),
  (785, (.aload_n 0, 786, 0, 0, 0, 0, 0, [])),
  (786, (.iload_n 3, 787, 3, 0, 0, 0, 0, [])),
  (787, (.iconst 2, 788, 0, 0, 0, 0, 0, [])),
  (788, (.iadd, 789, 0, 0, 0, 0, 0, [])),
  (789, (.iaload, 790, 0, 0, 0, 0, 0, [])),
  (790, (.invokevirtual 101, 793, 112, 3, 846, 0, 10, [0])),
  (793, (.aload_n 2, 794, 2, 0, 0, 0, 0, [])),
  (794, (.aload_n 0, 795, 0, 0, 0, 0, 0, [])),
  (795, (.iload_n 3, 796, 3, 0, 0, 0, 0, [])),
  (796, (.iconst 1, 797, 0, 0, 0, 0, 0, [])),
  (797, (.iadd, 798, 0, 0, 0, 0, 0, [])),
  (798, (.iaload, 799, 0, 0, 0, 0, 0, [])),
  (799, (.aload_n 0, 800, 0, 0, 0, 0, 0, [])),
  (800, (.iload_n 3, 801, 3, 0, 0, 0, 0, [])),
  (801, (.iconst 2, 802, 0, 0, 0, 0, 0, [])),
  (802, (.iadd, 803, 0, 0, 0, 0, 0, [])),
  (803, (.iaload, 804, 0, 0, 0, 0, 0, [])),
  (804, (.invokevirtual 104, 807, 183, 3, 1170, 0, 11, [0])),
  (807, (.if_icmp .eq 170, 810, 977, 0, 0, 0, 0, [])),
  (810, (.iconst 0, 811, 0, 0, 0, 0, 0, [])),
  (811, (.ireturn, 812, 0, 0, 0, 1, 0, [])),
  (812, (.aload_n 1, 813, 1, 0, 0, 0, 0, [])),
  (813, (.aload_n 0, 814, 0, 0, 0, 0, 0, [])),
  (814, (.iload_n 3, 815, 3, 0, 0, 0, 0, [])),
  (815, (.iconst 1, 816, 0, 0, 0, 0, 0, [])),
  (816, (.iadd, 817, 0, 0, 0, 0, 0, [])),
  (817, (.iaload, 818, 0, 0, 0, 0, 0, [])),
  (818, (.aload_n 0, 819, 0, 0, 0, 0, 0, [])),
  (819, (.iload_n 3, 820, 3, 0, 0, 0, 0, [])),
  (820, (.iconst 2, 821, 0, 0, 0, 0, 0, [])),
  (821, (.iadd, 822, 0, 0, 0, 0, 0, [])),
  (822, (.iaload, 823, 0, 0, 0, 0, 0, [])),
  (823, (.aload_n 0, 824, 0, 0, 0, 0, 0, [])),
  (824, (.iload_n 3, 825, 3, 0, 0, 0, 0, [])),
  (825, (.iconst 3, 826, 0, 0, 0, 0, 0, []))]
def rn_t215_8 : List (Nat × rn_E) := [(826, (.iadd, 827, 0, 0, 0, 0, 0, [])),
  (827, (.iaload, 828, 0, 0, 0, 0, 0, [])),
  (828, (.invokevirtual 105, 831, 113, 4, 860, 0, 10, [0])),
  (831, (.aload_n 2, 832, 2, 0, 0, 0, 0, [])),
  (832, (.aload_n 0, 833, 0, 0, 0, 0, 0, [])),
  (833, (.iload_n 3, 834, 3, 0, 0, 0, 0, [])),
  (834, (.iconst 1, 835, 0, 0, 0, 0, 0, [])),
  (835, (.iadd, 836, 0, 0, 0, 0, 0, [])),
  (836, (.iaload, 837, 0, 0, 0, 0, 0, [])),
  (837, (.aload_n 0, 838, 0, 0, 0, 0, 0, [])),
  (838, (.iload_n 3, 839, 3, 0, 0, 0, 0, [])),
  (839, (.iconst 2, 840, 0, 0, 0, 0, 0, [])),
  (840, (.iadd, 841, 0, 0, 0, 0, 0, [])),
  (841, (.iaload, 842, 0, 0, 0, 0, 0, [])),
  (842, (.aload_n 0, 843, 0, 0, 0, 0, 0, [])),
  (843, (.iload_n 3, 844, 3, 0, 0, 0, 0, [])),
  (844, (.iconst 3, 845, 0, 0, 0, 0, 0, [])),
  (845, (.iadd, 846, 0, 0, 0, 0, 0, [])),
  (846, (.iaload, 847, 0, 0, 0, 0, 0, [])),
  (847, (.invokevirtual 109, 850, 184, 4, 1178, 0, 11, [0])),
  (850, (.if_icmp .eq 127, 853, 977, 0, 0, 0, 0, [])),
  (853, (.iconst 0, 854, 0, 0, 0, 0, 0, [])),
  (854, (.ireturn, 855, 0, 0, 0, 1, 0, [])),
  (855, (.aload_n 1, 856, 1, 0, 0, 0, 0, [])),
  (856, (.aload_n 0, 857, 0, 0, 0, 0, 0, [])),
  (857, (.iload_n 3, 858, 3, 0, 0, 0, 0, [])),
  (858, (.iconst 1, 859, 0, 0, 0, 0, 0, [])),
  (859, (.iadd, 860, 0, 0, 0, 0, 0, [])),
  (860, (.iaload, 861, 0, 0, 0, 0, 0, [])),
  (861, (.aload_n 0, 862, 0, 0, 0, 0, 0, [])),
  (862, (.iload_n 3, 863, 3, 0, 0, 0, 0, [])),
  (863, (.iconst 2, 864, 0, 0, 0, 0, 0, [])),
  (864, (.iadd, 865, 0, 0, 0, 0, 0, [])),
  (865, (.iaload, 866, 0, 0, 0, 0, 0, [])),
  (866, (.invokevirtual 110, 869, 114, 3, 865, 0, 10, [0])),
  (869, (.aload_n 2, 870, 2, 0, 0, 0, 0, [])),
  (870, (.aload_n 0, 871, 0, 0, 0, 0, 0, [])),
  (871, (.iload_n 3, 872, 3, 0, 0, 0, 0, [])),
  (872, (.iconst 1, 873, 0, 0, 0, 0, 0, [])),
  (873, (.iadd, 874, 0, 0, 0, 0, 0, [])),
  (874, (.iaload, 875, 0, 0, 0, 0, 0, [])),
  (875, (.aload_n 0, 876, 0, 0, 0, 0, 0, [])),
  (876, (.iload_n 3, 877, 3, 0, 0, 0, 0, [])),
  (877, (.iconst 2, 878, 0, 0, 0, 0, 0, [])),
  (878, (.iadd, 879, 0, 0, 0, 0, 0, [])),
  (879, (.iaload, 880, 0, 0, 0, 0, 0, [])),
  (880, (.invokevirtual 113, 883, 185, 3, 1182, 0, 11, [0])),
  (883, (.if_icmp .eq 94, 886, 977, 0, 0, 0, 0, [])),
  (886, (.iconst 0, 887, 0, 0, 0, 0, 0, [])),
  (887, (.ireturn, 888, 0, 0, 0, 1, 0, [])),
  (888, (.aload_n 1, 889, 1, 0, 0, 0, 0, [])),
  (889, (.aload_n 0, 890, 0, 0, 0, 0, 0, [])),
  (890, (.iload_n 3, 891, 3, 0, 0, 0, 0, [])),
  (891, (.iconst 1, 892, 0, 0, 0, 0, 0, [])),
  (892, (.iadd, 893, 0, 0, 0, 0, 0, [])),
  (893, (.iaload, 894, 0, 0, 0, 0, 0, [])),
  (894, (.aload_n 0, 895, 0, 0, 0, 0, 0, [])),
  (895, (.iload_n 3, 896, 3, 0, 0, 0, 0, [])),
  (896, (.iconst 2, 897, 0, 0, 0, 0, 0, [])),
  (897, (.iadd, 898, 0, 0, 0, 0, 0, [])),
  (898, (.iaload, 899, 0, 0, 0, 0, 0, [])),
  (899, (.invokevirtual 114, 902, 115, 3, 874, 0, 10, [0])),
  (902, (.aload_n 2, 903, 2, 0, 0, 0, 0, [])),
  (903, (.aload_n 0, 904, 0, 0, 0, 0, 0, [])),
  (904, (.iload_n 3, 905, 3, 0, 0, 0, 0, [])),
  (905, (.iconst 1, 906, 0, 0, 0, 0, 0, [])),
  (906, (.iadd, 907, 0, 0, 0, 0, 0, [])),
  (907, (.iaload, 908, 0, 0, 0, 0, 0, [])),
  (908, (.aload_n 0, 909, 0, 0, 0, 0, 0, [])),
  (909, (.iload_n 3, 910, 3, 0, 0, 0, 0, []))]
def rn_t215_9 : List (Nat × rn_E) := [(910, (.iconst 2, 911, 0, 0, 0, 0, 0, [])),
  (911, (.iadd, 912, 0, 0, 0, 0, 0, [])),
  (912, (.iaload, 913, 0, 0, 0, 0, 0, [])),
  (913, (.invokevirtual 117, 916, 186, 3, 1186, 0, 11, [0])),
  (916, (.if_icmp .eq 61, 919, 977, 0, 0, 0, 0, [])),
  (919, (.iconst 0, 920, 0, 0, 0, 0, 0, [])),
  (920, (.ireturn, 921, 0, 0, 0, 1, 0, [])),
  (921, (.aload_n 1, 922, 1, 0, 0, 0, 0, [])),
  (922, (.aload_n 0, 923, 0, 0, 0, 0, 0, [])),
  (923, (.iload_n 3, 924, 3, 0, 0, 0, 0, [])),
  (924, (.iconst 1, 925, 0, 0, 0, 0, 0, [])),
  (925, (.iadd, 926, 0, 0, 0, 0, 0, [])),
  (926, (.iaload, 927, 0, 0, 0, 0, 0, [])),
  (927, (.aload_n 0, 928, 0, 0, 0, 0, 0, [])),
  (928, (.iload_n 3, 929, 3, 0, 0, 0, 0, [])),
  (929, (.iconst 2, 930, 0, 0, 0, 0, 0, [])),
  (930, (.iadd, 931, 0, 0, 0, 0, 0, [])),
  (931, (.iaload, 932, 0, 0, 0, 0, 0, [])),
  (932, (.invokevirtual 118, 935, 116, 3, 878, 0, 10, [0])),
  (935, (.aload_n 2, 936, 2, 0, 0, 0, 0, [])),
  (936, (.aload_n 0, 937, 0, 0, 0, 0, 0, [])),
  (937, (.iload_n 3, 938, 3, 0, 0, 0, 0, [])),
  (938, (.iconst 1, 939, 0, 0, 0, 0, 0, [])),
  (939, (.iadd, 940, 0, 0, 0, 0, 0, [])),
  (940, (.iaload, 941, 0, 0, 0, 0, 0, [])),
  (941, (.aload_n 0, 942, 0, 0, 0, 0, 0, [])),
  (942, (.iload_n 3, 943, 3, 0, 0, 0, 0, [])),
  (943, (.iconst 2, 944, 0, 0, 0, 0, 0, [])),
  (944, (.iadd, 945, 0, 0, 0, 0, 0, [])),
  (945, (.iaload, 946, 0, 0, 0, 0, 0, [])),
  (946, (.invokevirtual 121, 949, 187, 3, 1190, 0, 11, [0])),
  (949, (.if_icmp .eq 28, 952, 977, 0, 0, 0, 0, [])),
  (952, (.iconst 0, 953, 0, 0, 0, 0, 0, [])),
  (953, (.ireturn, 954, 0, 0, 0, 1, 0, [])),
  (954, (.aload_n 1, 955, 1, 0, 0, 0, 0, [])),
  (955, (.aload_n 0, 956, 0, 0, 0, 0, 0, [])),
  (956, (.iload_n 3, 957, 3, 0, 0, 0, 0, [])),
  (957, (.iconst 1, 958, 0, 0, 0, 0, 0, [])),
  (958, (.iadd, 959, 0, 0, 0, 0, 0, [])),
  (959, (.iaload, 960, 0, 0, 0, 0, 0, [])),
  (960, (.invokevirtual 122, 963, 117, 2, 886, 0, 10, [0])),
  (963, (.aload_n 2, 964, 2, 0, 0, 0, 0, [])),
  (964, (.aload_n 0, 965, 0, 0, 0, 0, 0, [])),
  (965, (.iload_n 3, 966, 3, 0, 0, 0, 0, [])),
  (966, (.iconst 1, 967, 0, 0, 0, 0, 0, [])),
  (967, (.iadd, 968, 0, 0, 0, 0, 0, [])),
  (968, (.iaload, 969, 0, 0, 0, 0, 0, [])),
  (969, (.invokevirtual 125, 972, 188, 2, 1194, 0, 11, [0])),
  (972, (.if_icmp .eq 5, 975, 977, 0, 0, 0, 0, [])),
  (975, (.iconst 0, 976, 0, 0, 0, 0, 0, [])),
  (976, (.ireturn, 977, 0, 0, 0, 1, 0, [])),
  (977, (.iinc 3 6, 980, 3, 0, 0, 0, 0, [])),
  (980, (.goto (-962), 983, 18, 0, 0, 0, 0, [])),
  (983, (.iconst 1, 984, 0, 0, 0, 0, 0, [])),
  (984, (.ireturn, 985, 0, 0, 0, 1, 0, []))]
def rn_t215 : List (Nat × rn_E) := rn_t215_0 ++ (rn_t215_1 ++ (rn_t215_2 ++ (rn_t215_3 ++ (rn_t215_4 ++ (rn_t215_5 ++ (rn_t215_6 ++ (rn_t215_7 ++ (rn_t215_8 ++ (rn_t215_9)))))))))
def rn_m215 : rn_Mt := (yL_law, cL_law, 4, (some .boolean), true, 1000, 100000, 9, 207, rn_t215)
def rn_mts : List rn_Mt := [rn_m0, rn_m1, rn_m2, rn_m3, rn_m4, rn_m5, rn_m6, rn_m7, rn_m8, rn_m9, rn_m10, rn_m11, rn_m12, rn_m13, rn_m14, rn_m15, rn_m16, rn_m17, rn_m18, rn_m19, rn_m20, rn_m21, rn_m22, rn_m23, rn_m24, rn_m25, rn_m26, rn_m27, rn_m28, rn_m29, rn_m30, rn_m31, rn_m32, rn_m33, rn_m34, rn_m35, rn_m36, rn_m37, rn_m38, rn_m39, rn_m40, rn_m41, rn_m42, rn_m43, rn_m44, rn_m45, rn_m46, rn_m47, rn_m48, rn_m49, rn_m50, rn_m51, rn_m52, rn_m53, rn_m54, rn_m55, rn_m56, rn_m57, rn_m58, rn_m59, rn_m60, rn_m61, rn_m62, rn_m63, rn_m64, rn_m65, rn_m66, rn_m67, rn_m68, rn_m69, rn_m70, rn_m71, rn_m72, rn_m73, rn_m74, rn_m75, rn_m76, rn_m77, rn_m78, rn_m79, rn_m80, rn_m81, rn_m82, rn_m83, rn_m84, rn_m85, rn_m86, rn_m87, rn_m88, rn_m89, rn_m90, rn_m91, rn_m92, rn_m93, rn_m94, rn_m95, rn_m96, rn_m97, rn_m98, rn_m99, rn_m100, rn_m101, rn_m102, rn_m103, rn_m104, rn_m105, rn_m106, rn_m107, rn_m108, rn_m109, rn_m110, rn_m111, rn_m112, rn_m113, rn_m114, rn_m115, rn_m116, rn_m117, rn_m118, rn_m119, rn_m120, rn_m121, rn_m122, rn_m123, rn_m124, rn_m125, rn_m126, rn_m127, rn_m128, rn_m129, rn_m130, rn_m131, rn_m132, rn_m133, rn_m134, rn_m135, rn_m136, rn_m137, rn_m138, rn_m139, rn_m140, rn_m141, rn_m142, rn_m143, rn_m144, rn_m145, rn_m146, rn_m147, rn_m148, rn_m149, rn_m150, rn_m151, rn_m152, rn_m153, rn_m154, rn_m155, rn_m156, rn_m157, rn_m158, rn_m159, rn_m160, rn_m161, rn_m162, rn_m163, rn_m164, rn_m165, rn_m166, rn_m167, rn_m168, rn_m169, rn_m170, rn_m171, rn_m172, rn_m173, rn_m174, rn_m175, rn_m176, rn_m177, rn_m178, rn_m179, rn_m180, rn_m181, rn_m182, rn_m183, rn_m184, rn_m185, rn_m186, rn_m187, rn_m188, rn_m189, rn_m190, rn_m191, rn_m192, rn_m193, rn_m194, rn_m195, rn_m196, rn_m197, rn_m198, rn_m199, rn_m200, rn_m201, rn_m202, rn_m203, rn_m204, rn_m205, rn_m206, rn_m207, rn_m208, rn_m209, rn_m210, rn_m211, rn_m212, rn_m213, rn_m214, rn_m215]
end
section
def rn_look : List (Nat × rn_E) → Nat → Option rn_E
  | [], _ => none
  | (p, e) :: t, q => match Nat.beq p q with | true => some e | false => rn_look t q
def rn_mt (z : Nat) : Option rn_Mt := rn_mts[z]?
def rn_mcs (z : Nat) : Nat × Nat := match rn_mt z with | some (_, _, _, _, _, mc, ms, _) => (mc, ms) | none => (0, 0)
def rn_ml (z : Nat) : Nat := match rn_mt z with | some (_, _, ml, _) => ml | none => 0
def rn_at (z pc : Nat) : Option rn_E := match rn_mt z with | some (_, _, _, _, _, _, _, _, _, t) => rn_look t pc | none => none
abbrev rn_X : Type := Nat → Nat → List rn_V → List rn_V → rn_M → rn_Q → Prop
def rn_pad (n : Nat) (as : List rn_V) : List rn_V := as ++ List.replicate (n - as.length) rn_J
def rn_F (X : rn_X) : rn_X := fun y pc L st M Q => match rn_at y pc with
  | some e => rn_stp rn_mcs rn_nf e L st M Q (fun pc' L' st' M' => X y pc' L' st' M' Q) (fun z as M' Q' => X z 0 (rn_pad (rn_ml z) as) [] M' Q')
  | none => False
def rn_mon (X : rn_X) : Prop := ∀ (y pc : Nat) (L st : List rn_V) (M : rn_M) (Q Q' : rn_Q), (∀ r M', Q r M' → Q' r M') → X y pc L st M Q → X y pc L st M Q'
/-- the least predicate that the instructions allow: from here the machine ends, with Q -/
def rn_WP : rn_X := fun y pc L st M Q => ∀ X : rn_X, rn_mon X → (∀ y pc L st M Q, rn_F X y pc L st M Q → X y pc L st M Q) → X y pc L st M Q
/-- a method from its start -/
def rn_ME (z : Nat) (as : List rn_V) (M : rn_M) (Q : rn_Q) : Prop := rn_WP z 0 (rn_pad (rn_ml z) as) [] M Q
theorem rn_cal_mono {k z mc ms : Nat} {as : List rn_V} {M : rn_M} {C C' : rn_C} {Q Q' : rn_Q} (hQ : ∀ r M, Q r M → Q' r M) (hC : ∀ z as M (P P' : rn_Q), (∀ r M, P r M → P' r M) → C z as M P → C' z as M P') (h : rn_cal k z mc ms as M C Q) : rn_cal k z mc ms as M C' Q' := by
  revert h
  unfold rn_cal
  split
  · exact fun h => ⟨h.1, h.2.1, hC _ _ _ _ _ (fun r M q => hQ _ _ q) h.2.2⟩
  · exact hC _ _ _ _ _ hQ
theorem rn_g_mono {b : Bool} {P P' : Prop} (h : P → P') : rn_g b P → rn_g b P' := by cases b <;> simp [rn_g]; exact h
theorem rn_st1_mono {st : List rn_V} {f f' : Int → List rn_V → Prop} (h : ∀ x t, f x t → f' x t) : rn_st1 st f → rn_st1 st f' := by unfold rn_st1; split <;> first | exact h _ _ | exact id
theorem rn_st2_mono {st : List rn_V} {f f' : Int → Int → List rn_V → Prop} (h : ∀ x y t, f x y t → f' x y t) : rn_st2 st f → rn_st2 st f' := by unfold rn_st2; split <;> first | exact h _ _ _ | exact id
theorem rn_stR_mono {st : List rn_V} {f f' : Nat → List rn_V → Prop} (h : ∀ x t, f x t → f' x t) : rn_stR st f → rn_stR st f' := by unfold rn_stR; split <;> first | exact h _ _ | exact id
theorem rn_stA_mono {st : List rn_V} {f f' : Nat → Int → List rn_V → Prop} (h : ∀ x y t, f x y t → f' x y t) : rn_stA st f → rn_stA st f' := by unfold rn_stA; split <;> first | exact h _ _ _ | exact id
theorem rn_ldI_mono {L : List rn_V} {i : Nat} {f f' : Int → Prop} (h : ∀ x, f x → f' x) : rn_ldI L i f → rn_ldI L i f' := by unfold rn_ldI; split <;> first | exact h _ | exact id
theorem rn_ldR_mono {L : List rn_V} {i : Nat} {f f' : Option Nat → Prop} (h : ∀ x, f x → f' x) : rn_ldR L i f → rn_ldR L i f' := by unfold rn_ldR; split <;> first | exact h _ | exact id
theorem rn_br_mono {c A B A' B' : Prop} (hA : A → A') (hB : B → B') : rn_br c A B → rn_br c A' B' := fun h => ⟨fun x => hA (h.1 x), fun x => hB (h.2 x)⟩
theorem rn_sw_mono {ts : List Nat} {i : Nat} {f f' : Nat → Prop} (h : ∀ x, f x → f' x) : rn_sw ts i f → rn_sw ts i f' := by unfold rn_sw; split <;> first | exact h _ | exact id
theorem rn_rcv_mono {as : List rn_V} {f f' : Nat → Prop} (h : ∀ x, f x → f' x) : rn_rcv as f → rn_rcv as f' := by unfold rn_rcv; split <;> first | exact h _ | exact id
theorem rn_put_mono {k : Nat} {st : List rn_V} {M : rn_M} {b : Nat} {f f' : Nat → rn_M → List rn_V → Prop} (h : ∀ x M t, f x M t → f' x M t) : rn_put k st M b f → rn_put k st M b f' := by
  unfold rn_put; split <;> split <;> first | exact h _ _ _ | exact fun q => ⟨q.1, h _ _ _ q.2⟩ | exact id
theorem rn_acp_mono {st : List rn_V} {f f' : Int → Int → Nat → Int → Nat → List rn_V → Prop} (h : ∀ n dp d sp s t, f n dp d sp s t → f' n dp d sp s t) : rn_acp st f → rn_acp st f' := by unfold rn_acp; split <;> first | exact h _ _ _ _ _ _ | exact id
set_option maxHeartbeats 4000000 in
theorem rn_stp_mono {mcs : Nat → Nat × Nat} {nf : Nat → Nat} {e : rn_E} {L st : List rn_V} {M : rn_M} {Q Q' : rn_Q} {K K' : rn_K} {C C' : rn_C} (hQ : ∀ r M, Q r M → Q' r M) (hK : ∀ pc L st M, K pc L st M → K' pc L st M) (hC : ∀ z as M (P P' : rn_Q), (∀ r M, P r M → P' r M) → C z as M P → C' z as M P') :
    rn_stp mcs nf e L st M Q K C → rn_stp mcs nf e L st M Q' K' C' := by
  obtain ⟨ins, nx, a, b, t, k, c, ts⟩ := e
  have hK1 : ∀ pc L st M, K pc L st M → K' pc L st M := hK
  unfold rn_stp
  dsimp only
  split <;> first
    | exact id
    | exact hK _ _ _ _
    | exact rn_ldI_mono fun _ => hK _ _ _ _
    | exact rn_ldR_mono fun _ => hK _ _ _ _
    | exact rn_st1_mono fun _ _ => rn_g_mono (hK _ _ _ _)
    | exact rn_st1_mono fun _ _ => hK _ _ _ _
    | exact rn_st2_mono fun _ _ _ => hK _ _ _ _
    | exact rn_st1_mono fun _ _ => rn_br_mono (hK _ _ _ _) (hK _ _ _ _)
    | exact rn_st2_mono fun _ _ _ => rn_br_mono (hK _ _ _ _) (hK _ _ _ _)
    | exact rn_st1_mono fun _ _ => rn_br_mono (hK _ _ _ _) (rn_sw_mono fun _ => hK _ _ _ _)
    | exact rn_stR_mono fun _ _ q => ⟨q.1, hK _ _ _ _ q.2⟩
    | exact rn_put_mono fun _ _ _ q => ⟨q.1, hK _ _ _ _ q.2⟩
    | exact rn_stA_mono fun _ _ _ q => ⟨q.1, q.2.1, hK _ _ _ _ q.2.2⟩
    | exact rn_st1_mono fun _ _ q => ⟨q.1, q.2.1, hK _ _ _ _ q.2.2⟩
    | exact rn_st1_mono fun _ _ q => ⟨q.1, q.2.1, q.2.2.1, q.2.2.2.1, hK _ _ _ _ q.2.2.2.2⟩
    | exact fun q => ⟨q.1, q.2.1, hK _ _ _ _ q.2.2⟩
    | exact rn_g_mono (rn_rcv_mono fun _ q => ⟨q.1, rn_cal_mono (fun _ _ => hK _ _ _ _) hC q.2⟩)
    | (split <;> first
        | exact id
        | exact hK _ _ _ _
        | exact rn_g_mono (hK _ _ _ _)
        | exact rn_stR_mono fun _ _ => rn_g_mono (hK _ _ _ _)
        | exact rn_st1_mono fun _ _ => rn_g_mono (hK _ _ _ _)
        | exact rn_st2_mono fun _ _ _ => rn_g_mono (hK _ _ _ _)
        | exact rn_g_mono (rn_rcv_mono fun _ q => ⟨q.1, rn_cal_mono (fun _ _ => hK _ _ _ _) hC q.2⟩)
        | exact rn_g_mono (rn_cal_mono (fun _ _ => hK _ _ _ _) hC)
        | exact rn_acp_mono fun _ _ _ _ _ _ => rn_g_mono fun q => ⟨q.1, q.2.1, q.2.2.1, q.2.2.2.1, q.2.2.2.2.1, q.2.2.2.2.2.1, q.2.2.2.2.2.2.1, hK _ _ _ _ q.2.2.2.2.2.2.2⟩
        | exact fun q => ⟨q.1, q.2.1, hK _ _ _ _ q.2.2⟩
        | exact fun q => ⟨q.1, q.2.1, q.2.2.1, hK _ _ _ _ q.2.2.2⟩
        | exact fun q => ⟨q.1, hQ _ _ q.2⟩
        | exact hQ _ _)
theorem rn_F_mono {X Y : rn_X} (hY : rn_mon Y) (h : ∀ y pc L st M Q, X y pc L st M Q → Y y pc L st M Q) {y pc : Nat} {L st : List rn_V} {M : rn_M} {Q Q' : rn_Q} (hQ : ∀ r M', Q r M' → Q' r M') : rn_F X y pc L st M Q → rn_F Y y pc L st M Q' := by
  unfold rn_F
  split
  · exact rn_stp_mono hQ (fun pc L st M q => hY _ _ _ _ _ _ _ hQ (h _ _ _ _ _ _ q)) (fun z as M P P' hP q => hY _ _ _ _ _ _ _ hP (h _ _ _ _ _ _ q))
  · exact id
theorem rn_WP_mono : rn_mon rn_WP := fun y pc L st M Q Q' hQ h X hX hF => hX _ _ _ _ _ _ _ hQ (h X hX hF)
theorem rn_WP_in {y pc : Nat} {L st : List rn_V} {M : rn_M} {Q : rn_Q} (h : rn_F rn_WP y pc L st M Q) : rn_WP y pc L st M Q := fun X hX hF => hF _ _ _ _ _ _ (rn_F_mono hX (fun _ _ _ _ _ _ q => q X hX hF) (fun _ _ q => q) h)
theorem rn_WP_out {y pc : Nat} {L st : List rn_V} {M : rn_M} {Q : rn_Q} (h : rn_WP y pc L st M Q) : rn_F rn_WP y pc L st M Q :=
  h (rn_F rn_WP) (fun _ _ _ _ _ _ _ hQ => rn_F_mono rn_WP_mono (fun _ _ _ _ _ _ q => q) hQ) (fun _ _ _ _ _ _ => rn_F_mono rn_WP_mono (fun _ _ _ _ _ _ q => rn_WP_in q) (fun _ _ q => q))
theorem rn_step {y pc : Nat} {L st : List rn_V} {M : rn_M} {Q : rn_Q} {e : rn_E} (he : rn_at y pc = some e) : rn_WP y pc L st M Q ↔ rn_stp rn_mcs rn_nf e L st M Q (fun pc' L' st' M' => rn_WP y pc' L' st' M' Q) rn_ME := by
  refine ⟨fun h => ?_, fun h => rn_WP_in ?_⟩
  · have h2 := rn_WP_out h
    unfold rn_F at h2
    rw [he] at h2
    exact h2
  · unfold rn_F
    rw [he]
    exact h
theorem rn_ME_mono {z : Nat} {as : List rn_V} {M : rn_M} {Q Q' : rn_Q} (hQ : ∀ r M', Q r M' → Q' r M') (h : rn_ME z as M Q) : rn_ME z as M Q' := rn_WP_mono _ _ _ _ _ _ _ hQ h
end
section
/-! the relation between the abstract machine and the machine -/
theorem rn_i32 {x : Int} (h : -2147483648 ≤ x) (h2 : x ≤ 2147483647) : (Int32.ofInt x).toInt = x := Int32.toInt_ofInt_of_le h (by omega)
theorem rn_wr_eq (z : Int) : rn_wr z = z.bmod 4294967296 := by
  rw [Int.bmod_def]
  unfold rn_wr
  omega
theorem rn_ofInt (x : Int) : (Int32.ofInt x).toInt = rn_wr x := by
  rw [rn_wr_eq]; exact Int32.toInt_ofInt
theorem rn_rng (x : Int32) : -2147483648 ≤ x.toInt ∧ x.toInt ≤ 2147483647 := ⟨Int32.le_toInt x, Int32.toInt_le x⟩
theorem rn_back (x : Int32) : Int32.ofInt x.toInt = x := Int32.ofInt_toInt x
theorem rn_add (x y : Int32) : (x + y).toInt = rn_wr (x.toInt + y.toInt) := by rw [rn_wr_eq]; exact Int32.toInt_add x y
theorem rn_sub (x y : Int32) : (x - y).toInt = rn_wr (x.toInt - y.toInt) := by rw [rn_wr_eq]; exact Int32.toInt_sub x y
theorem rn_mul (x y : Int32) : (x * y).toInt = rn_wr (x.toInt * y.toInt) := by rw [rn_wr_eq]; exact Int32.toInt_mul x y
theorem rn_neg (x : Int32) : (0 - x).toInt = rn_wr (-x.toInt) := by
  rw [rn_sub]
  show rn_wr (0 - x.toInt) = _
  rw [Int.zero_sub]
def rn_Wd : List Cond := lw_tbl.filter goodWord
theorem rn_Wd_mem {t : Nat} {w : Cond} (h : lw_tbl[t]? = some w) (hg : goodWord w = true) : w ∈ rn_Wd := List.mem_filter.mpr ⟨List.mem_of_getElem? h, hg⟩
theorem rn_Wd_good : GoodIn rn_Wd rn_Wd := fun w hw => ⟨hw, good_of_word (List.mem_filter.mp hw).2⟩
def rn_isN : Cond → Bool
  | .fieldLinkNest _ _ _ _ _ _ => true
  | .methodLinkNest _ _ _ _ => true
  | _ => false
def rn_nst : List Cond := lw_tbl.filter rn_isN
def rn_vr (n : Nat) (ad : Nat → Nat) (v : rn_V) (x : Value) : Prop := match v with
  | .inl i => ∃ k : Int32, x = .int k ∧ k.toInt = i
  | .inr none => x.category = 1
  | .inr (some none) => x = .null
  | .inr (some (some a)) => a < n ∧ x = .ref (ad a)
theorem rn_vr_cat {n : Nat} {ad : Nat → Nat} {v : rn_V} {x : Value} (h : rn_vr n ad v x) : x.category = 1 := by
  unfold rn_vr at h
  split at h
  · obtain ⟨k, rfl, -⟩ := h; rfl
  · exact h
  · rw [h]; rfl
  · rw [h.2]; rfl
theorem rn_vr_ext {n n' : Nat} {ad ad' : Nat → Nat} {v : rn_V} {x : Value} (hn : n ≤ n') (ha : ∀ a, a < n → ad' a = ad a) (h : rn_vr n ad v x) : rn_vr n' ad' v x := by
  unfold rn_vr at h ⊢
  split
  · exact h
  · exact h
  · exact h
  · exact ⟨Nat.lt_of_lt_of_le h.1 hn, by rw [ha _ h.1]; exact h.2⟩
def rn_vs (n : Nat) (ad : Nat → Nat) : List rn_V → List Value → Prop
  | [], [] => True
  | v :: vs, x :: xs => rn_vr n ad v x ∧ rn_vs n ad vs xs
  | _, _ => False
theorem rn_vs_ext {n n' : Nat} {ad ad' : Nat → Nat} (hn : n ≤ n') (ha : ∀ a, a < n → ad' a = ad a) : ∀ {vs : List rn_V} {xs : List Value}, rn_vs n ad vs xs → rn_vs n' ad' vs xs
  | [], [], h => h
  | _ :: _, _ :: _, h => ⟨rn_vr_ext hn ha h.1, rn_vs_ext hn ha h.2⟩
theorem rn_vs_len {n : Nat} {ad : Nat → Nat} : ∀ {vs : List rn_V} {xs : List Value}, rn_vs n ad vs xs → vs.length = xs.length
  | [], [], _ => rfl
  | _ :: _, _ :: _, h => by simp [rn_vs_len h.2]
theorem rn_vs_app {n : Nat} {ad : Nat → Nat} : ∀ {vs ws : List rn_V} {xs ys : List Value}, rn_vs n ad vs xs → rn_vs n ad ws ys → rn_vs n ad (vs ++ ws) (xs ++ ys)
  | [], _, [], _, _, h => h
  | _ :: _, _, _ :: _, _, h1, h => ⟨h1.1, rn_vs_app h1.2 h⟩
theorem rn_vs_rev {n : Nat} {ad : Nat → Nat} : ∀ {vs : List rn_V} {xs : List Value}, rn_vs n ad vs xs → rn_vs n ad vs.reverse xs.reverse
  | [], [], h => h
  | _ :: _, _ :: _, h => by
    rw [List.reverse_cons, List.reverse_cons]
    exact rn_vs_app (rn_vs_rev h.2) ⟨h.1, trivial⟩
theorem rn_vs_take {n : Nat} {ad : Nat → Nat} : ∀ (k : Nat) {vs : List rn_V} {xs : List Value}, rn_vs n ad vs xs → rn_vs n ad (vs.take k) (xs.take k) ∧ rn_vs n ad (vs.drop k) (xs.drop k)
  | 0, _, _, h => ⟨trivial, h⟩
  | _ + 1, [], [], _ => ⟨trivial, trivial⟩
  | k + 1, _ :: _, _ :: _, h => ⟨⟨h.1, (rn_vs_take k h.2).1⟩, (rn_vs_take k h.2).2⟩
theorem rn_vs_sum {n : Nat} {ad : Nat → Nat} : ∀ {vs : List rn_V} {xs : List Value}, rn_vs n ad vs xs → (xs.map fun v => v.category).sum = vs.length
  | [], [], _ => rfl
  | _ :: vs, x :: xs, h => by
    rw [List.map_cons, List.sum_cons, rn_vs_sum h.2, rn_vr_cat h.1, List.length_cons]
    omega
/-- locals -/
def rn_lr (n : Nat) (ad : Nat → Nat) (L : List rn_V) (ls : Array Slot) : Prop := ∃ lv : List (Nat × Value), lv_has ls L.length lv ∧ ∀ (i : Nat) (v : rn_V), L[i]? = some v → v ≠ rn_J → ∃ x, (i, x) ∈ lv ∧ rn_vr n ad v x
theorem rn_lr_ext {n n' : Nat} {ad ad' : Nat → Nat} {L : List rn_V} {ls : Array Slot} (hn : n ≤ n') (ha : ∀ a, a < n → ad' a = ad a) (h : rn_lr n ad L ls) : rn_lr n' ad' L ls := by
  obtain ⟨lv, h1, h2⟩ := h
  refine ⟨lv, h1, fun i v hi hv => ?_⟩
  obtain ⟨x, h3, h4⟩ := h2 i v hi hv
  exact ⟨x, h3, rn_vr_ext hn ha h4⟩
theorem rn_lr_get {n : Nat} {ad : Nat → Nat} {L : List rn_V} {ls : Array Slot} {i : Nat} {v : rn_V} (h : rn_lr n ad L ls) (hi : L[i]? = some v) (hv : v ≠ rn_J) : ∃ x, ls[i]? = some (.val x) ∧ rn_vr n ad v x := by
  obtain ⟨lv, h1, h2⟩ := h
  obtain ⟨x, h3, h4⟩ := h2 i v hi hv
  exact ⟨x, h1.2.2 _ h3, h4⟩
theorem rn_lr_set {n nL : Nat} {ad : Nat → Nat} {L : List rn_V} {ls' : Array Slot} {lv : List (Nat × Value)} {i : Nat} {v : rn_V} {x : Value} (h2 : ∀ (i : Nat) (v : rn_V), L[i]? = some v → v ≠ rn_J → ∃ x, (i, x) ∈ lv ∧ rn_vr n ad v x) (hnL : nL = L.length) (hx : rn_vr n ad v x)
    (h' : lv_has ls' nL ((i, x) :: lv.filter (fun q => !(q.1 == i) && !(q.1 + 1 == i && q.2.category == 2)))) : rn_lr n ad (L.set i v) ls' := by
  subst hnL
  refine ⟨_, by rw [List.length_set]; exact h', fun j w hj hw => ?_⟩
  by_cases e : i = j
  · subst e
    rw [List.getElem?_set_self (by
      rcases Nat.lt_or_ge i L.length with q | q
      · exact q
      · rw [List.getElem?_eq_none (by rw [List.length_set]; exact q)] at hj; cases hj)] at hj
    cases hj
    exact ⟨x, List.mem_cons_self, hx⟩
  · rw [List.getElem?_set_ne e] at hj
    obtain ⟨z, h3, h4⟩ := h2 j w hj hw
    refine ⟨z, List.mem_cons_of_mem _ (List.mem_filter.mpr ⟨h3, ?_⟩), h4⟩
    have h5 := rn_vr_cat h4
    simp [h5]
    exact fun q => e q.symm
/-- a cell of the world -/
def rn_el (tys : List (ClassId × FieldType)) (n : Nat) (ad : Nat → Nat) (M : rn_M) (a : Nat) (el : va_E) : Prop := match el with
  | .inr (ci, fs) => rn_kd M a = ci + 1 ∧ ci < 11 ∧ fs.length = rn_nf ci ∧ ∀ b, b < rn_nf ci → ∃ x, fs[b]? = some x ∧ rn_vr n ad (rn_fv (rn_fk ci b) M a b) x
  | .inl (cA, len, .inl f) => rn_kd M a = 20 ∧ rn_ln M a = len ∧ len ≤ 100000 ∧ (∃ t : Nat, tys[t]? = some (cA, .int)) ∧ ∀ j, j < len → (f j).toInt = rn_gi M a j
  | .inl (cA, len, .inr (.inr (.inr (.inr f)))) => ∃ ci, rn_kd M a = ci + 30 ∧ ci < 11 ∧ rn_ln M a = len ∧ len ≤ 100000 ∧ (∃ t : Nat, tys[t]? = some (cA, .object (rn_cn ci))) ∧ ∀ j, j < len → rn_vr n ad (.inr (some (rn_gr M a j))) (va_rf (f j))
  | _ => False
def rn_Ws (tys : List (ClassId × FieldType)) (ad : Nat → Nat) (M : rn_M) (ws : va_W) : Prop :=
  ws.length + 8 = M.1.length ∧ (∀ a, a < 8 → 21 ≤ rn_kd M a ∧ rn_kd M a ≤ 24) ∧ ∀ k, k < ws.length → ∃ el, ws[k]? = some (ad (k + 8), el) ∧ rn_el tys M.1.length ad M (k + 8) el
def rn_W (D : va_G) (A : Nat → Prop) (tys : List (ClassId × FieldType)) (ws : va_W) (ad : Nat → Nat) (M : rn_M) (U : State) (H : Heap) : Prop :=
  va_K D rn_cl tys U ∧ va_P D rn_cl ws H ∧ va_D A ws ∧ rn_Ws tys ad M ws
/-- what was there before -/
def rn_Ev (ad : Nat → Nat) (M : rn_M) (A : Nat → Prop) (U : State) (H : Heap) : Prop := ∀ a, a < 8 →
  (rn_kd M a = 21 → rn_ln M a ≤ 100000 ∧ va_T .int (ad a) (rn_ln M a) (fun j => .int (Int32.ofInt (rn_gi M a j))) A U H ∧ ∀ j, j < rn_ln M a → (Int32.ofInt (rn_gi M a j)).toInt = rn_gi M a j) ∧
  (rn_kd M a = 22 → va_O "java/lang/String" (ad a) A U H ∧ va_OF "java/lang/String" "coder" "B" (.int (Int32.ofInt (rn_gi M a 1))) (ad a) A U H ∧ (Int32.ofInt (rn_gi M a 1)).toInt = rn_gi M a 1 ∧ ∃ r, rn_gr M a 0 = some r ∧ r < 8 ∧ va_OF "java/lang/String" "value" "[B" (.ref (ad r)) (ad a) A U H) ∧
  (rn_kd M a = 23 → rn_ln M a ≤ 100000 ∧ va_T .byte (ad a) (rn_ln M a) (fun j => .int (Int32.ofInt (rn_gi M a j))) A U H ∧ ∀ j, j < rn_ln M a → (Int32.ofInt (rn_gi M a j)).toInt = rn_gi M a j)
/-- what is fixed: statics, texts, links within the nest, classes of arrays -/
def rn_Ef (ad : Nat → Nat) (A : Nat → Prop) (U : State) (H : Heap) : Prop :=
  va_Z "RiverNames" "STEPS_RIGHT" "[I" (.ref (ad 1)) A U H ∧ va_Z "RiverNames" "STEPS_DOWN" "[I" (.ref (ad 2)) A U H ∧ va_Z "java/lang/String" "COMPACT_STRINGS" "Z" (.int 1) A U H ∧ va_Zq "jdk/internal/util/Preconditions" "SIOOBE_FORMATTER" "Ljava/util/function/BiFunction;" A U H ∧
  vk_R "RiverNames$Reader" 35 "river" (ad 3) U ∧ vk_R "RiverNames$Reader" 51 "town" (ad 4) U ∧ (∀ w ∈ rn_nst, va_Nw w U) ∧ ∀ ci, (ci = 0 ∨ ci = 3 ∨ ci = 5 ∨ ci = 8) → va_AO (rn_cn ci) U
/-- the foreign cells stay, the world grows -/
def rn_xt (M M' : rn_M) (ad ad' : Nat → Nat) : Prop := M.1.length ≤ M'.1.length ∧ (∀ a, a < M.1.length → ad' a = ad a) ∧ ∀ a, a < 8 → rn_kd M' a = rn_kd M a ∧ rn_ln M' a = rn_ln M a ∧ (∀ j, rn_gi M' a j = rn_gi M a j) ∧ ∀ j, rn_gr M' a j = rn_gr M a j
theorem rn_xt_rf {M : rn_M} {ad : Nat → Nat} : rn_xt M M ad ad := ⟨Nat.le_refl _, fun _ _ => rfl, fun _ _ => ⟨rfl, rfl, fun _ => rfl, fun _ => rfl⟩⟩
theorem rn_xt_tr {M M1 M2 : rn_M} {ad ad1 ad2 : Nat → Nat} (h1 : rn_xt M M1 ad ad1) (h2 : rn_xt M1 M2 ad1 ad2) : rn_xt M M2 ad ad2 := by
  refine ⟨Nat.le_trans h1.1 h2.1, fun a ha => ?_, fun a ha => ?_⟩
  · rw [h2.2.1 a (Nat.lt_of_lt_of_le ha h1.1), h1.2.1 a ha]
  · obtain ⟨q1, q2, q3, q4⟩ := h1.2.2 a ha
    obtain ⟨r1, r2, r3, r4⟩ := h2.2.2 a ha
    exact ⟨r1.trans q1, r2.trans q2, fun j => (r3 j).trans (q3 j), fun j => (r4 j).trans (q4 j)⟩
theorem rn_Ev_xt {M M' : rn_M} {ad ad' : Nat → Nat} {A : Nat → Prop} {U : State} {H : Heap} (hn : 8 ≤ M.1.length) (hx : rn_xt M M' ad ad') (h : rn_Ev ad M A U H) : rn_Ev ad' M' A U H := by
  intro a ha
  obtain ⟨h1, h2, h3⟩ := h a ha
  obtain ⟨r1, r2, r3, r4⟩ := hx.2.2 a ha
  have e : ad' a = ad a := hx.2.1 a (Nat.lt_of_lt_of_le ha hn)
  rw [r1, r2, e]
  simp only [r3, r4]
  refine ⟨h1, fun q => ?_, h3⟩
  obtain ⟨g1, g2, g3, r, g4, g5, g6⟩ := h2 q
  exact ⟨g1, g2, g3, r, g4, g5, by rw [hx.2.1 r (Nat.lt_of_lt_of_le g5 hn)]; exact g6⟩
theorem rn_Ef_xt {M M' : rn_M} {ad ad' : Nat → Nat} {A : Nat → Prop} {U : State} {H : Heap} (hn : 8 ≤ M.1.length) (hx : rn_xt M M' ad ad') (h : rn_Ef ad A U H) : rn_Ef ad' A U H := by
  unfold rn_Ef at h ⊢
  rw [hx.2.1 1 (by omega), hx.2.1 2 (by omega), hx.2.1 3 (by omega), hx.2.1 4 (by omega)]
  exact h
theorem rn_Ev_kept {M : rn_M} {ad : Nat → Nat} {A : Nat → Prop} {U : State} {H H1 : Heap} (h : rn_Ev ad M A U H) (hq : ∀ a : Nat, a < H.size → ¬ A a → H1[a]? = H[a]?) : rn_Ev ad M A U H1 := by
  intro a ha
  obtain ⟨h1, h2, h3⟩ := h a ha
  refine ⟨fun q => ?_, fun q => ?_, fun q => ?_⟩
  · obtain ⟨g0, g1, g2⟩ := h1 q; exact ⟨g0, g1.kept hq, g2⟩
  · obtain ⟨g1, g2, g3, r, g4, g5, g6⟩ := h2 q
    exact ⟨g1.kept hq, g2.kept hq, g3, r, g4, g5, g6.kept hq⟩
  · obtain ⟨g0, g1, g2⟩ := h3 q; exact ⟨g0, g1.kept hq, g2⟩
theorem rn_Ev_moved {M : rn_M} {ad : Nat → Nat} {A : Nat → Prop} {u U : State} {H : Heap} (hvm : u.vm.Alike U.vm) (h : rn_Ev ad M A u H) : rn_Ev ad M A U H := by
  intro a ha
  obtain ⟨h1, h2, h3⟩ := h a ha
  refine ⟨fun q => ?_, fun q => ?_, fun q => ?_⟩
  · obtain ⟨g0, g1, g2⟩ := h1 q; exact ⟨g0, g1.moved hvm, g2⟩
  · obtain ⟨g1, g2, g3, r, g4, g5, g6⟩ := h2 q
    exact ⟨g1.moved hvm, g2.moved hvm, g3, r, g4, g5, g6.moved hvm⟩
  · obtain ⟨g0, g1, g2⟩ := h3 q; exact ⟨g0, g1.moved hvm, g2⟩
theorem rn_Ef_kept {ad : Nat → Nat} {A : Nat → Prop} {U : State} {H H1 : Heap} (h : rn_Ef ad A U H) (hq : ∀ a : Nat, a < H.size → ¬ A a → H1[a]? = H[a]?) : rn_Ef ad A U H1 :=
  ⟨h.1.kept hq, h.2.1.kept hq, h.2.2.1.kept hq, h.2.2.2.1.kept hq, h.2.2.2.2⟩
theorem rn_Nw_warm {w : Cond} (hn : rn_isN w = true) {s U : State} (hW : s.WarmedH U.vm) (hZ : va_Nw w s) : va_Nw w U := by
  cases w <;> first | exact va_Nw.warmF hW hZ | exact va_Nw.warmM hW hZ | cases hn
theorem rn_Nw_same {w : Cond} (hn : rn_isN w = true) {u U : State} (h : u.vm = U.vm) (hZ : va_Nw w u) : va_Nw w U := by
  cases w <;> first | exact va_Nw.same rfl h hZ | cases hn
theorem rn_Ef_warm {ad : Nat → Nat} {A : Nat → Prop} {s U : State} {H : Heap} (hW : s.WarmedH U.vm) (h : rn_Ef ad A s H) : rn_Ef ad A U H :=
  ⟨h.1.moved hW.alike, h.2.1.moved hW.alike, h.2.2.1.moved hW.alike, h.2.2.2.1.moved hW.alike, h.2.2.2.2.1.warm hW, h.2.2.2.2.2.1.warm hW, fun w hw => rn_Nw_warm (List.mem_filter.mp hw).2 hW (h.2.2.2.2.2.2.1 w hw), fun ci hc => (h.2.2.2.2.2.2.2 ci hc).moved hW.alike⟩
theorem rn_Ef_same {ad : Nat → Nat} {A : Nat → Prop} {u U : State} {H : Heap} (hv : U.vm = u.vm) (h : rn_Ef ad A u H) : rn_Ef ad A U H := by
  have ha : u.vm.Alike U.vm := by rw [hv]; exact Vm.Alike.refl _
  exact ⟨h.1.moved ha, h.2.1.moved ha, h.2.2.1.moved ha, h.2.2.2.1.moved ha, h.2.2.2.2.1.same hv, h.2.2.2.2.2.1.same hv, fun w hw => rn_Nw_same (List.mem_filter.mp hw).2 hv.symm (h.2.2.2.2.2.2.1 w hw), fun ci hc => (h.2.2.2.2.2.2.2 ci hc).moved ha⟩
theorem rn_W_moved {D : va_G} {A : Nat → Prop} {tys : List (ClassId × FieldType)} {ws : va_W} {ad : Nat → Nat} {M : rn_M} {u U : State} {H : Heap} (ha : u.vm.Alike U.vm) (h : rn_W D A tys ws ad M u H) : rn_W D A tys ws ad M U H := ⟨h.1.moved ha, h.2⟩
end
section
def rn_T : Nat → u_T := fun c => match c with
  | 0 => TX0
  | 1 => TX1
  | 2 => TX2
  | 3 => TX3
  | 4 => TX4
  | 5 => TX5
  | 6 => TX6
  | 7 => TX7
  | 8 => TX8
  | 9 => TX9
  | _ => TX10
def rn_ty : Nat → Nat → FieldType := fun c => match c with
  | 0 => tyX0
  | 1 => tyX1
  | 2 => tyX2
  | 3 => tyX3
  | 4 => tyX4
  | 5 => tyX5
  | 6 => tyX6
  | 7 => tyX7
  | 8 => tyX8
  | 9 => tyX9
  | _ => tyX10
/-- of a class: places of instantiable, initialized -/
def rn_cpl : List (Nat × Nat) := [(141, 72), (134, 71), (289, 76), (226, 75), (95, 69), (152, 73), (299, 77), (101, 70), (199, 74), (87, 68), (897, 78)]
/-- of a method: its kind (0 virtual, 1 static, 2 a constructor), places of code, initialized, static or instance, selects -/
def rn_mpl : List (Nat × Nat × Nat × Nat × Nat) := [(2, 144, 72, 143, 0), (0, 358, 72, 356, 357), (0, 367, 72, 366, 0), (0, 390, 72, 389, 1), (0, 410, 72, 409, 2), (0, 362, 72, 360, 361), (0, 386, 72, 384, 385), (0, 406, 72, 404, 405), (0, 371, 72, 369, 370), (0, 394, 72, 392, 393), (0, 414, 72, 412, 413), (0, 672, 72, 670, 671), (0, 759, 72, 757, 758), (0, 820, 72, 818, 819), (0, 845, 72, 843, 844), (0, 746, 72, 744, 745), (0, 763, 72, 761, 762), (0, 755, 72, 753, 754), (0, 853, 72, 851, 852), (2, 137, 71, 136, 0), (0, 742, 71, 740, 741), (0, 354, 71, 352, 353), (0, 562, 71, 560, 561), (0, 566, 71, 565, 12), (0, 734, 71, 732, 733), (2, 292, 76, 291, 0), (0, 623, 76, 621, 622), (0, 631, 76, 630, 13), (0, 639, 76, 638, 14), (0, 651, 76, 650, 15), (0, 689, 76, 688, 18), (0, 710, 76, 709, 21), (0, 885, 76, 883, 884), (0, 693, 76, 692, 19), (0, 893, 76, 891, 892), (0, 680, 76, 678, 679), (0, 685, 76, 684, 17), (0, 724, 76, 723, 22), (0, 751, 76, 749, 750), (0, 720, 76, 718, 719), (2, 229, 75, 228, 0), (0, 418, 75, 416, 417), (0, 824, 75, 822, 823), (0, 774, 75, 772, 773), (0, 839, 75, 837, 838), (2, 98, 69, 97, 0), (0, 422, 69, 420, 421), (0, 495, 69, 494, 5), (0, 557, 69, 556, 11), (0, 499, 69, 498, 6), (0, 520, 69, 519, 9), (0, 512, 69, 511, 8), (0, 551, 69, 550, 10), (0, 503, 69, 502, 7), (0, 426, 69, 425, 3), (1, 433, 69, 432, 0), (0, 442, 69, 441, 4), (2, 155, 73, 154, 0), (0, 379, 73, 377, 378), (0, 375, 73, 373, 374), (0, 507, 73, 505, 506), (0, 516, 73, 514, 515), (0, 528, 73, 526, 527), (0, 524, 73, 522, 523), (0, 536, 73, 534, 535), (0, 532, 73, 530, 531), (0, 542, 73, 540, 541), (0, 812, 73, 810, 811), (0, 627, 73, 625, 626), (0, 705, 73, 704, 20), (0, 701, 73, 699, 700), (0, 872, 73, 870, 871), (0, 697, 73, 695, 696), (0, 835, 73, 833, 834), (0, 659, 73, 658, 16), (0, 655, 73, 653, 654), (0, 857, 73, 855, 856), (0, 794, 73, 792, 793), (2, 302, 77, 301, 0), (0, 767, 77, 765, 766), (0, 780, 77, 778, 779), (0, 784, 77, 783, 23), (2, 104, 70, 103, 0), (0, 337, 70, 335, 336), (0, 346, 70, 344, 345), (0, 430, 70, 428, 429), (2, 202, 74, 201, 0), (0, 402, 74, 400, 401), (0, 398, 74, 396, 397), (0, 646, 74, 644, 645), (2, 90, 68, 89, 0), (0, 330, 68, 328, 329), (0, 342, 68, 340, 341), (0, 350, 68, 348, 349), (0, 572, 68, 570, 571), (0, 586, 68, 584, 585), (0, 592, 68, 590, 591), (0, 599, 68, 597, 598), (0, 603, 68, 601, 602), (0, 607, 68, 605, 606), (0, 612, 68, 610, 611), (0, 616, 68, 614, 615), (0, 668, 68, 666, 667), (0, 676, 68, 674, 675), (0, 716, 68, 714, 715), (0, 730, 68, 728, 729), (0, 738, 68, 736, 737), (0, 789, 68, 787, 788), (0, 801, 68, 799, 800), (0, 808, 68, 806, 807), (0, 816, 68, 814, 815), (0, 829, 68, 827, 828), (0, 849, 68, 847, 848), (0, 863, 68, 861, 862), (0, 868, 68, 866, 867), (0, 877, 68, 875, 876), (0, 881, 68, 879, 880), (0, 889, 68, 887, 888), (1, 333, 68, 332, 0), (1, 547, 68, 546, 0), (1, 576, 68, 575, 0), (1, 579, 68, 578, 0), (1, 619, 68, 618, 0), (2, 900, 78, 899, 0), (1, 958, 78, 957, 0), (0, 971, 78, 970, 24), (0, 951, 78, 949, 950), (0, 997, 78, 996, 27), (1, 978, 78, 977, 0), (0, 1005, 78, 1004, 29), (1, 1008, 78, 1007, 0), (1, 1011, 78, 1010, 0), (1, 961, 78, 960, 0), (0, 1001, 78, 1000, 28), (1, 964, 78, 963, 0), (1, 967, 78, 966, 0), (0, 975, 78, 974, 25), (0, 955, 78, 953, 954), (1, 985, 78, 984, 0), (0, 989, 78, 988, 26), (0, 982, 78, 980, 981), (0, 1015, 78, 1014, 30), (0, 993, 78, 991, 992), (0, 1023, 78, 1022, 31), (0, 1019, 78, 1017, 1018), (0, 1027, 78, 1025, 1026), (0, 1035, 78, 1034, 32), (0, 1031, 78, 1029, 1030), (0, 1039, 78, 1037, 1038), (1, 1105, 78, 1104, 0), (0, 1102, 78, 1101, 44), (0, 1054, 78, 1053, 34), (0, 1098, 78, 1097, 43), (0, 1165, 78, 1164, 52), (0, 1058, 78, 1057, 35), (0, 1062, 78, 1061, 36), (0, 1070, 78, 1069, 38), (0, 1066, 78, 1065, 37), (0, 1050, 78, 1049, 33), (0, 1113, 78, 1112, 45), (0, 1094, 78, 1093, 42), (0, 1082, 78, 1081, 40), (0, 1074, 78, 1073, 39), (1, 1046, 78, 1045, 0), (0, 1043, 78, 1041, 1042), (0, 1086, 78, 1085, 41), (0, 1078, 78, 1076, 1077), (0, 1090, 78, 1088, 1089), (0, 1109, 78, 1107, 1108), (0, 1121, 78, 1120, 46), (0, 1125, 78, 1124, 47), (0, 1133, 78, 1132, 49), (0, 1129, 78, 1128, 48), (0, 1137, 78, 1136, 50), (0, 1117, 78, 1115, 1116), (0, 1145, 78, 1144, 51), (0, 1141, 78, 1139, 1140), (0, 1149, 78, 1147, 1148), (0, 1153, 78, 1151, 1152), (0, 1157, 78, 1155, 1156), (0, 1169, 78, 1168, 53), (0, 1161, 78, 1159, 1160), (0, 1177, 78, 1176, 54), (0, 1173, 78, 1171, 1172), (0, 1181, 78, 1179, 1180), (0, 1185, 78, 1183, 1184), (0, 1189, 78, 1187, 1188), (0, 1193, 78, 1191, 1192), (0, 1197, 78, 1195, 1196), (0, 1201, 78, 1199, 1200), (0, 1205, 78, 1203, 1204), (0, 1221, 78, 1220, 57), (0, 1217, 78, 1216, 56), (0, 1233, 78, 1232, 60), (0, 1225, 78, 1224, 58), (0, 1249, 78, 1248, 64), (0, 1237, 78, 1236, 61), (0, 1245, 78, 1244, 63), (0, 1241, 78, 1240, 62), (0, 1229, 78, 1228, 59), (0, 1253, 78, 1252, 65), (0, 1209, 78, 1207, 1208), (0, 1213, 78, 1212, 55), (0, 1257, 78, 1256, 66), (1, 635, 80, 634, 0), (1, 663, 80, 662, 0), (1, 437, 80, 436, 0), (0, 446, 81, 444, 445), (0, 456, 81, 454, 455), (0, 450, 81, 448, 449), (0, 460, 81, 458, 459), (1, 466, 81, 465, 0), (1, 463, 82, 462, 0), (1, 770, 85, 769, 0), (1, 471, 83, 470, 0), (0, 0, 0, 0, 0)]
theorem rn_cl_at : ∀ a, a < 11 → rn_cl[a]? = some (rn_cn a, rn_T a, rn_nf a) := by
  intro a h
  match a, h with
  | 0, _ => rfl
  | 1, _ => rfl
  | 2, _ => rfl
  | 3, _ => rfl
  | 4, _ => rfl
  | 5, _ => rfl
  | 6, _ => rfl
  | 7, _ => rfl
  | 8, _ => rfl
  | 9, _ => rfl
  | 10, _ => rfl
  | k + 11, h => exact absurd h (by omega)
theorem rn_cl_in : ∀ a, a < 11 → ∀ w ∈ u_ws (rn_cn a) (rn_T a) (rn_nf a), w ∈ lw_tbl ∧ goodWord w = true := by
  intro a h
  match a, h with
  | 0, _ => exact fun w hw => ⟨rn_in0 w hw, List.all_eq_true.mp (show (wsX00.all goodWord) = true by decide +kernel) w hw⟩
  | 1, _ => exact fun w hw => ⟨rn_in1 w hw, List.all_eq_true.mp (show (wsX10.all goodWord) = true by decide +kernel) w hw⟩
  | 2, _ => exact fun w hw => ⟨rn_in2 w hw, List.all_eq_true.mp (show (wsX20.all goodWord) = true by decide +kernel) w hw⟩
  | 3, _ => exact fun w hw => ⟨rn_in3 w hw, List.all_eq_true.mp (show (wsX30.all goodWord) = true by decide +kernel) w hw⟩
  | 4, _ => exact fun w hw => ⟨rn_in4 w hw, List.all_eq_true.mp (show (wsX40.all goodWord) = true by decide +kernel) w hw⟩
  | 5, _ => exact fun w hw => ⟨rn_in5 w hw, List.all_eq_true.mp (show (wsX50.all goodWord) = true by decide +kernel) w hw⟩
  | 6, _ => exact fun w hw => ⟨rn_in6 w hw, List.all_eq_true.mp (show (wsX60.all goodWord) = true by decide +kernel) w hw⟩
  | 7, _ => exact fun w hw => ⟨rn_in7 w hw, List.all_eq_true.mp (show (wsX70.all goodWord) = true by decide +kernel) w hw⟩
  | 8, _ => exact fun w hw => ⟨rn_in8 w hw, List.all_eq_true.mp (show (wsX80.all goodWord) = true by decide +kernel) w hw⟩
  | 9, _ => exact fun w hw => ⟨rn_in9 w hw, List.all_eq_true.mp (show (wsX90.all goodWord) = true by decide +kernel) w hw⟩
  | 10, _ => exact fun w hw => ⟨rn_in10 w hw, List.all_eq_true.mp (show (wsX100.all goodWord) = true by decide +kernel) w hw⟩
  | k + 11, h => exact absurd h (by omega)
theorem rn_cl_ty : ∀ a, a < 11 → ∀ k, k < rn_nf a → parseFieldDescriptor (rn_T a k).2.2.1 = some (rn_ty a k) := by
  intro a h
  match a, h with
  | 0, _ => exact tyX0_ok
  | 1, _ => exact tyX1_ok
  | 2, _ => exact tyX2_ok
  | 3, _ => exact tyX3_ok
  | 4, _ => exact tyX4_ok
  | 5, _ => exact tyX5_ok
  | 6, _ => exact tyX6_ok
  | 7, _ => exact tyX7_ok
  | 8, _ => exact tyX8_ok
  | 9, _ => exact tyX9_ok
  | 10, _ => exact tyX10_ok
  | k + 11, h => exact absurd h (by omega)
theorem rn_cl_nm : ∀ a, a < 11 → ∀ i, i < rn_nf a → ∀ b, b < rn_nf a → i ≠ b → (rn_T a i).2.1 ≠ (rn_T a b).2.1 := by
  intro a h
  match a, h with
  | 0, _ => exact nmX0
  | 1, _ => exact nmX1
  | 2, _ => exact nmX2
  | 3, _ => exact nmX3
  | 4, _ => exact nmX4
  | 5, _ => exact nmX5
  | 6, _ => exact nmX6
  | 7, _ => exact nmX7
  | 8, _ => exact nmX8
  | 9, _ => exact nmX9
  | 10, _ => exact nmX10
  | k + 11, h => exact absurd h (by omega)
theorem rn_p_maxc : Cond.code Lib.Math.max.name Lib.Math.max.code 2 (some .int) ∈ rn_Wd := rn_Wd_mem (t := 663) (by decide +kernel) (by decide +kernel)
theorem rn_p_maxs : Cond.static Lib.Math.max.name ∈ rn_Wd := rn_Wd_mem (t := 662) (by decide +kernel) (by decide +kernel)
theorem rn_p_minc : Cond.code Lib.Math.min.name Lib.Math.min.code 2 (some .int) ∈ rn_Wd := rn_Wd_mem (t := 437) (by decide +kernel) (by decide +kernel)
theorem rn_p_mins : Cond.static Lib.Math.min.name ∈ rn_Wd := rn_Wd_mem (t := 436) (by decide +kernel) (by decide +kernel)
theorem rn_p_absc : Cond.code Lib.Math.abs.name Lib.Math.abs.code 1 (some .int) ∈ rn_Wd := rn_Wd_mem (t := 635) (by decide +kernel) (by decide +kernel)
theorem rn_p_abss : Cond.static Lib.Math.abs.name ∈ rn_Wd := rn_Wd_mem (t := 634) (by decide +kernel) (by decide +kernel)
theorem rn_p_mini : Cond.initialized "java/lang/Math" ∈ rn_Wd := rn_Wd_mem (t := 80) (by decide +kernel) (by decide +kernel)
theorem rn_p_nat : Cond.native arraycopyName ∈ rn_Wd := rn_Wd_mem (t := 382) (by decide +kernel) (by decide +kernel)
theorem rn_p_cst : Cond.static arraycopyName ∈ rn_Wd := rn_Wd_mem (t := 381) (by decide +kernel) (by decide +kernel)
theorem rn_p_cin : Cond.initialized "java/lang/System" ∈ rn_Wd := rn_Wd_mem (t := 79) (by decide +kernel) (by decide +kernel)
theorem rn_p_arr : Cond.arrayClass .int ∈ rn_Wd := rn_Wd_mem (t := 115) (by decide +kernel) (by decide +kernel)
theorem rn_p_obi : Cond.instanceMethod Lib.objectInit ∈ rn_Wd := rn_Wd_mem (t := 92) (by decide +kernel) (by decide +kernel)
theorem rn_p_obc : Cond.code Lib.objectInit ⟨#[0xb1]⟩ 1 none ∈ rn_Wd := rn_Wd_mem (t := 93) (by decide +kernel) (by decide +kernel)
theorem rn_nfw : nativeFrameWords "java/lang/System" "arraycopy" 5 ≤ 19 := by decide +kernel
end
section
/-! what the entries must keep to, as a program; and that they do -/
def rn_al (mt : rn_Mt) : Bool := mt.2.2.2.2.1
def rn_fr (mt : rn_Mt) : Nat := mt.2.2.2.2.2.2.2.1
def rn_lw (mt : rn_Mt) : Nat := mt.2.2.2.2.2.2.2.2.1
def rn_mc (mt : rn_Mt) : Nat := mt.2.2.2.2.2.1
def rn_ms (mt : rn_Mt) : Nat := mt.2.2.2.2.2.2.1
def rn_tb (mt : rn_Mt) : List (Nat × rn_E) := mt.2.2.2.2.2.2.2.2.2
def rn_hw (t : Nat) (w : Cond) : Bool := decide (lw_tbl[t]? = some w) && goodWord w
theorem rn_hw_mem {t : Nat} {w : Cond} (h : rn_hw t w = true) : w ∈ rn_Wd := by
  unfold rn_hw at h
  rw [Bool.and_eq_true, decide_eq_true_eq] at h
  exact rn_Wd_mem h.1 h.2
def rn_hn (t : Nat) (w : Cond) : Bool := decide (rn_nst[t]? = some w)
theorem rn_hn_mem {t : Nat} {w : Cond} (h : rn_hn t w = true) : w ∈ rn_nst := by
  unfold rn_hn at h
  rw [decide_eq_true_eq] at h
  exact List.mem_of_getElem? h
def rn_rk (r : Option FieldType) : Nat := match r with | some .int => 0 | some .boolean => 1 | some .byte => 2 | some .char => 3 | some (.object _) => 4 | none => 5 | _ => 6
def rn_plain (s : String) : Bool := decide (s ≠ "java/lang/invoke/MethodHandle") && decide (s ≠ "java/lang/invoke/VarHandle")
/-- the callee of a call in method mt: kind of the call, arguments -/
def rn_chc (mt : rn_Mt) (kd z b k : Nat) (nst : Bool) (t idx : Nat) : Bool := match rn_mt z, rn_mpl[z]? with
  | some mz, some (kz, pa, pb, pc, pd) => decide (kz = kd) && rn_hw pa (.code mz.1 mz.2.1 mz.2.2.1 mz.2.2.2.1) && rn_hw pb (.initialized mz.1.cls) &&
    (match kd with
      | 0 => rn_hw pc (.instanceMethod mz.1) && rn_hw pd (.selects mz.1.cls mz.1 mz.1)
      | 1 => rn_hw pc (.static mz.1)
      | _ => rn_hw pc (.instanceMethod mz.1) && decide (mz.1.name = "<init>") && decide (mz.2.2.2.1 = none)) &&
    (match nst with | true => rn_hn t (.methodLinkNest mt.1.cls idx mz.1 "RiverNames") | false => rn_hw t (.methodLink mt.1.cls idx mz.1)) &&
    rn_plain mz.1.cls && decide ((parseMethodDescriptor mz.1.desc).map (fun d => d.parameters.length) = some (match kd with | 1 => b | _ => b - 1)) && decide (1 ≤ b ∨ kd = 1) &&
    decide (rn_fr mz + 1 ≤ rn_fr mt) && decide (8 + (mz.2.2.1 + 11) + rn_lw mz ≤ rn_lw mt) &&
    (match k with | 4 => rn_al mt | _ => decide (rn_al mz = false) && decide (rn_mc mz = 0) && decide (rn_ms mz = 0)) && plainName mz.1.cls && decide (b ≤ mz.2.2.1)
  | _, _ => false
def rn_chi (mt : rn_Mt) (pc : Nat) (e : rn_E) : Bool :=
  match e with
  | (ins, nx, a, b, t, k, c, ts) =>
  match ins with
  | .iconst n => decide (nx = pc + 1) && decide (-2147483648 ≤ n ∧ n ≤ 2147483647)
  | .bipush n => decide (nx = pc + 2) && decide (((Int8.ofInt n).toInt32).toInt = n)
  | .sipush n => decide (nx = pc + 3) && decide (((Int16.ofInt n).toInt32).toInt = n)
  | .aconst_null => decide (nx = pc + 1)
  | .iload i => decide (nx = pc + 2) && decide (i = a)
  | .iload_n i => decide (nx = pc + 1) && decide (i.val = a)
  | .aload i => decide (nx = pc + 2) && decide (i = a)
  | .aload_n i => decide (nx = pc + 1) && decide (i.val = a)
  | .istore i => decide (nx = pc + 2) && decide (i = a)
  | .istore_n i => decide (nx = pc + 1) && decide (i.val = a)
  | .astore i => decide (nx = pc + 2) && decide (i = a)
  | .astore_n i => decide (nx = pc + 1) && decide (i.val = a)
  | .iinc i _ => decide (nx = pc + 3) && decide (i = a)
  | .iadd => decide (nx = pc + 1)
  | .isub => decide (nx = pc + 1)
  | .imul => decide (nx = pc + 1)
  | .iand => decide (nx = pc + 1)
  | .ior => decide (nx = pc + 1)
  | .ishl => decide (nx = pc + 1)
  | .ishr => decide (nx = pc + 1)
  | .ineg => decide (nx = pc + 1)
  | .i2c => decide (nx = pc + 1)
  | .dup => decide (nx = pc + 1)
  | .dup2 => decide (nx = pc + 1)
  | .pop => decide (nx = pc + 1)
  | .goto o => decide (nx = pc + 3) && decide ((pc : Int) + o = (a : Int))
  | .ifCond _ o => decide (nx = pc + 3) && decide ((pc : Int) + o = (a : Int))
  | .if_icmp _ o => decide (nx = pc + 3) && decide ((pc : Int) + o = (a : Int))
  | .ifnull o => decide (nx = pc + 3) && decide ((pc : Int) + o = (a : Int))
  | .ifnonnull o => decide (nx = pc + 3) && decide ((pc : Int) + o = (a : Int))
  | .tableswitch d lo _ offs => decide ((pc : Int) + d = (a : Int)) && decide (offs.toList.map (fun (o : Int) => (pc : Int) + o) = ts.map (fun (n : Nat) => (n : Int))) && decide (-2147483648 ≤ lo)
  | .getfield idx => decide (nx = pc + 3) && (match c with
      | 22 => (match b with
        | 0 => decide (k = 2) && rn_hw t (.fieldLink mt.1.cls idx "java/lang/String" "value" "[B")
        | _ => decide (k = 0 ∧ b = 1) && rn_hw t (.fieldLink mt.1.cls idx "java/lang/String" "coder" "B"))
      | _ => decide (c = a + 1) && decide (a < 11) && decide (b < rn_nf a) && decide (k = rn_fk a b) && rn_hw t (.fieldLink mt.1.cls idx (rn_T a b).1 (rn_T a b).2.1 (rn_T a b).2.2.1))
  | .putfield idx => decide (nx = pc + 3) && decide (c = a + 1) && decide (a < 11) && decide (b < rn_nf a) && decide (k = rn_fk a b) && rn_hw t (.fieldLink mt.1.cls idx (rn_T a b).1 (rn_T a b).2.1 (rn_T a b).2.2.1) &&
      (match k, rn_ty a b with | 0, .int => true | 1, .boolean => true | 2, .object _ => true | 2, .array _ => true | _, _ => false) &&
      (match (rn_T a b).2.2.2 with | true => decide (mt.1.name = "<init>") && decide ((rn_T a b).1 = mt.1.cls) | false => true)
  | .getstatic idx => decide (nx = pc + 3) && (match b with
      | 1 => (match a with | 1 => rn_hn t (.fieldLinkNest mt.1.cls idx "RiverNames" "STEPS_RIGHT" "[I" "RiverNames") | 2 => rn_hn t (.fieldLinkNest mt.1.cls idx "RiverNames" "STEPS_DOWN" "[I" "RiverNames") | _ => false)
      | 2 => rn_hw t (.fieldLink mt.1.cls idx "java/lang/String" "COMPACT_STRINGS" "Z")
      | 3 => rn_hw t (.fieldLink mt.1.cls idx "jdk/internal/util/Preconditions" "SIOOBE_FORMATTER" "Ljava/util/function/BiFunction;")
      | _ => false)
  | .ldc idx => decide (nx = pc + 2) && decide (mt.1.cls = "RiverNames$Reader") && (match a with | 3 => decide (idx = 35) | 4 => decide (idx = 51) | _ => false)
  | .iaload => decide (nx = pc + 1)
  | .baload => decide (nx = pc + 1)
  | .iastore => decide (nx = pc + 1)
  | .aaload => decide (nx = pc + 1)
  | .aastore => decide (nx = pc + 1)
  | .arraylength => decide (nx = pc + 1)
  | .new idx => decide (nx = pc + 3) && decide (a < 11) && rn_al mt && rn_hw t (.classLink mt.1.cls idx (rn_cn a)) && (match rn_cpl[a]? with | some (pa, pb) => rn_hw pa (.instantiable (rn_cn a) (rn_nf a)) && rn_hw pb (.initialized (rn_cn a)) | none => false)
  | .newarray ty => decide (nx = pc + 2) && rn_al mt && decide (ty = .int)
  | .anewarray idx => decide (nx = pc + 3) && rn_al mt && decide (a = 0 ∨ a = 3 ∨ a = 5 ∨ a = 8) && rn_hw t (.classLink mt.1.cls idx (rn_cn a))
  | .invokevirtual idx => decide (nx = pc + 3) && decide (ts = [0]) && (match c with | 22 => (match rn_mt a with | some mz => decide (mz.1.cls = "java/lang/String") | none => false) | 0 => false | c + 1 => decide (c < 11) && (match rn_mt a with | some mz => decide (mz.1.cls = rn_cn c) | none => false)) && rn_chc mt 0 a b k false t idx
  | .invokestatic idx => decide (nx = pc + 3) && (match k with
      | 3 => rn_hw t (.methodLink mt.1.cls idx arraycopyName) && decide (1 ≤ rn_fr mt) && decide (38 ≤ rn_lw mt)
      | 5 => rn_hw t (.methodLink mt.1.cls idx Lib.Math.max.name) && decide (1 ≤ rn_fr mt) && decide (21 ≤ rn_lw mt)
      | 6 => rn_hw t (.methodLink mt.1.cls idx Lib.Math.min.name) && decide (1 ≤ rn_fr mt) && decide (21 ≤ rn_lw mt)
      | 7 => rn_hw t (.methodLink mt.1.cls idx Lib.Math.abs.name) && decide (1 ≤ rn_fr mt) && decide (21 ≤ rn_lw mt)
      | _ => (match ts with | [0] => rn_chc mt 1 a b k false t idx | [1] => rn_chc mt 1 a b k true t idx | _ => false))
  | .invokespecial idx => decide (nx = pc + 3) && (match k with
      | 2 => rn_hw t (.methodLink mt.1.cls idx Lib.objectInit) && decide (1 ≤ rn_fr mt) && decide (20 ≤ rn_lw mt)
      | _ => (match ts with | [0] => rn_chc mt 2 a b k false t idx | [1] => rn_chc mt 2 a b k true t idx | _ => false))
  | .ireturn => decide (nx = pc + 1) && decide (k = rn_rk mt.2.2.2.1) && decide (k ≤ 3)
  | .areturn => decide (nx = pc + 1) && decide (rn_rk mt.2.2.2.1 = 4)
  | .return_ => decide (nx = pc + 1) && decide (rn_rk mt.2.2.2.1 = 5)
  | _ => false
def rn_che (mt : rn_Mt) (q : Nat × rn_E) : Bool := decide (decode mt.2.1 q.1 = .ok (q.2.1, q.2.2.1 - q.1)) && rn_chi mt q.1 q.2
def rn_chm (mt : rn_Mt) : Bool := (rn_tb mt).all (rn_che mt)
end
section
theorem rn_k0 : rn_chm rn_m0 = true := by decide +kernel
theorem rn_k1 : rn_chm rn_m1 = true := by decide +kernel
theorem rn_k2 : rn_chm rn_m2 = true := by decide +kernel
theorem rn_k3 : rn_chm rn_m3 = true := by decide +kernel
theorem rn_k4 : rn_chm rn_m4 = true := by decide +kernel
theorem rn_k5 : rn_chm rn_m5 = true := by decide +kernel
theorem rn_k6 : rn_chm rn_m6 = true := by decide +kernel
theorem rn_k7 : rn_chm rn_m7 = true := by decide +kernel
theorem rn_k8 : rn_chm rn_m8 = true := by decide +kernel
theorem rn_k9 : rn_chm rn_m9 = true := by decide +kernel
theorem rn_k10 : rn_chm rn_m10 = true := by decide +kernel
theorem rn_k11 : rn_chm rn_m11 = true := by decide +kernel
theorem rn_k12 : rn_chm rn_m12 = true := by decide +kernel
theorem rn_k13 : rn_chm rn_m13 = true := by decide +kernel
theorem rn_k14 : rn_chm rn_m14 = true := by decide +kernel
theorem rn_k15 : rn_chm rn_m15 = true := by decide +kernel
theorem rn_k16 : rn_chm rn_m16 = true := by decide +kernel
theorem rn_k17 : rn_chm rn_m17 = true := by decide +kernel
theorem rn_k18 : rn_chm rn_m18 = true := by decide +kernel
theorem rn_k19 : rn_chm rn_m19 = true := by decide +kernel
theorem rn_k20 : rn_chm rn_m20 = true := by decide +kernel
theorem rn_k21 : rn_chm rn_m21 = true := by decide +kernel
theorem rn_k22 : rn_chm rn_m22 = true := by decide +kernel
theorem rn_k23 : rn_chm rn_m23 = true := by decide +kernel
theorem rn_k24 : rn_chm rn_m24 = true := by decide +kernel
theorem rn_k25 : rn_chm rn_m25 = true := by decide +kernel
theorem rn_k26 : rn_chm rn_m26 = true := by decide +kernel
theorem rn_k27 : rn_chm rn_m27 = true := by decide +kernel
theorem rn_k28 : rn_chm rn_m28 = true := by decide +kernel
end
section
theorem rn_k29 : rn_chm rn_m29 = true := by decide +kernel
theorem rn_k30 : rn_chm rn_m30 = true := by decide +kernel
theorem rn_k31 : rn_chm rn_m31 = true := by decide +kernel
theorem rn_k32 : rn_chm rn_m32 = true := by decide +kernel
theorem rn_k33 : rn_chm rn_m33 = true := by decide +kernel
theorem rn_k34 : rn_chm rn_m34 = true := by decide +kernel
theorem rn_k35 : rn_chm rn_m35 = true := by decide +kernel
theorem rn_k36 : rn_chm rn_m36 = true := by decide +kernel
theorem rn_k37 : rn_chm rn_m37 = true := by decide +kernel
theorem rn_k38 : rn_chm rn_m38 = true := by decide +kernel
theorem rn_k39 : rn_chm rn_m39 = true := by decide +kernel
theorem rn_k40 : rn_chm rn_m40 = true := by decide +kernel
theorem rn_k41 : rn_chm rn_m41 = true := by decide +kernel
theorem rn_k42 : rn_chm rn_m42 = true := by decide +kernel
theorem rn_k43 : rn_chm rn_m43 = true := by decide +kernel
theorem rn_k44 : rn_chm rn_m44 = true := by decide +kernel
theorem rn_k45 : rn_chm rn_m45 = true := by decide +kernel
theorem rn_k46 : rn_chm rn_m46 = true := by decide +kernel
theorem rn_k47 : rn_chm rn_m47 = true := by decide +kernel
theorem rn_k48 : rn_chm rn_m48 = true := by decide +kernel
theorem rn_k49 : rn_chm rn_m49 = true := by decide +kernel
theorem rn_k50 : rn_chm rn_m50 = true := by decide +kernel
theorem rn_k51 : rn_chm rn_m51 = true := by decide +kernel
theorem rn_k52 : rn_chm rn_m52 = true := by decide +kernel
theorem rn_k53 : rn_chm rn_m53 = true := by decide +kernel
theorem rn_k54 : rn_chm rn_m54 = true := by decide +kernel
theorem rn_k55 : rn_chm rn_m55 = true := by decide +kernel
end
section
theorem rn_k56 : rn_chm rn_m56 = true := by decide +kernel
theorem rn_k57 : rn_chm rn_m57 = true := by decide +kernel
theorem rn_k58 : rn_chm rn_m58 = true := by decide +kernel
theorem rn_k59 : rn_chm rn_m59 = true := by decide +kernel
theorem rn_k60 : rn_chm rn_m60 = true := by decide +kernel
theorem rn_k61 : rn_chm rn_m61 = true := by decide +kernel
theorem rn_k62 : rn_chm rn_m62 = true := by decide +kernel
theorem rn_k63 : rn_chm rn_m63 = true := by decide +kernel
theorem rn_k64 : rn_chm rn_m64 = true := by decide +kernel
theorem rn_k65 : rn_chm rn_m65 = true := by decide +kernel
theorem rn_k66 : rn_chm rn_m66 = true := by decide +kernel
theorem rn_k67 : rn_chm rn_m67 = true := by decide +kernel
theorem rn_k68 : rn_chm rn_m68 = true := by decide +kernel
theorem rn_k69 : rn_chm rn_m69 = true := by decide +kernel
theorem rn_k70 : rn_chm rn_m70 = true := by decide +kernel
theorem rn_k71 : rn_chm rn_m71 = true := by decide +kernel
theorem rn_k72 : rn_chm rn_m72 = true := by decide +kernel
theorem rn_k73 : rn_chm rn_m73 = true := by decide +kernel
theorem rn_k74 : rn_chm rn_m74 = true := by decide +kernel
theorem rn_k75 : rn_chm rn_m75 = true := by decide +kernel
theorem rn_k76 : rn_chm rn_m76 = true := by decide +kernel
theorem rn_k77 : rn_chm rn_m77 = true := by decide +kernel
theorem rn_k78 : rn_chm rn_m78 = true := by decide +kernel
theorem rn_k79 : rn_chm rn_m79 = true := by decide +kernel
theorem rn_k80 : rn_chm rn_m80 = true := by decide +kernel
theorem rn_k81 : rn_chm rn_m81 = true := by decide +kernel
theorem rn_k82 : rn_chm rn_m82 = true := by decide +kernel
theorem rn_k83 : rn_chm rn_m83 = true := by decide +kernel
theorem rn_k84 : rn_chm rn_m84 = true := by decide +kernel
theorem rn_k85 : rn_chm rn_m85 = true := by decide +kernel
theorem rn_k86 : rn_chm rn_m86 = true := by decide +kernel
theorem rn_k87 : rn_chm rn_m87 = true := by decide +kernel
theorem rn_k88 : rn_chm rn_m88 = true := by decide +kernel
theorem rn_k89 : rn_chm rn_m89 = true := by decide +kernel
theorem rn_k90 : rn_chm rn_m90 = true := by decide +kernel
theorem rn_k91 : rn_chm rn_m91 = true := by decide +kernel
theorem rn_k92 : rn_chm rn_m92 = true := by decide +kernel
theorem rn_k93 : rn_chm rn_m93 = true := by decide +kernel
theorem rn_k94 : rn_chm rn_m94 = true := by decide +kernel
end
section
theorem rn_k95 : rn_chm rn_m95 = true := by decide +kernel
theorem rn_k96 : rn_chm rn_m96 = true := by decide +kernel
theorem rn_k97 : rn_chm rn_m97 = true := by decide +kernel
theorem rn_k98 : rn_chm rn_m98 = true := by decide +kernel
theorem rn_k99 : rn_chm rn_m99 = true := by decide +kernel
theorem rn_k100 : rn_chm rn_m100 = true := by decide +kernel
theorem rn_k101 : rn_chm rn_m101 = true := by decide +kernel
theorem rn_k102 : rn_chm rn_m102 = true := by decide +kernel
theorem rn_k103 : rn_chm rn_m103 = true := by decide +kernel
theorem rn_k104 : rn_chm rn_m104 = true := by decide +kernel
theorem rn_k105 : rn_chm rn_m105 = true := by decide +kernel
theorem rn_k106 : rn_chm rn_m106 = true := by decide +kernel
theorem rn_k107 : rn_chm rn_m107 = true := by decide +kernel
theorem rn_k108 : rn_chm rn_m108 = true := by decide +kernel
theorem rn_k109 : rn_chm rn_m109 = true := by decide +kernel
theorem rn_k110 : rn_chm rn_m110 = true := by decide +kernel
theorem rn_k111 : rn_chm rn_m111 = true := by decide +kernel
theorem rn_k112 : rn_chm rn_m112 = true := by decide +kernel
theorem rn_k113 : rn_chm rn_m113 = true := by decide +kernel
theorem rn_k114 : rn_chm rn_m114 = true := by decide +kernel
theorem rn_k115 : rn_chm rn_m115 = true := by decide +kernel
theorem rn_k116 : rn_chm rn_m116 = true := by decide +kernel
theorem rn_k117 : rn_chm rn_m117 = true := by decide +kernel
theorem rn_k118 : rn_chm rn_m118 = true := by decide +kernel
theorem rn_k119 : rn_chm rn_m119 = true := by decide +kernel
theorem rn_k120 : rn_chm rn_m120 = true := by decide +kernel
theorem rn_k121 : rn_chm rn_m121 = true := by decide +kernel
theorem rn_k122 : rn_chm rn_m122 = true := by decide +kernel
theorem rn_k123 : rn_chm rn_m123 = true := by decide +kernel
theorem rn_k124 : rn_chm rn_m124 = true := by decide +kernel
theorem rn_k125 : rn_chm rn_m125 = true := by decide +kernel
end
section
theorem rn_k126 : rn_chm rn_m126 = true := by decide +kernel
theorem rn_k127 : rn_chm rn_m127 = true := by decide +kernel
theorem rn_k128 : rn_chm rn_m128 = true := by decide +kernel
theorem rn_k129 : rn_chm rn_m129 = true := by decide +kernel
theorem rn_k130 : rn_chm rn_m130 = true := by decide +kernel
theorem rn_k131 : rn_chm rn_m131 = true := by decide +kernel
theorem rn_k132 : rn_chm rn_m132 = true := by decide +kernel
theorem rn_k133 : rn_chm rn_m133 = true := by decide +kernel
theorem rn_k134 : rn_chm rn_m134 = true := by decide +kernel
theorem rn_k135 : rn_chm rn_m135 = true := by decide +kernel
theorem rn_k136 : rn_chm rn_m136 = true := by decide +kernel
theorem rn_k137 : rn_chm rn_m137 = true := by decide +kernel
theorem rn_k138 : rn_chm rn_m138 = true := by decide +kernel
theorem rn_k139 : rn_chm rn_m139 = true := by decide +kernel
theorem rn_k140 : rn_chm rn_m140 = true := by decide +kernel
theorem rn_k141 : rn_chm rn_m141 = true := by decide +kernel
theorem rn_k142 : rn_chm rn_m142 = true := by decide +kernel
theorem rn_k143 : rn_chm rn_m143 = true := by decide +kernel
theorem rn_k144 : rn_chm rn_m144 = true := by decide +kernel
theorem rn_k145 : rn_chm rn_m145 = true := by decide +kernel
theorem rn_k146 : rn_chm rn_m146 = true := by decide +kernel
theorem rn_k147 : rn_chm rn_m147 = true := by decide +kernel
theorem rn_k148 : rn_chm rn_m148 = true := by decide +kernel
theorem rn_k149 : rn_chm rn_m149 = true := by decide +kernel
theorem rn_k150 : rn_chm rn_m150 = true := by decide +kernel
theorem rn_k151 : rn_chm rn_m151 = true := by decide +kernel
theorem rn_k152 : rn_chm rn_m152 = true := by decide +kernel
theorem rn_k153 : rn_chm rn_m153 = true := by decide +kernel
theorem rn_k154 : rn_chm rn_m154 = true := by decide +kernel
theorem rn_k155 : rn_chm rn_m155 = true := by decide +kernel
end
section
theorem rn_k156 : rn_chm rn_m156 = true := by decide +kernel
theorem rn_k157 : rn_chm rn_m157 = true := by decide +kernel
theorem rn_k158 : rn_chm rn_m158 = true := by decide +kernel
theorem rn_k159 : rn_chm rn_m159 = true := by decide +kernel
theorem rn_k160 : rn_chm rn_m160 = true := by decide +kernel
theorem rn_k161 : rn_chm rn_m161 = true := by decide +kernel
theorem rn_k162 : rn_chm rn_m162 = true := by decide +kernel
theorem rn_k163 : rn_chm rn_m163 = true := by decide +kernel
theorem rn_k164 : rn_chm rn_m164 = true := by decide +kernel
theorem rn_k165 : rn_chm rn_m165 = true := by decide +kernel
theorem rn_k166 : rn_chm rn_m166 = true := by decide +kernel
theorem rn_k167 : rn_chm rn_m167 = true := by decide +kernel
theorem rn_k168 : rn_chm rn_m168 = true := by decide +kernel
theorem rn_k169 : rn_chm rn_m169 = true := by decide +kernel
theorem rn_k170 : rn_chm rn_m170 = true := by decide +kernel
theorem rn_k171 : rn_chm rn_m171 = true := by decide +kernel
theorem rn_k172 : rn_chm rn_m172 = true := by decide +kernel
theorem rn_k173 : rn_chm rn_m173 = true := by decide +kernel
theorem rn_k174 : rn_chm rn_m174 = true := by decide +kernel
end
section
theorem rn_k175 : rn_chm rn_m175 = true := by decide +kernel
theorem rn_k176 : rn_chm rn_m176 = true := by decide +kernel
theorem rn_k177 : rn_chm rn_m177 = true := by decide +kernel
theorem rn_k178 : rn_chm rn_m178 = true := by decide +kernel
theorem rn_k179 : rn_chm rn_m179 = true := by decide +kernel
theorem rn_k180 : rn_chm rn_m180 = true := by decide +kernel
theorem rn_k181 : rn_chm rn_m181 = true := by decide +kernel
theorem rn_k182 : rn_chm rn_m182 = true := by decide +kernel
theorem rn_k183 : rn_chm rn_m183 = true := by decide +kernel
theorem rn_k184 : rn_chm rn_m184 = true := by decide +kernel
theorem rn_k185 : rn_chm rn_m185 = true := by decide +kernel
theorem rn_k186 : rn_chm rn_m186 = true := by decide +kernel
theorem rn_k187 : rn_chm rn_m187 = true := by decide +kernel
theorem rn_k188 : rn_chm rn_m188 = true := by decide +kernel
theorem rn_k189 : rn_chm rn_m189 = true := by decide +kernel
theorem rn_k190 : rn_chm rn_m190 = true := by decide +kernel
theorem rn_k191 : rn_chm rn_m191 = true := by decide +kernel
theorem rn_k192 : rn_chm rn_m192 = true := by decide +kernel
theorem rn_k193 : rn_chm rn_m193 = true := by decide +kernel
theorem rn_k194 : rn_chm rn_m194 = true := by decide +kernel
end
section
theorem rn_k195 : rn_chm rn_m195 = true := by decide +kernel
theorem rn_k196 : rn_chm rn_m196 = true := by decide +kernel
theorem rn_k197 : rn_chm rn_m197 = true := by decide +kernel
theorem rn_k198 : rn_chm rn_m198 = true := by decide +kernel
theorem rn_k199 : rn_chm rn_m199 = true := by decide +kernel
theorem rn_k200 : rn_chm rn_m200 = true := by decide +kernel
theorem rn_k201 : rn_chm rn_m201 = true := by decide +kernel
theorem rn_k202 : rn_chm rn_m202 = true := by decide +kernel
theorem rn_k203 : rn_chm rn_m203 = true := by decide +kernel
theorem rn_k204 : rn_chm rn_m204 = true := by decide +kernel
theorem rn_k205 : rn_chm rn_m205 = true := by decide +kernel
theorem rn_k206 : rn_chm rn_m206 = true := by decide +kernel
theorem rn_k207 : rn_chm rn_m207 = true := by decide +kernel
theorem rn_k208 : rn_chm rn_m208 = true := by decide +kernel
theorem rn_k209 : rn_chm rn_m209 = true := by decide +kernel
theorem rn_k210 : rn_chm rn_m210 = true := by decide +kernel
theorem rn_k211 : rn_chm rn_m211 = true := by decide +kernel
theorem rn_k212 : rn_chm rn_m212 = true := by decide +kernel
theorem rn_k213 : rn_chm rn_m213 = true := by decide +kernel
theorem rn_k214 : rn_chm rn_m214 = true := by decide +kernel
end
section
theorem rn_k215_0 : rn_t215_0.all (rn_che rn_m215) = true := by decide +kernel
theorem rn_k215_1 : rn_t215_1.all (rn_che rn_m215) = true := by decide +kernel
theorem rn_k215_2 : rn_t215_2.all (rn_che rn_m215) = true := by decide +kernel
theorem rn_k215_3 : rn_t215_3.all (rn_che rn_m215) = true := by decide +kernel
theorem rn_k215_4 : rn_t215_4.all (rn_che rn_m215) = true := by decide +kernel
theorem rn_k215_5 : rn_t215_5.all (rn_che rn_m215) = true := by decide +kernel
theorem rn_k215_6 : rn_t215_6.all (rn_che rn_m215) = true := by decide +kernel
theorem rn_k215_7 : rn_t215_7.all (rn_che rn_m215) = true := by decide +kernel
theorem rn_k215_8 : rn_t215_8.all (rn_che rn_m215) = true := by decide +kernel
theorem rn_k215_9 : rn_t215_9.all (rn_che rn_m215) = true := by decide +kernel
theorem rn_k215 : rn_chm rn_m215 = true := by
  show rn_t215.all (rn_che rn_m215) = true
  unfold rn_t215
  simp only [List.all_append, rn_k215_0, rn_k215_1, rn_k215_2, rn_k215_3, rn_k215_4, rn_k215_5, rn_k215_6, rn_k215_7, rn_k215_8, rn_k215_9, Bool.and_self]
end
section
set_option maxRecDepth 100000 in
theorem rn_kall : ∀ mt ∈ rn_mts, rn_chm mt = true := by
  unfold rn_mts
  exact List.forall_mem_cons.mpr ⟨rn_k0, List.forall_mem_cons.mpr ⟨rn_k1, List.forall_mem_cons.mpr ⟨rn_k2, List.forall_mem_cons.mpr ⟨rn_k3, List.forall_mem_cons.mpr ⟨rn_k4, List.forall_mem_cons.mpr ⟨rn_k5, List.forall_mem_cons.mpr ⟨rn_k6, List.forall_mem_cons.mpr ⟨rn_k7, List.forall_mem_cons.mpr ⟨rn_k8, List.forall_mem_cons.mpr ⟨rn_k9, List.forall_mem_cons.mpr ⟨rn_k10, List.forall_mem_cons.mpr ⟨rn_k11, List.forall_mem_cons.mpr ⟨rn_k12, List.forall_mem_cons.mpr ⟨rn_k13, List.forall_mem_cons.mpr ⟨rn_k14, List.forall_mem_cons.mpr ⟨rn_k15, List.forall_mem_cons.mpr ⟨rn_k16, List.forall_mem_cons.mpr ⟨rn_k17, List.forall_mem_cons.mpr ⟨rn_k18, List.forall_mem_cons.mpr ⟨rn_k19, List.forall_mem_cons.mpr ⟨rn_k20, List.forall_mem_cons.mpr ⟨rn_k21, List.forall_mem_cons.mpr ⟨rn_k22, List.forall_mem_cons.mpr ⟨rn_k23, List.forall_mem_cons.mpr ⟨rn_k24, List.forall_mem_cons.mpr ⟨rn_k25, List.forall_mem_cons.mpr ⟨rn_k26, List.forall_mem_cons.mpr ⟨rn_k27, List.forall_mem_cons.mpr ⟨rn_k28, List.forall_mem_cons.mpr ⟨rn_k29, List.forall_mem_cons.mpr ⟨rn_k30, List.forall_mem_cons.mpr ⟨rn_k31, List.forall_mem_cons.mpr ⟨rn_k32, List.forall_mem_cons.mpr ⟨rn_k33, List.forall_mem_cons.mpr ⟨rn_k34, List.forall_mem_cons.mpr ⟨rn_k35, List.forall_mem_cons.mpr ⟨rn_k36, List.forall_mem_cons.mpr ⟨rn_k37, List.forall_mem_cons.mpr ⟨rn_k38, List.forall_mem_cons.mpr ⟨rn_k39, List.forall_mem_cons.mpr ⟨rn_k40, List.forall_mem_cons.mpr ⟨rn_k41, List.forall_mem_cons.mpr ⟨rn_k42, List.forall_mem_cons.mpr ⟨rn_k43, List.forall_mem_cons.mpr ⟨rn_k44, List.forall_mem_cons.mpr ⟨rn_k45, List.forall_mem_cons.mpr ⟨rn_k46, List.forall_mem_cons.mpr ⟨rn_k47, List.forall_mem_cons.mpr ⟨rn_k48, List.forall_mem_cons.mpr ⟨rn_k49, List.forall_mem_cons.mpr ⟨rn_k50, List.forall_mem_cons.mpr ⟨rn_k51, List.forall_mem_cons.mpr ⟨rn_k52, List.forall_mem_cons.mpr ⟨rn_k53, List.forall_mem_cons.mpr ⟨rn_k54, List.forall_mem_cons.mpr ⟨rn_k55, List.forall_mem_cons.mpr ⟨rn_k56, List.forall_mem_cons.mpr ⟨rn_k57, List.forall_mem_cons.mpr ⟨rn_k58, List.forall_mem_cons.mpr ⟨rn_k59, List.forall_mem_cons.mpr ⟨rn_k60, List.forall_mem_cons.mpr ⟨rn_k61, List.forall_mem_cons.mpr ⟨rn_k62, List.forall_mem_cons.mpr ⟨rn_k63, List.forall_mem_cons.mpr ⟨rn_k64, List.forall_mem_cons.mpr ⟨rn_k65, List.forall_mem_cons.mpr ⟨rn_k66, List.forall_mem_cons.mpr ⟨rn_k67, List.forall_mem_cons.mpr ⟨rn_k68, List.forall_mem_cons.mpr ⟨rn_k69, List.forall_mem_cons.mpr ⟨rn_k70, List.forall_mem_cons.mpr ⟨rn_k71, List.forall_mem_cons.mpr ⟨rn_k72, List.forall_mem_cons.mpr ⟨rn_k73, List.forall_mem_cons.mpr ⟨rn_k74, List.forall_mem_cons.mpr ⟨rn_k75, List.forall_mem_cons.mpr ⟨rn_k76, List.forall_mem_cons.mpr ⟨rn_k77, List.forall_mem_cons.mpr ⟨rn_k78, List.forall_mem_cons.mpr ⟨rn_k79, List.forall_mem_cons.mpr ⟨rn_k80, List.forall_mem_cons.mpr ⟨rn_k81, List.forall_mem_cons.mpr ⟨rn_k82, List.forall_mem_cons.mpr ⟨rn_k83, List.forall_mem_cons.mpr ⟨rn_k84, List.forall_mem_cons.mpr ⟨rn_k85, List.forall_mem_cons.mpr ⟨rn_k86, List.forall_mem_cons.mpr ⟨rn_k87, List.forall_mem_cons.mpr ⟨rn_k88, List.forall_mem_cons.mpr ⟨rn_k89, List.forall_mem_cons.mpr ⟨rn_k90, List.forall_mem_cons.mpr ⟨rn_k91, List.forall_mem_cons.mpr ⟨rn_k92, List.forall_mem_cons.mpr ⟨rn_k93, List.forall_mem_cons.mpr ⟨rn_k94, List.forall_mem_cons.mpr ⟨rn_k95, List.forall_mem_cons.mpr ⟨rn_k96, List.forall_mem_cons.mpr ⟨rn_k97, List.forall_mem_cons.mpr ⟨rn_k98, List.forall_mem_cons.mpr ⟨rn_k99, List.forall_mem_cons.mpr ⟨rn_k100, List.forall_mem_cons.mpr ⟨rn_k101, List.forall_mem_cons.mpr ⟨rn_k102, List.forall_mem_cons.mpr ⟨rn_k103, List.forall_mem_cons.mpr ⟨rn_k104, List.forall_mem_cons.mpr ⟨rn_k105, List.forall_mem_cons.mpr ⟨rn_k106, List.forall_mem_cons.mpr ⟨rn_k107, List.forall_mem_cons.mpr ⟨rn_k108, List.forall_mem_cons.mpr ⟨rn_k109, List.forall_mem_cons.mpr ⟨rn_k110, List.forall_mem_cons.mpr ⟨rn_k111, List.forall_mem_cons.mpr ⟨rn_k112, List.forall_mem_cons.mpr ⟨rn_k113, List.forall_mem_cons.mpr ⟨rn_k114, List.forall_mem_cons.mpr ⟨rn_k115, List.forall_mem_cons.mpr ⟨rn_k116, List.forall_mem_cons.mpr ⟨rn_k117, List.forall_mem_cons.mpr ⟨rn_k118, List.forall_mem_cons.mpr ⟨rn_k119, List.forall_mem_cons.mpr ⟨rn_k120, List.forall_mem_cons.mpr ⟨rn_k121, List.forall_mem_cons.mpr ⟨rn_k122, List.forall_mem_cons.mpr ⟨rn_k123, List.forall_mem_cons.mpr ⟨rn_k124, List.forall_mem_cons.mpr ⟨rn_k125, List.forall_mem_cons.mpr ⟨rn_k126, List.forall_mem_cons.mpr ⟨rn_k127, List.forall_mem_cons.mpr ⟨rn_k128, List.forall_mem_cons.mpr ⟨rn_k129, List.forall_mem_cons.mpr ⟨rn_k130, List.forall_mem_cons.mpr ⟨rn_k131, List.forall_mem_cons.mpr ⟨rn_k132, List.forall_mem_cons.mpr ⟨rn_k133, List.forall_mem_cons.mpr ⟨rn_k134, List.forall_mem_cons.mpr ⟨rn_k135, List.forall_mem_cons.mpr ⟨rn_k136, List.forall_mem_cons.mpr ⟨rn_k137, List.forall_mem_cons.mpr ⟨rn_k138, List.forall_mem_cons.mpr ⟨rn_k139, List.forall_mem_cons.mpr ⟨rn_k140, List.forall_mem_cons.mpr ⟨rn_k141, List.forall_mem_cons.mpr ⟨rn_k142, List.forall_mem_cons.mpr ⟨rn_k143, List.forall_mem_cons.mpr ⟨rn_k144, List.forall_mem_cons.mpr ⟨rn_k145, List.forall_mem_cons.mpr ⟨rn_k146, List.forall_mem_cons.mpr ⟨rn_k147, List.forall_mem_cons.mpr ⟨rn_k148, List.forall_mem_cons.mpr ⟨rn_k149, List.forall_mem_cons.mpr ⟨rn_k150, List.forall_mem_cons.mpr ⟨rn_k151, List.forall_mem_cons.mpr ⟨rn_k152, List.forall_mem_cons.mpr ⟨rn_k153, List.forall_mem_cons.mpr ⟨rn_k154, List.forall_mem_cons.mpr ⟨rn_k155, List.forall_mem_cons.mpr ⟨rn_k156, List.forall_mem_cons.mpr ⟨rn_k157, List.forall_mem_cons.mpr ⟨rn_k158, List.forall_mem_cons.mpr ⟨rn_k159, List.forall_mem_cons.mpr ⟨rn_k160, List.forall_mem_cons.mpr ⟨rn_k161, List.forall_mem_cons.mpr ⟨rn_k162, List.forall_mem_cons.mpr ⟨rn_k163, List.forall_mem_cons.mpr ⟨rn_k164, List.forall_mem_cons.mpr ⟨rn_k165, List.forall_mem_cons.mpr ⟨rn_k166, List.forall_mem_cons.mpr ⟨rn_k167, List.forall_mem_cons.mpr ⟨rn_k168, List.forall_mem_cons.mpr ⟨rn_k169, List.forall_mem_cons.mpr ⟨rn_k170, List.forall_mem_cons.mpr ⟨rn_k171, List.forall_mem_cons.mpr ⟨rn_k172, List.forall_mem_cons.mpr ⟨rn_k173, List.forall_mem_cons.mpr ⟨rn_k174, List.forall_mem_cons.mpr ⟨rn_k175, List.forall_mem_cons.mpr ⟨rn_k176, List.forall_mem_cons.mpr ⟨rn_k177, List.forall_mem_cons.mpr ⟨rn_k178, List.forall_mem_cons.mpr ⟨rn_k179, List.forall_mem_cons.mpr ⟨rn_k180, List.forall_mem_cons.mpr ⟨rn_k181, List.forall_mem_cons.mpr ⟨rn_k182, List.forall_mem_cons.mpr ⟨rn_k183, List.forall_mem_cons.mpr ⟨rn_k184, List.forall_mem_cons.mpr ⟨rn_k185, List.forall_mem_cons.mpr ⟨rn_k186, List.forall_mem_cons.mpr ⟨rn_k187, List.forall_mem_cons.mpr ⟨rn_k188, List.forall_mem_cons.mpr ⟨rn_k189, List.forall_mem_cons.mpr ⟨rn_k190, List.forall_mem_cons.mpr ⟨rn_k191, List.forall_mem_cons.mpr ⟨rn_k192, List.forall_mem_cons.mpr ⟨rn_k193, List.forall_mem_cons.mpr ⟨rn_k194, List.forall_mem_cons.mpr ⟨rn_k195, List.forall_mem_cons.mpr ⟨rn_k196, List.forall_mem_cons.mpr ⟨rn_k197, List.forall_mem_cons.mpr ⟨rn_k198, List.forall_mem_cons.mpr ⟨rn_k199, List.forall_mem_cons.mpr ⟨rn_k200, List.forall_mem_cons.mpr ⟨rn_k201, List.forall_mem_cons.mpr ⟨rn_k202, List.forall_mem_cons.mpr ⟨rn_k203, List.forall_mem_cons.mpr ⟨rn_k204, List.forall_mem_cons.mpr ⟨rn_k205, List.forall_mem_cons.mpr ⟨rn_k206, List.forall_mem_cons.mpr ⟨rn_k207, List.forall_mem_cons.mpr ⟨rn_k208, List.forall_mem_cons.mpr ⟨rn_k209, List.forall_mem_cons.mpr ⟨rn_k210, List.forall_mem_cons.mpr ⟨rn_k211, List.forall_mem_cons.mpr ⟨rn_k212, List.forall_mem_cons.mpr ⟨rn_k213, List.forall_mem_cons.mpr ⟨rn_k214, List.forall_mem_cons.mpr ⟨rn_k215, fun _ h => absurd h List.not_mem_nil⟩⟩⟩⟩⟩⟩⟩⟩⟩⟩⟩⟩⟩⟩⟩⟩⟩⟩⟩⟩⟩⟩⟩⟩⟩⟩⟩⟩⟩⟩⟩⟩⟩⟩⟩⟩⟩⟩⟩⟩⟩⟩⟩⟩⟩⟩⟩⟩⟩⟩⟩⟩⟩⟩⟩⟩⟩⟩⟩⟩⟩⟩⟩⟩⟩⟩⟩⟩⟩⟩⟩⟩⟩⟩⟩⟩⟩⟩⟩⟩⟩⟩⟩⟩⟩⟩⟩⟩⟩⟩⟩⟩⟩⟩⟩⟩⟩⟩⟩⟩⟩⟩⟩⟩⟩⟩⟩⟩⟩⟩⟩⟩⟩⟩⟩⟩⟩⟩⟩⟩⟩⟩⟩⟩⟩⟩⟩⟩⟩⟩⟩⟩⟩⟩⟩⟩⟩⟩⟩⟩⟩⟩⟩⟩⟩⟩⟩⟩⟩⟩⟩⟩⟩⟩⟩⟩⟩⟩⟩⟩⟩⟩⟩⟩⟩⟩⟩⟩⟩⟩⟩⟩⟩⟩⟩⟩⟩⟩⟩⟩⟩⟩⟩⟩⟩⟩⟩⟩⟩⟩⟩⟩⟩⟩⟩⟩⟩⟩⟩⟩⟩⟩⟩⟩⟩⟩⟩⟩⟩⟩⟩⟩⟩⟩⟩⟩
theorem rn_kat {y pc : Nat} {mt : rn_Mt} {e : rn_E} (hm : rn_mt y = some mt) (he : rn_look (rn_tb mt) pc = some e) : decode mt.2.1 pc = .ok (e.1, e.2.1 - pc) ∧ rn_chi mt pc e = true := by
  have h1 := List.all_eq_true.mp (rn_kall mt (List.mem_of_getElem? hm))
  have h2 : ∀ (t : List (Nat × rn_E)), rn_look t pc = some e → (pc, e) ∈ t := by
    intro t
    induction t with
    | nil => intro h; cases h
    | cons q t ih =>
      intro h
      obtain ⟨p, x⟩ := q
      unfold rn_look at h
      split at h
      · rename_i hp
        cases h
        rw [Nat.eq_of_beq_eq_true hp]
        exact List.mem_cons_self
      · exact List.mem_cons_of_mem _ (ih h)
  have h3 := h1 _ (h2 _ he)
  unfold rn_che at h3
  rw [Bool.and_eq_true, decide_eq_true_eq] at h3
  exact h3
end
section
/-! the world's cells: read, written, made -/
theorem rn_kd_si {M : rn_M} {a k : Nat} {v : Int} (b : Nat) : rn_kd (rn_si M a k v) b = rn_kd M b := rfl
theorem rn_el_cong {tys : List (ClassId × FieldType)} {n : Nat} {ad : Nat → Nat} {M M' : rn_M} {a : Nat} {el : va_E} (h1 : rn_kd M' a = rn_kd M a) (h2 : rn_ln M' a = rn_ln M a) (h3 : ∀ j, rn_gi M' a j = rn_gi M a j) (h4 : ∀ j, rn_gr M' a j = rn_gr M a j) (h : rn_el tys n ad M a el) : rn_el tys n ad M' a el := by
  revert h
  unfold rn_el
  split
  · intro h
    simp only [rn_fv, h1, h3, h4] at h ⊢
    exact h
  · intro h
    simp only [h1, h2, h3] at h ⊢
    exact h
  · intro h
    simp only [h1, h2, h4] at h ⊢
    exact h
  · exact id
theorem rn_el_ext {tys tys' : List (ClassId × FieldType)} {n n' : Nat} {ad ad' : Nat → Nat} {M : rn_M} {a : Nat} {el : va_E} (hn : n ≤ n') (ha : ∀ a, a < n → ad' a = ad a) (ht : ∀ (t : Nat) (q : ClassId × FieldType), tys[t]? = some q → ∃ t2 : Nat, tys'[t2]? = some q) (h : rn_el tys n ad M a el) : rn_el tys' n' ad' M a el := by
  revert h
  unfold rn_el
  split
  · intro h
    refine ⟨h.1, h.2.1, h.2.2.1, fun b hb => ?_⟩
    obtain ⟨x, h5, h6⟩ := h.2.2.2 b hb
    exact ⟨x, h5, rn_vr_ext hn ha h6⟩
  · intro h
    obtain ⟨g1, g2, g3, ⟨t, g4⟩, g5⟩ := h
    exact ⟨g1, g2, g3, ht t _ g4, g5⟩
  · intro h
    obtain ⟨ci, g1, g2, g3, g6, ⟨t, g4⟩, g5⟩ := h
    exact ⟨ci, g1, g2, g3, g6, ht t _ g4, fun j hj => rn_vr_ext hn ha (g5 j hj)⟩
  · exact id
section RNW
variable {tys : List (ClassId × FieldType)} {ad : Nat → Nat} {M : rn_M} {ws : va_W}
theorem rn_Ws_8 {r : Nat} (h : rn_Ws tys ad M ws) (hk : rn_kd M r < 21 ∨ 24 < rn_kd M r) : 8 ≤ r := by
  rcases Nat.lt_or_ge r 8 with q | q
  · have := h.2.1 r q; omega
  · exact q
theorem rn_W_at {r : Nat} (h : rn_Ws tys ad M ws) (hr : r < M.1.length) (h8 : 8 ≤ r) : ∃ el, ws[r - 8]? = some (ad r, el) ∧ rn_el tys M.1.length ad M r el := by
  obtain ⟨el, h1, h2⟩ := h.2.2 (r - 8) (by have := h.1; omega)
  rw [Nat.sub_add_cancel h8] at h1 h2
  exact ⟨el, h1, h2⟩
theorem rn_W_obj {r ci : Nat} (h : rn_Ws tys ad M ws) (hr : r < M.1.length) (hk : rn_kd M r = ci + 1) (hc : ci < 11) : 8 ≤ r ∧ ∃ fs, ws[r - 8]? = some (ad r, .inr (ci, fs)) ∧ fs.length = rn_nf ci ∧ ∀ b, b < rn_nf ci → ∃ x, fs[b]? = some x ∧ rn_vr M.1.length ad (rn_fv (rn_fk ci b) M r b) x := by
  have h8 := rn_Ws_8 h (r := r) (by omega)
  obtain ⟨el, h1, h2⟩ := rn_W_at h hr h8
  refine ⟨h8, ?_⟩
  unfold rn_el at h2
  split at h2
  · rename_i c2 fs
    obtain ⟨g1, g2, g3, g4⟩ := h2
    have e : c2 = ci := by omega
    subst e
    exact ⟨fs, h1, g3, g4⟩
  · have := h2.1; omega
  · obtain ⟨ci2, g1, g2, -⟩ := h2; omega
  · exact h2.elim
theorem rn_W_arr {r : Nat} (h : rn_Ws tys ad M ws) (hr : r < M.1.length) (hk : rn_kd M r = 20) : 8 ≤ r ∧ rn_ln M r ≤ 100000 ∧ ∃ (cA : ClassId) (f : Nat → Int32) (t : Nat), ws[r - 8]? = some (ad r, .inl (cA, rn_ln M r, .inl f)) ∧ tys[t]? = some (cA, .int) ∧ ∀ j, j < rn_ln M r → (f j).toInt = rn_gi M r j := by
  have h8 := rn_Ws_8 h (r := r) (by omega)
  obtain ⟨el, h1, h2⟩ := rn_W_at h hr h8
  refine ⟨h8, ?_⟩
  unfold rn_el at h2
  split at h2
  · have := h2.1; have := h2.2.1; omega
  · rename_i cA len f
    obtain ⟨g1, rfl, g3, ⟨t, g4⟩, g5⟩ := h2
    exact ⟨g3, cA, f, t, h1, g4, g5⟩
  · obtain ⟨ci2, g1, g2, -⟩ := h2; omega
  · exact h2.elim
theorem rn_W_arq {r : Nat} (h : rn_Ws tys ad M ws) (hr : r < M.1.length) (hk : 30 ≤ rn_kd M r) : 8 ≤ r ∧ rn_ln M r ≤ 100000 ∧ ∃ (ci : Nat) (cA : ClassId) (f : Nat → Option Nat) (t : Nat), rn_kd M r = ci + 30 ∧ ci < 11 ∧ ws[r - 8]? = some (ad r, .inl (cA, rn_ln M r, .inr (.inr (.inr (.inr f))))) ∧ tys[t]? = some (cA, .object (rn_cn ci)) ∧ ∀ j, j < rn_ln M r → rn_vr M.1.length ad (.inr (some (rn_gr M r j))) (va_rf (f j)) := by
  have h8 := rn_Ws_8 h (r := r) (by omega)
  obtain ⟨el, h1, h2⟩ := rn_W_at h hr h8
  refine ⟨h8, ?_⟩
  unfold rn_el at h2
  split at h2
  · have := h2.1; have := h2.2.1; omega
  · have := h2.1; omega
  · rename_i cA len f
    obtain ⟨ci, g1, g2, rfl, g3, ⟨t, g4⟩, g5⟩ := h2
    exact ⟨g3, ci, cA, f, t, g1, g2, h1, g4, g5⟩
  · exact h2.elim
theorem rn_Ws_set {M' : rn_M} {r : Nat} {el : va_E} (h : rn_Ws tys ad M ws) (h8 : 8 ≤ r) (hr : r < M.1.length) (h1 : M'.1 = M.1) (h2 : ∀ a, a ≠ r → ∀ j, rn_gi M' a j = rn_gi M a j ∧ rn_gr M' a j = rn_gr M a j) (h3 : rn_el tys M.1.length ad M' r el) : rn_Ws tys ad M' (ws.set (r - 8) (ad r, el)) := by
  have hk : ∀ a, rn_kd M' a = rn_kd M a := fun a => by unfold rn_kd; rw [h1]
  have hl : ∀ a, rn_ln M' a = rn_ln M a := fun a => by unfold rn_ln; rw [h1]
  refine ⟨by rw [List.length_set, h1]; exact h.1, fun a ha => by rw [hk]; exact h.2.1 a ha, fun k hk2 => ?_⟩
  rw [List.length_set] at hk2
  rw [h1]
  by_cases e : r - 8 = k
  · subst e
    rw [List.getElem?_set_self hk2, Nat.sub_add_cancel h8]
    exact ⟨el, rfl, h3⟩
  · rw [List.getElem?_set_ne e]
    obtain ⟨el2, g1, g2⟩ := h.2.2 k hk2
    refine ⟨el2, g1, rn_el_cong (hk _) (hl _) (fun j => (h2 _ ?_ j).1) (fun j => (h2 _ ?_ j).2) g2⟩ <;> omega
end RNW
theorem rn_nw_kd {M : rn_M} {k n a : Nat} (h : a < M.1.length) : rn_kd (rn_nw M k n) a = rn_kd M a ∧ rn_ln (rn_nw M k n) a = rn_ln M a := by
  unfold rn_kd rn_ln rn_nw
  simp only [List.getD_eq_getElem?_getD, List.getElem?_append_left h]
  exact ⟨trivial, trivial⟩
theorem rn_nw_kn {M : rn_M} {k n : Nat} : rn_kd (rn_nw M k n) M.1.length = k ∧ rn_ln (rn_nw M k n) M.1.length = n := by
  unfold rn_kd rn_ln rn_nw
  simp [List.getD_eq_getElem?_getD]
theorem rn_nw_gi {M : rn_M} {k n a : Nat} (h : a < M.1.length) (j : Nat) : rn_gi (rn_nw M k n) a j = rn_gi M a j ∧ rn_gr (rn_nw M k n) a j = rn_gr M a j := by
  have e : a ≠ M.1.length := Nat.ne_of_lt h
  unfold rn_gi rn_gr rn_nw
  simp only [if_neg e]
  exact ⟨trivial, trivial⟩
theorem rn_nw_gn {M : rn_M} {k n : Nat} (j : Nat) : rn_gi (rn_nw M k n) M.1.length j = 0 ∧ rn_gr (rn_nw M k n) M.1.length j = none := by
  unfold rn_gi rn_gr rn_nw
  simp
def rn_ad (ad : Nat → Nat) (n q : Nat) : Nat → Nat := fun a => if a = n then q else ad a
theorem rn_ad_lt {ad : Nat → Nat} {n q a : Nat} (h : a < n) : rn_ad ad n q a = ad a := by
  unfold rn_ad
  rw [if_neg (Nat.ne_of_lt h)]
theorem rn_ad_n {ad : Nat → Nat} {n q : Nat} : rn_ad ad n q n = q := by simp [rn_ad]
theorem rn_nw_len {M : rn_M} {k n : Nat} : (rn_nw M k n).1.length = M.1.length + 1 := by simp [rn_nw]
theorem rn_nw_xt {M : rn_M} {ad : Nat → Nat} {k n q : Nat} (h8 : 8 ≤ M.1.length) : rn_xt M (rn_nw M k n) ad (rn_ad ad M.1.length q) := by
  refine ⟨by rw [rn_nw_len]; omega, fun a h => rn_ad_lt h, fun a h => ?_⟩
  have h2 : a < M.1.length := by omega
  exact ⟨(rn_nw_kd h2).1, (rn_nw_kd h2).2, fun j => (rn_nw_gi h2 j).1, fun j => (rn_nw_gi h2 j).2⟩
theorem rn_Ws_app {tys tys' : List (ClassId × FieldType)} {ad : Nat → Nat} {M : rn_M} {ws : va_W} {k n q : Nat} {el : va_E} (h : rn_Ws tys ad M ws) (ht : ∀ (t : Nat) (q : ClassId × FieldType), tys[t]? = some q → ∃ t2 : Nat, tys'[t2]? = some q)
    (hel : rn_el tys' (M.1.length + 1) (rn_ad ad M.1.length q) (rn_nw M k n) M.1.length el) : rn_Ws tys' (rn_ad ad M.1.length q) (rn_nw M k n) (ws ++ [(q, el)]) := by
  have hl := h.1
  refine ⟨by rw [rn_nw_len, List.length_append, List.length_singleton]; omega, fun a ha => by rw [(rn_nw_kd (by omega)).1]; exact h.2.1 a ha, fun k2 hk2 => ?_⟩
  rw [List.length_append] at hk2
  simp only [List.length_cons, List.length_nil] at hk2
  rw [rn_nw_len]
  rcases Nat.lt_or_ge k2 ws.length with g | g
  · rw [List.getElem?_append_left g]
    obtain ⟨el2, g1, g2⟩ := h.2.2 k2 g
    have h5 : k2 + 8 < M.1.length := by omega
    rw [rn_ad_lt h5]
    refine ⟨el2, g1, ?_⟩
    exact rn_el_ext (n := M.1.length) (by omega) (fun a ha => rn_ad_lt ha) ht (rn_el_cong (rn_nw_kd h5).1 (rn_nw_kd h5).2 (fun j => (rn_nw_gi h5 j).1) (fun j => (rn_nw_gi h5 j).2) g2)
  · have e : k2 = ws.length := by omega
    subst e
    rw [List.getElem?_append_right (Nat.le_refl _), hl, rn_ad_n]
    refine ⟨el, by simp, hel⟩
theorem rn_in_vp {M : rn_M} {r : Nat} {i : Int32} (h : rn_in M r i.toInt) (hl : rn_ln M r ≤ 100000) : vp_in i (rn_ln M r) ∧ i.toNatClampNeg = i.toInt.toNat ∧ i.toInt.toNat < rn_ln M r := by
  obtain ⟨h1, h2⟩ := h
  have e : i.toNatClampNeg = i.toInt.toNat := rfl
  refine ⟨vp_in_iff.mpr ⟨h1, h2⟩, e, by omega⟩
end
section
/-! soundness: what the abstract machine does, the machine does -/
theorem rn_st1_out {st : List rn_V} {f : Int → List rn_V → Prop} (h : rn_st1 st f) : ∃ x t, st = .inl x :: t ∧ f x t := by
  unfold rn_st1 at h; split at h
  · exact ⟨_, _, rfl, h⟩
  · exact h.elim
theorem rn_st2_out {st : List rn_V} {f : Int → Int → List rn_V → Prop} (h : rn_st2 st f) : ∃ x y t, st = .inl y :: .inl x :: t ∧ f x y t := by
  unfold rn_st2 at h; split at h
  · exact ⟨_, _, _, rfl, h⟩
  · exact h.elim
theorem rn_stR_out {st : List rn_V} {f : Nat → List rn_V → Prop} (h : rn_stR st f) : ∃ a t, st = .inr (some (some a)) :: t ∧ f a t := by
  unfold rn_stR at h; split at h
  · exact ⟨_, _, rfl, h⟩
  · exact h.elim
theorem rn_stA_out {st : List rn_V} {f : Nat → Int → List rn_V → Prop} (h : rn_stA st f) : ∃ a i t, st = .inl i :: .inr (some (some a)) :: t ∧ f a i t := by
  unfold rn_stA at h; split at h
  · exact ⟨_, _, _, rfl, h⟩
  · exact h.elim
theorem rn_ldI_out {L : List rn_V} {i : Nat} {f : Int → Prop} (h : rn_ldI L i f) : ∃ x, L[i]? = some (.inl x) ∧ f x := by
  unfold rn_ldI at h; split at h
  · exact ⟨_, by assumption, h⟩
  · exact h.elim
theorem rn_ldR_out {L : List rn_V} {i : Nat} {f : Option Nat → Prop} (h : rn_ldR L i f) : ∃ x, L[i]? = some (.inr (some x)) ∧ f x := by
  unfold rn_ldR at h; split at h
  · exact ⟨_, by assumption, h⟩
  · exact h.elim
theorem rn_g_out {b : Bool} {P : Prop} (h : rn_g b P) : b = true ∧ P := by cases b; exact h.elim; exact ⟨rfl, h⟩
theorem rn_vs_I {n : Nat} {ad : Nat → Nat} {x : Int} {t : List rn_V} {stk : List Value} (h : rn_vs n ad (.inl x :: t) stk) : ∃ (k : Int32) (r : List Value), stk = .int k :: r ∧ k.toInt = x ∧ rn_vs n ad t r := by
  cases stk with
  | nil => exact h.elim
  | cons v r =>
    obtain ⟨⟨k, rfl, hk⟩, h2⟩ := h
    exact ⟨k, r, rfl, hk, h2⟩
theorem rn_vs_R {n : Nat} {ad : Nat → Nat} {a : Nat} {t : List rn_V} {stk : List Value} (h : rn_vs n ad (.inr (some (some a)) :: t) stk) : ∃ (r : List Value), stk = .ref (ad a) :: r ∧ a < n ∧ rn_vs n ad t r := by
  cases stk with
  | nil => exact h.elim
  | cons v r =>
    obtain ⟨⟨h1, rfl⟩, h2⟩ := h
    exact ⟨r, rfl, h1, h2⟩
theorem rn_vs_N {n : Nat} {ad : Nat → Nat} {t : List rn_V} {stk : List Value} (h : rn_vs n ad (.inr (some none) :: t) stk) : ∃ (r : List Value), stk = .null :: r ∧ rn_vs n ad t r := by
  cases stk with
  | nil => exact h.elim
  | cons v r =>
    obtain ⟨h1, h2⟩ := h
    cases h1
    exact ⟨r, rfl, h2⟩
theorem rn_vs_c {n : Nat} {ad : Nat → Nat} {v : rn_V} {t : List rn_V} {stk : List Value} (h : rn_vs n ad (v :: t) stk) : ∃ (x : Value) (r : List Value), stk = x :: r ∧ rn_vr n ad v x ∧ rn_vs n ad t r := by
  cases stk with
  | nil => exact h.elim
  | cons x r => exact ⟨x, r, rfl, h.1, h.2⟩
theorem rn_i0 {k : Int32} : (k = 0) = (k.toInt = 0) := propext ⟨fun h => by rw [h]; rfl, fun h => Int32.toInt_inj.mp h⟩
theorem rn_ie {k j : Int32} : (k = j) = (k.toInt = j.toInt) := propext ⟨fun h => by rw [h], fun h => Int32.toInt_inj.mp h⟩
theorem rn_il {k j : Int32} : (k < j) = (k.toInt < j.toInt) := propext Int32.lt_iff_toInt_lt
theorem rn_ile {k j : Int32} : (k ≤ j) = (k.toInt ≤ j.toInt) := propext Int32.le_iff_toInt_le
theorem rn_wr_wr (x n : Int) : rn_wr (x + rn_wr n) = rn_wr (x + n) := by unfold rn_wr; omega
theorem rn_wr_id {x : Int} (h : -2147483648 ≤ x) (h2 : x ≤ 2147483647) : rn_wr x = x := by unfold rn_wr; omega
def rn_Cx (A : Nat → Prop) (p : Program) (R : Room) (s : State) (m : MethodId) (args : Array Value) (meth : Method) (c : Code) (mt : rn_Mt) : Prop :=
  p.tables.exec = Jvm.exec ∧ c.code = mt.2.1 ∧ s.vm.findClass mt.1.cls = some m.cls ∧ (∀ w ∈ rn_Wd, w.before args s = true) ∧ (mt.1.name = "<init>" → meth.name = "<init>") ∧ rn_fr mt ≤ R.frames ∧ rn_lw mt ≤ R.locals ∧ ∀ q, s.heap.size ≤ q → A q
def rn_Dz (D : va_G) (A : Nat → Prop) (R : Room) (s : State) (mt : rn_Mt) (ad : Nat → Nat) (tys : List (ClassId × FieldType)) (ws : va_W) (M : rn_M) (H : Heap) (locs : List Loc) (cells slots : Nat) : Prop :=
  rn_W D A tys ws ad M s H ∧ rn_Ev ad M A s s.heap ∧ rn_Ef ad A s s.heap ∧ va_S A s.heap H locs ∧ cells ≤ R.cells ∧ slots ≤ R.slots ∧ (rn_al mt = true → cells + M.2.1.1 ≤ R.cells ∧ slots + M.2.1.2 ≤ R.slots)
def rn_Rt (mt : rn_Mt) (r : Option rn_V) (pc n : Nat) (ad : Nat → Nat) (stk : List Value) : Prop := match r with
  | none => decode mt.2.1 pc = .ok (.return_, 1) ∧ rn_rk mt.2.2.2.1 = 5 ∧ stk = []
  | some (.inl x) => decode mt.2.1 pc = .ok (.ireturn, 1) ∧ rn_rk mt.2.2.2.1 ≤ 3 ∧ rn_okr (rn_rk mt.2.2.2.1) x ∧ ∃ k : Int32, stk = [.int k] ∧ k.toInt = x
  | some (.inr v) => decode mt.2.1 pc = .ok (.areturn, 1) ∧ rn_rk mt.2.2.2.1 = 4 ∧ ∃ z, stk = [z] ∧ rn_vr n ad (.inr v) z ∧ (z = .null ∨ ∃ a, z = .ref a)
def rn_Ex (l : Launch) (D : va_G) (A : Nat → Prop) (p : Program) (e : Env) (R : Room) (s : State) (m : MethodId) (args : Array Value) (below : List Frame) (meth : Method) (c : Code) (mt : rn_Mt) (QQ : State → Prop) (ad : Nat → Nat) (M : rn_M) (Q : rn_Q) : Prop :=
  ∀ (r : Option rn_V) (M' : rn_M) (ad' : Nat → Nat) (tys' : List (ClassId × FieldType)) (ws' : va_W) (H' : Heap) (locs' : List Loc) (cells' slots' pc' : Nat) (ls' : Array Slot) (stk' : List Value), Q r M' → rn_xt M M' ad ad' → (rn_al mt = false → M'.2.1 = M.2.1) → rn_Rt mt r pc' M'.1.length ad' stk' → rn_W D A tys' ws' ad' M' s H' → va_S A s.heap H' locs' → cells' ≤ R.cells → slots' ≤ R.slots → W p l e R s m args below meth c H' locs' cells' slots' QQ (F0 m pc' ls' stk')
def rn_Snd (l : Launch) (D : va_G) (A : Nat → Prop) : rn_X := fun y pc L st M Q => ∀ (mt : rn_Mt), rn_mt y = some mt → ∀ (p : Program) (e : Env) (R : Room) (s : State) (m : MethodId) (args : Array Value) (below : List Frame) (meth : Method) (c : Code) (H : Heap) (locs : List Loc) (cells slots : Nat) (QQ : State → Prop) (ls : Array Slot) (stk : List Value) (ad : Nat → Nat) (tys : List (ClassId × FieldType)) (ws : va_W),
  rn_Cx A p R s m args meth c mt → c.maxLocals = L.length → rn_lr M.1.length ad L ls → rn_vs M.1.length ad st stk → rn_Dz D A R s mt ad tys ws M H locs cells slots → rn_Ex l D A p e R s m args below meth c mt QQ ad M Q → W p l e R s m args below meth c H locs cells slots QQ (F0 m pc ls stk)
theorem rn_Snd_mon {l : Launch} {D : va_G} {A : Nat → Prop} : rn_mon (rn_Snd l D A) := by
  intro y pc L st M Q Q' hQ h mt hm p e R s m args below meth c H locs cells slots QQ ls stk ad tys ws C hml hl hs hz E
  exact h mt hm p e R s m args below meth c H locs cells slots QQ ls stk ad tys ws C hml hl hs hz (fun r M' ad' tys' ws' H' locs' cells' slots' pc' ls' stk' hq => E r M' ad' tys' ws' H' locs' cells' slots' pc' ls' stk' (hQ _ _ hq))
section RNS
variable {l : Launch} {D : va_G} {A : Nat → Prop} {p : Program} {e : Env} {R : Room} {s : State} {m : MethodId} {args : Array Value} {below : List Frame} {meth : Method} {c : Code} {H : Heap} {locs : List Loc} {cells slots : Nat} {QQ : State → Prop} {ls : Array Slot} {stk : List Value} {ad : Nat → Nat} {tys : List (ClassId × FieldType)} {ws : va_W} {mt : rn_Mt} {y pc : Nat} {L st : List rn_V} {M : rn_M} {Q : rn_Q}
theorem rn_Ex_xt {M1 : rn_M} {ad1 : Nat → Nat} (hx : rn_xt M M1 ad ad1) (hb : rn_al mt = false → M1.2.1 = M.2.1) (E : rn_Ex l D A p e R s m args below meth c mt QQ ad M Q) : rn_Ex l D A p e R s m args below meth c mt QQ ad1 M1 Q :=
  fun r M' ad' tys' ws' H' locs' cells' slots' pc' ls' stk' hq hx2 hb2 => E r M' ad' tys' ws' H' locs' cells' slots' pc' ls' stk' hq (rn_xt_tr hx hx2) (fun q => (hb2 q).trans (hb q))
theorem rn_go0 {pc' : Nat} {L' st' : List rn_V} {ls' : Array Slot} {stk' : List Value} (hm : rn_mt y = some mt) (k : rn_Snd l D A y pc' L' st' M Q) (C : rn_Cx A p R s m args meth c mt) (hml : c.maxLocals = L'.length) (hl : rn_lr M.1.length ad L' ls') (hs : rn_vs M.1.length ad st' stk') (hz : rn_Dz D A R s mt ad tys ws M H locs cells slots) (E : rn_Ex l D A p e R s m args below meth c mt QQ ad M Q) :
    W p l e R s m args below meth c H locs cells slots QQ (F0 m pc' ls' stk') := k mt hm p e R s m args below meth c H locs cells slots QQ ls' stk' ad tys ws C hml hl hs hz E
/-- on with another memory of the same shape and room -/
theorem rn_go1 {pc' : Nat} {st' : List rn_V} {stk' : List Value} {M1 : rn_M} {ws1 : va_W} {H1 : Heap} {locs1 : List Loc} (hm : rn_mt y = some mt) (k : rn_Snd l D A y pc' L st' M1 Q) (C : rn_Cx A p R s m args meth c mt) (hml : c.maxLocals = L.length) (hl : rn_lr M.1.length ad L ls) (hs : rn_vs M.1.length ad st' stk') (hz : rn_Dz D A R s mt ad tys ws M H locs cells slots)
    (h1 : M1.1 = M.1) (h2 : M1.2.1 = M.2.1) (h3 : ∀ a, a < 8 → (∀ j, rn_gi M1 a j = rn_gi M a j) ∧ ∀ j, rn_gr M1 a j = rn_gr M a j) (hP : va_P D rn_cl ws1 H1) (hD : va_D A ws1) (hS : va_S A s.heap H1 locs1) (hW : rn_Ws tys ad M1 ws1) (E : rn_Ex l D A p e R s m args below meth c mt QQ ad M Q) :
    W p l e R s m args below meth c H1 locs1 cells slots QQ (F0 m pc' ls stk') := by
  obtain ⟨z1, z2, z3, z4, z5, z6, z7⟩ := hz
  have hx : rn_xt M M1 ad ad := ⟨by rw [h1]; exact Nat.le_refl _, fun _ _ => rfl, fun a ha => ⟨by unfold rn_kd; rw [h1], by unfold rn_ln; rw [h1], (h3 a ha).1, (h3 a ha).2⟩⟩
  have h8 : 8 ≤ M.1.length := by have := z1.2.2.2.1; omega
  refine k mt hm p e R s m args below meth c H1 locs1 cells slots QQ ls stk' ad tys ws1 C hml (by rw [h1]; exact hl) (by rw [h1]; exact hs) ⟨⟨z1.1, hP, hD, hW⟩, rn_Ev_xt h8 hx z2, z3, hS, z5, z6, by rw [h2]; exact z7⟩ (rn_Ex_xt hx (fun _ => h2) E)
/-- on with a new cell -/
theorem rn_go2 {pc' k0 n0 q : Nat} {st' : List rn_V} {stk' : List Value} {tys1 : List (ClassId × FieldType)} {el : va_E} {H1 : Heap} {locs1 : List Loc} (hm : rn_mt y = some mt) (k : rn_Snd l D A y pc' L (rn_R M.1.length :: st') (rn_nw M k0 n0) Q) (C : rn_Cx A p R s m args meth c mt) (hml : c.maxLocals = L.length) (hl : rn_lr M.1.length ad L ls) (hs : rn_vs M.1.length ad st' stk') (hz : rn_Dz D A R s mt ad tys ws M H locs cells slots)
    (hal : rn_al mt = true) (hb1 : 1 ≤ M.2.1.1) (hb2 : n0 ≤ M.2.1.2) (hK : va_K D rn_cl tys1 s) (hP : va_P D rn_cl (ws ++ [(q, el)]) H1) (hD : va_D A (ws ++ [(q, el)])) (hS : va_S A s.heap H1 locs1) (ht : ∀ (t : Nat) (q : ClassId × FieldType), tys[t]? = some q → ∃ t2 : Nat, tys1[t2]? = some q)
    (hel : rn_el tys1 (M.1.length + 1) (rn_ad ad M.1.length q) (rn_nw M k0 n0) M.1.length el) (E : rn_Ex l D A p e R s m args below meth c mt QQ ad M Q) :
    W p l e R s m args below meth c H1 locs1 (cells + 1) (slots + n0) QQ (F0 m pc' ls (.ref q :: stk')) := by
  obtain ⟨z1, z2, z3, z4, z5, z6, z7⟩ := hz
  have h8 : 8 ≤ M.1.length := by have := z1.2.2.2.1; omega
  have hx : rn_xt M (rn_nw M k0 n0) ad (rn_ad ad M.1.length q) := rn_nw_xt h8
  have hb := z7 hal
  have e1 : (rn_nw M k0 n0).2.1.1 = M.2.1.1 - 1 := rfl
  have e2 : (rn_nw M k0 n0).2.1.2 = M.2.1.2 - n0 := rfl
  refine k mt hm p e R s m args below meth c H1 locs1 (cells + 1) (slots + n0) QQ ls _ (rn_ad ad M.1.length q) tys1 (ws ++ [(q, el)]) C hml (rn_lr_ext hx.1 hx.2.1 hl) ⟨⟨by rw [rn_nw_len]; omega, by rw [rn_ad_n]⟩, rn_vs_ext hx.1 hx.2.1 hs⟩ ⟨⟨hK, hP, hD, rn_Ws_app z1.2.2.2 ht hel⟩, rn_Ev_xt h8 hx z2, rn_Ef_xt h8 hx z3, hS, by omega, by omega, fun _ => ⟨by rw [e1]; omega, by rw [e2]; omega⟩⟩ (rn_Ex_xt hx (fun q => by rw [hal] at q; cases q) E)
end RNS
end
section
section RNI
variable {l : Launch} {D : va_G} {A : Nat → Prop} {p : Program} {e : Env} {R : Room} {s : State} {m : MethodId} {args : Array Value} {below : List Frame} {meth : Method} {c : Code} {H : Heap} {locs : List Loc} {cells slots : Nat} {QQ : State → Prop} {ls : Array Slot} {stk : List Value} {ad : Nat → Nat} {tys : List (ClassId × FieldType)} {ws : va_W} {mt : rn_Mt} {y pc : Nat} {L st : List rn_V} {M : rn_M} {Q : rn_Q}
theorem rn_i_get {idx a b t k cc : Nat} (hm : rn_mt y = some mt) (hd : decode mt.2.1 pc = .ok (.getfield idx, 3)) (hc : rn_chi mt pc (.getfield idx, pc + 3, a, b, t, k, cc, []) = true) (h : rn_stR st fun r t => rn_kd M r = cc ∧ rn_Snd l D A y (pc + 3) L (rn_fv k M r b :: t) M Q)
    (C : rn_Cx A p R s m args meth c mt) (hml : c.maxLocals = L.length) (hl : rn_lr M.1.length ad L ls) (hs : rn_vs M.1.length ad st stk) (hz : rn_Dz D A R s mt ad tys ws M H locs cells slots) (E : rn_Ex l D A p e R s m args below meth c mt QQ ad M Q) : W p l e R s m args below meth c H locs cells slots QQ (F0 m pc ls stk) := by
  obtain ⟨r, t', rfl, hkd, hg⟩ := rn_stR_out h
  obtain ⟨stk', rfl, hr, hs'⟩ := rn_vs_R hs
  obtain ⟨z1, z2, z3, z4, z5, z6, z7⟩ := id hz
  unfold rn_chi at hc
  simp only [Bool.and_eq_true, decide_eq_true_eq] at hc
  obtain ⟨-, hc⟩ := hc
  by_cases e22 : cc = 22
  · subst e22
    have h8 : r < 8 := by
      rcases Nat.lt_or_ge r 8 with q | q
      · exact q
      · obtain ⟨el, g1, g2⟩ := rn_W_at z1.2.2.2 hr q
        unfold rn_el at g2
        split at g2
        · have := g2.1; have := g2.2.1; omega
        · have := g2.1; omega
        · obtain ⟨ci, g3, -⟩ := g2; omega
        · exact g2.elim
    obtain ⟨g1, g2, g3, r2, g4, g5, g6⟩ := (z2 r h8).2.1 hkd
    have h8n : 8 ≤ M.1.length := by have := z1.2.2.2.1; omega
    by_cases eb : b = 0
    · subst eb
      simp only [Bool.and_eq_true, decide_eq_true_eq] at hc
      obtain ⟨rfl, hc⟩ := hc
      refine vk_getf C.1 C.2.1 g6 z4 C.2.2.1 (C.2.2.2.1 _ (rn_hw_mem hc)) (fun _ h9 => h9) hd ?_
      have hv : rn_vr M.1.length ad (rn_fv 2 M r 0) (.ref (ad r2)) := by
        show rn_vr M.1.length ad (.inr (some (rn_gr M r 0))) _
        rw [g4]
        exact ⟨by omega, rfl⟩
      exact rn_go0 hm hg C hml hl ⟨hv, hs'⟩ hz E
    · have hc : (decide (k = 0 ∧ b = 1) && rn_hw t (.fieldLink mt.1.cls idx "java/lang/String" "coder" "B")) = true := by
        cases b with
        | zero => exact absurd rfl eb
        | succ n => exact hc
      simp only [Bool.and_eq_true, decide_eq_true_eq] at hc
      obtain ⟨⟨rfl, rfl⟩, hc⟩ := hc
      refine vk_getf C.1 C.2.1 g2 z4 C.2.2.1 (C.2.2.2.1 _ (rn_hw_mem hc)) (fun _ h9 => h9) hd ?_
      exact rn_go0 hm hg C hml hl ⟨⟨_, rfl, g3⟩, hs'⟩ hz E
  · have hc : (decide (cc = a + 1) && decide (a < 11) && decide (b < rn_nf a) && decide (k = rn_fk a b) && rn_hw t (.fieldLink mt.1.cls idx (rn_T a b).1 (rn_T a b).2.1 (rn_T a b).2.2.1)) = true := by
      split at hc
      · exact absurd rfl e22
      · exact hc
    simp only [Bool.and_eq_true, decide_eq_true_eq] at hc
    obtain ⟨⟨⟨⟨rfl, ha⟩, hb⟩, rfl⟩, hw⟩ := hc
    obtain ⟨-, fs, g1, g2, g3⟩ := rn_W_obj z1.2.2.2 hr hkd ha
    obtain ⟨x, g4, g5⟩ := g3 b hb
    refine va_get (D := D) (C := rn_cn a) (T := rn_T a) (N := rn_nf a) (Ts := rn_Wd) C.1 C.2.1 C.2.2.2.1 (fun w hw => List.mem_filter.mpr (rn_cl_in a ha w hw)) C.2.2.1 z1.1 z1.2.1 (r - 8) g1 (rn_cl_at a ha) b hb (C.2.2.2.1 _ (rn_hw_mem hw)) (fun _ h9 => h9) g4 hd ?_
    exact rn_go0 hm hg C hml hl ⟨g5, hs'⟩ hz E
theorem rn_fk_b {a b k : Nat} (hk : k = rn_fk a b) {v : rn_V} : True := trivial
/-- the write of a field, whatever it is -/
theorem rn_i_putW {idx a b t r : Nat} {M1 : rn_M} {t' : List rn_V} {stk' : List Value} {v : Value} (hm : rn_mt y = some mt) (hd : decode mt.2.1 pc = .ok (.putfield idx, 3)) (ha : a < 11) (hb : b < rn_nf a) (hw : rn_hw t (.fieldLink mt.1.cls idx (rn_T a b).1 (rn_T a b).2.1 (rn_T a b).2.2.1) = true)
    (hfin : (match (rn_T a b).2.2.2 with | true => decide (mt.1.name = "<init>") && decide ((rn_T a b).1 = mt.1.cls) | false => true) = true) (hr : r < M.1.length) (hkd : rn_kd M r = a + 1) (hn : narrow (rn_ty a b) v = v) (hfit : fits (rn_ty a b) v = true)
    (h1 : M1.1 = M.1) (h1b : M1.2.1 = M.2.1) (h2 : ∀ a, a ≠ r → ∀ j, rn_gi M1 a j = rn_gi M a j ∧ rn_gr M1 a j = rn_gr M a j) (h3 : ∀ b', b' ≠ b → rn_fv (rn_fk a b') M1 r b' = rn_fv (rn_fk a b') M r b') (h4 : rn_vr M.1.length ad (rn_fv (rn_fk a b) M1 r b) v)
    (k : rn_Snd l D A y (pc + 3) L t' M1 Q) (C : rn_Cx A p R s m args meth c mt) (hml : c.maxLocals = L.length) (hl : rn_lr M.1.length ad L ls) (hs : rn_vs M.1.length ad t' stk') (hz : rn_Dz D A R s mt ad tys ws M H locs cells slots) (E : rn_Ex l D A p e R s m args below meth c mt QQ ad M Q) : W p l e R s m args below meth c H locs cells slots QQ (F0 m pc ls (v :: .ref (ad r) :: stk')) := by
  obtain ⟨z1, z2, z3, z4, z5, z6, z7⟩ := id hz
  obtain ⟨h8, fs, g1, g2, g3⟩ := rn_W_obj z1.2.2.2 hr hkd ha
  have kk : ∀ (H1 : Heap) (locs1 : List Loc), va_P D rn_cl (ws.set (r - 8) (ad r, .inr (a, fs.set b v))) H1 → va_D A (ws.set (r - 8) (ad r, .inr (a, fs.set b v))) → va_S A s.heap H1 locs1 → W p l e R s m args below meth c H1 locs1 cells slots QQ (F0 m (pc + 3) ls stk') := by
    intro H1 locs1 hP hD hS
    refine rn_go1 hm k C hml hl hs hz h1 h1b (fun q hq => ⟨fun j => (h2 q (by omega) j).1, fun j => (h2 q (by omega) j).2⟩) hP hD hS (rn_Ws_set z1.2.2.2 h8 hr h1 h2 ?_) E
    refine ⟨by unfold rn_kd at hkd ⊢; rw [h1]; exact hkd, ha, by rw [List.length_set]; exact g2, fun b' hb' => ?_⟩
    by_cases e : b = b'
    · subst e
      rw [List.getElem?_set_self (by rw [g2]; exact hb)]
      exact ⟨v, rfl, h4⟩
    · rw [List.getElem?_set_ne e, h3 b' (Ne.symm e)]
      exact g3 b' hb'
  cases hf : (rn_T a b).2.2.2 with
  | false =>
    exact va_put (D := D) (ci := a) (C := rn_cn a) (T := rn_T a) (N := rn_nf a) (Ts := rn_Wd) C.1 C.2.1 C.2.2.2.1 (fun w hw => List.mem_filter.mpr (rn_cl_in a ha w hw)) (rn_ty a) (rn_cl_ty a ha) (rn_cl_nm a ha) C.2.2.1 z1.1 z1.2.1 z1.2.2.1 z4 (r - 8) g1 (rn_cl_at a ha) b hb (C.2.2.2.1 _ (rn_hw_mem hw)) (fun _ h9 => h9) hf (rn_cl_ty a ha b hb) hn hfit (by rw [g2]; exact hb) hd kk
  | true =>
    rw [hf] at hfin
    simp only [Bool.and_eq_true, decide_eq_true_eq] at hfin
    exact va_putF (D := D) (ci := a) (C := rn_cn a) (T := rn_T a) (N := rn_nf a) (Ts := rn_Wd) C.1 C.2.1 C.2.2.2.1 (fun w hw => List.mem_filter.mpr (rn_cl_in a ha w hw)) (rn_ty a) (rn_cl_ty a ha) (rn_cl_nm a ha) C.2.2.1 z1.1 z1.2.1 z1.2.2.1 z4 (r - 8) g1 (rn_cl_at a ha) b hb (C.2.2.2.1 _ (rn_hw_mem hw)) (fun _ h9 => h9) hf (C.2.2.2.2.1 hfin.1) hfin.2 (rn_cl_ty a ha b hb) hn hfit (by rw [g2]; exact hb) hd kk
theorem rn_si_ne {a b k j : Nat} {v : Int} (h : ¬ (b = a ∧ j = k)) : rn_gi (rn_si M a k v) b j = rn_gi M b j := by unfold rn_gi rn_si; simp only [if_neg h]
theorem rn_si_eq {a k : Nat} {v : Int} : rn_gi (rn_si M a k v) a k = v := by simp [rn_gi, rn_si]
theorem rn_si_gr {a b k j : Nat} {v : Int} : rn_gr (rn_si M a k v) b j = rn_gr M b j := rfl
theorem rn_sr_ne {a b k j : Nat} {v : Option Nat} (h : ¬ (b = a ∧ j = k)) : rn_gr (rn_sr M a k v) b j = rn_gr M b j := by unfold rn_gr rn_sr; simp only [if_neg h]
theorem rn_sr_eq {a k : Nat} {v : Option Nat} : rn_gr (rn_sr M a k v) a k = v := by simp [rn_gr, rn_sr]
theorem rn_sr_gi {a b k j : Nat} {v : Option Nat} : rn_gi (rn_sr M a k v) b j = rn_gi M b j := rfl
theorem rn_fv_cong {k r b : Nat} {M1 : rn_M} (h1 : rn_gi M1 r b = rn_gi M r b) (h2 : rn_gr M1 r b = rn_gr M r b) : rn_fv k M1 r b = rn_fv k M r b := by unfold rn_fv; split <;> simp [h1, h2]
theorem rn_i_put {idx a b t k cc : Nat} (hm : rn_mt y = some mt) (hd : decode mt.2.1 pc = .ok (.putfield idx, 3)) (hc : rn_chi mt pc (.putfield idx, pc + 3, a, b, t, k, cc, []) = true) (h : rn_put k st M b fun r M' t => rn_kd M r = cc ∧ rn_Snd l D A y (pc + 3) L t M' Q)
    (C : rn_Cx A p R s m args meth c mt) (hml : c.maxLocals = L.length) (hl : rn_lr M.1.length ad L ls) (hs : rn_vs M.1.length ad st stk) (hz : rn_Dz D A R s mt ad tys ws M H locs cells slots) (E : rn_Ex l D A p e R s m args below meth c mt QQ ad M Q) : W p l e R s m args below meth c H locs cells slots QQ (F0 m pc ls stk) := by
  unfold rn_chi at hc
  simp only [Bool.and_eq_true, decide_eq_true_eq] at hc
  obtain ⟨⟨⟨⟨⟨⟨⟨-, rfl⟩, ha⟩, hb⟩, hk⟩, hw⟩, hty⟩, hfin⟩ := hc
  unfold rn_put at h
  split at h
  · split at h
    · rename_i x r t'
      obtain ⟨hkd, h⟩ := h
      obtain ⟨kx, stk1, rfl, hx, hs1⟩ := rn_vs_I hs
      obtain ⟨stk2, rfl, hr, hs2⟩ := rn_vs_R hs1
      have ety : rn_ty a b = .int := by revert hty; cases rn_ty a b <;> simp
      exact rn_i_putW (M1 := rn_si M r b x) hm hd ha hb hw hfin hr hkd (by rw [ety]; rfl) (by rw [ety]; rfl) rfl rfl (fun q hq j => ⟨rn_si_ne (fun z => hq z.1), rfl⟩) (fun b' hb' => rn_fv_cong (rn_si_ne (fun z => hb' z.2)) rfl) (by rw [← hk]; exact ⟨kx, rfl, by rw [rn_si_eq]; exact hx⟩) h C hml hl hs2 hz E
    · exact h.elim
  · split at h
    · rename_i x r t'
      obtain ⟨hx01, hkd, h⟩ := h
      obtain ⟨kx, stk1, rfl, hx, hs1⟩ := rn_vs_I hs
      obtain ⟨stk2, rfl, hr, hs2⟩ := rn_vs_R hs1
      have ety : rn_ty a b = .boolean := by revert hty; cases rn_ty a b <;> simp
      have ek : kx = 0 ∨ kx = 1 := by
        rcases hx01 with q | q
        · exact Or.inl (Int32.toInt_inj.mp (by rw [hx, q]; rfl))
        · exact Or.inr (Int32.toInt_inj.mp (by rw [hx, q]; rfl))
      exact rn_i_putW (M1 := rn_si M r b x) hm hd ha hb hw hfin hr hkd (by rw [ety]; rcases ek with q | q <;> subst q <;> rfl) (by rw [ety]; rcases ek with q | q <;> subst q <;> rfl) rfl rfl (fun q hq j => ⟨rn_si_ne (fun z => hq z.1), rfl⟩) (fun b' hb' => rn_fv_cong (rn_si_ne (fun z => hb' z.2)) rfl) (by rw [← hk]; exact ⟨kx, rfl, by rw [rn_si_eq]; exact hx⟩) h C hml hl hs2 hz E
    · exact h.elim
  · rename_i hk0 hk1
    split at h
    · rename_i v r t'
      obtain ⟨hkd, h⟩ := h
      obtain ⟨x, stk1, rfl, hx, hs1⟩ := rn_vs_c hs
      obtain ⟨stk2, rfl, hr, hs2⟩ := rn_vs_R hs1
      have e2 : rn_fk a b = 2 ∧ ((∃ n, rn_ty a b = .object n) ∨ ∃ q, rn_ty a b = .array q) := by
        have hk2 : k = 2 := by
          match k, hk0, hk1, hty with
          | 0, h, _, _ => exact (h rfl).elim
          | 1, _, h, _ => exact (h rfl).elim
          | 2, _, _, _ => rfl
          | n + 3, _, _, h => revert h; cases rn_ty a b <;> simp
        rw [← hk, hk2]
        rw [hk2] at hty
        refine ⟨rfl, ?_⟩
        revert hty
        cases rn_ty a b <;> simp
      have hv : x = .null ∨ ∃ q, x = .ref q := by
        cases v with
        | none => exact Or.inl hx
        | some q => exact Or.inr ⟨_, hx.2⟩
      refine rn_i_putW (M1 := rn_sr M r b v) hm hd ha hb hw hfin hr hkd ?_ ?_ rfl rfl (fun q hq j => ⟨rfl, rn_sr_ne (fun z => hq z.1)⟩) (fun b' hb' => rn_fv_cong rfl (rn_sr_ne (fun z => hb' z.2))) ?_ h C hml hl hs2 hz E
      · rcases e2.2 with ⟨n, q⟩ | ⟨n, q⟩ <;> rw [q] <;> rcases hv with q | ⟨z, q⟩ <;> subst q <;> rfl
      · rcases e2.2 with ⟨n, q⟩ | ⟨n, q⟩ <;> rw [q] <;> rcases hv with q | ⟨z, q⟩ <;> subst q <;> rfl
      · rw [e2.1]
        show rn_vr M.1.length ad (.inr (some (rn_gr (rn_sr M r b v) r b))) x
        rw [rn_sr_eq]
        exact hx
    · exact h.elim
end RNI
end
section
theorem rn_df : ((List.range 11).all fun a => (List.range (rn_nf a)).all fun b => decide ((rn_fk a b = 2 ∧ defaultValue (rn_ty a b) = .null) ∨ ((rn_fk a b = 0 ∨ rn_fk a b = 1) ∧ defaultValue (rn_ty a b) = .int 0))) = true := by decide +kernel
theorem rn_df_at {a b : Nat} (ha : a < 11) (hb : b < rn_nf a) : (rn_fk a b = 2 ∧ defaultValue (rn_ty a b) = .null) ∨ ((rn_fk a b = 0 ∨ rn_fk a b = 1) ∧ defaultValue (rn_ty a b) = .int 0) :=
  of_decide_eq_true (List.all_eq_true.mp (List.all_eq_true.mp rn_df a (List.mem_range.mpr ha)) b (List.mem_range.mpr hb))
theorem rn_W_lt8 {tys : List (ClassId × FieldType)} {ad : Nat → Nat} {M : rn_M} {ws : va_W} {r : Nat} (h : rn_Ws tys ad M ws) (hr : r < M.1.length) (hk : 21 ≤ rn_kd M r ∧ rn_kd M r ≤ 24) : r < 8 := by
  rcases Nat.lt_or_ge r 8 with q | q
  · exact q
  · obtain ⟨el, g1, g2⟩ := rn_W_at h hr q
    unfold rn_el at g2
    split at g2
    · have := g2.1; have := g2.2.1; omega
    · have := g2.1; omega
    · obtain ⟨ci, g3, -⟩ := g2; omega
    · exact g2.elim
theorem rn_tnn {k : Int32} (h : 0 ≤ k.toInt) : ¬ k < 0 := by
  rw [rn_il]
  show ¬ k.toInt < (0 : Int32).toInt
  have : (0 : Int32).toInt = 0 := rfl
  omega
section RNA
variable {l : Launch} {D : va_G} {A : Nat → Prop} {p : Program} {e : Env} {R : Room} {s : State} {m : MethodId} {args : Array Value} {below : List Frame} {meth : Method} {c : Code} {H : Heap} {locs : List Loc} {cells slots : Nat} {QQ : State → Prop} {ls : Array Slot} {stk : List Value} {ad : Nat → Nat} {tys : List (ClassId × FieldType)} {ws : va_W} {mt : rn_Mt} {y pc : Nat} {L st : List rn_V} {M : rn_M} {Q : rn_Q}
theorem rn_i_iald (hm : rn_mt y = some mt) (hd : decode mt.2.1 pc = .ok (.iaload, 1)) (h : rn_stA st fun r i t => (rn_kd M r = 20 ∨ rn_kd M r = 21) ∧ rn_in M r i ∧ rn_Snd l D A y (pc + 1) L (.inl (rn_gi M r i.toNat) :: t) M Q)
    (C : rn_Cx A p R s m args meth c mt) (hml : c.maxLocals = L.length) (hl : rn_lr M.1.length ad L ls) (hs : rn_vs M.1.length ad st stk) (hz : rn_Dz D A R s mt ad tys ws M H locs cells slots) (E : rn_Ex l D A p e R s m args below meth c mt QQ ad M Q) : W p l e R s m args below meth c H locs cells slots QQ (F0 m pc ls stk) := by
  obtain ⟨r, i, t', rfl, hkd, hin, hg⟩ := rn_stA_out h
  obtain ⟨k, stk1, rfl, rfl, hs1⟩ := rn_vs_I hs
  obtain ⟨stk2, rfl, hr, hs2⟩ := rn_vs_R hs1
  obtain ⟨z1, z2, z3, z4, z5, z6, z7⟩ := id hz
  rcases hkd with hkd | hkd
  · obtain ⟨h8, hlen, cA, f, t0, g1, g2, g3⟩ := rn_W_arr z1.2.2.2 hr hkd
    obtain ⟨i1, i2, i3⟩ := rn_in_vp hin hlen
    refine va_iald C.1 C.2.1 z1.1 z1.2.1 (r - 8) t0 g1 g2 i1 hd ?_
    exact rn_go0 hm hg C hml hl ⟨⟨_, rfl, by rw [i2]; exact g3 _ i3⟩, hs2⟩ hz E
  · obtain ⟨hlen, hT, hv⟩ := (z2 r (rn_W_lt8 z1.2.2.2 hr (by omega))).1 hkd
    obtain ⟨i1, i2, i3⟩ := rn_in_vp hin hlen
    refine va_ti C.1 C.2.1 hT z4 i1 rfl hd ?_
    exact rn_go0 hm hg C hml hl ⟨⟨_, rfl, by rw [i2]; exact hv _ i3⟩, hs2⟩ hz E
theorem rn_i_bald (hm : rn_mt y = some mt) (hd : decode mt.2.1 pc = .ok (.baload, 1)) (h : rn_stA st fun r i t => rn_kd M r = 23 ∧ rn_in M r i ∧ rn_Snd l D A y (pc + 1) L (.inl (rn_gi M r i.toNat) :: t) M Q)
    (C : rn_Cx A p R s m args meth c mt) (hml : c.maxLocals = L.length) (hl : rn_lr M.1.length ad L ls) (hs : rn_vs M.1.length ad st stk) (hz : rn_Dz D A R s mt ad tys ws M H locs cells slots) (E : rn_Ex l D A p e R s m args below meth c mt QQ ad M Q) : W p l e R s m args below meth c H locs cells slots QQ (F0 m pc ls stk) := by
  obtain ⟨r, i, t', rfl, hkd, hin, hg⟩ := rn_stA_out h
  obtain ⟨k, stk1, rfl, rfl, hs1⟩ := rn_vs_I hs
  obtain ⟨stk2, rfl, hr, hs2⟩ := rn_vs_R hs1
  obtain ⟨z1, z2, z3, z4, z5, z6, z7⟩ := id hz
  obtain ⟨hlen, hT, hv⟩ := (z2 r (rn_W_lt8 z1.2.2.2 hr (by omega))).2.2 hkd
  obtain ⟨i1, i2, i3⟩ := rn_in_vp hin hlen
  refine va_tb C.1 C.2.1 hT z4 i1 rfl hd ?_
  exact rn_go0 hm hg C hml hl ⟨⟨_, rfl, by rw [i2]; exact hv _ i3⟩, hs2⟩ hz E
theorem rn_i_alen (hm : rn_mt y = some mt) (hd : decode mt.2.1 pc = .ok (.arraylength, 1)) (h : rn_stR st fun r t => (rn_kd M r = 20 ∨ rn_kd M r = 21 ∨ rn_kd M r = 23) ∧ rn_Snd l D A y (pc + 1) L (.inl (rn_ln M r) :: t) M Q)
    (C : rn_Cx A p R s m args meth c mt) (hml : c.maxLocals = L.length) (hl : rn_lr M.1.length ad L ls) (hs : rn_vs M.1.length ad st stk) (hz : rn_Dz D A R s mt ad tys ws M H locs cells slots) (E : rn_Ex l D A p e R s m args below meth c mt QQ ad M Q) : W p l e R s m args below meth c H locs cells slots QQ (F0 m pc ls stk) := by
  obtain ⟨r, t', rfl, hkd, hg⟩ := rn_stR_out h
  obtain ⟨stk2, rfl, hr, hs2⟩ := rn_vs_R hs
  obtain ⟨z1, z2, z3, z4, z5, z6, z7⟩ := id hz
  have hn : ∀ n : Nat, n ≤ 100000 → (Int32.ofNat n).toInt = (n : Int) := fun n h => nI_toInt (n := n) (by omega)
  rcases hkd with hkd | hkd | hkd
  · obtain ⟨h8, hlen, cA, f, t0, g1, g2, g3⟩ := rn_W_arr z1.2.2.2 hr hkd
    refine va_alen C.1 C.2.1 z1.1 z1.2.1 (r - 8) t0 g1 g2 rfl hd ?_
    exact rn_go0 hm hg C hml hl ⟨⟨_, rfl, hn _ hlen⟩, hs2⟩ hz E
  · obtain ⟨hlen, hT, hv⟩ := (z2 r (rn_W_lt8 z1.2.2.2 hr (by omega))).1 hkd
    refine va_tlen C.1 C.2.1 hT z4 rfl hd ?_
    exact rn_go0 hm hg C hml hl ⟨⟨_, rfl, hn _ hlen⟩, hs2⟩ hz E
  · obtain ⟨hlen, hT, hv⟩ := (z2 r (rn_W_lt8 z1.2.2.2 hr (by omega))).2.2 hkd
    refine va_tlen C.1 C.2.1 hT z4 rfl hd ?_
    exact rn_go0 hm hg C hml hl ⟨⟨_, rfl, hn _ hlen⟩, hs2⟩ hz E
theorem rn_i_iast {x i : Int} {r : Nat} {t' : List rn_V} (hm : rn_mt y = some mt) (hd : decode mt.2.1 pc = .ok (.iastore, 1)) (hkd : rn_kd M r = 20) (hin : rn_in M r i) (hg : rn_Snd l D A y (pc + 1) L t' (rn_si M r i.toNat x) Q)
    (C : rn_Cx A p R s m args meth c mt) (hml : c.maxLocals = L.length) (hl : rn_lr M.1.length ad L ls) (hs : rn_vs M.1.length ad (.inl x :: .inl i :: .inr (some (some r)) :: t') stk) (hz : rn_Dz D A R s mt ad tys ws M H locs cells slots) (E : rn_Ex l D A p e R s m args below meth c mt QQ ad M Q) : W p l e R s m args below meth c H locs cells slots QQ (F0 m pc ls stk) := by
  obtain ⟨kx, stk0, rfl, rfl, hs0⟩ := rn_vs_I hs
  obtain ⟨k, stk1, rfl, rfl, hs1⟩ := rn_vs_I hs0
  obtain ⟨stk2, rfl, hr, hs2⟩ := rn_vs_R hs1
  obtain ⟨z1, z2, z3, z4, z5, z6, z7⟩ := id hz
  obtain ⟨h8, hlen, cA, f, t0, g1, g2, g3⟩ := rn_W_arr z1.2.2.2 hr hkd
  obtain ⟨i1, i2, i3⟩ := rn_in_vp hin hlen
  refine va_iast C.1 C.2.1 z1.1 z1.2.1 z1.2.2.1 z4 (r - 8) t0 g1 g2 i1 hd (fun H1 locs1 hP hD hS => ?_)
  refine rn_go1 hm hg C hml hl hs2 hz rfl rfl (fun q hq => ⟨fun j => rn_si_ne (fun z => by omega), fun j => rfl⟩) hP hD hS (rn_Ws_set z1.2.2.2 h8 hr rfl (fun q hq j => ⟨rn_si_ne (fun z => hq z.1), rfl⟩) ?_) E
  refine ⟨hkd, rfl, hlen, ⟨t0, g2⟩, fun j hj => ?_⟩
  rw [i2]
  by_cases e : j = k.toInt.toNat
  · subst e
    rw [pk_us, rn_si_eq]
  · rw [pk_un e, rn_si_ne (fun z => e z.2)]
    exact g3 j hj
theorem rn_i_aald (hm : rn_mt y = some mt) (hd : decode mt.2.1 pc = .ok (.aaload, 1)) (h : rn_stA st fun r i t => 30 ≤ rn_kd M r ∧ rn_in M r i ∧ rn_Snd l D A y (pc + 1) L (.inr (some (rn_gr M r i.toNat)) :: t) M Q)
    (C : rn_Cx A p R s m args meth c mt) (hml : c.maxLocals = L.length) (hl : rn_lr M.1.length ad L ls) (hs : rn_vs M.1.length ad st stk) (hz : rn_Dz D A R s mt ad tys ws M H locs cells slots) (E : rn_Ex l D A p e R s m args below meth c mt QQ ad M Q) : W p l e R s m args below meth c H locs cells slots QQ (F0 m pc ls stk) := by
  obtain ⟨r, i, t', rfl, hkd, hin, hg⟩ := rn_stA_out h
  obtain ⟨k, stk1, rfl, rfl, hs1⟩ := rn_vs_I hs
  obtain ⟨stk2, rfl, hr, hs2⟩ := rn_vs_R hs1
  obtain ⟨z1, z2, z3, z4, z5, z6, z7⟩ := id hz
  obtain ⟨h8, hlen, ci, cA, f, t0, g0, gc, g1, g2, g3⟩ := rn_W_arq z1.2.2.2 hr hkd
  obtain ⟨i1, i2, i3⟩ := rn_in_vp hin hlen
  refine va_aldq C.1 C.2.1 z1.1 z1.2.1 (r - 8) t0 g1 g2 i1 hd ?_
  exact rn_go0 hm hg C hml hl ⟨by rw [i2]; exact g3 _ i3, hs2⟩ hz E
theorem rn_i_aast {i : Int} {r v : Nat} {t' : List rn_V} (hm : rn_mt y = some mt) (hd : decode mt.2.1 pc = .ok (.aastore, 1)) (hkd : 30 ≤ rn_kd M r) (hkv : rn_kd M v + 29 = rn_kd M r) (hin : rn_in M r i) (hg : rn_Snd l D A y (pc + 1) L t' (rn_sr M r i.toNat (some v)) Q)
    (C : rn_Cx A p R s m args meth c mt) (hml : c.maxLocals = L.length) (hl : rn_lr M.1.length ad L ls) (hs : rn_vs M.1.length ad (.inr (some (some v)) :: .inl i :: .inr (some (some r)) :: t') stk) (hz : rn_Dz D A R s mt ad tys ws M H locs cells slots) (E : rn_Ex l D A p e R s m args below meth c mt QQ ad M Q) : W p l e R s m args below meth c H locs cells slots QQ (F0 m pc ls stk) := by
  obtain ⟨stk0, rfl, hv, hs0⟩ := rn_vs_R hs
  obtain ⟨k, stk1, rfl, rfl, hs1⟩ := rn_vs_I hs0
  obtain ⟨stk2, rfl, hr, hs2⟩ := rn_vs_R hs1
  obtain ⟨z1, z2, z3, z4, z5, z6, z7⟩ := id hz
  obtain ⟨h8, hlen, ci, cA, f, t0, g0, gc, g1, g2, g3⟩ := rn_W_arq z1.2.2.2 hr hkd
  obtain ⟨h8v, vs, f1, f2, f3⟩ := rn_W_obj z1.2.2.2 hv (ci := ci) (by omega) gc
  obtain ⟨i1, i2, i3⟩ := rn_in_vp hin hlen
  refine va_astq (r := (rn_cn ci, rn_T ci, rn_nf ci)) C.1 C.2.1 z1.1 z1.2.1 z1.2.2.1 z4 (r - 8) t0 (v - 8) ci g1 g2 f1 (rn_cl_at ci gc) i1 hd (fun H1 locs1 hP hD hS => ?_)
  refine rn_go1 hm hg C hml hl hs2 hz rfl rfl (fun q hq => ⟨fun j => rfl, fun j => rn_sr_ne (fun z => by omega)⟩) hP hD hS (rn_Ws_set z1.2.2.2 h8 hr rfl (fun q hq j => ⟨rfl, rn_sr_ne (fun z => hq z.1)⟩) ?_) E
  refine ⟨ci, g0, gc, rfl, hlen, ⟨t0, g2⟩, fun j hj => ?_⟩
  rw [i2]
  by_cases e : j = k.toInt.toNat
  · subst e
    rw [rn_sr_eq]
    simp only [va_up, if_pos]
    exact ⟨hv, rfl⟩
  · rw [rn_sr_ne (fun z => e z.2)]
    simp only [va_up, if_neg e]
    exact g3 j hj
theorem rn_i_new {idx a t : Nat} (hm : rn_mt y = some mt) (hd : decode mt.2.1 pc = .ok (.new idx, 3)) (ha : a < 11) (hal : rn_al mt = true) (hw : rn_hw t (.classLink mt.1.cls idx (rn_cn a)) = true) (hp : (match rn_cpl[a]? with | some (pa, pb) => rn_hw pa (.instantiable (rn_cn a) (rn_nf a)) && rn_hw pb (.initialized (rn_cn a)) | none => false) = true)
    (hb1 : 1 ≤ M.2.1.1) (hb2 : rn_nf a ≤ M.2.1.2) (hg : rn_Snd l D A y (pc + 3) L (rn_R M.1.length :: st) (rn_nw M (a + 1) (rn_nf a)) Q)
    (C : rn_Cx A p R s m args meth c mt) (hml : c.maxLocals = L.length) (hl : rn_lr M.1.length ad L ls) (hs : rn_vs M.1.length ad st stk) (hz : rn_Dz D A R s mt ad tys ws M H locs cells slots) (E : rn_Ex l D A p e R s m args below meth c mt QQ ad M Q) : W p l e R s m args below meth c H locs cells slots QQ (F0 m pc ls stk) := by
  obtain ⟨z1, z2, z3, z4, z5, z6, z7⟩ := id hz
  have hb := z7 hal
  split at hp
  · simp only [Bool.and_eq_true] at hp
    refine va_new (D := D) (ci := a) (fs := (List.range (rn_nf a)).map fun j => defaultValue (rn_ty a j)) (C := rn_cn a) (T := rn_T a) (N := rn_nf a) (Ts := rn_Wd) C.1 C.2.1 C.2.2.2.1 (fun w hw => List.mem_filter.mpr (rn_cl_in a ha w hw)) (rn_ty a) (rn_cl_ty a ha) C.2.2.1 (C.2.2.2.1 _ (rn_hw_mem hw)) (C.2.2.2.1 _ (rn_hw_mem hp.1)) (C.2.2.2.1 _ (rn_hw_mem hp.2)) z1.1 z1.2.1 z1.2.2.1 z4 C.2.2.2.2.2.2.2 (rn_cl_at a ha) (fun j hj => by simp [vp_V, List.getD_eq_getElem?_getD, hj]) (by omega) (by omega) hd (fun q H1 hP hD hS => ?_)
    refine rn_go2 hm hg C hml hl hs hz hal hb1 hb2 z1.1 hP hD hS (fun t q h => ⟨t, h⟩) ?_ E
    refine ⟨rn_nw_kn.1, ha, by simp, fun b hb => ⟨defaultValue (rn_ty a b), by simp [hb], ?_⟩⟩
    rcases rn_df_at ha hb with ⟨q1, q2⟩ | ⟨q1, q2⟩
    · rw [q1, q2]
      show rn_vr _ _ (.inr (some (rn_gr (rn_nw M (a + 1) (rn_nf a)) M.1.length b))) _
      rw [(rn_nw_gn b).2]
      rfl
    · rw [q2]
      have e : rn_fv (rn_fk a b) (rn_nw M (a + 1) (rn_nf a)) M.1.length b = .inl (rn_gi (rn_nw M (a + 1) (rn_nf a)) M.1.length b) := by rcases q1 with q | q <;> rw [q] <;> rfl
      rw [e, (rn_nw_gn b).1]
      exact ⟨0, rfl, rfl⟩
  · cases hp
theorem rn_i_newa {n : Int} {t' : List rn_V} (hm : rn_mt y = some mt) (hd : decode mt.2.1 pc = .ok (.newarray .int, 2)) (hal : rn_al mt = true) (hn0 : 0 ≤ n) (hn1 : n ≤ 100000)
    (hb1 : 1 ≤ M.2.1.1) (hb2 : n.toNat ≤ M.2.1.2) (hg : rn_Snd l D A y (pc + 2) L (rn_R M.1.length :: t') (rn_nw M 20 n.toNat) Q)
    (C : rn_Cx A p R s m args meth c mt) (hml : c.maxLocals = L.length) (hl : rn_lr M.1.length ad L ls) (hs : rn_vs M.1.length ad (.inl n :: t') stk) (hz : rn_Dz D A R s mt ad tys ws M H locs cells slots) (E : rn_Ex l D A p e R s m args below meth c mt QQ ad M Q) : W p l e R s m args below meth c H locs cells slots QQ (F0 m pc ls stk) := by
  obtain ⟨k, stk1, rfl, rfl, hs1⟩ := rn_vs_I hs
  obtain ⟨z1, z2, z3, z4, z5, z6, z7⟩ := id hz
  have hb := z7 hal
  have ek : k.toNatClampNeg = k.toInt.toNat := rfl
  refine va_newa (D := D) (atype := .int) (ty := .int) (a0 := (k.toInt.toNat, .inl (fun _ => 0))) (N' := k.toInt.toNat) C.1 C.2.1 (C.2.2.2.1 _ rn_p_arr) rfl z1.1 z1.2.1 z1.2.2.1 z4 C.2.2.2.2.2.2.2 (fun cA => rfl) (rn_tnn hn0) ek (by show k.toInt.toNat * 4 ≤ _; omega) (by omega) (by omega) hd (fun q cA H1 hK hP hD hS => ?_)
  refine rn_go2 hm hg C hml hl hs1 hz hal hb1 hb2 hK hP hD hS (fun t q h => ⟨t, by rw [List.getElem?_append_left (List.getElem?_eq_some_iff.mp h).1]; exact h⟩) ?_ E
  refine ⟨rn_nw_kn.1, rn_nw_kn.2, by omega, ⟨tys.length, by simp⟩, fun j hj => ?_⟩
  rw [(rn_nw_gn j).1]
  rfl
theorem rn_i_newq {n : Int} {idx a t : Nat} {t' : List rn_V} (hm : rn_mt y = some mt) (hd : decode mt.2.1 pc = .ok (.anewarray idx, 3)) (hal : rn_al mt = true) (ha : a = 0 ∨ a = 3 ∨ a = 5 ∨ a = 8) (hw : rn_hw t (.classLink mt.1.cls idx (rn_cn a)) = true) (hn0 : 0 ≤ n) (hn1 : n ≤ 100000)
    (hb1 : 1 ≤ M.2.1.1) (hb2 : n.toNat ≤ M.2.1.2) (hg : rn_Snd l D A y (pc + 3) L (rn_R M.1.length :: t') (rn_nw M (a + 30) n.toNat) Q)
    (C : rn_Cx A p R s m args meth c mt) (hml : c.maxLocals = L.length) (hl : rn_lr M.1.length ad L ls) (hs : rn_vs M.1.length ad (.inl n :: t') stk) (hz : rn_Dz D A R s mt ad tys ws M H locs cells slots) (E : rn_Ex l D A p e R s m args below meth c mt QQ ad M Q) : W p l e R s m args below meth c H locs cells slots QQ (F0 m pc ls stk) := by
  obtain ⟨k, stk1, rfl, rfl, hs1⟩ := rn_vs_I hs
  obtain ⟨z1, z2, z3, z4, z5, z6, z7⟩ := id hz
  have hb := z7 hal
  have ek : k.toNatClampNeg = k.toInt.toNat := rfl
  refine va_newq (D := D) (C := rn_cn a) (N' := k.toInt.toNat) C.1 C.2.1 C.2.2.1 (C.2.2.2.1 _ (rn_hw_mem hw)) (z3.2.2.2.2.2.2.2 a ha) z1.1 z1.2.1 z1.2.2.1 z4 C.2.2.2.2.2.2.2 (rn_tnn hn0) ek (by omega) (by omega) (by omega) hd (fun q cA H1 hK hP hD hS => ?_)
  refine rn_go2 hm hg C hml hl hs1 hz hal hb1 hb2 hK hP hD hS (fun t q h => ⟨t, by rw [List.getElem?_append_left (List.getElem?_eq_some_iff.mp h).1]; exact h⟩) ?_ E
  refine ⟨a, rn_nw_kn.1, by omega, rn_nw_kn.2, by omega, ⟨tys.length, by simp⟩, fun j hj => ?_⟩
  rw [(rn_nw_gn j).2]
  rfl
theorem rn_cpy_in {r d sp dp n j : Nat} (h : dp ≤ j ∧ j < dp + n) : rn_gi (rn_cpy M r d sp dp n) d j = rn_gi M r (sp + (j - dp)) := by
  simp [rn_gi, rn_cpy, h]
theorem rn_cpy_out {r d b sp dp n j : Nat} (h : ¬ (b = d ∧ dp ≤ j ∧ j < dp + n)) : rn_gi (rn_cpy M r d sp dp n) b j = rn_gi M b j := by
  unfold rn_gi rn_cpy; simp only [if_neg h]
theorem rn_cpy_gr {r d b sp dp n j : Nat} : rn_gr (rn_cpy M r d sp dp n) b j = rn_gr M b j := rfl
theorem rn_i_copy {n dp sp : Int} {d r idx t : Nat} {t' : List rn_V} (hm : rn_mt y = some mt) (hd : decode mt.2.1 pc = .ok (.invokestatic idx, 3)) (hw : rn_hw t (.methodLink mt.1.cls idx arraycopyName) = true) (hf : 1 ≤ rn_fr mt) (hlo : 38 ≤ rn_lw mt) (ht8 : t'.length ≤ 8)
    (hk1 : rn_kd M r = 20) (hk2 : rn_kd M d = 20) (h0 : 0 ≤ n) (h1 : 0 ≤ dp) (h2 : 0 ≤ sp) (h3 : sp + n ≤ (rn_ln M r : Int)) (h4 : dp + n ≤ (rn_ln M d : Int)) (hg : rn_Snd l D A y (pc + 3) L t' (rn_cpy M r d sp.toNat dp.toNat n.toNat) Q)
    (C : rn_Cx A p R s m args meth c mt) (hml : c.maxLocals = L.length) (hl : rn_lr M.1.length ad L ls) (hs : rn_vs M.1.length ad (.inl n :: .inl dp :: .inr (some (some d)) :: .inl sp :: .inr (some (some r)) :: t') stk) (hz : rn_Dz D A R s mt ad tys ws M H locs cells slots) (E : rn_Ex l D A p e R s m args below meth c mt QQ ad M Q) : W p l e R s m args below meth c H locs cells slots QQ (F0 m pc ls stk) := by
  obtain ⟨kn, stk0, rfl, rfl, hs0⟩ := rn_vs_I hs
  obtain ⟨kd, stk1, rfl, rfl, hs1⟩ := rn_vs_I hs0
  obtain ⟨stk2, rfl, hrd, hs2⟩ := rn_vs_R hs1
  obtain ⟨kp, stk3, rfl, rfl, hs3⟩ := rn_vs_I hs2
  obtain ⟨stk4, rfl, hrs, hs4⟩ := rn_vs_R hs3
  obtain ⟨z1, z2, z3, z4, z5, z6, z7⟩ := id hz
  obtain ⟨a8, alen, cA, f, t0, a1, a2, a3⟩ := rn_W_arr z1.2.2.2 hrs hk1
  obtain ⟨b8, blen, cB, g, t1, b1, b2, b3⟩ := rn_W_arr z1.2.2.2 hrd hk2
  have e1 : kn.toNatClampNeg = kn.toInt.toNat := rfl
  have e2 : kd.toNatClampNeg = kd.toInt.toNat := rfl
  have e3 : kp.toNatClampNeg = kp.toInt.toNat := rfl
  have hsum := rn_vs_sum hs4
  refine va_copyi C.1 C.2.1 (by rw [hml]; obtain ⟨lv, hv, -⟩ := hl; exact hv.1.symm) C.2.2.1 (C.2.2.2.1 _ (rn_hw_mem hw)) (C.2.2.2.1 _ rn_p_nat) (C.2.2.2.1 _ rn_p_cst) (C.2.2.2.1 _ rn_p_cin) z1.1 z1.2.1 z1.2.2.1 z4 (r - 8) (d - 8) t0 t1 (ty := .int) a1 b1 a2 b2 rfl (rn_tnn h2) (rn_tnn h1) (rn_tnn h0) (by rw [e1, e3]; omega) (by rw [e1, e2]; omega) (fun i hi => rfl) (Nat.le_trans hf C.2.2.2.2.2.1) (by rw [hsum]; have := rn_nfw; have := C.2.2.2.2.2.2.1; omega) hd (fun H1 locs1 hP hD hS => ?_)
  refine rn_go1 hm hg C hml hl hs4 hz rfl rfl (fun q hq => ⟨fun j => rn_cpy_out (fun z => by omega), fun j => rfl⟩) hP hD hS (rn_Ws_set z1.2.2.2 b8 hrd rfl (fun q hq j => ⟨rn_cpy_out (fun z => hq z.1), rfl⟩) ?_) E
  refine ⟨hk2, rfl, blen, ⟨t1, b2⟩, fun j hj => ?_⟩
  rw [e1, e2, e3]
  by_cases e : kd.toInt.toNat ≤ j ∧ j < kd.toInt.toNat + kn.toInt.toNat
  · rw [rn_cpy_in e, pk_cpy_in e.1 e.2]
    exact a3 _ (by omega)
  · rw [rn_cpy_out (fun z => e z.2), pk_cpy_out (by omega)]
    exact b3 j hj
end RNA
end
section
theorem rn_good {X : List Cond} (h : ∀ w ∈ X, w ∈ rn_Wd) : GoodIn rn_Wd X := fun w hw => rn_Wd_good w (h w hw)
def rn_rm (mz : rn_Mt) : Room := { frames := rn_fr mz, cells := rn_mc mz, slots := rn_ms mz, locals := rn_lw mz }
def rn_ws (mz : rn_Mt) : List Cond := Cond.code mz.1 mz.2.1 mz.2.2.1 mz.2.2.2.1 :: rn_Wd
def rn_Pc (D : va_G) (A : Nat → Prop) (ad : Nat → Nat) (tys : List (ClassId × FieldType)) (ws : va_W) (M : rn_M) (H : Heap) (vals : List Value) : Array Value → State → Prop := fun a U => a = vals.toArray ∧ U.heap = H ∧ rn_W D A tys ws ad M U U.heap ∧ rn_Ev ad M A U U.heap ∧ rn_Ef ad A U U.heap ∧ ∀ q, U.heap.size ≤ q → A q
def rn_rr (n : Nat) (ad : Nat → Nat) (v : Option rn_V) (r : Option Value) : Prop := match v, r with
  | none, none => True
  | some v, some x => rn_vr n ad v x
  | _, _ => False
def rn_Qc (D : va_G) (A : Nat → Prop) (al : Bool) (ad : Nat → Nat) (M : rn_M) (Q : rn_Q) : Array Value → State → Outcome → State → Prop := fun _ st o t =>
  (∃ (v : Option rn_V) (M' : rn_M) (ad' : Nat → Nat) (tys' : List (ClassId × FieldType)) (ws' : va_W) (r : Option Value), Q v M' ∧ o = .returned r ∧ rn_rr M'.1.length ad' v r ∧ rn_xt M M' ad ad' ∧ (al = false → M'.2.1 = M.2.1) ∧ rn_W D A tys' ws' ad' M' t t.heap) ∧ va_F A st t
theorem rn_sl_len {n : Nat} {ad : Nat → Nat} : ∀ {vs : List rn_V} {xs : List Value}, rn_vs n ad vs xs → (lg_sl xs).length = xs.length
  | [], [], _ => rfl
  | _ :: vs, x :: xs, h => by
    have e : lg_sl (x :: xs) = .val x :: lg_sl xs := by
      show (if x.category = 2 then [Slot.val x, Slot.second] else [Slot.val x]) ++ lg_sl xs = _
      rw [if_neg (by rw [rn_vr_cat h.1]; decide)]
      rfl
    rw [e, List.length_cons, List.length_cons, rn_sl_len h.2]
theorem rn_args_mem {n : Nat} {ad : Nat → Nat} : ∀ {vs : List rn_V} {xs : List Value} (k : Nat), rn_vs n ad vs xs → ∀ (i : Nat) (v : rn_V), vs[i]? = some v → ∃ x, (k + i, x) ∈ lv_args k xs ∧ rn_vr n ad v x
  | [], [], _, _, i, v, h => by simp at h
  | w :: vs, x :: xs, k, h, i, v, hi => by
    have e : lv_args k (x :: xs) = (k, x) :: lv_args (k + 1) xs := by
      show (k, x) :: lv_args (if x.category = 2 then k + 2 else k + 1) xs = _
      rw [if_neg (by rw [rn_vr_cat h.1]; decide)]
    rw [e]
    cases i with
    | zero =>
      simp only [List.getElem?_cons_zero, Option.some.injEq] at hi
      subst hi
      exact ⟨x, List.mem_cons_self, h.1⟩
    | succ i =>
      rw [List.getElem?_cons_succ] at hi
      obtain ⟨z, h1, h2⟩ := rn_args_mem (k + 1) h.2 i v hi
      refine ⟨z, List.mem_cons_of_mem _ ?_, h2⟩
      rw [show k + (i + 1) = k + 1 + i by omega]
      exact h1
theorem rn_lr_entry {n ml : Nat} {ad : Nat → Nat} {as : List rn_V} {vals : List Value} (h : rn_vs n ad as vals) (hl : as.length ≤ ml) : rn_lr n ad (rn_pad ml as) ((lg_sl vals ++ List.replicate (ml - (lg_sl vals).length) Slot.unset).toArray) := by
  have e1 : (lg_sl vals).length = as.length := by rw [rn_sl_len h, rn_vs_len h]
  have e2 : (rn_pad ml as).length = ml := by unfold rn_pad; simp; omega
  refine ⟨lv_args 0 vals, by rw [e2]; exact lv_entry vals (by omega), fun i v hi hv => ?_⟩
  unfold rn_pad at hi
  rcases Nat.lt_or_ge i as.length with g | g
  · rw [List.getElem?_append_left g] at hi
    obtain ⟨x, h1, h2⟩ := rn_args_mem 0 h i v hi
    rw [Nat.zero_add] at h1
    exact ⟨x, h1, h2⟩
  · rw [List.getElem?_append_right g] at hi
    have := List.mem_of_getElem? hi
    rw [List.mem_replicate] at this
    exact absurd this.2 hv
theorem rn_narrow {ty : FieldType} {k : Int32} (h : rn_rk (some ty) ≤ 3) (hk : rn_okr (rn_rk (some ty)) k.toInt) : narrow ty (.int k) = .int k := by
  cases ty
  case int => rfl
  case boolean =>
    have e : k = 0 ∨ k = 1 := by
      rcases (show k.toInt = 0 ∨ k.toInt = 1 from hk) with q | q
      · exact Or.inl (Int32.toInt_inj.mp q)
      · exact Or.inr (Int32.toInt_inj.mp q)
    rcases e with q | q <;> subst q <;> rfl
  case byte =>
    have e : k = 0 := Int32.toInt_inj.mp (show k.toInt = 0 from hk)
    subst e
    rfl
  case char =>
    obtain ⟨h1, h2⟩ := (show 0 ≤ k.toInt ∧ k.toInt ≤ 65535 from hk)
    obtain ⟨j, hj, rfl⟩ := nI_of (rn_tnn h1)
    rw [nI_toInt hj] at h2
    exact (pk_charN (by omega)).1
  all_goals (exfalso; revert h; simp [rn_rk])
/-- a method's contract out of what the abstract machine says of it -/
theorem rn_met {l : Launch} {D : va_G} {A : Nat → Prop} {z : Nat} {mz : rn_Mt} {as : List rn_V} {M : rn_M} {Q : rn_Q} {ad : Nat → Nat} {tys : List (ClassId × FieldType)} {ws : va_W} {H : Heap} {vals : List Value} (hm : rn_mt z = some mz) (hpl : plainName mz.1.cls = true) (hla : as.length ≤ mz.2.2.1) (hk : rn_Snd l D A z 0 (rn_pad mz.2.2.1 as) [] M Q) (hv : rn_vs M.1.length ad as vals) (hb : rn_al mz = true → M.2.1 = (rn_mc mz, rn_ms mz)) :
    Met l mz.1 (rn_ws mz) (rn_rm mz) (rn_Pc D A ad tys ws M H vals) (rn_Qc D A (rn_al mz) ad M Q) (rn_mc mz) (rn_ms mz) A := by
  refine Met.ofW (cc := mz.2.1) (maxL := mz.2.2.1) (ret := mz.2.2.2.1) hpl rfl ?_
  intro p e s m args below meth c s₁ B hml hP
  obtain ⟨rfl, hH, hW, hEv, hEf, hA⟩ := hP
  have hts : ∀ w ∈ rn_ws mz, w.before vals.toArray s = true := atoms_spec (ws := rn_ws mz) B.pre
  have hr := B.returns
  have hlocks := B.notSynchronized
  rw [lg_entry_eq]
  have e2 : (rn_pad mz.2.2.1 as).length = mz.2.2.1 := by unfold rn_pad; simp; omega
  refine hk mz hm p e _ s m _ below meth c s.heap [] 0 0 _ _ [] ad tys ws ⟨B.exec, B.bytes, findClass_of_methodNamed B.named, fun w hw => hts w (List.mem_cons_of_mem _ hw), fun q => by rw [← q]; exact (name_of_methodNamed B.named B.method).1, Nat.le_refl _, Nat.le_refl _, hA⟩ (by rw [hml, e2]) (rn_lr_entry hv hla) trivial ⟨hW, hEv, hEf, va_S.rf, Nat.zero_le _, Nat.zero_le _, fun q => by rw [hb q, Nat.zero_add, Nat.zero_add]; exact ⟨Nat.le_refl _, Nat.le_refl _⟩⟩ ?_
  intro r M' ad' tys' ws' H' locs' cells' slots' pc' ls' stk' hq hx hb2 hR hW' hS' hc1 hc2
  refine W.widen (k := rn_mc mz) (n := rn_ms mz) hc1 hc2 ?_
  have fin : ∀ (rv : Option Value), rn_rr M'.1.length ad' r rv → ∀ t : State, t.heap = H' → s.WarmedH t.vm → rn_Qc D A (rn_al mz) ad M Q vals.toArray s (.returned rv) t := by
    intro rv hrv t ht hw
    exact ⟨⟨r, M', ad', tys', ws', rv, hq, rfl, hrv, hx, hb2, by rw [ht]; exact rn_W_moved hw.alike hW'⟩, hS'.F ht⟩
  match r, hR, fin with
  | none, hR, fin =>
    obtain ⟨hd, hk2, rfl⟩ := hR
    have er : mz.2.2.2.1 = none := by
      revert hk2
      rcases mz.2.2.2.1 with _ | ty
      · intro _; rfl
      · cases ty <;> simp [rn_rk]
    exact W.vret B.exec B.bytes (by rw [hr, er]) (fin none trivial) hS'.2.2 hd hlocks
  | some (.inl x), hR, fin =>
    obtain ⟨hd, hk2, hok, k, rfl, hkx⟩ := hR
    obtain ⟨ty, er⟩ : ∃ ty, mz.2.2.2.1 = some ty := by
      revert hk2
      rcases mz.2.2.2.1 with _ | ty
      · simp [rn_rk]
      · intro _; exact ⟨ty, rfl⟩
    rw [er] at hk2 hok
    exact W.zret (ty := ty) B.exec B.bytes (by rw [hr, er]) (rn_narrow hk2 (by rw [hkx]; exact hok)) (fin (some (.int k)) ⟨k, rfl, hkx⟩) hS'.2.2 hd hlocks
  | some (.inr v), hR, fin =>
    obtain ⟨hd, hk2, zv, rfl, hv2, hn⟩ := hR
    obtain ⟨n, er⟩ : ∃ n, mz.2.2.2.1 = some (.object n) := by
      revert hk2
      rcases mz.2.2.2.1 with _ | ty
      · simp [rn_rk]
      · cases ty <;> simp [rn_rk]
    exact W.aret (rt := .object n) B.exec B.bytes (by rw [hr, er]) (Or.inl ⟨n, rfl⟩) hn (fin (some zv) hv2) hS'.2.2 hd hlocks
theorem rn_Pc_blind {D : va_G} {A : Nat → Prop} {ad : Nat → Nat} {tys : List (ClassId × FieldType)} {ws : va_W} {M : rn_M} {H : Heap} {vals : List Value} : FrameBlind (rn_Pc D A ad tys ws M H vals) := by
  intro a U g mk h
  obtain ⟨h1, h2, h3, h4, h5, h6⟩ := h
  have ha : U.vm.Alike (U.calling g mk a).vm := Vm.Alike.refl U.vm
  exact ⟨h1, h2, rn_W_moved ha h3, rn_Ev_moved ha h4, (show rn_Ef ad A (U.calling g mk a) U.heap from rn_Ef_same (u := U) (U := U.calling g mk a) rfl h5), h6⟩
section RNC
variable {l : Launch} {D : va_G} {A : Nat → Prop} {p : Program} {e : Env} {R : Room} {s : State} {m : MethodId} {args : Array Value} {below : List Frame} {meth : Method} {c : Code} {H : Heap} {locs : List Loc} {cells slots : Nat} {QQ : State → Prop} {ls : Array Slot} {stk : List Value} {ad : Nat → Nat} {tys : List (ClassId × FieldType)} {ws : va_W} {mt : rn_Mt} {y pc : Nat} {L st : List rn_V} {M : rn_M} {Q : rn_Q}
theorem rn_Pc_at {vals : List Value} {Mz : rn_M} (C : rn_Cx A p R s m args meth c mt) (hz : rn_Dz D A R s mt ad tys ws M H locs cells slots) (h1 : Mz.1 = M.1) (h2 : Mz.2.2 = M.2.2) : ∀ U : State, U.heap = H → s.WarmedH U.vm → rn_Pc D A ad tys ws Mz H vals vals.toArray U := by
  intro U hU hW
  obtain ⟨z1, z2, z3, z4, z5, z6, z7⟩ := hz
  have e : Mz = (M.1, Mz.2.1, M.2.2) := by rw [← h1, ← h2]
  rw [e]
  refine ⟨rfl, hU, ?_, ?_, ?_, fun q hq => C.2.2.2.2.2.2.2 q (Nat.le_trans z4.1 (by rw [← hU]; exact hq))⟩
  · rw [hU]; exact rn_W_moved hW.alike z1
  · rw [hU]; exact rn_Ev_moved hW.alike (rn_Ev_kept z2 z4.2.1)
  · rw [hU]; exact rn_Ef_warm hW (rn_Ef_kept z3 z4.2.1)
/-- behind a call -/
theorem rn_after {mc ms x1 x2 : Nat} {al : Bool} {Mz : rn_M} {Qz : rn_Q} {a : Array Value} {t' : List rn_V} {rest : List Value} {g : rn_M → rn_M} (hm : rn_mt y = some mt) (hr : va_Run p l e R s m args below meth c H locs cells slots mc ms (F0 m pc ls stk) rest (rn_Qc D A al ad Mz Qz a) A)
    (hMz : Mz.1 = M.1 ∧ Mz.2.2 = M.2.2) (hg1 : ∀ M', (g M').1 = M'.1 ∧ (g M').2.2 = M'.2.2) (hQz : ∀ v M', Qz v M' → rn_Snd l D A y (pc + 3) L (v.toList ++ t') (g M') Q)
    (hgb : ∀ M', (al = false → M'.2.1 = Mz.2.1) → (rn_al mt = false → (g M').2.1 = M.2.1) ∧ (rn_al mt = true → cells + mc + (g M').2.1.1 ≤ R.cells ∧ slots + ms + (g M').2.1.2 ≤ R.slots)) (hcc : cells + mc ≤ R.cells ∧ slots + ms ≤ R.slots)
    (C : rn_Cx A p R s m args meth c mt) (hml : c.maxLocals = L.length) (hl : rn_lr M.1.length ad L ls) (hs : rn_vs M.1.length ad t' rest) (hz : rn_Dz D A R s mt ad tys ws M H locs cells slots) (E : rn_Ex l D A p e R s m args below meth c mt QQ ad M Q) : W p l e R s m args below meth c H locs cells slots QQ (F0 m pc ls stk) := by
  intro T hT X
  obtain ⟨v, st₀, t, T', Lc, h0, X', hL, e1, e2, ⟨⟨rv, M1, ad1, tys1, ws1, r, hq, hv, hrr, hx, hb, hW1⟩, hz1, hk1⟩, stp⟩ := hr T hT X
  cases hv
  rw [h0] at hz1 hk1
  obtain ⟨z1, z2, z3, z4, z5, z6, z7⟩ := hz
  have hxM : rn_xt M (g M1) ad ad1 := by
    obtain ⟨f1, f2, f3⟩ := hx
    rw [hMz.1] at f1 f2
    refine ⟨by rw [(hg1 M1).1]; exact f1, f2, fun q hq => ?_⟩
    obtain ⟨g1, g2, g3, g4⟩ := f3 q hq
    unfold rn_kd rn_ln rn_gi rn_gr at *
    rw [(hg1 M1).1, (hg1 M1).2]
    rw [hMz.1, hMz.2] at *
    exact ⟨g1, g2, g3, g4⟩
  have h8 : 8 ≤ M.1.length := by have := z1.2.2.2.1; omega
  have eg : g M1 = (M1.1, (g M1).2.1, M1.2.2) := by rw [← (hg1 M1).1, ← (hg1 M1).2]
  have hWg : rn_W D A tys1 ws1 ad1 (g M1) s t.heap := by
    have := rn_W_moved (X'.warmed.alike.symm) (by rw [e2]; exact rn_W_moved (Vm.Alike.refl _) hW1 : rn_W D A tys1 ws1 ad1 M1 (t.setVm T'.vm) t.heap)
    rw [eg]
    exact this
  have hlen : (g M1).1.length = M1.1.length := by rw [(hg1 M1).1]
  have hgb2 := hgb M1 hb
  have hS1 : va_S A s.heap T'.heap (locs ++ Lc) := ⟨Nat.le_trans z4.1 (by rw [e1]; exact hz1), fun q h1 h2 => by rw [e1, hk1 q (Nat.lt_of_lt_of_le h1 z4.1) h2]; exact z4.2.1 q h1 h2, fun q hq => by
    rcases List.mem_append.mp hq with h | h
    · exact z4.2.2 q h
    · exact hL q h⟩
  have hst : rn_vs (g M1).1.length ad1 (rv.toList ++ t') (v.toList ++ rest) := by
    refine rn_vs_app ?_ (rn_vs_ext hxM.1 hxM.2.1 hs)
    rw [hlen]
    match rv, v, hrr with
    | none, none, _ => trivial
    | some _, some _, h => exact ⟨h, trivial⟩
  obtain ⟨t2, a1, b1⟩ := hQz rv M1 hq mt hm p e R s m args below meth c T'.heap (locs ++ Lc) (cells + mc) (slots + ms) QQ ls _ ad1 tys1 ws1 C hml (rn_lr_ext hxM.1 hxM.2.1 hl) hst ⟨by rw [e1]; exact hWg, rn_Ev_xt h8 hxM z2, rn_Ef_xt h8 hxM z3, hS1, hcc.1, hcc.2, hgb2.2⟩ (rn_Ex_xt hxM hgb2.1 E) T' rfl X'
  exact ⟨t2, stp t2 a1, b1⟩
end RNC
end
section
theorem rn_mcs_eq {z : Nat} {mz : rn_Mt} (h : rn_mt z = some mz) : rn_mcs z = (rn_mc mz, rn_ms mz) := by unfold rn_mcs; rw [h]; rfl
theorem rn_ml_eq {z : Nat} {mz : rn_Mt} (h : rn_mt z = some mz) : rn_ml z = mz.2.2.1 := by unfold rn_ml; rw [h]
theorem rn_chc_out {mt : rn_Mt} {kd z b k t idx : Nat} {nst : Bool} (h : rn_chc mt kd z b k nst t idx = true) : ∃ (mz : rn_Mt) (pc pd : Nat), rn_mt z = some mz ∧ Cond.code mz.1 mz.2.1 mz.2.2.1 mz.2.2.2.1 ∈ rn_Wd ∧ Cond.initialized mz.1.cls ∈ rn_Wd ∧
    (match (generalizing := false) kd with
      | 0 => rn_hw pc (.instanceMethod mz.1) && rn_hw pd (.selects mz.1.cls mz.1 mz.1)
      | 1 => rn_hw pc (.static mz.1)
      | _ => rn_hw pc (.instanceMethod mz.1) && decide (mz.1.name = "<init>") && decide (mz.2.2.2.1 = none)) = true ∧
    (match (generalizing := false) nst with | true => rn_hn t (.methodLinkNest mt.1.cls idx mz.1 "RiverNames") | false => rn_hw t (.methodLink mt.1.cls idx mz.1)) = true ∧
    (mz.1.cls ≠ "java/lang/invoke/MethodHandle" ∧ mz.1.cls ≠ "java/lang/invoke/VarHandle") ∧ (parseMethodDescriptor mz.1.desc).map (fun d => d.parameters.length) = some (match (generalizing := false) kd with | 1 => b | _ => b - 1) ∧ (1 ≤ b ∨ kd = 1) ∧
    rn_fr mz + 1 ≤ rn_fr mt ∧ 8 + (mz.2.2.1 + 11) + rn_lw mz ≤ rn_lw mt ∧ (match (generalizing := false) k with | 4 => rn_al mt | _ => decide (rn_al mz = false) && decide (rn_mc mz = 0) && decide (rn_ms mz = 0)) = true ∧ plainName mz.1.cls = true ∧ b ≤ mz.2.2.1 := by
  unfold rn_chc at h
  split at h
  · rename_i mz kz pa pb pc pd h1 h2
    rw [Bool.and_eq_true, Bool.and_eq_true, Bool.and_eq_true, Bool.and_eq_true, Bool.and_eq_true, Bool.and_eq_true, Bool.and_eq_true, Bool.and_eq_true, Bool.and_eq_true, Bool.and_eq_true, Bool.and_eq_true, Bool.and_eq_true] at h
    obtain ⟨⟨⟨⟨⟨⟨⟨⟨⟨⟨⟨⟨g0, g1⟩, g2⟩, g3⟩, g4⟩, g5⟩, g6⟩, g7⟩, g8⟩, g9⟩, g10⟩, g11⟩, g12⟩ := h
    rw [decide_eq_true_eq] at g0 g6 g7 g8 g9 g12
    unfold rn_plain at g5
    rw [Bool.and_eq_true, decide_eq_true_eq, decide_eq_true_eq] at g5
    exact ⟨mz, pc, pd, h1, rn_hw_mem g1, rn_hw_mem g2, g3, g4, g5, g6, g7, g8, g9, g10, g11, g12⟩
  · cases h
section RNV
variable {l : Launch} {D : va_G} {A : Nat → Prop} {p : Program} {e : Env} {R : Room} {s : State} {m : MethodId} {args : Array Value} {below : List Frame} {meth : Method} {c : Code} {H : Heap} {locs : List Loc} {cells slots : Nat} {QQ : State → Prop} {ls : Array Slot} {stk : List Value} {ad : Nat → Nat} {tys : List (ClassId × FieldType)} {ws : va_W} {mt : rn_Mt} {y pc : Nat} {L st : List rn_V} {M : rn_M} {Q : rn_Q}
theorem rn_cal_go {z k : Nat} {mz : rn_Mt} {as : List rn_V} {vals rest : List Value} {t' : List rn_V} (hm : rn_mt y = some mt) (hmz : rn_mt z = some mz) (hpl : plainName mz.1.cls = true) (hla : as.length ≤ mz.2.2.1)
    (hkal : (match k with | 4 => rn_al mt | _ => decide (rn_al mz = false) && decide (rn_mc mz = 0) && decide (rn_ms mz = 0)) = true)
    (hcal : rn_cal k z (rn_mcs z).1 (rn_mcs z).2 as M (fun z as M' Q' => rn_Snd l D A z 0 (rn_pad (rn_ml z) as) [] M' Q') fun v M' => rn_Snd l D A y (pc + 3) L (v.toList ++ t') M' Q) (hvals : rn_vs M.1.length ad as vals)
    (hrun : ∀ (Pc : Array Value → State → Prop) (Qc : Array Value → State → Outcome → State → Prop) (free : Addr → Prop), Met l mz.1 (rn_ws mz) (rn_rm mz) Pc Qc (rn_mc mz) (rn_ms mz) free → FrameBlind Pc → (∀ U : State, U.heap = H → s.WarmedH U.vm → Pc vals.toArray U) → (cells + rn_mc mz ≤ R.cells ∧ slots + rn_ms mz ≤ R.slots) → va_Run p l e R s m args below meth c H locs cells slots (rn_mc mz) (rn_ms mz) (F0 m pc ls stk) rest (Qc vals.toArray) free)
    (C : rn_Cx A p R s m args meth c mt) (hml : c.maxLocals = L.length) (hl : rn_lr M.1.length ad L ls) (hs : rn_vs M.1.length ad t' rest) (hz : rn_Dz D A R s mt ad tys ws M H locs cells slots) (E : rn_Ex l D A p e R s m args below meth c mt QQ ad M Q) : W p l e R s m args below meth c H locs cells slots QQ (F0 m pc ls stk) := by
  rw [rn_mcs_eq hmz] at hcal
  obtain ⟨z1, z2, z3, z4, z5, z6, z7⟩ := id hz
  by_cases hk4 : k = 4
  · subst hk4
    obtain ⟨hb1, hb2, hC⟩ := hcal
    rw [rn_ml_eq hmz] at hC
    have hal : rn_al mt = true := hkal
    have hz7 := z7 hal
    have hb1' : rn_mc mz ≤ M.2.1.1 := hb1
    have hb2' : rn_ms mz ≤ M.2.1.2 := hb2
    refine rn_after (M := M) (x1 := 0) (x2 := 0) (al := rn_al mz) (Mz := rn_sb M (rn_mc mz) (rn_ms mz)) (g := fun M' => rn_sb M' (M.2.1.1 - rn_mc mz) (M.2.1.2 - rn_ms mz)) (t' := t') hm (hrun _ _ _ (rn_met (ad := ad) (tys := tys) (ws := ws) (H := H) hmz hpl hla hC hvals (fun _ => rfl)) rn_Pc_blind (rn_Pc_at C hz rfl rfl) ⟨by omega, by omega⟩) ⟨rfl, rfl⟩ (fun _ => ⟨rfl, rfl⟩) (fun _ _ q => q) (fun M' _ => ⟨fun q => (by rw [hal] at q; cases q), fun _ => ⟨?_, ?_⟩⟩) ⟨by omega, by omega⟩ C hml hl hs hz E
    · show cells + rn_mc mz + (M.2.1.1 - rn_mc mz) ≤ R.cells
      omega
    · show slots + rn_ms mz + (M.2.1.2 - rn_ms mz) ≤ R.slots
      omega
  · have hkal : (decide (rn_al mz = false) && decide (rn_mc mz = 0) && decide (rn_ms mz = 0)) = true := by
      revert hkal
      split
      · exact absurd rfl hk4
      · exact id
    simp only [Bool.and_eq_true, decide_eq_true_eq] at hkal
    obtain ⟨⟨q1, q2⟩, q3⟩ := hkal
    have hC : rn_Snd l D A z 0 (rn_pad (rn_ml z) as) [] M (fun v M' => rn_Snd l D A y (pc + 3) L (v.toList ++ t') M' Q) := by
      revert hcal
      unfold rn_cal
      split
      · exact absurd rfl hk4
      · exact id
    rw [rn_ml_eq hmz] at hC
    refine rn_after (M := M) (x1 := 0) (x2 := 0) (al := rn_al mz) (Mz := M) (g := fun M' => M') (t' := t') hm (hrun _ _ _ (rn_met (ad := ad) (tys := tys) (ws := ws) (H := H) hmz hpl hla hC hvals (fun q => by rw [q1] at q; cases q)) rn_Pc_blind (rn_Pc_at C hz rfl rfl) ⟨by omega, by omega⟩) ⟨rfl, rfl⟩ (fun _ => ⟨rfl, rfl⟩) (fun _ _ q => q) (fun M' hb => ⟨fun _ => hb q1, fun q => ?_⟩) ⟨by omega, by omega⟩ C hml hl hs hz E
    rw [hb q1]
    have := z7 q
    omega
theorem rn_stk_split {n b : Nat} {ad : Nat → Nat} (hs : rn_vs n ad st stk) (hb : b ≤ st.length) : rn_vs n ad (st.take b).reverse (stk.take b).reverse ∧ rn_vs n ad (st.drop b) (stk.drop b) ∧ stk = (stk.take b).reverse.reverse ++ stk.drop b ∧ (stk.take b).reverse.length = b ∧ (st.take b).reverse.length = b := by
  have h1 := rn_vs_take b hs
  have h2 := rn_vs_len hs
  refine ⟨rn_vs_rev h1.1, h1.2, by rw [List.reverse_reverse, List.take_append_drop], ?_, ?_⟩ <;> simp <;> omega
theorem rn_i_virt {idx a b t k cc : Nat} (hm : rn_mt y = some mt) (hd : decode mt.2.1 pc = .ok (.invokevirtual idx, 3)) (hcl : (match cc with | 22 => (match rn_mt a with | some mz => decide (mz.1.cls = "java/lang/String") | none => false) | 0 => false | c + 1 => decide (c < 11) && (match rn_mt a with | some mz => decide (mz.1.cls = rn_cn c) | none => false)) = true) (hc : rn_chc mt 0 a b k false t idx = true)
    (h : rn_g (Nat.ble b st.length && Nat.ble (st.drop b).length 8) (rn_rcv (st.take b).reverse fun r => rn_kd M r = cc ∧ rn_cal k a (rn_mcs a).1 (rn_mcs a).2 (st.take b).reverse M (fun z as M' Q' => rn_Snd l D A z 0 (rn_pad (rn_ml z) as) [] M' Q') fun v M' => rn_Snd l D A y (pc + 3) L (v.toList ++ st.drop b) M' Q))
    (C : rn_Cx A p R s m args meth c mt) (hml : c.maxLocals = L.length) (hl : rn_lr M.1.length ad L ls) (hs : rn_vs M.1.length ad st stk) (hz : rn_Dz D A R s mt ad tys ws M H locs cells slots) (E : rn_Ex l D A p e R s m args below meth c mt QQ ad M Q) : W p l e R s m args below meth c H locs cells slots QQ (F0 m pc ls stk) := by
  obtain ⟨hg, h⟩ := rn_g_out h
  rw [Bool.and_eq_true] at hg
  have hb : b ≤ st.length := Nat.le_of_ble_eq_true hg.1
  have h8 : (st.drop b).length ≤ 8 := Nat.le_of_ble_eq_true hg.2
  obtain ⟨hv1, hv2, hst, hn1, hn2⟩ := rn_stk_split hs hb
  obtain ⟨mz, pc', pd', hmz, w1, w2, w3, w4, w5, w6, w7, w8, w9, w10, w11, w12⟩ := rn_chc_out hc
  obtain ⟨z1, z2, z3, z4, z5, z6, z7⟩ := id hz
  generalize (st.take b).reverse = as at h hv1 hn2
  generalize (stk.take b).reverse = vals at hv1 hst hn1
  unfold rn_rcv at h
  split at h
  · rename_i r as'
    obtain ⟨hkd, hcal⟩ := h
    obtain ⟨As, rfl, hr, hAs⟩ := rn_vs_R hv1
    have hrec : ∃ cellB : Cell, H[ad r]? = some cellB ∧ cellB.vm.isStatics = false ∧ s.vm.findClass mz.1.cls = some cellB.cls := by
      by_cases e22 : cc = 22
      · subst e22
        rw [hmz] at hcl
        have hcl : mz.1.cls = "java/lang/String" := of_decide_eq_true hcl
        obtain ⟨g1, -⟩ := (z2 r (rn_W_lt8 z1.2.2.2 hr (by omega))).2.1 hkd
        obtain ⟨cell, f1, f2, f3, -⟩ := g1.kept z4.2.1
        exact ⟨cell, f1, f2, by rw [hcl]; exact f3⟩
      · rw [hmz] at hcl
        cases cc with
        | zero => cases hcl
        | succ ci =>
          have hcl : (decide (ci < 11) && decide (mz.1.cls = rn_cn ci)) = true := by
            revert hcl
            split
            · rename_i q; exact absurd q e22
            · rename_i q; cases q
            · rename_i q; cases q; exact id
          rw [Bool.and_eq_true, decide_eq_true_eq, decide_eq_true_eq] at hcl
          obtain ⟨f0, fs, f1, f2, f3⟩ := rn_W_obj z1.2.2.2 hr hkd hcl.1
          rw [hcl.2]
          exact va_recv z1.1 z1.2.1 (rn_cl_at ci hcl.1) f1
    have h9 : (match (0 : Nat) with | 1 => b | _ => b - 1) = b - 1 := rfl
    simp only [Bool.and_eq_true] at w3
    have hAl : As.length = b - 1 := by simp at hn1; omega
    have hsum : ((stk.drop b).map fun v => v.category).sum ≤ 8 := by rw [rn_vs_sum hv2]; exact h8
    refine rn_cal_go (vals := .ref (ad r) :: As) (rest := stk.drop b) hm hmz w11 (by rw [hn2]; exact w12) w10 hcal hv1 (fun Pc Qc free hM hbl hPc hf => ?_) C hml hl hv2 hz E
    exact va_runV (C := mz.1.cls) (n := b - 1) ⟨C.1, C.2.1, hml, C.2.2.1, C.2.2.2.1⟩ hM (cwV (b - 1) C.2.2.2.1 (rn_good (fun w hw => by
        unfold wsV at hw
        rcases List.mem_append.mp hw with q | q
        · simp only [List.mem_cons, List.not_mem_nil, or_false] at q
          rcases q with rfl | rfl | rfl | rfl
          · exact rn_hw_mem w4
          · exact rn_hw_mem w3.1
          · exact rn_hw_mem w3.2
          · exact w2
        · rcases List.mem_cons.mp q with rfl | q
          · exact w1
          · exact q)) rfl rfl rfl ⟨rfl, w5.1, w5.2, w6⟩ ⟨Nat.le_trans w8 C.2.2.2.2.2.1, Nat.le_trans w9 C.2.2.2.2.2.2.1⟩) ⟨hbl, hrec, hPc⟩ rfl hAl (by obtain ⟨lv, hv, -⟩ := hl; exact hv.1) (by show stk = As.reverse ++ Value.ref (ad r) :: stk.drop b; rw [List.reverse_cons, List.append_assoc] at hst; exact hst) (lv_room hsum) hd hf
  · exact h.elim
theorem rn_i_stat {idx a b t k : Nat} {nst : Bool} (hm : rn_mt y = some mt) (hd : decode mt.2.1 pc = .ok (.invokestatic idx, 3)) (hc : rn_chc mt 1 a b k nst t idx = true)
    (h : rn_g (Nat.ble b st.length && Nat.ble (st.drop b).length 8) (rn_cal k a (rn_mcs a).1 (rn_mcs a).2 (st.take b).reverse M (fun z as M' Q' => rn_Snd l D A z 0 (rn_pad (rn_ml z) as) [] M' Q') fun v M' => rn_Snd l D A y (pc + 3) L (v.toList ++ st.drop b) M' Q))
    (C : rn_Cx A p R s m args meth c mt) (hml : c.maxLocals = L.length) (hl : rn_lr M.1.length ad L ls) (hs : rn_vs M.1.length ad st stk) (hz : rn_Dz D A R s mt ad tys ws M H locs cells slots) (E : rn_Ex l D A p e R s m args below meth c mt QQ ad M Q) : W p l e R s m args below meth c H locs cells slots QQ (F0 m pc ls stk) := by
  obtain ⟨hg, hcal⟩ := rn_g_out h
  rw [Bool.and_eq_true] at hg
  have hb : b ≤ st.length := Nat.le_of_ble_eq_true hg.1
  have h8 : (st.drop b).length ≤ 8 := Nat.le_of_ble_eq_true hg.2
  obtain ⟨hv1, hv2, hst, hn1, hn2⟩ := rn_stk_split hs hb
  obtain ⟨mz, pc', pd', hmz, w1, w2, w3, w4, w5, w6, w7, w8, w9, w10, w11, w12⟩ := rn_chc_out hc
  obtain ⟨z1, z2, z3, z4, z5, z6, z7⟩ := id hz
  have hsum : ((stk.drop b).map fun v => v.category).sum ≤ 8 := by rw [rn_vs_sum hv2]; exact h8
  have hw3 : Cond.static mz.1 ∈ rn_Wd := rn_hw_mem w3
  refine rn_cal_go (vals := (stk.take b).reverse) (rest := stk.drop b) hm hmz w11 (by rw [hn2]; exact w12) w10 hcal hv1 (fun Pc Qc free hM hbl hPc hf => ?_) C hml hl hv2 hz E
  have hR : (rn_rm mz).frames + 1 ≤ R.frames ∧ 8 + (mz.2.2.1 + 11) + (rn_rm mz).locals ≤ R.locals := ⟨Nat.le_trans w8 C.2.2.2.2.2.1, Nat.le_trans w9 C.2.2.2.2.2.2.1⟩
  cases nst with
  | false =>
    exact va_runS (n := b) ⟨C.1, C.2.1, hml, C.2.2.1, C.2.2.2.1⟩ hM (va_cwS b C.2.2.2.1 (rn_good (fun w hw => by
        unfold va_wsS at hw
        rcases List.mem_append.mp hw with q | q
        · simp only [List.mem_cons, List.not_mem_nil, or_false] at q
          rcases q with rfl | rfl | rfl
          · exact rn_hw_mem w4
          · exact hw3
          · exact w2
        · rcases List.mem_cons.mp q with rfl | q
          · exact w1
          · exact q)) rfl rfl rfl ⟨w5.1, w5.2, w6⟩ hR) ⟨hbl, hPc⟩ rfl hn1 (by obtain ⟨lv, hv, -⟩ := hl; exact hv.1) hst (lv_room hsum) hd hf
  | true =>
    exact va_runSN (n := b) ⟨C.1, C.2.1, hml, C.2.2.1, C.2.2.2.1⟩ hM ⟨va_cnB b C.2.2.2.1 (rn_good (fun w hw => by
        rcases List.mem_cons.mp hw with rfl | q
        · exact w1
        · exact q)) rfl rfl rfl (z3.2.2.2.2.2.2.1 _ (rn_hn_mem w4)) (C.2.2.2.1 _ w2) ⟨w5.1, w5.2, w6⟩ hR, C.2.2.2.1 _ hw3, trivial⟩ ⟨hbl, hPc⟩ rfl hn1 (by obtain ⟨lv, hv, -⟩ := hl; exact hv.1) hst (lv_room hsum) hd hf
theorem rn_i_spec {idx a b t k cc : Nat} {nst : Bool} (hm : rn_mt y = some mt) (hd : decode mt.2.1 pc = .ok (.invokespecial idx, 3)) (hc : rn_chc mt 2 a b k nst t idx = true)
    (h : rn_g (Nat.ble b st.length && Nat.ble (st.drop b).length 8) (rn_rcv (st.take b).reverse fun r => rn_kd M r = cc ∧ rn_cal k a (rn_mcs a).1 (rn_mcs a).2 (st.take b).reverse M (fun z as M' Q' => rn_Snd l D A z 0 (rn_pad (rn_ml z) as) [] M' Q') fun v M' => rn_Snd l D A y (pc + 3) L (v.toList ++ st.drop b) M' Q))
    (C : rn_Cx A p R s m args meth c mt) (hml : c.maxLocals = L.length) (hl : rn_lr M.1.length ad L ls) (hs : rn_vs M.1.length ad st stk) (hz : rn_Dz D A R s mt ad tys ws M H locs cells slots) (E : rn_Ex l D A p e R s m args below meth c mt QQ ad M Q) : W p l e R s m args below meth c H locs cells slots QQ (F0 m pc ls stk) := by
  obtain ⟨hg, h⟩ := rn_g_out h
  rw [Bool.and_eq_true] at hg
  have hb : b ≤ st.length := Nat.le_of_ble_eq_true hg.1
  have h8 : (st.drop b).length ≤ 8 := Nat.le_of_ble_eq_true hg.2
  obtain ⟨hv1, hv2, hst, hn1, hn2⟩ := rn_stk_split hs hb
  obtain ⟨mz, pc', pd', hmz, w1, w2, w3, w4, w5, w6, w7, w8, w9, w10, w11, w12⟩ := rn_chc_out hc
  obtain ⟨z1, z2, z3, z4, z5, z6, z7⟩ := id hz
  generalize (st.take b).reverse = as at h hv1 hn2
  generalize (stk.take b).reverse = vals at hv1 hst hn1
  unfold rn_rcv at h
  split at h
  · rename_i r as'
    obtain ⟨hkd, hcal⟩ := h
    obtain ⟨As, rfl, hr, hAs⟩ := rn_vs_R hv1
    simp only [Bool.and_eq_true, decide_eq_true_eq] at w3
    obtain ⟨⟨w3a, w3b⟩, w3c⟩ := w3
    have hAl : As.length = b - 1 := by simp at hn1; omega
    have hsum : ((stk.drop b).map fun v => v.category).sum ≤ 8 := by rw [rn_vs_sum hv2]; exact h8
    have hR : (rn_rm mz).frames + 1 ≤ R.frames ∧ 8 + (mz.2.2.1 + 11) + (rn_rm mz).locals ≤ R.locals := ⟨Nat.le_trans w8 C.2.2.2.2.2.1, Nat.le_trans w9 C.2.2.2.2.2.2.1⟩
    have hws : rn_ws mz = Cond.code mz.1 mz.2.1 mz.2.2.1 none :: rn_Wd := by unfold rn_ws; rw [w3c]
    have hgo : GoodIn rn_Wd (rn_ws mz) := rn_good (fun w hw => by
        rcases List.mem_cons.mp hw with rfl | q
        · exact w1
        · exact q)
    have hst2 : stk = As.reverse ++ Value.ref (ad r) :: stk.drop b := by rw [List.reverse_cons, List.append_assoc] at hst; exact hst
    refine rn_cal_go (vals := .ref (ad r) :: As) (rest := stk.drop b) hm hmz w11 (by rw [hn2]; exact w12) w10 hcal hv1 (fun Pc Qc free hM hbl hPc hf => ?_) C hml hl hv2 hz E
    cases nst with
    | false =>
      exact va_runI (n := b - 1) ⟨C.1, C.2.1, hml, C.2.2.1, C.2.2.2.1⟩ hM (cwI (b - 1) C.2.2.2.1 hgo hws rfl rfl (C.2.2.2.1 _ w2) (C.2.2.2.1 _ (rn_hw_mem w4)) (C.2.2.2.1 _ (rn_hw_mem w3a)) w3b ⟨w5.1, w5.2, w6⟩ hR) ⟨hbl, hPc⟩ rfl hAl (by obtain ⟨lv, hv, -⟩ := hl; exact hv.1) hst2 (lv_room hsum) hd hf
    | true =>
      exact va_runIN (n := b - 1) ⟨C.1, C.2.1, hml, C.2.2.1, C.2.2.2.1⟩ hM ⟨va_cnB (b - 1) C.2.2.2.1 hgo hws rfl rfl (z3.2.2.2.2.2.2.1 _ (rn_hn_mem w4)) (C.2.2.2.1 _ w2) ⟨w5.1, w5.2, w6⟩ hR, w3b, C.2.2.2.1 _ (rn_hw_mem w3a)⟩ ⟨hbl, hPc⟩ rfl hAl (by obtain ⟨lv, hv, -⟩ := hl; exact hv.1) hst2 (lv_room hsum) hd hf
  · exact h.elim
end RNV
end
section
theorem rn_at_eq {y pc : Nat} {mt : rn_Mt} (h : rn_mt y = some mt) : rn_at y pc = rn_look (rn_tb mt) pc := by unfold rn_at; rw [h]; rfl
theorem rn_acp_out {st : List rn_V} {f : Int → Int → Nat → Int → Nat → List rn_V → Prop} (h : rn_acp st f) : ∃ n dp d sp s t, st = .inl n :: .inl dp :: .inr (some (some d)) :: .inl sp :: .inr (some (some s)) :: t ∧ f n dp d sp s t := by
  unfold rn_acp at h; split at h
  · exact ⟨_, _, _, _, _, _, rfl, h⟩
  · exact h.elim
section RNX
variable {l : Launch} {D : va_G} {A : Nat → Prop} {p : Program} {e : Env} {R : Room} {s : State} {m : MethodId} {args : Array Value} {below : List Frame} {meth : Method} {c : Code} {H : Heap} {locs : List Loc} {cells slots : Nat} {QQ : State → Prop} {ls : Array Slot} {stk : List Value} {ad : Nat → Nat} {tys : List (ClassId × FieldType)} {ws : va_W} {mt : rn_Mt} {y pc : Nat} {L st : List rn_V} {M : rn_M} {Q : rn_Q}
theorem rn_i_bin {ins : Instr} {nx : Nat} {f : Int → Int → Int} (g : Int32 → Int32 → Int32) (hfg : ∀ x y : Int32, (g x y).toInt = f x.toInt y.toInt) (row : ∀ (x y : Int32) (rest : List Value), W p l e R s m args below meth c H locs cells slots QQ (F0 m nx ls (.int (g x y) :: rest)) → W p l e R s m args below meth c H locs cells slots QQ (F0 m pc ls (.int y :: .int x :: rest))) (hm : rn_mt y = some mt)
    (h : rn_st2 st fun x y' t => rn_Snd l D A y nx L (.inl (f x y') :: t) M Q)
    (C : rn_Cx A p R s m args meth c mt) (hml : c.maxLocals = L.length) (hl : rn_lr M.1.length ad L ls) (hs : rn_vs M.1.length ad st stk) (hz : rn_Dz D A R s mt ad tys ws M H locs cells slots) (E : rn_Ex l D A p e R s m args below meth c mt QQ ad M Q) : W p l e R s m args below meth c H locs cells slots QQ (F0 m pc ls stk) := by
  obtain ⟨x, y', t, rfl, h⟩ := rn_st2_out h
  obtain ⟨ky, stk1, rfl, rfl, hs1⟩ := rn_vs_I hs
  obtain ⟨kx, stk2, rfl, rfl, hs2⟩ := rn_vs_I hs1
  exact row kx ky stk2 (rn_go0 hm h C hml hl ⟨⟨_, rfl, hfg _ _⟩, hs2⟩ hz E)
theorem rn_i_if {nx a : Nat} {P : Int → Prop} {T1 T2 : Nat} (row : ∀ (x : Int32) (rest : List Value), (P x.toInt → W p l e R s m args below meth c H locs cells slots QQ (F0 m T1 ls rest)) → (¬ P x.toInt → W p l e R s m args below meth c H locs cells slots QQ (F0 m T2 ls rest)) → W p l e R s m args below meth c H locs cells slots QQ (F0 m pc ls (.int x :: rest))) (hm : rn_mt y = some mt)
    (h : rn_st1 st fun x t => rn_br (P x) (rn_Snd l D A y T1 L t M Q) (rn_Snd l D A y T2 L t M Q))
    (C : rn_Cx A p R s m args meth c mt) (hml : c.maxLocals = L.length) (hl : rn_lr M.1.length ad L ls) (hs : rn_vs M.1.length ad st stk) (hz : rn_Dz D A R s mt ad tys ws M H locs cells slots) (E : rn_Ex l D A p e R s m args below meth c mt QQ ad M Q) : W p l e R s m args below meth c H locs cells slots QQ (F0 m pc ls stk) := by
  obtain ⟨x, t, rfl, h⟩ := rn_st1_out h
  obtain ⟨kx, stk1, rfl, rfl, hs1⟩ := rn_vs_I hs
  exact row kx stk1 (fun q => rn_go0 hm (h.1 q) C hml hl hs1 hz E) (fun q => rn_go0 hm (h.2 q) C hml hl hs1 hz E)
theorem rn_i_icmp {P : Int → Int → Prop} {T1 T2 : Nat} (row : ∀ (x y : Int32) (rest : List Value), (P x.toInt y.toInt → W p l e R s m args below meth c H locs cells slots QQ (F0 m T1 ls rest)) → (¬ P x.toInt y.toInt → W p l e R s m args below meth c H locs cells slots QQ (F0 m T2 ls rest)) → W p l e R s m args below meth c H locs cells slots QQ (F0 m pc ls (.int y :: .int x :: rest))) (hm : rn_mt y = some mt)
    (h : rn_st2 st fun x y' t => rn_br (P x y') (rn_Snd l D A y T1 L t M Q) (rn_Snd l D A y T2 L t M Q))
    (C : rn_Cx A p R s m args meth c mt) (hml : c.maxLocals = L.length) (hl : rn_lr M.1.length ad L ls) (hs : rn_vs M.1.length ad st stk) (hz : rn_Dz D A R s mt ad tys ws M H locs cells slots) (E : rn_Ex l D A p e R s m args below meth c mt QQ ad M Q) : W p l e R s m args below meth c H locs cells slots QQ (F0 m pc ls stk) := by
  obtain ⟨x, y', t, rfl, h⟩ := rn_st2_out h
  obtain ⟨ky, stk1, rfl, rfl, hs1⟩ := rn_vs_I hs
  obtain ⟨kx, stk2, rfl, rfl, hs2⟩ := rn_vs_I hs1
  exact row kx ky stk2 (fun q => rn_go0 hm (h.1 q) C hml hl hs2 hz E) (fun q => rn_go0 hm (h.2 q) C hml hl hs2 hz E)
theorem rn_i_math {idx t : Nat} {f : Int → Int → Int} (g : Int32 → Int32 → Int32) (hfg : ∀ x y : Int32, (g x y).toInt = f x.toInt y.toInt) (row : ∀ (x y : Int32) (rest : List Value), (rest.map fun v => v.category).sum + 13 ≤ R.locals → W p l e R s m args below meth c H locs cells slots QQ (F0 m (pc + 3) ls (.int (g x y) :: rest)) → W p l e R s m args below meth c H locs cells slots QQ (F0 m pc ls (.int y :: .int x :: rest))) (hm : rn_mt y = some mt) (hlo : 21 ≤ rn_lw mt)
    (h : rn_st2 st fun x y' t => rn_g (Nat.ble t.length 8) (rn_Snd l D A y (pc + 3) L (.inl (f x y') :: t) M Q))
    (C : rn_Cx A p R s m args meth c mt) (hml : c.maxLocals = L.length) (hl : rn_lr M.1.length ad L ls) (hs : rn_vs M.1.length ad st stk) (hz : rn_Dz D A R s mt ad tys ws M H locs cells slots) (E : rn_Ex l D A p e R s m args below meth c mt QQ ad M Q) : W p l e R s m args below meth c H locs cells slots QQ (F0 m pc ls stk) := by
  obtain ⟨x, y', t, rfl, h⟩ := rn_st2_out h
  obtain ⟨hg, h⟩ := rn_g_out h
  obtain ⟨ky, stk1, rfl, rfl, hs1⟩ := rn_vs_I hs
  obtain ⟨kx, stk2, rfl, rfl, hs2⟩ := rn_vs_I hs1
  have h8 := Nat.le_of_ble_eq_true hg
  exact row kx ky stk2 (by rw [rn_vs_sum hs2]; have := C.2.2.2.2.2.2.1; omega) (rn_go0 hm h C hml hl ⟨⟨_, rfl, hfg _ _⟩, hs2⟩ hz E)
end RNX
theorem rn_max32 (x y : Int32) : (if x < y then y else x).toInt = max x.toInt y.toInt := by
  by_cases q : x < y
  · rw [if_pos q]; rw [rn_il] at q; omega
  · rw [if_neg q]; rw [rn_il] at q; omega
theorem rn_min32 (x y : Int32) : (if y < x then y else x).toInt = min x.toInt y.toInt := by
  by_cases q : y < x
  · rw [if_pos q]; rw [rn_il] at q; omega
  · rw [if_neg q]; rw [rn_il] at q; omega
theorem rn_abs32 (x : Int32) : (if 0 ≤ x then x else 0 - x).toInt = rn_wr (max x.toInt (-x.toInt)) := by
  have h := rn_rng x
  by_cases q : 0 ≤ x
  · rw [if_pos q]
    rw [rn_ile] at q
    have q : 0 ≤ x.toInt := q
    rw [show max x.toInt (-x.toInt) = x.toInt by omega, rn_wr_id h.1 h.2]
  · rw [if_neg q, rn_neg]
    rw [rn_ile] at q
    have q : ¬ 0 ≤ x.toInt := q
    rw [show max x.toInt (-x.toInt) = -x.toInt by omega]
theorem rn_offs {pc i : Nat} {offs : List Int} {ts : List Nat} (h : offs.map (fun (o : Int) => (pc : Int) + o) = ts.map (fun (n : Nat) => (n : Int))) {t : Nat} (ht : ts[i]? = some t) : ∃ o, offs[i]? = some o ∧ (pc : Int) + o = (t : Int) := by
  have h1 : (offs.map (fun (o : Int) => (pc : Int) + o))[i]? = some (t : Int) := by rw [h, List.getElem?_map, ht]; rfl
  rw [List.getElem?_map] at h1
  cases ho : offs[i]? with
  | none => rw [ho] at h1; cases h1
  | some o => rw [ho] at h1; exact ⟨o, rfl, Option.some.inj h1⟩
set_option maxHeartbeats 8000000 in
theorem rn_sound {l : Launch} {D : va_G} {A : Nat → Prop} : ∀ (y pc : Nat) (L st : List rn_V) (M : rn_M) (Q : rn_Q), rn_F (rn_Snd l D A) y pc L st M Q → rn_Snd l D A y pc L st M Q := by
  intro y pc L st M Q h mt hm p e R s m args below meth c H locs cells slots QQ ls stk ad tys ws C hml hl hs hz E
  unfold rn_F at h
  rw [rn_at_eq hm] at h
  cases he : rn_look (rn_tb mt) pc with
  | none => rw [he] at h; exact h.elim
  | some en =>
  rw [he] at h
  obtain ⟨hd, hc⟩ := rn_kat hm he
  obtain ⟨ins, nx, a, b, t, k, cc, ts⟩ := en
  cases ins
  case iconst n =>
    have hc : (decide (nx = pc + 1) && decide (-2147483648 ≤ n ∧ n ≤ 2147483647)) = true := hc
    simp only [Bool.and_eq_true, decide_eq_true_eq] at hc
    obtain ⟨rfl, h1, h2⟩ := hc
    have hd : decode mt.2.1 pc = .ok (.iconst n, pc + 1 - pc) := hd
    rw [Nat.add_sub_cancel_left] at hd
    refine lv_iconst (v := Int32.ofInt n) C.1 C.2.1 hd rfl ?_
    exact rn_go0 (st' := .inl n :: st) hm h C hml hl ⟨⟨_, rfl, rn_i32 h1 h2⟩, hs⟩ hz E
  case bipush n =>
    have hc : (decide (nx = pc + 2) && decide (((Int8.ofInt n).toInt32).toInt = n)) = true := hc
    simp only [Bool.and_eq_true, decide_eq_true_eq] at hc
    obtain ⟨rfl, h1⟩ := hc
    have hd : decode mt.2.1 pc = .ok (.bipush n, pc + 2 - pc) := hd
    rw [Nat.add_sub_cancel_left] at hd
    refine lv_bipush C.1 C.2.1 hd rfl ?_
    exact rn_go0 (st' := .inl n :: st) hm h C hml hl ⟨⟨_, rfl, h1⟩, hs⟩ hz E
  case sipush n =>
    have hc : (decide (nx = pc + 3) && decide (((Int16.ofInt n).toInt32).toInt = n)) = true := hc
    simp only [Bool.and_eq_true, decide_eq_true_eq] at hc
    obtain ⟨rfl, h1⟩ := hc
    have hd : decode mt.2.1 pc = .ok (.sipush n, pc + 3 - pc) := hd
    rw [Nat.add_sub_cancel_left] at hd
    refine lv_sipush C.1 C.2.1 hd rfl ?_
    exact rn_go0 (st' := .inl n :: st) hm h C hml hl ⟨⟨_, rfl, h1⟩, hs⟩ hz E
  case aconst_null =>
    obtain rfl : nx = pc + 1 := of_decide_eq_true hc
    have hd : decode mt.2.1 pc = .ok (.aconst_null, pc + 1 - pc) := hd
    rw [Nat.add_sub_cancel_left] at hd
    refine lv_null C.1 C.2.1 hd ?_
    exact rn_go0 (st' := rn_N :: st) hm h C hml hl ⟨rfl, hs⟩ hz E
  case iload i =>
    have hc : (decide (nx = pc + 2) && decide (i = a)) = true := hc
    simp only [Bool.and_eq_true, decide_eq_true_eq] at hc
    obtain ⟨rfl, rfl⟩ := hc
    have hd : decode mt.2.1 pc = .ok (.iload i, pc + 2 - pc) := hd
    rw [Nat.add_sub_cancel_left] at hd
    obtain ⟨x, hx, h⟩ := rn_ldI_out h
    obtain ⟨v, hv, kv, rfl, hk⟩ := rn_lr_get hl hx (fun q => by cases q)
    refine lv_iload C.1 C.2.1 hd hv ?_
    exact rn_go0 hm h C hml hl ⟨⟨_, rfl, hk⟩, hs⟩ hz E
  case iload_n i =>
    have hc : (decide (nx = pc + 1) && decide (i.val = a)) = true := hc
    simp only [Bool.and_eq_true, decide_eq_true_eq] at hc
    obtain ⟨rfl, rfl⟩ := hc
    have hd : decode mt.2.1 pc = .ok (.iload_n i, pc + 1 - pc) := hd
    rw [Nat.add_sub_cancel_left] at hd
    obtain ⟨x, hx, h⟩ := rn_ldI_out h
    obtain ⟨v, hv, kv, rfl, hk⟩ := rn_lr_get hl hx (fun q => by cases q)
    refine lv_iload_n C.1 C.2.1 hd rfl hv ?_
    exact rn_go0 hm h C hml hl ⟨⟨_, rfl, hk⟩, hs⟩ hz E
  case aload i =>
    have hc : (decide (nx = pc + 2) && decide (i = a)) = true := hc
    simp only [Bool.and_eq_true, decide_eq_true_eq] at hc
    obtain ⟨rfl, rfl⟩ := hc
    have hd : decode mt.2.1 pc = .ok (.aload i, pc + 2 - pc) := hd
    rw [Nat.add_sub_cancel_left] at hd
    obtain ⟨x, hx, h⟩ := rn_ldR_out h
    obtain ⟨v, hv, hk⟩ := rn_lr_get hl hx (fun q => by cases q)
    cases x with
    | none =>
      cases hk
      refine lv_aloadN C.1 C.2.1 hd hv ?_
      exact rn_go0 (st' := rn_N :: st) hm h C hml hl ⟨rfl, hs⟩ hz E
    | some q =>
      obtain ⟨hk1, rfl⟩ := hk
      refine lv_aload C.1 C.2.1 hd hv ?_
      exact rn_go0 (st' := rn_R q :: st) hm h C hml hl ⟨⟨hk1, rfl⟩, hs⟩ hz E
  case aload_n i =>
    have hc : (decide (nx = pc + 1) && decide (i.val = a)) = true := hc
    simp only [Bool.and_eq_true, decide_eq_true_eq] at hc
    obtain ⟨rfl, rfl⟩ := hc
    have hd : decode mt.2.1 pc = .ok (.aload_n i, pc + 1 - pc) := hd
    rw [Nat.add_sub_cancel_left] at hd
    obtain ⟨x, hx, h⟩ := rn_ldR_out h
    obtain ⟨v, hv, hk⟩ := rn_lr_get hl hx (fun q => by cases q)
    cases x with
    | none =>
      cases hk
      refine lv_aload_nN C.1 C.2.1 hd rfl hv ?_
      exact rn_go0 (st' := rn_N :: st) hm h C hml hl ⟨rfl, hs⟩ hz E
    | some q =>
      obtain ⟨hk1, rfl⟩ := hk
      refine lv_aload_n C.1 C.2.1 hd rfl hv ?_
      exact rn_go0 (st' := rn_R q :: st) hm h C hml hl ⟨⟨hk1, rfl⟩, hs⟩ hz E
  case istore i =>
    have hc : (decide (nx = pc + 2) && decide (i = a)) = true := hc
    simp only [Bool.and_eq_true, decide_eq_true_eq] at hc
    obtain ⟨rfl, rfl⟩ := hc
    have hd : decode mt.2.1 pc = .ok (.istore i, pc + 2 - pc) := hd
    rw [Nat.add_sub_cancel_left] at hd
    obtain ⟨x, t', rfl, h⟩ := rn_st1_out h
    obtain ⟨hlt, h⟩ := rn_g_out h
    obtain ⟨kx, stk1, rfl, hk, hs1⟩ := rn_vs_I hs
    obtain ⟨lv, hv1, hv2⟩ := hl
    refine lv_istore C.1 C.2.1 hd hv1 (Nat.le_of_ble_eq_true hlt) rfl (fun ls' h' => ?_)
    exact rn_go0 hm h C (by rw [List.length_set]; exact hml) (rn_lr_set (v := .inl x) hv2 rfl ⟨kx, rfl, hk⟩ h') hs1 hz E
  case istore_n i =>
    have hc : (decide (nx = pc + 1) && decide (i.val = a)) = true := hc
    simp only [Bool.and_eq_true, decide_eq_true_eq] at hc
    obtain ⟨rfl, rfl⟩ := hc
    have hd : decode mt.2.1 pc = .ok (.istore_n i, pc + 1 - pc) := hd
    rw [Nat.add_sub_cancel_left] at hd
    obtain ⟨x, t', rfl, h⟩ := rn_st1_out h
    obtain ⟨hlt, h⟩ := rn_g_out h
    obtain ⟨kx, stk1, rfl, hk, hs1⟩ := rn_vs_I hs
    obtain ⟨lv, hv1, hv2⟩ := hl
    refine lv_istore_n C.1 C.2.1 hd rfl hv1 (Nat.le_of_ble_eq_true hlt) rfl (fun ls' h' => ?_)
    exact rn_go0 hm h C (by rw [List.length_set]; exact hml) (rn_lr_set (v := .inl x) hv2 rfl ⟨kx, rfl, hk⟩ h') hs1 hz E
  case astore i =>
    have hc : (decide (nx = pc + 2) && decide (i = a)) = true := hc
    simp only [Bool.and_eq_true, decide_eq_true_eq] at hc
    obtain ⟨rfl, rfl⟩ := hc
    have hd : decode mt.2.1 pc = .ok (.astore i, pc + 2 - pc) := hd
    rw [Nat.add_sub_cancel_left] at hd
    obtain ⟨r, t', rfl, h⟩ : ∃ r t', st = .inr (some r) :: t' ∧ rn_g (Nat.blt i L.length) (rn_Snd l D A y (pc + 2) (L.set i (.inr (some r))) t' M Q) := by
      unfold rn_stp at h
      dsimp only at h
      split at h
      · exact ⟨_, _, rfl, h⟩
      · exact h.elim
    obtain ⟨hlt, h⟩ := rn_g_out h
    obtain ⟨lv, hv1, hv2⟩ := hl
    cases r with
    | none =>
      obtain ⟨stk1, rfl, hs1⟩ := rn_vs_N hs
      refine lv_astoreN C.1 C.2.1 hd hv1 (Nat.le_of_ble_eq_true hlt) rfl (fun ls' h' => ?_)
      exact rn_go0 hm h C (by rw [List.length_set]; exact hml) (rn_lr_set (v := rn_N) hv2 rfl rfl h') hs1 hz E
    | some r =>
      obtain ⟨stk1, rfl, hr, hs1⟩ := rn_vs_R hs
      refine lv_astore C.1 C.2.1 hd hv1 (Nat.le_of_ble_eq_true hlt) rfl (fun ls' h' => ?_)
      exact rn_go0 hm h C (by rw [List.length_set]; exact hml) (rn_lr_set (v := rn_R r) hv2 rfl ⟨hr, rfl⟩ h') hs1 hz E
  case astore_n i =>
    have hc : (decide (nx = pc + 1) && decide (i.val = a)) = true := hc
    simp only [Bool.and_eq_true, decide_eq_true_eq] at hc
    obtain ⟨rfl, rfl⟩ := hc
    have hd : decode mt.2.1 pc = .ok (.astore_n i, pc + 1 - pc) := hd
    rw [Nat.add_sub_cancel_left] at hd
    obtain ⟨r, t', rfl, h⟩ : ∃ r t', st = .inr (some r) :: t' ∧ rn_g (Nat.blt i.val L.length) (rn_Snd l D A y (pc + 1) (L.set i.val (.inr (some r))) t' M Q) := by
      unfold rn_stp at h
      dsimp only at h
      split at h
      · exact ⟨_, _, rfl, h⟩
      · exact h.elim
    obtain ⟨hlt, h⟩ := rn_g_out h
    obtain ⟨lv, hv1, hv2⟩ := hl
    cases r with
    | none =>
      obtain ⟨stk1, rfl, hs1⟩ := rn_vs_N hs
      refine lv_astore_nN C.1 C.2.1 hd rfl hv1 (Nat.le_of_ble_eq_true hlt) rfl (fun ls' h' => ?_)
      exact rn_go0 hm h C (by rw [List.length_set]; exact hml) (rn_lr_set (v := rn_N) hv2 rfl rfl h') hs1 hz E
    | some r =>
      obtain ⟨stk1, rfl, hr, hs1⟩ := rn_vs_R hs
      refine lv_astore_n C.1 C.2.1 hd rfl hv1 (Nat.le_of_ble_eq_true hlt) rfl (fun ls' h' => ?_)
      exact rn_go0 hm h C (by rw [List.length_set]; exact hml) (rn_lr_set (v := rn_R r) hv2 rfl ⟨hr, rfl⟩ h') hs1 hz E
  case iinc i n =>
    have hc : (decide (nx = pc + 3) && decide (i = a)) = true := hc
    simp only [Bool.and_eq_true, decide_eq_true_eq] at hc
    obtain ⟨rfl, rfl⟩ := hc
    have hd : decode mt.2.1 pc = .ok (.iinc i n, pc + 3 - pc) := hd
    rw [Nat.add_sub_cancel_left] at hd
    obtain ⟨x, hx, h⟩ := rn_ldI_out h
    obtain ⟨lv, hv1, hv2⟩ := hl
    obtain ⟨z, hz1, kz, rfl, hk⟩ := hv2 i _ hx (fun q => by cases q)
    obtain ⟨j, hj⟩ := List.getElem?_of_mem hz1
    refine lv_iinc C.1 C.2.1 hd hv1 hj rfl (List.getElem?_eq_some_iff.mp hx).1 rfl (fun ls' h' => ?_)
    refine rn_go0 hm h C (by rw [List.length_set]; exact hml) (rn_lr_set (v := .inl (rn_wr (x + n))) hv2 rfl ⟨_, rfl, ?_⟩ h') hs hz E
    rw [rn_add, rn_ofInt, hk, rn_wr_wr]
  case iadd =>
    obtain rfl : nx = pc + 1 := of_decide_eq_true hc
    have hd : decode mt.2.1 pc = .ok (.iadd, pc + 1 - pc) := hd
    rw [Nat.add_sub_cancel_left] at hd
    exact rn_i_bin (ins := .iadd) (fun x y => x + y) rn_add (fun x y rest q => lv_iadd C.1 C.2.1 hd q) hm h C hml hl hs hz E
  case isub =>
    obtain rfl : nx = pc + 1 := of_decide_eq_true hc
    have hd : decode mt.2.1 pc = .ok (.isub, pc + 1 - pc) := hd
    rw [Nat.add_sub_cancel_left] at hd
    exact rn_i_bin (ins := .isub) (fun x y => x - y) rn_sub (fun x y rest q => lv_isub C.1 C.2.1 hd q) hm h C hml hl hs hz E
  case imul =>
    obtain rfl : nx = pc + 1 := of_decide_eq_true hc
    have hd : decode mt.2.1 pc = .ok (.imul, pc + 1 - pc) := hd
    rw [Nat.add_sub_cancel_left] at hd
    exact rn_i_bin (ins := .imul) (fun x y => x * y) rn_mul (fun x y rest q => lv_imul C.1 C.2.1 hd q) hm h C hml hl hs hz E
  case iand =>
    obtain rfl : nx = pc + 1 := of_decide_eq_true hc
    have hd : decode mt.2.1 pc = .ok (.iand, pc + 1 - pc) := hd
    rw [Nat.add_sub_cancel_left] at hd
    exact rn_i_bin (ins := .iand) (f := rn_and) (fun x y => x &&& y) (fun x y => by unfold rn_and; rw [rn_back, rn_back]) (fun x y rest q => lv_iand C.1 C.2.1 hd q) hm h C hml hl hs hz E
  case ior =>
    obtain rfl : nx = pc + 1 := of_decide_eq_true hc
    have hd : decode mt.2.1 pc = .ok (.ior, pc + 1 - pc) := hd
    rw [Nat.add_sub_cancel_left] at hd
    exact rn_i_bin (ins := .ior) (f := rn_or) (fun x y => x ||| y) (fun x y => by unfold rn_or; rw [rn_back, rn_back]) (fun x y rest q => lv_ior C.1 C.2.1 hd q) hm h C hml hl hs hz E
  case ishl =>
    obtain rfl : nx = pc + 1 := of_decide_eq_true hc
    have hd : decode mt.2.1 pc = .ok (.ishl, pc + 1 - pc) := hd
    rw [Nat.add_sub_cancel_left] at hd
    exact rn_i_bin (ins := .ishl) (f := rn_shl) (fun x y => x <<< (y &&& 31)) (fun x y => by unfold rn_shl; rw [rn_back, rn_back]) (fun x y rest q => lv_ishl C.1 C.2.1 hd q) hm h C hml hl hs hz E
  case ishr =>
    obtain rfl : nx = pc + 1 := of_decide_eq_true hc
    have hd : decode mt.2.1 pc = .ok (.ishr, pc + 1 - pc) := hd
    rw [Nat.add_sub_cancel_left] at hd
    exact rn_i_bin (ins := .ishr) (f := rn_shr) (fun x y => x >>> (y &&& 31)) (fun x y => by unfold rn_shr; rw [rn_back, rn_back]) (fun x y rest q => lv_ishr C.1 C.2.1 hd q) hm h C hml hl hs hz E
  case ineg =>
    obtain rfl : nx = pc + 1 := of_decide_eq_true hc
    have hd : decode mt.2.1 pc = .ok (.ineg, pc + 1 - pc) := hd
    rw [Nat.add_sub_cancel_left] at hd
    obtain ⟨x, t', rfl, h⟩ := rn_st1_out h
    obtain ⟨kx, stk1, rfl, rfl, hs1⟩ := rn_vs_I hs
    refine lv_ineg C.1 C.2.1 hd ?_
    exact rn_go0 hm h C hml hl ⟨⟨_, rfl, by rw [← rn_neg, Int32.zero_sub]⟩, hs1⟩ hz E
  case i2c =>
    obtain rfl : nx = pc + 1 := of_decide_eq_true hc
    have hd : decode mt.2.1 pc = .ok (.i2c, pc + 1 - pc) := hd
    rw [Nat.add_sub_cancel_left] at hd
    obtain ⟨x, t', rfl, h0, h1, h⟩ := rn_st1_out h
    obtain ⟨kx, stk1, rfl, rfl, hs1⟩ := rn_vs_I hs
    obtain ⟨j, hj, rfl⟩ := nI_of (rn_tnn h0)
    have hj2 : (nI j).toInt = (j : Int) := nI_toInt hj
    rw [hj2] at h1
    refine lv_i2c (v := nI j) C.1 C.2.1 hd (by rw [pk_char, pk_tn (by omega), Nat.mod_eq_of_lt (by omega)]) ?_
    exact rn_go0 hm h C hml hl ⟨⟨_, rfl, rfl⟩, hs1⟩ hz E
  case dup =>
    obtain rfl : nx = pc + 1 := of_decide_eq_true hc
    have hd : decode mt.2.1 pc = .ok (.dup, pc + 1 - pc) := hd
    rw [Nat.add_sub_cancel_left] at hd
    obtain ⟨v, t', rfl, h⟩ : ∃ v t', st = v :: t' ∧ rn_Snd l D A y (pc + 1) L (v :: v :: t') M Q := by
      unfold rn_stp at h
      dsimp only at h
      split at h
      · exact ⟨_, _, rfl, h⟩
      · exact h.elim
    obtain ⟨x, r, rfl, hv, hs1⟩ := rn_vs_c hs
    refine lv_dup C.1 C.2.1 hd (rn_vr_cat hv) ?_
    exact rn_go0 hm h C hml hl ⟨hv, hv, hs1⟩ hz E
  case dup2 =>
    obtain rfl : nx = pc + 1 := of_decide_eq_true hc
    have hd : decode mt.2.1 pc = .ok (.dup2, pc + 1 - pc) := hd
    rw [Nat.add_sub_cancel_left] at hd
    obtain ⟨v, w, t', rfl, h⟩ : ∃ v w t', st = v :: w :: t' ∧ rn_Snd l D A y (pc + 1) L (v :: w :: v :: w :: t') M Q := by
      unfold rn_stp at h
      dsimp only at h
      split at h
      · exact ⟨_, _, _, rfl, h⟩
      · exact h.elim
    obtain ⟨x, r, rfl, hv, hs1⟩ := rn_vs_c hs
    obtain ⟨x2, r2, rfl, hv2, hs2⟩ := rn_vs_c hs1
    refine lv_dup2_11 C.1 C.2.1 hd (rn_vr_cat hv) (rn_vr_cat hv2) ?_
    exact rn_go0 hm h C hml hl ⟨hv, hv2, hv, hv2, hs2⟩ hz E
  case pop =>
    obtain rfl : nx = pc + 1 := of_decide_eq_true hc
    have hd : decode mt.2.1 pc = .ok (.pop, pc + 1 - pc) := hd
    rw [Nat.add_sub_cancel_left] at hd
    obtain ⟨v, t', rfl, h⟩ : ∃ v t', st = v :: t' ∧ rn_Snd l D A y (pc + 1) L t' M Q := by
      unfold rn_stp at h
      dsimp only at h
      split at h
      · exact ⟨_, _, rfl, h⟩
      · exact h.elim
    obtain ⟨x, r, rfl, hv, hs1⟩ := rn_vs_c hs
    refine lv_pop C.1 C.2.1 hd (rn_vr_cat hv) ?_
    exact rn_go0 hm h C hml hl hs1 hz E
  case goto o =>
    have hc : (decide (nx = pc + 3) && decide ((pc : Int) + o = (a : Int))) = true := hc
    simp only [Bool.and_eq_true, decide_eq_true_eq] at hc
    obtain ⟨rfl, ha⟩ := hc
    have hd : decode mt.2.1 pc = .ok (.goto o, pc + 3 - pc) := hd
    rw [Nat.add_sub_cancel_left] at hd
    exact lv_goto C.1 C.2.1 hd ha (rn_go0 hm h C hml hl hs hz E)
  case ifCond cnd o =>
    have hc : (decide (nx = pc + 3) && decide ((pc : Int) + o = (a : Int))) = true := by cases cnd <;> exact hc
    simp only [Bool.and_eq_true, decide_eq_true_eq] at hc
    obtain ⟨rfl, ha⟩ := hc
    have hd : decode mt.2.1 pc = .ok (.ifCond cnd o, pc + 3 - pc) := hd
    rw [Nat.add_sub_cancel_left] at hd
    have z0 : (0 : Int32).toInt = 0 := rfl
    cases cnd
    case eq => exact rn_i_if (nx := 0) (a := 0) (fun x rest q1 q2 => lv_if_eq C.1 C.2.1 hd ha (by rw [rn_i0]; exact q1) (by rw [rn_i0]; exact q2)) hm h C hml hl hs hz E
    case ne => exact rn_i_if (nx := 0) (a := 0) (fun x rest q1 q2 => lv_if_ne C.1 C.2.1 hd ha (by rw [rn_i0]; exact q2) (by rw [rn_i0]; exact q1)) hm h C hml hl hs hz E
    case lt => exact rn_i_if (nx := 0) (a := 0) (fun x rest q1 q2 => lv_if_lt C.1 C.2.1 hd ha (by rw [rn_il, z0]; exact q1) (by rw [rn_il, z0]; exact q2)) hm h C hml hl hs hz E
    case ge => exact rn_i_if (nx := 0) (a := 0) (fun x rest q1 q2 => lv_if_ge C.1 C.2.1 hd ha (by rw [rn_ile, z0]; exact q1) (by rw [rn_ile, z0]; exact q2)) hm h C hml hl hs hz E
    case gt => exact rn_i_if (nx := 0) (a := 0) (fun x rest q1 q2 => lv_if_gt C.1 C.2.1 hd ha (by rw [rn_il, z0]; exact q1) (by rw [rn_il, z0]; exact q2)) hm h C hml hl hs hz E
    case le => exact rn_i_if (nx := 0) (a := 0) (fun x rest q1 q2 => lv_if_le C.1 C.2.1 hd ha (by rw [rn_ile, z0]; exact q1) (by rw [rn_ile, z0]; exact q2)) hm h C hml hl hs hz E
  case if_icmp cnd o =>
    have hc : (decide (nx = pc + 3) && decide ((pc : Int) + o = (a : Int))) = true := by cases cnd <;> exact hc
    simp only [Bool.and_eq_true, decide_eq_true_eq] at hc
    obtain ⟨rfl, ha⟩ := hc
    have hd : decode mt.2.1 pc = .ok (.if_icmp cnd o, pc + 3 - pc) := hd
    rw [Nat.add_sub_cancel_left] at hd
    cases cnd
    case eq => exact rn_i_icmp (P := fun x y => x = y) (fun x y' rest q1 q2 => lv_icmp_eq C.1 C.2.1 hd ha (by rw [rn_ie]; exact q1) (by rw [rn_ie]; exact q2)) hm h C hml hl hs hz E
    case ne => exact rn_i_icmp (P := fun x y => x = y) (fun x y' rest q1 q2 => lv_icmp_ne C.1 C.2.1 hd ha (by rw [rn_ie]; exact q2) (by rw [rn_ie]; exact q1)) hm h C hml hl hs hz E
    case lt => exact rn_i_icmp (P := fun x y => x < y) (fun x y' rest q1 q2 => lv_icmp_lt C.1 C.2.1 hd ha (by rw [rn_il]; exact q1) (by rw [rn_il]; exact q2)) hm h C hml hl hs hz E
    case ge => exact rn_i_icmp (P := fun x y => x < y) (fun x y' rest q1 q2 => lv_icmp_ge C.1 C.2.1 hd ha (fun q => q2 (by rw [rn_ile] at q; omega)) (fun q => q1 (by rw [rn_ile] at q; omega))) hm h C hml hl hs hz E
    case gt => exact rn_i_icmp (P := fun x y => y < x) (fun x y' rest q1 q2 => lv_icmp_gt C.1 C.2.1 hd ha (by rw [rn_il]; exact q1) (by rw [rn_il]; exact q2)) hm h C hml hl hs hz E
    case le => exact rn_i_icmp (P := fun x y => x ≤ y) (fun x y' rest q1 q2 => lv_icmp_le C.1 C.2.1 hd ha (by rw [rn_ile]; exact q1) (by rw [rn_ile]; exact q2)) hm h C hml hl hs hz E
  case ifnull o =>
    have hc : (decide (nx = pc + 3) && decide ((pc : Int) + o = (a : Int))) = true := hc
    simp only [Bool.and_eq_true, decide_eq_true_eq] at hc
    obtain ⟨rfl, ha⟩ := hc
    have hd : decode mt.2.1 pc = .ok (.ifnull o, pc + 3 - pc) := hd
    rw [Nat.add_sub_cancel_left] at hd
    unfold rn_stp at h
    dsimp only at h
    split at h
    · obtain ⟨stk1, rfl, hs1⟩ := rn_vs_N hs
      exact lv_ifnullN C.1 C.2.1 hd ha (rn_go0 hm h C hml hl hs1 hz E)
    · obtain ⟨stk1, rfl, hr, hs1⟩ := rn_vs_R hs
      exact lv_ifnull C.1 C.2.1 hd (rn_go0 hm h C hml hl hs1 hz E)
    · exact h.elim
  case ifnonnull o =>
    have hc : (decide (nx = pc + 3) && decide ((pc : Int) + o = (a : Int))) = true := hc
    simp only [Bool.and_eq_true, decide_eq_true_eq] at hc
    obtain ⟨rfl, ha⟩ := hc
    have hd : decode mt.2.1 pc = .ok (.ifnonnull o, pc + 3 - pc) := hd
    rw [Nat.add_sub_cancel_left] at hd
    unfold rn_stp at h
    dsimp only at h
    split at h
    · obtain ⟨stk1, rfl, hs1⟩ := rn_vs_N hs
      exact lv_ifnonnullN C.1 C.2.1 hd (rn_go0 hm h C hml hl hs1 hz E)
    · obtain ⟨stk1, rfl, hr, hs1⟩ := rn_vs_R hs
      exact lv_ifnonnull C.1 C.2.1 hd ha (rn_go0 hm h C hml hl hs1 hz E)
    · exact h.elim
  case tableswitch d lo hi offs =>
    have hc : (decide ((pc : Int) + d = (a : Int)) && decide (offs.toList.map (fun (o : Int) => (pc : Int) + o) = ts.map (fun (n : Nat) => (n : Int))) && decide (-2147483648 ≤ lo)) = true := hc
    simp only [Bool.and_eq_true, decide_eq_true_eq] at hc
    obtain ⟨⟨ha, ho⟩, -⟩ := hc
    obtain ⟨x, t', rfl, h⟩ := rn_st1_out h
    obtain ⟨kx, stk1, rfl, rfl, hs1⟩ := rn_vs_I hs
    by_cases q : kx.toInt < lo ∨ hi < kx.toInt
    · exact lv_tableOut C.1 C.2.1 hd q ha (rn_go0 hm (h.1 q) C hml hl hs1 hz E)
    · have h2 := h.2 q
      unfold rn_sw at h2
      split at h2
      · rename_i tg htg
        obtain ⟨o, ho1, ho2⟩ := rn_offs ho htg
        exact lv_tableIn C.1 C.2.1 hd (fun z => q (Or.inl z)) (fun z => q (Or.inr z)) (by rw [← Array.getElem?_toList]; exact ho1) ho2 (rn_go0 hm h2 C hml hl hs1 hz E)
      · exact h2.elim
  case getfield idx =>
    have hx : nx = pc + 3 := by
      have hc : (decide (nx = pc + 3) && _) = true := hc
      rw [Bool.and_eq_true, decide_eq_true_eq] at hc
      exact hc.1
    subst hx
    have hd : decode mt.2.1 pc = .ok (.getfield idx, pc + 3 - pc) := hd
    rw [Nat.add_sub_cancel_left] at hd
    exact rn_i_get (a := a) (t := t) hm hd hc h C hml hl hs hz E
  case putfield idx =>
    have hx : nx = pc + 3 := by
      have h2 := hc
      unfold rn_chi at h2
      simp only [Bool.and_eq_true, decide_eq_true_eq] at h2
      exact h2.1.1.1.1.1.1.1
    subst hx
    have hd : decode mt.2.1 pc = .ok (.putfield idx, pc + 3 - pc) := hd
    rw [Nat.add_sub_cancel_left] at hd
    exact rn_i_put (a := a) (t := t) hm hd hc h C hml hl hs hz E
  case getstatic idx =>
    obtain ⟨z1, z2, z3, z4, z5, z6, z7⟩ := id hz
    have h8 : 8 ≤ M.1.length := by have := z1.2.2.2.1; omega
    unfold rn_chi at hc
    simp only [Bool.and_eq_true, decide_eq_true_eq] at hc
    obtain ⟨rfl, hc⟩ := hc
    have hd2 : decode mt.2.1 pc = .ok (.getstatic idx, pc + 3 - pc) := hd
    rw [Nat.add_sub_cancel_left] at hd2
    match b, hc, h with
    | 0, hc, h => cases hc
    | 1, hc, h =>
      match a, hc, h with
      | 0, hc, h => cases hc
      | 1, hc, h =>
        refine va_getsN C.1 C.2.1 z3.1 z4 C.2.2.1 (va_Nw.use rfl (z3.2.2.2.2.2.2.1 _ (rn_hn_mem hc))) (fun _ h9 => h9) hd2 ?_
        exact rn_go0 (st' := rn_R 1 :: st) hm h C hml hl ⟨⟨by omega, rfl⟩, hs⟩ hz E
      | 2, hc, h =>
        refine va_getsN C.1 C.2.1 z3.2.1 z4 C.2.2.1 (va_Nw.use rfl (z3.2.2.2.2.2.2.1 _ (rn_hn_mem hc))) (fun _ h9 => h9) hd2 ?_
        exact rn_go0 (st' := rn_R 2 :: st) hm h C hml hl ⟨⟨by omega, rfl⟩, hs⟩ hz E
      | n + 3, hc, h => cases hc
    | 2, hc, h =>
      refine va_gets C.1 C.2.1 z3.2.2.1 z4 C.2.2.1 (C.2.2.2.1 _ (rn_hw_mem hc)) (fun _ h9 => h9) hd2 ?_
      exact rn_go0 (st' := rn_I 1 :: st) hm h C hml hl ⟨⟨_, rfl, rfl⟩, hs⟩ hz E
    | 3, hc, h =>
      rcases z3.2.2.2.1 with g | ⟨tt, g⟩
      · refine va_gets C.1 C.2.1 g z4 C.2.2.1 (C.2.2.2.1 _ (rn_hw_mem hc)) (fun _ h9 => h9) hd2 ?_
        exact rn_go0 (st' := rn_J :: st) hm h C hml hl ⟨rfl, hs⟩ hz E
      · refine va_gets C.1 C.2.1 g z4 C.2.2.1 (C.2.2.2.1 _ (rn_hw_mem hc)) (fun _ h9 => h9) hd2 ?_
        exact rn_go0 (st' := rn_J :: st) hm h C hml hl ⟨rfl, hs⟩ hz E
    | n + 4, hc, h => cases hc
  case ldc idx =>
    obtain ⟨z1, z2, z3, z4, z5, z6, z7⟩ := id hz
    have h8 : 8 ≤ M.1.length := by have := z1.2.2.2.1; omega
    unfold rn_chi at hc
    simp only [Bool.and_eq_true, decide_eq_true_eq] at hc
    obtain ⟨⟨rfl, hcl⟩, hc⟩ := hc
    have hd2 : decode mt.2.1 pc = .ok (.ldc idx, pc + 2 - pc) := hd
    rw [Nat.add_sub_cancel_left] at hd2
    have hown : s.vm.findClass "RiverNames$Reader" = some m.cls := by rw [← hcl]; exact C.2.2.1
    match a, hc, h with
    | 0, hc, h => cases hc
    | 1, hc, h => cases hc
    | 2, hc, h => cases hc
    | 3, hc, h =>
      obtain rfl : idx = 35 := of_decide_eq_true hc
      refine va_ldcS C.1 C.2.1 hown z3.2.2.2.2.1 hd2 ?_
      exact rn_go0 (st' := rn_R 3 :: st) hm h C hml hl ⟨⟨by omega, rfl⟩, hs⟩ hz E
    | 4, hc, h =>
      obtain rfl : idx = 51 := of_decide_eq_true hc
      refine va_ldcS C.1 C.2.1 hown z3.2.2.2.2.2.1 hd2 ?_
      exact rn_go0 (st' := rn_R 4 :: st) hm h C hml hl ⟨⟨by omega, rfl⟩, hs⟩ hz E
    | n + 5, hc, h => cases hc
  case iaload =>
    obtain rfl : nx = pc + 1 := of_decide_eq_true hc
    have hd : decode mt.2.1 pc = .ok (.iaload, pc + 1 - pc) := hd
    rw [Nat.add_sub_cancel_left] at hd
    exact rn_i_iald hm hd h C hml hl hs hz E
  case baload =>
    obtain rfl : nx = pc + 1 := of_decide_eq_true hc
    have hd : decode mt.2.1 pc = .ok (.baload, pc + 1 - pc) := hd
    rw [Nat.add_sub_cancel_left] at hd
    exact rn_i_bald hm hd h C hml hl hs hz E
  case aaload =>
    obtain rfl : nx = pc + 1 := of_decide_eq_true hc
    have hd : decode mt.2.1 pc = .ok (.aaload, pc + 1 - pc) := hd
    rw [Nat.add_sub_cancel_left] at hd
    exact rn_i_aald hm hd h C hml hl hs hz E
  case arraylength =>
    obtain rfl : nx = pc + 1 := of_decide_eq_true hc
    have hd : decode mt.2.1 pc = .ok (.arraylength, pc + 1 - pc) := hd
    rw [Nat.add_sub_cancel_left] at hd
    exact rn_i_alen hm hd h C hml hl hs hz E
  case iastore =>
    obtain rfl : nx = pc + 1 := of_decide_eq_true hc
    have hd : decode mt.2.1 pc = .ok (.iastore, pc + 1 - pc) := hd
    rw [Nat.add_sub_cancel_left] at hd
    unfold rn_stp at h
    dsimp only at h
    split at h
    · exact rn_i_iast hm hd h.1 h.2.1 h.2.2 C hml hl hs hz E
    · exact h.elim
  case aastore =>
    obtain rfl : nx = pc + 1 := of_decide_eq_true hc
    have hd : decode mt.2.1 pc = .ok (.aastore, pc + 1 - pc) := hd
    rw [Nat.add_sub_cancel_left] at hd
    unfold rn_stp at h
    dsimp only at h
    split at h
    · exact rn_i_aast hm hd h.1 h.2.1 h.2.2.1 h.2.2.2 C hml hl hs hz E
    · exact h.elim
  case new idx =>
    have hc : (decide (nx = pc + 3) && decide (a < 11) && rn_al mt && rn_hw t (.classLink mt.1.cls idx (rn_cn a)) && (match rn_cpl[a]? with | some (pa, pb) => rn_hw pa (.instantiable (rn_cn a) (rn_nf a)) && rn_hw pb (.initialized (rn_cn a)) | none => false)) = true := hc
    rw [Bool.and_eq_true, Bool.and_eq_true, Bool.and_eq_true, Bool.and_eq_true, decide_eq_true_eq, decide_eq_true_eq] at hc
    obtain ⟨⟨⟨⟨rfl, h1⟩, h2⟩, h3⟩, h4⟩ := hc
    have hd : decode mt.2.1 pc = .ok (.new idx, pc + 3 - pc) := hd
    rw [Nat.add_sub_cancel_left] at hd
    obtain ⟨g1, g2, g3⟩ := h
    exact rn_i_new hm hd h1 h2 h3 h4 g1 g2 g3 C hml hl hs hz E
  case newarray ty =>
    have hc : (decide (nx = pc + 2) && rn_al mt && decide (ty = .int)) = true := hc
    rw [Bool.and_eq_true, Bool.and_eq_true, decide_eq_true_eq, decide_eq_true_eq] at hc
    obtain ⟨⟨rfl, h2⟩, rfl⟩ := hc
    have hd : decode mt.2.1 pc = .ok (.newarray .int, pc + 2 - pc) := hd
    rw [Nat.add_sub_cancel_left] at hd
    obtain ⟨n, t', rfl, g1, g2, g3, g4, g5⟩ := rn_st1_out h
    exact rn_i_newa hm hd h2 g1 g2 g3 g4 g5 C hml hl hs hz E
  case anewarray idx =>
    have hc : (decide (nx = pc + 3) && rn_al mt && decide (a = 0 ∨ a = 3 ∨ a = 5 ∨ a = 8) && rn_hw t (.classLink mt.1.cls idx (rn_cn a))) = true := hc
    rw [Bool.and_eq_true, Bool.and_eq_true, Bool.and_eq_true, decide_eq_true_eq, decide_eq_true_eq] at hc
    obtain ⟨⟨⟨rfl, h2⟩, h3⟩, h4⟩ := hc
    have hd : decode mt.2.1 pc = .ok (.anewarray idx, pc + 3 - pc) := hd
    rw [Nat.add_sub_cancel_left] at hd
    obtain ⟨n, t', rfl, g1, g2, g3, g4, g5⟩ := rn_st1_out h
    exact rn_i_newq hm hd h2 h3 h4 g1 g2 g3 g4 g5 C hml hl hs hz E
  case invokevirtual idx =>
    unfold rn_chi at hc
    rw [Bool.and_eq_true, Bool.and_eq_true, Bool.and_eq_true, decide_eq_true_eq, decide_eq_true_eq] at hc
    obtain ⟨⟨⟨rfl, h2⟩, h3⟩, h4⟩ := hc
    have hd : decode mt.2.1 pc = .ok (.invokevirtual idx, pc + 3 - pc) := hd
    rw [Nat.add_sub_cancel_left] at hd
    exact rn_i_virt hm hd h3 h4 h C hml hl hs hz E
  case invokestatic idx =>
    have hx : nx = pc + 3 := by
      have h2 := hc
      unfold rn_chi at h2
      rw [Bool.and_eq_true, decide_eq_true_eq] at h2
      exact h2.1
    subst hx
    have hd2 : decode mt.2.1 pc = .ok (.invokestatic idx, pc + 3 - pc) := hd
    rw [Nat.add_sub_cancel_left] at hd2
    have hls : ls.size = L.length := by obtain ⟨lv, hv, -⟩ := hl; exact hv.1
    by_cases k3 : k = 3
    · subst k3
      have hc : (decide (pc + 3 = pc + 3) && (rn_hw t (.methodLink mt.1.cls idx arraycopyName) && decide (1 ≤ rn_fr mt) && decide (38 ≤ rn_lw mt))) = true := hc
      rw [Bool.and_eq_true, Bool.and_eq_true, Bool.and_eq_true, decide_eq_true_eq, decide_eq_true_eq, decide_eq_true_eq] at hc
      obtain ⟨-, ⟨h1, h2⟩, h3⟩ := hc
      obtain ⟨n, dp, d, sp, r, t', rfl, h⟩ := rn_acp_out h
      obtain ⟨hg, g1, g2, g3, g4, g5, g6, g7, g8⟩ := rn_g_out h
      exact rn_i_copy hm hd2 h1 h2 h3 (Nat.le_of_ble_eq_true hg) g1 g2 g3 g4 g5 g6 g7 g8 C hml hl hs hz E
    by_cases k5 : k = 5
    · subst k5
      have hc : (decide (pc + 3 = pc + 3) && (rn_hw t (.methodLink mt.1.cls idx Lib.Math.max.name) && decide (1 ≤ rn_fr mt) && decide (21 ≤ rn_lw mt))) = true := hc
      rw [Bool.and_eq_true, Bool.and_eq_true, Bool.and_eq_true, decide_eq_true_eq, decide_eq_true_eq, decide_eq_true_eq] at hc
      obtain ⟨-, ⟨h1, h2⟩, h3⟩ := hc
      exact rn_i_math (idx := idx) (t := t) (f := fun x y => max x y) (fun x y => if x < y then y else x) rn_max32 (fun x y' rest hr q => va_mmax C.1 C.2.1 (hml.trans hls.symm) C.2.2.1 (C.2.2.2.1 _ (rn_hw_mem h1)) (C.2.2.2.1 _ rn_p_maxs) (C.2.2.2.1 _ rn_p_mini) (C.2.2.2.1 _ rn_p_maxc) (Nat.le_trans h2 C.2.2.2.2.2.1) hr hz.2.2.2.2.1 hz.2.2.2.2.2.1 hd2 q) hm h3 h C hml hl hs hz E
    by_cases k6 : k = 6
    · subst k6
      have hc : (decide (pc + 3 = pc + 3) && (rn_hw t (.methodLink mt.1.cls idx Lib.Math.min.name) && decide (1 ≤ rn_fr mt) && decide (21 ≤ rn_lw mt))) = true := hc
      rw [Bool.and_eq_true, Bool.and_eq_true, Bool.and_eq_true, decide_eq_true_eq, decide_eq_true_eq, decide_eq_true_eq] at hc
      obtain ⟨-, ⟨h1, h2⟩, h3⟩ := hc
      exact rn_i_math (idx := idx) (t := t) (f := fun x y => min x y) (fun x y => if y < x then y else x) rn_min32 (fun x y' rest hr q => va_mmin C.1 C.2.1 (hml.trans hls.symm) C.2.2.1 (C.2.2.2.1 _ (rn_hw_mem h1)) (C.2.2.2.1 _ rn_p_mins) (C.2.2.2.1 _ rn_p_mini) (C.2.2.2.1 _ rn_p_minc) (Nat.le_trans h2 C.2.2.2.2.2.1) hr hz.2.2.2.2.1 hz.2.2.2.2.2.1 hd2 q) hm h3 h C hml hl hs hz E
    by_cases k7 : k = 7
    · subst k7
      have hc : (decide (pc + 3 = pc + 3) && (rn_hw t (.methodLink mt.1.cls idx Lib.Math.abs.name) && decide (1 ≤ rn_fr mt) && decide (21 ≤ rn_lw mt))) = true := hc
      rw [Bool.and_eq_true, Bool.and_eq_true, Bool.and_eq_true, decide_eq_true_eq, decide_eq_true_eq, decide_eq_true_eq] at hc
      obtain ⟨-, ⟨h1, h2⟩, h3⟩ := hc
      obtain ⟨x, t', rfl, h⟩ := rn_st1_out h
      obtain ⟨hg, h⟩ := rn_g_out h
      obtain ⟨kx, stk1, rfl, rfl, hs1⟩ := rn_vs_I hs
      have h8 := Nat.le_of_ble_eq_true hg
      refine va_mabs C.1 C.2.1 (hml.trans hls.symm) C.2.2.1 (C.2.2.2.1 _ (rn_hw_mem h1)) (C.2.2.2.1 _ rn_p_abss) (C.2.2.2.1 _ rn_p_mini) (C.2.2.2.1 _ rn_p_absc) (Nat.le_trans h2 C.2.2.2.2.2.1) (by rw [rn_vs_sum hs1]; have := C.2.2.2.2.2.2.1; omega) hz.2.2.2.2.1 hz.2.2.2.2.2.1 hd2 ?_
      exact rn_go0 hm h C hml hl ⟨⟨_, rfl, rn_abs32 kx⟩, hs1⟩ hz E
    have hc2 : (match (generalizing := false) ts with | [0] => rn_chc mt 1 a b k false t idx | [1] => rn_chc mt 1 a b k true t idx | _ => false) = true := by
      unfold rn_chi at hc
      rw [Bool.and_eq_true] at hc
      have hc := hc.2
      split at hc
      · exact absurd rfl k3
      · exact absurd rfl k5
      · exact absurd rfl k6
      · exact absurd rfl k7
      · exact hc
    have h2 : rn_g (Nat.ble b st.length && Nat.ble (st.drop b).length 8) (rn_cal k a (rn_mcs a).1 (rn_mcs a).2 (st.take b).reverse M (fun z as M' Q' => rn_Snd l D A z 0 (rn_pad (rn_ml z) as) [] M' Q') fun v M' => rn_Snd l D A y (pc + 3) L (v.toList ++ st.drop b) M' Q) := by
      unfold rn_stp at h
      dsimp only at h
      split at h
      · exact absurd rfl k3
      · exact absurd rfl k5
      · exact absurd rfl k6
      · exact absurd rfl k7
      · exact h
    split at hc2
    · exact rn_i_stat hm hd2 hc2 h2 C hml hl hs hz E
    · exact rn_i_stat hm hd2 hc2 h2 C hml hl hs hz E
    · cases hc2
  case invokespecial idx =>
    have hx : nx = pc + 3 := by
      have h2 := hc
      unfold rn_chi at h2
      rw [Bool.and_eq_true, decide_eq_true_eq] at h2
      exact h2.1
    subst hx
    have hd2 : decode mt.2.1 pc = .ok (.invokespecial idx, pc + 3 - pc) := hd
    rw [Nat.add_sub_cancel_left] at hd2
    have hls : ls.size = L.length := by obtain ⟨lv, hv, -⟩ := hl; exact hv.1
    by_cases k2 : k = 2
    · subst k2
      have hc : (decide (pc + 3 = pc + 3) && (rn_hw t (.methodLink mt.1.cls idx Lib.objectInit) && decide (1 ≤ rn_fr mt) && decide (20 ≤ rn_lw mt))) = true := hc
      rw [Bool.and_eq_true, Bool.and_eq_true, Bool.and_eq_true, decide_eq_true_eq, decide_eq_true_eq, decide_eq_true_eq] at hc
      obtain ⟨-, ⟨h1, h2⟩, h3⟩ := hc
      obtain ⟨r, t', rfl, h⟩ := rn_stR_out h
      obtain ⟨hg, h⟩ := rn_g_out h
      obtain ⟨stk1, rfl, hr, hs1⟩ := rn_vs_R hs
      have h8 := Nat.le_of_ble_eq_true hg
      have hsum := rn_vs_sum hs1
      refine W.objInit C.1 C.2.1 C.2.2.1 (C.2.2.2.1 _ (rn_hw_mem h1)) (C.2.2.2.1 _ rn_p_obi) (C.2.2.2.1 _ rn_p_obc) rfl (hls.trans hml.symm) rfl hd2 (Nat.le_trans h2 C.2.2.2.2.2.1) ?_ ?_
      · have e0 : (F0 m pc ls (Value.ref (ad r) :: stk1)).monitorRoom = 0 := rfl
        rw [e0, hsum]
        have := C.2.2.2.2.2.2.1
        omega
      · exact rn_go0 hm h C hml hl hs1 hz E
    have hc2 : (match (generalizing := false) ts with | [0] => rn_chc mt 2 a b k false t idx | [1] => rn_chc mt 2 a b k true t idx | _ => false) = true := by
      unfold rn_chi at hc
      rw [Bool.and_eq_true] at hc
      have hc := hc.2
      split at hc
      · exact absurd rfl k2
      · exact hc
    have h2 : rn_g (Nat.ble b st.length && Nat.ble (st.drop b).length 8) (rn_rcv (st.take b).reverse fun r => rn_kd M r = cc ∧ rn_cal k a (rn_mcs a).1 (rn_mcs a).2 (st.take b).reverse M (fun z as M' Q' => rn_Snd l D A z 0 (rn_pad (rn_ml z) as) [] M' Q') fun v M' => rn_Snd l D A y (pc + 3) L (v.toList ++ st.drop b) M' Q) := by
      unfold rn_stp at h
      dsimp only at h
      split at h
      · exact absurd rfl k2
      · exact h
    split at hc2
    · exact rn_i_spec hm hd2 hc2 h2 C hml hl hs hz E
    · exact rn_i_spec hm hd2 hc2 h2 C hml hl hs hz E
    · cases hc2
  case ireturn =>
    have hc : (decide (nx = pc + 1) && decide (k = rn_rk mt.2.2.2.1) && decide (k ≤ 3)) = true := hc
    rw [Bool.and_eq_true, Bool.and_eq_true, decide_eq_true_eq, decide_eq_true_eq, decide_eq_true_eq] at hc
    obtain ⟨⟨rfl, hk⟩, h3⟩ := hc
    have hd : decode mt.2.1 pc = .ok (.ireturn, pc + 1 - pc) := hd
    rw [Nat.add_sub_cancel_left] at hd
    obtain ⟨z1, z2, z3, z4, z5, z6, z7⟩ := id hz
    unfold rn_stp at h
    dsimp only at h
    split at h
    · rename_i x
      obtain ⟨kx, stk1, rfl, hx, hs1⟩ := rn_vs_I hs
      have e0 : stk1 = [] := by
        cases stk1 with
        | nil => rfl
        | cons _ _ => exact hs1.elim
      subst e0
      exact E (some (.inl x)) M ad tys ws H locs cells slots pc ls _ h.2 rn_xt_rf (fun _ => rfl) ⟨hd, by rw [← hk]; exact h3, by rw [← hk]; exact h.1, kx, rfl, hx⟩ z1 z4 z5 z6
    · exact h.elim
  case areturn =>
    have hc : (decide (nx = pc + 1) && decide (rn_rk mt.2.2.2.1 = 4)) = true := hc
    rw [Bool.and_eq_true, decide_eq_true_eq, decide_eq_true_eq] at hc
    obtain ⟨rfl, hk⟩ := hc
    have hd : decode mt.2.1 pc = .ok (.areturn, pc + 1 - pc) := hd
    rw [Nat.add_sub_cancel_left] at hd
    obtain ⟨z1, z2, z3, z4, z5, z6, z7⟩ := id hz
    unfold rn_stp at h
    dsimp only at h
    split at h
    · rename_i r
      obtain ⟨x, stk1, rfl, hx, hs1⟩ := rn_vs_c hs
      have e0 : stk1 = [] := by
        cases stk1 with
        | nil => rfl
        | cons _ _ => exact hs1.elim
      subst e0
      refine E (some (.inr (some r))) M ad tys ws H locs cells slots pc ls _ h rn_xt_rf (fun _ => rfl) ⟨hd, hk, x, rfl, hx, ?_⟩ z1 z4 z5 z6
      cases r with
      | none => exact Or.inl hx
      | some q => exact Or.inr ⟨_, hx.2⟩
    · exact h.elim
  case return_ =>
    have hc : (decide (nx = pc + 1) && decide (rn_rk mt.2.2.2.1 = 5)) = true := hc
    rw [Bool.and_eq_true, decide_eq_true_eq, decide_eq_true_eq] at hc
    obtain ⟨rfl, hk⟩ := hc
    have hd : decode mt.2.1 pc = .ok (.return_, pc + 1 - pc) := hd
    rw [Nat.add_sub_cancel_left] at hd
    obtain ⟨z1, z2, z3, z4, z5, z6, z7⟩ := id hz
    unfold rn_stp at h
    dsimp only at h
    split at h
    · have e0 : stk = [] := by
        cases stk with
        | nil => rfl
        | cons _ _ => exact hs.elim
      subst e0
      exact E none M ad tys ws H locs cells slots pc ls _ h rn_xt_rf (fun _ => rfl) ⟨hd, hk, rfl⟩ z1 z4 z5 z6
    · exact h.elim
  all_goals exact h.elim
end
section
/-! the memory with which the law begins: the script, the two tables of steps, the two texts */
-/
def rn_sR : List Int := [1, 1, 0, -1, -1, -1, 0, 1]
def rn_sD : List Int := [0, 1, 1, 1, 0, -1, -1, -1]
def rn_bR : List Int := [114, 105, 118, 101, 114]
def rn_bT : List Int := [116, 111, 119, 110]
def rn_M0 (N : Nat) (xs : Nat → Int) : rn_M := ([(21, N), (21, 8), (21, 8), (22, 0), (22, 0), (23, 5), (23, 4), (24, 0)], (1000, 100000),
  fun a k => match a with | 0 => xs k | 1 => rn_sR.getD k 0 | 2 => rn_sD.getD k 0 | 5 => rn_bR.getD k 0 | 6 => rn_bT.getD k 0 | _ => 0,
  fun a k => match a, k with | 3, 0 => some 5 | 4, 0 => some 6 | _, _ => none)
theorem rn_sound_WP {l : Launch} {D : va_G} {A : Nat → Prop} {y pc : Nat} {L st : List rn_V} {M : rn_M} {Q : rn_Q} (h : rn_WP y pc L st M Q) : rn_Snd l D A y pc L st M Q := h _ rn_Snd_mon rn_sound
end
section
/-! the shape of the memory behind the constructors; small rows for the blocks -/
theorem rn_cw {y pc : Nat} {L t : List rn_V} {M : rn_M} {Q : rn_Q} {z : Int} (h1 : -2147483648 ≤ z) (h2 : z ≤ 2147483647) (k : rn_WP y pc L (.inl z :: t) M Q) : rn_WP y pc L (.inl (rn_wr z) :: t) M Q := by
  rw [rn_wr_id h1 h2]; exact k
theorem rn_ci {y pc a : Nat} {L t : List rn_V} {M : rn_M} {Q : rn_Q} {z : Int} (h1 : -2147483648 ≤ z) (h2 : z ≤ 2147483647) (k : rn_WP y pc (L.set a (.inl z)) t M Q) : rn_WP y pc (L.set a (.inl (rn_wr z))) t M Q := by
  rw [rn_wr_id h1 h2]; exact k
theorem rn_cg {y pc : Nat} {L t : List rn_V} {M : rn_M} {Q : rn_Q} {r : Option Nat} {g : Nat} (h : r = some g) (k : rn_WP y pc L (rn_R g :: t) M Q) : rn_WP y pc L (.inr (some r) :: t) M Q := by
  rw [h]; exact k
theorem rn_cn2 {y pc n m : Nat} {L t : List rn_V} {M : rn_M} {Q : rn_Q} (h : n = m) (k : rn_WP y pc L (rn_I (m : Int) :: t) M Q) : rn_WP y pc L (.inl (n : Int) :: t) M Q := by
  rw [h]; exact k
def rn_wa (M : rn_M) (a n : Nat) : Prop := rn_kd M a = 20 ∧ rn_ln M a = n
def rn_fa (M : rn_M) (a n : Nat) : Prop := rn_kd M a = 21 ∧ rn_ln M a = n
def rn_ba (M : rn_M) (a n : Nat) : Prop := rn_kd M a = 23 ∧ rn_ln M a = n
def rn_qa (M : rn_M) (a c n : Nat) : Prop := rn_kd M a = c + 30 ∧ rn_ln M a = n
theorem rn_lt {n m : Nat} {i : Int} (h : n = m) (hi : i < (m : Int)) : i < (n : Int) := by rw [h]; exact hi
theorem rn_le2 {n m : Nat} {i : Int} (h : n = m) (hi : i ≤ (m : Int)) : i ≤ (n : Int) := by rw [h]; exact hi
theorem rn_q30 {k c : Nat} (h : k = c + 30) : 30 ≤ k := by omega
theorem rn_q29 {k j c : Nat} (h : k = c + 30) (h2 : j = c + 1) : j + 29 = k := by omega
theorem rn_tn {x : Int} {n : Nat} (h : 0 ≤ x) (h2 : x < (n : Int)) : x.toNat < n := by omega

noncomputable def rn_b (P : Prop) : Int := @ite Int P (Classical.propDecidable P) 1 0
theorem rn_bt {P : Prop} (h : P) : rn_b P = 1 := by unfold rn_b; rw [if_pos h]
theorem rn_bf {P : Prop} (h : ¬ P) : rn_b P = 0 := by unfold rn_b; rw [if_neg h]
theorem rn_b0 {P : Prop} (h : rn_b P = 0) : ¬ P := fun q => by rw [rn_bt q] at h; cases h
theorem rn_b1 {P : Prop} (h : ¬ rn_b P = 0) : P := by
  by_cases q : P
  · exact q
  · exact absurd (rn_bf q) h
theorem rn_b01 {P : Prop} : rn_b P = 0 ∨ rn_b P = 1 := by
  by_cases q : P
  · exact Or.inr (rn_bt q)
  · exact Or.inl (rn_bf q)
theorem rn_b_iff {P P' : Prop} (h : P ↔ P') : rn_b P = rn_b P' := by rw [propext h]
def rn_isB (a : Nat) : Prop := ∃ j, j < 7 ∧ a = 14 + 64 * j
def rn_isR (a : Nat) : Prop := ∃ j i, j < 7 ∧ i < 6 ∧ a = 18 + 64 * j + 5 * i
def rn_isT (a : Nat) : Prop := ∃ j i, j < 7 ∧ i < 10 ∧ a = 48 + 64 * j + i
def rn_isL (a : Nat) : Prop := ∃ j i, j < 7 ∧ i < 20 ∧ a = 58 + 64 * j + i
theorem rn_isR_of {a k : Nat} (h : rn_isB a) (hk : k < 6) : rn_isR (a + 4 + 5 * k) := by
  obtain ⟨j, h1, rfl⟩ := h; exact ⟨j, k, h1, hk, by omega⟩
theorem rn_isT_of {a k : Nat} (h : rn_isB a) (hk : k < 10) : rn_isT (a + 34 + k) := by
  obtain ⟨j, h1, rfl⟩ := h; exact ⟨j, k, h1, hk, by omega⟩
theorem rn_isL_of {a k : Nat} (h : rn_isB a) (hk : k < 20) : rn_isL (a + 44 + k) := by
  obtain ⟨j, h1, rfl⟩ := h; exact ⟨j, k, h1, hk, by omega⟩
/-- the cells of a board -/
def rn_SB : List (Nat × Nat) := [(1, 7), (35, 6), (38, 10), (33, 20)] ++ (List.range 6).flatMap (fun _ => [(6, 9), (20, 12), (20, 60), (20, 61), (20, 61)]) ++ List.replicate 10 (9, 5) ++ List.replicate 20 (4, 2)
def rn_SH (N : Nat) : List (Nat × Nat) := [(21, N), (21, 8), (21, 8), (22, 0), (22, 0), (23, 5), (23, 4), (24, 0)] ++ [(10, 4), (5, 5), (8, 2), (20, 150), (2, 4), (30, 5)] ++ (List.range 7).flatMap (fun _ => rn_SB) ++ [(3, 1), (20, 61), (7, 2), (20, 2400)] ++ [(11, 15), (20, 562), (20, 2810), (20, 150), (20, 61), (20, 61), (20, 2400), (20, 5), (20, 562), (20, 562)]
/-- references that stay for ever -/
def rn_fx (a k : Nat) : Option Nat :=
  match a, k with
  | 8, 0 => some 9 | 8, 1 => some 12 | 8, 2 => some 462 | 8, 3 => some 464
  | 9, 0 => some 10 | 10, 1 => some 11 | 12, 1 => some 13 | 462, 0 => some 463 | 464, 1 => some 465
  | 466, 0 => some 467 | 466, 1 => some 468 | 466, 3 => some 469 | 466, 5 => some 470 | 466, 6 => some 471 | 466, 7 => some 472 | 466, 12 => some 473 | 466, 13 => some 474 | 466, 14 => some 475
  | _, _ => none
def rn_sh (M : rn_M) : Prop := (∃ N, M.1 = rn_SH N) ∧ (∀ a k v, rn_fx a k = some v → rn_gr M a k = some v) ∧
  ∀ j, j < 7 → rn_gr M (14 + 64 * j) 4 = some (15 + 64 * j) ∧ rn_gr M (14 + 64 * j) 5 = some (16 + 64 * j) ∧ rn_gr M (14 + 64 * j) 6 = some (17 + 64 * j) ∧
    (∀ i, i < 6 → rn_gr M (15 + 64 * j) i = some (18 + 64 * j + 5 * i) ∧ rn_gr M (18 + 64 * j + 5 * i) 5 = some (19 + 64 * j + 5 * i) ∧ rn_gr M (18 + 64 * j + 5 * i) 6 = some (20 + 64 * j + 5 * i) ∧ rn_gr M (18 + 64 * j + 5 * i) 7 = some (21 + 64 * j + 5 * i) ∧ rn_gr M (18 + 64 * j + 5 * i) 8 = some (22 + 64 * j + 5 * i)) ∧
    ∀ i, i < 10 → rn_gr M (16 + 64 * j) i = some (48 + 64 * j + i)
theorem rn_SH_at (N a : Nat) (h : 0 < a) : (rn_SH N).getD a (0, 0) = (rn_SH 0).getD a (0, 0) := by
  cases a with
  | zero => omega
  | succ a => rfl
theorem rn_shk {M : rn_M} (hM : rn_sh M) {a : Nat} (h : 0 < a) : rn_kd M a = ((rn_SH 0).getD a (0, 0)).1 ∧ rn_ln M a = ((rn_SH 0).getD a (0, 0)).2 := by
  obtain ⟨⟨N, h1⟩, -⟩ := hM
  unfold rn_kd rn_ln
  rw [h1, rn_SH_at N a h]
  exact ⟨rfl, rfl⟩
theorem rn_SHB1 : ∀ j, j < 7 → (rn_SH 0).getD (14 + 64 * j) (0, 0) = (1, 7) ∧ (rn_SH 0).getD (15 + 64 * j) (0, 0) = (35, 6) ∧ (rn_SH 0).getD (16 + 64 * j) (0, 0) = (38, 10) ∧ (rn_SH 0).getD (17 + 64 * j) (0, 0) = (33, 20) := by decide +kernel
theorem rn_SHB2 : ∀ j, j < 7 → ∀ i, i < 6 → (rn_SH 0).getD (18 + 64 * j + 5 * i) (0, 0) = (6, 9) ∧ (rn_SH 0).getD (19 + 64 * j + 5 * i) (0, 0) = (20, 12) ∧ (rn_SH 0).getD (20 + 64 * j + 5 * i) (0, 0) = (20, 60) ∧ (rn_SH 0).getD (21 + 64 * j + 5 * i) (0, 0) = (20, 61) ∧ (rn_SH 0).getD (22 + 64 * j + 5 * i) (0, 0) = (20, 61) := by decide +kernel
theorem rn_SHB3 : ∀ j, j < 7 → ∀ i, i < 10 → (rn_SH 0).getD (48 + 64 * j + i) (0, 0) = (9, 5) := by decide +kernel
theorem rn_SHB4 : ∀ j, j < 7 → ∀ i, i < 20 → (rn_SH 0).getD (58 + 64 * j + i) (0, 0) = (4, 2) := by decide +kernel
theorem rn_SHB : ∀ j, j < 7 → ((rn_SH 0).getD (14 + 64 * j) (0, 0) = (1, 7) ∧ (rn_SH 0).getD (15 + 64 * j) (0, 0) = (35, 6) ∧ (rn_SH 0).getD (16 + 64 * j) (0, 0) = (38, 10) ∧ (rn_SH 0).getD (17 + 64 * j) (0, 0) = (33, 20)) ∧
    (∀ i, i < 6 → (rn_SH 0).getD (18 + 64 * j + 5 * i) (0, 0) = (6, 9) ∧ (rn_SH 0).getD (19 + 64 * j + 5 * i) (0, 0) = (20, 12) ∧ (rn_SH 0).getD (20 + 64 * j + 5 * i) (0, 0) = (20, 60) ∧ (rn_SH 0).getD (21 + 64 * j + 5 * i) (0, 0) = (20, 61) ∧ (rn_SH 0).getD (22 + 64 * j + 5 * i) (0, 0) = (20, 61)) ∧
    (∀ i, i < 10 → (rn_SH 0).getD (48 + 64 * j + i) (0, 0) = (9, 5)) ∧ ∀ i, i < 20 → (rn_SH 0).getD (58 + 64 * j + i) (0, 0) = (4, 2) := fun j h => ⟨rn_SHB1 j h, rn_SHB2 j h, rn_SHB3 j h, rn_SHB4 j h⟩
section RNSH
variable {M : rn_M} (hM : rn_sh M)
theorem rn_kB {M : rn_M} (hM : rn_sh M) {a : Nat} (h : rn_isB a) : rn_kd M a = 1 := by
  obtain ⟨j, h1, rfl⟩ := h; rw [(rn_shk hM (by omega)).1, (rn_SHB j h1).1.1]
theorem rn_kR {M : rn_M} (hM : rn_sh M) {a : Nat} (h : rn_isR a) : rn_kd M a = 6 := by
  obtain ⟨j, i, h1, h2, rfl⟩ := h; rw [(rn_shk hM (by omega)).1, ((rn_SHB j h1).2.1 i h2).1]
theorem rn_kT {M : rn_M} (hM : rn_sh M) {a : Nat} (h : rn_isT a) : rn_kd M a = 9 := by
  obtain ⟨j, i, h1, h2, rfl⟩ := h; rw [(rn_shk hM (by omega)).1, (rn_SHB j h1).2.2.1 i h2]
theorem rn_kL {M : rn_M} (hM : rn_sh M) {a : Nat} (h : rn_isL a) : rn_kd M a = 4 := by
  obtain ⟨j, i, h1, h2, rfl⟩ := h; rw [(rn_shk hM (by omega)).1, (rn_SHB j h1).2.2.2 i h2]
theorem rn_gB4 {M : rn_M} (hM : rn_sh M) {a : Nat} (h : rn_isB a) : rn_gr M a 4 = some (a + 1) := by
  obtain ⟨j, h1, rfl⟩ := h; rw [(hM.2.2 j h1).1]; congr 1; omega
theorem rn_gB5 {M : rn_M} (hM : rn_sh M) {a : Nat} (h : rn_isB a) : rn_gr M a 5 = some (a + 2) := by
  obtain ⟨j, h1, rfl⟩ := h; rw [(hM.2.2 j h1).2.1]; congr 1; omega
theorem rn_gB6 {M : rn_M} (hM : rn_sh M) {a : Nat} (h : rn_isB a) : rn_gr M a 6 = some (a + 3) := by
  obtain ⟨j, h1, rfl⟩ := h; rw [(hM.2.2 j h1).2.2.1]; congr 1; omega
theorem rn_aB1 {M : rn_M} (hM : rn_sh M) {a : Nat} (h : rn_isB a) : rn_qa M (a + 1) 5 6 := by
  obtain ⟨j, h1, rfl⟩ := h; unfold rn_qa; rw [(rn_shk hM (by omega)).1, (rn_shk hM (by omega)).2, show 14 + 64 * j + 1 = 15 + 64 * j by omega, (rn_SHB j h1).1.2.1]; exact ⟨rfl, rfl⟩
theorem rn_aB2 {M : rn_M} (hM : rn_sh M) {a : Nat} (h : rn_isB a) : rn_qa M (a + 2) 8 10 := by
  obtain ⟨j, h1, rfl⟩ := h; unfold rn_qa; rw [(rn_shk hM (by omega)).1, (rn_shk hM (by omega)).2, show 14 + 64 * j + 2 = 16 + 64 * j by omega, (rn_SHB j h1).1.2.2.1]; exact ⟨rfl, rfl⟩
theorem rn_aB3 {M : rn_M} (hM : rn_sh M) {a : Nat} (h : rn_isB a) : rn_qa M (a + 3) 3 20 := by
  obtain ⟨j, h1, rfl⟩ := h; unfold rn_qa; rw [(rn_shk hM (by omega)).1, (rn_shk hM (by omega)).2, show 14 + 64 * j + 3 = 17 + 64 * j by omega, (rn_SHB j h1).1.2.2.2]; exact ⟨rfl, rfl⟩
theorem rn_eR {M : rn_M} (hM : rn_sh M) {a k : Nat} (h : rn_isB a) (hk : k < 6) : rn_gr M (a + 1) k = some (a + 4 + 5 * k) := by
  obtain ⟨j, h1, rfl⟩ := h; rw [show 14 + 64 * j + 1 = 15 + 64 * j by omega, ((hM.2.2 j h1).2.2.2.1 k hk).1]; congr 1; omega
theorem rn_eT {M : rn_M} (hM : rn_sh M) {a k : Nat} (h : rn_isB a) (hk : k < 10) : rn_gr M (a + 2) k = some (a + 34 + k) := by
  obtain ⟨j, h1, rfl⟩ := h; rw [show 14 + 64 * j + 2 = 16 + 64 * j by omega, (hM.2.2 j h1).2.2.2.2 k hk]; congr 1; omega
theorem rn_gR5 {M : rn_M} (hM : rn_sh M) {a : Nat} (h : rn_isR a) : rn_gr M a 5 = some (a + 1) := by
  obtain ⟨j, i, h1, h2, rfl⟩ := h; rw [((hM.2.2 j h1).2.2.2.1 i h2).2.1]; congr 1; omega
theorem rn_gR6 {M : rn_M} (hM : rn_sh M) {a : Nat} (h : rn_isR a) : rn_gr M a 6 = some (a + 2) := by
  obtain ⟨j, i, h1, h2, rfl⟩ := h; rw [((hM.2.2 j h1).2.2.2.1 i h2).2.2.1]; congr 1; omega
theorem rn_gR7 {M : rn_M} (hM : rn_sh M) {a : Nat} (h : rn_isR a) : rn_gr M a 7 = some (a + 3) := by
  obtain ⟨j, i, h1, h2, rfl⟩ := h; rw [((hM.2.2 j h1).2.2.2.1 i h2).2.2.2.1]; congr 1; omega
theorem rn_gR8 {M : rn_M} (hM : rn_sh M) {a : Nat} (h : rn_isR a) : rn_gr M a 8 = some (a + 4) := by
  obtain ⟨j, i, h1, h2, rfl⟩ := h; rw [((hM.2.2 j h1).2.2.2.1 i h2).2.2.2.2]; congr 1; omega
theorem rn_aR1 {M : rn_M} (hM : rn_sh M) {a : Nat} (h : rn_isR a) : rn_wa M (a + 1) 12 := by
  obtain ⟨j, i, h1, h2, rfl⟩ := h; unfold rn_wa; rw [(rn_shk hM (by omega)).1, (rn_shk hM (by omega)).2, show 18 + 64 * j + 5 * i + 1 = 19 + 64 * j + 5 * i by omega, ((rn_SHB j h1).2.1 i h2).2.1]; exact ⟨rfl, rfl⟩
theorem rn_aR2 {M : rn_M} (hM : rn_sh M) {a : Nat} (h : rn_isR a) : rn_wa M (a + 2) 60 := by
  obtain ⟨j, i, h1, h2, rfl⟩ := h; unfold rn_wa; rw [(rn_shk hM (by omega)).1, (rn_shk hM (by omega)).2, show 18 + 64 * j + 5 * i + 2 = 20 + 64 * j + 5 * i by omega, ((rn_SHB j h1).2.1 i h2).2.2.1]; exact ⟨rfl, rfl⟩
theorem rn_aR3 {M : rn_M} (hM : rn_sh M) {a : Nat} (h : rn_isR a) : rn_wa M (a + 3) 61 := by
  obtain ⟨j, i, h1, h2, rfl⟩ := h; unfold rn_wa; rw [(rn_shk hM (by omega)).1, (rn_shk hM (by omega)).2, show 18 + 64 * j + 5 * i + 3 = 21 + 64 * j + 5 * i by omega, ((rn_SHB j h1).2.1 i h2).2.2.2.1]; exact ⟨rfl, rfl⟩
theorem rn_aR4 {M : rn_M} (hM : rn_sh M) {a : Nat} (h : rn_isR a) : rn_wa M (a + 4) 61 := by
  obtain ⟨j, i, h1, h2, rfl⟩ := h; unfold rn_wa; rw [(rn_shk hM (by omega)).1, (rn_shk hM (by omega)).2, show 18 + 64 * j + 5 * i + 4 = 22 + 64 * j + 5 * i by omega, ((rn_SHB j h1).2.1 i h2).2.2.2.2]; exact ⟨rfl, rfl⟩
theorem rn_ks8 {M : rn_M} (hM : rn_sh M) : rn_kd M 8 = 10 := by rw [(rn_shk hM (by omega)).1]; decide +kernel
theorem rn_ks9 {M : rn_M} (hM : rn_sh M) : rn_kd M 9 = 5 := by rw [(rn_shk hM (by omega)).1]; decide +kernel
theorem rn_ks10 {M : rn_M} (hM : rn_sh M) : rn_kd M 10 = 8 := by rw [(rn_shk hM (by omega)).1]; decide +kernel
theorem rn_ks12 {M : rn_M} (hM : rn_sh M) : rn_kd M 12 = 2 := by rw [(rn_shk hM (by omega)).1]; decide +kernel
theorem rn_ks462 {M : rn_M} (hM : rn_sh M) : rn_kd M 462 = 3 := by rw [(rn_shk hM (by omega)).1]; decide +kernel
theorem rn_ks464 {M : rn_M} (hM : rn_sh M) : rn_kd M 464 = 7 := by rw [(rn_shk hM (by omega)).1]; decide +kernel
theorem rn_ks466 {M : rn_M} (hM : rn_sh M) : rn_kd M 466 = 11 := by rw [(rn_shk hM (by omega)).1]; decide +kernel
theorem rn_g8_0 {M : rn_M} (hM : rn_sh M) : rn_gr M 8 0 = some 9 := hM.2.1 8 0 9 rfl
theorem rn_g8_1 {M : rn_M} (hM : rn_sh M) : rn_gr M 8 1 = some 12 := hM.2.1 8 1 12 rfl
theorem rn_g8_2 {M : rn_M} (hM : rn_sh M) : rn_gr M 8 2 = some 462 := hM.2.1 8 2 462 rfl
theorem rn_g8_3 {M : rn_M} (hM : rn_sh M) : rn_gr M 8 3 = some 464 := hM.2.1 8 3 464 rfl
theorem rn_g9_0 {M : rn_M} (hM : rn_sh M) : rn_gr M 9 0 = some 10 := hM.2.1 9 0 10 rfl
theorem rn_g10_1 {M : rn_M} (hM : rn_sh M) : rn_gr M 10 1 = some 11 := hM.2.1 10 1 11 rfl
theorem rn_g12_1 {M : rn_M} (hM : rn_sh M) : rn_gr M 12 1 = some 13 := hM.2.1 12 1 13 rfl
theorem rn_g462_0 {M : rn_M} (hM : rn_sh M) : rn_gr M 462 0 = some 463 := hM.2.1 462 0 463 rfl
theorem rn_g464_1 {M : rn_M} (hM : rn_sh M) : rn_gr M 464 1 = some 465 := hM.2.1 464 1 465 rfl
theorem rn_g466_0 {M : rn_M} (hM : rn_sh M) : rn_gr M 466 0 = some 467 := hM.2.1 466 0 467 rfl
theorem rn_g466_1 {M : rn_M} (hM : rn_sh M) : rn_gr M 466 1 = some 468 := hM.2.1 466 1 468 rfl
theorem rn_g466_3 {M : rn_M} (hM : rn_sh M) : rn_gr M 466 3 = some 469 := hM.2.1 466 3 469 rfl
theorem rn_g466_5 {M : rn_M} (hM : rn_sh M) : rn_gr M 466 5 = some 470 := hM.2.1 466 5 470 rfl
theorem rn_g466_6 {M : rn_M} (hM : rn_sh M) : rn_gr M 466 6 = some 471 := hM.2.1 466 6 471 rfl
theorem rn_g466_7 {M : rn_M} (hM : rn_sh M) : rn_gr M 466 7 = some 472 := hM.2.1 466 7 472 rfl
theorem rn_g466_12 {M : rn_M} (hM : rn_sh M) : rn_gr M 466 12 = some 473 := hM.2.1 466 12 473 rfl
theorem rn_g466_13 {M : rn_M} (hM : rn_sh M) : rn_gr M 466 13 = some 474 := hM.2.1 466 13 474 rfl
theorem rn_g466_14 {M : rn_M} (hM : rn_sh M) : rn_gr M 466 14 = some 475 := hM.2.1 466 14 475 rfl
theorem rn_w11 {M : rn_M} (hM : rn_sh M) : rn_wa M 11 150 := by unfold rn_wa; rw [(rn_shk hM (by omega)).1, (rn_shk hM (by omega)).2]; decide +kernel
theorem rn_w463 {M : rn_M} (hM : rn_sh M) : rn_wa M 463 61 := by unfold rn_wa; rw [(rn_shk hM (by omega)).1, (rn_shk hM (by omega)).2]; decide +kernel
theorem rn_w465 {M : rn_M} (hM : rn_sh M) : rn_wa M 465 2400 := by unfold rn_wa; rw [(rn_shk hM (by omega)).1, (rn_shk hM (by omega)).2]; decide +kernel
theorem rn_w467 {M : rn_M} (hM : rn_sh M) : rn_wa M 467 562 := by unfold rn_wa; rw [(rn_shk hM (by omega)).1, (rn_shk hM (by omega)).2]; decide +kernel
theorem rn_w468 {M : rn_M} (hM : rn_sh M) : rn_wa M 468 2810 := by unfold rn_wa; rw [(rn_shk hM (by omega)).1, (rn_shk hM (by omega)).2]; decide +kernel
theorem rn_w469 {M : rn_M} (hM : rn_sh M) : rn_wa M 469 150 := by unfold rn_wa; rw [(rn_shk hM (by omega)).1, (rn_shk hM (by omega)).2]; decide +kernel
theorem rn_w470 {M : rn_M} (hM : rn_sh M) : rn_wa M 470 61 := by unfold rn_wa; rw [(rn_shk hM (by omega)).1, (rn_shk hM (by omega)).2]; decide +kernel
theorem rn_w471 {M : rn_M} (hM : rn_sh M) : rn_wa M 471 61 := by unfold rn_wa; rw [(rn_shk hM (by omega)).1, (rn_shk hM (by omega)).2]; decide +kernel
theorem rn_w472 {M : rn_M} (hM : rn_sh M) : rn_wa M 472 2400 := by unfold rn_wa; rw [(rn_shk hM (by omega)).1, (rn_shk hM (by omega)).2]; decide +kernel
theorem rn_w473 {M : rn_M} (hM : rn_sh M) : rn_wa M 473 5 := by unfold rn_wa; rw [(rn_shk hM (by omega)).1, (rn_shk hM (by omega)).2]; decide +kernel
theorem rn_w474 {M : rn_M} (hM : rn_sh M) : rn_wa M 474 562 := by unfold rn_wa; rw [(rn_shk hM (by omega)).1, (rn_shk hM (by omega)).2]; decide +kernel
theorem rn_w475 {M : rn_M} (hM : rn_sh M) : rn_wa M 475 562 := by unfold rn_wa; rw [(rn_shk hM (by omega)).1, (rn_shk hM (by omega)).2]; decide +kernel
theorem rn_q13 {M : rn_M} (hM : rn_sh M) : rn_qa M 13 0 5 := by unfold rn_qa; rw [(rn_shk hM (by omega)).1, (rn_shk hM (by omega)).2]; decide +kernel
theorem rn_f1 {M : rn_M} (hM : rn_sh M) : rn_fa M 1 8 := by unfold rn_fa; rw [(rn_shk hM (by omega)).1, (rn_shk hM (by omega)).2]; decide +kernel
theorem rn_f2 {M : rn_M} (hM : rn_sh M) : rn_fa M 2 8 := by unfold rn_fa; rw [(rn_shk hM (by omega)).1, (rn_shk hM (by omega)).2]; decide +kernel
end RNSH
def rn_go (M : rn_M) (a k : Nat) : Nat := (rn_gr M a k).getD 0
theorem rn_kt {P : Prop} {M : rn_M} {Q : rn_Q} (h : P) (k : Q (some (rn_I (rn_b P))) M) : Q (some (rn_I 1)) M := by rw [rn_bt h] at k; exact k
theorem rn_kf {P : Prop} {M : rn_M} {Q : rn_Q} (h : ¬ P) (k : Q (some (rn_I (rn_b P))) M) : Q (some (rn_I 0)) M := by rw [rn_bf h] at k; exact k
theorem rn_kv {M : rn_M} {Q : rn_Q} {x y : Int} (h : x = y) (k : Q (some (rn_I x)) M) : Q (some (rn_I y)) M := by rw [← h]; exact k
/-- words of the mathematics: a step, a turn, a cell of the reference's row -/
def rn_sx (d : Int) : Int := if d = 7 ∨ d < 2 then 1 else if 3 ≤ d ∧ d ≤ 5 then -1 else 0
def rn_sy (d : Int) : Int := if 1 ≤ d ∧ d ≤ 3 then 1 else if 4 < d then -1 else 0
def rn_tu (a b : Int) : Int := if 4 < (if a < b then b - a else a - b) then 8 - (if a < b then b - a else a - b) else if a < b then b - a else a - b
def rn_o (N : Nat → Int) (r w : Int) : Int := N (4 + 78 * r + w).toNat
def rn_lt2 (M : rn_M) (a : Nat) (i : Int) : Int := if 0 ≤ i ∧ i ≤ rn_gi M a 3 - 1 then rn_gi M (a + 1) i.toNat else -9
def rn_sg (M : rn_M) (i : Int) : Int := if 0 ≤ i ∧ i ≤ rn_gi M 10 0 - 1 then rn_gi M 11 i.toNat else 0
/-- a town's numbers are small -/
def rn_tk (M : rn_M) (a : Nat) : Prop := (0 ≤ rn_gi M a 0 ∧ rn_gi M a 0 ≤ 100) ∧ (0 ≤ rn_gi M a 1 ∧ rn_gi M a 1 ≤ 100) ∧ (0 ≤ rn_gi M a 2 ∧ rn_gi M a 2 ≤ 100) ∧ 0 ≤ rn_gi M a 3 ∧ rn_gi M a 3 ≤ 100
def rn_tn2 (M : rn_M) (a : Nat) (x y h : Int) : Prop := (rn_gi M a 0 - h ≤ x ∧ x ≤ rn_gi M a 0 + rn_gi M a 2 - 1 + h) ∧ rn_gi M a 1 - h ≤ y ∧ y ≤ rn_gi M a 1 + rn_gi M a 3 - 1 + h
/-- the cells of a river lie on the map -/
def rn_rk2 (M : rn_M) (a : Nat) : Prop := ∀ k : Nat, (k : Int) ≤ rn_gi M a 4 → (0 ≤ rn_gi M (a + 3) k ∧ rn_gi M (a + 3) k < 60) ∧ 0 ≤ rn_gi M (a + 4) k ∧ rn_gi M (a + 4) k < 40
def rn_rn2 (M : rn_M) (a : Nat) (p x y h : Int) : Prop := 0 ≤ p ∧ p ≤ rn_gi M a 4 ∧ (rn_gi M (a + 3) p.toNat - x ≤ h ∧ x - rn_gi M (a + 3) p.toNat ≤ h) ∧ rn_gi M (a + 4) p.toNat - y ≤ h ∧ y - rn_gi M (a + 4) p.toNat ≤ h
def rn_ko (s : Int) : Int := if s = 0 then 0 else if 97 ≤ s ∧ s ≤ 122 then 1 else if 48 ≤ s ∧ s ≤ 57 then 2 else 3
end
section
theorem re_RN_within {M : rn_M} {Q : rn_Q} {v0 v1 v2 : rn_V} (h : rn_WP 118 0 [v0, v1, v2] [] M Q) : rn_ME 118 [v0, v1, v2] M Q := h
set_option maxRecDepth 4000 in
theorem rb_RN_within_0 {M : rn_M} {Q : rn_Q} {xl0 : Int} {xl1 : Int} {xl2 : Int}   (k1 : (xl0 < xl1) → Q (some (rn_I 0)) M) (k2 : (¬ (xl0 < xl1)) → (xl2 < xl0) → Q (some (rn_I 0)) M) (k3 : (¬ (xl0 < xl1)) → (¬ (xl2 < xl0)) → Q (some (rn_I 1)) M) : rn_WP 118 0 [rn_I xl0, rn_I xl1, rn_I xl2] [] M Q := by
  refine (rn_step (e := (.iload_n 0, 1, 0, 0, 0, 0, 0, [])) rfl).mpr ?_
  refine (rn_step (e := (.iload_n 1, 2, 1, 0, 0, 0, 0, [])) rfl).mpr ?_
  refine (rn_step (e := (.if_icmp .lt 12, 5, 14, 0, 0, 0, 0, [])) rfl).mpr (And.intro (fun c1 => ?_) (fun c1 => ?_))
  ·
    refine (rn_step (e := (.iconst 0, 15, 0, 0, 0, 0, 0, [])) rfl).mpr ?_
    exact (rn_step (e := (.ireturn, 16, 0, 0, 0, 1, 0, [])) rfl).mpr (And.intro ((Or.inl rfl)) ((k1 c1)))
  ·
    refine (rn_step (e := (.iload_n 0, 6, 0, 0, 0, 0, 0, [])) rfl).mpr ?_
    refine (rn_step (e := (.iload_n 2, 7, 2, 0, 0, 0, 0, [])) rfl).mpr ?_
    refine (rn_step (e := (.if_icmp .gt 7, 10, 14, 0, 0, 0, 0, [])) rfl).mpr (And.intro (fun c2 => ?_) (fun c2 => ?_))
    ·
      refine (rn_step (e := (.iconst 0, 15, 0, 0, 0, 0, 0, [])) rfl).mpr ?_
      exact (rn_step (e := (.ireturn, 16, 0, 0, 0, 1, 0, [])) rfl).mpr (And.intro ((Or.inl rfl)) ((k2 c1 c2)))
    ·
      refine (rn_step (e := (.iconst 1, 11, 0, 0, 0, 0, 0, [])) rfl).mpr ?_
      refine (rn_step (e := (.goto 4, 14, 15, 0, 0, 0, 0, [])) rfl).mpr ?_
      exact (rn_step (e := (.ireturn, 16, 0, 0, 0, 1, 0, [])) rfl).mpr (And.intro ((Or.inr rfl)) ((k3 c1 c2)))
theorem re_RN_onMap {M : rn_M} {Q : rn_Q} {v0 v1 : rn_V} (h : rn_WP 119 0 [v0, v1] [] M Q) : rn_ME 119 [v0, v1] M Q := h
set_option maxRecDepth 4000 in
theorem rb_RN_onMap_0 {M : rn_M} {Q : rn_Q} {xl0 : Int} {xl1 : Int}   (k1 : (xl0 < 0) → Q (some (rn_I 0)) M) (k2 : (¬ (xl0 < 0)) → (xl0 < 60) → (xl1 < 0) → Q (some (rn_I 0)) M) (k3 : (¬ (xl0 < 0)) → (xl0 < 60) → (¬ (xl1 < 0)) → (xl1 < 40) → Q (some (rn_I 1)) M) (k4 : (¬ (xl0 < 0)) → (xl0 < 60) → (¬ (xl1 < 0)) → (¬ (xl1 < 40)) → Q (some (rn_I 0)) M) (k5 : (¬ (xl0 < 0)) → (¬ (xl0 < 60)) → Q (some (rn_I 0)) M) : rn_WP 119 0 [rn_I xl0, rn_I xl1] [] M Q := by
  refine (rn_step (e := (.iload_n 0, 1, 0, 0, 0, 0, 0, [])) rfl).mpr ?_
  refine (rn_step (e := (.ifCond .lt 23, 4, 24, 0, 0, 0, 0, [])) rfl).mpr (And.intro (fun c1 => ?_) (fun c1 => ?_))
  ·
    refine (rn_step (e := (.iconst 0, 25, 0, 0, 0, 0, 0, [])) rfl).mpr ?_
    exact (rn_step (e := (.ireturn, 26, 0, 0, 0, 1, 0, [])) rfl).mpr (And.intro ((Or.inl rfl)) ((k1 c1)))
  ·
    refine (rn_step (e := (.iload_n 0, 5, 0, 0, 0, 0, 0, [])) rfl).mpr ?_
    refine (rn_step (e := (.bipush 60, 7, 0, 0, 0, 0, 0, [])) rfl).mpr ?_
    refine (rn_step (e := (.if_icmp .ge 17, 10, 24, 0, 0, 0, 0, [])) rfl).mpr (And.intro (fun c2 => ?_) (fun c2 => ?_))
    ·
      refine (rn_step (e := (.iload_n 1, 11, 1, 0, 0, 0, 0, [])) rfl).mpr ?_
      refine (rn_step (e := (.ifCond .lt 13, 14, 24, 0, 0, 0, 0, [])) rfl).mpr (And.intro (fun c3 => ?_) (fun c3 => ?_))
      ·
        refine (rn_step (e := (.iconst 0, 25, 0, 0, 0, 0, 0, [])) rfl).mpr ?_
        exact (rn_step (e := (.ireturn, 26, 0, 0, 0, 1, 0, [])) rfl).mpr (And.intro ((Or.inl rfl)) ((k2 c1 c2 c3)))
      ·
        refine (rn_step (e := (.iload_n 1, 15, 1, 0, 0, 0, 0, [])) rfl).mpr ?_
        refine (rn_step (e := (.bipush 40, 17, 0, 0, 0, 0, 0, [])) rfl).mpr ?_
        refine (rn_step (e := (.if_icmp .ge 7, 20, 24, 0, 0, 0, 0, [])) rfl).mpr (And.intro (fun c4 => ?_) (fun c4 => ?_))
        ·
          refine (rn_step (e := (.iconst 1, 21, 0, 0, 0, 0, 0, [])) rfl).mpr ?_
          refine (rn_step (e := (.goto 4, 24, 25, 0, 0, 0, 0, [])) rfl).mpr ?_
          exact (rn_step (e := (.ireturn, 26, 0, 0, 0, 1, 0, [])) rfl).mpr (And.intro ((Or.inr rfl)) ((k3 c1 c2 c3 c4)))
        ·
          refine (rn_step (e := (.iconst 0, 25, 0, 0, 0, 0, 0, [])) rfl).mpr ?_
          exact (rn_step (e := (.ireturn, 26, 0, 0, 0, 1, 0, [])) rfl).mpr (And.intro ((Or.inl rfl)) ((k4 c1 c2 c3 c4)))
    ·
      refine (rn_step (e := (.iconst 0, 25, 0, 0, 0, 0, 0, [])) rfl).mpr ?_
      exact (rn_step (e := (.ireturn, 26, 0, 0, 0, 1, 0, [])) rfl).mpr (And.intro ((Or.inl rfl)) ((k5 c1 c2)))
theorem re_Mo_in {M : rn_M} {Q : rn_Q} {v0 v1 v2 : rn_V} (h : rn_WP 124 0 [v0, v1, v2] [] M Q) : rn_ME 124 [v0, v1, v2] M Q := h
set_option maxRecDepth 4000 in
theorem rb_Mo_in_0 {M : rn_M} {Q : rn_Q} {xl0 : Int} {xl1 : Int} {xl2 : Int}   (k1 : (xl0 < xl1) → Q (some (rn_I 0)) M) (k2 : (¬ (xl0 < xl1)) → (xl2 < xl0) → Q (some (rn_I 0)) M) (k3 : (¬ (xl0 < xl1)) → (¬ (xl2 < xl0)) → Q (some (rn_I 1)) M) : rn_WP 124 0 [rn_I xl0, rn_I xl1, rn_I xl2] [] M Q := by
  refine (rn_step (e := (.iload_n 0, 1, 0, 0, 0, 0, 0, [])) rfl).mpr ?_
  refine (rn_step (e := (.iload_n 1, 2, 1, 0, 0, 0, 0, [])) rfl).mpr ?_
  refine (rn_step (e := (.if_icmp .lt 12, 5, 14, 0, 0, 0, 0, [])) rfl).mpr (And.intro (fun c1 => ?_) (fun c1 => ?_))
  ·
    refine (rn_step (e := (.iconst 0, 15, 0, 0, 0, 0, 0, [])) rfl).mpr ?_
    exact (rn_step (e := (.ireturn, 16, 0, 0, 0, 1, 0, [])) rfl).mpr (And.intro ((Or.inl rfl)) ((k1 c1)))
  ·
    refine (rn_step (e := (.iload_n 0, 6, 0, 0, 0, 0, 0, [])) rfl).mpr ?_
    refine (rn_step (e := (.iload_n 2, 7, 2, 0, 0, 0, 0, [])) rfl).mpr ?_
    refine (rn_step (e := (.if_icmp .gt 7, 10, 14, 0, 0, 0, 0, [])) rfl).mpr (And.intro (fun c2 => ?_) (fun c2 => ?_))
    ·
      refine (rn_step (e := (.iconst 0, 15, 0, 0, 0, 0, 0, [])) rfl).mpr ?_
      exact (rn_step (e := (.ireturn, 16, 0, 0, 0, 1, 0, [])) rfl).mpr (And.intro ((Or.inl rfl)) ((k2 c1 c2)))
    ·
      refine (rn_step (e := (.iconst 1, 11, 0, 0, 0, 0, 0, [])) rfl).mpr ?_
      refine (rn_step (e := (.goto 4, 14, 15, 0, 0, 0, 0, [])) rfl).mpr ?_
      exact (rn_step (e := (.ireturn, 16, 0, 0, 0, 1, 0, [])) rfl).mpr (And.intro ((Or.inr rfl)) ((k3 c1 c2)))
theorem re_Mo_riverAt {M : rn_M} {Q : rn_Q} {v0 : rn_V} (h : rn_WP 128 0 [v0] [] M Q) : rn_ME 128 [v0] M Q := h
set_option maxRecDepth 4000 in
theorem rb_Mo_riverAt_0 {M : rn_M} {Q : rn_Q} {xl0 : Int}   (hr1 : (-2147483648 : Int) ≤ 78 * xl0 ∧ 78 * xl0 ≤ 2147483647 ∧ (-2147483648 : Int) ≤ 4 + (78 * xl0) ∧ 4 + (78 * xl0) ≤ 2147483647) (k1 : Q (some (rn_I (4 + (78 * xl0)))) M) : rn_WP 128 0 [rn_I xl0] [] M Q := by
  refine (rn_step (e := (.iconst 4, 1, 0, 0, 0, 0, 0, [])) rfl).mpr ?_
  refine (rn_step (e := (.bipush 78, 3, 0, 0, 0, 0, 0, [])) rfl).mpr ?_
  refine (rn_step (e := (.iload_n 0, 4, 0, 0, 0, 0, 0, [])) rfl).mpr ?_
  refine (rn_step (e := (.imul, 5, 0, 0, 0, 0, 0, [])) rfl).mpr (rn_cw hr1.1 hr1.2.1 ?_)
  refine (rn_step (e := (.iadd, 6, 0, 0, 0, 0, 0, [])) rfl).mpr (rn_cw hr1.2.2.1 hr1.2.2.2 ?_)
  exact (rn_step (e := (.ireturn, 7, 0, 0, 0, 0, 0, [])) rfl).mpr (And.intro (trivial) (k1))
theorem re_Mo_turn {M : rn_M} {Q : rn_Q} {v0 v1 : rn_V} (h : rn_WP 149 0 [v0, v1, rn_J] [] M Q) : rn_ME 149 [v0, v1] M Q := h
set_option maxRecDepth 4000 in
theorem rb_Mo_turn_0 {M : rn_M} {Q : rn_Q} {xl0 : Int} {xl1 : Int} {vl2 : rn_V}   (hr1 : (xl0 < xl1) → (-2147483648 : Int) ≤ xl1 - xl0 ∧ xl1 - xl0 ≤ 2147483647) (hr2 : (xl0 < xl1) → (¬ (xl1 - xl0 ≤ 4)) → (-2147483648 : Int) ≤ 8 - (xl1 - xl0) ∧ 8 - (xl1 - xl0) ≤ 2147483647) (hr3 : (¬ (xl0 < xl1)) → (-2147483648 : Int) ≤ xl0 - xl1 ∧ xl0 - xl1 ≤ 2147483647) (hr4 : (¬ (xl0 < xl1)) → (¬ (xl0 - xl1 ≤ 4)) → (-2147483648 : Int) ≤ 8 - (xl0 - xl1) ∧ 8 - (xl0 - xl1) ≤ 2147483647) (k1 : (xl0 < xl1) → (xl1 - xl0 ≤ 4) → Q (some (rn_I (xl1 - xl0))) M) (k2 : (xl0 < xl1) → (¬ (xl1 - xl0 ≤ 4)) → Q (some (rn_I (8 - (xl1 - xl0)))) M) (k3 : (¬ (xl0 < xl1)) → (xl0 - xl1 ≤ 4) → Q (some (rn_I (xl0 - xl1))) M) (k4 : (¬ (xl0 < xl1)) → (¬ (xl0 - xl1 ≤ 4)) → Q (some (rn_I (8 - (xl0 - xl1)))) M) : rn_WP 149 0 [rn_I xl0, rn_I xl1, vl2] [] M Q := by
  refine (rn_step (e := (.iload_n 0, 1, 0, 0, 0, 0, 0, [])) rfl).mpr ?_
  refine (rn_step (e := (.iload_n 1, 2, 1, 0, 0, 0, 0, [])) rfl).mpr ?_
  refine (rn_step (e := (.if_icmp .ge 9, 5, 11, 0, 0, 0, 0, [])) rfl).mpr (And.intro (fun c1 => ?_) (fun c1 => ?_))
  ·
    refine (rn_step (e := (.iload_n 1, 6, 1, 0, 0, 0, 0, [])) rfl).mpr ?_
    refine (rn_step (e := (.iload_n 0, 7, 0, 0, 0, 0, 0, [])) rfl).mpr ?_
    refine (rn_step (e := (.isub, 8, 0, 0, 0, 0, 0, [])) rfl).mpr (rn_cw (hr1 c1).1 (hr1 c1).2 ?_)
    refine (rn_step (e := (.goto 6, 11, 14, 0, 0, 0, 0, [])) rfl).mpr ?_
    refine (rn_step (e := (.istore_n 2, 15, 2, 0, 0, 0, 0, [])) rfl).mpr ?_
    refine (rn_step (e := (.iload_n 2, 16, 2, 0, 0, 0, 0, [])) rfl).mpr ?_
    refine (rn_step (e := (.iconst 4, 17, 0, 0, 0, 0, 0, [])) rfl).mpr ?_
    refine (rn_step (e := (.if_icmp .le 10, 20, 27, 0, 0, 0, 0, [])) rfl).mpr (And.intro (fun c2 => ?_) (fun c2 => ?_))
    ·
      refine (rn_step (e := (.iload_n 2, 28, 2, 0, 0, 0, 0, [])) rfl).mpr ?_
      exact (rn_step (e := (.ireturn, 29, 0, 0, 0, 0, 0, [])) rfl).mpr (And.intro (trivial) ((k1 c1 c2)))
    ·
      refine (rn_step (e := (.bipush 8, 22, 0, 0, 0, 0, 0, [])) rfl).mpr ?_
      refine (rn_step (e := (.iload_n 2, 23, 2, 0, 0, 0, 0, [])) rfl).mpr ?_
      refine (rn_step (e := (.isub, 24, 0, 0, 0, 0, 0, [])) rfl).mpr (rn_cw (hr2 c1 c2).1 (hr2 c1 c2).2 ?_)
      refine (rn_step (e := (.goto 4, 27, 28, 0, 0, 0, 0, [])) rfl).mpr ?_
      exact (rn_step (e := (.ireturn, 29, 0, 0, 0, 0, 0, [])) rfl).mpr (And.intro (trivial) ((k2 c1 c2)))
  ·
    refine (rn_step (e := (.iload_n 0, 12, 0, 0, 0, 0, 0, [])) rfl).mpr ?_
    refine (rn_step (e := (.iload_n 1, 13, 1, 0, 0, 0, 0, [])) rfl).mpr ?_
    refine (rn_step (e := (.isub, 14, 0, 0, 0, 0, 0, [])) rfl).mpr (rn_cw (hr3 c1).1 (hr3 c1).2 ?_)
    refine (rn_step (e := (.istore_n 2, 15, 2, 0, 0, 0, 0, [])) rfl).mpr ?_
    refine (rn_step (e := (.iload_n 2, 16, 2, 0, 0, 0, 0, [])) rfl).mpr ?_
    refine (rn_step (e := (.iconst 4, 17, 0, 0, 0, 0, 0, [])) rfl).mpr ?_
    refine (rn_step (e := (.if_icmp .le 10, 20, 27, 0, 0, 0, 0, [])) rfl).mpr (And.intro (fun c2 => ?_) (fun c2 => ?_))
    ·
      refine (rn_step (e := (.iload_n 2, 28, 2, 0, 0, 0, 0, [])) rfl).mpr ?_
      exact (rn_step (e := (.ireturn, 29, 0, 0, 0, 0, 0, [])) rfl).mpr (And.intro (trivial) ((k3 c1 c2)))
    ·
      refine (rn_step (e := (.bipush 8, 22, 0, 0, 0, 0, 0, [])) rfl).mpr ?_
      refine (rn_step (e := (.iload_n 2, 23, 2, 0, 0, 0, 0, [])) rfl).mpr ?_
      refine (rn_step (e := (.isub, 24, 0, 0, 0, 0, 0, [])) rfl).mpr (rn_cw (hr4 c1 c2).1 (hr4 c1 c2).2 ?_)
      refine (rn_step (e := (.goto 4, 27, 28, 0, 0, 0, 0, [])) rfl).mpr ?_
      exact (rn_step (e := (.ireturn, 29, 0, 0, 0, 0, 0, [])) rfl).mpr (And.intro (trivial) ((k4 c1 c2)))
theorem re_Ri_hasPlace {M : rn_M} {Q : rn_Q} {v0 v1 : rn_V} (h : rn_WP 64 0 [v0, v1] [] M Q) : rn_ME 64 [v0, v1] M Q := h
set_option maxRecDepth 4000 in
theorem rb_Ri_hasPlace_0 {M : rn_M} {Q : rn_Q} {al0 : Nat} {xl1 : Int} (hM : rn_sh M) (p_al0 : rn_isR al0)  (k1 : (xl1 < 0) → Q (some (rn_I 0)) M) (k2 : (¬ (xl1 < 0)) → (rn_gi M al0 4 < xl1) → Q (some (rn_I 0)) M) (k3 : (¬ (xl1 < 0)) → (¬ (rn_gi M al0 4 < xl1)) → Q (some (rn_I 1)) M) : rn_WP 64 0 [rn_R al0, rn_I xl1] [] M Q := by
  refine (rn_step (e := (.iload_n 1, 1, 1, 0, 0, 0, 0, [])) rfl).mpr ?_
  refine (rn_step (e := (.ifCond .lt 15, 4, 16, 0, 0, 0, 0, [])) rfl).mpr (And.intro (fun c1 => ?_) (fun c1 => ?_))
  ·
    refine (rn_step (e := (.iconst 0, 17, 0, 0, 0, 0, 0, [])) rfl).mpr ?_
    exact (rn_step (e := (.ireturn, 18, 0, 0, 0, 1, 0, [])) rfl).mpr (And.intro ((Or.inl rfl)) ((k1 c1)))
  ·
    refine (rn_step (e := (.iload_n 1, 5, 1, 0, 0, 0, 0, [])) rfl).mpr ?_
    refine (rn_step (e := (.aload_n 0, 6, 0, 0, 0, 0, 0, [])) rfl).mpr ?_
    refine (rn_step (e := (.getfield 37, 9, 5, 4, 173, 0, 6, [])) rfl).mpr (And.intro ((rn_kR hM p_al0)) (?_))
    refine (rn_step (e := (.if_icmp .gt 7, 12, 16, 0, 0, 0, 0, [])) rfl).mpr (And.intro (fun c2 => ?_) (fun c2 => ?_))
    ·
      refine (rn_step (e := (.iconst 0, 17, 0, 0, 0, 0, 0, [])) rfl).mpr ?_
      exact (rn_step (e := (.ireturn, 18, 0, 0, 0, 1, 0, [])) rfl).mpr (And.intro ((Or.inl rfl)) ((k2 c1 c2)))
    ·
      refine (rn_step (e := (.iconst 1, 13, 0, 0, 0, 0, 0, [])) rfl).mpr ?_
      refine (rn_step (e := (.goto 4, 16, 17, 0, 0, 0, 0, [])) rfl).mpr ?_
      exact (rn_step (e := (.ireturn, 18, 0, 0, 0, 1, 0, [])) rfl).mpr (And.intro ((Or.inr rfl)) ((k3 c1 c2)))
theorem re_Ri_lastStart {M : rn_M} {Q : rn_Q} {v0 v1 : rn_V} (h : rn_WP 68 0 [v0, v1] [] M Q) : rn_ME 68 [v0, v1] M Q := h
set_option maxRecDepth 4000 in
theorem rb_Ri_lastStart_0 {M : rn_M} {Q : rn_Q} {al0 : Nat} {xl1 : Int} (hM : rn_sh M) (p_al0 : rn_isR al0)  (hr1 : (-2147483648 : Int) ≤ rn_gi M al0 4 + 1 ∧ rn_gi M al0 4 + 1 ≤ 2147483647 ∧ (-2147483648 : Int) ≤ (rn_gi M al0 4 + 1) - xl1 ∧ (rn_gi M al0 4 + 1) - xl1 ≤ 2147483647) (k1 : Q (some (rn_I ((rn_gi M al0 4 + 1) - xl1))) M) : rn_WP 68 0 [rn_R al0, rn_I xl1] [] M Q := by
  refine (rn_step (e := (.aload_n 0, 1, 0, 0, 0, 0, 0, [])) rfl).mpr ?_
  refine (rn_step (e := (.getfield 37, 4, 5, 4, 173, 0, 6, [])) rfl).mpr (And.intro ((rn_kR hM p_al0)) (?_))
  refine (rn_step (e := (.iconst 1, 5, 0, 0, 0, 0, 0, [])) rfl).mpr ?_
  refine (rn_step (e := (.iadd, 6, 0, 0, 0, 0, 0, [])) rfl).mpr (rn_cw hr1.1 hr1.2.1 ?_)
  refine (rn_step (e := (.iload_n 1, 7, 1, 0, 0, 0, 0, [])) rfl).mpr ?_
  refine (rn_step (e := (.isub, 8, 0, 0, 0, 0, 0, [])) rfl).mpr (rn_cw hr1.2.2.1 hr1.2.2.2 ?_)
  exact (rn_step (e := (.ireturn, 9, 0, 0, 0, 0, 0, [])) rfl).mpr (And.intro (trivial) (k1))
theorem re_Hi_present {M : rn_M} {Q : rn_Q} {v0 : rn_V} (h : rn_WP 20 0 [v0] [] M Q) : rn_ME 20 [v0] M Q := h
set_option maxRecDepth 4000 in
theorem rb_Hi_present_0 {M : rn_M} {Q : rn_Q}  (hM : rn_sh M)   (hr1 : rn_gr M 12 2 = some (rn_go M 12 2)) (k1 : Q (some (rn_R (rn_go M 12 2))) M) : rn_WP 20 0 [rn_R 12] [] M Q := by
  refine (rn_step (e := (.aload_n 0, 1, 0, 0, 0, 0, 0, [])) rfl).mpr ?_
  refine (rn_step (e := (.getfield 18, 4, 1, 2, 277, 2, 2, [])) rfl).mpr (And.intro ((rn_ks12 hM)) (rn_cg hr1 ?_))
  exact (rn_step (e := (.areturn, 5, 0, 0, 0, 0, 0, [])) rfl).mpr k1
end
section
section C0
variable {M : rn_M} {Q : rn_Q}
theorem rc_RN_within {x lo hi : Int} (k : Q (some (rn_I (rn_b (lo ≤ x ∧ x ≤ hi)))) M) : rn_ME 118 [rn_I x, rn_I lo, rn_I hi] M Q := by
  refine re_RN_within (rb_RN_within_0 ?_ ?_ ?_) <;> intros <;> first | exact rn_kf (by omega) k | exact rn_kt (by omega) k
theorem rc_Mo_in {x lo hi : Int} (k : Q (some (rn_I (rn_b (lo ≤ x ∧ x ≤ hi)))) M) : rn_ME 124 [rn_I x, rn_I lo, rn_I hi] M Q := by
  refine re_Mo_in (rb_Mo_in_0 ?_ ?_ ?_) <;> intros <;> first | exact rn_kf (by omega) k | exact rn_kt (by omega) k
theorem rc_RN_onMap {x y : Int} (k : Q (some (rn_I (rn_b ((0 ≤ x ∧ x < 60) ∧ 0 ≤ y ∧ y < 40)))) M) : rn_ME 119 [rn_I x, rn_I y] M Q := by
  refine re_RN_onMap (rb_RN_onMap_0 ?_ ?_ ?_ ?_ ?_) <;> intros <;> first | exact rn_kf (by omega) k | exact rn_kt (by omega) k
theorem rc_Mo_riverAt {r : Int} (h : 0 ≤ r ∧ r ≤ 10) (k : Q (some (rn_I (4 + 78 * r))) M) : rn_ME 128 [rn_I r] M Q := by
  refine re_Mo_riverAt (rb_Mo_riverAt_0 ?_ ?_)
  · omega
  · exact k
theorem rc_Mo_turn {a b : Int} (h : -100 ≤ a ∧ a ≤ 100 ∧ -100 ≤ b ∧ b ≤ 100) (k : Q (some (rn_I (rn_tu a b))) M) : rn_ME 149 [rn_I a, rn_I b] M Q := by
  refine re_Mo_turn (rb_Mo_turn_0 ?_ ?_ ?_ ?_ ?_ ?_ ?_ ?_) <;> intros <;> first | omega | (refine rn_kv ?_ k; unfold rn_tu; (repeat' split) <;> omega)
theorem rc_Ri_hasPlace (hM : rn_sh M) {a : Nat} (p : rn_isR a) {x : Int} (k : Q (some (rn_I (rn_b (0 ≤ x ∧ x ≤ rn_gi M a 4)))) M) : rn_ME 64 [rn_R a, rn_I x] M Q := by
  refine re_Ri_hasPlace (rb_Ri_hasPlace_0 hM p ?_ ?_ ?_) <;> intros <;> first | exact rn_kf (by omega) k | exact rn_kt (by omega) k
theorem rc_Ri_lastStart (hM : rn_sh M) {a : Nat} (p : rn_isR a) {x : Int} (h1 : -1000 ≤ x ∧ x ≤ 1000) (h2 : -1000 ≤ rn_gi M a 4 ∧ rn_gi M a 4 ≤ 1000) (k : Q (some (rn_I (rn_gi M a 4 + 1 - x))) M) : rn_ME 68 [rn_R a, rn_I x] M Q := by
  refine re_Ri_lastStart (rb_Ri_lastStart_0 hM p ?_ ?_)
  · omega
  · exact k
theorem rc_Hi_present (hM : rn_sh M) (h : rn_gr M 12 2 = some (rn_go M 12 2)) (k : Q (some (rn_R (rn_go M 12 2))) M) : rn_ME 20 [rn_R 12] M Q := re_Hi_present (rb_Hi_present_0 hM h k)
end C0
end
section
theorem re_RN_isRank {M : rn_M} {Q : rn_Q} {v0 : rn_V} (h : rn_WP 120 0 [v0] [] M Q) : rn_ME 120 [v0] M Q := h
set_option maxRecDepth 4000 in
theorem rb_RN_isRank_0 {M : rn_M} {Q : rn_Q} {xl0 : Int}   (k1 : Q (some (rn_I (rn_b (1 ≤ xl0 ∧ xl0 ≤ 9)))) M) : rn_WP 120 0 [rn_I xl0] [] M Q := by
  refine (rn_step (e := (.iload_n 0, 1, 0, 0, 0, 0, 0, [])) rfl).mpr ?_
  refine (rn_step (e := (.iconst 1, 2, 0, 0, 0, 0, 0, [])) rfl).mpr ?_
  refine (rn_step (e := (.bipush 9, 4, 0, 0, 0, 0, 0, [])) rfl).mpr ?_
  refine (rn_step (e := (.invokestatic 37, 7, 118, 3, 331, 0, 10, [0])) rfl).mpr (rc_RN_within  ?_)
  exact (rn_step (e := (.ireturn, 8, 0, 0, 0, 1, 0, [])) rfl).mpr (And.intro (rn_b01) (k1))
theorem re_RN_isHalo {M : rn_M} {Q : rn_Q} {v0 : rn_V} (h : rn_WP 121 0 [v0] [] M Q) : rn_ME 121 [v0] M Q := h
set_option maxRecDepth 4000 in
theorem rb_RN_isHalo_0 {M : rn_M} {Q : rn_Q} {xl0 : Int}   (k1 : Q (some (rn_I (rn_b (0 ≤ xl0 ∧ xl0 ≤ 2)))) M) : rn_WP 121 0 [rn_I xl0] [] M Q := by
  refine (rn_step (e := (.iload_n 0, 1, 0, 0, 0, 0, 0, [])) rfl).mpr ?_
  refine (rn_step (e := (.iconst 0, 2, 0, 0, 0, 0, 0, [])) rfl).mpr ?_
  refine (rn_step (e := (.iconst 2, 3, 0, 0, 0, 0, 0, [])) rfl).mpr ?_
  refine (rn_step (e := (.invokestatic 37, 6, 118, 3, 331, 0, 10, [0])) rfl).mpr (rc_RN_within  ?_)
  exact (rn_step (e := (.ireturn, 7, 0, 0, 0, 1, 0, [])) rfl).mpr (And.intro (rn_b01) (k1))
theorem re_RN_isPlaceNumber {M : rn_M} {Q : rn_Q} {v0 : rn_V} (h : rn_WP 122 0 [v0] [] M Q) : rn_ME 122 [v0] M Q := h
set_option maxRecDepth 4000 in
theorem rb_RN_isPlaceNumber_0 {M : rn_M} {Q : rn_Q} {xl0 : Int}   (k1 : Q (some (rn_I (rn_b (0 ≤ xl0 ∧ xl0 ≤ 60)))) M) : rn_WP 122 0 [rn_I xl0] [] M Q := by
  refine (rn_step (e := (.iload_n 0, 1, 0, 0, 0, 0, 0, [])) rfl).mpr ?_
  refine (rn_step (e := (.iconst 0, 2, 0, 0, 0, 0, 0, [])) rfl).mpr ?_
  refine (rn_step (e := (.bipush 60, 4, 0, 0, 0, 0, 0, [])) rfl).mpr ?_
  refine (rn_step (e := (.invokestatic 37, 7, 118, 3, 331, 0, 10, [0])) rfl).mpr (rc_RN_within  ?_)
  exact (rn_step (e := (.ireturn, 8, 0, 0, 0, 1, 0, [])) rfl).mpr (And.intro (rn_b01) (k1))
theorem re_Mo_stepX {M : rn_M} {Q : rn_Q} {v0 : rn_V} (h : rn_WP 130 0 [v0] [] M Q) : rn_ME 130 [v0] M Q := h
set_option maxRecDepth 4000 in
theorem rb_Mo_stepX_0 {M : rn_M} {Q : rn_Q} {xl0 : Int}   (k1 : (xl0 = 7) → Q (some (rn_I 1)) M) (k2 : (¬ (xl0 = 7)) → (xl0 < 2) → Q (some (rn_I 1)) M) (k3 : (¬ (xl0 = 7)) → (¬ (xl0 < 2)) → (¬ (3 ≤ xl0 ∧ xl0 ≤ 5)) → Q (some (rn_I 0)) M) (k4 : (¬ (xl0 = 7)) → (¬ (xl0 < 2)) → (3 ≤ xl0 ∧ xl0 ≤ 5) → Q (some (rn_I (-1))) M) : rn_WP 130 0 [rn_I xl0] [] M Q := by
  refine (rn_step (e := (.iload_n 0, 1, 0, 0, 0, 0, 0, [])) rfl).mpr ?_
  refine (rn_step (e := (.bipush 7, 3, 0, 0, 0, 0, 0, [])) rfl).mpr ?_
  refine (rn_step (e := (.if_icmp .eq 8, 6, 11, 0, 0, 0, 0, [])) rfl).mpr (And.intro (fun c1 => ?_) (fun c1 => ?_))
  ·
    refine (rn_step (e := (.iconst 1, 12, 0, 0, 0, 0, 0, [])) rfl).mpr ?_
    refine (rn_step (e := (.goto 17, 15, 29, 0, 0, 0, 0, [])) rfl).mpr ?_
    exact (rn_step (e := (.ireturn, 30, 0, 0, 0, 0, 0, [])) rfl).mpr (And.intro (trivial) ((k1 c1)))
  ·
    refine (rn_step (e := (.iload_n 0, 7, 0, 0, 0, 0, 0, [])) rfl).mpr ?_
    refine (rn_step (e := (.iconst 2, 8, 0, 0, 0, 0, 0, [])) rfl).mpr ?_
    refine (rn_step (e := (.if_icmp .ge 7, 11, 15, 0, 0, 0, 0, [])) rfl).mpr (And.intro (fun c2 => ?_) (fun c2 => ?_))
    ·
      refine (rn_step (e := (.iconst 1, 12, 0, 0, 0, 0, 0, [])) rfl).mpr ?_
      refine (rn_step (e := (.goto 17, 15, 29, 0, 0, 0, 0, [])) rfl).mpr ?_
      exact (rn_step (e := (.ireturn, 30, 0, 0, 0, 0, 0, [])) rfl).mpr (And.intro (trivial) ((k2 c1 c2)))
    ·
      refine (rn_step (e := (.iload_n 0, 16, 0, 0, 0, 0, 0, [])) rfl).mpr ?_
      refine (rn_step (e := (.iconst 3, 17, 0, 0, 0, 0, 0, [])) rfl).mpr ?_
      refine (rn_step (e := (.iconst 5, 18, 0, 0, 0, 0, 0, [])) rfl).mpr ?_
      refine (rn_step (e := (.invokestatic 41, 21, 124, 3, 956, 0, 11, [0])) rfl).mpr (rc_Mo_in  ?_)
      refine (rn_step (e := (.ifCond .eq 7, 24, 28, 0, 0, 0, 0, [])) rfl).mpr (And.intro (fun q => ?_) (fun q => ?_))
      · have c3 := rn_b0 q
        refine (rn_step (e := (.iconst 0, 29, 0, 0, 0, 0, 0, [])) rfl).mpr ?_
        exact (rn_step (e := (.ireturn, 30, 0, 0, 0, 0, 0, [])) rfl).mpr (And.intro (trivial) ((k3 c1 c2 c3)))
      · have c3 := rn_b1 q
        refine (rn_step (e := (.iconst (-1), 25, 0, 0, 0, 0, 0, [])) rfl).mpr ?_
        refine (rn_step (e := (.goto 4, 28, 29, 0, 0, 0, 0, [])) rfl).mpr ?_
        exact (rn_step (e := (.ireturn, 30, 0, 0, 0, 0, 0, [])) rfl).mpr (And.intro (trivial) ((k4 c1 c2 c3)))
theorem re_Mo_stepY {M : rn_M} {Q : rn_Q} {v0 : rn_V} (h : rn_WP 131 0 [v0] [] M Q) : rn_ME 131 [v0] M Q := h
set_option maxRecDepth 4000 in
theorem rb_Mo_stepY_0 {M : rn_M} {Q : rn_Q} {xl0 : Int}   (k1 : (¬ (1 ≤ xl0 ∧ xl0 ≤ 3)) → (xl0 ≤ 4) → Q (some (rn_I 0)) M) (k2 : (¬ (1 ≤ xl0 ∧ xl0 ≤ 3)) → (¬ (xl0 ≤ 4)) → Q (some (rn_I (-1))) M) (k3 : (1 ≤ xl0 ∧ xl0 ≤ 3) → Q (some (rn_I 1)) M) : rn_WP 131 0 [rn_I xl0] [] M Q := by
  refine (rn_step (e := (.iload_n 0, 1, 0, 0, 0, 0, 0, [])) rfl).mpr ?_
  refine (rn_step (e := (.iconst 1, 2, 0, 0, 0, 0, 0, [])) rfl).mpr ?_
  refine (rn_step (e := (.iconst 3, 3, 0, 0, 0, 0, 0, [])) rfl).mpr ?_
  refine (rn_step (e := (.invokestatic 41, 6, 124, 3, 956, 0, 11, [0])) rfl).mpr (rc_Mo_in  ?_)
  refine (rn_step (e := (.ifCond .eq 7, 9, 13, 0, 0, 0, 0, [])) rfl).mpr (And.intro (fun q => ?_) (fun q => ?_))
  · have c1 := rn_b0 q
    refine (rn_step (e := (.iload_n 0, 14, 0, 0, 0, 0, 0, [])) rfl).mpr ?_
    refine (rn_step (e := (.iconst 4, 15, 0, 0, 0, 0, 0, [])) rfl).mpr ?_
    refine (rn_step (e := (.if_icmp .le 7, 18, 22, 0, 0, 0, 0, [])) rfl).mpr (And.intro (fun c2 => ?_) (fun c2 => ?_))
    ·
      refine (rn_step (e := (.iconst 0, 23, 0, 0, 0, 0, 0, [])) rfl).mpr ?_
      exact (rn_step (e := (.ireturn, 24, 0, 0, 0, 0, 0, [])) rfl).mpr (And.intro (trivial) ((k1 c1 c2)))
    ·
      refine (rn_step (e := (.iconst (-1), 19, 0, 0, 0, 0, 0, [])) rfl).mpr ?_
      refine (rn_step (e := (.goto 4, 22, 23, 0, 0, 0, 0, [])) rfl).mpr ?_
      exact (rn_step (e := (.ireturn, 24, 0, 0, 0, 0, 0, [])) rfl).mpr (And.intro (trivial) ((k2 c1 c2)))
  · have c1 := rn_b1 q
    refine (rn_step (e := (.iconst 1, 10, 0, 0, 0, 0, 0, [])) rfl).mpr ?_
    refine (rn_step (e := (.goto 13, 13, 23, 0, 0, 0, 0, [])) rfl).mpr ?_
    exact (rn_step (e := (.ireturn, 24, 0, 0, 0, 0, 0, [])) rfl).mpr (And.intro (trivial) ((k3 c1)))
theorem re_Mo_isOnMap {M : rn_M} {Q : rn_Q} {v0 v1 : rn_V} (h : rn_WP 132 0 [v0, v1] [] M Q) : rn_ME 132 [v0, v1] M Q := h
set_option maxRecDepth 4000 in
theorem rb_Mo_isOnMap_0 {M : rn_M} {Q : rn_Q} {xl0 : Int} {xl1 : Int}   (k1 : (¬ (0 ≤ xl0 ∧ xl0 ≤ 59)) → Q (some (rn_I 0)) M) (k2 : (0 ≤ xl0 ∧ xl0 ≤ 59) → (¬ (0 ≤ xl1 ∧ xl1 ≤ 39)) → Q (some (rn_I 0)) M) (k3 : (0 ≤ xl0 ∧ xl0 ≤ 59) → (0 ≤ xl1 ∧ xl1 ≤ 39) → Q (some (rn_I 1)) M) : rn_WP 132 0 [rn_I xl0, rn_I xl1] [] M Q := by
  refine (rn_step (e := (.iload_n 0, 1, 0, 0, 0, 0, 0, [])) rfl).mpr ?_
  refine (rn_step (e := (.iconst 0, 2, 0, 0, 0, 0, 0, [])) rfl).mpr ?_
  refine (rn_step (e := (.bipush 59, 4, 0, 0, 0, 0, 0, [])) rfl).mpr ?_
  refine (rn_step (e := (.invokestatic 41, 7, 124, 3, 956, 0, 11, [0])) rfl).mpr (rc_Mo_in  ?_)
  refine (rn_step (e := (.ifCond .eq 17, 10, 24, 0, 0, 0, 0, [])) rfl).mpr (And.intro (fun q => ?_) (fun q => ?_))
  · have c1 := rn_b0 q
    refine (rn_step (e := (.iconst 0, 25, 0, 0, 0, 0, 0, [])) rfl).mpr ?_
    exact (rn_step (e := (.ireturn, 26, 0, 0, 0, 1, 0, [])) rfl).mpr (And.intro ((Or.inl rfl)) ((k1 c1)))
  · have c1 := rn_b1 q
    refine (rn_step (e := (.iload_n 1, 11, 1, 0, 0, 0, 0, [])) rfl).mpr ?_
    refine (rn_step (e := (.iconst 0, 12, 0, 0, 0, 0, 0, [])) rfl).mpr ?_
    refine (rn_step (e := (.bipush 39, 14, 0, 0, 0, 0, 0, [])) rfl).mpr ?_
    refine (rn_step (e := (.invokestatic 41, 17, 124, 3, 956, 0, 11, [0])) rfl).mpr (rc_Mo_in  ?_)
    refine (rn_step (e := (.ifCond .eq 7, 20, 24, 0, 0, 0, 0, [])) rfl).mpr (And.intro (fun q => ?_) (fun q => ?_))
    · have c2 := rn_b0 q
      refine (rn_step (e := (.iconst 0, 25, 0, 0, 0, 0, 0, [])) rfl).mpr ?_
      exact (rn_step (e := (.ireturn, 26, 0, 0, 0, 1, 0, [])) rfl).mpr (And.intro ((Or.inl rfl)) ((k2 c1 c2)))
    · have c2 := rn_b1 q
      refine (rn_step (e := (.iconst 1, 21, 0, 0, 0, 0, 0, [])) rfl).mpr ?_
      refine (rn_step (e := (.goto 4, 24, 25, 0, 0, 0, 0, [])) rfl).mpr ?_
      exact (rn_step (e := (.ireturn, 26, 0, 0, 0, 1, 0, [])) rfl).mpr (And.intro ((Or.inr rfl)) ((k3 c1 c2)))
theorem re_Mo_isRank {M : rn_M} {Q : rn_Q} {v0 : rn_V} (h : rn_WP 134 0 [v0] [] M Q) : rn_ME 134 [v0] M Q := h
set_option maxRecDepth 4000 in
theorem rb_Mo_isRank_0 {M : rn_M} {Q : rn_Q} {xl0 : Int}   (k1 : Q (some (rn_I (rn_b (1 ≤ xl0 ∧ xl0 ≤ 9)))) M) : rn_WP 134 0 [rn_I xl0] [] M Q := by
  refine (rn_step (e := (.iload_n 0, 1, 0, 0, 0, 0, 0, [])) rfl).mpr ?_
  refine (rn_step (e := (.iconst 1, 2, 0, 0, 0, 0, 0, [])) rfl).mpr ?_
  refine (rn_step (e := (.bipush 9, 4, 0, 0, 0, 0, 0, [])) rfl).mpr ?_
  refine (rn_step (e := (.invokestatic 41, 7, 124, 3, 956, 0, 11, [0])) rfl).mpr (rc_Mo_in  ?_)
  exact (rn_step (e := (.ireturn, 8, 0, 0, 0, 1, 0, [])) rfl).mpr (And.intro (rn_b01) (k1))
theorem re_Mo_isHalo {M : rn_M} {Q : rn_Q} {v0 : rn_V} (h : rn_WP 135 0 [v0] [] M Q) : rn_ME 135 [v0] M Q := h
set_option maxRecDepth 4000 in
theorem rb_Mo_isHalo_0 {M : rn_M} {Q : rn_Q} {xl0 : Int}   (k1 : Q (some (rn_I (rn_b (0 ≤ xl0 ∧ xl0 ≤ 2)))) M) : rn_WP 135 0 [rn_I xl0] [] M Q := by
  refine (rn_step (e := (.iload_n 0, 1, 0, 0, 0, 0, 0, [])) rfl).mpr ?_
  refine (rn_step (e := (.iconst 0, 2, 0, 0, 0, 0, 0, [])) rfl).mpr ?_
  refine (rn_step (e := (.iconst 2, 3, 0, 0, 0, 0, 0, [])) rfl).mpr ?_
  refine (rn_step (e := (.invokestatic 41, 6, 124, 3, 956, 0, 11, [0])) rfl).mpr (rc_Mo_in  ?_)
  exact (rn_step (e := (.ireturn, 7, 0, 0, 0, 1, 0, [])) rfl).mpr (And.intro (rn_b01) (k1))
theorem re_Mo_isStart {M : rn_M} {Q : rn_Q} {v0 : rn_V} (h : rn_WP 163 0 [v0] [] M Q) : rn_ME 163 [v0] M Q := h
set_option maxRecDepth 4000 in
theorem rb_Mo_isStart_0 {M : rn_M} {Q : rn_Q} {xl0 : Int}   (k1 : Q (some (rn_I (rn_b (0 ≤ xl0 ∧ xl0 ≤ 60)))) M) : rn_WP 163 0 [rn_I xl0] [] M Q := by
  refine (rn_step (e := (.iload_n 0, 1, 0, 0, 0, 0, 0, [])) rfl).mpr ?_
  refine (rn_step (e := (.iconst 0, 2, 0, 0, 0, 0, 0, [])) rfl).mpr ?_
  refine (rn_step (e := (.bipush 60, 4, 0, 0, 0, 0, 0, [])) rfl).mpr ?_
  refine (rn_step (e := (.invokestatic 41, 7, 124, 3, 956, 0, 11, [0])) rfl).mpr (rc_Mo_in  ?_)
  exact (rn_step (e := (.ireturn, 8, 0, 0, 0, 1, 0, [])) rfl).mpr (And.intro (rn_b01) (k1))
theorem re_Mo_of {M : rn_M} {Q : rn_Q} {v0 v1 v2 : rn_V} (h : rn_WP 129 0 [v0, v1, v2] [] M Q) : rn_ME 129 [v0, v1, v2] M Q := h
set_option maxRecDepth 4000 in
theorem rb_Mo_of_0 {M : rn_M} {Q : rn_Q} {xl1 : Int} {xl2 : Int} (hM : rn_sh M)   (hr1 : ((0 : Int) ≤ xl1 ∧ (xl1 : Int) ≤ 10) ∧ (-2147483648 : Int) ≤ (4 + 78 * xl1) + xl2 ∧ (4 + 78 * xl1) + xl2 ≤ 2147483647 ∧ (0 : Int) ≤ (4 + 78 * xl1) + xl2 ∧ (4 + 78 * xl1) + xl2 < (562 : Int)) (k1 : Q (some (rn_I (rn_gi M 467 ((4 + 78 * xl1) + xl2).toNat))) M) : rn_WP 129 0 [rn_R 466, rn_I xl1, rn_I xl2] [] M Q := by
  refine (rn_step (e := (.aload_n 0, 1, 0, 0, 0, 0, 0, [])) rfl).mpr ?_
  refine (rn_step (e := (.getfield 7, 4, 10, 0, 902, 2, 11, [])) rfl).mpr (And.intro ((rn_ks466 hM)) (rn_cg (rn_g466_0 hM) ?_))
  refine (rn_step (e := (.iload_n 1, 5, 1, 0, 0, 0, 0, [])) rfl).mpr ?_
  refine (rn_step (e := (.invokestatic 45, 8, 128, 1, 976, 0, 11, [0])) rfl).mpr (rc_Mo_riverAt (hr1.1) ?_)
  refine (rn_step (e := (.iload_n 2, 9, 2, 0, 0, 0, 0, [])) rfl).mpr ?_
  refine (rn_step (e := (.iadd, 10, 0, 0, 0, 0, 0, [])) rfl).mpr (rn_cw hr1.2.1 hr1.2.2.1 ?_)
  refine (rn_step (e := (.iaload, 11, 0, 0, 0, 0, 0, [])) rfl).mpr (And.intro (Or.inl (rn_w467 hM).1) (And.intro ((And.intro (hr1.2.2.2.1) (rn_lt (rn_w467 hM).2 hr1.2.2.2.2))) (?_)))
  exact (rn_step (e := (.ireturn, 12, 0, 0, 0, 0, 0, [])) rfl).mpr (And.intro (trivial) (k1))
theorem re_Mo_isRiver {M : rn_M} {Q : rn_Q} {v0 v1 : rn_V} (h : rn_WP 127 0 [v0, v1] [] M Q) : rn_ME 127 [v0, v1] M Q := h
set_option maxRecDepth 4000 in
theorem rb_Mo_isRiver_0 {M : rn_M} {Q : rn_Q} {xl1 : Int} (hM : rn_sh M)   (hr1 : (0 : Int) ≤ 0 ∧ 0 < (562 : Int) ∧ (-2147483648 : Int) ≤ (rn_gi M 467 0) - 1 ∧ (rn_gi M 467 0) - 1 ≤ 2147483647) (k1 : Q (some (rn_I (rn_b (0 ≤ xl1 ∧ xl1 ≤ (rn_gi M 467 0) - 1)))) M) : rn_WP 127 0 [rn_R 466, rn_I xl1] [] M Q := by
  refine (rn_step (e := (.iload_n 1, 1, 1, 0, 0, 0, 0, [])) rfl).mpr ?_
  refine (rn_step (e := (.iconst 0, 2, 0, 0, 0, 0, 0, [])) rfl).mpr ?_
  refine (rn_step (e := (.aload_n 0, 3, 0, 0, 0, 0, 0, [])) rfl).mpr ?_
  refine (rn_step (e := (.getfield 7, 6, 10, 0, 902, 2, 11, [])) rfl).mpr (And.intro ((rn_ks466 hM)) (rn_cg (rn_g466_0 hM) ?_))
  refine (rn_step (e := (.iconst 0, 7, 0, 0, 0, 0, 0, [])) rfl).mpr ?_
  refine (rn_step (e := (.iaload, 8, 0, 0, 0, 0, 0, [])) rfl).mpr (And.intro (Or.inl (rn_w467 hM).1) (And.intro ((And.intro (hr1.1) (rn_lt (rn_w467 hM).2 hr1.2.1))) (?_)))
  refine (rn_step (e := (.iconst 1, 9, 0, 0, 0, 0, 0, [])) rfl).mpr ?_
  refine (rn_step (e := (.isub, 10, 0, 0, 0, 0, 0, [])) rfl).mpr (rn_cw hr1.2.2.1 hr1.2.2.2 ?_)
  refine (rn_step (e := (.invokestatic 41, 13, 124, 3, 956, 0, 11, [0])) rfl).mpr (rc_Mo_in  ?_)
  exact (rn_step (e := (.ireturn, 14, 0, 0, 0, 1, 0, [])) rfl).mpr (And.intro (rn_b01) (k1))
theorem re_Mo_isTownNumber {M : rn_M} {Q : rn_Q} {v0 v1 : rn_V} (h : rn_WP 146 0 [v0, v1] [] M Q) : rn_ME 146 [v0, v1] M Q := h
set_option maxRecDepth 4000 in
theorem rb_Mo_isTownNumber_0 {M : rn_M} {Q : rn_Q} {xl1 : Int} (hM : rn_sh M)   (hr1 : (0 : Int) ≤ 1 ∧ 1 < (562 : Int) ∧ (-2147483648 : Int) ≤ (rn_gi M 467 1) - 1 ∧ (rn_gi M 467 1) - 1 ≤ 2147483647) (k1 : Q (some (rn_I (rn_b (0 ≤ xl1 ∧ xl1 ≤ (rn_gi M 467 1) - 1)))) M) : rn_WP 146 0 [rn_R 466, rn_I xl1] [] M Q := by
  refine (rn_step (e := (.iload_n 1, 1, 1, 0, 0, 0, 0, [])) rfl).mpr ?_
  refine (rn_step (e := (.iconst 0, 2, 0, 0, 0, 0, 0, [])) rfl).mpr ?_
  refine (rn_step (e := (.aload_n 0, 3, 0, 0, 0, 0, 0, [])) rfl).mpr ?_
  refine (rn_step (e := (.getfield 7, 6, 10, 0, 902, 2, 11, [])) rfl).mpr (And.intro ((rn_ks466 hM)) (rn_cg (rn_g466_0 hM) ?_))
  refine (rn_step (e := (.iconst 1, 7, 0, 0, 0, 0, 0, [])) rfl).mpr ?_
  refine (rn_step (e := (.iaload, 8, 0, 0, 0, 0, 0, [])) rfl).mpr (And.intro (Or.inl (rn_w467 hM).1) (And.intro ((And.intro (hr1.1) (rn_lt (rn_w467 hM).2 hr1.2.1))) (?_)))
  refine (rn_step (e := (.iconst 1, 9, 0, 0, 0, 0, 0, [])) rfl).mpr ?_
  refine (rn_step (e := (.isub, 10, 0, 0, 0, 0, 0, [])) rfl).mpr (rn_cw hr1.2.2.1 hr1.2.2.2 ?_)
  refine (rn_step (e := (.invokestatic 41, 13, 124, 3, 956, 0, 11, [0])) rfl).mpr (rc_Mo_in  ?_)
  exact (rn_step (e := (.ireturn, 14, 0, 0, 0, 1, 0, [])) rfl).mpr (And.intro (rn_b01) (k1))
theorem re_Mo_isLabel {M : rn_M} {Q : rn_Q} {v0 v1 : rn_V} (h : rn_WP 161 0 [v0, v1] [] M Q) : rn_ME 161 [v0, v1] M Q := h
set_option maxRecDepth 4000 in
theorem rb_Mo_isLabel_0 {M : rn_M} {Q : rn_Q} {xl1 : Int} (hM : rn_sh M)   (hr1 : (0 : Int) ≤ 2 ∧ 2 < (562 : Int) ∧ (-2147483648 : Int) ≤ (rn_gi M 467 2) - 1 ∧ (rn_gi M 467 2) - 1 ≤ 2147483647) (k1 : Q (some (rn_I (rn_b (0 ≤ xl1 ∧ xl1 ≤ (rn_gi M 467 2) - 1)))) M) : rn_WP 161 0 [rn_R 466, rn_I xl1] [] M Q := by
  refine (rn_step (e := (.iload_n 1, 1, 1, 0, 0, 0, 0, [])) rfl).mpr ?_
  refine (rn_step (e := (.iconst 0, 2, 0, 0, 0, 0, 0, [])) rfl).mpr ?_
  refine (rn_step (e := (.aload_n 0, 3, 0, 0, 0, 0, 0, [])) rfl).mpr ?_
  refine (rn_step (e := (.getfield 7, 6, 10, 0, 902, 2, 11, [])) rfl).mpr (And.intro ((rn_ks466 hM)) (rn_cg (rn_g466_0 hM) ?_))
  refine (rn_step (e := (.iconst 2, 7, 0, 0, 0, 0, 0, [])) rfl).mpr ?_
  refine (rn_step (e := (.iaload, 8, 0, 0, 0, 0, 0, [])) rfl).mpr (And.intro (Or.inl (rn_w467 hM).1) (And.intro ((And.intro (hr1.1) (rn_lt (rn_w467 hM).2 hr1.2.1))) (?_)))
  refine (rn_step (e := (.iconst 1, 9, 0, 0, 0, 0, 0, [])) rfl).mpr ?_
  refine (rn_step (e := (.isub, 10, 0, 0, 0, 0, 0, [])) rfl).mpr (rn_cw hr1.2.2.1 hr1.2.2.2 ?_)
  refine (rn_step (e := (.invokestatic 41, 13, 124, 3, 956, 0, 11, [0])) rfl).mpr (rc_Mo_in  ?_)
  exact (rn_step (e := (.ireturn, 14, 0, 0, 0, 1, 0, [])) rfl).mpr (And.intro (rn_b01) (k1))
theorem re_Mo_isSort {M : rn_M} {Q : rn_Q} {v0 v1 v2 v3 : rn_V} (h : rn_WP 191 0 [v0, v1, v2, v3] [] M Q) : rn_ME 191 [v0, v1, v2, v3] M Q := h
set_option maxRecDepth 4000 in
theorem rb_Mo_isSort_0 {M : rn_M} {Q : rn_Q} {xl1 : Int} {xl2 : Int} {xl3 : Int} (hM : rn_sh M)   (hr1 : (xl1 < rn_gi M 466 4) → (0 : Int) ≤ xl1 ∧ xl1 < (150 : Int)) (k1 : (xl1 < rn_gi M 466 4) → (¬ (xl2 ≤ rn_gi M 469 (xl1).toNat ∧ rn_gi M 469 (xl1).toNat ≤ xl3)) → Q (some (rn_I 0)) M) (k2 : (xl1 < rn_gi M 466 4) → (xl2 ≤ rn_gi M 469 (xl1).toNat ∧ rn_gi M 469 (xl1).toNat ≤ xl3) → Q (some (rn_I 1)) M) (k3 : (¬ (xl1 < rn_gi M 466 4)) → Q (some (rn_I 0)) M) : rn_WP 191 0 [rn_R 466, rn_I xl1, rn_I xl2, rn_I xl3] [] M Q := by
  refine (rn_step (e := (.iload_n 1, 1, 1, 0, 0, 0, 0, [])) rfl).mpr ?_
  refine (rn_step (e := (.aload_n 0, 2, 0, 0, 0, 0, 0, [])) rfl).mpr ?_
  refine (rn_step (e := (.getfield 167, 5, 10, 4, 906, 0, 11, [])) rfl).mpr (And.intro ((rn_ks466 hM)) (?_))
  refine (rn_step (e := (.if_icmp .ge 21, 8, 26, 0, 0, 0, 0, [])) rfl).mpr (And.intro (fun c1 => ?_) (fun c1 => ?_))
  ·
    refine (rn_step (e := (.aload_n 0, 9, 0, 0, 0, 0, 0, [])) rfl).mpr ?_
    refine (rn_step (e := (.getfield 16, 12, 10, 3, 905, 2, 11, [])) rfl).mpr (And.intro ((rn_ks466 hM)) (rn_cg (rn_g466_3 hM) ?_))
    refine (rn_step (e := (.iload_n 1, 13, 1, 0, 0, 0, 0, [])) rfl).mpr ?_
    refine (rn_step (e := (.iaload, 14, 0, 0, 0, 0, 0, [])) rfl).mpr (And.intro (Or.inl (rn_w469 hM).1) (And.intro ((And.intro ((hr1 c1).1) (rn_lt (rn_w469 hM).2 (hr1 c1).2))) (?_)))
    refine (rn_step (e := (.iload_n 2, 15, 2, 0, 0, 0, 0, [])) rfl).mpr ?_
    refine (rn_step (e := (.iload_n 3, 16, 3, 0, 0, 0, 0, [])) rfl).mpr ?_
    refine (rn_step (e := (.invokestatic 41, 19, 124, 3, 956, 0, 11, [0])) rfl).mpr (rc_Mo_in  ?_)
    refine (rn_step (e := (.ifCond .eq 7, 22, 26, 0, 0, 0, 0, [])) rfl).mpr (And.intro (fun q => ?_) (fun q => ?_))
    · have c2 := rn_b0 q
      refine (rn_step (e := (.iconst 0, 27, 0, 0, 0, 0, 0, [])) rfl).mpr ?_
      exact (rn_step (e := (.ireturn, 28, 0, 0, 0, 1, 0, [])) rfl).mpr (And.intro ((Or.inl rfl)) ((k1 c1 c2)))
    · have c2 := rn_b1 q
      refine (rn_step (e := (.iconst 1, 23, 0, 0, 0, 0, 0, [])) rfl).mpr ?_
      refine (rn_step (e := (.goto 4, 26, 27, 0, 0, 0, 0, [])) rfl).mpr ?_
      exact (rn_step (e := (.ireturn, 28, 0, 0, 0, 1, 0, [])) rfl).mpr (And.intro ((Or.inr rfl)) ((k2 c1 c2)))
  ·
    refine (rn_step (e := (.iconst 0, 27, 0, 0, 0, 0, 0, [])) rfl).mpr ?_
    exact (rn_step (e := (.ireturn, 28, 0, 0, 0, 1, 0, [])) rfl).mpr (And.intro ((Or.inl rfl)) ((k3 c1)))
theorem re_Ri_columnAt {M : rn_M} {Q : rn_Q} {v0 v1 : rn_V} (h : rn_WP 65 0 [v0, v1] [] M Q) : rn_ME 65 [v0, v1] M Q := h
set_option maxRecDepth 4000 in
theorem rb_Ri_columnAt_0 {M : rn_M} {Q : rn_Q} {al0 : Nat} {xl1 : Int} (hM : rn_sh M) (p_al0 : rn_isR al0)  (hr1 : (0 ≤ xl1 ∧ xl1 ≤ rn_gi M al0 4) → (0 : Int) ≤ xl1 ∧ xl1 < (61 : Int)) (k1 : (¬ (0 ≤ xl1 ∧ xl1 ≤ rn_gi M al0 4)) → Q (some (rn_I (-9))) M) (k2 : (0 ≤ xl1 ∧ xl1 ≤ rn_gi M al0 4) → Q (some (rn_I (rn_gi M (al0 + 3) (xl1).toNat))) M) : rn_WP 65 0 [rn_R al0, rn_I xl1] [] M Q := by
  refine (rn_step (e := (.aload_n 0, 1, 0, 0, 0, 0, 0, [])) rfl).mpr ?_
  refine (rn_step (e := (.iload_n 1, 2, 1, 0, 0, 0, 0, [])) rfl).mpr ?_
  refine (rn_step (e := (.invokevirtual 71, 5, 64, 2, 533, 0, 6, [0])) rfl).mpr (And.intro ((rn_kR hM p_al0)) ((rc_Ri_hasPlace hM p_al0  ?_)))
  refine (rn_step (e := (.ifCond .eq 12, 8, 17, 0, 0, 0, 0, [])) rfl).mpr (And.intro (fun q => ?_) (fun q => ?_))
  · have c1 := rn_b0 q
    refine (rn_step (e := (.bipush (-9), 19, 0, 0, 0, 0, 0, [])) rfl).mpr ?_
    exact (rn_step (e := (.ireturn, 20, 0, 0, 0, 0, 0, [])) rfl).mpr (And.intro (trivial) ((k1 c1)))
  · have c1 := rn_b1 q
    refine (rn_step (e := (.aload_n 0, 9, 0, 0, 0, 0, 0, [])) rfl).mpr ?_
    refine (rn_step (e := (.getfield 18, 12, 5, 7, 178, 2, 6, [])) rfl).mpr (And.intro ((rn_kR hM p_al0)) (rn_cg (rn_gR7 hM p_al0) ?_))
    refine (rn_step (e := (.iload_n 1, 13, 1, 0, 0, 0, 0, [])) rfl).mpr ?_
    refine (rn_step (e := (.iaload, 14, 0, 0, 0, 0, 0, [])) rfl).mpr (And.intro (Or.inl (rn_aR3 hM p_al0).1) (And.intro ((And.intro ((hr1 c1).1) (rn_lt (rn_aR3 hM p_al0).2 (hr1 c1).2))) (?_)))
    refine (rn_step (e := (.goto 5, 17, 19, 0, 0, 0, 0, [])) rfl).mpr ?_
    exact (rn_step (e := (.ireturn, 20, 0, 0, 0, 0, 0, [])) rfl).mpr (And.intro (trivial) ((k2 c1)))
theorem re_Ri_rowAt {M : rn_M} {Q : rn_Q} {v0 v1 : rn_V} (h : rn_WP 66 0 [v0, v1] [] M Q) : rn_ME 66 [v0, v1] M Q := h
set_option maxRecDepth 4000 in
theorem rb_Ri_rowAt_0 {M : rn_M} {Q : rn_Q} {al0 : Nat} {xl1 : Int} (hM : rn_sh M) (p_al0 : rn_isR al0)  (hr1 : (0 ≤ xl1 ∧ xl1 ≤ rn_gi M al0 4) → (0 : Int) ≤ xl1 ∧ xl1 < (61 : Int)) (k1 : (¬ (0 ≤ xl1 ∧ xl1 ≤ rn_gi M al0 4)) → Q (some (rn_I (-9))) M) (k2 : (0 ≤ xl1 ∧ xl1 ≤ rn_gi M al0 4) → Q (some (rn_I (rn_gi M (al0 + 4) (xl1).toNat))) M) : rn_WP 66 0 [rn_R al0, rn_I xl1] [] M Q := by
  refine (rn_step (e := (.aload_n 0, 1, 0, 0, 0, 0, 0, [])) rfl).mpr ?_
  refine (rn_step (e := (.iload_n 1, 2, 1, 0, 0, 0, 0, [])) rfl).mpr ?_
  refine (rn_step (e := (.invokevirtual 71, 5, 64, 2, 533, 0, 6, [0])) rfl).mpr (And.intro ((rn_kR hM p_al0)) ((rc_Ri_hasPlace hM p_al0  ?_)))
  refine (rn_step (e := (.ifCond .eq 12, 8, 17, 0, 0, 0, 0, [])) rfl).mpr (And.intro (fun q => ?_) (fun q => ?_))
  · have c1 := rn_b0 q
    refine (rn_step (e := (.bipush (-9), 19, 0, 0, 0, 0, 0, [])) rfl).mpr ?_
    exact (rn_step (e := (.ireturn, 20, 0, 0, 0, 0, 0, [])) rfl).mpr (And.intro (trivial) ((k1 c1)))
  · have c1 := rn_b1 q
    refine (rn_step (e := (.aload_n 0, 9, 0, 0, 0, 0, 0, [])) rfl).mpr ?_
    refine (rn_step (e := (.getfield 21, 12, 5, 8, 179, 2, 6, [])) rfl).mpr (And.intro ((rn_kR hM p_al0)) (rn_cg (rn_gR8 hM p_al0) ?_))
    refine (rn_step (e := (.iload_n 1, 13, 1, 0, 0, 0, 0, [])) rfl).mpr ?_
    refine (rn_step (e := (.iaload, 14, 0, 0, 0, 0, 0, [])) rfl).mpr (And.intro (Or.inl (rn_aR4 hM p_al0).1) (And.intro ((And.intro ((hr1 c1).1) (rn_lt (rn_aR4 hM p_al0).2 (hr1 c1).2))) (?_)))
    refine (rn_step (e := (.goto 5, 17, 19, 0, 0, 0, 0, [])) rfl).mpr ?_
    exact (rn_step (e := (.ireturn, 20, 0, 0, 0, 0, 0, [])) rfl).mpr (And.intro (trivial) ((k2 c1)))
theorem re_Ri_letterAt {M : rn_M} {Q : rn_Q} {v0 v1 : rn_V} (h : rn_WP 67 0 [v0, v1] [] M Q) : rn_ME 67 [v0, v1] M Q := h
set_option maxRecDepth 4000 in
theorem rb_Ri_letterAt_0 {M : rn_M} {Q : rn_Q} {al0 : Nat} {xl1 : Int} (hM : rn_sh M) (p_al0 : rn_isR al0)  (hr1 : (-2147483648 : Int) ≤ (rn_gi M al0 3) - 1 ∧ (rn_gi M al0 3) - 1 ≤ 2147483647) (hr2 : (0 ≤ xl1 ∧ xl1 ≤ (rn_gi M al0 3) - 1) → (0 : Int) ≤ xl1 ∧ xl1 < (12 : Int)) (k1 : (¬ (0 ≤ xl1 ∧ xl1 ≤ (rn_gi M al0 3) - 1)) → Q (some (rn_I (-9))) M) (k2 : (0 ≤ xl1 ∧ xl1 ≤ (rn_gi M al0 3) - 1) → Q (some (rn_I (rn_gi M (al0 + 1) (xl1).toNat))) M) : rn_WP 67 0 [rn_R al0, rn_I xl1] [] M Q := by
  refine (rn_step (e := (.iload_n 1, 1, 1, 0, 0, 0, 0, [])) rfl).mpr ?_
  refine (rn_step (e := (.iconst 0, 2, 0, 0, 0, 0, 0, [])) rfl).mpr ?_
  refine (rn_step (e := (.aload_n 0, 3, 0, 0, 0, 0, 0, [])) rfl).mpr ?_
  refine (rn_step (e := (.getfield 34, 6, 5, 3, 170, 0, 6, [])) rfl).mpr (And.intro ((rn_kR hM p_al0)) (?_))
  refine (rn_step (e := (.iconst 1, 7, 0, 0, 0, 0, 0, [])) rfl).mpr ?_
  refine (rn_step (e := (.isub, 8, 0, 0, 0, 0, 0, [])) rfl).mpr (rn_cw hr1.1 hr1.2 ?_)
  refine (rn_step (e := (.invokestatic 46, 11, 118, 3, 8, 0, 10, [1])) rfl).mpr (rc_RN_within  ?_)
  refine (rn_step (e := (.ifCond .eq 12, 14, 23, 0, 0, 0, 0, [])) rfl).mpr (And.intro (fun q => ?_) (fun q => ?_))
  · have c1 := rn_b0 q
    refine (rn_step (e := (.bipush (-9), 25, 0, 0, 0, 0, 0, [])) rfl).mpr ?_
    exact (rn_step (e := (.ireturn, 26, 0, 0, 0, 0, 0, [])) rfl).mpr (And.intro (trivial) ((k1 c1)))
  · have c1 := rn_b1 q
    refine (rn_step (e := (.aload_n 0, 15, 0, 0, 0, 0, 0, [])) rfl).mpr ?_
    refine (rn_step (e := (.getfield 9, 18, 5, 5, 176, 2, 6, [])) rfl).mpr (And.intro ((rn_kR hM p_al0)) (rn_cg (rn_gR5 hM p_al0) ?_))
    refine (rn_step (e := (.iload_n 1, 19, 1, 0, 0, 0, 0, [])) rfl).mpr ?_
    refine (rn_step (e := (.iaload, 20, 0, 0, 0, 0, 0, [])) rfl).mpr (And.intro (Or.inl (rn_aR1 hM p_al0).1) (And.intro ((And.intro ((hr2 c1).1) (rn_lt (rn_aR1 hM p_al0).2 (hr2 c1).2))) (?_)))
    refine (rn_step (e := (.goto 5, 23, 25, 0, 0, 0, 0, [])) rfl).mpr ?_
    exact (rn_step (e := (.ireturn, 26, 0, 0, 0, 0, 0, [])) rfl).mpr (And.intro (trivial) ((k2 c1)))
theorem re_Te_signAt {M : rn_M} {Q : rn_Q} {v0 v1 : rn_V} (h : rn_WP 85 0 [v0, v1] [] M Q) : rn_ME 85 [v0, v1] M Q := h
set_option maxRecDepth 4000 in
theorem rb_Te_signAt_0 {M : rn_M} {Q : rn_Q} {xl1 : Int} (hM : rn_sh M)   (hr1 : (-2147483648 : Int) ≤ (rn_gi M 10 0) - 1 ∧ (rn_gi M 10 0) - 1 ≤ 2147483647) (hr2 : (0 ≤ xl1 ∧ xl1 ≤ (rn_gi M 10 0) - 1) → (0 : Int) ≤ xl1 ∧ xl1 < (150 : Int)) (k1 : (¬ (0 ≤ xl1 ∧ xl1 ≤ (rn_gi M 10 0) - 1)) → Q (some (rn_I 0)) M) (k2 : (0 ≤ xl1 ∧ xl1 ≤ (rn_gi M 10 0) - 1) → Q (some (rn_I (rn_gi M 11 (xl1).toNat))) M) : rn_WP 85 0 [rn_R 10, rn_I xl1] [] M Q := by
  refine (rn_step (e := (.iload_n 1, 1, 1, 0, 0, 0, 0, [])) rfl).mpr ?_
  refine (rn_step (e := (.iconst 0, 2, 0, 0, 0, 0, 0, [])) rfl).mpr ?_
  refine (rn_step (e := (.aload_n 0, 3, 0, 0, 0, 0, 0, [])) rfl).mpr ?_
  refine (rn_step (e := (.getfield 15, 6, 7, 0, 106, 0, 8, [])) rfl).mpr (And.intro ((rn_ks10 hM)) (?_))
  refine (rn_step (e := (.iconst 1, 7, 0, 0, 0, 0, 0, [])) rfl).mpr ?_
  refine (rn_step (e := (.isub, 8, 0, 0, 0, 0, 0, [])) rfl).mpr (rn_cw hr1.1 hr1.2 ?_)
  refine (rn_step (e := (.invokestatic 19, 11, 118, 3, 5, 0, 10, [1])) rfl).mpr (rc_RN_within  ?_)
  refine (rn_step (e := (.ifCond .eq 12, 14, 23, 0, 0, 0, 0, [])) rfl).mpr (And.intro (fun q => ?_) (fun q => ?_))
  · have c1 := rn_b0 q
    refine (rn_step (e := (.iconst 0, 24, 0, 0, 0, 0, 0, [])) rfl).mpr ?_
    exact (rn_step (e := (.ireturn, 25, 0, 0, 0, 0, 0, [])) rfl).mpr (And.intro (trivial) ((k1 c1)))
  · have c1 := rn_b1 q
    refine (rn_step (e := (.aload_n 0, 15, 0, 0, 0, 0, 0, [])) rfl).mpr ?_
    refine (rn_step (e := (.getfield 9, 18, 7, 1, 109, 2, 8, [])) rfl).mpr (And.intro ((rn_ks10 hM)) (rn_cg (rn_g10_1 hM) ?_))
    refine (rn_step (e := (.iload_n 1, 19, 1, 0, 0, 0, 0, [])) rfl).mpr ?_
    refine (rn_step (e := (.iaload, 20, 0, 0, 0, 0, 0, [])) rfl).mpr (And.intro (Or.inl (rn_w11 hM).1) (And.intro ((And.intro ((hr2 c1).1) (rn_lt (rn_w11 hM).2 (hr2 c1).2))) (?_)))
    refine (rn_step (e := (.goto 4, 23, 24, 0, 0, 0, 0, [])) rfl).mpr ?_
    exact (rn_step (e := (.ireturn, 25, 0, 0, 0, 0, 0, [])) rfl).mpr (And.intro (trivial) ((k2 c1)))
theorem re_To_isNear {M : rn_M} {Q : rn_Q} {v0 v1 v2 v3 : rn_V} (h : rn_WP 89 0 [v0, v1, v2, v3] [] M Q) : rn_ME 89 [v0, v1, v2, v3] M Q := h
set_option maxRecDepth 4000 in
theorem rb_To_isNear_0 {M : rn_M} {Q : rn_Q} {al0 : Nat} {xl1 : Int} {xl2 : Int} {xl3 : Int} (hM : rn_sh M) (p_al0 : rn_isT al0)  (hr1 : (-2147483648 : Int) ≤ (rn_gi M al0 0) - xl3 ∧ (rn_gi M al0 0) - xl3 ≤ 2147483647 ∧ (-2147483648 : Int) ≤ rn_gi M al0 0 + (rn_gi M al0 2) ∧ rn_gi M al0 0 + (rn_gi M al0 2) ≤ 2147483647 ∧ (-2147483648 : Int) ≤ (rn_gi M al0 0 + (rn_gi M al0 2)) - 1 ∧ (rn_gi M al0 0 + (rn_gi M al0 2)) - 1 ≤ 2147483647 ∧ (-2147483648 : Int) ≤ ((rn_gi M al0 0 + (rn_gi M al0 2)) - 1) + xl3 ∧ ((rn_gi M al0 0 + (rn_gi M al0 2)) - 1) + xl3 ≤ 2147483647) (hr2 : (((rn_gi M al0 0) - xl3) ≤ xl1 ∧ xl1 ≤ ((rn_gi M al0 0 + (rn_gi M al0 2)) - 1) + xl3) → (-2147483648 : Int) ≤ (rn_gi M al0 1) - xl3 ∧ (rn_gi M al0 1) - xl3 ≤ 2147483647 ∧ (-2147483648 : Int) ≤ rn_gi M al0 1 + (rn_gi M al0 3) ∧ rn_gi M al0 1 + (rn_gi M al0 3) ≤ 2147483647 ∧ (-2147483648 : Int) ≤ (rn_gi M al0 1 + (rn_gi M al0 3)) - 1 ∧ (rn_gi M al0 1 + (rn_gi M al0 3)) - 1 ≤ 2147483647 ∧ (-2147483648 : Int) ≤ ((rn_gi M al0 1 + (rn_gi M al0 3)) - 1) + xl3 ∧ ((rn_gi M al0 1 + (rn_gi M al0 3)) - 1) + xl3 ≤ 2147483647) (k1 : (¬ (((rn_gi M al0 0) - xl3) ≤ xl1 ∧ xl1 ≤ ((rn_gi M al0 0 + (rn_gi M al0 2)) - 1) + xl3)) → Q (some (rn_I 0)) M) (k2 : (((rn_gi M al0 0) - xl3) ≤ xl1 ∧ xl1 ≤ ((rn_gi M al0 0 + (rn_gi M al0 2)) - 1) + xl3) → (¬ (((rn_gi M al0 1) - xl3) ≤ xl2 ∧ xl2 ≤ ((rn_gi M al0 1 + (rn_gi M al0 3)) - 1) + xl3)) → Q (some (rn_I 0)) M) (k3 : (((rn_gi M al0 0) - xl3) ≤ xl1 ∧ xl1 ≤ ((rn_gi M al0 0 + (rn_gi M al0 2)) - 1) + xl3) → (((rn_gi M al0 1) - xl3) ≤ xl2 ∧ xl2 ≤ ((rn_gi M al0 1 + (rn_gi M al0 3)) - 1) + xl3) → Q (some (rn_I 1)) M) : rn_WP 89 0 [rn_R al0, rn_I xl1, rn_I xl2, rn_I xl3] [] M Q := by
  refine (rn_step (e := (.iload_n 1, 1, 1, 0, 0, 0, 0, [])) rfl).mpr ?_
  refine (rn_step (e := (.aload_n 0, 2, 0, 0, 0, 0, 0, [])) rfl).mpr ?_
  refine (rn_step (e := (.getfield 7, 5, 8, 0, 204, 0, 9, [])) rfl).mpr (And.intro ((rn_kT hM p_al0)) (?_))
  refine (rn_step (e := (.iload_n 3, 6, 3, 0, 0, 0, 0, [])) rfl).mpr ?_
  refine (rn_step (e := (.isub, 7, 0, 0, 0, 0, 0, [])) rfl).mpr (rn_cw hr1.1 hr1.2.1 ?_)
  refine (rn_step (e := (.aload_n 0, 8, 0, 0, 0, 0, 0, [])) rfl).mpr ?_
  refine (rn_step (e := (.getfield 7, 11, 8, 0, 204, 0, 9, [])) rfl).mpr (And.intro ((rn_kT hM p_al0)) (?_))
  refine (rn_step (e := (.aload_n 0, 12, 0, 0, 0, 0, 0, [])) rfl).mpr ?_
  refine (rn_step (e := (.getfield 16, 15, 8, 2, 208, 0, 9, [])) rfl).mpr (And.intro ((rn_kT hM p_al0)) (?_))
  refine (rn_step (e := (.iadd, 16, 0, 0, 0, 0, 0, [])) rfl).mpr (rn_cw hr1.2.2.1 hr1.2.2.2.1 ?_)
  refine (rn_step (e := (.iconst 1, 17, 0, 0, 0, 0, 0, [])) rfl).mpr ?_
  refine (rn_step (e := (.isub, 18, 0, 0, 0, 0, 0, [])) rfl).mpr (rn_cw hr1.2.2.2.2.1 hr1.2.2.2.2.2.1 ?_)
  refine (rn_step (e := (.iload_n 3, 19, 3, 0, 0, 0, 0, [])) rfl).mpr ?_
  refine (rn_step (e := (.iadd, 20, 0, 0, 0, 0, 0, [])) rfl).mpr (rn_cw hr1.2.2.2.2.2.2.1 hr1.2.2.2.2.2.2.2 ?_)
  refine (rn_step (e := (.invokestatic 29, 23, 118, 3, 13, 0, 10, [1])) rfl).mpr (rc_RN_within  ?_)
  refine (rn_step (e := (.ifCond .eq 33, 26, 56, 0, 0, 0, 0, [])) rfl).mpr (And.intro (fun q => ?_) (fun q => ?_))
  · have c1 := rn_b0 q
    refine (rn_step (e := (.iconst 0, 57, 0, 0, 0, 0, 0, [])) rfl).mpr ?_
    exact (rn_step (e := (.ireturn, 58, 0, 0, 0, 1, 0, [])) rfl).mpr (And.intro ((Or.inl rfl)) ((k1 c1)))
  · have c1 := rn_b1 q
    refine (rn_step (e := (.iload_n 2, 27, 2, 0, 0, 0, 0, [])) rfl).mpr ?_
    refine (rn_step (e := (.aload_n 0, 28, 0, 0, 0, 0, 0, [])) rfl).mpr ?_
    refine (rn_step (e := (.getfield 13, 31, 8, 1, 206, 0, 9, [])) rfl).mpr (And.intro ((rn_kT hM p_al0)) (?_))
    refine (rn_step (e := (.iload_n 3, 32, 3, 0, 0, 0, 0, [])) rfl).mpr ?_
    refine (rn_step (e := (.isub, 33, 0, 0, 0, 0, 0, [])) rfl).mpr (rn_cw (hr2 c1).1 (hr2 c1).2.1 ?_)
    refine (rn_step (e := (.aload_n 0, 34, 0, 0, 0, 0, 0, [])) rfl).mpr ?_
    refine (rn_step (e := (.getfield 13, 37, 8, 1, 206, 0, 9, [])) rfl).mpr (And.intro ((rn_kT hM p_al0)) (?_))
    refine (rn_step (e := (.aload_n 0, 38, 0, 0, 0, 0, 0, [])) rfl).mpr ?_
    refine (rn_step (e := (.getfield 19, 41, 8, 3, 210, 0, 9, [])) rfl).mpr (And.intro ((rn_kT hM p_al0)) (?_))
    refine (rn_step (e := (.iadd, 42, 0, 0, 0, 0, 0, [])) rfl).mpr (rn_cw (hr2 c1).2.2.1 (hr2 c1).2.2.2.1 ?_)
    refine (rn_step (e := (.iconst 1, 43, 0, 0, 0, 0, 0, [])) rfl).mpr ?_
    refine (rn_step (e := (.isub, 44, 0, 0, 0, 0, 0, [])) rfl).mpr (rn_cw (hr2 c1).2.2.2.2.1 (hr2 c1).2.2.2.2.2.1 ?_)
    refine (rn_step (e := (.iload_n 3, 45, 3, 0, 0, 0, 0, [])) rfl).mpr ?_
    refine (rn_step (e := (.iadd, 46, 0, 0, 0, 0, 0, [])) rfl).mpr (rn_cw (hr2 c1).2.2.2.2.2.2.1 (hr2 c1).2.2.2.2.2.2.2 ?_)
    refine (rn_step (e := (.invokestatic 29, 49, 118, 3, 13, 0, 10, [1])) rfl).mpr (rc_RN_within  ?_)
    refine (rn_step (e := (.ifCond .eq 7, 52, 56, 0, 0, 0, 0, [])) rfl).mpr (And.intro (fun q => ?_) (fun q => ?_))
    · have c2 := rn_b0 q
      refine (rn_step (e := (.iconst 0, 57, 0, 0, 0, 0, 0, [])) rfl).mpr ?_
      exact (rn_step (e := (.ireturn, 58, 0, 0, 0, 1, 0, [])) rfl).mpr (And.intro ((Or.inl rfl)) ((k2 c1 c2)))
    · have c2 := rn_b1 q
      refine (rn_step (e := (.iconst 1, 53, 0, 0, 0, 0, 0, [])) rfl).mpr ?_
      refine (rn_step (e := (.goto 4, 56, 57, 0, 0, 0, 0, [])) rfl).mpr ?_
      exact (rn_step (e := (.ireturn, 58, 0, 0, 0, 1, 0, [])) rfl).mpr (And.intro ((Or.inr rfl)) ((k3 c1 c2)))
theorem re_Ri_isNear {M : rn_M} {Q : rn_Q} {v0 v1 v2 v3 v4 : rn_V} (h : rn_WP 74 0 [v0, v1, v2, v3, v4] [] M Q) : rn_ME 74 [v0, v1, v2, v3, v4] M Q := h
set_option maxRecDepth 4000 in
theorem rb_Ri_isNear_0 {M : rn_M} {Q : rn_Q} {al0 : Nat} {xl1 : Int} {xl2 : Int} {xl3 : Int} {xl4 : Int} (hM : rn_sh M) (p_al0 : rn_isR al0)  (hr1 : (¬ (xl1 < 0)) → (¬ (rn_gi M al0 4 < xl1)) → (0 : Int) ≤ xl1 ∧ xl1 < (61 : Int) ∧ (-2147483648 : Int) ≤ (rn_gi M (al0 + 3) (xl1).toNat) - xl2 ∧ (rn_gi M (al0 + 3) (xl1).toNat) - xl2 ≤ 2147483647 ∧ (-2147483648 : Int) ≤ max ((rn_gi M (al0 + 3) (xl1).toNat) - xl2) (-((rn_gi M (al0 + 3) (xl1).toNat) - xl2)) ∧ max ((rn_gi M (al0 + 3) (xl1).toNat) - xl2) (-((rn_gi M (al0 + 3) (xl1).toNat) - xl2)) ≤ 2147483647) (hr2 : (¬ (xl1 < 0)) → (¬ (rn_gi M al0 4 < xl1)) → (¬ (xl4 < max ((rn_gi M (al0 + 3) (xl1).toNat) - xl2) (-((rn_gi M (al0 + 3) (xl1).toNat) - xl2)))) → (0 : Int) ≤ xl1 ∧ xl1 < (61 : Int) ∧ (-2147483648 : Int) ≤ (rn_gi M (al0 + 4) (xl1).toNat) - xl3 ∧ (rn_gi M (al0 + 4) (xl1).toNat) - xl3 ≤ 2147483647 ∧ (-2147483648 : Int) ≤ max ((rn_gi M (al0 + 4) (xl1).toNat) - xl3) (-((rn_gi M (al0 + 4) (xl1).toNat) - xl3)) ∧ max ((rn_gi M (al0 + 4) (xl1).toNat) - xl3) (-((rn_gi M (al0 + 4) (xl1).toNat) - xl3)) ≤ 2147483647) (k1 : (xl1 < 0) → Q (some (rn_I 0)) M) (k2 : (¬ (xl1 < 0)) → (rn_gi M al0 4 < xl1) → Q (some (rn_I 0)) M) (k3 : (¬ (xl1 < 0)) → (¬ (rn_gi M al0 4 < xl1)) → (xl4 < max ((rn_gi M (al0 + 3) (xl1).toNat) - xl2) (-((rn_gi M (al0 + 3) (xl1).toNat) - xl2))) → Q (some (rn_I 0)) M) (k4 : (¬ (xl1 < 0)) → (¬ (rn_gi M al0 4 < xl1)) → (¬ (xl4 < max ((rn_gi M (al0 + 3) (xl1).toNat) - xl2) (-((rn_gi M (al0 + 3) (xl1).toNat) - xl2)))) → (xl4 < max ((rn_gi M (al0 + 4) (xl1).toNat) - xl3) (-((rn_gi M (al0 + 4) (xl1).toNat) - xl3))) → Q (some (rn_I 0)) M) (k5 : (¬ (xl1 < 0)) → (¬ (rn_gi M al0 4 < xl1)) → (¬ (xl4 < max ((rn_gi M (al0 + 3) (xl1).toNat) - xl2) (-((rn_gi M (al0 + 3) (xl1).toNat) - xl2)))) → (¬ (xl4 < max ((rn_gi M (al0 + 4) (xl1).toNat) - xl3) (-((rn_gi M (al0 + 4) (xl1).toNat) - xl3)))) → Q (some (rn_I 1)) M) : rn_WP 74 0 [rn_R al0, rn_I xl1, rn_I xl2, rn_I xl3, rn_I xl4] [] M Q := by
  refine (rn_step (e := (.iload_n 1, 1, 1, 0, 0, 0, 0, [])) rfl).mpr ?_
  refine (rn_step (e := (.ifCond .lt 47, 4, 48, 0, 0, 0, 0, [])) rfl).mpr (And.intro (fun c1 => ?_) (fun c1 => ?_))
  ·
    refine (rn_step (e := (.iconst 0, 49, 0, 0, 0, 0, 0, [])) rfl).mpr ?_
    exact (rn_step (e := (.ireturn, 50, 0, 0, 0, 1, 0, [])) rfl).mpr (And.intro ((Or.inl rfl)) ((k1 c1)))
  ·
    refine (rn_step (e := (.iload_n 1, 5, 1, 0, 0, 0, 0, [])) rfl).mpr ?_
    refine (rn_step (e := (.aload_n 0, 6, 0, 0, 0, 0, 0, [])) rfl).mpr ?_
    refine (rn_step (e := (.getfield 37, 9, 5, 4, 173, 0, 6, [])) rfl).mpr (And.intro ((rn_kR hM p_al0)) (?_))
    refine (rn_step (e := (.if_icmp .gt 39, 12, 48, 0, 0, 0, 0, [])) rfl).mpr (And.intro (fun c2 => ?_) (fun c2 => ?_))
    ·
      refine (rn_step (e := (.iconst 0, 49, 0, 0, 0, 0, 0, [])) rfl).mpr ?_
      exact (rn_step (e := (.ireturn, 50, 0, 0, 0, 1, 0, [])) rfl).mpr (And.intro ((Or.inl rfl)) ((k2 c1 c2)))
    ·
      refine (rn_step (e := (.aload_n 0, 13, 0, 0, 0, 0, 0, [])) rfl).mpr ?_
      refine (rn_step (e := (.getfield 18, 16, 5, 7, 178, 2, 6, [])) rfl).mpr (And.intro ((rn_kR hM p_al0)) (rn_cg (rn_gR7 hM p_al0) ?_))
      refine (rn_step (e := (.iload_n 1, 17, 1, 0, 0, 0, 0, [])) rfl).mpr ?_
      refine (rn_step (e := (.iaload, 18, 0, 0, 0, 0, 0, [])) rfl).mpr (And.intro (Or.inl (rn_aR3 hM p_al0).1) (And.intro ((And.intro ((hr1 c1 c2).1) (rn_lt (rn_aR3 hM p_al0).2 (hr1 c1 c2).2.1))) (?_)))
      refine (rn_step (e := (.iload_n 2, 19, 2, 0, 0, 0, 0, [])) rfl).mpr ?_
      refine (rn_step (e := (.isub, 20, 0, 0, 0, 0, 0, [])) rfl).mpr (rn_cw (hr1 c1 c2).2.2.1 (hr1 c1 c2).2.2.2.1 ?_)
      refine (rn_step (e := (.invokestatic 74, 23, 204, 1, 660, 7, 0, [0])) rfl).mpr (rn_cw (hr1 c1 c2).2.2.2.2.1 (hr1 c1 c2).2.2.2.2.2 ?_)
      refine (rn_step (e := (.iload 4, 25, 4, 0, 0, 0, 0, [])) rfl).mpr ?_
      refine (rn_step (e := (.if_icmp .gt 23, 28, 48, 0, 0, 0, 0, [])) rfl).mpr (And.intro (fun c3 => ?_) (fun c3 => ?_))
      ·
        refine (rn_step (e := (.iconst 0, 49, 0, 0, 0, 0, 0, [])) rfl).mpr ?_
        exact (rn_step (e := (.ireturn, 50, 0, 0, 0, 1, 0, [])) rfl).mpr (And.intro ((Or.inl rfl)) ((k3 c1 c2 c3)))
      ·
        refine (rn_step (e := (.aload_n 0, 29, 0, 0, 0, 0, 0, [])) rfl).mpr ?_
        refine (rn_step (e := (.getfield 21, 32, 5, 8, 179, 2, 6, [])) rfl).mpr (And.intro ((rn_kR hM p_al0)) (rn_cg (rn_gR8 hM p_al0) ?_))
        refine (rn_step (e := (.iload_n 1, 33, 1, 0, 0, 0, 0, [])) rfl).mpr ?_
        refine (rn_step (e := (.iaload, 34, 0, 0, 0, 0, 0, [])) rfl).mpr (And.intro (Or.inl (rn_aR4 hM p_al0).1) (And.intro ((And.intro ((hr2 c1 c2 c3).1) (rn_lt (rn_aR4 hM p_al0).2 (hr2 c1 c2 c3).2.1))) (?_)))
        refine (rn_step (e := (.iload_n 3, 35, 3, 0, 0, 0, 0, [])) rfl).mpr ?_
        refine (rn_step (e := (.isub, 36, 0, 0, 0, 0, 0, [])) rfl).mpr (rn_cw (hr2 c1 c2 c3).2.2.1 (hr2 c1 c2 c3).2.2.2.1 ?_)
        refine (rn_step (e := (.invokestatic 74, 39, 204, 1, 660, 7, 0, [0])) rfl).mpr (rn_cw (hr2 c1 c2 c3).2.2.2.2.1 (hr2 c1 c2 c3).2.2.2.2.2 ?_)
        refine (rn_step (e := (.iload 4, 41, 4, 0, 0, 0, 0, [])) rfl).mpr ?_
        refine (rn_step (e := (.if_icmp .gt 7, 44, 48, 0, 0, 0, 0, [])) rfl).mpr (And.intro (fun c4 => ?_) (fun c4 => ?_))
        ·
          refine (rn_step (e := (.iconst 0, 49, 0, 0, 0, 0, 0, [])) rfl).mpr ?_
          exact (rn_step (e := (.ireturn, 50, 0, 0, 0, 1, 0, [])) rfl).mpr (And.intro ((Or.inl rfl)) ((k4 c1 c2 c3 c4)))
        ·
          refine (rn_step (e := (.iconst 1, 45, 0, 0, 0, 0, 0, [])) rfl).mpr ?_
          refine (rn_step (e := (.goto 4, 48, 49, 0, 0, 0, 0, [])) rfl).mpr ?_
          exact (rn_step (e := (.ireturn, 50, 0, 0, 0, 1, 0, [])) rfl).mpr (And.intro ((Or.inr rfl)) ((k5 c1 c2 c3 c4)))
end
section
section C1
variable {M : rn_M} {Q : rn_Q}
theorem rc_RN_isRank {x : Int} (k : Q (some (rn_I (rn_b (1 ≤ x ∧ x ≤ 9)))) M) : rn_ME 120 [rn_I x] M Q := re_RN_isRank (rb_RN_isRank_0 k)
theorem rc_RN_isHalo {x : Int} (k : Q (some (rn_I (rn_b (0 ≤ x ∧ x ≤ 2)))) M) : rn_ME 121 [rn_I x] M Q := re_RN_isHalo (rb_RN_isHalo_0 k)
theorem rc_RN_isPlaceNumber {x : Int} (k : Q (some (rn_I (rn_b (0 ≤ x ∧ x ≤ 60)))) M) : rn_ME 122 [rn_I x] M Q := re_RN_isPlaceNumber (rb_RN_isPlaceNumber_0 k)
theorem rc_Mo_isRank {x : Int} (k : Q (some (rn_I (rn_b (1 ≤ x ∧ x ≤ 9)))) M) : rn_ME 134 [rn_I x] M Q := re_Mo_isRank (rb_Mo_isRank_0 k)
theorem rc_Mo_isHalo {x : Int} (k : Q (some (rn_I (rn_b (0 ≤ x ∧ x ≤ 2)))) M) : rn_ME 135 [rn_I x] M Q := re_Mo_isHalo (rb_Mo_isHalo_0 k)
theorem rc_Mo_isStart {x : Int} (k : Q (some (rn_I (rn_b (0 ≤ x ∧ x ≤ 60)))) M) : rn_ME 163 [rn_I x] M Q := re_Mo_isStart (rb_Mo_isStart_0 k)
theorem rc_Mo_isOnMap {x y : Int} (k : Q (some (rn_I (rn_b ((0 ≤ x ∧ x < 60) ∧ 0 ≤ y ∧ y < 40)))) M) : rn_ME 132 [rn_I x, rn_I y] M Q := by
  refine re_Mo_isOnMap (rb_Mo_isOnMap_0 ?_ ?_ ?_) <;> intros <;> first | exact rn_kf (by omega) k | exact rn_kt (by omega) k
theorem rc_Mo_stepX {d : Int} (k : Q (some (rn_I (rn_sx d))) M) : rn_ME 130 [rn_I d] M Q := by
  refine re_Mo_stepX (rb_Mo_stepX_0 ?_ ?_ ?_ ?_) <;> intros <;> (refine rn_kv ?_ k; unfold rn_sx; (repeat' split) <;> omega)
theorem rc_Mo_stepY {d : Int} (k : Q (some (rn_I (rn_sy d))) M) : rn_ME 131 [rn_I d] M Q := by
  refine re_Mo_stepY (rb_Mo_stepY_0 ?_ ?_ ?_) <;> intros <;> (refine rn_kv ?_ k; unfold rn_sy; (repeat' split) <;> omega)
theorem rc_Mo_of (hM : rn_sh M) {r w : Int} (h1 : 0 ≤ r ∧ r ≤ 5) (h2 : 0 ≤ w ∧ w ≤ 77) (k : Q (some (rn_I (rn_o (rn_gi M 467) r w))) M) : rn_ME 129 [rn_R 466, rn_I r, rn_I w] M Q := by
  refine re_Mo_of (rb_Mo_of_0 hM ?_ ?_)
  · omega
  · exact k
theorem rc_Mo_isRiver (hM : rn_sh M) {x : Int} (h : 0 ≤ rn_gi M 467 0 ∧ rn_gi M 467 0 ≤ 100) (k : Q (some (rn_I (rn_b (0 ≤ x ∧ x ≤ rn_gi M 467 0 - 1)))) M) : rn_ME 127 [rn_R 466, rn_I x] M Q := re_Mo_isRiver (rb_Mo_isRiver_0 hM (by omega) k)
theorem rc_Mo_isTownNumber (hM : rn_sh M) {x : Int} (h : 0 ≤ rn_gi M 467 1 ∧ rn_gi M 467 1 ≤ 100) (k : Q (some (rn_I (rn_b (0 ≤ x ∧ x ≤ rn_gi M 467 1 - 1)))) M) : rn_ME 146 [rn_R 466, rn_I x] M Q := re_Mo_isTownNumber (rb_Mo_isTownNumber_0 hM (by omega) k)
theorem rc_Mo_isLabel (hM : rn_sh M) {x : Int} (h : 0 ≤ rn_gi M 467 2 ∧ rn_gi M 467 2 ≤ 100) (k : Q (some (rn_I (rn_b (0 ≤ x ∧ x ≤ rn_gi M 467 2 - 1)))) M) : rn_ME 161 [rn_R 466, rn_I x] M Q := re_Mo_isLabel (rb_Mo_isLabel_0 hM (by omega) k)
theorem rc_Mo_isSort (hM : rn_sh M) {i lo hi : Int} (h1 : 0 ≤ i) (h2 : rn_gi M 466 4 ≤ 150) (k : Q (some (rn_I (rn_b (i < rn_gi M 466 4 ∧ lo ≤ rn_gi M 469 i.toNat ∧ rn_gi M 469 i.toNat ≤ hi)))) M) : rn_ME 191 [rn_R 466, rn_I i, rn_I lo, rn_I hi] M Q := by
  refine re_Mo_isSort (rb_Mo_isSort_0 hM ?_ ?_ ?_ ?_) <;> intros <;> first | omega | exact rn_kf (by omega) k | exact rn_kt (by omega) k
theorem rc_Ri_columnAt (hM : rn_sh M) {a : Nat} (p : rn_isR a) {x : Int} (h1 : 0 ≤ x ∧ x ≤ rn_gi M a 4) (h2 : rn_gi M a 4 ≤ 60) (k : Q (some (rn_I (rn_gi M (a + 3) x.toNat))) M) : rn_ME 65 [rn_R a, rn_I x] M Q := by
  refine re_Ri_columnAt (rb_Ri_columnAt_0 hM p ?_ ?_ ?_) <;> intros <;> first | omega | exact k | exact absurd h1 (by assumption)
theorem rc_Ri_rowAt (hM : rn_sh M) {a : Nat} (p : rn_isR a) {x : Int} (h1 : 0 ≤ x ∧ x ≤ rn_gi M a 4) (h2 : rn_gi M a 4 ≤ 60) (k : Q (some (rn_I (rn_gi M (a + 4) x.toNat))) M) : rn_ME 66 [rn_R a, rn_I x] M Q := by
  refine re_Ri_rowAt (rb_Ri_rowAt_0 hM p ?_ ?_ ?_) <;> intros <;> first | omega | exact k | exact absurd h1 (by assumption)
theorem rc_Ri_letterAt (hM : rn_sh M) {a : Nat} (p : rn_isR a) {x : Int} (h1 : 0 ≤ rn_gi M a 3 ∧ rn_gi M a 3 ≤ 12) (k : Q (some (rn_I (rn_lt2 M a x))) M) : rn_ME 67 [rn_R a, rn_I x] M Q := by
  refine re_Ri_letterAt (rb_Ri_letterAt_0 hM p ?_ ?_ ?_ ?_)
  · omega
  · intros; omega
  · intro h; refine rn_kv ?_ k; unfold rn_lt2; rw [if_neg h]
  · intro h; refine rn_kv ?_ k; unfold rn_lt2; rw [if_pos h]
theorem rc_Te_signAt (hM : rn_sh M) {x : Int} (h1 : 0 ≤ rn_gi M 10 0 ∧ rn_gi M 10 0 ≤ 150) (k : Q (some (rn_I (rn_sg M x))) M) : rn_ME 85 [rn_R 10, rn_I x] M Q := by
  refine re_Te_signAt (rb_Te_signAt_0 hM ?_ ?_ ?_ ?_)
  · omega
  · intros; omega
  · intro h; refine rn_kv ?_ k; unfold rn_sg; rw [if_neg h]
  · intro h; refine rn_kv ?_ k; unfold rn_sg; rw [if_pos h]
theorem rc_To_isNear (hM : rn_sh M) {a : Nat} (p : rn_isT a) {x y h : Int} (h1 : rn_tk M a) (h2 : -1000 ≤ h ∧ h ≤ 1000) (k : Q (some (rn_I (rn_b (rn_tn2 M a x y h)))) M) : rn_ME 89 [rn_R a, rn_I x, rn_I y, rn_I h] M Q := by
  unfold rn_tk at h1
  unfold rn_tn2 at k
  refine re_To_isNear (rb_To_isNear_0 hM p ?_ ?_ ?_ ?_ ?_) <;> intros <;> first | omega | exact rn_kf (by omega) k | exact rn_kt (by omega) k
theorem rc_Ri_isNear (hM : rn_sh M) {a : Nat} (p : rn_isR a) {q x y h : Int} (h1 : rn_gi M a 4 ≤ 60) (h2 : rn_rk2 M a) (h3 : (-1000 ≤ x ∧ x ≤ 1000) ∧ -1000 ≤ y ∧ y ≤ 1000) (k : Q (some (rn_I (rn_b (rn_rn2 M a q x y h)))) M) : rn_ME 74 [rn_R a, rn_I q, rn_I x, rn_I y, rn_I h] M Q := by
  have h4 := h2 q.toNat
  unfold rn_rn2 at k
  refine re_Ri_isNear (rb_Ri_isNear_0 hM p ?_ ?_ ?_ ?_ ?_ ?_ ?_) <;> intros <;> first | omega | exact rn_kf (by omega) k | exact rn_kt (by omega) k
end C1
end
section
theorem re_Mo_isTown {M : rn_M} {Q : rn_Q} {v0 v1 v2 v3 : rn_V} (h : rn_WP 138 0 [v0, v1, v2, v3] [] M Q) : rn_ME 138 [v0, v1, v2, v3] M Q := h
set_option maxRecDepth 4000 in
theorem rb_Mo_isTown_0 {M : rn_M} {Q : rn_Q} {xl0 : Int} {xl1 : Int} {xl2 : Int} {xl3 : Int}   (hr1 : ((0 ≤ xl0 ∧ xl0 < 60) ∧ 0 ≤ xl1 ∧ xl1 < 40) → (1 ≤ xl2 ∧ xl2 ≤ 12) → (1 ≤ xl3 ∧ xl3 ≤ 3) → (-2147483648 : Int) ≤ xl0 + xl2 ∧ xl0 + xl2 ≤ 2147483647) (hr2 : ((0 ≤ xl0 ∧ xl0 < 60) ∧ 0 ≤ xl1 ∧ xl1 < 40) → (1 ≤ xl2 ∧ xl2 ≤ 12) → (1 ≤ xl3 ∧ xl3 ≤ 3) → (¬ (60 < xl0 + xl2)) → (-2147483648 : Int) ≤ xl1 + xl3 ∧ xl1 + xl3 ≤ 2147483647) (k1 : (¬ ((0 ≤ xl0 ∧ xl0 < 60) ∧ 0 ≤ xl1 ∧ xl1 < 40)) → Q (some (rn_I 0)) M) (k2 : ((0 ≤ xl0 ∧ xl0 < 60) ∧ 0 ≤ xl1 ∧ xl1 < 40) → (¬ (1 ≤ xl2 ∧ xl2 ≤ 12)) → Q (some (rn_I 0)) M) (k3 : ((0 ≤ xl0 ∧ xl0 < 60) ∧ 0 ≤ xl1 ∧ xl1 < 40) → (1 ≤ xl2 ∧ xl2 ≤ 12) → (¬ (1 ≤ xl3 ∧ xl3 ≤ 3)) → Q (some (rn_I 0)) M) (k4 : ((0 ≤ xl0 ∧ xl0 < 60) ∧ 0 ≤ xl1 ∧ xl1 < 40) → (1 ≤ xl2 ∧ xl2 ≤ 12) → (1 ≤ xl3 ∧ xl3 ≤ 3) → (60 < xl0 + xl2) → Q (some (rn_I 0)) M) (k5 : ((0 ≤ xl0 ∧ xl0 < 60) ∧ 0 ≤ xl1 ∧ xl1 < 40) → (1 ≤ xl2 ∧ xl2 ≤ 12) → (1 ≤ xl3 ∧ xl3 ≤ 3) → (¬ (60 < xl0 + xl2)) → (40 < xl1 + xl3) → Q (some (rn_I 0)) M) (k6 : ((0 ≤ xl0 ∧ xl0 < 60) ∧ 0 ≤ xl1 ∧ xl1 < 40) → (1 ≤ xl2 ∧ xl2 ≤ 12) → (1 ≤ xl3 ∧ xl3 ≤ 3) → (¬ (60 < xl0 + xl2)) → (¬ (40 < xl1 + xl3)) → Q (some (rn_I 1)) M) : rn_WP 138 0 [rn_I xl0, rn_I xl1, rn_I xl2, rn_I xl3] [] M Q := by
  refine (rn_step (e := (.iload_n 0, 1, 0, 0, 0, 0, 0, [])) rfl).mpr ?_
  refine (rn_step (e := (.iload_n 1, 2, 1, 0, 0, 0, 0, [])) rfl).mpr ?_
  refine (rn_step (e := (.invokestatic 59, 5, 132, 2, 959, 0, 11, [0])) rfl).mpr (rc_Mo_isOnMap  ?_)
  refine (rn_step (e := (.ifCond .eq 42, 8, 47, 0, 0, 0, 0, [])) rfl).mpr (And.intro (fun q => ?_) (fun q => ?_))
  · have c1 := rn_b0 q
    refine (rn_step (e := (.iconst 0, 48, 0, 0, 0, 0, 0, [])) rfl).mpr ?_
    exact (rn_step (e := (.ireturn, 49, 0, 0, 0, 1, 0, [])) rfl).mpr (And.intro ((Or.inl rfl)) ((k1 c1)))
  · have c1 := rn_b1 q
    refine (rn_step (e := (.iload_n 2, 9, 2, 0, 0, 0, 0, [])) rfl).mpr ?_
    refine (rn_step (e := (.iconst 1, 10, 0, 0, 0, 0, 0, [])) rfl).mpr ?_
    refine (rn_step (e := (.bipush 12, 12, 0, 0, 0, 0, 0, [])) rfl).mpr ?_
    refine (rn_step (e := (.invokestatic 41, 15, 124, 3, 956, 0, 11, [0])) rfl).mpr (rc_Mo_in  ?_)
    refine (rn_step (e := (.ifCond .eq 32, 18, 47, 0, 0, 0, 0, [])) rfl).mpr (And.intro (fun q => ?_) (fun q => ?_))
    · have c2 := rn_b0 q
      refine (rn_step (e := (.iconst 0, 48, 0, 0, 0, 0, 0, [])) rfl).mpr ?_
      exact (rn_step (e := (.ireturn, 49, 0, 0, 0, 1, 0, [])) rfl).mpr (And.intro ((Or.inl rfl)) ((k2 c1 c2)))
    · have c2 := rn_b1 q
      refine (rn_step (e := (.iload_n 3, 19, 3, 0, 0, 0, 0, [])) rfl).mpr ?_
      refine (rn_step (e := (.iconst 1, 20, 0, 0, 0, 0, 0, [])) rfl).mpr ?_
      refine (rn_step (e := (.iconst 3, 21, 0, 0, 0, 0, 0, [])) rfl).mpr ?_
      refine (rn_step (e := (.invokestatic 41, 24, 124, 3, 956, 0, 11, [0])) rfl).mpr (rc_Mo_in  ?_)
      refine (rn_step (e := (.ifCond .eq 23, 27, 47, 0, 0, 0, 0, [])) rfl).mpr (And.intro (fun q => ?_) (fun q => ?_))
      · have c3 := rn_b0 q
        refine (rn_step (e := (.iconst 0, 48, 0, 0, 0, 0, 0, [])) rfl).mpr ?_
        exact (rn_step (e := (.ireturn, 49, 0, 0, 0, 1, 0, [])) rfl).mpr (And.intro ((Or.inl rfl)) ((k3 c1 c2 c3)))
      · have c3 := rn_b1 q
        refine (rn_step (e := (.iload_n 0, 28, 0, 0, 0, 0, 0, [])) rfl).mpr ?_
        refine (rn_step (e := (.iload_n 2, 29, 2, 0, 0, 0, 0, [])) rfl).mpr ?_
        refine (rn_step (e := (.iadd, 30, 0, 0, 0, 0, 0, [])) rfl).mpr (rn_cw (hr1 c1 c2 c3).1 (hr1 c1 c2 c3).2 ?_)
        refine (rn_step (e := (.bipush 60, 32, 0, 0, 0, 0, 0, [])) rfl).mpr ?_
        refine (rn_step (e := (.if_icmp .gt 15, 35, 47, 0, 0, 0, 0, [])) rfl).mpr (And.intro (fun c4 => ?_) (fun c4 => ?_))
        ·
          refine (rn_step (e := (.iconst 0, 48, 0, 0, 0, 0, 0, [])) rfl).mpr ?_
          exact (rn_step (e := (.ireturn, 49, 0, 0, 0, 1, 0, [])) rfl).mpr (And.intro ((Or.inl rfl)) ((k4 c1 c2 c3 c4)))
        ·
          refine (rn_step (e := (.iload_n 1, 36, 1, 0, 0, 0, 0, [])) rfl).mpr ?_
          refine (rn_step (e := (.iload_n 3, 37, 3, 0, 0, 0, 0, [])) rfl).mpr ?_
          refine (rn_step (e := (.iadd, 38, 0, 0, 0, 0, 0, [])) rfl).mpr (rn_cw (hr2 c1 c2 c3 c4).1 (hr2 c1 c2 c3 c4).2 ?_)
          refine (rn_step (e := (.bipush 40, 40, 0, 0, 0, 0, 0, [])) rfl).mpr ?_
          refine (rn_step (e := (.if_icmp .gt 7, 43, 47, 0, 0, 0, 0, [])) rfl).mpr (And.intro (fun c5 => ?_) (fun c5 => ?_))
          ·
            refine (rn_step (e := (.iconst 0, 48, 0, 0, 0, 0, 0, [])) rfl).mpr ?_
            exact (rn_step (e := (.ireturn, 49, 0, 0, 0, 1, 0, [])) rfl).mpr (And.intro ((Or.inl rfl)) ((k5 c1 c2 c3 c4 c5)))
          ·
            refine (rn_step (e := (.iconst 1, 44, 0, 0, 0, 0, 0, [])) rfl).mpr ?_
            refine (rn_step (e := (.goto 4, 47, 48, 0, 0, 0, 0, [])) rfl).mpr ?_
            exact (rn_step (e := (.ireturn, 49, 0, 0, 0, 1, 0, [])) rfl).mpr (And.intro ((Or.inr rfl)) ((k6 c1 c2 c3 c4 c5)))
theorem re_Mo_hasPlaces {M : rn_M} {Q : rn_Q} {v0 v1 v2 v3 : rn_V} (h : rn_WP 151 0 [v0, v1, v2, v3] [] M Q) : rn_ME 151 [v0, v1, v2, v3] M Q := h
set_option maxRecDepth 4000 in
theorem rb_Mo_hasPlaces_0 {M : rn_M} {Q : rn_Q} {xl1 : Int} {xl2 : Int} {xl3 : Int} (hM : rn_sh M)   (hr1 : (-2147483648 : Int) ≤ xl2 + xl3 ∧ xl2 + xl3 ≤ 2147483647 ∧ ((0 : Int) ≤ xl1 ∧ (xl1 : Int) ≤ 5) ∧ ((0 : Int) ≤ 5 ∧ (5 : Int) ≤ 77) ∧ (-2147483648 : Int) ≤ rn_o (rn_gi M 467) xl1 5 + 1 ∧ rn_o (rn_gi M 467) xl1 5 + 1 ≤ 2147483647) (k1 : (rn_o (rn_gi M 467) xl1 5 + 1 < xl2 + xl3) → Q (some (rn_I 0)) M) (k2 : (¬ (rn_o (rn_gi M 467) xl1 5 + 1 < xl2 + xl3)) → Q (some (rn_I 1)) M) : rn_WP 151 0 [rn_R 466, rn_I xl1, rn_I xl2, rn_I xl3] [] M Q := by
  refine (rn_step (e := (.iload_n 2, 1, 2, 0, 0, 0, 0, [])) rfl).mpr ?_
  refine (rn_step (e := (.iload_n 3, 2, 3, 0, 0, 0, 0, [])) rfl).mpr ?_
  refine (rn_step (e := (.iadd, 3, 0, 0, 0, 0, 0, [])) rfl).mpr (rn_cw hr1.1 hr1.2.1 ?_)
  refine (rn_step (e := (.aload_n 0, 4, 0, 0, 0, 0, 0, [])) rfl).mpr ?_
  refine (rn_step (e := (.iload_n 1, 5, 1, 0, 0, 0, 0, [])) rfl).mpr ?_
  refine (rn_step (e := (.iconst 5, 6, 0, 0, 0, 0, 0, [])) rfl).mpr ?_
  refine (rn_step (e := (.invokevirtual 49, 9, 129, 3, 1002, 0, 11, [0])) rfl).mpr (And.intro ((rn_ks466 hM)) ((rc_Mo_of hM (hr1.2.2.1) (hr1.2.2.2.1) ?_)))
  refine (rn_step (e := (.iconst 1, 10, 0, 0, 0, 0, 0, [])) rfl).mpr ?_
  refine (rn_step (e := (.iadd, 11, 0, 0, 0, 0, 0, [])) rfl).mpr (rn_cw hr1.2.2.2.2.1 hr1.2.2.2.2.2 ?_)
  refine (rn_step (e := (.if_icmp .gt 7, 14, 18, 0, 0, 0, 0, [])) rfl).mpr (And.intro (fun c1 => ?_) (fun c1 => ?_))
  ·
    refine (rn_step (e := (.iconst 0, 19, 0, 0, 0, 0, 0, [])) rfl).mpr ?_
    exact (rn_step (e := (.ireturn, 20, 0, 0, 0, 1, 0, [])) rfl).mpr (And.intro ((Or.inl rfl)) ((k1 c1)))
  ·
    refine (rn_step (e := (.iconst 1, 15, 0, 0, 0, 0, 0, [])) rfl).mpr ?_
    refine (rn_step (e := (.goto 4, 18, 19, 0, 0, 0, 0, [])) rfl).mpr ?_
    exact (rn_step (e := (.ireturn, 20, 0, 0, 0, 1, 0, [])) rfl).mpr (And.intro ((Or.inr rfl)) ((k2 c1)))
theorem re_Re_kindOf {M : rn_M} {Q : rn_Q} {v0 : rn_V} (h : rn_WP 55 0 [v0] [] M Q) : rn_ME 55 [v0] M Q := h
set_option maxRecDepth 4000 in
theorem rb_Re_kindOf_0 {M : rn_M} {Q : rn_Q} {xl0 : Int}   (k1 : (xl0 = 0) → Q (some (rn_I 0)) M) (k2 : (¬ (xl0 = 0)) → (¬ (97 ≤ xl0 ∧ xl0 ≤ 122)) → (¬ (48 ≤ xl0 ∧ xl0 ≤ 57)) → Q (some (rn_I 3)) M) (k3 : (¬ (xl0 = 0)) → (¬ (97 ≤ xl0 ∧ xl0 ≤ 122)) → (48 ≤ xl0 ∧ xl0 ≤ 57) → Q (some (rn_I 2)) M) (k4 : (¬ (xl0 = 0)) → (97 ≤ xl0 ∧ xl0 ≤ 122) → Q (some (rn_I 1)) M) : rn_WP 55 0 [rn_I xl0] [] M Q := by
  refine (rn_step (e := (.iload_n 0, 1, 0, 0, 0, 0, 0, [])) rfl).mpr ?_
  refine (rn_step (e := (.ifCond .ne 5, 4, 6, 0, 0, 0, 0, [])) rfl).mpr (And.intro (fun c1 => ?_) (fun c1 => ?_))
  ·
    refine (rn_step (e := (.iconst 0, 5, 0, 0, 0, 0, 0, [])) rfl).mpr ?_
    exact (rn_step (e := (.ireturn, 6, 0, 0, 0, 0, 0, [])) rfl).mpr (And.intro (trivial) ((k1 c1)))
  ·
    refine (rn_step (e := (.iload_n 0, 7, 0, 0, 0, 0, 0, [])) rfl).mpr ?_
    refine (rn_step (e := (.bipush 97, 9, 0, 0, 0, 0, 0, [])) rfl).mpr ?_
    refine (rn_step (e := (.bipush 122, 11, 0, 0, 0, 0, 0, [])) rfl).mpr ?_
    refine (rn_step (e := (.invokestatic 110, 14, 118, 3, 7, 0, 10, [1])) rfl).mpr (rc_RN_within  ?_)
    refine (rn_step (e := (.ifCond .eq 5, 17, 19, 0, 0, 0, 0, [])) rfl).mpr (And.intro (fun q => ?_) (fun q => ?_))
    · have c2 := rn_b0 q
      refine (rn_step (e := (.iload_n 0, 20, 0, 0, 0, 0, 0, [])) rfl).mpr ?_
      refine (rn_step (e := (.bipush 48, 22, 0, 0, 0, 0, 0, [])) rfl).mpr ?_
      refine (rn_step (e := (.bipush 57, 24, 0, 0, 0, 0, 0, [])) rfl).mpr ?_
      refine (rn_step (e := (.invokestatic 110, 27, 118, 3, 7, 0, 10, [1])) rfl).mpr (rc_RN_within  ?_)
      refine (rn_step (e := (.ifCond .eq 7, 30, 34, 0, 0, 0, 0, [])) rfl).mpr (And.intro (fun q => ?_) (fun q => ?_))
      · have c3 := rn_b0 q
        refine (rn_step (e := (.iconst 3, 35, 0, 0, 0, 0, 0, [])) rfl).mpr ?_
        exact (rn_step (e := (.ireturn, 36, 0, 0, 0, 0, 0, [])) rfl).mpr (And.intro (trivial) ((k2 c1 c2 c3)))
      · have c3 := rn_b1 q
        refine (rn_step (e := (.iconst 2, 31, 0, 0, 0, 0, 0, [])) rfl).mpr ?_
        refine (rn_step (e := (.goto 4, 34, 35, 0, 0, 0, 0, [])) rfl).mpr ?_
        exact (rn_step (e := (.ireturn, 36, 0, 0, 0, 0, 0, [])) rfl).mpr (And.intro (trivial) ((k3 c1 c2 c3)))
    · have c2 := rn_b1 q
      refine (rn_step (e := (.iconst 1, 18, 0, 0, 0, 0, 0, [])) rfl).mpr ?_
      exact (rn_step (e := (.ireturn, 19, 0, 0, 0, 0, 0, [])) rfl).mpr (And.intro (trivial) ((k4 c1 c2)))
end
section
section C2
variable {M : rn_M} {Q : rn_Q}
theorem rc_Mo_isTown {x y w h : Int} (k : Q (some (rn_I (rn_b (((0 ≤ x ∧ x < 60) ∧ 0 ≤ y ∧ y < 40) ∧ (1 ≤ w ∧ w ≤ 12) ∧ (1 ≤ h ∧ h ≤ 3) ∧ x + w ≤ 60 ∧ y + h ≤ 40)))) M) : rn_ME 138 [rn_I x, rn_I y, rn_I w, rn_I h] M Q := by
  refine re_Mo_isTown (rb_Mo_isTown_0 ?_ ?_ ?_ ?_ ?_ ?_ ?_ ?_) <;> intros <;> first | omega | exact rn_kf (by omega) k | exact rn_kt (by omega) k
theorem rc_Mo_hasPlaces (hM : rn_sh M) {r s n : Int} (h1 : 0 ≤ r ∧ r ≤ 5) (h2 : -1000 ≤ s + n ∧ s + n ≤ 1000) (h3 : -1000 ≤ rn_o (rn_gi M 467) r 5 ∧ rn_o (rn_gi M 467) r 5 ≤ 1000) (k : Q (some (rn_I (rn_b (s + n ≤ rn_o (rn_gi M 467) r 5 + 1)))) M) : rn_ME 151 [rn_R 466, rn_I r, rn_I s, rn_I n] M Q := by
  refine re_Mo_hasPlaces (rb_Mo_hasPlaces_0 hM ?_ ?_ ?_) <;> intros <;> first | omega | exact rn_kf (by omega) k | exact rn_kt (by omega) k
theorem rc_Re_kindOf {x : Int} (k : Q (some (rn_I (rn_ko x))) M) : rn_ME 55 [rn_I x] M Q := by
  refine re_Re_kindOf (rb_Re_kindOf_0 ?_ ?_ ?_ ?_) <;> intros <;> (refine rn_kv ?_ k; unfold rn_ko; (repeat' split) <;> omega)
end C2
end
