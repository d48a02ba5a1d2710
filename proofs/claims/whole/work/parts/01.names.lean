-- ===== PART A: goes FIRST, ahead of the names: the tables' words, and 'selects' of the private methods out of them =====
/-- a private method of a class that the tables say can be made, by its rows of tables_1 -/
def lw_okq (q : MethodName × Nat) : Prop := (q.1.cls ≠ "java/lang/invoke/MethodHandle" ∧ q.1.cls ≠ "java/lang/invoke/VarHandle") ∧ Cond.instantiable q.1.cls q.2 ∈ tables_1 ∧ Cond.privateMethod q.1 ∈ tables_1 ∧ Cond.instanceMethod q.1 ∈ tables_1
theorem lw_p0 : lw_okq (⟨"RiverNames$Board", "copyRiver", "(LRiverNames$River;)V"⟩, 7) := ⟨⟨by decide +kernel, by decide +kernel⟩, List.mem_of_getElem? (i := 74) (by decide +kernel), List.mem_of_getElem? (i := 298) (by decide +kernel), List.mem_of_getElem? (i := 299) (by decide +kernel)⟩
theorem lw_p1 : lw_okq (⟨"RiverNames$Board", "copyTown", "(LRiverNames$Town;)V"⟩, 7) := ⟨⟨by decide +kernel, by decide +kernel⟩, List.mem_of_getElem? (i := 74) (by decide +kernel), List.mem_of_getElem? (i := 321) (by decide +kernel), List.mem_of_getElem? (i := 322) (by decide +kernel)⟩
theorem lw_p2 : lw_okq (⟨"RiverNames$Board", "copyLabel", "(LRiverNames$Label;)V"⟩, 7) := ⟨⟨by decide +kernel, by decide +kernel⟩, List.mem_of_getElem? (i := 74) (by decide +kernel), List.mem_of_getElem? (i := 341) (by decide +kernel), List.mem_of_getElem? (i := 342) (by decide +kernel)⟩
theorem lw_p3 : lw_okq (⟨"RiverNames$Reader", "nextToken", "()V"⟩, 5) := ⟨⟨by decide +kernel, by decide +kernel⟩, List.mem_of_getElem? (i := 28) (by decide +kernel), List.mem_of_getElem? (i := 357) (by decide +kernel), List.mem_of_getElem? (i := 358) (by decide +kernel)⟩
theorem lw_p4 : lw_okq (⟨"RiverNames$Reader", "tokenIs", "(Ljava/lang/String;)Z"⟩, 5) := ⟨⟨by decide +kernel, by decide +kernel⟩, List.mem_of_getElem? (i := 28) (by decide +kernel), List.mem_of_getElem? (i := 373) (by decide +kernel), List.mem_of_getElem? (i := 374) (by decide +kernel)⟩
theorem lw_p5 : lw_okq (⟨"RiverNames$Reader", "readRiver", "(LRiverNames$River;)V"⟩, 5) := ⟨⟨by decide +kernel, by decide +kernel⟩, List.mem_of_getElem? (i := 28) (by decide +kernel), List.mem_of_getElem? (i := 426) (by decide +kernel), List.mem_of_getElem? (i := 427) (by decide +kernel)⟩
theorem lw_p6 : lw_okq (⟨"RiverNames$Reader", "readName", "(LRiverNames$River;)V"⟩, 5) := ⟨⟨by decide +kernel, by decide +kernel⟩, List.mem_of_getElem? (i := 28) (by decide +kernel), List.mem_of_getElem? (i := 430) (by decide +kernel), List.mem_of_getElem? (i := 431) (by decide +kernel)⟩
theorem lw_p7 : lw_okq (⟨"RiverNames$Reader", "refuseUnless", "(Z)V"⟩, 5) := ⟨⟨by decide +kernel, by decide +kernel⟩, List.mem_of_getElem? (i := 28) (by decide +kernel), List.mem_of_getElem? (i := 434) (by decide +kernel), List.mem_of_getElem? (i := 435) (by decide +kernel)⟩
theorem lw_p8 : lw_okq (⟨"RiverNames$Reader", "readNumber", "(II)I"⟩, 5) := ⟨⟨by decide +kernel, by decide +kernel⟩, List.mem_of_getElem? (i := 28) (by decide +kernel), List.mem_of_getElem? (i := 443) (by decide +kernel), List.mem_of_getElem? (i := 444) (by decide +kernel)⟩
theorem lw_p9 : lw_okq (⟨"RiverNames$Reader", "readMoves", "(LRiverNames$River;)V"⟩, 5) := ⟨⟨by decide +kernel, by decide +kernel⟩, List.mem_of_getElem? (i := 28) (by decide +kernel), List.mem_of_getElem? (i := 451) (by decide +kernel), List.mem_of_getElem? (i := 452) (by decide +kernel)⟩
theorem lw_p10 : lw_okq (⟨"RiverNames$Reader", "readSemicolon", "()V"⟩, 5) := ⟨⟨by decide +kernel, by decide +kernel⟩, List.mem_of_getElem? (i := 28) (by decide +kernel), List.mem_of_getElem? (i := 482) (by decide +kernel), List.mem_of_getElem? (i := 483) (by decide +kernel)⟩
theorem lw_p11 : lw_okq (⟨"RiverNames$Reader", "readTown", "(LRiverNames$Town;)V"⟩, 5) := ⟨⟨by decide +kernel, by decide +kernel⟩, List.mem_of_getElem? (i := 28) (by decide +kernel), List.mem_of_getElem? (i := 488) (by decide +kernel), List.mem_of_getElem? (i := 489) (by decide +kernel)⟩
theorem lw_p12 : lw_okq (⟨"RiverNames$History", "dropOldest", "()V"⟩, 4) := ⟨⟨by decide +kernel, by decide +kernel⟩, List.mem_of_getElem? (i := 67) (by decide +kernel), List.mem_of_getElem? (i := 497) (by decide +kernel), List.mem_of_getElem? (i := 498) (by decide +kernel)⟩
theorem lw_p13 : lw_okq (⟨"RiverNames$Judge", "isCrowded", "(LRiverNames$Board;LRiverNames$River;II)Z"⟩, 1) := ⟨⟨by decide +kernel, by decide +kernel⟩, List.mem_of_getElem? (i := 222) (by decide +kernel), List.mem_of_getElem? (i := 562) (by decide +kernel), List.mem_of_getElem? (i := 563) (by decide +kernel)⟩
theorem lw_p14 : lw_okq (⟨"RiverNames$Judge", "townRankAt", "(LRiverNames$Board;LRiverNames$River;I)I"⟩, 1) := ⟨⟨by decide +kernel, by decide +kernel⟩, List.mem_of_getElem? (i := 222) (by decide +kernel), List.mem_of_getElem? (i := 570) (by decide +kernel), List.mem_of_getElem? (i := 571) (by decide +kernel)⟩
theorem lw_p15 : lw_okq (⟨"RiverNames$Judge", "labelRankAt", "(LRiverNames$Board;LRiverNames$River;I)I"⟩, 1) := ⟨⟨by decide +kernel, by decide +kernel⟩, List.mem_of_getElem? (i := 222) (by decide +kernel), List.mem_of_getElem? (i := 582) (by decide +kernel), List.mem_of_getElem? (i := 583) (by decide +kernel)⟩
def lw_privs_1 : List (MethodName × Nat) := [(⟨"RiverNames$Board", "copyRiver", "(LRiverNames$River;)V"⟩, 7), (⟨"RiverNames$Board", "copyTown", "(LRiverNames$Town;)V"⟩, 7), (⟨"RiverNames$Board", "copyLabel", "(LRiverNames$Label;)V"⟩, 7), (⟨"RiverNames$Reader", "nextToken", "()V"⟩, 5), (⟨"RiverNames$Reader", "tokenIs", "(Ljava/lang/String;)Z"⟩, 5), (⟨"RiverNames$Reader", "readRiver", "(LRiverNames$River;)V"⟩, 5), (⟨"RiverNames$Reader", "readName", "(LRiverNames$River;)V"⟩, 5), (⟨"RiverNames$Reader", "refuseUnless", "(Z)V"⟩, 5), (⟨"RiverNames$Reader", "readNumber", "(II)I"⟩, 5), (⟨"RiverNames$Reader", "readMoves", "(LRiverNames$River;)V"⟩, 5), (⟨"RiverNames$Reader", "readSemicolon", "()V"⟩, 5), (⟨"RiverNames$Reader", "readTown", "(LRiverNames$Town;)V"⟩, 5), (⟨"RiverNames$History", "dropOldest", "()V"⟩, 4), (⟨"RiverNames$Judge", "isCrowded", "(LRiverNames$Board;LRiverNames$River;II)Z"⟩, 1), (⟨"RiverNames$Judge", "townRankAt", "(LRiverNames$Board;LRiverNames$River;I)I"⟩, 1), (⟨"RiverNames$Judge", "labelRankAt", "(LRiverNames$Board;LRiverNames$River;I)I"⟩, 1)]
theorem lw_r1 : ∀ q ∈ lw_privs_1, lw_okq q := List.forall_mem_cons.mpr ⟨lw_p0, List.forall_mem_cons.mpr ⟨lw_p1, List.forall_mem_cons.mpr ⟨lw_p2, List.forall_mem_cons.mpr ⟨lw_p3, List.forall_mem_cons.mpr ⟨lw_p4, List.forall_mem_cons.mpr ⟨lw_p5, List.forall_mem_cons.mpr ⟨lw_p6, List.forall_mem_cons.mpr ⟨lw_p7, List.forall_mem_cons.mpr ⟨lw_p8, List.forall_mem_cons.mpr ⟨lw_p9, List.forall_mem_cons.mpr ⟨lw_p10, List.forall_mem_cons.mpr ⟨lw_p11, List.forall_mem_cons.mpr ⟨lw_p12, List.forall_mem_cons.mpr ⟨lw_p13, List.forall_mem_cons.mpr ⟨lw_p14, List.forall_mem_cons.mpr ⟨lw_p15, fun _ h => absurd h List.not_mem_nil⟩⟩⟩⟩⟩⟩⟩⟩⟩⟩⟩⟩⟩⟩⟩⟩
theorem lw_p16 : lw_okq (⟨"RiverNames$River", "isNear", "(IIII)Z"⟩, 9) := ⟨⟨by decide +kernel, by decide +kernel⟩, List.mem_of_getElem? (i := 85) (by decide +kernel), List.mem_of_getElem? (i := 590) (by decide +kernel), List.mem_of_getElem? (i := 591) (by decide +kernel)⟩
theorem lw_p17 : lw_okq (⟨"RiverNames$Judge", "letterRiver", "(LRiverNames$Board;LRiverNames$River;I)V"⟩, 1) := ⟨⟨by decide +kernel, by decide +kernel⟩, List.mem_of_getElem? (i := 222) (by decide +kernel), List.mem_of_getElem? (i := 616) (by decide +kernel), List.mem_of_getElem? (i := 617) (by decide +kernel)⟩
theorem lw_p18 : lw_okq (⟨"RiverNames$Judge", "noteRivals", "(LRiverNames$Board;LRiverNames$River;)V"⟩, 1) := ⟨⟨by decide +kernel, by decide +kernel⟩, List.mem_of_getElem? (i := 222) (by decide +kernel), List.mem_of_getElem? (i := 620) (by decide +kernel), List.mem_of_getElem? (i := 621) (by decide +kernel)⟩
theorem lw_p19 : lw_okq (⟨"RiverNames$Judge", "bestStartAsNoted", "(LRiverNames$Board;LRiverNames$River;)I"⟩, 1) := ⟨⟨by decide +kernel, by decide +kernel⟩, List.mem_of_getElem? (i := 222) (by decide +kernel), List.mem_of_getElem? (i := 624) (by decide +kernel), List.mem_of_getElem? (i := 625) (by decide +kernel)⟩
theorem lw_p20 : lw_okq (⟨"RiverNames$River", "turnBehind", "(I)I"⟩, 9) := ⟨⟨by decide +kernel, by decide +kernel⟩, List.mem_of_getElem? (i := 85) (by decide +kernel), List.mem_of_getElem? (i := 636) (by decide +kernel), List.mem_of_getElem? (i := 637) (by decide +kernel)⟩
theorem lw_p21 : lw_okq (⟨"RiverNames$Judge", "rivalRank", "(LRiverNames$River;I)I"⟩, 1) := ⟨⟨by decide +kernel, by decide +kernel⟩, List.mem_of_getElem? (i := 222) (by decide +kernel), List.mem_of_getElem? (i := 641) (by decide +kernel), List.mem_of_getElem? (i := 642) (by decide +kernel)⟩
theorem lw_p22 : lw_okq (⟨"RiverNames$Judge", "isMisfit", "(LRiverNames$Board;I)Z"⟩, 1) := ⟨⟨by decide +kernel, by decide +kernel⟩, List.mem_of_getElem? (i := 222) (by decide +kernel), List.mem_of_getElem? (i := 655) (by decide +kernel), List.mem_of_getElem? (i := 656) (by decide +kernel)⟩
theorem lw_p23 : lw_okq (⟨"RiverNames$Sheet", "mark", "(II)V"⟩, 2) := ⟨⟨by decide +kernel, by decide +kernel⟩, List.mem_of_getElem? (i := 232) (by decide +kernel), List.mem_of_getElem? (i := 715) (by decide +kernel), List.mem_of_getElem? (i := 716) (by decide +kernel)⟩
theorem lw_p24 : lw_okq (⟨"RiverNamesModel", "records", "()V"⟩, 15) := ⟨⟨by decide +kernel, by decide +kernel⟩, List.mem_of_getElem? (i := 830) (by decide +kernel), List.mem_of_getElem? (i := 902) (by decide +kernel), List.mem_of_getElem? (i := 903) (by decide +kernel)⟩
theorem lw_p25 : lw_okq (⟨"RiverNamesModel", "comesRiver", "(IIIII)I"⟩, 15) := ⟨⟨by decide +kernel, by decide +kernel⟩, List.mem_of_getElem? (i := 830) (by decide +kernel), List.mem_of_getElem? (i := 906) (by decide +kernel), List.mem_of_getElem? (i := 907) (by decide +kernel)⟩
theorem lw_p26 : lw_okq (⟨"RiverNamesModel", "comesTown", "(IIIII)I"⟩, 15) := ⟨⟨by decide +kernel, by decide +kernel⟩, List.mem_of_getElem? (i := 830) (by decide +kernel), List.mem_of_getElem? (i := 920) (by decide +kernel), List.mem_of_getElem? (i := 921) (by decide +kernel)⟩
theorem lw_p27 : lw_okq (⟨"RiverNamesModel", "isRiver", "(I)Z"⟩, 15) := ⟨⟨by decide +kernel, by decide +kernel⟩, List.mem_of_getElem? (i := 830) (by decide +kernel), List.mem_of_getElem? (i := 928) (by decide +kernel), List.mem_of_getElem? (i := 929) (by decide +kernel)⟩
theorem lw_p28 : lw_okq (⟨"RiverNamesModel", "walks", "(I)V"⟩, 15) := ⟨⟨by decide +kernel, by decide +kernel⟩, List.mem_of_getElem? (i := 830) (by decide +kernel), List.mem_of_getElem? (i := 932) (by decide +kernel), List.mem_of_getElem? (i := 933) (by decide +kernel)⟩
theorem lw_p29 : lw_okq (⟨"RiverNamesModel", "of", "(II)I"⟩, 15) := ⟨⟨by decide +kernel, by decide +kernel⟩, List.mem_of_getElem? (i := 830) (by decide +kernel), List.mem_of_getElem? (i := 936) (by decide +kernel), List.mem_of_getElem? (i := 937) (by decide +kernel)⟩
theorem lw_p30 : lw_okq (⟨"RiverNamesModel", "lengthens", "(II)V"⟩, 15) := ⟨⟨by decide +kernel, by decide +kernel⟩, List.mem_of_getElem? (i := 830) (by decide +kernel), List.mem_of_getElem? (i := 946) (by decide +kernel), List.mem_of_getElem? (i := 947) (by decide +kernel)⟩
theorem lw_p31 : lw_okq (⟨"RiverNamesModel", "puts", "(II)I"⟩, 15) := ⟨⟨by decide +kernel, by decide +kernel⟩, List.mem_of_getElem? (i := 830) (by decide +kernel), List.mem_of_getElem? (i := 954) (by decide +kernel), List.mem_of_getElem? (i := 955) (by decide +kernel)⟩
def lw_privs_2 : List (MethodName × Nat) := [(⟨"RiverNames$River", "isNear", "(IIII)Z"⟩, 9), (⟨"RiverNames$Judge", "letterRiver", "(LRiverNames$Board;LRiverNames$River;I)V"⟩, 1), (⟨"RiverNames$Judge", "noteRivals", "(LRiverNames$Board;LRiverNames$River;)V"⟩, 1), (⟨"RiverNames$Judge", "bestStartAsNoted", "(LRiverNames$Board;LRiverNames$River;)I"⟩, 1), (⟨"RiverNames$River", "turnBehind", "(I)I"⟩, 9), (⟨"RiverNames$Judge", "rivalRank", "(LRiverNames$River;I)I"⟩, 1), (⟨"RiverNames$Judge", "isMisfit", "(LRiverNames$Board;I)Z"⟩, 1), (⟨"RiverNames$Sheet", "mark", "(II)V"⟩, 2), (⟨"RiverNamesModel", "records", "()V"⟩, 15), (⟨"RiverNamesModel", "comesRiver", "(IIIII)I"⟩, 15), (⟨"RiverNamesModel", "comesTown", "(IIIII)I"⟩, 15), (⟨"RiverNamesModel", "isRiver", "(I)Z"⟩, 15), (⟨"RiverNamesModel", "walks", "(I)V"⟩, 15), (⟨"RiverNamesModel", "of", "(II)I"⟩, 15), (⟨"RiverNamesModel", "lengthens", "(II)V"⟩, 15), (⟨"RiverNamesModel", "puts", "(II)I"⟩, 15)]
theorem lw_r2 : ∀ q ∈ lw_privs_2, lw_okq q := List.forall_mem_cons.mpr ⟨lw_p16, List.forall_mem_cons.mpr ⟨lw_p17, List.forall_mem_cons.mpr ⟨lw_p18, List.forall_mem_cons.mpr ⟨lw_p19, List.forall_mem_cons.mpr ⟨lw_p20, List.forall_mem_cons.mpr ⟨lw_p21, List.forall_mem_cons.mpr ⟨lw_p22, List.forall_mem_cons.mpr ⟨lw_p23, List.forall_mem_cons.mpr ⟨lw_p24, List.forall_mem_cons.mpr ⟨lw_p25, List.forall_mem_cons.mpr ⟨lw_p26, List.forall_mem_cons.mpr ⟨lw_p27, List.forall_mem_cons.mpr ⟨lw_p28, List.forall_mem_cons.mpr ⟨lw_p29, List.forall_mem_cons.mpr ⟨lw_p30, List.forall_mem_cons.mpr ⟨lw_p31, fun _ h => absurd h List.not_mem_nil⟩⟩⟩⟩⟩⟩⟩⟩⟩⟩⟩⟩⟩⟩⟩⟩
theorem lw_p32 : lw_okq (⟨"RiverNamesModel", "isTownNumber", "(I)Z"⟩, 15) := ⟨⟨by decide +kernel, by decide +kernel⟩, List.mem_of_getElem? (i := 830) (by decide +kernel), List.mem_of_getElem? (i := 966) (by decide +kernel), List.mem_of_getElem? (i := 967) (by decide +kernel)⟩
theorem lw_p33 : lw_okq (⟨"RiverNamesModel", "why", "(IIII)I"⟩, 15) := ⟨⟨by decide +kernel, by decide +kernel⟩, List.mem_of_getElem? (i := 830) (by decide +kernel), List.mem_of_getElem? (i := 981) (by decide +kernel), List.mem_of_getElem? (i := 982) (by decide +kernel)⟩
theorem lw_p34 : lw_okq (⟨"RiverNamesModel", "hasPlaces", "(III)Z"⟩, 15) := ⟨⟨by decide +kernel, by decide +kernel⟩, List.mem_of_getElem? (i := 830) (by decide +kernel), List.mem_of_getElem? (i := 985) (by decide +kernel), List.mem_of_getElem? (i := 986) (by decide +kernel)⟩
theorem lw_p35 : lw_okq (⟨"RiverNamesModel", "marks", "(II)I"⟩, 15) := ⟨⟨by decide +kernel, by decide +kernel⟩, List.mem_of_getElem? (i := 830) (by decide +kernel), List.mem_of_getElem? (i := 989) (by decide +kernel), List.mem_of_getElem? (i := 990) (by decide +kernel)⟩
theorem lw_p36 : lw_okq (⟨"RiverNamesModel", "marksMore", "(II)I"⟩, 15) := ⟨⟨by decide +kernel, by decide +kernel⟩, List.mem_of_getElem? (i := 830) (by decide +kernel), List.mem_of_getElem? (i := 993) (by decide +kernel), List.mem_of_getElem? (i := 994) (by decide +kernel)⟩
theorem lw_p37 : lw_okq (⟨"RiverNamesModel", "meetsTown", "(I)Z"⟩, 15) := ⟨⟨by decide +kernel, by decide +kernel⟩, List.mem_of_getElem? (i := 830) (by decide +kernel), List.mem_of_getElem? (i := 997) (by decide +kernel), List.mem_of_getElem? (i := 998) (by decide +kernel)⟩
theorem lw_p38 : lw_okq (⟨"RiverNamesModel", "meetsLabel", "(I)Z"⟩, 15) := ⟨⟨by decide +kernel, by decide +kernel⟩, List.mem_of_getElem? (i := 830) (by decide +kernel), List.mem_of_getElem? (i := 1001) (by decide +kernel), List.mem_of_getElem? (i := 1002) (by decide +kernel)⟩
theorem lw_p39 : lw_okq (⟨"RiverNamesModel", "comesLabel", "(II)I"⟩, 15) := ⟨⟨by decide +kernel, by decide +kernel⟩, List.mem_of_getElem? (i := 830) (by decide +kernel), List.mem_of_getElem? (i := 1005) (by decide +kernel), List.mem_of_getElem? (i := 1006) (by decide +kernel)⟩
theorem lw_p40 : lw_okq (⟨"RiverNamesModel", "isLabel", "(I)Z"⟩, 15) := ⟨⟨by decide +kernel, by decide +kernel⟩, List.mem_of_getElem? (i := 830) (by decide +kernel), List.mem_of_getElem? (i := 1013) (by decide +kernel), List.mem_of_getElem? (i := 1014) (by decide +kernel)⟩
theorem lw_p41 : lw_okq (⟨"RiverNamesModel", "goesLabel", "(I)V"⟩, 15) := ⟨⟨by decide +kernel, by decide +kernel⟩, List.mem_of_getElem? (i := 830) (by decide +kernel), List.mem_of_getElem? (i := 1017) (by decide +kernel), List.mem_of_getElem? (i := 1018) (by decide +kernel)⟩
theorem lw_p42 : lw_okq (⟨"RiverNamesModel", "bestStart", "(I)I"⟩, 15) := ⟨⟨by decide +kernel, by decide +kernel⟩, List.mem_of_getElem? (i := 830) (by decide +kernel), List.mem_of_getElem? (i := 1025) (by decide +kernel), List.mem_of_getElem? (i := 1026) (by decide +kernel)⟩
theorem lw_p43 : lw_okq (⟨"RiverNamesModel", "cost", "(II)I"⟩, 15) := ⟨⟨by decide +kernel, by decide +kernel⟩, List.mem_of_getElem? (i := 830) (by decide +kernel), List.mem_of_getElem? (i := 1029) (by decide +kernel), List.mem_of_getElem? (i := 1030) (by decide +kernel)⟩
theorem lw_p44 : lw_okq (⟨"RiverNamesModel", "bendOf", "(III)I"⟩, 15) := ⟨⟨by decide +kernel, by decide +kernel⟩, List.mem_of_getElem? (i := 830) (by decide +kernel), List.mem_of_getElem? (i := 1033) (by decide +kernel), List.mem_of_getElem? (i := 1034) (by decide +kernel)⟩
theorem lw_p45 : lw_okq (⟨"RiverNamesModel", "whyLabel", "(I)I"⟩, 15) := ⟨⟨by decide +kernel, by decide +kernel⟩, List.mem_of_getElem? (i := 830) (by decide +kernel), List.mem_of_getElem? (i := 1044) (by decide +kernel), List.mem_of_getElem? (i := 1045) (by decide +kernel)⟩
theorem lw_p46 : lw_okq (⟨"RiverNamesModel", "costs", "()I"⟩, 15) := ⟨⟨by decide +kernel, by decide +kernel⟩, List.mem_of_getElem? (i := 830) (by decide +kernel), List.mem_of_getElem? (i := 1052) (by decide +kernel), List.mem_of_getElem? (i := 1053) (by decide +kernel)⟩
theorem lw_p47 : lw_okq (⟨"RiverNamesModel", "wrong", "()I"⟩, 15) := ⟨⟨by decide +kernel, by decide +kernel⟩, List.mem_of_getElem? (i := 830) (by decide +kernel), List.mem_of_getElem? (i := 1056) (by decide +kernel), List.mem_of_getElem? (i := 1057) (by decide +kernel)⟩
def lw_privs_3 : List (MethodName × Nat) := [(⟨"RiverNamesModel", "isTownNumber", "(I)Z"⟩, 15), (⟨"RiverNamesModel", "why", "(IIII)I"⟩, 15), (⟨"RiverNamesModel", "hasPlaces", "(III)Z"⟩, 15), (⟨"RiverNamesModel", "marks", "(II)I"⟩, 15), (⟨"RiverNamesModel", "marksMore", "(II)I"⟩, 15), (⟨"RiverNamesModel", "meetsTown", "(I)Z"⟩, 15), (⟨"RiverNamesModel", "meetsLabel", "(I)Z"⟩, 15), (⟨"RiverNamesModel", "comesLabel", "(II)I"⟩, 15), (⟨"RiverNamesModel", "isLabel", "(I)Z"⟩, 15), (⟨"RiverNamesModel", "goesLabel", "(I)V"⟩, 15), (⟨"RiverNamesModel", "bestStart", "(I)I"⟩, 15), (⟨"RiverNamesModel", "cost", "(II)I"⟩, 15), (⟨"RiverNamesModel", "bendOf", "(III)I"⟩, 15), (⟨"RiverNamesModel", "whyLabel", "(I)I"⟩, 15), (⟨"RiverNamesModel", "costs", "()I"⟩, 15), (⟨"RiverNamesModel", "wrong", "()I"⟩, 15)]
theorem lw_r3 : ∀ q ∈ lw_privs_3, lw_okq q := List.forall_mem_cons.mpr ⟨lw_p32, List.forall_mem_cons.mpr ⟨lw_p33, List.forall_mem_cons.mpr ⟨lw_p34, List.forall_mem_cons.mpr ⟨lw_p35, List.forall_mem_cons.mpr ⟨lw_p36, List.forall_mem_cons.mpr ⟨lw_p37, List.forall_mem_cons.mpr ⟨lw_p38, List.forall_mem_cons.mpr ⟨lw_p39, List.forall_mem_cons.mpr ⟨lw_p40, List.forall_mem_cons.mpr ⟨lw_p41, List.forall_mem_cons.mpr ⟨lw_p42, List.forall_mem_cons.mpr ⟨lw_p43, List.forall_mem_cons.mpr ⟨lw_p44, List.forall_mem_cons.mpr ⟨lw_p45, List.forall_mem_cons.mpr ⟨lw_p46, List.forall_mem_cons.mpr ⟨lw_p47, fun _ h => absurd h List.not_mem_nil⟩⟩⟩⟩⟩⟩⟩⟩⟩⟩⟩⟩⟩⟩⟩⟩
theorem lw_p48 : lw_okq (⟨"RiverNamesModel", "without", "()I"⟩, 15) := ⟨⟨by decide +kernel, by decide +kernel⟩, List.mem_of_getElem? (i := 830) (by decide +kernel), List.mem_of_getElem? (i := 1060) (by decide +kernel), List.mem_of_getElem? (i := 1061) (by decide +kernel)⟩
theorem lw_p49 : lw_okq (⟨"RiverNamesModel", "labelsOf", "(I)I"⟩, 15) := ⟨⟨by decide +kernel, by decide +kernel⟩, List.mem_of_getElem? (i := 830) (by decide +kernel), List.mem_of_getElem? (i := 1064) (by decide +kernel), List.mem_of_getElem? (i := 1065) (by decide +kernel)⟩
theorem lw_p50 : lw_okq (⟨"RiverNamesModel", "covered", "()I"⟩, 15) := ⟨⟨by decide +kernel, by decide +kernel⟩, List.mem_of_getElem? (i := 830) (by decide +kernel), List.mem_of_getElem? (i := 1068) (by decide +kernel), List.mem_of_getElem? (i := 1069) (by decide +kernel)⟩
theorem lw_p51 : lw_okq (⟨"RiverNamesModel", "differentCells", "(I)I"⟩, 15) := ⟨⟨by decide +kernel, by decide +kernel⟩, List.mem_of_getElem? (i := 830) (by decide +kernel), List.mem_of_getElem? (i := 1076) (by decide +kernel), List.mem_of_getElem? (i := 1077) (by decide +kernel)⟩
theorem lw_p52 : lw_okq (⟨"RiverNamesModel", "isTurned", "(II)Z"⟩, 15) := ⟨⟨by decide +kernel, by decide +kernel⟩, List.mem_of_getElem? (i := 830) (by decide +kernel), List.mem_of_getElem? (i := 1096) (by decide +kernel), List.mem_of_getElem? (i := 1097) (by decide +kernel)⟩
theorem lw_p53 : lw_okq (⟨"RiverNamesModel", "townsOf", "(II)I"⟩, 15) := ⟨⟨by decide +kernel, by decide +kernel⟩, List.mem_of_getElem? (i := 830) (by decide +kernel), List.mem_of_getElem? (i := 1100) (by decide +kernel), List.mem_of_getElem? (i := 1101) (by decide +kernel)⟩
theorem lw_p54 : lw_okq (⟨"RiverNamesModel", "placeOn", "(III)I"⟩, 15) := ⟨⟨by decide +kernel, by decide +kernel⟩, List.mem_of_getElem? (i := 830) (by decide +kernel), List.mem_of_getElem? (i := 1108) (by decide +kernel), List.mem_of_getElem? (i := 1109) (by decide +kernel)⟩
theorem lw_p55 : lw_okq (⟨"RiverNamesModel", "keeps", "()V"⟩, 15) := ⟨⟨by decide +kernel, by decide +kernel⟩, List.mem_of_getElem? (i := 830) (by decide +kernel), List.mem_of_getElem? (i := 1144) (by decide +kernel), List.mem_of_getElem? (i := 1145) (by decide +kernel)⟩
theorem lw_p56 : lw_okq (⟨"RiverNamesModel", "nextToken", "()V"⟩, 15) := ⟨⟨by decide +kernel, by decide +kernel⟩, List.mem_of_getElem? (i := 830) (by decide +kernel), List.mem_of_getElem? (i := 1148) (by decide +kernel), List.mem_of_getElem? (i := 1149) (by decide +kernel)⟩
theorem lw_p57 : lw_okq (⟨"RiverNamesModel", "isSort", "(III)Z"⟩, 15) := ⟨⟨by decide +kernel, by decide +kernel⟩, List.mem_of_getElem? (i := 830) (by decide +kernel), List.mem_of_getElem? (i := 1152) (by decide +kernel), List.mem_of_getElem? (i := 1153) (by decide +kernel)⟩
theorem lw_p58 : lw_okq (⟨"RiverNamesModel", "isRiverWord", "()Z"⟩, 15) := ⟨⟨by decide +kernel, by decide +kernel⟩, List.mem_of_getElem? (i := 830) (by decide +kernel), List.mem_of_getElem? (i := 1156) (by decide +kernel), List.mem_of_getElem? (i := 1157) (by decide +kernel)⟩
theorem lw_p59 : lw_okq (⟨"RiverNamesModel", "takesRiver", "()Z"⟩, 15) := ⟨⟨by decide +kernel, by decide +kernel⟩, List.mem_of_getElem? (i := 830) (by decide +kernel), List.mem_of_getElem? (i := 1160) (by decide +kernel), List.mem_of_getElem? (i := 1161) (by decide +kernel)⟩
theorem lw_p60 : lw_okq (⟨"RiverNamesModel", "isNameToken", "()Z"⟩, 15) := ⟨⟨by decide +kernel, by decide +kernel⟩, List.mem_of_getElem? (i := 830) (by decide +kernel), List.mem_of_getElem? (i := 1164) (by decide +kernel), List.mem_of_getElem? (i := 1165) (by decide +kernel)⟩
theorem lw_p61 : lw_okq (⟨"RiverNamesModel", "takesNumber", "(II)Z"⟩, 15) := ⟨⟨by decide +kernel, by decide +kernel⟩, List.mem_of_getElem? (i := 830) (by decide +kernel), List.mem_of_getElem? (i := 1168) (by decide +kernel), List.mem_of_getElem? (i := 1169) (by decide +kernel)⟩
theorem lw_p62 : lw_okq (⟨"RiverNamesModel", "takesMoves", "()Z"⟩, 15) := ⟨⟨by decide +kernel, by decide +kernel⟩, List.mem_of_getElem? (i := 830) (by decide +kernel), List.mem_of_getElem? (i := 1172) (by decide +kernel), List.mem_of_getElem? (i := 1173) (by decide +kernel)⟩
theorem lw_p63 : lw_okq (⟨"RiverNamesModel", "takesSemicolon", "()Z"⟩, 15) := ⟨⟨by decide +kernel, by decide +kernel⟩, List.mem_of_getElem? (i := 830) (by decide +kernel), List.mem_of_getElem? (i := 1176) (by decide +kernel), List.mem_of_getElem? (i := 1177) (by decide +kernel)⟩
def lw_privs_4 : List (MethodName × Nat) := [(⟨"RiverNamesModel", "without", "()I"⟩, 15), (⟨"RiverNamesModel", "labelsOf", "(I)I"⟩, 15), (⟨"RiverNamesModel", "covered", "()I"⟩, 15), (⟨"RiverNamesModel", "differentCells", "(I)I"⟩, 15), (⟨"RiverNamesModel", "isTurned", "(II)Z"⟩, 15), (⟨"RiverNamesModel", "townsOf", "(II)I"⟩, 15), (⟨"RiverNamesModel", "placeOn", "(III)I"⟩, 15), (⟨"RiverNamesModel", "keeps", "()V"⟩, 15), (⟨"RiverNamesModel", "nextToken", "()V"⟩, 15), (⟨"RiverNamesModel", "isSort", "(III)Z"⟩, 15), (⟨"RiverNamesModel", "isRiverWord", "()Z"⟩, 15), (⟨"RiverNamesModel", "takesRiver", "()Z"⟩, 15), (⟨"RiverNamesModel", "isNameToken", "()Z"⟩, 15), (⟨"RiverNamesModel", "takesNumber", "(II)Z"⟩, 15), (⟨"RiverNamesModel", "takesMoves", "()Z"⟩, 15), (⟨"RiverNamesModel", "takesSemicolon", "()Z"⟩, 15)]
theorem lw_r4 : ∀ q ∈ lw_privs_4, lw_okq q := List.forall_mem_cons.mpr ⟨lw_p48, List.forall_mem_cons.mpr ⟨lw_p49, List.forall_mem_cons.mpr ⟨lw_p50, List.forall_mem_cons.mpr ⟨lw_p51, List.forall_mem_cons.mpr ⟨lw_p52, List.forall_mem_cons.mpr ⟨lw_p53, List.forall_mem_cons.mpr ⟨lw_p54, List.forall_mem_cons.mpr ⟨lw_p55, List.forall_mem_cons.mpr ⟨lw_p56, List.forall_mem_cons.mpr ⟨lw_p57, List.forall_mem_cons.mpr ⟨lw_p58, List.forall_mem_cons.mpr ⟨lw_p59, List.forall_mem_cons.mpr ⟨lw_p60, List.forall_mem_cons.mpr ⟨lw_p61, List.forall_mem_cons.mpr ⟨lw_p62, List.forall_mem_cons.mpr ⟨lw_p63, fun _ h => absurd h List.not_mem_nil⟩⟩⟩⟩⟩⟩⟩⟩⟩⟩⟩⟩⟩⟩⟩⟩
theorem lw_p64 : lw_okq (⟨"RiverNamesModel", "isTownWord", "()Z"⟩, 15) := ⟨⟨by decide +kernel, by decide +kernel⟩, List.mem_of_getElem? (i := 830) (by decide +kernel), List.mem_of_getElem? (i := 1180) (by decide +kernel), List.mem_of_getElem? (i := 1181) (by decide +kernel)⟩
theorem lw_p65 : lw_okq (⟨"RiverNamesModel", "takesTown", "()Z"⟩, 15) := ⟨⟨by decide +kernel, by decide +kernel⟩, List.mem_of_getElem? (i := 830) (by decide +kernel), List.mem_of_getElem? (i := 1184) (by decide +kernel), List.mem_of_getElem? (i := 1185) (by decide +kernel)⟩
theorem lw_p66 : lw_okq (⟨"RiverNamesModel", "takesBack", "()V"⟩, 15) := ⟨⟨by decide +kernel, by decide +kernel⟩, List.mem_of_getElem? (i := 830) (by decide +kernel), List.mem_of_getElem? (i := 1188) (by decide +kernel), List.mem_of_getElem? (i := 1189) (by decide +kernel)⟩
def lw_privs_5 : List (MethodName × Nat) := [(⟨"RiverNamesModel", "isTownWord", "()Z"⟩, 15), (⟨"RiverNamesModel", "takesTown", "()Z"⟩, 15), (⟨"RiverNamesModel", "takesBack", "()V"⟩, 15)]
theorem lw_r5 : ∀ q ∈ lw_privs_5, lw_okq q := List.forall_mem_cons.mpr ⟨lw_p64, List.forall_mem_cons.mpr ⟨lw_p65, List.forall_mem_cons.mpr ⟨lw_p66, fun _ h => absurd h List.not_mem_nil⟩⟩⟩
def lw_privs : List (MethodName × Nat) := lw_privs_1 ++ (lw_privs_2 ++ (lw_privs_3 ++ (lw_privs_4 ++ (lw_privs_5))))
def lw_tbl : List Cond := k2_sels lw_privs ++ tables_1
theorem lw_privs_ok : ∀ q ∈ lw_privs, lw_okq q := by
  show ∀ q ∈ lw_privs_1 ++ (lw_privs_2 ++ (lw_privs_3 ++ (lw_privs_4 ++ (lw_privs_5)))), lw_okq q
  exact List.forall_mem_append.mpr ⟨lw_r1, List.forall_mem_append.mpr ⟨lw_r2, List.forall_mem_append.mpr ⟨lw_r3, List.forall_mem_append.mpr ⟨lw_r4, lw_r5⟩⟩⟩⟩

def RX0 : String := "RiverNames$Board"
def TX0 : u_T := fun k => match k with
  | 0 => ("RiverNames$Board", "riverCount", "I", false)
  | 1 => ("RiverNames$Board", "townCount", "I", false)
  | 2 => ("RiverNames$Board", "labelCount", "I", false)
  | 3 => ("RiverNames$Board", "gap", "I", false)
  | 4 => ("RiverNames$Board", "rivers", "[LRiverNames$River;", true)
  | 5 => ("RiverNames$Board", "towns", "[LRiverNames$Town;", true)
  | _ => ("RiverNames$Board", "labels", "[LRiverNames$Label;", true)
def tyX0 : Nat → FieldType := fun k => match k with
  | 0 => .int
  | 1 => .int
  | 2 => .int
  | 3 => .int
  | 4 => .array (.object "RiverNames$River")
  | 5 => .array (.object "RiverNames$Town")
  | _ => .array (.object "RiverNames$Label")
abbrev wsX00 : List Cond := u_ws RX0 TX0 7
theorem nmX0 : ∀ a, a < 7 → ∀ b, b < 7 → a ≠ b → (TX0 a).2.1 ≠ (TX0 b).2.1 := by decide +kernel
theorem tyX0_ok : ∀ k, k < 7 → parseFieldDescriptor (TX0 k).2.2.1 = some (tyX0 k) := by decide +kernel
def RX1 : String := "RiverNames$History"
def TX1 : u_T := fun k => match k with
  | 0 => ("RiverNames$History", "size", "I", false)
  | 1 => ("RiverNames$History", "kept", "[LRiverNames$Board;", true)
  | 2 => ("RiverNames$History", "present", "LRiverNames$Board;", false)
  | _ => ("RiverNames$History", "draft", "LRiverNames$Board;", false)
def tyX1 : Nat → FieldType := fun k => match k with
  | 0 => .int
  | 1 => .array (.object "RiverNames$Board")
  | 2 => .object "RiverNames$Board"
  | _ => .object "RiverNames$Board"
abbrev wsX10 : List Cond := u_ws RX1 TX1 4
theorem nmX1 : ∀ a, a < 4 → ∀ b, b < 4 → a ≠ b → (TX1 a).2.1 ≠ (TX1 b).2.1 := by decide +kernel
theorem tyX1_ok : ∀ k, k < 4 → parseFieldDescriptor (TX1 k).2.2.1 = some (tyX1 k) := by decide +kernel
def RX2 : String := "RiverNames$Judge"
def TX2 : u_T := fun k => match k with
  | _ => ("RiverNames$Judge", "rivals", "[I", true)
def tyX2 : Nat → FieldType := fun k => match k with
  | _ => .array .int
abbrev wsX20 : List Cond := u_ws RX2 TX2 1
theorem nmX2 : ∀ a, a < 1 → ∀ b, b < 1 → a ≠ b → (TX2 a).2.1 ≠ (TX2 b).2.1 := by decide +kernel
theorem tyX2_ok : ∀ k, k < 1 → parseFieldDescriptor (TX2 k).2.2.1 = some (tyX2 k) := by decide +kernel
def RX3 : String := "RiverNames$Label"
def TX3 : u_T := fun k => match k with
  | 0 => ("RiverNames$Label", "river", "LRiverNames$River;", false)
  | _ => ("RiverNames$Label", "start", "I", false)
def tyX3 : Nat → FieldType := fun k => match k with
  | 0 => .object "RiverNames$River"
  | _ => .int
abbrev wsX30 : List Cond := u_ws RX3 TX3 2
theorem nmX3 : ∀ a, a < 2 → ∀ b, b < 2 → a ≠ b → (TX3 a).2.1 ≠ (TX3 b).2.1 := by decide +kernel
theorem tyX3_ok : ∀ k, k < 2 → parseFieldDescriptor (TX3 k).2.2.1 = some (tyX3 k) := by decide +kernel
def RX4 : String := "RiverNames$Reader"
def TX4 : u_T := fun k => match k with
  | 0 => ("RiverNames$Reader", "text", "LRiverNames$Text;", true)
  | 1 => ("RiverNames$Reader", "tokenStart", "I", false)
  | 2 => ("RiverNames$Reader", "tokenEnd", "I", false)
  | 3 => ("RiverNames$Reader", "tokenKind", "I", false)
  | _ => ("RiverNames$Reader", "refused", "Z", false)
def tyX4 : Nat → FieldType := fun k => match k with
  | 0 => .object "RiverNames$Text"
  | 1 => .int
  | 2 => .int
  | 3 => .int
  | _ => .boolean
abbrev wsX40 : List Cond := u_ws RX4 TX4 5
theorem nmX4 : ∀ a, a < 5 → ∀ b, b < 5 → a ≠ b → (TX4 a).2.1 ≠ (TX4 b).2.1 := by decide +kernel
theorem tyX4_ok : ∀ k, k < 5 → parseFieldDescriptor (TX4 k).2.2.1 = some (tyX4 k) := by decide +kernel
def RX5 : String := "RiverNames$River"
def TX5 : u_T := fun k => match k with
  | 0 => ("RiverNames$River", "number", "I", true)
  | 1 => ("RiverNames$River", "rank", "I", false)
  | 2 => ("RiverNames$River", "halo", "I", false)
  | 3 => ("RiverNames$River", "letters", "I", false)
  | 4 => ("RiverNames$River", "moves", "I", false)
  | 5 => ("RiverNames$River", "name", "[I", true)
  | 6 => ("RiverNames$River", "directions", "[I", true)
  | 7 => ("RiverNames$River", "columns", "[I", true)
  | _ => ("RiverNames$River", "rows", "[I", true)
def tyX5 : Nat → FieldType := fun k => match k with
  | 0 => .int
  | 1 => .int
  | 2 => .int
  | 3 => .int
  | 4 => .int
  | 5 => .array .int
  | 6 => .array .int
  | 7 => .array .int
  | _ => .array .int
abbrev wsX50 : List Cond := u_ws RX5 TX5 9
theorem nmX5 : ∀ a, a < 9 → ∀ b, b < 9 → a ≠ b → (TX5 a).2.1 ≠ (TX5 b).2.1 := by decide +kernel
theorem tyX5_ok : ∀ k, k < 9 → parseFieldDescriptor (TX5 k).2.2.1 = some (tyX5 k) := by decide +kernel
def RX6 : String := "RiverNames$Sheet"
def TX6 : u_T := fun k => match k with
  | 0 => ("RiverNames$Sheet", "marked", "I", false)
  | _ => ("RiverNames$Sheet", "marks", "[I", true)
def tyX6 : Nat → FieldType := fun k => match k with
  | 0 => .int
  | _ => .array .int
abbrev wsX60 : List Cond := u_ws RX6 TX6 2
theorem nmX6 : ∀ a, a < 2 → ∀ b, b < 2 → a ≠ b → (TX6 a).2.1 ≠ (TX6 b).2.1 := by decide +kernel
theorem tyX6_ok : ∀ k, k < 2 → parseFieldDescriptor (TX6 k).2.2.1 = some (tyX6 k) := by decide +kernel
def RX7 : String := "RiverNames$Text"
def TX7 : u_T := fun k => match k with
  | 0 => ("RiverNames$Text", "length", "I", false)
  | _ => ("RiverNames$Text", "signs", "[I", true)
def tyX7 : Nat → FieldType := fun k => match k with
  | 0 => .int
  | _ => .array .int
abbrev wsX70 : List Cond := u_ws RX7 TX7 2
theorem nmX7 : ∀ a, a < 2 → ∀ b, b < 2 → a ≠ b → (TX7 a).2.1 ≠ (TX7 b).2.1 := by decide +kernel
theorem tyX7_ok : ∀ k, k < 2 → parseFieldDescriptor (TX7 k).2.2.1 = some (tyX7 k) := by decide +kernel
def RX8 : String := "RiverNames$Town"
def TX8 : u_T := fun k => match k with
  | 0 => ("RiverNames$Town", "column", "I", false)
  | 1 => ("RiverNames$Town", "row", "I", false)
  | 2 => ("RiverNames$Town", "width", "I", false)
  | 3 => ("RiverNames$Town", "height", "I", false)
  | _ => ("RiverNames$Town", "rank", "I", false)
def tyX8 : Nat → FieldType := fun k => match k with
  | 0 => .int
  | 1 => .int
  | 2 => .int
  | 3 => .int
  | _ => .int
abbrev wsX80 : List Cond := u_ws RX8 TX8 5
theorem nmX8 : ∀ a, a < 5 → ∀ b, b < 5 → a ≠ b → (TX8 a).2.1 ≠ (TX8 b).2.1 := by decide +kernel
theorem tyX8_ok : ∀ k, k < 5 → parseFieldDescriptor (TX8 k).2.2.1 = some (tyX8 k) := by decide +kernel
def RX9 : String := "RiverNames"
def TX9 : u_T := fun k => match k with
  | 0 => ("RiverNames", "reader", "LRiverNames$Reader;", true)
  | 1 => ("RiverNames", "history", "LRiverNames$History;", true)
  | 2 => ("RiverNames", "judge", "LRiverNames$Judge;", true)
  | _ => ("RiverNames", "sheet", "LRiverNames$Sheet;", true)
def tyX9 : Nat → FieldType := fun k => match k with
  | 0 => .object "RiverNames$Reader"
  | 1 => .object "RiverNames$History"
  | 2 => .object "RiverNames$Judge"
  | _ => .object "RiverNames$Sheet"
abbrev wsX90 : List Cond := u_ws RX9 TX9 4
theorem nmX9 : ∀ a, a < 4 → ∀ b, b < 4 → a ≠ b → (TX9 a).2.1 ≠ (TX9 b).2.1 := by decide +kernel
theorem tyX9_ok : ∀ k, k < 4 → parseFieldDescriptor (TX9 k).2.2.1 = some (tyX9 k) := by decide +kernel
def RX10 : String := "RiverNamesModel"
def TX10 : u_T := fun k => match k with
  | 0 => ("RiverNamesModel", "now", "[I", true)
  | 1 => ("RiverNamesModel", "past", "[I", true)
  | 2 => ("RiverNamesModel", "saved", "I", false)
  | 3 => ("RiverNamesModel", "text", "[I", true)
  | 4 => ("RiverNamesModel", "length", "I", false)
  | 5 => ("RiverNamesModel", "cellX", "[I", true)
  | 6 => ("RiverNamesModel", "cellY", "[I", true)
  | 7 => ("RiverNamesModel", "marked", "[I", true)
  | 8 => ("RiverNamesModel", "mark", "I", false)
  | 9 => ("RiverNamesModel", "begin", "I", false)
  | 10 => ("RiverNamesModel", "end", "I", false)
  | 11 => ("RiverNamesModel", "number", "I", false)
  | 12 => ("RiverNamesModel", "told", "[I", true)
  | 13 => ("RiverNamesModel", "aside", "[I", true)
  | _ => ("RiverNamesModel", "made", "[I", true)
def tyX10 : Nat → FieldType := fun k => match k with
  | 0 => .array .int
  | 1 => .array .int
  | 2 => .int
  | 3 => .array .int
  | 4 => .int
  | 5 => .array .int
  | 6 => .array .int
  | 7 => .array .int
  | 8 => .int
  | 9 => .int
  | 10 => .int
  | 11 => .int
  | 12 => .array .int
  | 13 => .array .int
  | _ => .array .int
abbrev wsX100 : List Cond := u_ws RX10 TX10 15
theorem nmX10 : ∀ a, a < 15 → ∀ b, b < 15 → a ≠ b → (TX10 a).2.1 ≠ (TX10 b).2.1 := by decide +kernel
theorem tyX10_ok : ∀ k, k < 15 → parseFieldDescriptor (TX10 k).2.2.1 = some (tyX10 k) := by decide +kernel
def RJ9 : String := "java/lang/Math"
def RJ0 : String := "java/lang/String"
def RJ1 : String := "java/lang/StringLatin1"
def RJ3 : String := "jdk/internal/util/Preconditions"
def RJ7 : String := "java/util/Arrays"
def RL : String := "RiverNamesLaw"
abbrev cX0_init : ByteArray := prog_2_method_1_code
def yX0_init : MethodName := ⟨RX0, "<init>", "()V"⟩
abbrev cX0_copyFrom : ByteArray := prog_2_method_2_code
def yX0_copyFrom : MethodName := ⟨RX0, "copyFrom", "(LRiverNames$Board;)V"⟩
abbrev cX0_copyRiver : ByteArray := prog_2_method_3_code
def yX0_copyRiver : MethodName := ⟨RX0, "copyRiver", "(LRiverNames$River;)V"⟩
abbrev cX0_copyTown : ByteArray := prog_2_method_4_code
def yX0_copyTown : MethodName := ⟨RX0, "copyTown", "(LRiverNames$Town;)V"⟩
abbrev cX0_copyLabel : ByteArray := prog_2_method_5_code
def yX0_copyLabel : MethodName := ⟨RX0, "copyLabel", "(LRiverNames$Label;)V"⟩
abbrev cX0_riverAt : ByteArray := prog_2_method_6_code
def yX0_riverAt : MethodName := ⟨RX0, "riverAt", "(I)LRiverNames$River;"⟩
abbrev cX0_townAt : ByteArray := prog_2_method_7_code
def yX0_townAt : MethodName := ⟨RX0, "townAt", "(I)LRiverNames$Town;"⟩
abbrev cX0_labelAt : ByteArray := prog_2_method_8_code
def yX0_labelAt : MethodName := ⟨RX0, "labelAt", "(I)LRiverNames$Label;"⟩
abbrev cX0_nextRiver : ByteArray := prog_2_method_9_code
def yX0_nextRiver : MethodName := ⟨RX0, "nextRiver", "()LRiverNames$River;"⟩
abbrev cX0_nextTown : ByteArray := prog_2_method_10_code
def yX0_nextTown : MethodName := ⟨RX0, "nextTown", "()LRiverNames$Town;"⟩
abbrev cX0_addLabel : ByteArray := prog_2_method_11_code
def yX0_addLabel : MethodName := ⟨RX0, "addLabel", "(LRiverNames$River;I)Z"⟩
abbrev cX0_dropLabel : ByteArray := prog_2_method_12_code
def yX0_dropLabel : MethodName := ⟨RX0, "dropLabel", "(I)Z"⟩
abbrev cX0_labelsOf : ByteArray := prog_2_method_13_code
def yX0_labelsOf : MethodName := ⟨RX0, "labelsOf", "(LRiverNames$River;)I"⟩
abbrev cX0_labelsOver : ByteArray := prog_2_method_14_code
def yX0_labelsOver : MethodName := ⟨RX0, "labelsOver", "(LRiverNames$Town;)I"⟩
abbrev cX0_townsUnder : ByteArray := prog_2_method_15_code
def yX0_townsUnder : MethodName := ⟨RX0, "townsUnder", "(LRiverNames$Label;)I"⟩
abbrev cX0_costOfLabels : ByteArray := prog_2_method_16_code
def yX0_costOfLabels : MethodName := ⟨RX0, "costOfLabels", "()I"⟩
abbrev cX0_cellsOfLabels : ByteArray := prog_2_method_17_code
def yX0_cellsOfLabels : MethodName := ⟨RX0, "cellsOfLabels", "(LRiverNames$Sheet;)I"⟩
abbrev cX0_riversWithoutLabel : ByteArray := prog_2_method_18_code
def yX0_riversWithoutLabel : MethodName := ⟨RX0, "riversWithoutLabel", "()I"⟩
abbrev cX0_signOn : ByteArray := prog_2_method_19_code
def yX0_signOn : MethodName := ⟨RX0, "signOn", "(II)I"⟩
abbrev cX1_init : ByteArray := prog_3_method_1_code
def yX1_init : MethodName := ⟨RX1, "<init>", "()V"⟩
abbrev cX1_present : ByteArray := prog_3_method_2_code
def yX1_present : MethodName := ⟨RX1, "present", "()LRiverNames$Board;"⟩
abbrev cX1_newDraft : ByteArray := prog_3_method_3_code
def yX1_newDraft : MethodName := ⟨RX1, "newDraft", "()LRiverNames$Board;"⟩
abbrev cX1_enterDraft : ByteArray := prog_3_method_4_code
def yX1_enterDraft : MethodName := ⟨RX1, "enterDraft", "()V"⟩
abbrev cX1_dropOldest : ByteArray := prog_3_method_5_code
def yX1_dropOldest : MethodName := ⟨RX1, "dropOldest", "()V"⟩
abbrev cX1_stepBack : ByteArray := prog_3_method_6_code
def yX1_stepBack : MethodName := ⟨RX1, "stepBack", "()I"⟩
abbrev cX2_init : ByteArray := prog_4_method_1_code
def yX2_init : MethodName := ⟨RX2, "<init>", "()V"⟩
abbrev cX2_reasonAgainst : ByteArray := prog_4_method_2_code
def yX2_reasonAgainst : MethodName := ⟨RX2, "reasonAgainst", "(LRiverNames$Board;LRiverNames$River;II)I"⟩
abbrev cX2_isCrowded : ByteArray := prog_4_method_3_code
def yX2_isCrowded : MethodName := ⟨RX2, "isCrowded", "(LRiverNames$Board;LRiverNames$River;II)Z"⟩
abbrev cX2_townRankAt : ByteArray := prog_4_method_4_code
def yX2_townRankAt : MethodName := ⟨RX2, "townRankAt", "(LRiverNames$Board;LRiverNames$River;I)I"⟩
abbrev cX2_labelRankAt : ByteArray := prog_4_method_5_code
def yX2_labelRankAt : MethodName := ⟨RX2, "labelRankAt", "(LRiverNames$Board;LRiverNames$River;I)I"⟩
abbrev cX2_noteRivals : ByteArray := prog_4_method_6_code
def yX2_noteRivals : MethodName := ⟨RX2, "noteRivals", "(LRiverNames$Board;LRiverNames$River;)V"⟩
abbrev cX2_rivalRank : ByteArray := prog_4_method_7_code
def yX2_rivalRank : MethodName := ⟨RX2, "rivalRank", "(LRiverNames$River;I)I"⟩
abbrev cX2_bestStart : ByteArray := prog_4_method_8_code
def yX2_bestStart : MethodName := ⟨RX2, "bestStart", "(LRiverNames$Board;LRiverNames$River;)I"⟩
abbrev cX2_bestStartAsNoted : ByteArray := prog_4_method_9_code
def yX2_bestStartAsNoted : MethodName := ⟨RX2, "bestStartAsNoted", "(LRiverNames$Board;LRiverNames$River;)I"⟩
abbrev cX2_leastRank : ByteArray := prog_4_method_10_code
def yX2_leastRank : MethodName := ⟨RX2, "leastRank", "(LRiverNames$Board;LRiverNames$River;)I"⟩
abbrev cX2_letterAll : ByteArray := prog_4_method_11_code
def yX2_letterAll : MethodName := ⟨RX2, "letterAll", "(LRiverNames$Board;I)V"⟩
abbrev cX2_letterRiver : ByteArray := prog_4_method_12_code
def yX2_letterRiver : MethodName := ⟨RX2, "letterRiver", "(LRiverNames$Board;LRiverNames$River;I)V"⟩
abbrev cX2_isMisfit : ByteArray := prog_4_method_13_code
def yX2_isMisfit : MethodName := ⟨RX2, "isMisfit", "(LRiverNames$Board;I)Z"⟩
abbrev cX2_misfits : ByteArray := prog_4_method_14_code
def yX2_misfits : MethodName := ⟨RX2, "misfits", "(LRiverNames$Board;)I"⟩
abbrev cX2_dropMisfits : ByteArray := prog_4_method_15_code
def yX2_dropMisfits : MethodName := ⟨RX2, "dropMisfits", "(LRiverNames$Board;)I"⟩
abbrev cX3_init : ByteArray := prog_5_method_1_code
def yX3_init : MethodName := ⟨RX3, "<init>", "(LRiverNames$River;)V"⟩
abbrev cX3_put : ByteArray := prog_5_method_2_code
def yX3_put : MethodName := ⟨RX3, "put", "(LRiverNames$River;I)V"⟩
abbrev cX3_lapsOver : ByteArray := prog_5_method_3_code
def yX3_lapsOver : MethodName := ⟨RX3, "lapsOver", "(LRiverNames$Town;)Z"⟩
abbrev cX3_markArea : ByteArray := prog_5_method_4_code
def yX3_markArea : MethodName := ⟨RX3, "markArea", "(LRiverNames$Sheet;)V"⟩
abbrev cX3_cells : ByteArray := prog_5_method_5_code
def yX3_cells : MethodName := ⟨RX3, "cells", "(LRiverNames$Sheet;)I"⟩
abbrev cX4_init : ByteArray := prog_6_method_1_code
def yX4_init : MethodName := ⟨RX4, "<init>", "()V"⟩
abbrev cX4_readInto : ByteArray := prog_6_method_2_code
def yX4_readInto : MethodName := ⟨RX4, "readInto", "(LRiverNames$Board;)I"⟩
abbrev cX4_readRiver : ByteArray := prog_6_method_3_code
def yX4_readRiver : MethodName := ⟨RX4, "readRiver", "(LRiverNames$River;)V"⟩
abbrev cX4_readTown : ByteArray := prog_6_method_4_code
def yX4_readTown : MethodName := ⟨RX4, "readTown", "(LRiverNames$Town;)V"⟩
abbrev cX4_readName : ByteArray := prog_6_method_5_code
def yX4_readName : MethodName := ⟨RX4, "readName", "(LRiverNames$River;)V"⟩
abbrev cX4_readMoves : ByteArray := prog_6_method_6_code
def yX4_readMoves : MethodName := ⟨RX4, "readMoves", "(LRiverNames$River;)V"⟩
abbrev cX4_readNumber : ByteArray := prog_6_method_7_code
def yX4_readNumber : MethodName := ⟨RX4, "readNumber", "(II)I"⟩
abbrev cX4_readSemicolon : ByteArray := prog_6_method_8_code
def yX4_readSemicolon : MethodName := ⟨RX4, "readSemicolon", "()V"⟩
abbrev cX4_refuseUnless : ByteArray := prog_6_method_9_code
def yX4_refuseUnless : MethodName := ⟨RX4, "refuseUnless", "(Z)V"⟩
abbrev cX4_nextToken : ByteArray := prog_6_method_10_code
def yX4_nextToken : MethodName := ⟨RX4, "nextToken", "()V"⟩
abbrev cX4_kindOf : ByteArray := prog_6_method_11_code
def yX4_kindOf : MethodName := ⟨RX4, "kindOf", "(I)I"⟩
abbrev cX4_tokenIs : ByteArray := prog_6_method_12_code
def yX4_tokenIs : MethodName := ⟨RX4, "tokenIs", "(Ljava/lang/String;)Z"⟩
abbrev cX5_init : ByteArray := prog_7_method_1_code
def yX5_init : MethodName := ⟨RX5, "<init>", "(I)V"⟩
abbrev cX5_copyFrom : ByteArray := prog_7_method_2_code
def yX5_copyFrom : MethodName := ⟨RX5, "copyFrom", "(LRiverNames$River;)V"⟩
abbrev cX5_forget : ByteArray := prog_7_method_3_code
def yX5_forget : MethodName := ⟨RX5, "forget", "()V"⟩
abbrev cX5_addLetter : ByteArray := prog_7_method_4_code
def yX5_addLetter : MethodName := ⟨RX5, "addLetter", "(I)V"⟩
abbrev cX5_begin : ByteArray := prog_7_method_5_code
def yX5_begin : MethodName := ⟨RX5, "begin", "(IIII)V"⟩
abbrev cX5_leavesMap : ByteArray := prog_7_method_6_code
def yX5_leavesMap : MethodName := ⟨RX5, "leavesMap", "(I)Z"⟩
abbrev cX5_lengthen : ByteArray := prog_7_method_7_code
def yX5_lengthen : MethodName := ⟨RX5, "lengthen", "(I)Z"⟩
abbrev cX5_hasPlace : ByteArray := prog_7_method_8_code
def yX5_hasPlace : MethodName := ⟨RX5, "hasPlace", "(I)Z"⟩
abbrev cX5_columnAt : ByteArray := prog_7_method_9_code
def yX5_columnAt : MethodName := ⟨RX5, "columnAt", "(I)I"⟩
abbrev cX5_rowAt : ByteArray := prog_7_method_10_code
def yX5_rowAt : MethodName := ⟨RX5, "rowAt", "(I)I"⟩
abbrev cX5_letterAt : ByteArray := prog_7_method_11_code
def yX5_letterAt : MethodName := ⟨RX5, "letterAt", "(I)I"⟩
abbrev cX5_lastStart : ByteArray := prog_7_method_12_code
def yX5_lastStart : MethodName := ⟨RX5, "lastStart", "(I)I"⟩
abbrev cX5_turnBehind : ByteArray := prog_7_method_13_code
def yX5_turnBehind : MethodName := ⟨RX5, "turnBehind", "(I)I"⟩
abbrev cX5_bendOf : ByteArray := prog_7_method_14_code
def yX5_bendOf : MethodName := ⟨RX5, "bendOf", "(II)I"⟩
abbrev cX5_straightestStart : ByteArray := prog_7_method_15_code
def yX5_straightestStart : MethodName := ⟨RX5, "straightestStart", "(I)I"⟩
abbrev cX5_costOf : ByteArray := prog_7_method_16_code
def yX5_costOf : MethodName := ⟨RX5, "costOf", "(I)I"⟩
abbrev cX5_turnsNameAt : ByteArray := prog_7_method_17_code
def yX5_turnsNameAt : MethodName := ⟨RX5, "turnsNameAt", "(I)Z"⟩
abbrev cX5_isNear : ByteArray := prog_7_method_18_code
def yX5_isNear : MethodName := ⟨RX5, "isNear", "(IIII)Z"⟩
abbrev cX5_hasLetterNear : ByteArray := prog_7_method_19_code
def yX5_hasLetterNear : MethodName := ⟨RX5, "hasLetterNear", "(IIII)Z"⟩
abbrev cX5_letterOn : ByteArray := prog_7_method_20_code
def yX5_letterOn : MethodName := ⟨RX5, "letterOn", "(III)I"⟩
abbrev cX5_differentCells : ByteArray := prog_7_method_21_code
def yX5_differentCells : MethodName := ⟨RX5, "differentCells", "(LRiverNames$Sheet;)I"⟩
abbrev cX6_init : ByteArray := prog_8_method_1_code
def yX6_init : MethodName := ⟨RX6, "<init>", "()V"⟩
abbrev cX6_clear : ByteArray := prog_8_method_2_code
def yX6_clear : MethodName := ⟨RX6, "clear", "()V"⟩
abbrev cX6_markAround : ByteArray := prog_8_method_3_code
def yX6_markAround : MethodName := ⟨RX6, "markAround", "(III)V"⟩
abbrev cX6_mark : ByteArray := prog_8_method_4_code
def yX6_mark : MethodName := ⟨RX6, "mark", "(II)V"⟩
abbrev cX7_init : ByteArray := prog_9_method_1_code
def yX7_init : MethodName := ⟨RX7, "<init>", "()V"⟩
abbrev cX7_write : ByteArray := prog_9_method_2_code
def yX7_write : MethodName := ⟨RX7, "write", "(I)Z"⟩
abbrev cX7_wipe : ByteArray := prog_9_method_3_code
def yX7_wipe : MethodName := ⟨RX7, "wipe", "()I"⟩
abbrev cX7_signAt : ByteArray := prog_9_method_4_code
def yX7_signAt : MethodName := ⟨RX7, "signAt", "(I)I"⟩
abbrev cX8_init : ByteArray := prog_10_method_1_code
def yX8_init : MethodName := ⟨RX8, "<init>", "()V"⟩
abbrev cX8_build : ByteArray := prog_10_method_2_code
def yX8_build : MethodName := ⟨RX8, "build", "(IIIII)V"⟩
abbrev cX8_copyFrom : ByteArray := prog_10_method_3_code
def yX8_copyFrom : MethodName := ⟨RX8, "copyFrom", "(LRiverNames$Town;)V"⟩
abbrev cX8_isNear : ByteArray := prog_10_method_4_code
def yX8_isNear : MethodName := ⟨RX8, "isNear", "(III)Z"⟩
abbrev cX9_init : ByteArray := prog_1_method_1_code
def yX9_init : MethodName := ⟨RX9, "<init>", "()V"⟩
abbrev cX9_append : ByteArray := prog_1_method_2_code
def yX9_append : MethodName := ⟨RX9, "append", "(I)I"⟩
abbrev cX9_clearText : ByteArray := prog_1_method_3_code
def yX9_clearText : MethodName := ⟨RX9, "clearText", "()I"⟩
abbrev cX9_load : ByteArray := prog_1_method_4_code
def yX9_load : MethodName := ⟨RX9, "load", "()I"⟩
abbrev cX9_addRiver : ByteArray := prog_1_method_5_code
def yX9_addRiver : MethodName := ⟨RX9, "addRiver", "(IIIII)I"⟩
abbrev cX9_addTown : ByteArray := prog_1_method_6_code
def yX9_addTown : MethodName := ⟨RX9, "addTown", "(IIIII)I"⟩
abbrev cX9_flow : ByteArray := prog_1_method_7_code
def yX9_flow : MethodName := ⟨RX9, "flow", "(II)I"⟩
abbrev cX9_setRank : ByteArray := prog_1_method_8_code
def yX9_setRank : MethodName := ⟨RX9, "setRank", "(II)I"⟩
abbrev cX9_setHalo : ByteArray := prog_1_method_9_code
def yX9_setHalo : MethodName := ⟨RX9, "setHalo", "(II)I"⟩
abbrev cX9_setTownRank : ByteArray := prog_1_method_10_code
def yX9_setTownRank : MethodName := ⟨RX9, "setTownRank", "(II)I"⟩
abbrev cX9_setGap : ByteArray := prog_1_method_11_code
def yX9_setGap : MethodName := ⟨RX9, "setGap", "(I)I"⟩
abbrev cX9_set : ByteArray := prog_1_method_12_code
def yX9_set : MethodName := ⟨RX9, "set", "(II)I"⟩
abbrev cX9_remove : ByteArray := prog_1_method_13_code
def yX9_remove : MethodName := ⟨RX9, "remove", "(I)I"⟩
abbrev cX9_place : ByteArray := prog_1_method_14_code
def yX9_place : MethodName := ⟨RX9, "place", "(I)I"⟩
abbrev cX9_tidy : ByteArray := prog_1_method_15_code
def yX9_tidy : MethodName := ⟨RX9, "tidy", "()I"⟩
abbrev cX9_undo : ByteArray := prog_1_method_16_code
def yX9_undo : MethodName := ⟨RX9, "undo", "()I"⟩
abbrev cX9_count : ByteArray := prog_1_method_17_code
def yX9_count : MethodName := ⟨RX9, "count", "(I)I"⟩
abbrev cX9_river : ByteArray := prog_1_method_18_code
def yX9_river : MethodName := ⟨RX9, "river", "(II)I"⟩
abbrev cX9_cell : ByteArray := prog_1_method_19_code
def yX9_cell : MethodName := ⟨RX9, "cell", "(II)I"⟩
abbrev cX9_letter : ByteArray := prog_1_method_20_code
def yX9_letter : MethodName := ⟨RX9, "letter", "(II)I"⟩
abbrev cX9_town : ByteArray := prog_1_method_21_code
def yX9_town : MethodName := ⟨RX9, "town", "(II)I"⟩
abbrev cX9_label : ByteArray := prog_1_method_22_code
def yX9_label : MethodName := ⟨RX9, "label", "(II)I"⟩
abbrev cX9_written : ByteArray := prog_1_method_23_code
def yX9_written : MethodName := ⟨RX9, "written", "(II)I"⟩
abbrev cX9_bend : ByteArray := prog_1_method_24_code
def yX9_bend : MethodName := ⟨RX9, "bend", "(III)I"⟩
abbrev cX9_straightest : ByteArray := prog_1_method_25_code
def yX9_straightest : MethodName := ⟨RX9, "straightest", "(II)I"⟩
abbrev cX9_reason : ByteArray := prog_1_method_26_code
def yX9_reason : MethodName := ⟨RX9, "reason", "(II)I"⟩
abbrev cX9_best : ByteArray := prog_1_method_27_code
def yX9_best : MethodName := ⟨RX9, "best", "(II)I"⟩
abbrev cX9_rankFor : ByteArray := prog_1_method_28_code
def yX9_rankFor : MethodName := ⟨RX9, "rankFor", "(I)I"⟩
abbrev cX9_within : ByteArray := prog_1_method_29_code
def yX9_within : MethodName := ⟨RX9, "within", "(III)Z"⟩
abbrev cX9_onMap : ByteArray := prog_1_method_30_code
def yX9_onMap : MethodName := ⟨RX9, "onMap", "(II)Z"⟩
abbrev cX9_isRank : ByteArray := prog_1_method_31_code
def yX9_isRank : MethodName := ⟨RX9, "isRank", "(I)Z"⟩
abbrev cX9_isHalo : ByteArray := prog_1_method_32_code
def yX9_isHalo : MethodName := ⟨RX9, "isHalo", "(I)Z"⟩
abbrev cX9_isPlaceNumber : ByteArray := prog_1_method_33_code
def yX9_isPlaceNumber : MethodName := ⟨RX9, "isPlaceNumber", "(I)Z"⟩
abbrev cX10_init : ByteArray := prog_12_method_1_code
def yX10_init : MethodName := ⟨RX10, "<init>", "()V"⟩
abbrev cX10_in : ByteArray := prog_12_method_2_code
def yX10_in : MethodName := ⟨RX10, "in", "(III)Z"⟩
abbrev cX10_records : ByteArray := prog_12_method_3_code
def yX10_records : MethodName := ⟨RX10, "records", "()V"⟩
abbrev cX10_undo : ByteArray := prog_12_method_4_code
def yX10_undo : MethodName := ⟨RX10, "undo", "()I"⟩
abbrev cX10_isRiver : ByteArray := prog_12_method_5_code
def yX10_isRiver : MethodName := ⟨RX10, "isRiver", "(I)Z"⟩
abbrev cX10_riverAt : ByteArray := prog_12_method_6_code
def yX10_riverAt : MethodName := ⟨RX10, "riverAt", "(I)I"⟩
abbrev cX10_of : ByteArray := prog_12_method_7_code
def yX10_of : MethodName := ⟨RX10, "of", "(II)I"⟩
abbrev cX10_stepX : ByteArray := prog_12_method_8_code
def yX10_stepX : MethodName := ⟨RX10, "stepX", "(I)I"⟩
abbrev cX10_stepY : ByteArray := prog_12_method_9_code
def yX10_stepY : MethodName := ⟨RX10, "stepY", "(I)I"⟩
abbrev cX10_isOnMap : ByteArray := prog_12_method_10_code
def yX10_isOnMap : MethodName := ⟨RX10, "isOnMap", "(II)Z"⟩
abbrev cX10_walks : ByteArray := prog_12_method_11_code
def yX10_walks : MethodName := ⟨RX10, "walks", "(I)V"⟩
abbrev cX10_isRank : ByteArray := prog_12_method_12_code
def yX10_isRank : MethodName := ⟨RX10, "isRank", "(I)Z"⟩
abbrev cX10_isHalo : ByteArray := prog_12_method_13_code
def yX10_isHalo : MethodName := ⟨RX10, "isHalo", "(I)Z"⟩
abbrev cX10_comesRiver : ByteArray := prog_12_method_14_code
def yX10_comesRiver : MethodName := ⟨RX10, "comesRiver", "(IIIII)I"⟩
abbrev cX10_addRiver : ByteArray := prog_12_method_15_code
def yX10_addRiver : MethodName := ⟨RX10, "addRiver", "(IIIII)I"⟩
abbrev cX10_isTown : ByteArray := prog_12_method_16_code
def yX10_isTown : MethodName := ⟨RX10, "isTown", "(IIII)Z"⟩
abbrev cX10_comesTown : ByteArray := prog_12_method_17_code
def yX10_comesTown : MethodName := ⟨RX10, "comesTown", "(IIIII)I"⟩
abbrev cX10_addTown : ByteArray := prog_12_method_18_code
def yX10_addTown : MethodName := ⟨RX10, "addTown", "(IIIII)I"⟩
abbrev cX10_lengthens : ByteArray := prog_12_method_19_code
def yX10_lengthens : MethodName := ⟨RX10, "lengthens", "(II)V"⟩
abbrev cX10_flow : ByteArray := prog_12_method_20_code
def yX10_flow : MethodName := ⟨RX10, "flow", "(II)I"⟩
abbrev cX10_puts : ByteArray := prog_12_method_21_code
def yX10_puts : MethodName := ⟨RX10, "puts", "(II)I"⟩
abbrev cX10_setRank : ByteArray := prog_12_method_22_code
def yX10_setRank : MethodName := ⟨RX10, "setRank", "(II)I"⟩
abbrev cX10_setHalo : ByteArray := prog_12_method_23_code
def yX10_setHalo : MethodName := ⟨RX10, "setHalo", "(II)I"⟩
abbrev cX10_isTownNumber : ByteArray := prog_12_method_24_code
def yX10_isTownNumber : MethodName := ⟨RX10, "isTownNumber", "(I)Z"⟩
abbrev cX10_setTownRank : ByteArray := prog_12_method_25_code
def yX10_setTownRank : MethodName := ⟨RX10, "setTownRank", "(II)I"⟩
abbrev cX10_setGap : ByteArray := prog_12_method_26_code
def yX10_setGap : MethodName := ⟨RX10, "setGap", "(I)I"⟩
abbrev cX10_turn : ByteArray := prog_12_method_27_code
def yX10_turn : MethodName := ⟨RX10, "turn", "(II)I"⟩
abbrev cX10_bendOf : ByteArray := prog_12_method_28_code
def yX10_bendOf : MethodName := ⟨RX10, "bendOf", "(III)I"⟩
abbrev cX10_hasPlaces : ByteArray := prog_12_method_29_code
def yX10_hasPlaces : MethodName := ⟨RX10, "hasPlaces", "(III)Z"⟩
abbrev cX10_cost : ByteArray := prog_12_method_30_code
def yX10_cost : MethodName := ⟨RX10, "cost", "(II)I"⟩
abbrev cX10_isTurned : ByteArray := prog_12_method_31_code
def yX10_isTurned : MethodName := ⟨RX10, "isTurned", "(II)Z"⟩
abbrev cX10_marks : ByteArray := prog_12_method_32_code
def yX10_marks : MethodName := ⟨RX10, "marks", "(II)I"⟩
abbrev cX10_marksMore : ByteArray := prog_12_method_33_code
def yX10_marksMore : MethodName := ⟨RX10, "marksMore", "(II)I"⟩
abbrev cX10_meetsLabel : ByteArray := prog_12_method_34_code
def yX10_meetsLabel : MethodName := ⟨RX10, "meetsLabel", "(I)Z"⟩
abbrev cX10_meetsTown : ByteArray := prog_12_method_35_code
def yX10_meetsTown : MethodName := ⟨RX10, "meetsTown", "(I)Z"⟩
abbrev cX10_why : ByteArray := prog_12_method_36_code
def yX10_why : MethodName := ⟨RX10, "why", "(IIII)I"⟩
abbrev cX10_whyLabel : ByteArray := prog_12_method_37_code
def yX10_whyLabel : MethodName := ⟨RX10, "whyLabel", "(I)I"⟩
abbrev cX10_bestStart : ByteArray := prog_12_method_38_code
def yX10_bestStart : MethodName := ⟨RX10, "bestStart", "(I)I"⟩
abbrev cX10_isLabel : ByteArray := prog_12_method_39_code
def yX10_isLabel : MethodName := ⟨RX10, "isLabel", "(I)Z"⟩
abbrev cX10_comesLabel : ByteArray := prog_12_method_40_code
def yX10_comesLabel : MethodName := ⟨RX10, "comesLabel", "(II)I"⟩
abbrev cX10_isStart : ByteArray := prog_12_method_41_code
def yX10_isStart : MethodName := ⟨RX10, "isStart", "(I)Z"⟩
abbrev cX10_set : ByteArray := prog_12_method_42_code
def yX10_set : MethodName := ⟨RX10, "set", "(II)I"⟩
abbrev cX10_goesLabel : ByteArray := prog_12_method_43_code
def yX10_goesLabel : MethodName := ⟨RX10, "goesLabel", "(I)V"⟩
abbrev cX10_remove : ByteArray := prog_12_method_44_code
def yX10_remove : MethodName := ⟨RX10, "remove", "(I)I"⟩
abbrev cX10_place : ByteArray := prog_12_method_45_code
def yX10_place : MethodName := ⟨RX10, "place", "(I)I"⟩
abbrev cX10_tidy : ByteArray := prog_12_method_46_code
def yX10_tidy : MethodName := ⟨RX10, "tidy", "()I"⟩
abbrev cX10_costs : ByteArray := prog_12_method_47_code
def yX10_costs : MethodName := ⟨RX10, "costs", "()I"⟩
abbrev cX10_wrong : ByteArray := prog_12_method_48_code
def yX10_wrong : MethodName := ⟨RX10, "wrong", "()I"⟩
abbrev cX10_labelsOf : ByteArray := prog_12_method_49_code
def yX10_labelsOf : MethodName := ⟨RX10, "labelsOf", "(I)I"⟩
abbrev cX10_without : ByteArray := prog_12_method_50_code
def yX10_without : MethodName := ⟨RX10, "without", "()I"⟩
abbrev cX10_covered : ByteArray := prog_12_method_51_code
def yX10_covered : MethodName := ⟨RX10, "covered", "()I"⟩
abbrev cX10_count : ByteArray := prog_12_method_52_code
def yX10_count : MethodName := ⟨RX10, "count", "(I)I"⟩
abbrev cX10_differentCells : ByteArray := prog_12_method_53_code
def yX10_differentCells : MethodName := ⟨RX10, "differentCells", "(I)I"⟩
abbrev cX10_river : ByteArray := prog_12_method_54_code
def yX10_river : MethodName := ⟨RX10, "river", "(II)I"⟩
abbrev cX10_cell : ByteArray := prog_12_method_55_code
def yX10_cell : MethodName := ⟨RX10, "cell", "(II)I"⟩
abbrev cX10_letter : ByteArray := prog_12_method_56_code
def yX10_letter : MethodName := ⟨RX10, "letter", "(II)I"⟩
abbrev cX10_town : ByteArray := prog_12_method_57_code
def yX10_town : MethodName := ⟨RX10, "town", "(II)I"⟩
abbrev cX10_townsOf : ByteArray := prog_12_method_58_code
def yX10_townsOf : MethodName := ⟨RX10, "townsOf", "(II)I"⟩
abbrev cX10_label : ByteArray := prog_12_method_59_code
def yX10_label : MethodName := ⟨RX10, "label", "(II)I"⟩
abbrev cX10_placeOn : ByteArray := prog_12_method_60_code
def yX10_placeOn : MethodName := ⟨RX10, "placeOn", "(III)I"⟩
abbrev cX10_written : ByteArray := prog_12_method_61_code
def yX10_written : MethodName := ⟨RX10, "written", "(II)I"⟩
abbrev cX10_bend : ByteArray := prog_12_method_62_code
def yX10_bend : MethodName := ⟨RX10, "bend", "(III)I"⟩
abbrev cX10_straightest : ByteArray := prog_12_method_63_code
def yX10_straightest : MethodName := ⟨RX10, "straightest", "(II)I"⟩
abbrev cX10_reason : ByteArray := prog_12_method_64_code
def yX10_reason : MethodName := ⟨RX10, "reason", "(II)I"⟩
abbrev cX10_best : ByteArray := prog_12_method_65_code
def yX10_best : MethodName := ⟨RX10, "best", "(II)I"⟩
abbrev cX10_rankFor : ByteArray := prog_12_method_66_code
def yX10_rankFor : MethodName := ⟨RX10, "rankFor", "(I)I"⟩
abbrev cX10_append : ByteArray := prog_12_method_67_code
def yX10_append : MethodName := ⟨RX10, "append", "(I)I"⟩
abbrev cX10_clearText : ByteArray := prog_12_method_68_code
def yX10_clearText : MethodName := ⟨RX10, "clearText", "()I"⟩
abbrev cX10_isSort : ByteArray := prog_12_method_69_code
def yX10_isSort : MethodName := ⟨RX10, "isSort", "(III)Z"⟩
abbrev cX10_nextToken : ByteArray := prog_12_method_70_code
def yX10_nextToken : MethodName := ⟨RX10, "nextToken", "()V"⟩
abbrev cX10_isNameToken : ByteArray := prog_12_method_71_code
def yX10_isNameToken : MethodName := ⟨RX10, "isNameToken", "()Z"⟩
abbrev cX10_isRiverWord : ByteArray := prog_12_method_72_code
def yX10_isRiverWord : MethodName := ⟨RX10, "isRiverWord", "()Z"⟩
abbrev cX10_isTownWord : ByteArray := prog_12_method_73_code
def yX10_isTownWord : MethodName := ⟨RX10, "isTownWord", "()Z"⟩
abbrev cX10_takesNumber : ByteArray := prog_12_method_74_code
def yX10_takesNumber : MethodName := ⟨RX10, "takesNumber", "(II)Z"⟩
abbrev cX10_takesSemicolon : ByteArray := prog_12_method_75_code
def yX10_takesSemicolon : MethodName := ⟨RX10, "takesSemicolon", "()Z"⟩
abbrev cX10_takesMoves : ByteArray := prog_12_method_76_code
def yX10_takesMoves : MethodName := ⟨RX10, "takesMoves", "()Z"⟩
abbrev cX10_takesRiver : ByteArray := prog_12_method_77_code
def yX10_takesRiver : MethodName := ⟨RX10, "takesRiver", "()Z"⟩
abbrev cX10_takesTown : ByteArray := prog_12_method_78_code
def yX10_takesTown : MethodName := ⟨RX10, "takesTown", "()Z"⟩
abbrev cX10_load : ByteArray := prog_12_method_79_code
def yX10_load : MethodName := ⟨RX10, "load", "()I"⟩
abbrev cX10_keeps : ByteArray := prog_12_method_80_code
def yX10_keeps : MethodName := ⟨RX10, "keeps", "()V"⟩
abbrev cX10_takesBack : ByteArray := prog_12_method_81_code
def yX10_takesBack : MethodName := ⟨RX10, "takesBack", "()V"⟩
abbrev cJ9_abs_0f7a4 : ByteArray := prog_13_method_59_code
def yJ9_abs_0f7a4 : MethodName := ⟨RJ9, "abs", "(I)I"⟩
abbrev cJ9_max_7cf53 : ByteArray := prog_13_method_65_code
def yJ9_max_7cf53 : MethodName := ⟨RJ9, "max", "(II)I"⟩
abbrev cJ9_min_7cf53 : ByteArray := prog_13_method_69_code
def yJ9_min_7cf53 : MethodName := ⟨RJ9, "min", "(II)I"⟩
abbrev cJ0_length_8abf5 : ByteArray := prog_14_method_54_code
def yJ0_length_8abf5 : MethodName := ⟨RJ0, "length", "()I"⟩
abbrev cJ0_charAt_5068e : ByteArray := prog_14_method_56_code
def yJ0_charAt_5068e : MethodName := ⟨RJ0, "charAt", "(I)C"⟩
abbrev cJ0_coder_7d493 : ByteArray := prog_14_method_152_code
def yJ0_coder_7d493 : MethodName := ⟨RJ0, "coder", "()B"⟩
abbrev cJ0_isLatin1_aae02 : ByteArray := prog_14_method_154_code
def yJ0_isLatin1_aae02 : MethodName := ⟨RJ0, "isLatin1", "()Z"⟩
abbrev cJ0_checkIndex_df160 : ByteArray := prog_14_method_155_code
def yJ0_checkIndex_df160 : MethodName := ⟨RJ0, "checkIndex", "(II)V"⟩
abbrev cJ1_charAt_3b067 : ByteArray := prog_15_method_2_code
def yJ1_charAt_3b067 : MethodName := ⟨RJ1, "charAt", "([BI)C"⟩
abbrev cJ7_fill_53178 : ByteArray := prog_18_method_103_code
def yJ7_fill_53178 : MethodName := ⟨RJ7, "fill", "([II)V"⟩
abbrev cJ3_checkIndex_8e157 : ByteArray := prog_19_method_11_code
def yJ3_checkIndex_8e157 : MethodName := ⟨RJ3, "checkIndex", "(IILjava/util/function/BiFunction;)I"⟩
abbrev cL_law : ByteArray := code
def yL_law : MethodName := ⟨RL, "law", "([I)Z"⟩
def rn_cl : List vw_C := [(RX0, TX0, 7), (RX1, TX1, 4), (RX2, TX2, 1), (RX3, TX3, 2), (RX4, TX4, 5), (RX5, TX5, 9), (RX6, TX6, 2), (RX7, TX7, 2), (RX8, TX8, 5), (RX9, TX9, 4), (RX10, TX10, 15)]
def rn_nf : Nat → Nat := fun c => match c with
  | 0 => 7
  | 1 => 4
  | 2 => 1
  | 3 => 2
  | 4 => 5
  | 5 => 9
  | 6 => 2
  | 7 => 2
  | 8 => 5
  | 9 => 4
  | 10 => 15
  | _ => 0
def rn_fk : Nat → Nat → Nat := fun c k => match c with
  | 0 => [0, 0, 0, 0, 2, 2, 2].getD k 0
  | 1 => [0, 2, 2, 2].getD k 0
  | 2 => [2].getD k 0
  | 3 => [2, 0].getD k 0
  | 4 => [2, 0, 0, 0, 1].getD k 0
  | 5 => [0, 0, 0, 0, 0, 2, 2, 2, 2].getD k 0
  | 6 => [0, 2].getD k 0
  | 7 => [0, 2].getD k 0
  | 8 => [0, 0, 0, 0, 0].getD k 0
  | 9 => [2, 2, 2, 2].getD k 0
  | 10 => [2, 2, 0, 2, 0, 2, 2, 2, 0, 0, 0, 0, 2, 2, 2].getD k 0
  | _ => 0
def rn_cn : Nat → String := fun c => match c with
  | 0 => RX0
  | 1 => RX1
  | 2 => RX2
  | 3 => RX3
  | 4 => RX4
  | 5 => RX5
  | 6 => RX6
  | 7 => RX7
  | 8 => RX8
  | 9 => RX9
  | _ => RX10
theorem rn_in0 : ∀ w ∈ wsX00, w ∈ lw_tbl := by decide +kernel
theorem rn_in1 : ∀ w ∈ wsX10, w ∈ lw_tbl := by decide +kernel
theorem rn_in2 : ∀ w ∈ wsX20, w ∈ lw_tbl := by decide +kernel
theorem rn_in3 : ∀ w ∈ wsX30, w ∈ lw_tbl := by decide +kernel
theorem rn_in4 : ∀ w ∈ wsX40, w ∈ lw_tbl := by decide +kernel
theorem rn_in5 : ∀ w ∈ wsX50, w ∈ lw_tbl := by decide +kernel
theorem rn_in6 : ∀ w ∈ wsX60, w ∈ lw_tbl := by decide +kernel
theorem rn_in7 : ∀ w ∈ wsX70, w ∈ lw_tbl := by decide +kernel
theorem rn_in8 : ∀ w ∈ wsX80, w ∈ lw_tbl := by decide +kernel
theorem rn_in9 : ∀ w ∈ wsX90, w ∈ lw_tbl := by decide +kernel
theorem rn_in10 : ∀ w ∈ wsX100, w ∈ lw_tbl := by decide +kernel
