-- ===== PART A: goes FIRST, ahead of the names: the tables' words, and 'selects' of the private methods out of them =====
/-- a private method of a class that the tables say can be made, by its rows of tables_1 -/
def lw_okq (q : MethodName × Nat) : Prop := (q.1.cls ≠ "java/lang/invoke/MethodHandle" ∧ q.1.cls ≠ "java/lang/invoke/VarHandle") ∧ Cond.instantiable q.1.cls q.2 ∈ tables_1 ∧ Cond.privateMethod q.1 ∈ tables_1 ∧ Cond.instanceMethod q.1 ∈ tables_1
theorem lw_p0 : lw_okq (⟨"FlowerPots", "feedFour", "(I)Z"⟩, 17) := ⟨⟨by decide +kernel, by decide +kernel⟩, List.mem_of_getElem? (i := 32) (by decide +kernel), List.mem_of_getElem? (i := 404) (by decide +kernel), List.mem_of_getElem? (i := 405) (by decide +kernel)⟩
theorem lw_p1 : lw_okq (⟨"FlowerPots", "readerOf", "(I)LFlowerPots$Reader;"⟩, 17) := ⟨⟨by decide +kernel, by decide +kernel⟩, List.mem_of_getElem? (i := 32) (by decide +kernel), List.mem_of_getElem? (i := 424) (by decide +kernel), List.mem_of_getElem? (i := 425) (by decide +kernel)⟩
theorem lw_p2 : lw_okq (⟨"FlowerPots$BookReader", "readClause", "(I)V"⟩, 5) := ⟨⟨by decide +kernel, by decide +kernel⟩, List.mem_of_getElem? (i := 90) (by decide +kernel), List.mem_of_getElem? (i := 456) (by decide +kernel), List.mem_of_getElem? (i := 457) (by decide +kernel)⟩
theorem lw_p3 : lw_okq (⟨"FlowerPots$LightReader", "readClause", "()V"⟩, 10) := ⟨⟨by decide +kernel, by decide +kernel⟩, List.mem_of_getElem? (i := 141) (by decide +kernel), List.mem_of_getElem? (i := 543) (by decide +kernel), List.mem_of_getElem? (i := 544) (by decide +kernel)⟩
theorem lw_p4 : lw_okq (⟨"FlowerPots$LightReader", "readSum", "(I)J"⟩, 10) := ⟨⟨by decide +kernel, by decide +kernel⟩, List.mem_of_getElem? (i := 141) (by decide +kernel), List.mem_of_getElem? (i := 553) (by decide +kernel), List.mem_of_getElem? (i := 554) (by decide +kernel)⟩
theorem lw_p5 : lw_okq (⟨"FlowerPots$LightReader", "readTerm", "(I)J"⟩, 10) := ⟨⟨by decide +kernel, by decide +kernel⟩, List.mem_of_getElem? (i := 141) (by decide +kernel), List.mem_of_getElem? (i := 557) (by decide +kernel), List.mem_of_getElem? (i := 558) (by decide +kernel)⟩
theorem lw_p6 : lw_okq (⟨"FlowerPots$LightReader", "readAtom", "(I)J"⟩, 10) := ⟨⟨by decide +kernel, by decide +kernel⟩, List.mem_of_getElem? (i := 141) (by decide +kernel), List.mem_of_getElem? (i := 561) (by decide +kernel), List.mem_of_getElem? (i := 562) (by decide +kernel)⟩
theorem lw_p7 : lw_okq (⟨"FlowerPots$LightReader", "readCondition", "(IZJ)Z"⟩, 10) := ⟨⟨by decide +kernel, by decide +kernel⟩, List.mem_of_getElem? (i := 141) (by decide +kernel), List.mem_of_getElem? (i := 592) (by decide +kernel), List.mem_of_getElem? (i := 593) (by decide +kernel)⟩
theorem lw_p8 : lw_okq (⟨"FlowerPots$LightReader", "readTruth", "(IZJ)Z"⟩, 10) := ⟨⟨by decide +kernel, by decide +kernel⟩, List.mem_of_getElem? (i := 141) (by decide +kernel), List.mem_of_getElem? (i := 596) (by decide +kernel), List.mem_of_getElem? (i := 597) (by decide +kernel)⟩
theorem lw_p9 : lw_okq (⟨"FlowerPots$LightReader", "readUnit", "(IZJ)Z"⟩, 10) := ⟨⟨by decide +kernel, by decide +kernel⟩, List.mem_of_getElem? (i := 141) (by decide +kernel), List.mem_of_getElem? (i := 600) (by decide +kernel), List.mem_of_getElem? (i := 601) (by decide +kernel)⟩
theorem lw_p10 : lw_okq (⟨"FlowerPots$SillReader", "readItem", "()V"⟩, 8) := ⟨⟨by decide +kernel, by decide +kernel⟩, List.mem_of_getElem? (i := 56) (by decide +kernel), List.mem_of_getElem? (i := 628) (by decide +kernel), List.mem_of_getElem? (i := 629) (by decide +kernel)⟩
theorem lw_p11 : lw_okq (⟨"FlowerPots", "isFull", "(I)Z"⟩, 17) := ⟨⟨by decide +kernel, by decide +kernel⟩, List.mem_of_getElem? (i := 32) (by decide +kernel), List.mem_of_getElem? (i := 662) (by decide +kernel), List.mem_of_getElem? (i := 663) (by decide +kernel)⟩
theorem lw_p12 : lw_okq (⟨"FlowerPots", "keepText", "(I)I"⟩, 17) := ⟨⟨by decide +kernel, by decide +kernel⟩, List.mem_of_getElem? (i := 32) (by decide +kernel), List.mem_of_getElem? (i := 670) (by decide +kernel), List.mem_of_getElem? (i := 671) (by decide +kernel)⟩
theorem lw_p13 : lw_okq (⟨"FlowerPots", "beginSill", "()I"⟩, 17) := ⟨⟨by decide +kernel, by decide +kernel⟩, List.mem_of_getElem? (i := 32) (by decide +kernel), List.mem_of_getElem? (i := 674) (by decide +kernel), List.mem_of_getElem? (i := 675) (by decide +kernel)⟩
theorem lw_p14 : lw_okq (⟨"FlowerPots$Rows", "layPots", "(I)V"⟩, 8) := ⟨⟨by decide +kernel, by decide +kernel⟩, List.mem_of_getElem? (i := 196) (by decide +kernel), List.mem_of_getElem? (i := 687) (by decide +kernel), List.mem_of_getElem? (i := 688) (by decide +kernel)⟩
theorem lw_p15 : lw_okq (⟨"FlowerPots$Rows", "layNeighbors", "(I)V"⟩, 8) := ⟨⟨by decide +kernel, by decide +kernel⟩, List.mem_of_getElem? (i := 196) (by decide +kernel), List.mem_of_getElem? (i := 691) (by decide +kernel), List.mem_of_getElem? (i := 692) (by decide +kernel)⟩
def lw_privs_1 : List (MethodName × Nat) := [(⟨"FlowerPots", "feedFour", "(I)Z"⟩, 17), (⟨"FlowerPots", "readerOf", "(I)LFlowerPots$Reader;"⟩, 17), (⟨"FlowerPots$BookReader", "readClause", "(I)V"⟩, 5), (⟨"FlowerPots$LightReader", "readClause", "()V"⟩, 10), (⟨"FlowerPots$LightReader", "readSum", "(I)J"⟩, 10), (⟨"FlowerPots$LightReader", "readTerm", "(I)J"⟩, 10), (⟨"FlowerPots$LightReader", "readAtom", "(I)J"⟩, 10), (⟨"FlowerPots$LightReader", "readCondition", "(IZJ)Z"⟩, 10), (⟨"FlowerPots$LightReader", "readTruth", "(IZJ)Z"⟩, 10), (⟨"FlowerPots$LightReader", "readUnit", "(IZJ)Z"⟩, 10), (⟨"FlowerPots$SillReader", "readItem", "()V"⟩, 8), (⟨"FlowerPots", "isFull", "(I)Z"⟩, 17), (⟨"FlowerPots", "keepText", "(I)I"⟩, 17), (⟨"FlowerPots", "beginSill", "()I"⟩, 17), (⟨"FlowerPots$Rows", "layPots", "(I)V"⟩, 8), (⟨"FlowerPots$Rows", "layNeighbors", "(I)V"⟩, 8)]
theorem lw_r1 : ∀ q ∈ lw_privs_1, lw_okq q := List.forall_mem_cons.mpr ⟨lw_p0, List.forall_mem_cons.mpr ⟨lw_p1, List.forall_mem_cons.mpr ⟨lw_p2, List.forall_mem_cons.mpr ⟨lw_p3, List.forall_mem_cons.mpr ⟨lw_p4, List.forall_mem_cons.mpr ⟨lw_p5, List.forall_mem_cons.mpr ⟨lw_p6, List.forall_mem_cons.mpr ⟨lw_p7, List.forall_mem_cons.mpr ⟨lw_p8, List.forall_mem_cons.mpr ⟨lw_p9, List.forall_mem_cons.mpr ⟨lw_p10, List.forall_mem_cons.mpr ⟨lw_p11, List.forall_mem_cons.mpr ⟨lw_p12, List.forall_mem_cons.mpr ⟨lw_p13, List.forall_mem_cons.mpr ⟨lw_p14, List.forall_mem_cons.mpr ⟨lw_p15, fun _ h => absurd h List.not_mem_nil⟩⟩⟩⟩⟩⟩⟩⟩⟩⟩⟩⟩⟩⟩⟩⟩
theorem lw_p16 : lw_okq (⟨"FlowerPots$Rows", "addNeighbor", "(II)V"⟩, 8) := ⟨⟨by decide +kernel, by decide +kernel⟩, List.mem_of_getElem? (i := 196) (by decide +kernel), List.mem_of_getElem? (i := 707) (by decide +kernel), List.mem_of_getElem? (i := 708) (by decide +kernel)⟩
theorem lw_p17 : lw_okq (⟨"FlowerPots$Book", "firstFit", "(LFlowerPots$Rows;I)I"⟩, 4) := ⟨⟨by decide +kernel, by decide +kernel⟩, List.mem_of_getElem? (i := 96) (by decide +kernel), List.mem_of_getElem? (i := 768) (by decide +kernel), List.mem_of_getElem? (i := 769) (by decide +kernel)⟩
theorem lw_p18 : lw_okq (⟨"FlowerPots$Book", "fits", "(LFlowerPots$Rows;II)Z"⟩, 4) := ⟨⟨by decide +kernel, by decide +kernel⟩, List.mem_of_getElem? (i := 96) (by decide +kernel), List.mem_of_getElem? (i := 773) (by decide +kernel), List.mem_of_getElem? (i := 774) (by decide +kernel)⟩
theorem lw_p19 : lw_okq (⟨"java/util/ArrayList", "add", "(Ljava/lang/Object;[Ljava/lang/Object;I)V"⟩, 3) := ⟨⟨by decide +kernel, by decide +kernel⟩, List.mem_of_getElem? (i := 170) (by decide +kernel), List.mem_of_getElem? (i := 805) (by decide +kernel), List.mem_of_getElem? (i := 806) (by decide +kernel)⟩
theorem lw_p20 : lw_okq (⟨"java/util/ArrayList", "grow", "()[Ljava/lang/Object;"⟩, 3) := ⟨⟨by decide +kernel, by decide +kernel⟩, List.mem_of_getElem? (i := 170) (by decide +kernel), List.mem_of_getElem? (i := 809) (by decide +kernel), List.mem_of_getElem? (i := 810) (by decide +kernel)⟩
theorem lw_p21 : lw_okq (⟨"java/util/ArrayList", "grow", "(I)[Ljava/lang/Object;"⟩, 3) := ⟨⟨by decide +kernel, by decide +kernel⟩, List.mem_of_getElem? (i := 170) (by decide +kernel), List.mem_of_getElem? (i := 813) (by decide +kernel), List.mem_of_getElem? (i := 814) (by decide +kernel)⟩
theorem lw_p22 : lw_okq (⟨"FlowerPots", "hasSill", "()Z"⟩, 17) := ⟨⟨by decide +kernel, by decide +kernel⟩, List.mem_of_getElem? (i := 32) (by decide +kernel), List.mem_of_getElem? (i := 887) (by decide +kernel), List.mem_of_getElem? (i := 888) (by decide +kernel)⟩
theorem lw_p23 : lw_okq (⟨"FlowerPots$Window", "noteAct", "()V"⟩, 11) := ⟨⟨by decide +kernel, by decide +kernel⟩, List.mem_of_getElem? (i := 229) (by decide +kernel), List.mem_of_getElem? (i := 925) (by decide +kernel), List.mem_of_getElem? (i := 926) (by decide +kernel)⟩
theorem lw_p24 : lw_okq (⟨"FlowerPots", "bookOf", "(I)LFlowerPots$Book;"⟩, 17) := ⟨⟨by decide +kernel, by decide +kernel⟩, List.mem_of_getElem? (i := 32) (by decide +kernel), List.mem_of_getElem? (i := 947) (by decide +kernel), List.mem_of_getElem? (i := 948) (by decide +kernel)⟩
theorem lw_p25 : lw_okq (⟨"FlowerPots$Roads", "looksRight", "(II)Z"⟩, 7) := ⟨⟨by decide +kernel, by decide +kernel⟩, List.mem_of_getElem? (i := 271) (by decide +kernel), List.mem_of_getElem? (i := 1012) (by decide +kernel), List.mem_of_getElem? (i := 1013) (by decide +kernel)⟩
theorem lw_p26 : lw_okq (⟨"FlowerPots$Roads", "pack", "(I)V"⟩, 7) := ⟨⟨by decide +kernel, by decide +kernel⟩, List.mem_of_getElem? (i := 271) (by decide +kernel), List.mem_of_getElem? (i := 1018) (by decide +kernel), List.mem_of_getElem? (i := 1019) (by decide +kernel)⟩
theorem lw_p27 : lw_okq (⟨"FlowerPots", "lookFromNow", "(Z)V"⟩, 17) := ⟨⟨by decide +kernel, by decide +kernel⟩, List.mem_of_getElem? (i := 32) (by decide +kernel), List.mem_of_getElem? (i := 1031) (by decide +kernel), List.mem_of_getElem? (i := 1032) (by decide +kernel)⟩
theorem lw_p28 : lw_okq (⟨"FlowerPots", "nearestOf", "(LFlowerPots$Book;ILFlowerPots$Book;II)I"⟩, 17) := ⟨⟨by decide +kernel, by decide +kernel⟩, List.mem_of_getElem? (i := 32) (by decide +kernel), List.mem_of_getElem? (i := 1040) (by decide +kernel), List.mem_of_getElem? (i := 1041) (by decide +kernel)⟩
theorem lw_p29 : lw_okq (⟨"FlowerPots", "lettersOf", "(LFlowerPots$Book;)I"⟩, 17) := ⟨⟨by decide +kernel, by decide +kernel⟩, List.mem_of_getElem? (i := 32) (by decide +kernel), List.mem_of_getElem? (i := 1057) (by decide +kernel), List.mem_of_getElem? (i := 1058) (by decide +kernel)⟩
theorem lw_p30 : lw_okq (⟨"FlowerPots", "wordOf", "(I)LFlowerPots$Numbers;"⟩, 17) := ⟨⟨by decide +kernel, by decide +kernel⟩, List.mem_of_getElem? (i := 32) (by decide +kernel), List.mem_of_getElem? (i := 1065) (by decide +kernel), List.mem_of_getElem? (i := 1066) (by decide +kernel)⟩
theorem lw_p31 : lw_okq (⟨"FlowerPots$Plans", "cheapest", "(I)I"⟩, 11) := ⟨⟨by decide +kernel, by decide +kernel⟩, List.mem_of_getElem? (i := 301) (by decide +kernel), List.mem_of_getElem? (i := 1079) (by decide +kernel), List.mem_of_getElem? (i := 1080) (by decide +kernel)⟩
def lw_privs_2 : List (MethodName × Nat) := [(⟨"FlowerPots$Rows", "addNeighbor", "(II)V"⟩, 8), (⟨"FlowerPots$Book", "firstFit", "(LFlowerPots$Rows;I)I"⟩, 4), (⟨"FlowerPots$Book", "fits", "(LFlowerPots$Rows;II)Z"⟩, 4), (⟨"java/util/ArrayList", "add", "(Ljava/lang/Object;[Ljava/lang/Object;I)V"⟩, 3), (⟨"java/util/ArrayList", "grow", "()[Ljava/lang/Object;"⟩, 3), (⟨"java/util/ArrayList", "grow", "(I)[Ljava/lang/Object;"⟩, 3), (⟨"FlowerPots", "hasSill", "()Z"⟩, 17), (⟨"FlowerPots$Window", "noteAct", "()V"⟩, 11), (⟨"FlowerPots", "bookOf", "(I)LFlowerPots$Book;"⟩, 17), (⟨"FlowerPots$Roads", "looksRight", "(II)Z"⟩, 7), (⟨"FlowerPots$Roads", "pack", "(I)V"⟩, 7), (⟨"FlowerPots", "lookFromNow", "(Z)V"⟩, 17), (⟨"FlowerPots", "nearestOf", "(LFlowerPots$Book;ILFlowerPots$Book;II)I"⟩, 17), (⟨"FlowerPots", "lettersOf", "(LFlowerPots$Book;)I"⟩, 17), (⟨"FlowerPots", "wordOf", "(I)LFlowerPots$Numbers;"⟩, 17), (⟨"FlowerPots$Plans", "cheapest", "(I)I"⟩, 11)]
theorem lw_r2 : ∀ q ∈ lw_privs_2, lw_okq q := List.forall_mem_cons.mpr ⟨lw_p16, List.forall_mem_cons.mpr ⟨lw_p17, List.forall_mem_cons.mpr ⟨lw_p18, List.forall_mem_cons.mpr ⟨lw_p19, List.forall_mem_cons.mpr ⟨lw_p20, List.forall_mem_cons.mpr ⟨lw_p21, List.forall_mem_cons.mpr ⟨lw_p22, List.forall_mem_cons.mpr ⟨lw_p23, List.forall_mem_cons.mpr ⟨lw_p24, List.forall_mem_cons.mpr ⟨lw_p25, List.forall_mem_cons.mpr ⟨lw_p26, List.forall_mem_cons.mpr ⟨lw_p27, List.forall_mem_cons.mpr ⟨lw_p28, List.forall_mem_cons.mpr ⟨lw_p29, List.forall_mem_cons.mpr ⟨lw_p30, List.forall_mem_cons.mpr ⟨lw_p31, fun _ h => absurd h List.not_mem_nil⟩⟩⟩⟩⟩⟩⟩⟩⟩⟩⟩⟩⟩⟩⟩⟩
theorem lw_p32 : lw_okq (⟨"FlowerPots$Plans", "movesOf", "(I)I"⟩, 11) := ⟨⟨by decide +kernel, by decide +kernel⟩, List.mem_of_getElem? (i := 301) (by decide +kernel), List.mem_of_getElem? (i := 1092) (by decide +kernel), List.mem_of_getElem? (i := 1093) (by decide +kernel)⟩
theorem lw_p33 : lw_okq (⟨"FlowerPots$Plans", "spread", "()V"⟩, 11) := ⟨⟨by decide +kernel, by decide +kernel⟩, List.mem_of_getElem? (i := 301) (by decide +kernel), List.mem_of_getElem? (i := 1106) (by decide +kernel), List.mem_of_getElem? (i := 1107) (by decide +kernel)⟩
theorem lw_p34 : lw_okq (⟨"FlowerPots", "isSafe", "(LFlowerPots$Book;II)Z"⟩, 17) := ⟨⟨by decide +kernel, by decide +kernel⟩, List.mem_of_getElem? (i := 32) (by decide +kernel), List.mem_of_getElem? (i := 1128) (by decide +kernel), List.mem_of_getElem? (i := 1129) (by decide +kernel)⟩
theorem lw_p35 : lw_okq (⟨"FlowerPots", "stepsToUnlike", "(LFlowerPots$Book;I)I"⟩, 17) := ⟨⟨by decide +kernel, by decide +kernel⟩, List.mem_of_getElem? (i := 32) (by decide +kernel), List.mem_of_getElem? (i := 1136) (by decide +kernel), List.mem_of_getElem? (i := 1137) (by decide +kernel)⟩
theorem lw_p36 : lw_okq (⟨"FlowerPots$Plans", "wasSeen", "(II)Z"⟩, 11) := ⟨⟨by decide +kernel, by decide +kernel⟩, List.mem_of_getElem? (i := 301) (by decide +kernel), List.mem_of_getElem? (i := 1167) (by decide +kernel), List.mem_of_getElem? (i := 1168) (by decide +kernel)⟩
theorem lw_p37 : lw_okq (⟨"FlowerPots$Plans", "waysTo", "(II)J"⟩, 11) := ⟨⟨by decide +kernel, by decide +kernel⟩, List.mem_of_getElem? (i := 301) (by decide +kernel), List.mem_of_getElem? (i := 1172) (by decide +kernel), List.mem_of_getElem? (i := 1173) (by decide +kernel)⟩
theorem lw_p38 : lw_okq (⟨"FlowerPots", "agrees", "(LFlowerPots$Book;)Z"⟩, 17) := ⟨⟨by decide +kernel, by decide +kernel⟩, List.mem_of_getElem? (i := 32) (by decide +kernel), List.mem_of_getElem? (i := 1189) (by decide +kernel), List.mem_of_getElem? (i := 1190) (by decide +kernel)⟩
theorem lw_p39 : lw_okq (⟨"FlowerPots", "tellsApart", "(I)Z"⟩, 17) := ⟨⟨by decide +kernel, by decide +kernel⟩, List.mem_of_getElem? (i := 32) (by decide +kernel), List.mem_of_getElem? (i := 1204) (by decide +kernel), List.mem_of_getElem? (i := 1205) (by decide +kernel)⟩
theorem lw_p40 : lw_okq (⟨"java/lang/Throwable", "fillInStackTrace", "(I)Ljava/lang/Throwable;"⟩, 6) := ⟨⟨by decide +kernel, by decide +kernel⟩, List.mem_of_getElem? (i := 1320) (by decide +kernel), List.mem_of_getElem? (i := 1318) (by decide +kernel), List.mem_of_getElem? (i := 1319) (by decide +kernel)⟩
theorem lw_p41 : lw_okq (⟨"FlowerPotsModel", "pack", "(I)V"⟩, 65) := ⟨⟨by decide +kernel, by decide +kernel⟩, List.mem_of_getElem? (i := 1350) (by decide +kernel), List.mem_of_getElem? (i := 1567) (by decide +kernel), List.mem_of_getElem? (i := 1568) (by decide +kernel)⟩
theorem lw_p42 : lw_okq (⟨"FlowerPotsModel", "readSill", "()V"⟩, 65) := ⟨⟨by decide +kernel, by decide +kernel⟩, List.mem_of_getElem? (i := 1350) (by decide +kernel), List.mem_of_getElem? (i := 1583) (by decide +kernel), List.mem_of_getElem? (i := 1584) (by decide +kernel)⟩
theorem lw_p43 : lw_okq (⟨"FlowerPotsModel", "opens", "([BII)V"⟩, 65) := ⟨⟨by decide +kernel, by decide +kernel⟩, List.mem_of_getElem? (i := 1350) (by decide +kernel), List.mem_of_getElem? (i := 1587) (by decide +kernel), List.mem_of_getElem? (i := 1588) (by decide +kernel)⟩
theorem lw_p44 : lw_okq (⟨"FlowerPotsModel", "takes", "(I)Z"⟩, 65) := ⟨⟨by decide +kernel, by decide +kernel⟩, List.mem_of_getElem? (i := 1350) (by decide +kernel), List.mem_of_getElem? (i := 1591) (by decide +kernel), List.mem_of_getElem? (i := 1592) (by decide +kernel)⟩
theorem lw_p45 : lw_okq (⟨"FlowerPotsModel", "look", "()I"⟩, 65) := ⟨⟨by decide +kernel, by decide +kernel⟩, List.mem_of_getElem? (i := 1350) (by decide +kernel), List.mem_of_getElem? (i := 1595) (by decide +kernel), List.mem_of_getElem? (i := 1596) (by decide +kernel)⟩
theorem lw_p46 : lw_okq (⟨"FlowerPotsModel", "fails", "()Z"⟩, 65) := ⟨⟨by decide +kernel, by decide +kernel⟩, List.mem_of_getElem? (i := 1350) (by decide +kernel), List.mem_of_getElem? (i := 1599) (by decide +kernel), List.mem_of_getElem? (i := 1600) (by decide +kernel)⟩
theorem lw_p47 : lw_okq (⟨"FlowerPotsModel", "digit", "(II)I"⟩, 65) := ⟨⟨by decide +kernel, by decide +kernel⟩, List.mem_of_getElem? (i := 1350) (by decide +kernel), List.mem_of_getElem? (i := 1603) (by decide +kernel), List.mem_of_getElem? (i := 1604) (by decide +kernel)⟩
def lw_privs_3 : List (MethodName × Nat) := [(⟨"FlowerPots$Plans", "movesOf", "(I)I"⟩, 11), (⟨"FlowerPots$Plans", "spread", "()V"⟩, 11), (⟨"FlowerPots", "isSafe", "(LFlowerPots$Book;II)Z"⟩, 17), (⟨"FlowerPots", "stepsToUnlike", "(LFlowerPots$Book;I)I"⟩, 17), (⟨"FlowerPots$Plans", "wasSeen", "(II)Z"⟩, 11), (⟨"FlowerPots$Plans", "waysTo", "(II)J"⟩, 11), (⟨"FlowerPots", "agrees", "(LFlowerPots$Book;)Z"⟩, 17), (⟨"FlowerPots", "tellsApart", "(I)Z"⟩, 17), (⟨"java/lang/Throwable", "fillInStackTrace", "(I)Ljava/lang/Throwable;"⟩, 6), (⟨"FlowerPotsModel", "pack", "(I)V"⟩, 65), (⟨"FlowerPotsModel", "readSill", "()V"⟩, 65), (⟨"FlowerPotsModel", "opens", "([BII)V"⟩, 65), (⟨"FlowerPotsModel", "takes", "(I)Z"⟩, 65), (⟨"FlowerPotsModel", "look", "()I"⟩, 65), (⟨"FlowerPotsModel", "fails", "()Z"⟩, 65), (⟨"FlowerPotsModel", "digit", "(II)I"⟩, 65)]
theorem lw_r3 : ∀ q ∈ lw_privs_3, lw_okq q := List.forall_mem_cons.mpr ⟨lw_p32, List.forall_mem_cons.mpr ⟨lw_p33, List.forall_mem_cons.mpr ⟨lw_p34, List.forall_mem_cons.mpr ⟨lw_p35, List.forall_mem_cons.mpr ⟨lw_p36, List.forall_mem_cons.mpr ⟨lw_p37, List.forall_mem_cons.mpr ⟨lw_p38, List.forall_mem_cons.mpr ⟨lw_p39, List.forall_mem_cons.mpr ⟨lw_p40, List.forall_mem_cons.mpr ⟨lw_p41, List.forall_mem_cons.mpr ⟨lw_p42, List.forall_mem_cons.mpr ⟨lw_p43, List.forall_mem_cons.mpr ⟨lw_p44, List.forall_mem_cons.mpr ⟨lw_p45, List.forall_mem_cons.mpr ⟨lw_p46, List.forall_mem_cons.mpr ⟨lw_p47, fun _ h => absurd h List.not_mem_nil⟩⟩⟩⟩⟩⟩⟩⟩⟩⟩⟩⟩⟩⟩⟩⟩
theorem lw_p48 : lw_okq (⟨"FlowerPotsModel", "isDigit", "()Z"⟩, 65) := ⟨⟨by decide +kernel, by decide +kernel⟩, List.mem_of_getElem? (i := 1350) (by decide +kernel), List.mem_of_getElem? (i := 1607) (by decide +kernel), List.mem_of_getElem? (i := 1608) (by decide +kernel)⟩
theorem lw_p49 : lw_okq (⟨"FlowerPotsModel", "readBook", "()V"⟩, 65) := ⟨⟨by decide +kernel, by decide +kernel⟩, List.mem_of_getElem? (i := 1350) (by decide +kernel), List.mem_of_getElem? (i := 1614) (by decide +kernel), List.mem_of_getElem? (i := 1615) (by decide +kernel)⟩
theorem lw_p50 : lw_okq (⟨"FlowerPotsModel", "isLetter", "()Z"⟩, 65) := ⟨⟨by decide +kernel, by decide +kernel⟩, List.mem_of_getElem? (i := 1350) (by decide +kernel), List.mem_of_getElem? (i := 1618) (by decide +kernel), List.mem_of_getElem? (i := 1619) (by decide +kernel)⟩
theorem lw_p51 : lw_okq (⟨"FlowerPotsModel", "readWord", "()V"⟩, 65) := ⟨⟨by decide +kernel, by decide +kernel⟩, List.mem_of_getElem? (i := 1350) (by decide +kernel), List.mem_of_getElem? (i := 1625) (by decide +kernel), List.mem_of_getElem? (i := 1626) (by decide +kernel)⟩
theorem lw_p52 : lw_okq (⟨"FlowerPotsModel", "goThrough", "([BII)V"⟩, 65) := ⟨⟨by decide +kernel, by decide +kernel⟩, List.mem_of_getElem? (i := 1350) (by decide +kernel), List.mem_of_getElem? (i := 1629) (by decide +kernel), List.mem_of_getElem? (i := 1630) (by decide +kernel)⟩
theorem lw_p53 : lw_okq (⟨"FlowerPotsModel", "clause", "()V"⟩, 65) := ⟨⟨by decide +kernel, by decide +kernel⟩, List.mem_of_getElem? (i := 1350) (by decide +kernel), List.mem_of_getElem? (i := 1633) (by decide +kernel), List.mem_of_getElem? (i := 1634) (by decide +kernel)⟩
theorem lw_p54 : lw_okq (⟨"FlowerPotsModel", "condition", "(ZI)Z"⟩, 65) := ⟨⟨by decide +kernel, by decide +kernel⟩, List.mem_of_getElem? (i := 1350) (by decide +kernel), List.mem_of_getElem? (i := 1686) (by decide +kernel), List.mem_of_getElem? (i := 1687) (by decide +kernel)⟩
theorem lw_p55 : lw_okq (⟨"FlowerPotsModel", "part", "(ZI)Z"⟩, 65) := ⟨⟨by decide +kernel, by decide +kernel⟩, List.mem_of_getElem? (i := 1350) (by decide +kernel), List.mem_of_getElem? (i := 1690) (by decide +kernel), List.mem_of_getElem? (i := 1691) (by decide +kernel)⟩
theorem lw_p56 : lw_okq (⟨"FlowerPotsModel", "compares", "(ZI)Z"⟩, 65) := ⟨⟨by decide +kernel, by decide +kernel⟩, List.mem_of_getElem? (i := 1350) (by decide +kernel), List.mem_of_getElem? (i := 1694) (by decide +kernel), List.mem_of_getElem? (i := 1695) (by decide +kernel)⟩
theorem lw_p57 : lw_okq (⟨"FlowerPotsModel", "sum", "()I"⟩, 65) := ⟨⟨by decide +kernel, by decide +kernel⟩, List.mem_of_getElem? (i := 1350) (by decide +kernel), List.mem_of_getElem? (i := 1698) (by decide +kernel), List.mem_of_getElem? (i := 1699) (by decide +kernel)⟩
theorem lw_p58 : lw_okq (⟨"FlowerPotsModel", "term", "()I"⟩, 65) := ⟨⟨by decide +kernel, by decide +kernel⟩, List.mem_of_getElem? (i := 1350) (by decide +kernel), List.mem_of_getElem? (i := 1702) (by decide +kernel), List.mem_of_getElem? (i := 1703) (by decide +kernel)⟩
theorem lw_p59 : lw_okq (⟨"FlowerPotsModel", "atom", "()I"⟩, 65) := ⟨⟨by decide +kernel, by decide +kernel⟩, List.mem_of_getElem? (i := 1350) (by decide +kernel), List.mem_of_getElem? (i := 1706) (by decide +kernel), List.mem_of_getElem? (i := 1707) (by decide +kernel)⟩
theorem lw_p60 : lw_okq (⟨"FlowerPotsModel", "goesIn", "()Z"⟩, 65) := ⟨⟨by decide +kernel, by decide +kernel⟩, List.mem_of_getElem? (i := 1350) (by decide +kernel), List.mem_of_getElem? (i := 1710) (by decide +kernel), List.mem_of_getElem? (i := 1711) (by decide +kernel)⟩
theorem lw_p61 : lw_okq (⟨"FlowerPotsModel", "unit", "()Z"⟩, 65) := ⟨⟨by decide +kernel, by decide +kernel⟩, List.mem_of_getElem? (i := 1350) (by decide +kernel), List.mem_of_getElem? (i := 1724) (by decide +kernel), List.mem_of_getElem? (i := 1725) (by decide +kernel)⟩
theorem lw_p62 : lw_okq (⟨"FlowerPotsModel", "isRoom", "(I)Z"⟩, 65) := ⟨⟨by decide +kernel, by decide +kernel⟩, List.mem_of_getElem? (i := 1350) (by decide +kernel), List.mem_of_getElem? (i := 1732) (by decide +kernel), List.mem_of_getElem? (i := 1733) (by decide +kernel)⟩
theorem lw_p63 : lw_okq (⟨"FlowerPotsModel", "isPlace", "(I)Z"⟩, 65) := ⟨⟨by decide +kernel, by decide +kernel⟩, List.mem_of_getElem? (i := 1350) (by decide +kernel), List.mem_of_getElem? (i := 1741) (by decide +kernel), List.mem_of_getElem? (i := 1742) (by decide +kernel)⟩
def lw_privs_4 : List (MethodName × Nat) := [(⟨"FlowerPotsModel", "isDigit", "()Z"⟩, 65), (⟨"FlowerPotsModel", "readBook", "()V"⟩, 65), (⟨"FlowerPotsModel", "isLetter", "()Z"⟩, 65), (⟨"FlowerPotsModel", "readWord", "()V"⟩, 65), (⟨"FlowerPotsModel", "goThrough", "([BII)V"⟩, 65), (⟨"FlowerPotsModel", "clause", "()V"⟩, 65), (⟨"FlowerPotsModel", "condition", "(ZI)Z"⟩, 65), (⟨"FlowerPotsModel", "part", "(ZI)Z"⟩, 65), (⟨"FlowerPotsModel", "compares", "(ZI)Z"⟩, 65), (⟨"FlowerPotsModel", "sum", "()I"⟩, 65), (⟨"FlowerPotsModel", "term", "()I"⟩, 65), (⟨"FlowerPotsModel", "atom", "()I"⟩, 65), (⟨"FlowerPotsModel", "goesIn", "()Z"⟩, 65), (⟨"FlowerPotsModel", "unit", "()Z"⟩, 65), (⟨"FlowerPotsModel", "isRoom", "(I)Z"⟩, 65), (⟨"FlowerPotsModel", "isPlace", "(I)Z"⟩, 65)]
theorem lw_r4 : ∀ q ∈ lw_privs_4, lw_okq q := List.forall_mem_cons.mpr ⟨lw_p48, List.forall_mem_cons.mpr ⟨lw_p49, List.forall_mem_cons.mpr ⟨lw_p50, List.forall_mem_cons.mpr ⟨lw_p51, List.forall_mem_cons.mpr ⟨lw_p52, List.forall_mem_cons.mpr ⟨lw_p53, List.forall_mem_cons.mpr ⟨lw_p54, List.forall_mem_cons.mpr ⟨lw_p55, List.forall_mem_cons.mpr ⟨lw_p56, List.forall_mem_cons.mpr ⟨lw_p57, List.forall_mem_cons.mpr ⟨lw_p58, List.forall_mem_cons.mpr ⟨lw_p59, List.forall_mem_cons.mpr ⟨lw_p60, List.forall_mem_cons.mpr ⟨lw_p61, List.forall_mem_cons.mpr ⟨lw_p62, List.forall_mem_cons.mpr ⟨lw_p63, fun _ h => absurd h List.not_mem_nil⟩⟩⟩⟩⟩⟩⟩⟩⟩⟩⟩⟩⟩⟩⟩⟩
theorem lw_p64 : lw_okq (⟨"FlowerPotsModel", "potAt", "(II)I"⟩, 65) := ⟨⟨by decide +kernel, by decide +kernel⟩, List.mem_of_getElem? (i := 1350) (by decide +kernel), List.mem_of_getElem? (i := 1745) (by decide +kernel), List.mem_of_getElem? (i := 1746) (by decide +kernel)⟩
theorem lw_p65 : lw_okq (⟨"FlowerPotsModel", "weightOf", "(I)I"⟩, 65) := ⟨⟨by decide +kernel, by decide +kernel⟩, List.mem_of_getElem? (i := 1350) (by decide +kernel), List.mem_of_getElem? (i := 1749) (by decide +kernel), List.mem_of_getElem? (i := 1750) (by decide +kernel)⟩
theorem lw_p66 : lw_okq (⟨"FlowerPotsModel", "lightOf", "(II)I"⟩, 65) := ⟨⟨by decide +kernel, by decide +kernel⟩, List.mem_of_getElem? (i := 1350) (by decide +kernel), List.mem_of_getElem? (i := 1758) (by decide +kernel), List.mem_of_getElem? (i := 1759) (by decide +kernel)⟩
theorem lw_p67 : lw_okq (⟨"FlowerPotsModel", "manyOf", "(II)I"⟩, 65) := ⟨⟨by decide +kernel, by decide +kernel⟩, List.mem_of_getElem? (i := 1350) (by decide +kernel), List.mem_of_getElem? (i := 1771) (by decide +kernel), List.mem_of_getElem? (i := 1772) (by decide +kernel)⟩
theorem lw_p68 : lw_okq (⟨"FlowerPotsModel", "with", "(III)I"⟩, 65) := ⟨⟨by decide +kernel, by decide +kernel⟩, List.mem_of_getElem? (i := 1350) (by decide +kernel), List.mem_of_getElem? (i := 1775) (by decide +kernel), List.mem_of_getElem? (i := 1776) (by decide +kernel)⟩
theorem lw_p69 : lw_okq (⟨"FlowerPotsModel", "moves", "(I)I"⟩, 65) := ⟨⟨by decide +kernel, by decide +kernel⟩, List.mem_of_getElem? (i := 1350) (by decide +kernel), List.mem_of_getElem? (i := 1779) (by decide +kernel), List.mem_of_getElem? (i := 1780) (by decide +kernel)⟩
theorem lw_p70 : lw_okq (⟨"FlowerPotsModel", "remember", "()V"⟩, 65) := ⟨⟨by decide +kernel, by decide +kernel⟩, List.mem_of_getElem? (i := 1350) (by decide +kernel), List.mem_of_getElem? (i := 1783) (by decide +kernel), List.mem_of_getElem? (i := 1784) (by decide +kernel)⟩
theorem lw_p71 : lw_okq (⟨"FlowerPotsModel", "isBook", "(I)Z"⟩, 65) := ⟨⟨by decide +kernel, by decide +kernel⟩, List.mem_of_getElem? (i := 1350) (by decide +kernel), List.mem_of_getElem? (i := 1799) (by decide +kernel), List.mem_of_getElem? (i := 1800) (by decide +kernel)⟩
theorem lw_p72 : lw_okq (⟨"FlowerPotsModel", "sayOf", "(II)I"⟩, 65) := ⟨⟨by decide +kernel, by decide +kernel⟩, List.mem_of_getElem? (i := 1350) (by decide +kernel), List.mem_of_getElem? (i := 1803) (by decide +kernel), List.mem_of_getElem? (i := 1804) (by decide +kernel)⟩
theorem lw_p73 : lw_okq (⟨"FlowerPotsModel", "putBy", "()V"⟩, 65) := ⟨⟨by decide +kernel, by decide +kernel⟩, List.mem_of_getElem? (i := 1350) (by decide +kernel), List.mem_of_getElem? (i := 1807) (by decide +kernel), List.mem_of_getElem? (i := 1808) (by decide +kernel)⟩
theorem lw_p74 : lw_okq (⟨"FlowerPotsModel", "rowOf", "(I)I"⟩, 65) := ⟨⟨by decide +kernel, by decide +kernel⟩, List.mem_of_getElem? (i := 1350) (by decide +kernel), List.mem_of_getElem? (i := 1819) (by decide +kernel), List.mem_of_getElem? (i := 1820) (by decide +kernel)⟩
theorem lw_p75 : lw_okq (⟨"FlowerPotsModel", "canStand", "(I)Z"⟩, 65) := ⟨⟨by decide +kernel, by decide +kernel⟩, List.mem_of_getElem? (i := 1350) (by decide +kernel), List.mem_of_getElem? (i := 1827) (by decide +kernel), List.mem_of_getElem? (i := 1828) (by decide +kernel)⟩
theorem lw_p76 : lw_okq (⟨"FlowerPotsModel", "layFar", "(I)V"⟩, 65) := ⟨⟨by decide +kernel, by decide +kernel⟩, List.mem_of_getElem? (i := 1350) (by decide +kernel), List.mem_of_getElem? (i := 1831) (by decide +kernel), List.mem_of_getElem? (i := 1832) (by decide +kernel)⟩
theorem lw_p77 : lw_okq (⟨"FlowerPotsModel", "layNext", "(I)V"⟩, 65) := ⟨⟨by decide +kernel, by decide +kernel⟩, List.mem_of_getElem? (i := 1350) (by decide +kernel), List.mem_of_getElem? (i := 1835) (by decide +kernel), List.mem_of_getElem? (i := 1836) (by decide +kernel)⟩
theorem lw_p78 : lw_okq (⟨"FlowerPotsModel", "rowMany", "()I"⟩, 65) := ⟨⟨by decide +kernel, by decide +kernel⟩, List.mem_of_getElem? (i := 1350) (by decide +kernel), List.mem_of_getElem? (i := 1847) (by decide +kernel), List.mem_of_getElem? (i := 1848) (by decide +kernel)⟩
theorem lw_p79 : lw_okq (⟨"FlowerPotsModel", "digitsOf", "(I)I"⟩, 65) := ⟨⟨by decide +kernel, by decide +kernel⟩, List.mem_of_getElem? (i := 1350) (by decide +kernel), List.mem_of_getElem? (i := 1851) (by decide +kernel), List.mem_of_getElem? (i := 1852) (by decide +kernel)⟩
def lw_privs_5 : List (MethodName × Nat) := [(⟨"FlowerPotsModel", "potAt", "(II)I"⟩, 65), (⟨"FlowerPotsModel", "weightOf", "(I)I"⟩, 65), (⟨"FlowerPotsModel", "lightOf", "(II)I"⟩, 65), (⟨"FlowerPotsModel", "manyOf", "(II)I"⟩, 65), (⟨"FlowerPotsModel", "with", "(III)I"⟩, 65), (⟨"FlowerPotsModel", "moves", "(I)I"⟩, 65), (⟨"FlowerPotsModel", "remember", "()V"⟩, 65), (⟨"FlowerPotsModel", "isBook", "(I)Z"⟩, 65), (⟨"FlowerPotsModel", "sayOf", "(II)I"⟩, 65), (⟨"FlowerPotsModel", "putBy", "()V"⟩, 65), (⟨"FlowerPotsModel", "rowOf", "(I)I"⟩, 65), (⟨"FlowerPotsModel", "canStand", "(I)Z"⟩, 65), (⟨"FlowerPotsModel", "layFar", "(I)V"⟩, 65), (⟨"FlowerPotsModel", "layNext", "(I)V"⟩, 65), (⟨"FlowerPotsModel", "rowMany", "()I"⟩, 65), (⟨"FlowerPotsModel", "digitsOf", "(I)I"⟩, 65)]
theorem lw_r5 : ∀ q ∈ lw_privs_5, lw_okq q := List.forall_mem_cons.mpr ⟨lw_p64, List.forall_mem_cons.mpr ⟨lw_p65, List.forall_mem_cons.mpr ⟨lw_p66, List.forall_mem_cons.mpr ⟨lw_p67, List.forall_mem_cons.mpr ⟨lw_p68, List.forall_mem_cons.mpr ⟨lw_p69, List.forall_mem_cons.mpr ⟨lw_p70, List.forall_mem_cons.mpr ⟨lw_p71, List.forall_mem_cons.mpr ⟨lw_p72, List.forall_mem_cons.mpr ⟨lw_p73, List.forall_mem_cons.mpr ⟨lw_p74, List.forall_mem_cons.mpr ⟨lw_p75, List.forall_mem_cons.mpr ⟨lw_p76, List.forall_mem_cons.mpr ⟨lw_p77, List.forall_mem_cons.mpr ⟨lw_p78, List.forall_mem_cons.mpr ⟨lw_p79, fun _ h => absurd h List.not_mem_nil⟩⟩⟩⟩⟩⟩⟩⟩⟩⟩⟩⟩⟩⟩⟩⟩
theorem lw_p80 : lw_okq (⟨"FlowerPotsModel", "isWord", "(I)Z"⟩, 65) := ⟨⟨by decide +kernel, by decide +kernel⟩, List.mem_of_getElem? (i := 1350) (by decide +kernel), List.mem_of_getElem? (i := 1863) (by decide +kernel), List.mem_of_getElem? (i := 1864) (by decide +kernel)⟩
theorem lw_p81 : lw_okq (⟨"FlowerPotsModel", "layApart", "()V"⟩, 65) := ⟨⟨by decide +kernel, by decide +kernel⟩, List.mem_of_getElem? (i := 1350) (by decide +kernel), List.mem_of_getElem? (i := 1867) (by decide +kernel), List.mem_of_getElem? (i := 1868) (by decide +kernel)⟩
theorem lw_p82 : lw_okq (⟨"FlowerPotsModel", "onFrom", "(III)I"⟩, 65) := ⟨⟨by decide +kernel, by decide +kernel⟩, List.mem_of_getElem? (i := 1350) (by decide +kernel), List.mem_of_getElem? (i := 1871) (by decide +kernel), List.mem_of_getElem? (i := 1872) (by decide +kernel)⟩
theorem lw_p83 : lw_okq (⟨"FlowerPotsModel", "goesOn", "(IIIII)V"⟩, 65) := ⟨⟨by decide +kernel, by decide +kernel⟩, List.mem_of_getElem? (i := 1350) (by decide +kernel), List.mem_of_getElem? (i := 1880) (by decide +kernel), List.mem_of_getElem? (i := 1881) (by decide +kernel)⟩
theorem lw_p84 : lw_okq (⟨"FlowerPotsModel", "isSafe", "(II)Z"⟩, 65) := ⟨⟨by decide +kernel, by decide +kernel⟩, List.mem_of_getElem? (i := 1350) (by decide +kernel), List.mem_of_getElem? (i := 1893) (by decide +kernel), List.mem_of_getElem? (i := 1894) (by decide +kernel)⟩
theorem lw_p85 : lw_okq (⟨"FlowerPotsModel", "countWays", "(IIII)J"⟩, 65) := ⟨⟨by decide +kernel, by decide +kernel⟩, List.mem_of_getElem? (i := 1350) (by decide +kernel), List.mem_of_getElem? (i := 1918) (by decide +kernel), List.mem_of_getElem? (i := 1919) (by decide +kernel)⟩
theorem lw_p86 : lw_okq (⟨"FlowerPotsModel", "wasSo", "(II)Z"⟩, 65) := ⟨⟨by decide +kernel, by decide +kernel⟩, List.mem_of_getElem? (i := 1350) (by decide +kernel), List.mem_of_getElem? (i := 1922) (by decide +kernel), List.mem_of_getElem? (i := 1923) (by decide +kernel)⟩
theorem lw_p87 : lw_okq (⟨"FlowerPotsModel", "doesPart", "(III)Z"⟩, 65) := ⟨⟨by decide +kernel, by decide +kernel⟩, List.mem_of_getElem? (i := 1350) (by decide +kernel), List.mem_of_getElem? (i := 1943) (by decide +kernel), List.mem_of_getElem? (i := 1944) (by decide +kernel)⟩
def lw_privs_6 : List (MethodName × Nat) := [(⟨"FlowerPotsModel", "isWord", "(I)Z"⟩, 65), (⟨"FlowerPotsModel", "layApart", "()V"⟩, 65), (⟨"FlowerPotsModel", "onFrom", "(III)I"⟩, 65), (⟨"FlowerPotsModel", "goesOn", "(IIIII)V"⟩, 65), (⟨"FlowerPotsModel", "isSafe", "(II)Z"⟩, 65), (⟨"FlowerPotsModel", "countWays", "(IIII)J"⟩, 65), (⟨"FlowerPotsModel", "wasSo", "(II)Z"⟩, 65), (⟨"FlowerPotsModel", "doesPart", "(III)Z"⟩, 65)]
theorem lw_r6 : ∀ q ∈ lw_privs_6, lw_okq q := List.forall_mem_cons.mpr ⟨lw_p80, List.forall_mem_cons.mpr ⟨lw_p81, List.forall_mem_cons.mpr ⟨lw_p82, List.forall_mem_cons.mpr ⟨lw_p83, List.forall_mem_cons.mpr ⟨lw_p84, List.forall_mem_cons.mpr ⟨lw_p85, List.forall_mem_cons.mpr ⟨lw_p86, List.forall_mem_cons.mpr ⟨lw_p87, fun _ h => absurd h List.not_mem_nil⟩⟩⟩⟩⟩⟩⟩⟩
def lw_privs : List (MethodName × Nat) := lw_privs_1 ++ (lw_privs_2 ++ (lw_privs_3 ++ (lw_privs_4 ++ (lw_privs_5 ++ (lw_privs_6)))))
def lw_tbl : List Cond := k2_sels lw_privs ++ tables_1
theorem lw_privs_ok : ∀ q ∈ lw_privs, lw_okq q := by
  show ∀ q ∈ lw_privs_1 ++ (lw_privs_2 ++ (lw_privs_3 ++ (lw_privs_4 ++ (lw_privs_5 ++ (lw_privs_6))))), lw_okq q
  exact List.forall_mem_append.mpr ⟨lw_r1, List.forall_mem_append.mpr ⟨lw_r2, List.forall_mem_append.mpr ⟨lw_r3, List.forall_mem_append.mpr ⟨lw_r4, List.forall_mem_append.mpr ⟨lw_r5, lw_r6⟩⟩⟩⟩⟩
def RJx4a65c : String := "java/util/ArrayList"
def TJx4a65c : u_T := fun k => match k with
  | 0 => ("java/util/AbstractList", "modCount", "I", false)
  | 1 => ("java/util/ArrayList", "elementData", "[Ljava/lang/Object;", false)
  | _ => ("java/util/ArrayList", "size", "I", false)
def tyJx4a65c : Nat → FieldType := fun k => match k with
  | 0 => .int
  | 1 => .array (.object "java/lang/Object")
  | _ => .int
theorem nmJx4a65c : ∀ a, a < 3 → ∀ b, b < 3 → a ≠ b → (TJx4a65c a).2.1 ≠ (TJx4a65c b).2.1 := by decide +kernel
theorem tyJx4a65c_ok : ∀ k, k < 3 → parseFieldDescriptor (TJx4a65c k).2.2.1 = some (tyJx4a65c k) := by decide +kernel
def RX0 : String := "FlowerPots$Book"
def TX0 : u_T := fun k => match k with
  | 0 => ("FlowerPots$Book", "letters", "LFlowerPots$Numbers;", true)
  | 1 => ("FlowerPots$Book", "signs", "LFlowerPots$Numbers;", true)
  | 2 => ("FlowerPots$Book", "said", "LFlowerPots$Numbers;", true)
  | _ => ("FlowerPots$Book", "width", "I", false)
def tyX0 : Nat → FieldType := fun k => match k with
  | 0 => .object "FlowerPots$Numbers"
  | 1 => .object "FlowerPots$Numbers"
  | 2 => .object "FlowerPots$Numbers"
  | _ => .int
theorem nmX0 : ∀ a, a < 4 → ∀ b, b < 4 → a ≠ b → (TX0 a).2.1 ≠ (TX0 b).2.1 := by decide +kernel
theorem tyX0_ok : ∀ k, k < 4 → parseFieldDescriptor (TX0 k).2.2.1 = some (tyX0 k) := by decide +kernel
def RX1 : String := "FlowerPots$BookReader"
def TX1 : u_T := fun k => match k with
  | 0 => ("FlowerPots$Reader", "written", "LFlowerPots$Numbers;", false)
  | 1 => ("FlowerPots$Reader", "position", "I", false)
  | 2 => ("FlowerPots$Reader", "sign", "I", false)
  | 3 => ("FlowerPots$Reader", "fault", "I", false)
  | _ => ("FlowerPots$BookReader", "draft", "LFlowerPots$Book;", true)
def tyX1 : Nat → FieldType := fun k => match k with
  | 0 => .object "FlowerPots$Numbers"
  | 1 => .int
  | 2 => .int
  | 3 => .int
  | _ => .object "FlowerPots$Book"
theorem nmX1 : ∀ a, a < 5 → ∀ b, b < 5 → a ≠ b → (TX1 a).2.1 ≠ (TX1 b).2.1 := by decide +kernel
theorem tyX1_ok : ∀ k, k < 5 → parseFieldDescriptor (TX1 k).2.2.1 = some (tyX1 k) := by decide +kernel
def RX2 : String := "FlowerPots$LightReader"
def TX2 : u_T := fun k => match k with
  | 0 => ("FlowerPots$Reader", "written", "LFlowerPots$Numbers;", false)
  | 1 => ("FlowerPots$Reader", "position", "I", false)
  | 2 => ("FlowerPots$Reader", "sign", "I", false)
  | 3 => ("FlowerPots$Reader", "fault", "I", false)
  | 4 => ("FlowerPots$LightReader", "place", "I", false)
  | 5 => ("FlowerPots$LightReader", "day", "I", false)
  | 6 => ("FlowerPots$LightReader", "sort", "I", false)
  | 7 => ("FlowerPots$LightReader", "places", "I", false)
  | 8 => ("FlowerPots$LightReader", "decided", "Z", false)
  | _ => ("FlowerPots$LightReader", "worth", "J", false)
def tyX2 : Nat → FieldType := fun k => match k with
  | 0 => .object "FlowerPots$Numbers"
  | 1 => .int
  | 2 => .int
  | 3 => .int
  | 4 => .int
  | 5 => .int
  | 6 => .int
  | 7 => .int
  | 8 => .boolean
  | _ => .long
theorem nmX2 : ∀ a, a < 10 → ∀ b, b < 10 → a ≠ b → (TX2 a).2.1 ≠ (TX2 b).2.1 := by decide +kernel
theorem tyX2_ok : ∀ k, k < 10 → parseFieldDescriptor (TX2 k).2.2.1 = some (tyX2 k) := by decide +kernel
def RX3 : String := "FlowerPots$Numbers"
def TX3 : u_T := fun k => match k with
  | 0 => ("FlowerPots$Numbers", "cells", "[I", true)
  | _ => ("FlowerPots$Numbers", "length", "I", false)
def tyX3 : Nat → FieldType := fun k => match k with
  | 0 => .array .int
  | _ => .int
theorem nmX3 : ∀ a, a < 2 → ∀ b, b < 2 → a ≠ b → (TX3 a).2.1 ≠ (TX3 b).2.1 := by decide +kernel
theorem tyX3_ok : ∀ k, k < 2 → parseFieldDescriptor (TX3 k).2.2.1 = some (tyX3 k) := by decide +kernel
def RX4 : String := "FlowerPots$Plans"
def TX4 : u_T := fun k => match k with
  | 0 => ("FlowerPots$Plans", "rows", "LFlowerPots$Rows;", true)
  | 1 => ("FlowerPots$Plans", "window", "LFlowerPots$Window;", true)
  | 2 => ("FlowerPots$Plans", "roads", "LFlowerPots$Roads;", true)
  | 3 => ("FlowerPots$Plans", "seenDays", "LFlowerPots$Numbers;", true)
  | 4 => ("FlowerPots$Plans", "seenPlaces", "LFlowerPots$Numbers;", true)
  | 5 => ("FlowerPots$Plans", "seenPots", "LFlowerPots$Numbers;", true)
  | 6 => ("FlowerPots$Plans", "here", "LFlowerPots$Numbers;", true)
  | 7 => ("FlowerPots$Plans", "there", "LFlowerPots$Numbers;", true)
  | 8 => ("FlowerPots$Plans", "yesterday", "LFlowerPots$Numbers;", true)
  | 9 => ("FlowerPots$Plans", "waysHere", "[J", true)
  | _ => ("FlowerPots$Plans", "waysThere", "[J", true)
def tyX4 : Nat → FieldType := fun k => match k with
  | 0 => .object "FlowerPots$Rows"
  | 1 => .object "FlowerPots$Window"
  | 2 => .object "FlowerPots$Roads"
  | 3 => .object "FlowerPots$Numbers"
  | 4 => .object "FlowerPots$Numbers"
  | 5 => .object "FlowerPots$Numbers"
  | 6 => .object "FlowerPots$Numbers"
  | 7 => .object "FlowerPots$Numbers"
  | 8 => .object "FlowerPots$Numbers"
  | 9 => .array .long
  | _ => .array .long
theorem nmX4 : ∀ a, a < 11 → ∀ b, b < 11 → a ≠ b → (TX4 a).2.1 ≠ (TX4 b).2.1 := by decide +kernel
theorem tyX4_ok : ∀ k, k < 11 → parseFieldDescriptor (TX4 k).2.2.1 = some (tyX4 k) := by decide +kernel
def RX5 : String := "FlowerPots$Reader"
def TX5 : u_T := fun k => match k with
  | _ => ("", "", "", false)
def tyX5 : Nat → FieldType := fun k => match k with
  | _ => .int
theorem nmX5 : ∀ a, a < 0 → ∀ b, b < 0 → a ≠ b → (TX5 a).2.1 ≠ (TX5 b).2.1 := by decide +kernel
theorem tyX5_ok : ∀ k, k < 0 → parseFieldDescriptor (TX5 k).2.2.1 = some (tyX5 k) := by decide +kernel
def RX6 : String := "FlowerPots$Roads"
def TX6 : u_T := fun k => match k with
  | 0 => ("FlowerPots$Roads", "rows", "LFlowerPots$Rows;", true)
  | 1 => ("FlowerPots$Roads", "window", "LFlowerPots$Window;", true)
  | 2 => ("FlowerPots$Roads", "lit", "LFlowerPots$Numbers;", true)
  | 3 => ("FlowerPots$Roads", "found", "LFlowerPots$Numbers;", true)
  | 4 => ("FlowerPots$Roads", "queue", "LFlowerPots$Numbers;", true)
  | 5 => ("FlowerPots$Roads", "known", "LFlowerPots$Numbers;", true)
  | _ => ("FlowerPots$Roads", "packed", "LFlowerPots$Numbers;", true)
def tyX6 : Nat → FieldType := fun k => match k with
  | 0 => .object "FlowerPots$Rows"
  | 1 => .object "FlowerPots$Window"
  | 2 => .object "FlowerPots$Numbers"
  | 3 => .object "FlowerPots$Numbers"
  | 4 => .object "FlowerPots$Numbers"
  | 5 => .object "FlowerPots$Numbers"
  | _ => .object "FlowerPots$Numbers"
theorem nmX6 : ∀ a, a < 7 → ∀ b, b < 7 → a ≠ b → (TX6 a).2.1 ≠ (TX6 b).2.1 := by decide +kernel
theorem tyX6_ok : ∀ k, k < 7 → parseFieldDescriptor (TX6 k).2.2.1 = some (tyX6 k) := by decide +kernel
def RX7 : String := "FlowerPots$Rows"
def TX7 : u_T := fun k => match k with
  | 0 => ("FlowerPots$Rows", "places", "I", false)
  | 1 => ("FlowerPots$Rows", "many", "I", false)
  | 2 => ("FlowerPots$Rows", "pots", "LFlowerPots$Numbers;", true)
  | 3 => ("FlowerPots$Rows", "weights", "LFlowerPots$Numbers;", true)
  | 4 => ("FlowerPots$Rows", "reds", "LFlowerPots$Numbers;", true)
  | 5 => ("FlowerPots$Rows", "whites", "LFlowerPots$Numbers;", true)
  | 6 => ("FlowerPots$Rows", "neighborCounts", "LFlowerPots$Numbers;", true)
  | _ => ("FlowerPots$Rows", "neighborCodes", "LFlowerPots$Numbers;", true)
def tyX7 : Nat → FieldType := fun k => match k with
  | 0 => .int
  | 1 => .int
  | 2 => .object "FlowerPots$Numbers"
  | 3 => .object "FlowerPots$Numbers"
  | 4 => .object "FlowerPots$Numbers"
  | 5 => .object "FlowerPots$Numbers"
  | 6 => .object "FlowerPots$Numbers"
  | _ => .object "FlowerPots$Numbers"
theorem nmX7 : ∀ a, a < 8 → ∀ b, b < 8 → a ≠ b → (TX7 a).2.1 ≠ (TX7 b).2.1 := by decide +kernel
theorem tyX7_ok : ∀ k, k < 8 → parseFieldDescriptor (TX7 k).2.2.1 = some (tyX7 k) := by decide +kernel
def RX8 : String := "FlowerPots$SillReader"
def TX8 : u_T := fun k => match k with
  | 0 => ("FlowerPots$Reader", "written", "LFlowerPots$Numbers;", false)
  | 1 => ("FlowerPots$Reader", "position", "I", false)
  | 2 => ("FlowerPots$Reader", "sign", "I", false)
  | 3 => ("FlowerPots$Reader", "fault", "I", false)
  | 4 => ("FlowerPots$SillReader", "places", "I", false)
  | 5 => ("FlowerPots$SillReader", "red", "I", false)
  | 6 => ("FlowerPots$SillReader", "white", "I", false)
  | _ => ("FlowerPots$SillReader", "perDay", "I", false)
def tyX8 : Nat → FieldType := fun k => match k with
  | 0 => .object "FlowerPots$Numbers"
  | 1 => .int
  | 2 => .int
  | 3 => .int
  | 4 => .int
  | 5 => .int
  | 6 => .int
  | _ => .int
theorem nmX8 : ∀ a, a < 8 → ∀ b, b < 8 → a ≠ b → (TX8 a).2.1 ≠ (TX8 b).2.1 := by decide +kernel
theorem tyX8_ok : ∀ k, k < 8 → parseFieldDescriptor (TX8 k).2.2.1 = some (tyX8 k) := by decide +kernel
def RX9 : String := "FlowerPots$Window"
def TX9 : u_T := fun k => match k with
  | 0 => ("FlowerPots$Window", "rows", "LFlowerPots$Rows;", true)
  | 1 => ("FlowerPots$Window", "red", "I", false)
  | 2 => ("FlowerPots$Window", "white", "I", false)
  | 3 => ("FlowerPots$Window", "perDay", "I", false)
  | 4 => ("FlowerPots$Window", "row", "I", false)
  | 5 => ("FlowerPots$Window", "day", "I", false)
  | 6 => ("FlowerPots$Window", "left", "I", false)
  | 7 => ("FlowerPots$Window", "diaryRows", "LFlowerPots$Numbers;", true)
  | 8 => ("FlowerPots$Window", "actRows", "LFlowerPots$Numbers;", true)
  | 9 => ("FlowerPots$Window", "actDays", "LFlowerPots$Numbers;", true)
  | _ => ("FlowerPots$Window", "actLefts", "LFlowerPots$Numbers;", true)
def tyX9 : Nat → FieldType := fun k => match k with
  | 0 => .object "FlowerPots$Rows"
  | 1 => .int
  | 2 => .int
  | 3 => .int
  | 4 => .int
  | 5 => .int
  | 6 => .int
  | 7 => .object "FlowerPots$Numbers"
  | 8 => .object "FlowerPots$Numbers"
  | 9 => .object "FlowerPots$Numbers"
  | _ => .object "FlowerPots$Numbers"
theorem nmX9 : ∀ a, a < 11 → ∀ b, b < 11 → a ≠ b → (TX9 a).2.1 ≠ (TX9 b).2.1 := by decide +kernel
theorem tyX9_ok : ∀ k, k < 11 → parseFieldDescriptor (TX9 k).2.2.1 = some (tyX9 k) := by decide +kernel
def RX10 : String := "FlowerPots$WordReader"
def TX10 : u_T := fun k => match k with
  | 0 => ("FlowerPots$Reader", "written", "LFlowerPots$Numbers;", false)
  | 1 => ("FlowerPots$Reader", "position", "I", false)
  | 2 => ("FlowerPots$Reader", "sign", "I", false)
  | 3 => ("FlowerPots$Reader", "fault", "I", false)
  | _ => ("FlowerPots$WordReader", "draft", "LFlowerPots$Numbers;", true)
def tyX10 : Nat → FieldType := fun k => match k with
  | 0 => .object "FlowerPots$Numbers"
  | 1 => .int
  | 2 => .int
  | 3 => .int
  | _ => .object "FlowerPots$Numbers"
theorem nmX10 : ∀ a, a < 5 → ∀ b, b < 5 → a ≠ b → (TX10 a).2.1 ≠ (TX10 b).2.1 := by decide +kernel
theorem tyX10_ok : ∀ k, k < 5 → parseFieldDescriptor (TX10 k).2.2.1 = some (tyX10 k) := by decide +kernel
def RX11 : String := "FlowerPots"
def TX11 : u_T := fun k => match k with
  | 0 => ("FlowerPots", "tape", "LFlowerPots$Numbers;", true)
  | 1 => ("FlowerPots", "sillReader", "LFlowerPots$SillReader;", true)
  | 2 => ("FlowerPots", "bookReader", "LFlowerPots$BookReader;", true)
  | 3 => ("FlowerPots", "wordReader", "LFlowerPots$WordReader;", true)
  | 4 => ("FlowerPots", "lightReader", "LFlowerPots$LightReader;", true)
  | 5 => ("FlowerPots", "books", "Ljava/util/ArrayList;", true)
  | 6 => ("FlowerPots", "words", "Ljava/util/ArrayList;", true)
  | 7 => ("FlowerPots", "lights", "Ljava/util/ArrayList;", true)
  | 8 => ("FlowerPots", "rows", "LFlowerPots$Rows;", true)
  | 9 => ("FlowerPots", "window", "LFlowerPots$Window;", true)
  | 10 => ("FlowerPots", "kept", "LFlowerPots$Window;", true)
  | 11 => ("FlowerPots", "roads", "LFlowerPots$Roads;", true)
  | 12 => ("FlowerPots", "plans", "LFlowerPots$Plans;", true)
  | 13 => ("FlowerPots", "toldRows", "LFlowerPots$Numbers;", true)
  | 14 => ("FlowerPots", "toldLetters", "LFlowerPots$Numbers;", true)
  | 15 => ("FlowerPots", "held", "LFlowerPots$Numbers;", false)
  | _ => ("FlowerPots", "imaged", "Z", false)
def tyX11 : Nat → FieldType := fun k => match k with
  | 0 => .object "FlowerPots$Numbers"
  | 1 => .object "FlowerPots$SillReader"
  | 2 => .object "FlowerPots$BookReader"
  | 3 => .object "FlowerPots$WordReader"
  | 4 => .object "FlowerPots$LightReader"
  | 5 => .object "java/util/ArrayList"
  | 6 => .object "java/util/ArrayList"
  | 7 => .object "java/util/ArrayList"
  | 8 => .object "FlowerPots$Rows"
  | 9 => .object "FlowerPots$Window"
  | 10 => .object "FlowerPots$Window"
  | 11 => .object "FlowerPots$Roads"
  | 12 => .object "FlowerPots$Plans"
  | 13 => .object "FlowerPots$Numbers"
  | 14 => .object "FlowerPots$Numbers"
  | 15 => .object "FlowerPots$Numbers"
  | _ => .boolean
theorem nmX11 : ∀ a, a < 17 → ∀ b, b < 17 → a ≠ b → (TX11 a).2.1 ≠ (TX11 b).2.1 := by decide +kernel
theorem tyX11_ok : ∀ k, k < 17 → parseFieldDescriptor (TX11 k).2.2.1 = some (tyX11 k) := by decide +kernel
def RX12 : String := "FlowerPotsModel"
def TX12 : u_T := fun k => match k with
  | 0 => ("FlowerPotsModel", "thrown", "I", false)
  | 1 => ("FlowerPotsModel", "tape", "[B", true)
  | 2 => ("FlowerPotsModel", "texts", "[B", true)
  | 3 => ("FlowerPotsModel", "textLong", "[I", true)
  | 4 => ("FlowerPotsModel", "letters", "[I", true)
  | 5 => ("FlowerPotsModel", "text", "[B", false)
  | 6 => ("FlowerPotsModel", "length", "I", false)
  | 7 => ("FlowerPotsModel", "lightMany", "I", false)
  | 8 => ("FlowerPotsModel", "begins", "I", false)
  | 9 => ("FlowerPotsModel", "ends", "I", false)
  | 10 => ("FlowerPotsModel", "at", "I", false)
  | 11 => ("FlowerPotsModel", "fault", "I", false)
  | 12 => ("FlowerPotsModel", "deep", "I", false)
  | 13 => ("FlowerPotsModel", "label", "I", false)
  | 14 => ("FlowerPotsModel", "found", "I", false)
  | 15 => ("FlowerPotsModel", "labels", "Ljava/lang/String;", true)
  | 16 => ("FlowerPotsModel", "allowed", "Ljava/lang/String;", true)
  | 17 => ("FlowerPotsModel", "hasFound", "Z", false)
  | 18 => ("FlowerPotsModel", "pots", "[I", true)
  | 19 => ("FlowerPotsModel", "potsRead", "[I", true)
  | 20 => ("FlowerPotsModel", "places", "I", false)
  | 21 => ("FlowerPotsModel", "perDay", "I", false)
  | 22 => ("FlowerPotsModel", "placesRead", "I", false)
  | 23 => ("FlowerPotsModel", "perDayRead", "I", false)
  | 24 => ("FlowerPotsModel", "bookLetter", "[I", true)
  | 25 => ("FlowerPotsModel", "bookSign", "[I", true)
  | 26 => ("FlowerPotsModel", "bookMany", "[I", true)
  | 27 => ("FlowerPotsModel", "bookWide", "[I", true)
  | 28 => ("FlowerPotsModel", "books", "I", false)
  | 29 => ("FlowerPotsModel", "wordLetter", "[I", true)
  | 30 => ("FlowerPotsModel", "wordLong", "[I", true)
  | 31 => ("FlowerPotsModel", "words", "I", false)
  | 32 => ("FlowerPotsModel", "light", "I", false)
  | 33 => ("FlowerPotsModel", "row", "I", false)
  | 34 => ("FlowerPotsModel", "day", "I", false)
  | 35 => ("FlowerPotsModel", "left", "I", false)
  | 36 => ("FlowerPotsModel", "diary", "[I", true)
  | 37 => ("FlowerPotsModel", "actRow", "[I", true)
  | 38 => ("FlowerPotsModel", "actLeft", "[I", true)
  | 39 => ("FlowerPotsModel", "actDay", "[I", true)
  | 40 => ("FlowerPotsModel", "acts", "I", false)
  | 41 => ("FlowerPotsModel", "next", "[I", true)
  | 42 => ("FlowerPotsModel", "nextMany", "I", false)
  | 43 => ("FlowerPotsModel", "isRight", "Z", false)
  | 44 => ("FlowerPotsModel", "far", "[I", true)
  | 45 => ("FlowerPotsModel", "queue", "[I", true)
  | 46 => ("FlowerPotsModel", "apart", "[I", true)
  | 47 => ("FlowerPotsModel", "costs", "[I", true)
  | 48 => ("FlowerPotsModel", "reached", "[Z", true)
  | 49 => ("FlowerPotsModel", "then", "[Z", true)
  | 50 => ("FlowerPotsModel", "seenDay", "[I", true)
  | 51 => ("FlowerPotsModel", "seenPlace", "[I", true)
  | 52 => ("FlowerPotsModel", "seenWhat", "[I", true)
  | 53 => ("FlowerPotsModel", "seen", "I", false)
  | 54 => ("FlowerPotsModel", "counts", "[J", true)
  | 55 => ("FlowerPotsModel", "countsThen", "[J", true)
  | 56 => ("FlowerPotsModel", "toldRow", "[I", true)
  | 57 => ("FlowerPotsModel", "toldLetter", "[I", true)
  | 58 => ("FlowerPotsModel", "told", "I", false)
  | 59 => ("FlowerPotsModel", "imageDiary", "[I", true)
  | 60 => ("FlowerPotsModel", "imagePots", "[I", true)
  | 61 => ("FlowerPotsModel", "imageRow", "I", false)
  | 62 => ("FlowerPotsModel", "imageDay", "I", false)
  | 63 => ("FlowerPotsModel", "imageLeft", "I", false)
  | _ => ("FlowerPotsModel", "hasImage", "Z", false)
def tyX12 : Nat → FieldType := fun k => match k with
  | 0 => .int
  | 1 => .array .byte
  | 2 => .array .byte
  | 3 => .array .int
  | 4 => .array .int
  | 5 => .array .byte
  | 6 => .int
  | 7 => .int
  | 8 => .int
  | 9 => .int
  | 10 => .int
  | 11 => .int
  | 12 => .int
  | 13 => .int
  | 14 => .int
  | 15 => .object "java/lang/String"
  | 16 => .object "java/lang/String"
  | 17 => .boolean
  | 18 => .array .int
  | 19 => .array .int
  | 20 => .int
  | 21 => .int
  | 22 => .int
  | 23 => .int
  | 24 => .array .int
  | 25 => .array .int
  | 26 => .array .int
  | 27 => .array .int
  | 28 => .int
  | 29 => .array .int
  | 30 => .array .int
  | 31 => .int
  | 32 => .int
  | 33 => .int
  | 34 => .int
  | 35 => .int
  | 36 => .array .int
  | 37 => .array .int
  | 38 => .array .int
  | 39 => .array .int
  | 40 => .int
  | 41 => .array .int
  | 42 => .int
  | 43 => .boolean
  | 44 => .array .int
  | 45 => .array .int
  | 46 => .array .int
  | 47 => .array .int
  | 48 => .array .boolean
  | 49 => .array .boolean
  | 50 => .array .int
  | 51 => .array .int
  | 52 => .array .int
  | 53 => .int
  | 54 => .array .long
  | 55 => .array .long
  | 56 => .array .int
  | 57 => .array .int
  | 58 => .int
  | 59 => .array .int
  | 60 => .array .int
  | 61 => .int
  | 62 => .int
  | 63 => .int
  | _ => .boolean
theorem nmX12 : ∀ a, a < 65 → ∀ b, b < 65 → a ≠ b → (TX12 a).2.1 ≠ (TX12 b).2.1 := by decide +kernel
theorem tyX12_ok : ∀ k, k < 65 → parseFieldDescriptor (TX12 k).2.2.1 = some (tyX12 k) := by decide +kernel
abbrev vwCl : List vw_C := [(RJx4a65c, TJx4a65c, 3), (RX0, TX0, 4), (RX1, TX1, 5), (RX2, TX2, 10), (RX3, TX3, 2), (RX4, TX4, 11), (RX6, TX6, 7), (RX7, TX7, 8), (RX8, TX8, 8), (RX9, TX9, 11), (RX10, TX10, 5), (RX11, TX11, 17), (RX12, TX12, 65)]
