section
-- ===== PART A: goes FIRST, ahead of the names: the tables' words, and 'selects' of the private methods out of them =====
/-- a private method of a class that the tables say can be made, by its rows of tables_1 -/
def lw_okq (q : MethodName × Nat) : Prop := (q.1.cls ≠ "java/lang/invoke/MethodHandle" ∧ q.1.cls ≠ "java/lang/invoke/VarHandle") ∧ Cond.instantiable q.1.cls q.2 ∈ tables_1 ∧ Cond.privateMethod q.1 ∈ tables_1 ∧ Cond.instanceMethod q.1 ∈ tables_1
theorem lw_p0 : lw_okq (⟨"DiagramMoves$Edges", "sortPlaces", "(LDiagramMoves$Row;)V"⟩, 6) := ⟨⟨by decide +kernel, by decide +kernel⟩, List.mem_of_getElem? (i := 52) (by decide +kernel), List.mem_of_getElem? (i := 192) (by decide +kernel), List.mem_of_getElem? (i := 193) (by decide +kernel)⟩
theorem lw_p1 : lw_okq (⟨"DiagramMoves$Edges", "everyLabelStandsTwice", "(LDiagramMoves$Row;)Z"⟩, 6) := ⟨⟨by decide +kernel, by decide +kernel⟩, List.mem_of_getElem? (i := 52) (by decide +kernel), List.mem_of_getElem? (i := 196) (by decide +kernel), List.mem_of_getElem? (i := 197) (by decide +kernel)⟩
theorem lw_p2 : lw_okq (⟨"DiagramMoves$Edges", "pairPlaces", "(LDiagramMoves$Row;)Z"⟩, 6) := ⟨⟨by decide +kernel, by decide +kernel⟩, List.mem_of_getElem? (i := 52) (by decide +kernel), List.mem_of_getElem? (i := 200) (by decide +kernel), List.mem_of_getElem? (i := 201) (by decide +kernel)⟩
theorem lw_p3 : lw_okq (⟨"DiagramMoves$Faces", "addRound", "(LDiagramMoves$Edges;I)V"⟩, 4) := ⟨⟨by decide +kernel, by decide +kernel⟩, List.mem_of_getElem? (i := 85) (by decide +kernel), List.mem_of_getElem? (i := 219) (by decide +kernel), List.mem_of_getElem? (i := 220) (by decide +kernel)⟩
theorem lw_p4 : lw_okq (⟨"DiagramMoves$Pieces", "findPieces", "(ILDiagramMoves$Edges;)V"⟩, 4) := ⟨⟨by decide +kernel, by decide +kernel⟩, List.mem_of_getElem? (i := 107) (by decide +kernel), List.mem_of_getElem? (i := 239) (by decide +kernel), List.mem_of_getElem? (i := 240) (by decide +kernel)⟩
theorem lw_p5 : lw_okq (⟨"DiagramMoves$Pieces", "unite", "(III)V"⟩, 4) := ⟨⟨by decide +kernel, by decide +kernel⟩, List.mem_of_getElem? (i := 107) (by decide +kernel), List.mem_of_getElem? (i := 243) (by decide +kernel), List.mem_of_getElem? (i := 244) (by decide +kernel)⟩
theorem lw_p6 : lw_okq (⟨"DiagramMoves$Pieces", "countComponents", "(LDiagramMoves$Edges;)V"⟩, 4) := ⟨⟨by decide +kernel, by decide +kernel⟩, List.mem_of_getElem? (i := 107) (by decide +kernel), List.mem_of_getElem? (i := 253) (by decide +kernel), List.mem_of_getElem? (i := 254) (by decide +kernel)⟩
theorem lw_p7 : lw_okq (⟨"DiagramMoves$Pieces", "followComponent", "(LDiagramMoves$Edges;I)V"⟩, 4) := ⟨⟨by decide +kernel, by decide +kernel⟩, List.mem_of_getElem? (i := 107) (by decide +kernel), List.mem_of_getElem? (i := 258) (by decide +kernel), List.mem_of_getElem? (i := 259) (by decide +kernel)⟩
theorem lw_p8 : lw_okq (⟨"DiagramMoves$Diagram", "isFinger", "(II)Z"⟩, 6) := ⟨⟨by decide +kernel, by decide +kernel⟩, List.mem_of_getElem? (i := 22) (by decide +kernel), List.mem_of_getElem? (i := 308) (by decide +kernel), List.mem_of_getElem? (i := 309) (by decide +kernel)⟩
theorem lw_p9 : lw_okq (⟨"DiagramMoves$Diagram", "crossingAhead", "(I)I"⟩, 6) := ⟨⟨by decide +kernel, by decide +kernel⟩, List.mem_of_getElem? (i := 22) (by decide +kernel), List.mem_of_getElem? (i := 316) (by decide +kernel), List.mem_of_getElem? (i := 317) (by decide +kernel)⟩
theorem lw_p10 : lw_okq (⟨"DiagramMoves$Diagram", "isTriangle", "(I)Z"⟩, 6) := ⟨⟨by decide +kernel, by decide +kernel⟩, List.mem_of_getElem? (i := 22) (by decide +kernel), List.mem_of_getElem? (i := 321) (by decide +kernel), List.mem_of_getElem? (i := 322) (by decide +kernel)⟩
theorem lw_p11 : lw_okq (⟨"DiagramMoves$Diagram", "lift", "(I)V"⟩, 6) := ⟨⟨by decide +kernel, by decide +kernel⟩, List.mem_of_getElem? (i := 22) (by decide +kernel), List.mem_of_getElem? (i := 340) (by decide +kernel), List.mem_of_getElem? (i := 341) (by decide +kernel)⟩
theorem lw_p12 : lw_okq (⟨"DiagramMoves$Diagram", "joinEdges", "(II)V"⟩, 6) := ⟨⟨by decide +kernel, by decide +kernel⟩, List.mem_of_getElem? (i := 22) (by decide +kernel), List.mem_of_getElem? (i := 345) (by decide +kernel), List.mem_of_getElem? (i := 346) (by decide +kernel)⟩
theorem lw_p13 : lw_okq (⟨"DiagramMoves$Diagram", "slideEdge", "(I)V"⟩, 6) := ⟨⟨by decide +kernel, by decide +kernel⟩, List.mem_of_getElem? (i := 22) (by decide +kernel), List.mem_of_getElem? (i := 374) (by decide +kernel), List.mem_of_getElem? (i := 375) (by decide +kernel)⟩
theorem lw_p14 : lw_okq (⟨"DiagramMoves$Diagram", "addKink", "(LDiagramMoves$Cut;IZ)V"⟩, 6) := ⟨⟨by decide +kernel, by decide +kernel⟩, List.mem_of_getElem? (i := 22) (by decide +kernel), List.mem_of_getElem? (i := 404) (by decide +kernel), List.mem_of_getElem? (i := 405) (by decide +kernel)⟩
theorem lw_p15 : lw_okq (⟨"DiagramMoves$Diagram", "addCrossing", "(ILDiagramMoves$Cut;ZLDiagramMoves$Cut;Z)V"⟩, 6) := ⟨⟨by decide +kernel, by decide +kernel⟩, List.mem_of_getElem? (i := 22) (by decide +kernel), List.mem_of_getElem? (i := 408) (by decide +kernel), List.mem_of_getElem? (i := 409) (by decide +kernel)⟩
def lw_privs_1 : List (MethodName × Nat) := [(⟨"DiagramMoves$Edges", "sortPlaces", "(LDiagramMoves$Row;)V"⟩, 6), (⟨"DiagramMoves$Edges", "everyLabelStandsTwice", "(LDiagramMoves$Row;)Z"⟩, 6), (⟨"DiagramMoves$Edges", "pairPlaces", "(LDiagramMoves$Row;)Z"⟩, 6), (⟨"DiagramMoves$Faces", "addRound", "(LDiagramMoves$Edges;I)V"⟩, 4), (⟨"DiagramMoves$Pieces", "findPieces", "(ILDiagramMoves$Edges;)V"⟩, 4), (⟨"DiagramMoves$Pieces", "unite", "(III)V"⟩, 4), (⟨"DiagramMoves$Pieces", "countComponents", "(LDiagramMoves$Edges;)V"⟩, 4), (⟨"DiagramMoves$Pieces", "followComponent", "(LDiagramMoves$Edges;I)V"⟩, 4), (⟨"DiagramMoves$Diagram", "isFinger", "(II)Z"⟩, 6), (⟨"DiagramMoves$Diagram", "crossingAhead", "(I)I"⟩, 6), (⟨"DiagramMoves$Diagram", "isTriangle", "(I)Z"⟩, 6), (⟨"DiagramMoves$Diagram", "lift", "(I)V"⟩, 6), (⟨"DiagramMoves$Diagram", "joinEdges", "(II)V"⟩, 6), (⟨"DiagramMoves$Diagram", "slideEdge", "(I)V"⟩, 6), (⟨"DiagramMoves$Diagram", "addKink", "(LDiagramMoves$Cut;IZ)V"⟩, 6), (⟨"DiagramMoves$Diagram", "addCrossing", "(ILDiagramMoves$Cut;ZLDiagramMoves$Cut;Z)V"⟩, 6)]
theorem lw_r1 : ∀ q ∈ lw_privs_1, lw_okq q := List.forall_mem_cons.mpr ⟨lw_p0, List.forall_mem_cons.mpr ⟨lw_p1, List.forall_mem_cons.mpr ⟨lw_p2, List.forall_mem_cons.mpr ⟨lw_p3, List.forall_mem_cons.mpr ⟨lw_p4, List.forall_mem_cons.mpr ⟨lw_p5, List.forall_mem_cons.mpr ⟨lw_p6, List.forall_mem_cons.mpr ⟨lw_p7, List.forall_mem_cons.mpr ⟨lw_p8, List.forall_mem_cons.mpr ⟨lw_p9, List.forall_mem_cons.mpr ⟨lw_p10, List.forall_mem_cons.mpr ⟨lw_p11, List.forall_mem_cons.mpr ⟨lw_p12, List.forall_mem_cons.mpr ⟨lw_p13, List.forall_mem_cons.mpr ⟨lw_p14, List.forall_mem_cons.mpr ⟨lw_p15, fun _ h => absurd h List.not_mem_nil⟩⟩⟩⟩⟩⟩⟩⟩⟩⟩⟩⟩⟩⟩⟩⟩
theorem lw_p16 : lw_okq (⟨"DiagramMoves$Diagram", "cutEdge", "(II)LDiagramMoves$Cut;"⟩, 6) := ⟨⟨by decide +kernel, by decide +kernel⟩, List.mem_of_getElem? (i := 22) (by decide +kernel), List.mem_of_getElem? (i := 429) (by decide +kernel), List.mem_of_getElem? (i := 430) (by decide +kernel)⟩
theorem lw_p17 : lw_okq (⟨"DiagramMoves$Diagram", "canMeet", "(II)Z"⟩, 6) := ⟨⟨by decide +kernel, by decide +kernel⟩, List.mem_of_getElem? (i := 22) (by decide +kernel), List.mem_of_getElem? (i := 442) (by decide +kernel), List.mem_of_getElem? (i := 443) (by decide +kernel)⟩
theorem lw_p18 : lw_okq (⟨"DiagramMovesModel", "take", "()V"⟩, 25) := ⟨⟨by decide +kernel, by decide +kernel⟩, List.mem_of_getElem? (i := 454) (by decide +kernel), List.mem_of_getElem? (i := 543) (by decide +kernel), List.mem_of_getElem? (i := 544) (by decide +kernel)⟩
theorem lw_p19 : lw_okq (⟨"DiagramMovesModel", "fault", "()I"⟩, 25) := ⟨⟨by decide +kernel, by decide +kernel⟩, List.mem_of_getElem? (i := 454) (by decide +kernel), List.mem_of_getElem? (i := 547) (by decide +kernel), List.mem_of_getElem? (i := 548) (by decide +kernel)⟩
theorem lw_p20 : lw_okq (⟨"DiagramMovesModel", "badLabel", "(Z)I"⟩, 25) := ⟨⟨by decide +kernel, by decide +kernel⟩, List.mem_of_getElem? (i := 454) (by decide +kernel), List.mem_of_getElem? (i := 551) (by decide +kernel), List.mem_of_getElem? (i := 552) (by decide +kernel)⟩
theorem lw_p21 : lw_okq (⟨"DiagramMovesModel", "sort", "()V"⟩, 25) := ⟨⟨by decide +kernel, by decide +kernel⟩, List.mem_of_getElem? (i := 454) (by decide +kernel), List.mem_of_getElem? (i := 555) (by decide +kernel), List.mem_of_getElem? (i := 556) (by decide +kernel)⟩
theorem lw_p22 : lw_okq (⟨"DiagramMovesModel", "placeOf", "(IZ)I"⟩, 25) := ⟨⟨by decide +kernel, by decide +kernel⟩, List.mem_of_getElem? (i := 454) (by decide +kernel), List.mem_of_getElem? (i := 559) (by decide +kernel), List.mem_of_getElem? (i := 560) (by decide +kernel)⟩
theorem lw_p23 : lw_okq (⟨"DiagramMovesModel", "isOut", "(I)Z"⟩, 25) := ⟨⟨by decide +kernel, by decide +kernel⟩, List.mem_of_getElem? (i := 454) (by decide +kernel), List.mem_of_getElem? (i := 563) (by decide +kernel), List.mem_of_getElem? (i := 564) (by decide +kernel)⟩
theorem lw_p24 : lw_okq (⟨"DiagramMovesModel", "badPiece", "()I"⟩, 25) := ⟨⟨by decide +kernel, by decide +kernel⟩, List.mem_of_getElem? (i := 454) (by decide +kernel), List.mem_of_getElem? (i := 567) (by decide +kernel), List.mem_of_getElem? (i := 568) (by decide +kernel)⟩
theorem lw_p25 : lw_okq (⟨"DiagramMovesModel", "hang", "()V"⟩, 25) := ⟨⟨by decide +kernel, by decide +kernel⟩, List.mem_of_getElem? (i := 454) (by decide +kernel), List.mem_of_getElem? (i := 571) (by decide +kernel), List.mem_of_getElem? (i := 572) (by decide +kernel)⟩
theorem lw_p26 : lw_okq (⟨"DiagramMovesModel", "findFaces", "()V"⟩, 25) := ⟨⟨by decide +kernel, by decide +kernel⟩, List.mem_of_getElem? (i := 454) (by decide +kernel), List.mem_of_getElem? (i := 575) (by decide +kernel), List.mem_of_getElem? (i := 576) (by decide +kernel)⟩
theorem lw_p27 : lw_okq (⟨"DiagramMovesModel", "rowOf", "(I)I"⟩, 25) := ⟨⟨by decide +kernel, by decide +kernel⟩, List.mem_of_getElem? (i := 454) (by decide +kernel), List.mem_of_getElem? (i := 579) (by decide +kernel), List.mem_of_getElem? (i := 580) (by decide +kernel)⟩
theorem lw_p28 : lw_okq (⟨"DiagramMovesModel", "turn", "(I)I"⟩, 25) := ⟨⟨by decide +kernel, by decide +kernel⟩, List.mem_of_getElem? (i := 454) (by decide +kernel), List.mem_of_getElem? (i := 583) (by decide +kernel), List.mem_of_getElem? (i := 584) (by decide +kernel)⟩
theorem lw_p29 : lw_okq (⟨"DiagramMovesModel", "facesAt", "(I)I"⟩, 25) := ⟨⟨by decide +kernel, by decide +kernel⟩, List.mem_of_getElem? (i := 454) (by decide +kernel), List.mem_of_getElem? (i := 587) (by decide +kernel), List.mem_of_getElem? (i := 588) (by decide +kernel)⟩
theorem lw_p30 : lw_okq (⟨"DiagramMovesModel", "back", "()V"⟩, 25) := ⟨⟨by decide +kernel, by decide +kernel⟩, List.mem_of_getElem? (i := 454) (by decide +kernel), List.mem_of_getElem? (i := 591) (by decide +kernel), List.mem_of_getElem? (i := 592) (by decide +kernel)⟩
theorem lw_p31 : lw_okq (⟨"DiagramMovesModel", "signs", "()I"⟩, 25) := ⟨⟨by decide +kernel, by decide +kernel⟩, List.mem_of_getElem? (i := 454) (by decide +kernel), List.mem_of_getElem? (i := 599) (by decide +kernel), List.mem_of_getElem? (i := 600) (by decide +kernel)⟩
def lw_privs_2 : List (MethodName × Nat) := [(⟨"DiagramMoves$Diagram", "cutEdge", "(II)LDiagramMoves$Cut;"⟩, 6), (⟨"DiagramMoves$Diagram", "canMeet", "(II)Z"⟩, 6), (⟨"DiagramMovesModel", "take", "()V"⟩, 25), (⟨"DiagramMovesModel", "fault", "()I"⟩, 25), (⟨"DiagramMovesModel", "badLabel", "(Z)I"⟩, 25), (⟨"DiagramMovesModel", "sort", "()V"⟩, 25), (⟨"DiagramMovesModel", "placeOf", "(IZ)I"⟩, 25), (⟨"DiagramMovesModel", "isOut", "(I)Z"⟩, 25), (⟨"DiagramMovesModel", "badPiece", "()I"⟩, 25), (⟨"DiagramMovesModel", "hang", "()V"⟩, 25), (⟨"DiagramMovesModel", "findFaces", "()V"⟩, 25), (⟨"DiagramMovesModel", "rowOf", "(I)I"⟩, 25), (⟨"DiagramMovesModel", "turn", "(I)I"⟩, 25), (⟨"DiagramMovesModel", "facesAt", "(I)I"⟩, 25), (⟨"DiagramMovesModel", "back", "()V"⟩, 25), (⟨"DiagramMovesModel", "signs", "()I"⟩, 25)]
theorem lw_r2 : ∀ q ∈ lw_privs_2, lw_okq q := List.forall_mem_cons.mpr ⟨lw_p16, List.forall_mem_cons.mpr ⟨lw_p17, List.forall_mem_cons.mpr ⟨lw_p18, List.forall_mem_cons.mpr ⟨lw_p19, List.forall_mem_cons.mpr ⟨lw_p20, List.forall_mem_cons.mpr ⟨lw_p21, List.forall_mem_cons.mpr ⟨lw_p22, List.forall_mem_cons.mpr ⟨lw_p23, List.forall_mem_cons.mpr ⟨lw_p24, List.forall_mem_cons.mpr ⟨lw_p25, List.forall_mem_cons.mpr ⟨lw_p26, List.forall_mem_cons.mpr ⟨lw_p27, List.forall_mem_cons.mpr ⟨lw_p28, List.forall_mem_cons.mpr ⟨lw_p29, List.forall_mem_cons.mpr ⟨lw_p30, List.forall_mem_cons.mpr ⟨lw_p31, fun _ h => absurd h List.not_mem_nil⟩⟩⟩⟩⟩⟩⟩⟩⟩⟩⟩⟩⟩⟩⟩⟩
theorem lw_p32 : lw_okq (⟨"DiagramMovesModel", "allFaces", "()I"⟩, 25) := ⟨⟨by decide +kernel, by decide +kernel⟩, List.mem_of_getElem? (i := 454) (by decide +kernel), List.mem_of_getElem? (i := 603) (by decide +kernel), List.mem_of_getElem? (i := 604) (by decide +kernel)⟩
theorem lw_p33 : lw_okq (⟨"DiagramMovesModel", "allComponents", "()I"⟩, 25) := ⟨⟨by decide +kernel, by decide +kernel⟩, List.mem_of_getElem? (i := 454) (by decide +kernel), List.mem_of_getElem? (i := 607) (by decide +kernel), List.mem_of_getElem? (i := 608) (by decide +kernel)⟩
theorem lw_p34 : lw_okq (⟨"DiagramMovesModel", "components", "()V"⟩, 25) := ⟨⟨by decide +kernel, by decide +kernel⟩, List.mem_of_getElem? (i := 454) (by decide +kernel), List.mem_of_getElem? (i := 611) (by decide +kernel), List.mem_of_getElem? (i := 612) (by decide +kernel)⟩
theorem lw_p35 : lw_okq (⟨"DiagramMovesModel", "next", "(I)I"⟩, 25) := ⟨⟨by decide +kernel, by decide +kernel⟩, List.mem_of_getElem? (i := 454) (by decide +kernel), List.mem_of_getElem? (i := 615) (by decide +kernel), List.mem_of_getElem? (i := 616) (by decide +kernel)⟩
theorem lw_p36 : lw_okq (⟨"DiagramMovesModel", "pieces", "()I"⟩, 25) := ⟨⟨by decide +kernel, by decide +kernel⟩, List.mem_of_getElem? (i := 454) (by decide +kernel), List.mem_of_getElem? (i := 622) (by decide +kernel), List.mem_of_getElem? (i := 623) (by decide +kernel)⟩
theorem lw_p37 : lw_okq (⟨"DiagramMovesModel", "leastFree", "()I"⟩, 25) := ⟨⟨by decide +kernel, by decide +kernel⟩, List.mem_of_getElem? (i := 454) (by decide +kernel), List.mem_of_getElem? (i := 626) (by decide +kernel), List.mem_of_getElem? (i := 627) (by decide +kernel)⟩
theorem lw_p38 : lw_okq (⟨"DiagramMovesModel", "findFree", "()V"⟩, 25) := ⟨⟨by decide +kernel, by decide +kernel⟩, List.mem_of_getElem? (i := 454) (by decide +kernel), List.mem_of_getElem? (i := 630) (by decide +kernel), List.mem_of_getElem? (i := 631) (by decide +kernel)⟩
theorem lw_p39 : lw_okq (⟨"DiagramMovesModel", "findSides", "(I)Z"⟩, 25) := ⟨⟨by decide +kernel, by decide +kernel⟩, List.mem_of_getElem? (i := 454) (by decide +kernel), List.mem_of_getElem? (i := 642) (by decide +kernel), List.mem_of_getElem? (i := 643) (by decide +kernel)⟩
theorem lw_p40 : lw_okq (⟨"DiagramMovesModel", "corner", "(I)I"⟩, 25) := ⟨⟨by decide +kernel, by decide +kernel⟩, List.mem_of_getElem? (i := 454) (by decide +kernel), List.mem_of_getElem? (i := 650) (by decide +kernel), List.mem_of_getElem? (i := 651) (by decide +kernel)⟩
theorem lw_p41 : lw_okq (⟨"DiagramMovesModel", "uppers", "(I)I"⟩, 25) := ⟨⟨by decide +kernel, by decide +kernel⟩, List.mem_of_getElem? (i := 454) (by decide +kernel), List.mem_of_getElem? (i := 654) (by decide +kernel), List.mem_of_getElem? (i := 655) (by decide +kernel)⟩
theorem lw_p42 : lw_okq (⟨"DiagramMovesModel", "lift", "(I)V"⟩, 25) := ⟨⟨by decide +kernel, by decide +kernel⟩, List.mem_of_getElem? (i := 454) (by decide +kernel), List.mem_of_getElem? (i := 666) (by decide +kernel), List.mem_of_getElem? (i := 667) (by decide +kernel)⟩
theorem lw_p43 : lw_okq (⟨"DiagramMovesModel", "join", "(II)V"⟩, 25) := ⟨⟨by decide +kernel, by decide +kernel⟩, List.mem_of_getElem? (i := 454) (by decide +kernel), List.mem_of_getElem? (i := 670) (by decide +kernel), List.mem_of_getElem? (i := 671) (by decide +kernel)⟩
theorem lw_p44 : lw_okq (⟨"DiagramMovesModel", "rename", "(II)V"⟩, 25) := ⟨⟨by decide +kernel, by decide +kernel⟩, List.mem_of_getElem? (i := 454) (by decide +kernel), List.mem_of_getElem? (i := 674) (by decide +kernel), List.mem_of_getElem? (i := 675) (by decide +kernel)⟩
theorem lw_p45 : lw_okq (⟨"DiagramMovesModel", "add", "(IIIII)V"⟩, 25) := ⟨⟨by decide +kernel, by decide +kernel⟩, List.mem_of_getElem? (i := 454) (by decide +kernel), List.mem_of_getElem? (i := 691) (by decide +kernel), List.mem_of_getElem? (i := 692) (by decide +kernel)⟩
theorem lw_p46 : lw_okq (⟨"DiagramMovesModel", "areOne", "(IIII)Z"⟩, 25) := ⟨⟨by decide +kernel, by decide +kernel⟩, List.mem_of_getElem? (i := 454) (by decide +kernel), List.mem_of_getElem? (i := 699) (by decide +kernel), List.mem_of_getElem? (i := 700) (by decide +kernel)⟩
theorem lw_p47 : lw_okq (⟨"DiagramMovesModel", "cross", "(II)V"⟩, 25) := ⟨⟨by decide +kernel, by decide +kernel⟩, List.mem_of_getElem? (i := 454) (by decide +kernel), List.mem_of_getElem? (i := 703) (by decide +kernel), List.mem_of_getElem? (i := 704) (by decide +kernel)⟩
def lw_privs_3 : List (MethodName × Nat) := [(⟨"DiagramMovesModel", "allFaces", "()I"⟩, 25), (⟨"DiagramMovesModel", "allComponents", "()I"⟩, 25), (⟨"DiagramMovesModel", "components", "()V"⟩, 25), (⟨"DiagramMovesModel", "next", "(I)I"⟩, 25), (⟨"DiagramMovesModel", "pieces", "()I"⟩, 25), (⟨"DiagramMovesModel", "leastFree", "()I"⟩, 25), (⟨"DiagramMovesModel", "findFree", "()V"⟩, 25), (⟨"DiagramMovesModel", "findSides", "(I)Z"⟩, 25), (⟨"DiagramMovesModel", "corner", "(I)I"⟩, 25), (⟨"DiagramMovesModel", "uppers", "(I)I"⟩, 25), (⟨"DiagramMovesModel", "lift", "(I)V"⟩, 25), (⟨"DiagramMovesModel", "join", "(II)V"⟩, 25), (⟨"DiagramMovesModel", "rename", "(II)V"⟩, 25), (⟨"DiagramMovesModel", "add", "(IIIII)V"⟩, 25), (⟨"DiagramMovesModel", "areOne", "(IIII)Z"⟩, 25), (⟨"DiagramMovesModel", "cross", "(II)V"⟩, 25)]
theorem lw_r3 : ∀ q ∈ lw_privs_3, lw_okq q := List.forall_mem_cons.mpr ⟨lw_p32, List.forall_mem_cons.mpr ⟨lw_p33, List.forall_mem_cons.mpr ⟨lw_p34, List.forall_mem_cons.mpr ⟨lw_p35, List.forall_mem_cons.mpr ⟨lw_p36, List.forall_mem_cons.mpr ⟨lw_p37, List.forall_mem_cons.mpr ⟨lw_p38, List.forall_mem_cons.mpr ⟨lw_p39, List.forall_mem_cons.mpr ⟨lw_p40, List.forall_mem_cons.mpr ⟨lw_p41, List.forall_mem_cons.mpr ⟨lw_p42, List.forall_mem_cons.mpr ⟨lw_p43, List.forall_mem_cons.mpr ⟨lw_p44, List.forall_mem_cons.mpr ⟨lw_p45, List.forall_mem_cons.mpr ⟨lw_p46, List.forall_mem_cons.mpr ⟨lw_p47, fun _ h => absurd h List.not_mem_nil⟩⟩⟩⟩⟩⟩⟩⟩⟩⟩⟩⟩⟩⟩⟩⟩
def lw_privs : List (MethodName × Nat) := lw_privs_1 ++ (lw_privs_2 ++ (lw_privs_3))
def lw_tbl : List Cond := k2_sels lw_privs ++ tables_1
theorem lw_privs_ok : ∀ q ∈ lw_privs, lw_okq q := by
  show ∀ q ∈ lw_privs_1 ++ (lw_privs_2 ++ (lw_privs_3)), lw_okq q
  exact List.forall_mem_append.mpr ⟨lw_r1, List.forall_mem_append.mpr ⟨lw_r2, lw_r3⟩⟩
end
section
def zt : List Cond := lw_tbl.filter goodWord
theorem zt_of {w : Cond} (h : w ∈ tables_1) (g : goodWord w = true) : w ∈ zt := List.mem_filter.mpr ⟨List.mem_append_right _ h, g⟩
theorem zt_ps {w : Cond} (h : w ∈ k2_sels lw_privs) (g : goodWord w = true) : w ∈ zt := List.mem_filter.mpr ⟨List.mem_append_left _ h, g⟩
theorem zt_in {w : Cond} (h : w ∈ zt) : w ∈ lw_tbl := (List.mem_filter.mp h).1
theorem zt_good {w : Cond} (h : w ∈ zt) : goodWord w = true := (List.mem_filter.mp h).2
def R_Mov : String := "DiagramMoves"
def R_Dia : String := "DiagramMoves$Diagram"
def R_Row : String := "DiagramMoves$Row"
def R_Edg : String := "DiagramMoves$Edges"
def R_Fac : String := "DiagramMoves$Faces"
def R_Pie : String := "DiagramMoves$Pieces"
def R_Cut : String := "DiagramMoves$Cut"
def R_Mod : String := "DiagramMovesModel"
def R_Law : String := "DiagramMovesLaw"
def R_Math : String := "java/lang/Math"
def R_Arr : String := "java/util/Arrays"
def R_Int : String := "java/lang/Integer"
def F_Mov : u_T := fun k => match k with
  | 0 => ("DiagramMoves", "diagram", "LDiagramMoves$Diagram;", false)
  | _ => ("DiagramMoves", "draft", "LDiagramMoves$Diagram;", false)
def t_Mov : Nat → FieldType := fun k => match k with
  | 0 => (.object "DiagramMoves$Diagram")
  | _ => (.object "DiagramMoves$Diagram")
theorem n_Mov : ∀ a, a < 2 → ∀ b, b < 2 → a ≠ b → (F_Mov a).2.1 ≠ (F_Mov b).2.1 := by decide +kernel
theorem t_Mov_ok : ∀ k, k < 2 → parseFieldDescriptor (F_Mov k).2.2.1 = some (t_Mov k) := by decide +kernel
theorem i_Mov : ∀ w ∈ u_ws R_Mov F_Mov 2, w ∈ zt := by decide +kernel
def F_Dia : u_T := fun k => match k with
  | 0 => ("DiagramMoves$Diagram", "row", "LDiagramMoves$Row;", true)
  | 1 => ("DiagramMoves$Diagram", "edges", "LDiagramMoves$Edges;", true)
  | 2 => ("DiagramMoves$Diagram", "faces", "LDiagramMoves$Faces;", true)
  | 3 => ("DiagramMoves$Diagram", "pieces", "LDiagramMoves$Pieces;", true)
  | 4 => ("DiagramMoves$Diagram", "slidLabels", "[I", true)
  | _ => ("DiagramMoves$Diagram", "circles", "I", false)
def t_Dia : Nat → FieldType := fun k => match k with
  | 0 => (.object "DiagramMoves$Row")
  | 1 => (.object "DiagramMoves$Edges")
  | 2 => (.object "DiagramMoves$Faces")
  | 3 => (.object "DiagramMoves$Pieces")
  | 4 => (.array .int)
  | _ => .int
theorem n_Dia : ∀ a, a < 6 → ∀ b, b < 6 → a ≠ b → (F_Dia a).2.1 ≠ (F_Dia b).2.1 := by decide +kernel
theorem t_Dia_ok : ∀ k, k < 6 → parseFieldDescriptor (F_Dia k).2.2.1 = some (t_Dia k) := by decide +kernel
theorem i_Dia : ∀ w ∈ u_ws R_Dia F_Dia 6, w ∈ zt := by decide +kernel
def F_Row : u_T := fun k => match k with
  | 0 => ("DiagramMoves$Row", "labels", "[I", true)
  | 1 => ("DiagramMoves$Row", "signs", "[I", true)
  | _ => ("DiagramMoves$Row", "count", "I", false)
def t_Row : Nat → FieldType := fun k => match k with
  | 0 => (.array .int)
  | 1 => (.array .int)
  | _ => .int
theorem n_Row : ∀ a, a < 3 → ∀ b, b < 3 → a ≠ b → (F_Row a).2.1 ≠ (F_Row b).2.1 := by decide +kernel
theorem t_Row_ok : ∀ k, k < 3 → parseFieldDescriptor (F_Row k).2.2.1 = some (t_Row k) := by decide +kernel
theorem i_Row : ∀ w ∈ u_ws R_Row F_Row 3, w ∈ zt := by decide +kernel
def F_Edg : u_T := fun k => match k with
  | 0 => ("DiagramMoves$Edges", "placesByLabel", "[I", true)
  | 1 => ("DiagramMoves$Edges", "labels", "[I", true)
  | 2 => ("DiagramMoves$Edges", "from", "[I", true)
  | 3 => ("DiagramMoves$Edges", "to", "[I", true)
  | 4 => ("DiagramMoves$Edges", "atPlace", "[I", true)
  | _ => ("DiagramMoves$Edges", "count", "I", false)
def t_Edg : Nat → FieldType := fun k => match k with
  | 0 => (.array .int)
  | 1 => (.array .int)
  | 2 => (.array .int)
  | 3 => (.array .int)
  | 4 => (.array .int)
  | _ => .int
theorem n_Edg : ∀ a, a < 6 → ∀ b, b < 6 → a ≠ b → (F_Edg a).2.1 ≠ (F_Edg b).2.1 := by decide +kernel
theorem t_Edg_ok : ∀ k, k < 6 → parseFieldDescriptor (F_Edg k).2.2.1 = some (t_Edg k) := by decide +kernel
theorem i_Edg : ∀ w ∈ u_ws R_Edg F_Edg 6, w ∈ zt := by decide +kernel
def F_Fac : u_T := fun k => match k with
  | 0 => ("DiagramMoves$Faces", "ofDart", "[I", true)
  | 1 => ("DiagramMoves$Faces", "rounds", "[I", true)
  | 2 => ("DiagramMoves$Faces", "start", "[I", true)
  | _ => ("DiagramMoves$Faces", "count", "I", false)
def t_Fac : Nat → FieldType := fun k => match k with
  | 0 => (.array .int)
  | 1 => (.array .int)
  | 2 => (.array .int)
  | _ => .int
theorem n_Fac : ∀ a, a < 4 → ∀ b, b < 4 → a ≠ b → (F_Fac a).2.1 ≠ (F_Fac b).2.1 := by decide +kernel
theorem t_Fac_ok : ∀ k, k < 4 → parseFieldDescriptor (F_Fac k).2.2.1 = some (t_Fac k) := by decide +kernel
theorem i_Fac : ∀ w ∈ u_ws R_Fac F_Fac 4, w ∈ zt := by decide +kernel
def F_Pie : u_T := fun k => match k with
  | 0 => ("DiagramMoves$Pieces", "ofCrossing", "[I", true)
  | 1 => ("DiagramMoves$Pieces", "componentOfEdge", "[I", true)
  | 2 => ("DiagramMoves$Pieces", "count", "I", false)
  | _ => ("DiagramMoves$Pieces", "components", "I", false)
def t_Pie : Nat → FieldType := fun k => match k with
  | 0 => (.array .int)
  | 1 => (.array .int)
  | 2 => .int
  | _ => .int
theorem n_Pie : ∀ a, a < 4 → ∀ b, b < 4 → a ≠ b → (F_Pie a).2.1 ≠ (F_Pie b).2.1 := by decide +kernel
theorem t_Pie_ok : ∀ k, k < 4 → parseFieldDescriptor (F_Pie k).2.2.1 = some (t_Pie k) := by decide +kernel
theorem i_Pie : ∀ w ∈ u_ws R_Pie F_Pie 4, w ∈ zt := by decide +kernel
def F_Cut : u_T := fun k => match k with
  | 0 => ("DiagramMoves$Cut", "first", "I", true)
  | 1 => ("DiagramMoves$Cut", "middle", "I", true)
  | _ => ("DiagramMoves$Cut", "last", "I", true)
def t_Cut : Nat → FieldType := fun k => match k with
  | 0 => .int
  | 1 => .int
  | _ => .int
theorem n_Cut : ∀ a, a < 3 → ∀ b, b < 3 → a ≠ b → (F_Cut a).2.1 ≠ (F_Cut b).2.1 := by decide +kernel
theorem t_Cut_ok : ∀ k, k < 3 → parseFieldDescriptor (F_Cut k).2.2.1 = some (t_Cut k) := by decide +kernel
theorem i_Cut : ∀ w ∈ u_ws R_Cut F_Cut 3, w ∈ zt := by decide +kernel
def F_Mod : u_T := fun k => match k with
  | 0 => ("DiagramMovesModel", "thrown", "I", false)
  | 1 => ("DiagramMovesModel", "put", "I", false)
  | 2 => ("DiagramMovesModel", "wrong", "I", false)
  | 3 => ("DiagramMovesModel", "putSign", "[I", true)
  | 4 => ("DiagramMovesModel", "putLabel", "[I", true)
  | 5 => ("DiagramMovesModel", "n", "I", false)
  | 6 => ("DiagramMovesModel", "circles", "I", false)
  | 7 => ("DiagramMovesModel", "oldN", "I", false)
  | 8 => ("DiagramMovesModel", "oldCircles", "I", false)
  | 9 => ("DiagramMovesModel", "sign", "[I", true)
  | 10 => ("DiagramMovesModel", "label", "[I", true)
  | 11 => ("DiagramMovesModel", "oldSign", "[I", true)
  | 12 => ("DiagramMovesModel", "oldLabel", "[I", true)
  | 13 => ("DiagramMovesModel", "labels", "I", false)
  | 14 => ("DiagramMovesModel", "row", "[I", true)
  | 15 => ("DiagramMovesModel", "fresh", "[I", true)
  | 16 => ("DiagramMovesModel", "piece", "[I", true)
  | 17 => ("DiagramMovesModel", "closed", "I", false)
  | 18 => ("DiagramMovesModel", "faces", "I", false)
  | 19 => ("DiagramMovesModel", "component", "[I", true)
  | 20 => ("DiagramMovesModel", "faceOf", "[I", true)
  | 21 => ("DiagramMovesModel", "sides", "I", false)
  | 22 => ("DiagramMovesModel", "side", "[I", true)
  | 23 => ("DiagramMovesModel", "free", "[I", true)
  | _ => ("DiagramMovesModel", "around", "[I", true)
def t_Mod : Nat → FieldType := fun k => match k with
  | 0 => .int
  | 1 => .int
  | 2 => .int
  | 3 => (.array .int)
  | 4 => (.array .int)
  | 5 => .int
  | 6 => .int
  | 7 => .int
  | 8 => .int
  | 9 => (.array .int)
  | 10 => (.array .int)
  | 11 => (.array .int)
  | 12 => (.array .int)
  | 13 => .int
  | 14 => (.array .int)
  | 15 => (.array .int)
  | 16 => (.array .int)
  | 17 => .int
  | 18 => .int
  | 19 => (.array .int)
  | 20 => (.array .int)
  | 21 => .int
  | 22 => (.array .int)
  | 23 => (.array .int)
  | _ => (.array .int)
theorem n_Mod : ∀ a, a < 25 → ∀ b, b < 25 → a ≠ b → (F_Mod a).2.1 ≠ (F_Mod b).2.1 := by decide +kernel
theorem t_Mod_ok : ∀ k, k < 25 → parseFieldDescriptor (F_Mod k).2.2.1 = some (t_Mod k) := by decide +kernel
theorem i_Mod : ∀ w ∈ u_ws R_Mod F_Mod 25, w ∈ zt := by decide +kernel
abbrev vwCl : List vw_C := [(R_Mov, F_Mov, 2), (R_Dia, F_Dia, 6), (R_Row, F_Row, 3), (R_Edg, F_Edg, 6), (R_Fac, F_Fac, 4), (R_Pie, F_Pie, 4), (R_Cut, F_Cut, 3), (R_Mod, F_Mod, 25)]
def zNs : List (String × Nat × MethodName × String) := [("DiagramMoves", 11, ⟨"DiagramMoves$Diagram", "<init>", "()V"⟩, "DiagramMoves"), ("DiagramMoves$Diagram", 11, ⟨"DiagramMoves$Row", "<init>", "()V"⟩, "DiagramMoves"), ("DiagramMoves$Diagram", 20, ⟨"DiagramMoves$Edges", "<init>", "()V"⟩, "DiagramMoves"), ("DiagramMoves$Diagram", 27, ⟨"DiagramMoves$Faces", "<init>", "()V"⟩, "DiagramMoves"), ("DiagramMoves$Diagram", 34, ⟨"DiagramMoves$Pieces", "<init>", "()V"⟩, "DiagramMoves")]
theorem zNs_in : ∀ q ∈ zNs, Cond.methodLinkNest q.1 q.2.1 q.2.2.1 q.2.2.2 ∈ lw_tbl := by decide +kernel
def zNst (U : State) : Prop := ∀ q ∈ zNs, va_Nw (.methodLinkNest q.1 q.2.1 q.2.2.1 q.2.2.2) U
theorem zNst.warm {s U : State} (hW : s.WarmedH U.vm) (h : zNst s) : zNst U := fun q hq => va_Nw.warmM hW (h q hq)
abbrev b_Mov_init : ByteArray := prog_1_method_1_code
def y_Mov_init : MethodName := ⟨R_Mov, "<init>", "()V"⟩
theorem k_Mov_init : Cond.code y_Mov_init b_Mov_init 1 none ∈ zt := zt_of (List.mem_append_left _ (List.mem_of_getElem? (i := 17) rfl)) rfl
abbrev b_Mov_crossing : ByteArray := prog_1_method_2_code
def y_Mov_crossing : MethodName := ⟨R_Mov, "crossing", "(IIIII)I"⟩
theorem k_Mov_crossing : Cond.code y_Mov_crossing b_Mov_crossing 7 (some .int) ∈ zt := zt_of (List.mem_append_left _ (List.mem_of_getElem? (i := 163) rfl)) rfl
abbrev b_Mov_check : ByteArray := prog_1_method_3_code
def y_Mov_check : MethodName := ⟨R_Mov, "check", "(I)I"⟩
theorem k_Mov_check : Cond.code y_Mov_check b_Mov_check 4 (some .int) ∈ zt := zt_of (List.mem_append_left _ (List.mem_of_getElem? (i := 182) rfl)) rfl
abbrev b_Mov_many : ByteArray := prog_1_method_4_code
def y_Mov_many : MethodName := ⟨R_Mov, "many", "(I)I"⟩
theorem k_Mov_many : Cond.code y_Mov_many b_Mov_many 2 (some .int) ∈ zt := zt_of (List.mem_append_right _ (List.mem_append_left _ (List.mem_of_getElem? (i := 24) rfl))) rfl
abbrev b_Mov_look : ByteArray := prog_1_method_5_code
def y_Mov_look : MethodName := ⟨R_Mov, "look", "(II)I"⟩
theorem k_Mov_look : Cond.code y_Mov_look b_Mov_look 3 (some .int) ∈ zt := zt_of (List.mem_append_right _ (List.mem_append_left _ (List.mem_of_getElem? (i := 36) rfl))) rfl
abbrev b_Mov_face : ByteArray := prog_1_method_6_code
def y_Mov_face : MethodName := ⟨R_Mov, "face", "(II)I"⟩
theorem k_Mov_face : Cond.code y_Mov_face b_Mov_face 4 (some .int) ∈ zt := zt_of (List.mem_append_right _ (List.mem_append_left _ (List.mem_of_getElem? (i := 40) rfl))) rfl
abbrev b_Mov_pattern : ByteArray := prog_1_method_7_code
def y_Mov_pattern : MethodName := ⟨R_Mov, "pattern", "(I)I"⟩
theorem k_Mov_pattern : Cond.code y_Mov_pattern b_Mov_pattern 2 (some .int) ∈ zt := zt_of (List.mem_append_right _ (List.mem_append_left _ (List.mem_of_getElem? (i := 60) rfl))) rfl
abbrev b_Mov_undo : ByteArray := prog_1_method_8_code
def y_Mov_undo : MethodName := ⟨R_Mov, "undo", "(I)I"⟩
theorem k_Mov_undo : Cond.code y_Mov_undo b_Mov_undo 2 (some .int) ∈ zt := zt_of (List.mem_append_right _ (List.mem_append_left _ (List.mem_of_getElem? (i := 93) rfl))) rfl
abbrev b_Mov_slide : ByteArray := prog_1_method_9_code
def y_Mov_slide : MethodName := ⟨R_Mov, "slide", "(I)Z"⟩
theorem k_Mov_slide : Cond.code y_Mov_slide b_Mov_slide 2 (some .boolean) ∈ zt := zt_of (List.mem_append_right _ (List.mem_append_left _ (List.mem_of_getElem? (i := 127) rfl))) rfl
abbrev b_Mov_twist : ByteArray := prog_1_method_10_code
def y_Mov_twist : MethodName := ⟨R_Mov, "twist", "(IIZ)Z"⟩
theorem k_Mov_twist : Cond.code y_Mov_twist b_Mov_twist 4 (some .boolean) ∈ zt := zt_of (List.mem_append_right _ (List.mem_append_left _ (List.mem_of_getElem? (i := 140) rfl))) rfl
abbrev b_Mov_push : ByteArray := prog_1_method_11_code
def y_Mov_push : MethodName := ⟨R_Mov, "push", "(IZIZZ)Z"⟩
theorem k_Mov_push : Cond.code y_Mov_push b_Mov_push 8 (some .boolean) ∈ zt := zt_of (List.mem_append_right _ (List.mem_append_left _ (List.mem_of_getElem? (i := 195) rfl))) rfl
abbrev b_Mov_simplify : ByteArray := prog_1_method_12_code
def y_Mov_simplify : MethodName := ⟨R_Mov, "simplify", "()I"⟩
theorem k_Mov_simplify : Cond.code y_Mov_simplify b_Mov_simplify 4 (some .int) ∈ zt := zt_of (List.mem_append_right _ (List.mem_append_left _ (List.mem_of_getElem? (i := 208) rfl))) rfl
abbrev b_Mov_isSign : ByteArray := prog_1_method_13_code
def y_Mov_isSign : MethodName := ⟨R_Mov, "isSign", "(I)Z"⟩
theorem k_Mov_isSign : Cond.code y_Mov_isSign b_Mov_isSign 1 (some .boolean) ∈ zt := zt_of (List.mem_append_left _ (List.mem_of_getElem? (i := 169) rfl)) rfl
abbrev b_Mov_isLabel : ByteArray := prog_1_method_14_code
def y_Mov_isLabel : MethodName := ⟨R_Mov, "isLabel", "(I)Z"⟩
theorem k_Mov_isLabel : Cond.code y_Mov_isLabel b_Mov_isLabel 1 (some .boolean) ∈ zt := zt_of (List.mem_append_left _ (List.mem_of_getElem? (i := 166) rfl)) rfl
abbrev b_Mod_init : ByteArray := prog_9_method_1_code
def y_Mod_init : MethodName := ⟨R_Mod, "<init>", "()V"⟩
theorem k_Mod_init : Cond.code y_Mod_init b_Mod_init 1 none ∈ zt := zt_of (List.mem_append_right _ (List.mem_append_left _ (List.mem_of_getElem? (i := 217) rfl))) rfl
abbrev b_Mod_isOut : ByteArray := prog_9_method_3_code
def y_Mod_isOut : MethodName := ⟨R_Mod, "isOut", "(I)Z"⟩
theorem k_Mod_isOut : Cond.code y_Mod_isOut b_Mod_isOut 3 (some .boolean) ∈ zt := zt_of (List.mem_append_right _ (List.mem_append_right _ (List.mem_of_getElem? (i := 85) rfl))) rfl
abbrev b_Mod_isUpper : ByteArray := prog_9_method_4_code
def y_Mod_isUpper : MethodName := ⟨R_Mod, "isUpper", "(I)Z"⟩
theorem k_Mod_isUpper : Cond.code y_Mod_isUpper b_Mod_isUpper 1 (some .boolean) ∈ zt := zt_of (List.mem_append_right _ (List.mem_append_right _ (List.mem_of_getElem? (i := 179) rfl))) rfl
abbrev b_Mod_placeOf : ByteArray := prog_9_method_5_code
def y_Mod_placeOf : MethodName := ⟨R_Mod, "placeOf", "(IZ)I"⟩
theorem k_Mod_placeOf : Cond.code y_Mod_placeOf b_Mod_placeOf 5 (some .int) ∈ zt := zt_of (List.mem_append_right _ (List.mem_append_right _ (List.mem_of_getElem? (i := 81) rfl))) rfl
abbrev b_Mod_across : ByteArray := prog_9_method_6_code
def y_Mod_across : MethodName := ⟨R_Mod, "across", "(I)I"⟩
theorem k_Mod_across : Cond.code y_Mod_across b_Mod_across 1 (some .int) ∈ zt := zt_of (List.mem_append_right _ (List.mem_append_right _ (List.mem_of_getElem? (i := 140) rfl))) rfl
abbrev b_Mod_next : ByteArray := prog_9_method_7_code
def y_Mod_next : MethodName := ⟨R_Mod, "next", "(I)I"⟩
theorem k_Mod_next : Cond.code y_Mod_next b_Mod_next 2 (some .int) ∈ zt := zt_of (List.mem_append_right _ (List.mem_append_right _ (List.mem_of_getElem? (i := 137) rfl))) rfl
abbrev b_Mod_sort : ByteArray := prog_9_method_8_code
def y_Mod_sort : MethodName := ⟨R_Mod, "sort", "()V"⟩
theorem k_Mod_sort : Cond.code y_Mod_sort b_Mod_sort 4 none ∈ zt := zt_of (List.mem_append_right _ (List.mem_append_right _ (List.mem_of_getElem? (i := 77) rfl))) rfl
abbrev b_Mod_components : ByteArray := prog_9_method_9_code
def y_Mod_components : MethodName := ⟨R_Mod, "components", "()V"⟩
theorem k_Mod_components : Cond.code y_Mod_components b_Mod_components 4 none ∈ zt := zt_of (List.mem_append_right _ (List.mem_append_right _ (List.mem_of_getElem? (i := 133) rfl))) rfl
abbrev b_Mod_hang : ByteArray := prog_9_method_10_code
def y_Mod_hang : MethodName := ⟨R_Mod, "hang", "()V"⟩
theorem k_Mod_hang : Cond.code y_Mod_hang b_Mod_hang 4 none ∈ zt := zt_of (List.mem_append_right _ (List.mem_append_right _ (List.mem_of_getElem? (i := 93) rfl))) rfl
abbrev b_Mod_pieces : ByteArray := prog_9_method_11_code
def y_Mod_pieces : MethodName := ⟨R_Mod, "pieces", "()I"⟩
theorem k_Mod_pieces : Cond.code y_Mod_pieces b_Mod_pieces 3 (some .int) ∈ zt := zt_of (List.mem_append_right _ (List.mem_append_right _ (List.mem_of_getElem? (i := 144) rfl))) rfl
abbrev b_Mod_turn : ByteArray := prog_9_method_12_code
def y_Mod_turn : MethodName := ⟨R_Mod, "turn", "(I)I"⟩
theorem k_Mod_turn : Cond.code y_Mod_turn b_Mod_turn 4 (some .int) ∈ zt := zt_of (List.mem_append_right _ (List.mem_append_right _ (List.mem_of_getElem? (i := 105) rfl))) rfl
abbrev b_Mod_rowOf : ByteArray := prog_9_method_13_code
def y_Mod_rowOf : MethodName := ⟨R_Mod, "rowOf", "(I)I"⟩
theorem k_Mod_rowOf : Cond.code y_Mod_rowOf b_Mod_rowOf 3 (some .int) ∈ zt := zt_of (List.mem_append_right _ (List.mem_append_right _ (List.mem_of_getElem? (i := 101) rfl))) rfl
abbrev b_Mod_findFaces : ByteArray := prog_9_method_14_code
def y_Mod_findFaces : MethodName := ⟨R_Mod, "findFaces", "()V"⟩
theorem k_Mod_findFaces : Cond.code y_Mod_findFaces b_Mod_findFaces 4 none ∈ zt := zt_of (List.mem_append_right _ (List.mem_append_right _ (List.mem_of_getElem? (i := 97) rfl))) rfl
abbrev b_Mod_facesAt : ByteArray := prog_9_method_15_code
def y_Mod_facesAt : MethodName := ⟨R_Mod, "facesAt", "(I)I"⟩
theorem k_Mod_facesAt : Cond.code y_Mod_facesAt b_Mod_facesAt 6 (some .int) ∈ zt := zt_of (List.mem_append_right _ (List.mem_append_right _ (List.mem_of_getElem? (i := 109) rfl))) rfl
abbrev b_Mod_crossing : ByteArray := prog_9_method_16_code
def y_Mod_crossing : MethodName := ⟨R_Mod, "crossing", "(IIIII)I"⟩
theorem k_Mod_crossing : Cond.code y_Mod_crossing b_Mod_crossing 7 (some .int) ∈ zt := zt_of (List.mem_append_right _ (List.mem_append_right _ (List.mem_of_getElem? (i := 57) rfl))) rfl
abbrev b_Mod_take : ByteArray := prog_9_method_17_code
def y_Mod_take : MethodName := ⟨R_Mod, "take", "()V"⟩
theorem k_Mod_take : Cond.code y_Mod_take b_Mod_take 2 none ∈ zt := zt_of (List.mem_append_right _ (List.mem_append_right _ (List.mem_of_getElem? (i := 65) rfl))) rfl
abbrev b_Mod_back : ByteArray := prog_9_method_18_code
def y_Mod_back : MethodName := ⟨R_Mod, "back", "()V"⟩
theorem k_Mod_back : Cond.code y_Mod_back b_Mod_back 2 none ∈ zt := zt_of (List.mem_append_right _ (List.mem_append_right _ (List.mem_of_getElem? (i := 113) rfl))) rfl
abbrev b_Mod_badLabel : ByteArray := prog_9_method_19_code
def y_Mod_badLabel : MethodName := ⟨R_Mod, "badLabel", "(Z)I"⟩
theorem k_Mod_badLabel : Cond.code y_Mod_badLabel b_Mod_badLabel 5 (some .int) ∈ zt := zt_of (List.mem_append_right _ (List.mem_append_right _ (List.mem_of_getElem? (i := 73) rfl))) rfl
abbrev b_Mod_badPiece : ByteArray := prog_9_method_20_code
def y_Mod_badPiece : MethodName := ⟨R_Mod, "badPiece", "()I"⟩
theorem k_Mod_badPiece : Cond.code y_Mod_badPiece b_Mod_badPiece 5 (some .int) ∈ zt := zt_of (List.mem_append_right _ (List.mem_append_right _ (List.mem_of_getElem? (i := 89) rfl))) rfl
abbrev b_Mod_fault : ByteArray := prog_9_method_21_code
def y_Mod_fault : MethodName := ⟨R_Mod, "fault", "()I"⟩
theorem k_Mod_fault : Cond.code y_Mod_fault b_Mod_fault 1 (some .int) ∈ zt := zt_of (List.mem_append_right _ (List.mem_append_right _ (List.mem_of_getElem? (i := 69) rfl))) rfl
abbrev b_Mod_check : ByteArray := prog_9_method_22_code
def y_Mod_check : MethodName := ⟨R_Mod, "check", "(I)I"⟩
theorem k_Mod_check : Cond.code y_Mod_check b_Mod_check 3 (some .int) ∈ zt := zt_of (List.mem_append_right _ (List.mem_append_right _ (List.mem_of_getElem? (i := 61) rfl))) rfl
abbrev b_Mod_signs : ByteArray := prog_9_method_23_code
def y_Mod_signs : MethodName := ⟨R_Mod, "signs", "()I"⟩
theorem k_Mod_signs : Cond.code y_Mod_signs b_Mod_signs 3 (some .int) ∈ zt := zt_of (List.mem_append_right _ (List.mem_append_right _ (List.mem_of_getElem? (i := 121) rfl))) rfl
abbrev b_Mod_allFaces : ByteArray := prog_9_method_24_code
def y_Mod_allFaces : MethodName := ⟨R_Mod, "allFaces", "()I"⟩
theorem k_Mod_allFaces : Cond.code y_Mod_allFaces b_Mod_allFaces 1 (some .int) ∈ zt := zt_of (List.mem_append_right _ (List.mem_append_right _ (List.mem_of_getElem? (i := 125) rfl))) rfl
abbrev b_Mod_allComponents : ByteArray := prog_9_method_25_code
def y_Mod_allComponents : MethodName := ⟨R_Mod, "allComponents", "()I"⟩
theorem k_Mod_allComponents : Cond.code y_Mod_allComponents b_Mod_allComponents 1 (some .int) ∈ zt := zt_of (List.mem_append_right _ (List.mem_append_right _ (List.mem_of_getElem? (i := 129) rfl))) rfl
abbrev b_Mod_findFree : ByteArray := prog_9_method_26_code
def y_Mod_findFree : MethodName := ⟨R_Mod, "findFree", "()V"⟩
theorem k_Mod_findFree : Cond.code y_Mod_findFree b_Mod_findFree 5 none ∈ zt := zt_of (List.mem_append_right _ (List.mem_append_right _ (List.mem_of_getElem? (i := 152) rfl))) rfl
abbrev b_Mod_leastFree : ByteArray := prog_9_method_27_code
def y_Mod_leastFree : MethodName := ⟨R_Mod, "leastFree", "()I"⟩
theorem k_Mod_leastFree : Cond.code y_Mod_leastFree b_Mod_leastFree 1 (some .int) ∈ zt := zt_of (List.mem_append_right _ (List.mem_append_right _ (List.mem_of_getElem? (i := 148) rfl))) rfl
abbrev b_Mod_many : ByteArray := prog_9_method_28_code
def y_Mod_many : MethodName := ⟨R_Mod, "many", "(I)I"⟩
theorem k_Mod_many : Cond.code y_Mod_many b_Mod_many 2 (some .int) ∈ zt := zt_of (List.mem_append_right _ (List.mem_append_right _ (List.mem_of_getElem? (i := 117) rfl))) rfl
abbrev b_Mod_look : ByteArray := prog_9_method_29_code
def y_Mod_look : MethodName := ⟨R_Mod, "look", "(II)I"⟩
theorem k_Mod_look : Cond.code y_Mod_look b_Mod_look 3 (some .int) ∈ zt := zt_of (List.mem_append_right _ (List.mem_append_right _ (List.mem_of_getElem? (i := 156) rfl))) rfl
abbrev b_Mod_findSides : ByteArray := prog_9_method_30_code
def y_Mod_findSides : MethodName := ⟨R_Mod, "findSides", "(I)Z"⟩
theorem k_Mod_findSides : Cond.code y_Mod_findSides b_Mod_findSides 5 (some .boolean) ∈ zt := zt_of (List.mem_append_right _ (List.mem_append_right _ (List.mem_of_getElem? (i := 164) rfl))) rfl
abbrev b_Mod_face : ByteArray := prog_9_method_31_code
def y_Mod_face : MethodName := ⟨R_Mod, "face", "(II)I"⟩
theorem k_Mod_face : Cond.code y_Mod_face b_Mod_face 3 (some .int) ∈ zt := zt_of (List.mem_append_right _ (List.mem_append_right _ (List.mem_of_getElem? (i := 160) rfl))) rfl
abbrev b_Mod_uppers : ByteArray := prog_9_method_32_code
def y_Mod_uppers : MethodName := ⟨R_Mod, "uppers", "(I)I"⟩
theorem k_Mod_uppers : Cond.code y_Mod_uppers b_Mod_uppers 2 (some .int) ∈ zt := zt_of (List.mem_append_right _ (List.mem_append_right _ (List.mem_of_getElem? (i := 176) rfl))) rfl
abbrev b_Mod_corner : ByteArray := prog_9_method_33_code
def y_Mod_corner : MethodName := ⟨R_Mod, "corner", "(I)I"⟩
theorem k_Mod_corner : Cond.code y_Mod_corner b_Mod_corner 2 (some .int) ∈ zt := zt_of (List.mem_append_right _ (List.mem_append_right _ (List.mem_of_getElem? (i := 172) rfl))) rfl
abbrev b_Mod_pattern : ByteArray := prog_9_method_34_code
def y_Mod_pattern : MethodName := ⟨R_Mod, "pattern", "(I)I"⟩
theorem k_Mod_pattern : Cond.code y_Mod_pattern b_Mod_pattern 7 (some .int) ∈ zt := zt_of (List.mem_append_right _ (List.mem_append_right _ (List.mem_of_getElem? (i := 168) rfl))) rfl
abbrev b_Mod_rename : ByteArray := prog_9_method_35_code
def y_Mod_rename : MethodName := ⟨R_Mod, "rename", "(II)V"⟩
theorem k_Mod_rename : Cond.code y_Mod_rename b_Mod_rename 4 none ∈ zt := zt_of (List.mem_append_right _ (List.mem_append_right _ (List.mem_of_getElem? (i := 196) rfl))) rfl
abbrev b_Mod_join : ByteArray := prog_9_method_36_code
def y_Mod_join : MethodName := ⟨R_Mod, "join", "(II)V"⟩
theorem k_Mod_join : Cond.code y_Mod_join b_Mod_join 3 none ∈ zt := zt_of (List.mem_append_right _ (List.mem_append_right _ (List.mem_of_getElem? (i := 192) rfl))) rfl
abbrev b_Mod_lift : ByteArray := prog_9_method_37_code
def y_Mod_lift : MethodName := ⟨R_Mod, "lift", "(I)V"⟩
theorem k_Mod_lift : Cond.code y_Mod_lift b_Mod_lift 4 none ∈ zt := zt_of (List.mem_append_right _ (List.mem_append_right _ (List.mem_of_getElem? (i := 188) rfl))) rfl
abbrev b_Mod_undo : ByteArray := prog_9_method_38_code
def y_Mod_undo : MethodName := ⟨R_Mod, "undo", "(I)I"⟩
theorem k_Mod_undo : Cond.code y_Mod_undo b_Mod_undo 5 (some .int) ∈ zt := zt_of (List.mem_append_right _ (List.mem_append_right _ (List.mem_of_getElem? (i := 183) rfl))) rfl
abbrev b_Mod_simplify : ByteArray := prog_9_method_39_code
def y_Mod_simplify : MethodName := ⟨R_Mod, "simplify", "()I"⟩
theorem k_Mod_simplify : Cond.code y_Mod_simplify b_Mod_simplify 4 (some .int) ∈ zt := zt_of (List.mem_append_right _ (List.mem_append_right _ (List.mem_of_getElem? (i := 200) rfl))) rfl
abbrev b_Mod_slide : ByteArray := prog_9_method_40_code
def y_Mod_slide : MethodName := ⟨R_Mod, "slide", "(I)Z"⟩
theorem k_Mod_slide : Cond.code y_Mod_slide b_Mod_slide 8 (some .boolean) ∈ zt := zt_of (List.mem_append_right _ (List.mem_append_right _ (List.mem_of_getElem? (i := 205) rfl))) rfl
abbrev b_Mod_add : ByteArray := prog_9_method_41_code
def y_Mod_add : MethodName := ⟨R_Mod, "add", "(IIIII)V"⟩
theorem k_Mod_add : Cond.code y_Mod_add b_Mod_add 6 none ∈ zt := zt_of (List.mem_append_right _ (List.mem_append_right _ (List.mem_of_getElem? (i := 213) rfl))) rfl
abbrev b_Mod_twist : ByteArray := prog_9_method_42_code
def y_Mod_twist : MethodName := ⟨R_Mod, "twist", "(IIZ)Z"⟩
theorem k_Mod_twist : Cond.code y_Mod_twist b_Mod_twist 8 (some .boolean) ∈ zt := zt_of (List.mem_append_right _ (List.mem_append_right _ (List.mem_of_getElem? (i := 209) rfl))) rfl
abbrev b_Mod_cross : ByteArray := prog_9_method_43_code
def y_Mod_cross : MethodName := ⟨R_Mod, "cross", "(II)V"⟩
theorem k_Mod_cross : Cond.code y_Mod_cross b_Mod_cross 3 none ∈ zt := zt_of (List.mem_append_right _ (List.mem_append_right _ (List.mem_of_getElem? (i := 225) rfl))) rfl
abbrev b_Mod_areOne : ByteArray := prog_9_method_44_code
def y_Mod_areOne : MethodName := ⟨R_Mod, "areOne", "(IIII)Z"⟩
theorem k_Mod_areOne : Cond.code y_Mod_areOne b_Mod_areOne 7 (some .boolean) ∈ zt := zt_of (List.mem_append_right _ (List.mem_append_right _ (List.mem_of_getElem? (i := 221) rfl))) rfl
abbrev b_Mod_push : ByteArray := prog_9_method_45_code
def y_Mod_push : MethodName := ⟨R_Mod, "push", "(IZIZZ)Z"⟩
theorem k_Mod_push : Cond.code y_Mod_push b_Mod_push 11 (some .boolean) ∈ zt := zt_of (List.mem_append_right _ (List.mem_append_right _ (List.mem_of_getElem? (i := 217) rfl))) rfl
abbrev b_Cut_init : ByteArray := prog_2_method_1_code
def y_Cut_init : MethodName := ⟨R_Cut, "<init>", "(III)V"⟩
theorem k_Cut_init : Cond.code y_Cut_init b_Cut_init 4 none ∈ zt := zt_of (List.mem_append_right _ (List.mem_append_left _ (List.mem_of_getElem? (i := 150) rfl))) rfl
abbrev b_Cut_in : ByteArray := prog_2_method_2_code
def y_Cut_in : MethodName := ⟨R_Cut, "in", "(Z)I"⟩
theorem k_Cut_in : Cond.code y_Cut_in b_Cut_in 2 (some .int) ∈ zt := zt_of (List.mem_append_right _ (List.mem_append_left _ (List.mem_of_getElem? (i := 174) rfl))) rfl
abbrev b_Cut_out : ByteArray := prog_2_method_3_code
def y_Cut_out : MethodName := ⟨R_Cut, "out", "(Z)I"⟩
theorem k_Cut_out : Cond.code y_Cut_out b_Cut_out 2 (some .int) ∈ zt := zt_of (List.mem_append_right _ (List.mem_append_left _ (List.mem_of_getElem? (i := 178) rfl))) rfl
abbrev b_Dia_init : ByteArray := prog_3_method_1_code
def y_Dia_init : MethodName := ⟨R_Dia, "<init>", "()V"⟩
theorem k_Dia_init : Cond.code y_Dia_init b_Dia_init 1 none ∈ zt := zt_of (List.mem_append_left _ (List.mem_of_getElem? (i := 25) rfl)) rfl
abbrev b_Dia_chart : ByteArray := prog_3_method_2_code
def y_Dia_chart : MethodName := ⟨R_Dia, "chart", "()I"⟩
theorem k_Dia_chart : Cond.code y_Dia_chart b_Dia_chart 2 (some .int) ∈ zt := zt_of (List.mem_append_left _ (List.mem_of_getElem? (i := 186) rfl)) rfl
abbrev b_Dia_patternAt : ByteArray := prog_3_method_3_code
def y_Dia_patternAt : MethodName := ⟨R_Dia, "patternAt", "(I)I"⟩
theorem k_Dia_patternAt : Cond.code y_Dia_patternAt b_Dia_patternAt 2 (some .int) ∈ zt := zt_of (List.mem_append_right _ (List.mem_append_left _ (List.mem_of_getElem? (i := 64) rfl))) rfl
abbrev b_Dia_isFinger : ByteArray := prog_3_method_4_code
def y_Dia_isFinger : MethodName := ⟨R_Dia, "isFinger", "(II)Z"⟩
theorem k_Dia_isFinger : Cond.code y_Dia_isFinger b_Dia_isFinger 4 (some .boolean) ∈ zt := zt_of (List.mem_append_right _ (List.mem_append_left _ (List.mem_of_getElem? (i := 70) rfl))) rfl
abbrev b_Dia_isTriangle : ByteArray := prog_3_method_5_code
def y_Dia_isTriangle : MethodName := ⟨R_Dia, "isTriangle", "(I)Z"⟩
theorem k_Dia_isTriangle : Cond.code y_Dia_isTriangle b_Dia_isTriangle 6 (some .boolean) ∈ zt := zt_of (List.mem_append_right _ (List.mem_append_left _ (List.mem_of_getElem? (i := 83) rfl))) rfl
abbrev b_Dia_crossingAhead : ByteArray := prog_3_method_6_code
def y_Dia_crossingAhead : MethodName := ⟨R_Dia, "crossingAhead", "(I)I"⟩
theorem k_Dia_crossingAhead : Cond.code y_Dia_crossingAhead b_Dia_crossingAhead 2 (some .int) ∈ zt := zt_of (List.mem_append_right _ (List.mem_append_left _ (List.mem_of_getElem? (i := 78) rfl))) rfl
abbrev b_Dia_leastFaceToUndo : ByteArray := prog_3_method_7_code
def y_Dia_leastFaceToUndo : MethodName := ⟨R_Dia, "leastFaceToUndo", "()I"⟩
theorem k_Dia_leastFaceToUndo : Cond.code y_Dia_leastFaceToUndo b_Dia_leastFaceToUndo 3 (some .int) ∈ zt := zt_of (List.mem_append_right _ (List.mem_append_left _ (List.mem_of_getElem? (i := 212) rfl))) rfl
abbrev b_Dia_undoAt : ByteArray := prog_3_method_8_code
def y_Dia_undoAt : MethodName := ⟨R_Dia, "undoAt", "(I)I"⟩
theorem k_Dia_undoAt : Cond.code y_Dia_undoAt b_Dia_undoAt 5 (some .int) ∈ zt := zt_of (List.mem_append_right _ (List.mem_append_left _ (List.mem_of_getElem? (i := 97) rfl))) rfl
abbrev b_Dia_lift : ByteArray := prog_3_method_9_code
def y_Dia_lift : MethodName := ⟨R_Dia, "lift", "(I)V"⟩
theorem k_Dia_lift : Cond.code y_Dia_lift b_Dia_lift 3 none ∈ zt := zt_of (List.mem_append_right _ (List.mem_append_left _ (List.mem_of_getElem? (i := 102) rfl))) rfl
abbrev b_Dia_joinEdges : ByteArray := prog_3_method_10_code
def y_Dia_joinEdges : MethodName := ⟨R_Dia, "joinEdges", "(II)V"⟩
theorem k_Dia_joinEdges : Cond.code y_Dia_joinEdges b_Dia_joinEdges 3 none ∈ zt := zt_of (List.mem_append_right _ (List.mem_append_left _ (List.mem_of_getElem? (i := 107) rfl))) rfl
abbrev b_Dia_slideAt : ByteArray := prog_3_method_11_code
def y_Dia_slideAt : MethodName := ⟨R_Dia, "slideAt", "(I)Z"⟩
theorem k_Dia_slideAt : Cond.code y_Dia_slideAt b_Dia_slideAt 3 (some .boolean) ∈ zt := zt_of (List.mem_append_right _ (List.mem_append_left _ (List.mem_of_getElem? (i := 131) rfl))) rfl
abbrev b_Dia_slideEdge : ByteArray := prog_3_method_12_code
def y_Dia_slideEdge : MethodName := ⟨R_Dia, "slideEdge", "(I)V"⟩
theorem k_Dia_slideEdge : Cond.code y_Dia_slideEdge b_Dia_slideEdge 6 none ∈ zt := zt_of (List.mem_append_right _ (List.mem_append_left _ (List.mem_of_getElem? (i := 136) rfl))) rfl
abbrev b_Dia_twistCircle : ByteArray := prog_3_method_13_code
def y_Dia_twistCircle : MethodName := ⟨R_Dia, "twistCircle", "(IZ)Z"⟩
theorem k_Dia_twistCircle : Cond.code y_Dia_twistCircle b_Dia_twistCircle 5 (some .boolean) ∈ zt := zt_of (List.mem_append_right _ (List.mem_append_left _ (List.mem_of_getElem? (i := 144) rfl))) rfl
abbrev b_Dia_twistEdge : ByteArray := prog_3_method_14_code
def y_Dia_twistEdge : MethodName := ⟨R_Dia, "twistEdge", "(IIZ)Z"⟩
theorem k_Dia_twistEdge : Cond.code y_Dia_twistEdge b_Dia_twistEdge 5 (some .boolean) ∈ zt := zt_of (List.mem_append_right _ (List.mem_append_left _ (List.mem_of_getElem? (i := 183) rfl))) rfl
abbrev b_Dia_addKink : ByteArray := prog_3_method_15_code
def y_Dia_addKink : MethodName := ⟨R_Dia, "addKink", "(LDiagramMoves$Cut;IZ)V"⟩
theorem k_Dia_addKink : Cond.code y_Dia_addKink b_Dia_addKink 4 none ∈ zt := zt_of (List.mem_append_right _ (List.mem_append_left _ (List.mem_of_getElem? (i := 166) rfl))) rfl
abbrev b_Dia_cutEdge : ByteArray := prog_3_method_16_code
def y_Dia_cutEdge : MethodName := ⟨R_Dia, "cutEdge", "(II)LDiagramMoves$Cut;"⟩
theorem k_Dia_cutEdge : Cond.code y_Dia_cutEdge b_Dia_cutEdge 5 (some (.object "DiagramMoves$Cut")) ∈ zt := zt_of (List.mem_append_right _ (List.mem_append_left _ (List.mem_of_getElem? (i := 191) rfl))) rfl
abbrev b_Dia_addCrossing : ByteArray := prog_3_method_17_code
def y_Dia_addCrossing : MethodName := ⟨R_Dia, "addCrossing", "(ILDiagramMoves$Cut;ZLDiagramMoves$Cut;Z)V"⟩
theorem k_Dia_addCrossing : Cond.code y_Dia_addCrossing b_Dia_addCrossing 10 none ∈ zt := zt_of (List.mem_append_right _ (List.mem_append_left _ (List.mem_of_getElem? (i := 170) rfl))) rfl
abbrev b_Dia_pushDart : ByteArray := prog_3_method_18_code
def y_Dia_pushDart : MethodName := ⟨R_Dia, "pushDart", "(IIZ)Z"⟩
theorem k_Dia_pushDart : Cond.code y_Dia_pushDart b_Dia_pushDart 9 (some .boolean) ∈ zt := zt_of (List.mem_append_right _ (List.mem_append_left _ (List.mem_of_getElem? (i := 200) rfl))) rfl
abbrev b_Dia_canMeet : ByteArray := prog_3_method_19_code
def y_Dia_canMeet : MethodName := ⟨R_Dia, "canMeet", "(II)Z"⟩
theorem k_Dia_canMeet : Cond.code y_Dia_canMeet b_Dia_canMeet 5 (some .boolean) ∈ zt := zt_of (List.mem_append_right _ (List.mem_append_left _ (List.mem_of_getElem? (i := 204) rfl))) rfl
abbrev b_Edg_init : ByteArray := prog_4_method_1_code
def y_Edg_init : MethodName := ⟨R_Edg, "<init>", "()V"⟩
theorem k_Edg_init : Cond.code y_Edg_init b_Edg_init 1 none ∈ zt := zt_of (List.mem_append_left _ (List.mem_of_getElem? (i := 55) rfl)) rfl
abbrev b_Edg_find : ByteArray := prog_4_method_2_code
def y_Edg_find : MethodName := ⟨R_Edg, "find", "(LDiagramMoves$Row;)I"⟩
theorem k_Edg_find : Cond.code y_Edg_find b_Edg_find 2 (some .int) ∈ zt := zt_of (List.mem_append_left _ (List.mem_of_getElem? (i := 190) rfl)) rfl
abbrev b_Edg_sortPlaces : ByteArray := prog_4_method_3_code
def y_Edg_sortPlaces : MethodName := ⟨R_Edg, "sortPlaces", "(LDiagramMoves$Row;)V"⟩
theorem k_Edg_sortPlaces : Cond.code y_Edg_sortPlaces b_Edg_sortPlaces 5 none ∈ zt := zt_of (List.mem_append_left _ (List.mem_of_getElem? (i := 194) rfl)) rfl
abbrev b_Edg_everyLabelStandsTwice : ByteArray := prog_4_method_4_code
def y_Edg_everyLabelStandsTwice : MethodName := ⟨R_Edg, "everyLabelStandsTwice", "(LDiagramMoves$Row;)Z"⟩
theorem k_Edg_everyLabelStandsTwice : Cond.code y_Edg_everyLabelStandsTwice b_Edg_everyLabelStandsTwice 5 (some .boolean) ∈ zt := zt_of (List.mem_append_left _ (List.mem_of_getElem? (i := 198) rfl)) rfl
abbrev b_Edg_pairPlaces : ByteArray := prog_4_method_5_code
def y_Edg_pairPlaces : MethodName := ⟨R_Edg, "pairPlaces", "(LDiagramMoves$Row;)Z"⟩
theorem k_Edg_pairPlaces : Cond.code y_Edg_pairPlaces b_Edg_pairPlaces 6 (some .boolean) ∈ zt := zt_of (List.mem_append_left _ (List.mem_of_getElem? (i := 202) rfl)) rfl
abbrev b_Edg_withLabel : ByteArray := prog_4_method_6_code
def y_Edg_withLabel : MethodName := ⟨R_Edg, "withLabel", "(I)I"⟩
theorem k_Edg_withLabel : Cond.code y_Edg_withLabel b_Edg_withLabel 3 (some .int) ∈ zt := zt_of (List.mem_append_right _ (List.mem_append_left _ (List.mem_of_getElem? (i := 187) rfl))) rfl
abbrev b_Edg_freeAfter : ByteArray := prog_4_method_7_code
def y_Edg_freeAfter : MethodName := ⟨R_Edg, "freeAfter", "(I)I"⟩
theorem k_Edg_freeAfter : Cond.code y_Edg_freeAfter b_Edg_freeAfter 4 (some .int) ∈ zt := zt_of (List.mem_append_right _ (List.mem_append_left _ (List.mem_of_getElem? (i := 32) rfl))) rfl
abbrev b_Edg_signedLabel : ByteArray := prog_4_method_8_code
def y_Edg_signedLabel : MethodName := ⟨R_Edg, "signedLabel", "(I)I"⟩
theorem k_Edg_signedLabel : Cond.code y_Edg_signedLabel b_Edg_signedLabel 3 (some .int) ∈ zt := zt_of (List.mem_append_right _ (List.mem_append_left _ (List.mem_of_getElem? (i := 56) rfl))) rfl
abbrev b_Edg_arrival : ByteArray := prog_4_method_9_code
def y_Edg_arrival : MethodName := ⟨R_Edg, "arrival", "(I)I"⟩
theorem k_Edg_arrival : Cond.code y_Edg_arrival b_Edg_arrival 2 (some .int) ∈ zt := zt_of (List.mem_append_left _ (List.mem_of_getElem? (i := 229) rfl)) rfl
abbrev b_Edg_dartLeaving : ByteArray := prog_4_method_10_code
def y_Edg_dartLeaving : MethodName := ⟨R_Edg, "dartLeaving", "(I)I"⟩
theorem k_Edg_dartLeaving : Cond.code y_Edg_dartLeaving b_Edg_dartLeaving 3 (some .int) ∈ zt := zt_of (List.mem_append_left _ (List.mem_of_getElem? (i := 233) rfl)) rfl
abbrev b_Edg_nextDart : ByteArray := prog_4_method_11_code
def y_Edg_nextDart : MethodName := ⟨R_Edg, "nextDart", "(I)I"⟩
theorem k_Edg_nextDart : Cond.code y_Edg_nextDart b_Edg_nextDart 4 (some .int) ∈ zt := zt_of (List.mem_append_left _ (List.mem_of_getElem? (i := 225) rfl)) rfl
abbrev b_Edg_upperEnds : ByteArray := prog_4_method_12_code
def y_Edg_upperEnds : MethodName := ⟨R_Edg, "upperEnds", "(I)I"⟩
theorem k_Edg_upperEnds : Cond.code y_Edg_upperEnds b_Edg_upperEnds 2 (some .int) ∈ zt := zt_of (List.mem_append_right _ (List.mem_append_left _ (List.mem_of_getElem? (i := 74) rfl))) rfl
abbrev b_Fac_init : ByteArray := prog_5_method_1_code
def y_Fac_init : MethodName := ⟨R_Fac, "<init>", "()V"⟩
theorem k_Fac_init : Cond.code y_Fac_init b_Fac_init 1 none ∈ zt := zt_of (List.mem_append_left _ (List.mem_of_getElem? (i := 88) rfl)) rfl
abbrev b_Fac_find : ByteArray := prog_5_method_2_code
def y_Fac_find : MethodName := ⟨R_Fac, "find", "(LDiagramMoves$Edges;)V"⟩
theorem k_Fac_find : Cond.code y_Fac_find b_Fac_find 3 none ∈ zt := zt_of (List.mem_append_left _ (List.mem_of_getElem? (i := 214) rfl)) rfl
abbrev b_Fac_addRound : ByteArray := prog_5_method_3_code
def y_Fac_addRound : MethodName := ⟨R_Fac, "addRound", "(LDiagramMoves$Edges;I)V"⟩
theorem k_Fac_addRound : Cond.code y_Fac_addRound b_Fac_addRound 5 none ∈ zt := zt_of (List.mem_append_left _ (List.mem_of_getElem? (i := 221) rfl)) rfl
abbrev b_Fac_has : ByteArray := prog_5_method_4_code
def y_Fac_has : MethodName := ⟨R_Fac, "has", "(I)Z"⟩
theorem k_Fac_has : Cond.code y_Fac_has b_Fac_has 2 (some .boolean) ∈ zt := zt_of (List.mem_append_right _ (List.mem_append_left _ (List.mem_of_getElem? (i := 44) rfl))) rfl
abbrev b_Fac_size : ByteArray := prog_5_method_5_code
def y_Fac_size : MethodName := ⟨R_Fac, "size", "(I)I"⟩
theorem k_Fac_size : Cond.code y_Fac_size b_Fac_size 2 (some .int) ∈ zt := zt_of (List.mem_append_right _ (List.mem_append_left _ (List.mem_of_getElem? (i := 48) rfl))) rfl
abbrev b_Fac_dart : ByteArray := prog_5_method_6_code
def y_Fac_dart : MethodName := ⟨R_Fac, "dart", "(II)I"⟩
theorem k_Fac_dart : Cond.code y_Fac_dart b_Fac_dart 3 (some .int) ∈ zt := zt_of (List.mem_append_right _ (List.mem_append_left _ (List.mem_of_getElem? (i := 52) rfl))) rfl
abbrev b_Pie_init : ByteArray := prog_6_method_1_code
def y_Pie_init : MethodName := ⟨R_Pie, "<init>", "()V"⟩
theorem k_Pie_init : Cond.code y_Pie_init b_Pie_init 1 none ∈ zt := zt_of (List.mem_append_left _ (List.mem_of_getElem? (i := 110) rfl)) rfl
abbrev b_Pie_find : ByteArray := prog_6_method_2_code
def y_Pie_find : MethodName := ⟨R_Pie, "find", "(ILDiagramMoves$Edges;)V"⟩
theorem k_Pie_find : Cond.code y_Pie_find b_Pie_find 3 none ∈ zt := zt_of (List.mem_append_left _ (List.mem_of_getElem? (i := 237) rfl)) rfl
abbrev b_Pie_findPieces : ByteArray := prog_6_method_3_code
def y_Pie_findPieces : MethodName := ⟨R_Pie, "findPieces", "(ILDiagramMoves$Edges;)V"⟩
theorem k_Pie_findPieces : Cond.code y_Pie_findPieces b_Pie_findPieces 4 none ∈ zt := zt_of (List.mem_append_right _ (List.mem_append_left _ (List.mem_of_getElem? (i := 1) rfl))) rfl
abbrev b_Pie_unite : ByteArray := prog_6_method_4_code
def y_Pie_unite : MethodName := ⟨R_Pie, "unite", "(III)V"⟩
theorem k_Pie_unite : Cond.code y_Pie_unite b_Pie_unite 7 none ∈ zt := zt_of (List.mem_append_right _ (List.mem_append_left _ (List.mem_of_getElem? (i := 5) rfl))) rfl
abbrev b_Pie_countComponents : ByteArray := prog_6_method_5_code
def y_Pie_countComponents : MethodName := ⟨R_Pie, "countComponents", "(LDiagramMoves$Edges;)V"⟩
theorem k_Pie_countComponents : Cond.code y_Pie_countComponents b_Pie_countComponents 3 none ∈ zt := zt_of (List.mem_append_right _ (List.mem_append_left _ (List.mem_of_getElem? (i := 15) rfl))) rfl
abbrev b_Pie_followComponent : ByteArray := prog_6_method_6_code
def y_Pie_followComponent : MethodName := ⟨R_Pie, "followComponent", "(LDiagramMoves$Edges;I)V"⟩
theorem k_Pie_followComponent : Cond.code y_Pie_followComponent b_Pie_followComponent 5 none ∈ zt := zt_of (List.mem_append_right _ (List.mem_append_left _ (List.mem_of_getElem? (i := 20) rfl))) rfl
abbrev b_Row_init : ByteArray := prog_7_method_1_code
def y_Row_init : MethodName := ⟨R_Row, "<init>", "()V"⟩
theorem k_Row_init : Cond.code y_Row_init b_Row_init 1 none ∈ zt := zt_of (List.mem_append_left _ (List.mem_of_getElem? (i := 31) rfl)) rfl
abbrev b_Row_isFull : ByteArray := prog_7_method_2_code
def y_Row_isFull : MethodName := ⟨R_Row, "isFull", "()Z"⟩
theorem k_Row_isFull : Cond.code y_Row_isFull b_Row_isFull 1 (some .boolean) ∈ zt := zt_of (List.mem_append_left _ (List.mem_of_getElem? (i := 173) rfl)) rfl
abbrev b_Row_add : ByteArray := prog_7_method_3_code
def y_Row_add : MethodName := ⟨R_Row, "add", "(IIIII)V"⟩
theorem k_Row_add : Cond.code y_Row_add b_Row_add 7 none ∈ zt := zt_of (List.mem_append_left _ (List.mem_of_getElem? (i := 177) rfl)) rfl
abbrev b_Row_sumOfSigns : ByteArray := prog_7_method_4_code
def y_Row_sumOfSigns : MethodName := ⟨R_Row, "sumOfSigns", "()I"⟩
theorem k_Row_sumOfSigns : Cond.code y_Row_sumOfSigns b_Row_sumOfSigns 3 (some .int) ∈ zt := zt_of (List.mem_append_right _ (List.mem_append_left _ (List.mem_of_getElem? (i := 28) rfl))) rfl
abbrev b_Row_upperIn : ByteArray := prog_7_method_5_code
def y_Row_upperIn : MethodName := ⟨R_Row, "upperIn", "(I)I"⟩
theorem k_Row_upperIn : Cond.code y_Row_upperIn b_Row_upperIn 2 (some .int) ∈ zt := zt_of (List.mem_append_left _ (List.mem_of_getElem? (i := 210) rfl)) rfl
abbrev b_Row_strandGoesIn : ByteArray := prog_7_method_6_code
def y_Row_strandGoesIn : MethodName := ⟨R_Row, "strandGoesIn", "(I)Z"⟩
theorem k_Row_strandGoesIn : Cond.code y_Row_strandGoesIn b_Row_strandGoesIn 3 (some .boolean) ∈ zt := zt_of (List.mem_append_left _ (List.mem_of_getElem? (i := 206) rfl)) rfl
abbrev b_Row_joinLabels : ByteArray := prog_7_method_7_code
def y_Row_joinLabels : MethodName := ⟨R_Row, "joinLabels", "(II)Z"⟩
theorem k_Row_joinLabels : Cond.code y_Row_joinLabels b_Row_joinLabels 6 (some .boolean) ∈ zt := zt_of (List.mem_append_right _ (List.mem_append_left _ (List.mem_of_getElem? (i := 111) rfl))) rfl
abbrev b_Row_remove : ByteArray := prog_7_method_8_code
def y_Row_remove : MethodName := ⟨R_Row, "remove", "(I)V"⟩
theorem k_Row_remove : Cond.code y_Row_remove b_Row_remove 3 none ∈ zt := zt_of (List.mem_append_right _ (List.mem_append_left _ (List.mem_of_getElem? (i := 117) rfl))) rfl
abbrev b_Math_max : ByteArray := prog_11_method_65_code
def y_Math_max : MethodName := ⟨R_Math, "max", "(II)I"⟩
theorem k_Math_max : Cond.code y_Math_max b_Math_max 2 (some .int) ∈ zt := zt_of (List.mem_append_right _ (List.mem_append_left _ (List.mem_of_getElem? (i := 11) rfl))) rfl
abbrev b_Math_min : ByteArray := prog_11_method_69_code
def y_Math_min : MethodName := ⟨R_Math, "min", "(II)I"⟩
theorem k_Math_min : Cond.code y_Math_min b_Math_min 2 (some .int) ∈ zt := zt_of (List.mem_append_right _ (List.mem_append_left _ (List.mem_of_getElem? (i := 8) rfl))) rfl
abbrev b_Arr_fill : ByteArray := prog_13_method_103_code
def y_Arr_fill : MethodName := ⟨R_Arr, "fill", "([II)V"⟩
theorem k_Arr_fill : Cond.code y_Arr_fill b_Arr_fill 4 none ∈ zt := zt_of (List.mem_append_left _ (List.mem_of_getElem? (i := 217) rfl)) rfl
abbrev b_Int_bitCount : ByteArray := prog_10_method_49_code
def y_Int_bitCount : MethodName := ⟨R_Int, "bitCount", "(I)I"⟩
theorem k_Int_bitCount : Cond.code y_Int_bitCount b_Int_bitCount 1 (some .int) ∈ zt := zt_of (List.mem_append_right _ (List.mem_append_left _ (List.mem_of_getElem? (i := 86) rfl))) rfl
end
section
theorem d_Cut_init_0 : decode b_Cut_init 0 = .ok (.aload_n 0, 1) := by decide +kernel
theorem d_Cut_init_1 : decode b_Cut_init 1 = .ok (.invokespecial 1, 3) := by decide +kernel
theorem d_Cut_init_4 : decode b_Cut_init 4 = .ok (.aload_n 0, 1) := by decide +kernel
theorem d_Cut_init_5 : decode b_Cut_init 5 = .ok (.iload_n 1, 1) := by decide +kernel
theorem d_Cut_init_6 : decode b_Cut_init 6 = .ok (.putfield 7, 3) := by decide +kernel
theorem d_Cut_init_9 : decode b_Cut_init 9 = .ok (.aload_n 0, 1) := by decide +kernel
theorem d_Cut_init_10 : decode b_Cut_init 10 = .ok (.iload_n 2, 1) := by decide +kernel
theorem d_Cut_init_11 : decode b_Cut_init 11 = .ok (.putfield 13, 3) := by decide +kernel
theorem d_Cut_init_14 : decode b_Cut_init 14 = .ok (.aload_n 0, 1) := by decide +kernel
theorem d_Cut_init_15 : decode b_Cut_init 15 = .ok (.iload_n 3, 1) := by decide +kernel
theorem d_Cut_init_16 : decode b_Cut_init 16 = .ok (.putfield 16, 3) := by decide +kernel
theorem d_Cut_init_19 : decode b_Cut_init 19 = .ok (.return_, 1) := by decide +kernel
theorem d_Cut_in_0 : decode b_Cut_in 0 = .ok (.iload_n 1, 1) := by decide +kernel
theorem d_Cut_in_1 : decode b_Cut_in 1 = .ok (.ifCond .eq 10, 3) := by decide +kernel
theorem d_Cut_in_4 : decode b_Cut_in 4 = .ok (.aload_n 0, 1) := by decide +kernel
theorem d_Cut_in_5 : decode b_Cut_in 5 = .ok (.getfield 7, 3) := by decide +kernel
theorem d_Cut_in_8 : decode b_Cut_in 8 = .ok (.goto 7, 3) := by decide +kernel
theorem d_Cut_in_11 : decode b_Cut_in 11 = .ok (.aload_n 0, 1) := by decide +kernel
theorem d_Cut_in_12 : decode b_Cut_in 12 = .ok (.getfield 13, 3) := by decide +kernel
theorem d_Cut_in_15 : decode b_Cut_in 15 = .ok (.ireturn, 1) := by decide +kernel
theorem d_Cut_out_0 : decode b_Cut_out 0 = .ok (.iload_n 1, 1) := by decide +kernel
theorem d_Cut_out_1 : decode b_Cut_out 1 = .ok (.ifCond .eq 10, 3) := by decide +kernel
theorem d_Cut_out_4 : decode b_Cut_out 4 = .ok (.aload_n 0, 1) := by decide +kernel
theorem d_Cut_out_5 : decode b_Cut_out 5 = .ok (.getfield 13, 3) := by decide +kernel
theorem d_Cut_out_8 : decode b_Cut_out 8 = .ok (.goto 7, 3) := by decide +kernel
theorem d_Cut_out_11 : decode b_Cut_out 11 = .ok (.aload_n 0, 1) := by decide +kernel
theorem d_Cut_out_12 : decode b_Cut_out 12 = .ok (.getfield 16, 3) := by decide +kernel
theorem d_Cut_out_15 : decode b_Cut_out 15 = .ok (.ireturn, 1) := by decide +kernel
theorem d_Row_init_0 : decode b_Row_init 0 = .ok (.aload_n 0, 1) := by decide +kernel
theorem d_Row_init_1 : decode b_Row_init 1 = .ok (.invokespecial 3, 3) := by decide +kernel
theorem d_Row_init_4 : decode b_Row_init 4 = .ok (.aload_n 0, 1) := by decide +kernel
theorem d_Row_init_5 : decode b_Row_init 5 = .ok (.bipush 80, 2) := by decide +kernel
theorem d_Row_init_7 : decode b_Row_init 7 = .ok (.newarray .int, 2) := by decide +kernel
theorem d_Row_init_9 : decode b_Row_init 9 = .ok (.putfield 9, 3) := by decide +kernel
theorem d_Row_init_12 : decode b_Row_init 12 = .ok (.aload_n 0, 1) := by decide +kernel
theorem d_Row_init_13 : decode b_Row_init 13 = .ok (.bipush 20, 2) := by decide +kernel
theorem d_Row_init_15 : decode b_Row_init 15 = .ok (.newarray .int, 2) := by decide +kernel
theorem d_Row_init_17 : decode b_Row_init 17 = .ok (.putfield 15, 3) := by decide +kernel
theorem d_Row_init_20 : decode b_Row_init 20 = .ok (.return_, 1) := by decide +kernel
theorem d_Row_isFull_0 : decode b_Row_isFull 0 = .ok (.aload_n 0, 1) := by decide +kernel
theorem d_Row_isFull_1 : decode b_Row_isFull 1 = .ok (.getfield 18, 3) := by decide +kernel
theorem d_Row_isFull_4 : decode b_Row_isFull 4 = .ok (.bipush 20, 2) := by decide +kernel
theorem d_Row_isFull_6 : decode b_Row_isFull 6 = .ok (.if_icmp .lt 7, 3) := by decide +kernel
theorem d_Row_isFull_9 : decode b_Row_isFull 9 = .ok (.iconst 1, 1) := by decide +kernel
theorem d_Row_isFull_10 : decode b_Row_isFull 10 = .ok (.goto 4, 3) := by decide +kernel
theorem d_Row_isFull_13 : decode b_Row_isFull 13 = .ok (.iconst 0, 1) := by decide +kernel
theorem d_Row_isFull_14 : decode b_Row_isFull 14 = .ok (.ireturn, 1) := by decide +kernel
theorem d_Row_add_0 : decode b_Row_add 0 = .ok (.aload_n 0, 1) := by decide +kernel
theorem d_Row_add_1 : decode b_Row_add 1 = .ok (.invokevirtual 22, 3) := by decide +kernel
theorem d_Row_add_4 : decode b_Row_add 4 = .ok (.ifCond .eq 4, 3) := by decide +kernel
theorem d_Row_add_7 : decode b_Row_add 7 = .ok (.return_, 1) := by decide +kernel
theorem d_Row_add_8 : decode b_Row_add 8 = .ok (.iconst 4, 1) := by decide +kernel
theorem d_Row_add_9 : decode b_Row_add 9 = .ok (.aload_n 0, 1) := by decide +kernel
theorem d_Row_add_10 : decode b_Row_add 10 = .ok (.getfield 18, 3) := by decide +kernel
theorem d_Row_add_13 : decode b_Row_add 13 = .ok (.imul, 1) := by decide +kernel
theorem d_Row_add_14 : decode b_Row_add 14 = .ok (.istore 6, 2) := by decide +kernel
theorem d_Row_add_16 : decode b_Row_add 16 = .ok (.aload_n 0, 1) := by decide +kernel
theorem d_Row_add_17 : decode b_Row_add 17 = .ok (.getfield 9, 3) := by decide +kernel
theorem d_Row_add_20 : decode b_Row_add 20 = .ok (.iload 6, 2) := by decide +kernel
theorem d_Row_add_22 : decode b_Row_add 22 = .ok (.iload_n 2, 1) := by decide +kernel
theorem d_Row_add_23 : decode b_Row_add 23 = .ok (.iastore, 1) := by decide +kernel
theorem d_Row_add_24 : decode b_Row_add 24 = .ok (.aload_n 0, 1) := by decide +kernel
theorem d_Row_add_25 : decode b_Row_add 25 = .ok (.getfield 9, 3) := by decide +kernel
theorem d_Row_add_28 : decode b_Row_add 28 = .ok (.iload 6, 2) := by decide +kernel
theorem d_Row_add_30 : decode b_Row_add 30 = .ok (.iconst 1, 1) := by decide +kernel
theorem d_Row_add_31 : decode b_Row_add 31 = .ok (.iadd, 1) := by decide +kernel
theorem d_Row_add_32 : decode b_Row_add 32 = .ok (.iload_n 3, 1) := by decide +kernel
theorem d_Row_add_33 : decode b_Row_add 33 = .ok (.iastore, 1) := by decide +kernel
theorem d_Row_add_34 : decode b_Row_add 34 = .ok (.aload_n 0, 1) := by decide +kernel
theorem d_Row_add_35 : decode b_Row_add 35 = .ok (.getfield 9, 3) := by decide +kernel
theorem d_Row_add_38 : decode b_Row_add 38 = .ok (.iload 6, 2) := by decide +kernel
theorem d_Row_add_40 : decode b_Row_add 40 = .ok (.iconst 2, 1) := by decide +kernel
theorem d_Row_add_41 : decode b_Row_add 41 = .ok (.iadd, 1) := by decide +kernel
theorem d_Row_add_42 : decode b_Row_add 42 = .ok (.iload 4, 2) := by decide +kernel
theorem d_Row_add_44 : decode b_Row_add 44 = .ok (.iastore, 1) := by decide +kernel
theorem d_Row_add_45 : decode b_Row_add 45 = .ok (.aload_n 0, 1) := by decide +kernel
theorem d_Row_add_46 : decode b_Row_add 46 = .ok (.getfield 9, 3) := by decide +kernel
theorem d_Row_add_49 : decode b_Row_add 49 = .ok (.iload 6, 2) := by decide +kernel
theorem d_Row_add_51 : decode b_Row_add 51 = .ok (.iconst 3, 1) := by decide +kernel
theorem d_Row_add_52 : decode b_Row_add 52 = .ok (.iadd, 1) := by decide +kernel
theorem d_Row_add_53 : decode b_Row_add 53 = .ok (.iload 5, 2) := by decide +kernel
theorem d_Row_add_55 : decode b_Row_add 55 = .ok (.iastore, 1) := by decide +kernel
theorem d_Row_add_56 : decode b_Row_add 56 = .ok (.aload_n 0, 1) := by decide +kernel
theorem d_Row_add_57 : decode b_Row_add 57 = .ok (.getfield 15, 3) := by decide +kernel
theorem d_Row_add_60 : decode b_Row_add 60 = .ok (.aload_n 0, 1) := by decide +kernel
theorem d_Row_add_61 : decode b_Row_add 61 = .ok (.getfield 18, 3) := by decide +kernel
theorem d_Row_add_64 : decode b_Row_add 64 = .ok (.iload_n 1, 1) := by decide +kernel
theorem d_Row_add_65 : decode b_Row_add 65 = .ok (.iastore, 1) := by decide +kernel
theorem d_Row_add_66 : decode b_Row_add 66 = .ok (.aload_n 0, 1) := by decide +kernel
theorem d_Row_add_67 : decode b_Row_add 67 = .ok (.dup, 1) := by decide +kernel
theorem d_Row_add_68 : decode b_Row_add 68 = .ok (.getfield 18, 3) := by decide +kernel
theorem d_Row_add_71 : decode b_Row_add 71 = .ok (.iconst 1, 1) := by decide +kernel
theorem d_Row_add_72 : decode b_Row_add 72 = .ok (.iadd, 1) := by decide +kernel
theorem d_Row_add_73 : decode b_Row_add 73 = .ok (.putfield 18, 3) := by decide +kernel
theorem d_Row_add_76 : decode b_Row_add 76 = .ok (.return_, 1) := by decide +kernel
theorem d_Row_sumOfSigns_0 : decode b_Row_sumOfSigns 0 = .ok (.iconst 0, 1) := by decide +kernel
theorem d_Row_sumOfSigns_1 : decode b_Row_sumOfSigns 1 = .ok (.istore_n 1, 1) := by decide +kernel
theorem d_Row_sumOfSigns_2 : decode b_Row_sumOfSigns 2 = .ok (.iconst 0, 1) := by decide +kernel
theorem d_Row_sumOfSigns_3 : decode b_Row_sumOfSigns 3 = .ok (.istore_n 2, 1) := by decide +kernel
theorem d_Row_sumOfSigns_4 : decode b_Row_sumOfSigns 4 = .ok (.iload_n 2, 1) := by decide +kernel
theorem d_Row_sumOfSigns_5 : decode b_Row_sumOfSigns 5 = .ok (.aload_n 0, 1) := by decide +kernel
theorem d_Row_sumOfSigns_6 : decode b_Row_sumOfSigns 6 = .ok (.getfield 18, 3) := by decide +kernel
theorem d_Row_sumOfSigns_9 : decode b_Row_sumOfSigns 9 = .ok (.if_icmp .ge 18, 3) := by decide +kernel
theorem d_Row_sumOfSigns_12 : decode b_Row_sumOfSigns 12 = .ok (.iload_n 1, 1) := by decide +kernel
theorem d_Row_sumOfSigns_13 : decode b_Row_sumOfSigns 13 = .ok (.aload_n 0, 1) := by decide +kernel
theorem d_Row_sumOfSigns_14 : decode b_Row_sumOfSigns 14 = .ok (.getfield 15, 3) := by decide +kernel
theorem d_Row_sumOfSigns_17 : decode b_Row_sumOfSigns 17 = .ok (.iload_n 2, 1) := by decide +kernel
theorem d_Row_sumOfSigns_18 : decode b_Row_sumOfSigns 18 = .ok (.iaload, 1) := by decide +kernel
theorem d_Row_sumOfSigns_19 : decode b_Row_sumOfSigns 19 = .ok (.iadd, 1) := by decide +kernel
theorem d_Row_sumOfSigns_20 : decode b_Row_sumOfSigns 20 = .ok (.istore_n 1, 1) := by decide +kernel
theorem d_Row_sumOfSigns_21 : decode b_Row_sumOfSigns 21 = .ok (.iinc 2 1, 3) := by decide +kernel
theorem d_Row_sumOfSigns_24 : decode b_Row_sumOfSigns 24 = .ok (.goto (-20), 3) := by decide +kernel
theorem d_Row_sumOfSigns_27 : decode b_Row_sumOfSigns 27 = .ok (.iload_n 1, 1) := by decide +kernel
theorem d_Row_sumOfSigns_28 : decode b_Row_sumOfSigns 28 = .ok (.ireturn, 1) := by decide +kernel
theorem d_Row_upperIn_0 : decode b_Row_upperIn 0 = .ok (.iconst 4, 1) := by decide +kernel
theorem d_Row_upperIn_1 : decode b_Row_upperIn 1 = .ok (.iload_n 1, 1) := by decide +kernel
theorem d_Row_upperIn_2 : decode b_Row_upperIn 2 = .ok (.imul, 1) := by decide +kernel
theorem d_Row_upperIn_3 : decode b_Row_upperIn 3 = .ok (.aload_n 0, 1) := by decide +kernel
theorem d_Row_upperIn_4 : decode b_Row_upperIn 4 = .ok (.getfield 15, 3) := by decide +kernel
theorem d_Row_upperIn_7 : decode b_Row_upperIn 7 = .ok (.iload_n 1, 1) := by decide +kernel
theorem d_Row_upperIn_8 : decode b_Row_upperIn 8 = .ok (.iaload, 1) := by decide +kernel
theorem d_Row_upperIn_9 : decode b_Row_upperIn 9 = .ok (.iconst 1, 1) := by decide +kernel
theorem d_Row_upperIn_10 : decode b_Row_upperIn 10 = .ok (.if_icmp .ne 7, 3) := by decide +kernel
theorem d_Row_upperIn_13 : decode b_Row_upperIn 13 = .ok (.iconst 3, 1) := by decide +kernel
theorem d_Row_upperIn_14 : decode b_Row_upperIn 14 = .ok (.goto 4, 3) := by decide +kernel
theorem d_Row_upperIn_17 : decode b_Row_upperIn 17 = .ok (.iconst 1, 1) := by decide +kernel
theorem d_Row_upperIn_18 : decode b_Row_upperIn 18 = .ok (.iadd, 1) := by decide +kernel
theorem d_Row_upperIn_19 : decode b_Row_upperIn 19 = .ok (.ireturn, 1) := by decide +kernel
theorem d_Row_strandGoesIn_0 : decode b_Row_strandGoesIn 0 = .ok (.iload_n 1, 1) := by decide +kernel
theorem d_Row_strandGoesIn_1 : decode b_Row_strandGoesIn 1 = .ok (.iconst 2, 1) := by decide +kernel
theorem d_Row_strandGoesIn_2 : decode b_Row_strandGoesIn 2 = .ok (.ishr, 1) := by decide +kernel
theorem d_Row_strandGoesIn_3 : decode b_Row_strandGoesIn 3 = .ok (.istore_n 2, 1) := by decide +kernel
theorem d_Row_strandGoesIn_4 : decode b_Row_strandGoesIn 4 = .ok (.iload_n 1, 1) := by decide +kernel
theorem d_Row_strandGoesIn_5 : decode b_Row_strandGoesIn 5 = .ok (.iconst 4, 1) := by decide +kernel
theorem d_Row_strandGoesIn_6 : decode b_Row_strandGoesIn 6 = .ok (.iload_n 2, 1) := by decide +kernel
theorem d_Row_strandGoesIn_7 : decode b_Row_strandGoesIn 7 = .ok (.imul, 1) := by decide +kernel
theorem d_Row_strandGoesIn_8 : decode b_Row_strandGoesIn 8 = .ok (.if_icmp .eq 12, 3) := by decide +kernel
theorem d_Row_strandGoesIn_11 : decode b_Row_strandGoesIn 11 = .ok (.iload_n 1, 1) := by decide +kernel
theorem d_Row_strandGoesIn_12 : decode b_Row_strandGoesIn 12 = .ok (.aload_n 0, 1) := by decide +kernel
theorem d_Row_strandGoesIn_13 : decode b_Row_strandGoesIn 13 = .ok (.iload_n 2, 1) := by decide +kernel
theorem d_Row_strandGoesIn_14 : decode b_Row_strandGoesIn 14 = .ok (.invokevirtual 26, 3) := by decide +kernel
theorem d_Row_strandGoesIn_17 : decode b_Row_strandGoesIn 17 = .ok (.if_icmp .ne 7, 3) := by decide +kernel
theorem d_Row_strandGoesIn_20 : decode b_Row_strandGoesIn 20 = .ok (.iconst 1, 1) := by decide +kernel
theorem d_Row_strandGoesIn_21 : decode b_Row_strandGoesIn 21 = .ok (.goto 4, 3) := by decide +kernel
theorem d_Row_strandGoesIn_24 : decode b_Row_strandGoesIn 24 = .ok (.iconst 0, 1) := by decide +kernel
theorem d_Row_strandGoesIn_25 : decode b_Row_strandGoesIn 25 = .ok (.ireturn, 1) := by decide +kernel
theorem d_Row_joinLabels_0 : decode b_Row_joinLabels 0 = .ok (.aload_n 0, 1) := by decide +kernel
theorem d_Row_joinLabels_1 : decode b_Row_joinLabels 1 = .ok (.getfield 9, 3) := by decide +kernel
theorem d_Row_joinLabels_4 : decode b_Row_joinLabels 4 = .ok (.iload_n 1, 1) := by decide +kernel
theorem d_Row_joinLabels_5 : decode b_Row_joinLabels 5 = .ok (.iaload, 1) := by decide +kernel
theorem d_Row_joinLabels_6 : decode b_Row_joinLabels 6 = .ok (.aload_n 0, 1) := by decide +kernel
theorem d_Row_joinLabels_7 : decode b_Row_joinLabels 7 = .ok (.getfield 9, 3) := by decide +kernel
theorem d_Row_joinLabels_10 : decode b_Row_joinLabels 10 = .ok (.iload_n 2, 1) := by decide +kernel
theorem d_Row_joinLabels_11 : decode b_Row_joinLabels 11 = .ok (.iaload, 1) := by decide +kernel
theorem d_Row_joinLabels_12 : decode b_Row_joinLabels 12 = .ok (.invokestatic 30, 3) := by decide +kernel
theorem d_Row_joinLabels_15 : decode b_Row_joinLabels 15 = .ok (.istore_n 3, 1) := by decide +kernel
theorem d_Row_joinLabels_16 : decode b_Row_joinLabels 16 = .ok (.aload_n 0, 1) := by decide +kernel
theorem d_Row_joinLabels_17 : decode b_Row_joinLabels 17 = .ok (.getfield 9, 3) := by decide +kernel
theorem d_Row_joinLabels_20 : decode b_Row_joinLabels 20 = .ok (.iload_n 1, 1) := by decide +kernel
theorem d_Row_joinLabels_21 : decode b_Row_joinLabels 21 = .ok (.iaload, 1) := by decide +kernel
theorem d_Row_joinLabels_22 : decode b_Row_joinLabels 22 = .ok (.aload_n 0, 1) := by decide +kernel
theorem d_Row_joinLabels_23 : decode b_Row_joinLabels 23 = .ok (.getfield 9, 3) := by decide +kernel
theorem d_Row_joinLabels_26 : decode b_Row_joinLabels 26 = .ok (.iload_n 2, 1) := by decide +kernel
theorem d_Row_joinLabels_27 : decode b_Row_joinLabels 27 = .ok (.iaload, 1) := by decide +kernel
theorem d_Row_joinLabels_28 : decode b_Row_joinLabels 28 = .ok (.invokestatic 36, 3) := by decide +kernel
theorem d_Row_joinLabels_31 : decode b_Row_joinLabels 31 = .ok (.istore 4, 2) := by decide +kernel
theorem d_Row_joinLabels_33 : decode b_Row_joinLabels 33 = .ok (.iload_n 3, 1) := by decide +kernel
theorem d_Row_joinLabels_34 : decode b_Row_joinLabels 34 = .ok (.iload 4, 2) := by decide +kernel
theorem d_Row_joinLabels_36 : decode b_Row_joinLabels 36 = .ok (.if_icmp .ne 5, 3) := by decide +kernel
theorem d_Row_joinLabels_39 : decode b_Row_joinLabels 39 = .ok (.iconst 0, 1) := by decide +kernel
theorem d_Row_joinLabels_40 : decode b_Row_joinLabels 40 = .ok (.ireturn, 1) := by decide +kernel
theorem d_Row_joinLabels_41 : decode b_Row_joinLabels 41 = .ok (.iconst 0, 1) := by decide +kernel
theorem d_Row_joinLabels_42 : decode b_Row_joinLabels 42 = .ok (.istore 5, 2) := by decide +kernel
theorem d_Row_joinLabels_44 : decode b_Row_joinLabels 44 = .ok (.iload 5, 2) := by decide +kernel
theorem d_Row_joinLabels_46 : decode b_Row_joinLabels 46 = .ok (.iconst 4, 1) := by decide +kernel
theorem d_Row_joinLabels_47 : decode b_Row_joinLabels 47 = .ok (.aload_n 0, 1) := by decide +kernel
theorem d_Row_joinLabels_48 : decode b_Row_joinLabels 48 = .ok (.getfield 18, 3) := by decide +kernel
theorem d_Row_joinLabels_51 : decode b_Row_joinLabels 51 = .ok (.imul, 1) := by decide +kernel
theorem d_Row_joinLabels_52 : decode b_Row_joinLabels 52 = .ok (.if_icmp .ge 29, 3) := by decide +kernel
theorem d_Row_joinLabels_55 : decode b_Row_joinLabels 55 = .ok (.aload_n 0, 1) := by decide +kernel
theorem d_Row_joinLabels_56 : decode b_Row_joinLabels 56 = .ok (.getfield 9, 3) := by decide +kernel
theorem d_Row_joinLabels_59 : decode b_Row_joinLabels 59 = .ok (.iload 5, 2) := by decide +kernel
theorem d_Row_joinLabels_61 : decode b_Row_joinLabels 61 = .ok (.iaload, 1) := by decide +kernel
theorem d_Row_joinLabels_62 : decode b_Row_joinLabels 62 = .ok (.iload 4, 2) := by decide +kernel
theorem d_Row_joinLabels_64 : decode b_Row_joinLabels 64 = .ok (.if_icmp .ne 11, 3) := by decide +kernel
theorem d_Row_joinLabels_67 : decode b_Row_joinLabels 67 = .ok (.aload_n 0, 1) := by decide +kernel
theorem d_Row_joinLabels_68 : decode b_Row_joinLabels 68 = .ok (.getfield 9, 3) := by decide +kernel
theorem d_Row_joinLabels_71 : decode b_Row_joinLabels 71 = .ok (.iload 5, 2) := by decide +kernel
theorem d_Row_joinLabels_73 : decode b_Row_joinLabels 73 = .ok (.iload_n 3, 1) := by decide +kernel
theorem d_Row_joinLabels_74 : decode b_Row_joinLabels 74 = .ok (.iastore, 1) := by decide +kernel
theorem d_Row_joinLabels_75 : decode b_Row_joinLabels 75 = .ok (.iinc 5 1, 3) := by decide +kernel
theorem d_Row_joinLabels_78 : decode b_Row_joinLabels 78 = .ok (.goto (-34), 3) := by decide +kernel
theorem d_Row_joinLabels_81 : decode b_Row_joinLabels 81 = .ok (.iconst 1, 1) := by decide +kernel
theorem d_Row_joinLabels_82 : decode b_Row_joinLabels 82 = .ok (.ireturn, 1) := by decide +kernel
theorem d_Row_remove_0 : decode b_Row_remove 0 = .ok (.iload_n 1, 1) := by decide +kernel
theorem d_Row_remove_1 : decode b_Row_remove 1 = .ok (.ifCond .lt 11, 3) := by decide +kernel
theorem d_Row_remove_4 : decode b_Row_remove 4 = .ok (.iload_n 1, 1) := by decide +kernel
theorem d_Row_remove_5 : decode b_Row_remove 5 = .ok (.aload_n 0, 1) := by decide +kernel
theorem d_Row_remove_6 : decode b_Row_remove 6 = .ok (.getfield 18, 3) := by decide +kernel
theorem d_Row_remove_9 : decode b_Row_remove 9 = .ok (.if_icmp .lt 4, 3) := by decide +kernel
theorem d_Row_remove_12 : decode b_Row_remove 12 = .ok (.return_, 1) := by decide +kernel
theorem d_Row_remove_13 : decode b_Row_remove 13 = .ok (.aload_n 0, 1) := by decide +kernel
theorem d_Row_remove_14 : decode b_Row_remove 14 = .ok (.getfield 18, 3) := by decide +kernel
theorem d_Row_remove_17 : decode b_Row_remove 17 = .ok (.iload_n 1, 1) := by decide +kernel
theorem d_Row_remove_18 : decode b_Row_remove 18 = .ok (.isub, 1) := by decide +kernel
theorem d_Row_remove_19 : decode b_Row_remove 19 = .ok (.iconst 1, 1) := by decide +kernel
theorem d_Row_remove_20 : decode b_Row_remove 20 = .ok (.isub, 1) := by decide +kernel
theorem d_Row_remove_21 : decode b_Row_remove 21 = .ok (.istore_n 2, 1) := by decide +kernel
theorem d_Row_remove_22 : decode b_Row_remove 22 = .ok (.aload_n 0, 1) := by decide +kernel
theorem d_Row_remove_23 : decode b_Row_remove 23 = .ok (.getfield 9, 3) := by decide +kernel
theorem d_Row_remove_26 : decode b_Row_remove 26 = .ok (.iconst 4, 1) := by decide +kernel
theorem d_Row_remove_27 : decode b_Row_remove 27 = .ok (.iload_n 1, 1) := by decide +kernel
theorem d_Row_remove_28 : decode b_Row_remove 28 = .ok (.iconst 1, 1) := by decide +kernel
theorem d_Row_remove_29 : decode b_Row_remove 29 = .ok (.iadd, 1) := by decide +kernel
theorem d_Row_remove_30 : decode b_Row_remove 30 = .ok (.imul, 1) := by decide +kernel
theorem d_Row_remove_31 : decode b_Row_remove 31 = .ok (.aload_n 0, 1) := by decide +kernel
theorem d_Row_remove_32 : decode b_Row_remove 32 = .ok (.getfield 9, 3) := by decide +kernel
theorem d_Row_remove_35 : decode b_Row_remove 35 = .ok (.iconst 4, 1) := by decide +kernel
theorem d_Row_remove_36 : decode b_Row_remove 36 = .ok (.iload_n 1, 1) := by decide +kernel
theorem d_Row_remove_37 : decode b_Row_remove 37 = .ok (.imul, 1) := by decide +kernel
theorem d_Row_remove_38 : decode b_Row_remove 38 = .ok (.iconst 4, 1) := by decide +kernel
theorem d_Row_remove_39 : decode b_Row_remove 39 = .ok (.iload_n 2, 1) := by decide +kernel
theorem d_Row_remove_40 : decode b_Row_remove 40 = .ok (.imul, 1) := by decide +kernel
theorem d_Row_remove_41 : decode b_Row_remove 41 = .ok (.invokestatic 39, 3) := by decide +kernel
theorem d_Row_remove_44 : decode b_Row_remove 44 = .ok (.aload_n 0, 1) := by decide +kernel
theorem d_Row_remove_45 : decode b_Row_remove 45 = .ok (.getfield 15, 3) := by decide +kernel
theorem d_Row_remove_48 : decode b_Row_remove 48 = .ok (.iload_n 1, 1) := by decide +kernel
theorem d_Row_remove_49 : decode b_Row_remove 49 = .ok (.iconst 1, 1) := by decide +kernel
theorem d_Row_remove_50 : decode b_Row_remove 50 = .ok (.iadd, 1) := by decide +kernel
theorem d_Row_remove_51 : decode b_Row_remove 51 = .ok (.aload_n 0, 1) := by decide +kernel
theorem d_Row_remove_52 : decode b_Row_remove 52 = .ok (.getfield 15, 3) := by decide +kernel
theorem d_Row_remove_55 : decode b_Row_remove 55 = .ok (.iload_n 1, 1) := by decide +kernel
theorem d_Row_remove_56 : decode b_Row_remove 56 = .ok (.iload_n 2, 1) := by decide +kernel
theorem d_Row_remove_57 : decode b_Row_remove 57 = .ok (.invokestatic 39, 3) := by decide +kernel
theorem d_Row_remove_60 : decode b_Row_remove 60 = .ok (.aload_n 0, 1) := by decide +kernel
theorem d_Row_remove_61 : decode b_Row_remove 61 = .ok (.dup, 1) := by decide +kernel
theorem d_Row_remove_62 : decode b_Row_remove 62 = .ok (.getfield 18, 3) := by decide +kernel
theorem d_Row_remove_65 : decode b_Row_remove 65 = .ok (.iconst 1, 1) := by decide +kernel
theorem d_Row_remove_66 : decode b_Row_remove 66 = .ok (.isub, 1) := by decide +kernel
theorem d_Row_remove_67 : decode b_Row_remove 67 = .ok (.putfield 18, 3) := by decide +kernel
theorem d_Row_remove_70 : decode b_Row_remove 70 = .ok (.return_, 1) := by decide +kernel
theorem d_Math_max_0 : decode b_Math_max 0 = .ok (.iload_n 0, 1) := by decide +kernel
theorem d_Math_max_1 : decode b_Math_max 1 = .ok (.iload_n 1, 1) := by decide +kernel
theorem d_Math_max_2 : decode b_Math_max 2 = .ok (.if_icmp .lt 7, 3) := by decide +kernel
theorem d_Math_max_5 : decode b_Math_max 5 = .ok (.iload_n 0, 1) := by decide +kernel
theorem d_Math_max_6 : decode b_Math_max 6 = .ok (.goto 4, 3) := by decide +kernel
theorem d_Math_max_9 : decode b_Math_max 9 = .ok (.iload_n 1, 1) := by decide +kernel
theorem d_Math_max_10 : decode b_Math_max 10 = .ok (.ireturn, 1) := by decide +kernel
theorem d_Math_min_0 : decode b_Math_min 0 = .ok (.iload_n 0, 1) := by decide +kernel
theorem d_Math_min_1 : decode b_Math_min 1 = .ok (.iload_n 1, 1) := by decide +kernel
theorem d_Math_min_2 : decode b_Math_min 2 = .ok (.if_icmp .gt 7, 3) := by decide +kernel
theorem d_Math_min_5 : decode b_Math_min 5 = .ok (.iload_n 0, 1) := by decide +kernel
theorem d_Math_min_6 : decode b_Math_min 6 = .ok (.goto 4, 3) := by decide +kernel
theorem d_Math_min_9 : decode b_Math_min 9 = .ok (.iload_n 1, 1) := by decide +kernel
theorem d_Math_min_10 : decode b_Math_min 10 = .ok (.ireturn, 1) := by decide +kernel
theorem d_Arr_fill_0 : decode b_Arr_fill 0 = .ok (.iconst 0, 1) := by decide +kernel
theorem d_Arr_fill_1 : decode b_Arr_fill 1 = .ok (.istore_n 2, 1) := by decide +kernel
theorem d_Arr_fill_2 : decode b_Arr_fill 2 = .ok (.aload_n 0, 1) := by decide +kernel
theorem d_Arr_fill_3 : decode b_Arr_fill 3 = .ok (.arraylength, 1) := by decide +kernel
theorem d_Arr_fill_4 : decode b_Arr_fill 4 = .ok (.istore_n 3, 1) := by decide +kernel
theorem d_Arr_fill_5 : decode b_Arr_fill 5 = .ok (.iload_n 2, 1) := by decide +kernel
theorem d_Arr_fill_6 : decode b_Arr_fill 6 = .ok (.iload_n 3, 1) := by decide +kernel
theorem d_Arr_fill_7 : decode b_Arr_fill 7 = .ok (.if_icmp .ge 13, 3) := by decide +kernel
theorem d_Arr_fill_10 : decode b_Arr_fill 10 = .ok (.aload_n 0, 1) := by decide +kernel
theorem d_Arr_fill_11 : decode b_Arr_fill 11 = .ok (.iload_n 2, 1) := by decide +kernel
theorem d_Arr_fill_12 : decode b_Arr_fill 12 = .ok (.iload_n 1, 1) := by decide +kernel
theorem d_Arr_fill_13 : decode b_Arr_fill 13 = .ok (.iastore, 1) := by decide +kernel
theorem d_Arr_fill_14 : decode b_Arr_fill 14 = .ok (.iinc 2 1, 3) := by decide +kernel
theorem d_Arr_fill_17 : decode b_Arr_fill 17 = .ok (.goto (-12), 3) := by decide +kernel
theorem d_Arr_fill_20 : decode b_Arr_fill 20 = .ok (.return_, 1) := by decide +kernel
theorem d_Int_bitCount_0 : decode b_Int_bitCount 0 = .ok (.iload_n 0, 1) := by decide +kernel
theorem d_Int_bitCount_1 : decode b_Int_bitCount 1 = .ok (.iload_n 0, 1) := by decide +kernel
theorem d_Int_bitCount_2 : decode b_Int_bitCount 2 = .ok (.iconst 1, 1) := by decide +kernel
theorem d_Int_bitCount_3 : decode b_Int_bitCount 3 = .ok (.iushr, 1) := by decide +kernel
theorem d_Int_bitCount_4 : decode b_Int_bitCount 4 = .ok (.ldc_w 265, 3) := by decide +kernel
theorem d_Int_bitCount_7 : decode b_Int_bitCount 7 = .ok (.iand, 1) := by decide +kernel
theorem d_Int_bitCount_8 : decode b_Int_bitCount 8 = .ok (.isub, 1) := by decide +kernel
theorem d_Int_bitCount_9 : decode b_Int_bitCount 9 = .ok (.istore_n 0, 1) := by decide +kernel
theorem d_Int_bitCount_10 : decode b_Int_bitCount 10 = .ok (.iload_n 0, 1) := by decide +kernel
theorem d_Int_bitCount_11 : decode b_Int_bitCount 11 = .ok (.ldc_w 266, 3) := by decide +kernel
theorem d_Int_bitCount_14 : decode b_Int_bitCount 14 = .ok (.iand, 1) := by decide +kernel
theorem d_Int_bitCount_15 : decode b_Int_bitCount 15 = .ok (.iload_n 0, 1) := by decide +kernel
theorem d_Int_bitCount_16 : decode b_Int_bitCount 16 = .ok (.iconst 2, 1) := by decide +kernel
theorem d_Int_bitCount_17 : decode b_Int_bitCount 17 = .ok (.iushr, 1) := by decide +kernel
theorem d_Int_bitCount_18 : decode b_Int_bitCount 18 = .ok (.ldc_w 266, 3) := by decide +kernel
theorem d_Int_bitCount_21 : decode b_Int_bitCount 21 = .ok (.iand, 1) := by decide +kernel
theorem d_Int_bitCount_22 : decode b_Int_bitCount 22 = .ok (.iadd, 1) := by decide +kernel
theorem d_Int_bitCount_23 : decode b_Int_bitCount 23 = .ok (.istore_n 0, 1) := by decide +kernel
theorem d_Int_bitCount_24 : decode b_Int_bitCount 24 = .ok (.iload_n 0, 1) := by decide +kernel
theorem d_Int_bitCount_25 : decode b_Int_bitCount 25 = .ok (.iload_n 0, 1) := by decide +kernel
theorem d_Int_bitCount_26 : decode b_Int_bitCount 26 = .ok (.iconst 4, 1) := by decide +kernel
theorem d_Int_bitCount_27 : decode b_Int_bitCount 27 = .ok (.iushr, 1) := by decide +kernel
theorem d_Int_bitCount_28 : decode b_Int_bitCount 28 = .ok (.iadd, 1) := by decide +kernel
theorem d_Int_bitCount_29 : decode b_Int_bitCount 29 = .ok (.ldc_w 267, 3) := by decide +kernel
theorem d_Int_bitCount_32 : decode b_Int_bitCount 32 = .ok (.iand, 1) := by decide +kernel
theorem d_Int_bitCount_33 : decode b_Int_bitCount 33 = .ok (.istore_n 0, 1) := by decide +kernel
theorem d_Int_bitCount_34 : decode b_Int_bitCount 34 = .ok (.iload_n 0, 1) := by decide +kernel
theorem d_Int_bitCount_35 : decode b_Int_bitCount 35 = .ok (.iload_n 0, 1) := by decide +kernel
theorem d_Int_bitCount_36 : decode b_Int_bitCount 36 = .ok (.bipush 8, 2) := by decide +kernel
theorem d_Int_bitCount_38 : decode b_Int_bitCount 38 = .ok (.iushr, 1) := by decide +kernel
theorem d_Int_bitCount_39 : decode b_Int_bitCount 39 = .ok (.iadd, 1) := by decide +kernel
theorem d_Int_bitCount_40 : decode b_Int_bitCount 40 = .ok (.istore_n 0, 1) := by decide +kernel
theorem d_Int_bitCount_41 : decode b_Int_bitCount 41 = .ok (.iload_n 0, 1) := by decide +kernel
theorem d_Int_bitCount_42 : decode b_Int_bitCount 42 = .ok (.iload_n 0, 1) := by decide +kernel
theorem d_Int_bitCount_43 : decode b_Int_bitCount 43 = .ok (.bipush 16, 2) := by decide +kernel
theorem d_Int_bitCount_45 : decode b_Int_bitCount 45 = .ok (.iushr, 1) := by decide +kernel
theorem d_Int_bitCount_46 : decode b_Int_bitCount 46 = .ok (.iadd, 1) := by decide +kernel
theorem d_Int_bitCount_47 : decode b_Int_bitCount 47 = .ok (.istore_n 0, 1) := by decide +kernel
theorem d_Int_bitCount_48 : decode b_Int_bitCount 48 = .ok (.iload_n 0, 1) := by decide +kernel
theorem d_Int_bitCount_49 : decode b_Int_bitCount 49 = .ok (.bipush 63, 2) := by decide +kernel
theorem d_Int_bitCount_51 : decode b_Int_bitCount 51 = .ok (.iand, 1) := by decide +kernel
theorem d_Int_bitCount_52 : decode b_Int_bitCount 52 = .ok (.ireturn, 1) := by decide +kernel
end
section
theorem d_Edg_init_0 : decode b_Edg_init 0 = .ok (.aload_n 0, 1) := by decide +kernel
theorem d_Edg_init_1 : decode b_Edg_init 1 = .ok (.invokespecial 3, 3) := by decide +kernel
theorem d_Edg_init_4 : decode b_Edg_init 4 = .ok (.aload_n 0, 1) := by decide +kernel
theorem d_Edg_init_5 : decode b_Edg_init 5 = .ok (.bipush 80, 2) := by decide +kernel
theorem d_Edg_init_7 : decode b_Edg_init 7 = .ok (.newarray .int, 2) := by decide +kernel
theorem d_Edg_init_9 : decode b_Edg_init 9 = .ok (.putfield 9, 3) := by decide +kernel
theorem d_Edg_init_12 : decode b_Edg_init 12 = .ok (.aload_n 0, 1) := by decide +kernel
theorem d_Edg_init_13 : decode b_Edg_init 13 = .ok (.bipush 40, 2) := by decide +kernel
theorem d_Edg_init_15 : decode b_Edg_init 15 = .ok (.newarray .int, 2) := by decide +kernel
theorem d_Edg_init_17 : decode b_Edg_init 17 = .ok (.putfield 15, 3) := by decide +kernel
theorem d_Edg_init_20 : decode b_Edg_init 20 = .ok (.aload_n 0, 1) := by decide +kernel
theorem d_Edg_init_21 : decode b_Edg_init 21 = .ok (.bipush 40, 2) := by decide +kernel
theorem d_Edg_init_23 : decode b_Edg_init 23 = .ok (.newarray .int, 2) := by decide +kernel
theorem d_Edg_init_25 : decode b_Edg_init 25 = .ok (.putfield 18, 3) := by decide +kernel
theorem d_Edg_init_28 : decode b_Edg_init 28 = .ok (.aload_n 0, 1) := by decide +kernel
theorem d_Edg_init_29 : decode b_Edg_init 29 = .ok (.bipush 40, 2) := by decide +kernel
theorem d_Edg_init_31 : decode b_Edg_init 31 = .ok (.newarray .int, 2) := by decide +kernel
theorem d_Edg_init_33 : decode b_Edg_init 33 = .ok (.putfield 21, 3) := by decide +kernel
theorem d_Edg_init_36 : decode b_Edg_init 36 = .ok (.aload_n 0, 1) := by decide +kernel
theorem d_Edg_init_37 : decode b_Edg_init 37 = .ok (.bipush 80, 2) := by decide +kernel
theorem d_Edg_init_39 : decode b_Edg_init 39 = .ok (.newarray .int, 2) := by decide +kernel
theorem d_Edg_init_41 : decode b_Edg_init 41 = .ok (.putfield 24, 3) := by decide +kernel
theorem d_Edg_init_44 : decode b_Edg_init 44 = .ok (.return_, 1) := by decide +kernel
theorem d_Edg_find_0 : decode b_Edg_find 0 = .ok (.aload_n 0, 1) := by decide +kernel
theorem d_Edg_find_1 : decode b_Edg_find 1 = .ok (.aload_n 1, 1) := by decide +kernel
theorem d_Edg_find_2 : decode b_Edg_find 2 = .ok (.invokevirtual 27, 3) := by decide +kernel
theorem d_Edg_find_5 : decode b_Edg_find 5 = .ok (.aload_n 0, 1) := by decide +kernel
theorem d_Edg_find_6 : decode b_Edg_find 6 = .ok (.aload_n 1, 1) := by decide +kernel
theorem d_Edg_find_7 : decode b_Edg_find 7 = .ok (.invokevirtual 31, 3) := by decide +kernel
theorem d_Edg_find_10 : decode b_Edg_find 10 = .ok (.ifCond .ne 5, 3) := by decide +kernel
theorem d_Edg_find_13 : decode b_Edg_find 13 = .ok (.iconst 1, 1) := by decide +kernel
theorem d_Edg_find_14 : decode b_Edg_find 14 = .ok (.ireturn, 1) := by decide +kernel
theorem d_Edg_find_15 : decode b_Edg_find 15 = .ok (.aload_n 0, 1) := by decide +kernel
theorem d_Edg_find_16 : decode b_Edg_find 16 = .ok (.aload_n 1, 1) := by decide +kernel
theorem d_Edg_find_17 : decode b_Edg_find 17 = .ok (.invokevirtual 35, 3) := by decide +kernel
theorem d_Edg_find_20 : decode b_Edg_find 20 = .ok (.ifCond .eq 7, 3) := by decide +kernel
theorem d_Edg_find_23 : decode b_Edg_find 23 = .ok (.iconst 0, 1) := by decide +kernel
theorem d_Edg_find_24 : decode b_Edg_find 24 = .ok (.goto 4, 3) := by decide +kernel
theorem d_Edg_find_27 : decode b_Edg_find 27 = .ok (.iconst 2, 1) := by decide +kernel
theorem d_Edg_find_28 : decode b_Edg_find 28 = .ok (.ireturn, 1) := by decide +kernel
theorem d_Edg_sortPlaces_0 : decode b_Edg_sortPlaces 0 = .ok (.iconst 0, 1) := by decide +kernel
theorem d_Edg_sortPlaces_1 : decode b_Edg_sortPlaces 1 = .ok (.istore_n 2, 1) := by decide +kernel
theorem d_Edg_sortPlaces_2 : decode b_Edg_sortPlaces 2 = .ok (.iload_n 2, 1) := by decide +kernel
theorem d_Edg_sortPlaces_3 : decode b_Edg_sortPlaces 3 = .ok (.iconst 4, 1) := by decide +kernel
theorem d_Edg_sortPlaces_4 : decode b_Edg_sortPlaces 4 = .ok (.aload_n 1, 1) := by decide +kernel
theorem d_Edg_sortPlaces_5 : decode b_Edg_sortPlaces 5 = .ok (.getfield 38, 3) := by decide +kernel
theorem d_Edg_sortPlaces_8 : decode b_Edg_sortPlaces 8 = .ok (.imul, 1) := by decide +kernel
theorem d_Edg_sortPlaces_9 : decode b_Edg_sortPlaces 9 = .ok (.if_icmp .ge 72, 3) := by decide +kernel
theorem d_Edg_sortPlaces_12 : decode b_Edg_sortPlaces 12 = .ok (.aload_n 1, 1) := by decide +kernel
theorem d_Edg_sortPlaces_13 : decode b_Edg_sortPlaces 13 = .ok (.getfield 44, 3) := by decide +kernel
theorem d_Edg_sortPlaces_16 : decode b_Edg_sortPlaces 16 = .ok (.iload_n 2, 1) := by decide +kernel
theorem d_Edg_sortPlaces_17 : decode b_Edg_sortPlaces 17 = .ok (.iaload, 1) := by decide +kernel
theorem d_Edg_sortPlaces_18 : decode b_Edg_sortPlaces 18 = .ok (.istore_n 3, 1) := by decide +kernel
theorem d_Edg_sortPlaces_19 : decode b_Edg_sortPlaces 19 = .ok (.iload_n 2, 1) := by decide +kernel
theorem d_Edg_sortPlaces_20 : decode b_Edg_sortPlaces 20 = .ok (.istore 4, 2) := by decide +kernel
theorem d_Edg_sortPlaces_22 : decode b_Edg_sortPlaces 22 = .ok (.iload 4, 2) := by decide +kernel
theorem d_Edg_sortPlaces_24 : decode b_Edg_sortPlaces 24 = .ok (.ifCond .le 43, 3) := by decide +kernel
theorem d_Edg_sortPlaces_27 : decode b_Edg_sortPlaces 27 = .ok (.aload_n 1, 1) := by decide +kernel
theorem d_Edg_sortPlaces_28 : decode b_Edg_sortPlaces 28 = .ok (.getfield 44, 3) := by decide +kernel
theorem d_Edg_sortPlaces_31 : decode b_Edg_sortPlaces 31 = .ok (.aload_n 0, 1) := by decide +kernel
theorem d_Edg_sortPlaces_32 : decode b_Edg_sortPlaces 32 = .ok (.getfield 9, 3) := by decide +kernel
theorem d_Edg_sortPlaces_35 : decode b_Edg_sortPlaces 35 = .ok (.iload 4, 2) := by decide +kernel
theorem d_Edg_sortPlaces_37 : decode b_Edg_sortPlaces 37 = .ok (.iconst 1, 1) := by decide +kernel
theorem d_Edg_sortPlaces_38 : decode b_Edg_sortPlaces 38 = .ok (.isub, 1) := by decide +kernel
theorem d_Edg_sortPlaces_39 : decode b_Edg_sortPlaces 39 = .ok (.iaload, 1) := by decide +kernel
theorem d_Edg_sortPlaces_40 : decode b_Edg_sortPlaces 40 = .ok (.iaload, 1) := by decide +kernel
theorem d_Edg_sortPlaces_41 : decode b_Edg_sortPlaces 41 = .ok (.iload_n 3, 1) := by decide +kernel
theorem d_Edg_sortPlaces_42 : decode b_Edg_sortPlaces 42 = .ok (.if_icmp .le 25, 3) := by decide +kernel
theorem d_Edg_sortPlaces_45 : decode b_Edg_sortPlaces 45 = .ok (.aload_n 0, 1) := by decide +kernel
theorem d_Edg_sortPlaces_46 : decode b_Edg_sortPlaces 46 = .ok (.getfield 9, 3) := by decide +kernel
theorem d_Edg_sortPlaces_49 : decode b_Edg_sortPlaces 49 = .ok (.iload 4, 2) := by decide +kernel
theorem d_Edg_sortPlaces_51 : decode b_Edg_sortPlaces 51 = .ok (.aload_n 0, 1) := by decide +kernel
theorem d_Edg_sortPlaces_52 : decode b_Edg_sortPlaces 52 = .ok (.getfield 9, 3) := by decide +kernel
theorem d_Edg_sortPlaces_55 : decode b_Edg_sortPlaces 55 = .ok (.iload 4, 2) := by decide +kernel
theorem d_Edg_sortPlaces_57 : decode b_Edg_sortPlaces 57 = .ok (.iconst 1, 1) := by decide +kernel
theorem d_Edg_sortPlaces_58 : decode b_Edg_sortPlaces 58 = .ok (.isub, 1) := by decide +kernel
theorem d_Edg_sortPlaces_59 : decode b_Edg_sortPlaces 59 = .ok (.iaload, 1) := by decide +kernel
theorem d_Edg_sortPlaces_60 : decode b_Edg_sortPlaces 60 = .ok (.iastore, 1) := by decide +kernel
theorem d_Edg_sortPlaces_61 : decode b_Edg_sortPlaces 61 = .ok (.iinc 4 (-1), 3) := by decide +kernel
theorem d_Edg_sortPlaces_64 : decode b_Edg_sortPlaces 64 = .ok (.goto (-42), 3) := by decide +kernel
theorem d_Edg_sortPlaces_67 : decode b_Edg_sortPlaces 67 = .ok (.aload_n 0, 1) := by decide +kernel
theorem d_Edg_sortPlaces_68 : decode b_Edg_sortPlaces 68 = .ok (.getfield 9, 3) := by decide +kernel
theorem d_Edg_sortPlaces_71 : decode b_Edg_sortPlaces 71 = .ok (.iload 4, 2) := by decide +kernel
theorem d_Edg_sortPlaces_73 : decode b_Edg_sortPlaces 73 = .ok (.iload_n 2, 1) := by decide +kernel
theorem d_Edg_sortPlaces_74 : decode b_Edg_sortPlaces 74 = .ok (.iastore, 1) := by decide +kernel
theorem d_Edg_sortPlaces_75 : decode b_Edg_sortPlaces 75 = .ok (.iinc 2 1, 3) := by decide +kernel
theorem d_Edg_sortPlaces_78 : decode b_Edg_sortPlaces 78 = .ok (.goto (-76), 3) := by decide +kernel
theorem d_Edg_sortPlaces_81 : decode b_Edg_sortPlaces 81 = .ok (.return_, 1) := by decide +kernel
theorem d_Edg_everyLabelStandsTwice_0 : decode b_Edg_everyLabelStandsTwice 0 = .ok (.iconst 0, 1) := by decide +kernel
theorem d_Edg_everyLabelStandsTwice_1 : decode b_Edg_everyLabelStandsTwice 1 = .ok (.istore_n 2, 1) := by decide +kernel
theorem d_Edg_everyLabelStandsTwice_2 : decode b_Edg_everyLabelStandsTwice 2 = .ok (.iconst 0, 1) := by decide +kernel
theorem d_Edg_everyLabelStandsTwice_3 : decode b_Edg_everyLabelStandsTwice 3 = .ok (.istore_n 3, 1) := by decide +kernel
theorem d_Edg_everyLabelStandsTwice_4 : decode b_Edg_everyLabelStandsTwice 4 = .ok (.iload_n 3, 1) := by decide +kernel
theorem d_Edg_everyLabelStandsTwice_5 : decode b_Edg_everyLabelStandsTwice 5 = .ok (.iconst 1, 1) := by decide +kernel
theorem d_Edg_everyLabelStandsTwice_6 : decode b_Edg_everyLabelStandsTwice 6 = .ok (.iadd, 1) := by decide +kernel
theorem d_Edg_everyLabelStandsTwice_7 : decode b_Edg_everyLabelStandsTwice 7 = .ok (.iconst 4, 1) := by decide +kernel
theorem d_Edg_everyLabelStandsTwice_8 : decode b_Edg_everyLabelStandsTwice 8 = .ok (.aload_n 1, 1) := by decide +kernel
theorem d_Edg_everyLabelStandsTwice_9 : decode b_Edg_everyLabelStandsTwice 9 = .ok (.getfield 38, 3) := by decide +kernel
theorem d_Edg_everyLabelStandsTwice_12 : decode b_Edg_everyLabelStandsTwice 12 = .ok (.imul, 1) := by decide +kernel
theorem d_Edg_everyLabelStandsTwice_13 : decode b_Edg_everyLabelStandsTwice 13 = .ok (.if_icmp .ge 51, 3) := by decide +kernel
theorem d_Edg_everyLabelStandsTwice_16 : decode b_Edg_everyLabelStandsTwice 16 = .ok (.aload_n 1, 1) := by decide +kernel
theorem d_Edg_everyLabelStandsTwice_17 : decode b_Edg_everyLabelStandsTwice 17 = .ok (.getfield 44, 3) := by decide +kernel
theorem d_Edg_everyLabelStandsTwice_20 : decode b_Edg_everyLabelStandsTwice 20 = .ok (.aload_n 0, 1) := by decide +kernel
theorem d_Edg_everyLabelStandsTwice_21 : decode b_Edg_everyLabelStandsTwice 21 = .ok (.getfield 9, 3) := by decide +kernel
theorem d_Edg_everyLabelStandsTwice_24 : decode b_Edg_everyLabelStandsTwice 24 = .ok (.iload_n 3, 1) := by decide +kernel
theorem d_Edg_everyLabelStandsTwice_25 : decode b_Edg_everyLabelStandsTwice 25 = .ok (.iaload, 1) := by decide +kernel
theorem d_Edg_everyLabelStandsTwice_26 : decode b_Edg_everyLabelStandsTwice 26 = .ok (.iaload, 1) := by decide +kernel
theorem d_Edg_everyLabelStandsTwice_27 : decode b_Edg_everyLabelStandsTwice 27 = .ok (.istore 4, 2) := by decide +kernel
theorem d_Edg_everyLabelStandsTwice_29 : decode b_Edg_everyLabelStandsTwice 29 = .ok (.iload 4, 2) := by decide +kernel
theorem d_Edg_everyLabelStandsTwice_31 : decode b_Edg_everyLabelStandsTwice 31 = .ok (.iload_n 2, 1) := by decide +kernel
theorem d_Edg_everyLabelStandsTwice_32 : decode b_Edg_everyLabelStandsTwice 32 = .ok (.if_icmp .eq 21, 3) := by decide +kernel
theorem d_Edg_everyLabelStandsTwice_35 : decode b_Edg_everyLabelStandsTwice 35 = .ok (.iload 4, 2) := by decide +kernel
theorem d_Edg_everyLabelStandsTwice_37 : decode b_Edg_everyLabelStandsTwice 37 = .ok (.aload_n 1, 1) := by decide +kernel
theorem d_Edg_everyLabelStandsTwice_38 : decode b_Edg_everyLabelStandsTwice 38 = .ok (.getfield 44, 3) := by decide +kernel
theorem d_Edg_everyLabelStandsTwice_41 : decode b_Edg_everyLabelStandsTwice 41 = .ok (.aload_n 0, 1) := by decide +kernel
theorem d_Edg_everyLabelStandsTwice_42 : decode b_Edg_everyLabelStandsTwice 42 = .ok (.getfield 9, 3) := by decide +kernel
theorem d_Edg_everyLabelStandsTwice_45 : decode b_Edg_everyLabelStandsTwice 45 = .ok (.iload_n 3, 1) := by decide +kernel
theorem d_Edg_everyLabelStandsTwice_46 : decode b_Edg_everyLabelStandsTwice 46 = .ok (.iconst 1, 1) := by decide +kernel
theorem d_Edg_everyLabelStandsTwice_47 : decode b_Edg_everyLabelStandsTwice 47 = .ok (.iadd, 1) := by decide +kernel
theorem d_Edg_everyLabelStandsTwice_48 : decode b_Edg_everyLabelStandsTwice 48 = .ok (.iaload, 1) := by decide +kernel
theorem d_Edg_everyLabelStandsTwice_49 : decode b_Edg_everyLabelStandsTwice 49 = .ok (.iaload, 1) := by decide +kernel
theorem d_Edg_everyLabelStandsTwice_50 : decode b_Edg_everyLabelStandsTwice 50 = .ok (.if_icmp .eq 5, 3) := by decide +kernel
theorem d_Edg_everyLabelStandsTwice_53 : decode b_Edg_everyLabelStandsTwice 53 = .ok (.iconst 0, 1) := by decide +kernel
theorem d_Edg_everyLabelStandsTwice_54 : decode b_Edg_everyLabelStandsTwice 54 = .ok (.ireturn, 1) := by decide +kernel
theorem d_Edg_everyLabelStandsTwice_55 : decode b_Edg_everyLabelStandsTwice 55 = .ok (.iload 4, 2) := by decide +kernel
theorem d_Edg_everyLabelStandsTwice_57 : decode b_Edg_everyLabelStandsTwice 57 = .ok (.istore_n 2, 1) := by decide +kernel
theorem d_Edg_everyLabelStandsTwice_58 : decode b_Edg_everyLabelStandsTwice 58 = .ok (.iinc 3 2, 3) := by decide +kernel
theorem d_Edg_everyLabelStandsTwice_61 : decode b_Edg_everyLabelStandsTwice 61 = .ok (.goto (-57), 3) := by decide +kernel
theorem d_Edg_everyLabelStandsTwice_64 : decode b_Edg_everyLabelStandsTwice 64 = .ok (.iconst 1, 1) := by decide +kernel
theorem d_Edg_everyLabelStandsTwice_65 : decode b_Edg_everyLabelStandsTwice 65 = .ok (.ireturn, 1) := by decide +kernel
theorem d_Edg_pairPlaces_0 : decode b_Edg_pairPlaces 0 = .ok (.aload_n 0, 1) := by decide +kernel
theorem d_Edg_pairPlaces_1 : decode b_Edg_pairPlaces 1 = .ok (.iconst 2, 1) := by decide +kernel
theorem d_Edg_pairPlaces_2 : decode b_Edg_pairPlaces 2 = .ok (.aload_n 1, 1) := by decide +kernel
theorem d_Edg_pairPlaces_3 : decode b_Edg_pairPlaces 3 = .ok (.getfield 38, 3) := by decide +kernel
theorem d_Edg_pairPlaces_6 : decode b_Edg_pairPlaces 6 = .ok (.imul, 1) := by decide +kernel
theorem d_Edg_pairPlaces_7 : decode b_Edg_pairPlaces 7 = .ok (.putfield 45, 3) := by decide +kernel
theorem d_Edg_pairPlaces_10 : decode b_Edg_pairPlaces 10 = .ok (.iconst 0, 1) := by decide +kernel
theorem d_Edg_pairPlaces_11 : decode b_Edg_pairPlaces 11 = .ok (.istore_n 2, 1) := by decide +kernel
theorem d_Edg_pairPlaces_12 : decode b_Edg_pairPlaces 12 = .ok (.iload_n 2, 1) := by decide +kernel
theorem d_Edg_pairPlaces_13 : decode b_Edg_pairPlaces 13 = .ok (.aload_n 0, 1) := by decide +kernel
theorem d_Edg_pairPlaces_14 : decode b_Edg_pairPlaces 14 = .ok (.getfield 45, 3) := by decide +kernel
theorem d_Edg_pairPlaces_17 : decode b_Edg_pairPlaces 17 = .ok (.if_icmp .ge 111, 3) := by decide +kernel
theorem d_Edg_pairPlaces_20 : decode b_Edg_pairPlaces 20 = .ok (.aload_n 0, 1) := by decide +kernel
theorem d_Edg_pairPlaces_21 : decode b_Edg_pairPlaces 21 = .ok (.getfield 9, 3) := by decide +kernel
theorem d_Edg_pairPlaces_24 : decode b_Edg_pairPlaces 24 = .ok (.iconst 2, 1) := by decide +kernel
theorem d_Edg_pairPlaces_25 : decode b_Edg_pairPlaces 25 = .ok (.iload_n 2, 1) := by decide +kernel
theorem d_Edg_pairPlaces_26 : decode b_Edg_pairPlaces 26 = .ok (.imul, 1) := by decide +kernel
theorem d_Edg_pairPlaces_27 : decode b_Edg_pairPlaces 27 = .ok (.iaload, 1) := by decide +kernel
theorem d_Edg_pairPlaces_28 : decode b_Edg_pairPlaces 28 = .ok (.istore_n 3, 1) := by decide +kernel
theorem d_Edg_pairPlaces_29 : decode b_Edg_pairPlaces 29 = .ok (.aload_n 0, 1) := by decide +kernel
theorem d_Edg_pairPlaces_30 : decode b_Edg_pairPlaces 30 = .ok (.getfield 9, 3) := by decide +kernel
theorem d_Edg_pairPlaces_33 : decode b_Edg_pairPlaces 33 = .ok (.iconst 2, 1) := by decide +kernel
theorem d_Edg_pairPlaces_34 : decode b_Edg_pairPlaces 34 = .ok (.iload_n 2, 1) := by decide +kernel
theorem d_Edg_pairPlaces_35 : decode b_Edg_pairPlaces 35 = .ok (.imul, 1) := by decide +kernel
theorem d_Edg_pairPlaces_36 : decode b_Edg_pairPlaces 36 = .ok (.iconst 1, 1) := by decide +kernel
theorem d_Edg_pairPlaces_37 : decode b_Edg_pairPlaces 37 = .ok (.iadd, 1) := by decide +kernel
theorem d_Edg_pairPlaces_38 : decode b_Edg_pairPlaces 38 = .ok (.iaload, 1) := by decide +kernel
theorem d_Edg_pairPlaces_39 : decode b_Edg_pairPlaces 39 = .ok (.istore 4, 2) := by decide +kernel
theorem d_Edg_pairPlaces_41 : decode b_Edg_pairPlaces 41 = .ok (.aload_n 1, 1) := by decide +kernel
theorem d_Edg_pairPlaces_42 : decode b_Edg_pairPlaces 42 = .ok (.iload_n 3, 1) := by decide +kernel
theorem d_Edg_pairPlaces_43 : decode b_Edg_pairPlaces 43 = .ok (.invokevirtual 46, 3) := by decide +kernel
theorem d_Edg_pairPlaces_46 : decode b_Edg_pairPlaces 46 = .ok (.istore 5, 2) := by decide +kernel
theorem d_Edg_pairPlaces_48 : decode b_Edg_pairPlaces 48 = .ok (.iload 5, 2) := by decide +kernel
theorem d_Edg_pairPlaces_50 : decode b_Edg_pairPlaces 50 = .ok (.aload_n 1, 1) := by decide +kernel
theorem d_Edg_pairPlaces_51 : decode b_Edg_pairPlaces 51 = .ok (.iload 4, 2) := by decide +kernel
theorem d_Edg_pairPlaces_53 : decode b_Edg_pairPlaces 53 = .ok (.invokevirtual 46, 3) := by decide +kernel
theorem d_Edg_pairPlaces_56 : decode b_Edg_pairPlaces 56 = .ok (.if_icmp .ne 5, 3) := by decide +kernel
theorem d_Edg_pairPlaces_59 : decode b_Edg_pairPlaces 59 = .ok (.iconst 0, 1) := by decide +kernel
theorem d_Edg_pairPlaces_60 : decode b_Edg_pairPlaces 60 = .ok (.ireturn, 1) := by decide +kernel
theorem d_Edg_pairPlaces_61 : decode b_Edg_pairPlaces 61 = .ok (.aload_n 0, 1) := by decide +kernel
theorem d_Edg_pairPlaces_62 : decode b_Edg_pairPlaces 62 = .ok (.getfield 18, 3) := by decide +kernel
theorem d_Edg_pairPlaces_65 : decode b_Edg_pairPlaces 65 = .ok (.iload_n 2, 1) := by decide +kernel
theorem d_Edg_pairPlaces_66 : decode b_Edg_pairPlaces 66 = .ok (.iload 5, 2) := by decide +kernel
theorem d_Edg_pairPlaces_68 : decode b_Edg_pairPlaces 68 = .ok (.ifCond .eq 8, 3) := by decide +kernel
theorem d_Edg_pairPlaces_71 : decode b_Edg_pairPlaces 71 = .ok (.iload 4, 2) := by decide +kernel
theorem d_Edg_pairPlaces_73 : decode b_Edg_pairPlaces 73 = .ok (.goto 4, 3) := by decide +kernel
theorem d_Edg_pairPlaces_76 : decode b_Edg_pairPlaces 76 = .ok (.iload_n 3, 1) := by decide +kernel
theorem d_Edg_pairPlaces_77 : decode b_Edg_pairPlaces 77 = .ok (.iastore, 1) := by decide +kernel
theorem d_Edg_pairPlaces_78 : decode b_Edg_pairPlaces 78 = .ok (.aload_n 0, 1) := by decide +kernel
theorem d_Edg_pairPlaces_79 : decode b_Edg_pairPlaces 79 = .ok (.getfield 21, 3) := by decide +kernel
theorem d_Edg_pairPlaces_82 : decode b_Edg_pairPlaces 82 = .ok (.iload_n 2, 1) := by decide +kernel
theorem d_Edg_pairPlaces_83 : decode b_Edg_pairPlaces 83 = .ok (.iload 5, 2) := by decide +kernel
theorem d_Edg_pairPlaces_85 : decode b_Edg_pairPlaces 85 = .ok (.ifCond .eq 7, 3) := by decide +kernel
theorem d_Edg_pairPlaces_88 : decode b_Edg_pairPlaces 88 = .ok (.iload_n 3, 1) := by decide +kernel
theorem d_Edg_pairPlaces_89 : decode b_Edg_pairPlaces 89 = .ok (.goto 5, 3) := by decide +kernel
theorem d_Edg_pairPlaces_92 : decode b_Edg_pairPlaces 92 = .ok (.iload 4, 2) := by decide +kernel
theorem d_Edg_pairPlaces_94 : decode b_Edg_pairPlaces 94 = .ok (.iastore, 1) := by decide +kernel
theorem d_Edg_pairPlaces_95 : decode b_Edg_pairPlaces 95 = .ok (.aload_n 0, 1) := by decide +kernel
theorem d_Edg_pairPlaces_96 : decode b_Edg_pairPlaces 96 = .ok (.getfield 15, 3) := by decide +kernel
theorem d_Edg_pairPlaces_99 : decode b_Edg_pairPlaces 99 = .ok (.iload_n 2, 1) := by decide +kernel
theorem d_Edg_pairPlaces_100 : decode b_Edg_pairPlaces 100 = .ok (.aload_n 1, 1) := by decide +kernel
theorem d_Edg_pairPlaces_101 : decode b_Edg_pairPlaces 101 = .ok (.getfield 44, 3) := by decide +kernel
theorem d_Edg_pairPlaces_104 : decode b_Edg_pairPlaces 104 = .ok (.iload_n 3, 1) := by decide +kernel
theorem d_Edg_pairPlaces_105 : decode b_Edg_pairPlaces 105 = .ok (.iaload, 1) := by decide +kernel
theorem d_Edg_pairPlaces_106 : decode b_Edg_pairPlaces 106 = .ok (.iastore, 1) := by decide +kernel
theorem d_Edg_pairPlaces_107 : decode b_Edg_pairPlaces 107 = .ok (.aload_n 0, 1) := by decide +kernel
theorem d_Edg_pairPlaces_108 : decode b_Edg_pairPlaces 108 = .ok (.getfield 24, 3) := by decide +kernel
theorem d_Edg_pairPlaces_111 : decode b_Edg_pairPlaces 111 = .ok (.iload_n 3, 1) := by decide +kernel
theorem d_Edg_pairPlaces_112 : decode b_Edg_pairPlaces 112 = .ok (.iload_n 2, 1) := by decide +kernel
theorem d_Edg_pairPlaces_113 : decode b_Edg_pairPlaces 113 = .ok (.iastore, 1) := by decide +kernel
theorem d_Edg_pairPlaces_114 : decode b_Edg_pairPlaces 114 = .ok (.aload_n 0, 1) := by decide +kernel
theorem d_Edg_pairPlaces_115 : decode b_Edg_pairPlaces 115 = .ok (.getfield 24, 3) := by decide +kernel
theorem d_Edg_pairPlaces_118 : decode b_Edg_pairPlaces 118 = .ok (.iload 4, 2) := by decide +kernel
theorem d_Edg_pairPlaces_120 : decode b_Edg_pairPlaces 120 = .ok (.iload_n 2, 1) := by decide +kernel
theorem d_Edg_pairPlaces_121 : decode b_Edg_pairPlaces 121 = .ok (.iastore, 1) := by decide +kernel
theorem d_Edg_pairPlaces_122 : decode b_Edg_pairPlaces 122 = .ok (.iinc 2 1, 3) := by decide +kernel
theorem d_Edg_pairPlaces_125 : decode b_Edg_pairPlaces 125 = .ok (.goto (-113), 3) := by decide +kernel
theorem d_Edg_pairPlaces_128 : decode b_Edg_pairPlaces 128 = .ok (.iconst 1, 1) := by decide +kernel
theorem d_Edg_pairPlaces_129 : decode b_Edg_pairPlaces 129 = .ok (.ireturn, 1) := by decide +kernel
theorem d_Edg_withLabel_0 : decode b_Edg_withLabel 0 = .ok (.iconst 0, 1) := by decide +kernel
theorem d_Edg_withLabel_1 : decode b_Edg_withLabel 1 = .ok (.istore_n 2, 1) := by decide +kernel
theorem d_Edg_withLabel_2 : decode b_Edg_withLabel 2 = .ok (.iload_n 2, 1) := by decide +kernel
theorem d_Edg_withLabel_3 : decode b_Edg_withLabel 3 = .ok (.aload_n 0, 1) := by decide +kernel
theorem d_Edg_withLabel_4 : decode b_Edg_withLabel 4 = .ok (.getfield 45, 3) := by decide +kernel
theorem d_Edg_withLabel_7 : decode b_Edg_withLabel 7 = .ok (.if_icmp .ge 21, 3) := by decide +kernel
theorem d_Edg_withLabel_10 : decode b_Edg_withLabel 10 = .ok (.aload_n 0, 1) := by decide +kernel
theorem d_Edg_withLabel_11 : decode b_Edg_withLabel 11 = .ok (.getfield 15, 3) := by decide +kernel
theorem d_Edg_withLabel_14 : decode b_Edg_withLabel 14 = .ok (.iload_n 2, 1) := by decide +kernel
theorem d_Edg_withLabel_15 : decode b_Edg_withLabel 15 = .ok (.iaload, 1) := by decide +kernel
theorem d_Edg_withLabel_16 : decode b_Edg_withLabel 16 = .ok (.iload_n 1, 1) := by decide +kernel
theorem d_Edg_withLabel_17 : decode b_Edg_withLabel 17 = .ok (.if_icmp .ne 5, 3) := by decide +kernel
theorem d_Edg_withLabel_20 : decode b_Edg_withLabel 20 = .ok (.iload_n 2, 1) := by decide +kernel
theorem d_Edg_withLabel_21 : decode b_Edg_withLabel 21 = .ok (.ireturn, 1) := by decide +kernel
theorem d_Edg_withLabel_22 : decode b_Edg_withLabel 22 = .ok (.iinc 2 1, 3) := by decide +kernel
theorem d_Edg_withLabel_25 : decode b_Edg_withLabel 25 = .ok (.goto (-23), 3) := by decide +kernel
theorem d_Edg_withLabel_28 : decode b_Edg_withLabel 28 = .ok (.iconst (-1), 1) := by decide +kernel
theorem d_Edg_withLabel_29 : decode b_Edg_withLabel 29 = .ok (.ireturn, 1) := by decide +kernel
theorem d_Edg_freeAfter_0 : decode b_Edg_freeAfter 0 = .ok (.iload_n 1, 1) := by decide +kernel
theorem d_Edg_freeAfter_1 : decode b_Edg_freeAfter 1 = .ok (.iconst 1, 1) := by decide +kernel
theorem d_Edg_freeAfter_2 : decode b_Edg_freeAfter 2 = .ok (.iadd, 1) := by decide +kernel
theorem d_Edg_freeAfter_3 : decode b_Edg_freeAfter 3 = .ok (.istore_n 2, 1) := by decide +kernel
theorem d_Edg_freeAfter_4 : decode b_Edg_freeAfter 4 = .ok (.iconst 0, 1) := by decide +kernel
theorem d_Edg_freeAfter_5 : decode b_Edg_freeAfter 5 = .ok (.istore_n 3, 1) := by decide +kernel
theorem d_Edg_freeAfter_6 : decode b_Edg_freeAfter 6 = .ok (.iload_n 3, 1) := by decide +kernel
theorem d_Edg_freeAfter_7 : decode b_Edg_freeAfter 7 = .ok (.aload_n 0, 1) := by decide +kernel
theorem d_Edg_freeAfter_8 : decode b_Edg_freeAfter 8 = .ok (.getfield 45, 3) := by decide +kernel
theorem d_Edg_freeAfter_11 : decode b_Edg_freeAfter 11 = .ok (.if_icmp .ge 22, 3) := by decide +kernel
theorem d_Edg_freeAfter_14 : decode b_Edg_freeAfter 14 = .ok (.aload_n 0, 1) := by decide +kernel
theorem d_Edg_freeAfter_15 : decode b_Edg_freeAfter 15 = .ok (.getfield 15, 3) := by decide +kernel
theorem d_Edg_freeAfter_18 : decode b_Edg_freeAfter 18 = .ok (.iload_n 3, 1) := by decide +kernel
theorem d_Edg_freeAfter_19 : decode b_Edg_freeAfter 19 = .ok (.iaload, 1) := by decide +kernel
theorem d_Edg_freeAfter_20 : decode b_Edg_freeAfter 20 = .ok (.iload_n 2, 1) := by decide +kernel
theorem d_Edg_freeAfter_21 : decode b_Edg_freeAfter 21 = .ok (.if_icmp .ne 6, 3) := by decide +kernel
theorem d_Edg_freeAfter_24 : decode b_Edg_freeAfter 24 = .ok (.iinc 2 1, 3) := by decide +kernel
theorem d_Edg_freeAfter_27 : decode b_Edg_freeAfter 27 = .ok (.iinc 3 1, 3) := by decide +kernel
theorem d_Edg_freeAfter_30 : decode b_Edg_freeAfter 30 = .ok (.goto (-24), 3) := by decide +kernel
theorem d_Edg_freeAfter_33 : decode b_Edg_freeAfter 33 = .ok (.iload_n 2, 1) := by decide +kernel
theorem d_Edg_freeAfter_34 : decode b_Edg_freeAfter 34 = .ok (.ireturn, 1) := by decide +kernel
theorem d_Edg_signedLabel_0 : decode b_Edg_signedLabel 0 = .ok (.aload_n 0, 1) := by decide +kernel
theorem d_Edg_signedLabel_1 : decode b_Edg_signedLabel 1 = .ok (.getfield 15, 3) := by decide +kernel
theorem d_Edg_signedLabel_4 : decode b_Edg_signedLabel 4 = .ok (.iload_n 1, 1) := by decide +kernel
theorem d_Edg_signedLabel_5 : decode b_Edg_signedLabel 5 = .ok (.iconst 1, 1) := by decide +kernel
theorem d_Edg_signedLabel_6 : decode b_Edg_signedLabel 6 = .ok (.ishr, 1) := by decide +kernel
theorem d_Edg_signedLabel_7 : decode b_Edg_signedLabel 7 = .ok (.iaload, 1) := by decide +kernel
theorem d_Edg_signedLabel_8 : decode b_Edg_signedLabel 8 = .ok (.istore_n 2, 1) := by decide +kernel
theorem d_Edg_signedLabel_9 : decode b_Edg_signedLabel 9 = .ok (.iload_n 1, 1) := by decide +kernel
theorem d_Edg_signedLabel_10 : decode b_Edg_signedLabel 10 = .ok (.iconst 1, 1) := by decide +kernel
theorem d_Edg_signedLabel_11 : decode b_Edg_signedLabel 11 = .ok (.iand, 1) := by decide +kernel
theorem d_Edg_signedLabel_12 : decode b_Edg_signedLabel 12 = .ok (.ifCond .ne 7, 3) := by decide +kernel
theorem d_Edg_signedLabel_15 : decode b_Edg_signedLabel 15 = .ok (.iload_n 2, 1) := by decide +kernel
theorem d_Edg_signedLabel_16 : decode b_Edg_signedLabel 16 = .ok (.goto 5, 3) := by decide +kernel
theorem d_Edg_signedLabel_19 : decode b_Edg_signedLabel 19 = .ok (.iload_n 2, 1) := by decide +kernel
theorem d_Edg_signedLabel_20 : decode b_Edg_signedLabel 20 = .ok (.ineg, 1) := by decide +kernel
theorem d_Edg_signedLabel_21 : decode b_Edg_signedLabel 21 = .ok (.ireturn, 1) := by decide +kernel
theorem d_Edg_arrival_0 : decode b_Edg_arrival 0 = .ok (.iload_n 1, 1) := by decide +kernel
theorem d_Edg_arrival_1 : decode b_Edg_arrival 1 = .ok (.iconst 1, 1) := by decide +kernel
theorem d_Edg_arrival_2 : decode b_Edg_arrival 2 = .ok (.iand, 1) := by decide +kernel
theorem d_Edg_arrival_3 : decode b_Edg_arrival 3 = .ok (.ifCond .ne 14, 3) := by decide +kernel
theorem d_Edg_arrival_6 : decode b_Edg_arrival 6 = .ok (.aload_n 0, 1) := by decide +kernel
theorem d_Edg_arrival_7 : decode b_Edg_arrival 7 = .ok (.getfield 21, 3) := by decide +kernel
theorem d_Edg_arrival_10 : decode b_Edg_arrival 10 = .ok (.iload_n 1, 1) := by decide +kernel
theorem d_Edg_arrival_11 : decode b_Edg_arrival 11 = .ok (.iconst 1, 1) := by decide +kernel
theorem d_Edg_arrival_12 : decode b_Edg_arrival 12 = .ok (.ishr, 1) := by decide +kernel
theorem d_Edg_arrival_13 : decode b_Edg_arrival 13 = .ok (.iaload, 1) := by decide +kernel
theorem d_Edg_arrival_14 : decode b_Edg_arrival 14 = .ok (.goto 11, 3) := by decide +kernel
theorem d_Edg_arrival_17 : decode b_Edg_arrival 17 = .ok (.aload_n 0, 1) := by decide +kernel
theorem d_Edg_arrival_18 : decode b_Edg_arrival 18 = .ok (.getfield 18, 3) := by decide +kernel
theorem d_Edg_arrival_21 : decode b_Edg_arrival 21 = .ok (.iload_n 1, 1) := by decide +kernel
theorem d_Edg_arrival_22 : decode b_Edg_arrival 22 = .ok (.iconst 1, 1) := by decide +kernel
theorem d_Edg_arrival_23 : decode b_Edg_arrival 23 = .ok (.ishr, 1) := by decide +kernel
theorem d_Edg_arrival_24 : decode b_Edg_arrival 24 = .ok (.iaload, 1) := by decide +kernel
theorem d_Edg_arrival_25 : decode b_Edg_arrival 25 = .ok (.ireturn, 1) := by decide +kernel
theorem d_Edg_dartLeaving_0 : decode b_Edg_dartLeaving 0 = .ok (.aload_n 0, 1) := by decide +kernel
theorem d_Edg_dartLeaving_1 : decode b_Edg_dartLeaving 1 = .ok (.getfield 24, 3) := by decide +kernel
theorem d_Edg_dartLeaving_4 : decode b_Edg_dartLeaving 4 = .ok (.iload_n 1, 1) := by decide +kernel
theorem d_Edg_dartLeaving_5 : decode b_Edg_dartLeaving 5 = .ok (.iaload, 1) := by decide +kernel
theorem d_Edg_dartLeaving_6 : decode b_Edg_dartLeaving 6 = .ok (.istore_n 2, 1) := by decide +kernel
theorem d_Edg_dartLeaving_7 : decode b_Edg_dartLeaving 7 = .ok (.aload_n 0, 1) := by decide +kernel
theorem d_Edg_dartLeaving_8 : decode b_Edg_dartLeaving 8 = .ok (.getfield 18, 3) := by decide +kernel
theorem d_Edg_dartLeaving_11 : decode b_Edg_dartLeaving 11 = .ok (.iload_n 2, 1) := by decide +kernel
theorem d_Edg_dartLeaving_12 : decode b_Edg_dartLeaving 12 = .ok (.iaload, 1) := by decide +kernel
theorem d_Edg_dartLeaving_13 : decode b_Edg_dartLeaving 13 = .ok (.iload_n 1, 1) := by decide +kernel
theorem d_Edg_dartLeaving_14 : decode b_Edg_dartLeaving 14 = .ok (.if_icmp .ne 9, 3) := by decide +kernel
theorem d_Edg_dartLeaving_17 : decode b_Edg_dartLeaving 17 = .ok (.iconst 2, 1) := by decide +kernel
theorem d_Edg_dartLeaving_18 : decode b_Edg_dartLeaving 18 = .ok (.iload_n 2, 1) := by decide +kernel
theorem d_Edg_dartLeaving_19 : decode b_Edg_dartLeaving 19 = .ok (.imul, 1) := by decide +kernel
theorem d_Edg_dartLeaving_20 : decode b_Edg_dartLeaving 20 = .ok (.goto 8, 3) := by decide +kernel
theorem d_Edg_dartLeaving_23 : decode b_Edg_dartLeaving 23 = .ok (.iconst 2, 1) := by decide +kernel
theorem d_Edg_dartLeaving_24 : decode b_Edg_dartLeaving 24 = .ok (.iload_n 2, 1) := by decide +kernel
theorem d_Edg_dartLeaving_25 : decode b_Edg_dartLeaving 25 = .ok (.imul, 1) := by decide +kernel
theorem d_Edg_dartLeaving_26 : decode b_Edg_dartLeaving 26 = .ok (.iconst 1, 1) := by decide +kernel
theorem d_Edg_dartLeaving_27 : decode b_Edg_dartLeaving 27 = .ok (.iadd, 1) := by decide +kernel
theorem d_Edg_dartLeaving_28 : decode b_Edg_dartLeaving 28 = .ok (.ireturn, 1) := by decide +kernel
theorem d_Edg_nextDart_0 : decode b_Edg_nextDart 0 = .ok (.aload_n 0, 1) := by decide +kernel
theorem d_Edg_nextDart_1 : decode b_Edg_nextDart 1 = .ok (.iload_n 1, 1) := by decide +kernel
theorem d_Edg_nextDart_2 : decode b_Edg_nextDart 2 = .ok (.invokevirtual 50, 3) := by decide +kernel
theorem d_Edg_nextDart_5 : decode b_Edg_nextDart 5 = .ok (.istore_n 2, 1) := by decide +kernel
theorem d_Edg_nextDart_6 : decode b_Edg_nextDart 6 = .ok (.iload_n 2, 1) := by decide +kernel
theorem d_Edg_nextDart_7 : decode b_Edg_nextDart 7 = .ok (.iconst 2, 1) := by decide +kernel
theorem d_Edg_nextDart_8 : decode b_Edg_nextDart 8 = .ok (.ishr, 1) := by decide +kernel
theorem d_Edg_nextDart_9 : decode b_Edg_nextDart 9 = .ok (.istore_n 3, 1) := by decide +kernel
theorem d_Edg_nextDart_10 : decode b_Edg_nextDart 10 = .ok (.aload_n 0, 1) := by decide +kernel
theorem d_Edg_nextDart_11 : decode b_Edg_nextDart 11 = .ok (.iconst 4, 1) := by decide +kernel
theorem d_Edg_nextDart_12 : decode b_Edg_nextDart 12 = .ok (.iload_n 3, 1) := by decide +kernel
theorem d_Edg_nextDart_13 : decode b_Edg_nextDart 13 = .ok (.imul, 1) := by decide +kernel
theorem d_Edg_nextDart_14 : decode b_Edg_nextDart 14 = .ok (.iload_n 2, 1) := by decide +kernel
theorem d_Edg_nextDart_15 : decode b_Edg_nextDart 15 = .ok (.iconst 3, 1) := by decide +kernel
theorem d_Edg_nextDart_16 : decode b_Edg_nextDart 16 = .ok (.iadd, 1) := by decide +kernel
theorem d_Edg_nextDart_17 : decode b_Edg_nextDart 17 = .ok (.iconst 3, 1) := by decide +kernel
theorem d_Edg_nextDart_18 : decode b_Edg_nextDart 18 = .ok (.iand, 1) := by decide +kernel
theorem d_Edg_nextDart_19 : decode b_Edg_nextDart 19 = .ok (.iadd, 1) := by decide +kernel
theorem d_Edg_nextDart_20 : decode b_Edg_nextDart 20 = .ok (.invokevirtual 54, 3) := by decide +kernel
theorem d_Edg_nextDart_23 : decode b_Edg_nextDart 23 = .ok (.ireturn, 1) := by decide +kernel
theorem d_Edg_upperEnds_0 : decode b_Edg_upperEnds 0 = .ok (.aload_n 0, 1) := by decide +kernel
theorem d_Edg_upperEnds_1 : decode b_Edg_upperEnds 1 = .ok (.getfield 18, 3) := by decide +kernel
theorem d_Edg_upperEnds_4 : decode b_Edg_upperEnds 4 = .ok (.iload_n 1, 1) := by decide +kernel
theorem d_Edg_upperEnds_5 : decode b_Edg_upperEnds 5 = .ok (.iaload, 1) := by decide +kernel
theorem d_Edg_upperEnds_6 : decode b_Edg_upperEnds 6 = .ok (.iconst 1, 1) := by decide +kernel
theorem d_Edg_upperEnds_7 : decode b_Edg_upperEnds 7 = .ok (.iand, 1) := by decide +kernel
theorem d_Edg_upperEnds_8 : decode b_Edg_upperEnds 8 = .ok (.aload_n 0, 1) := by decide +kernel
theorem d_Edg_upperEnds_9 : decode b_Edg_upperEnds 9 = .ok (.getfield 21, 3) := by decide +kernel
theorem d_Edg_upperEnds_12 : decode b_Edg_upperEnds 12 = .ok (.iload_n 1, 1) := by decide +kernel
theorem d_Edg_upperEnds_13 : decode b_Edg_upperEnds 13 = .ok (.iaload, 1) := by decide +kernel
theorem d_Edg_upperEnds_14 : decode b_Edg_upperEnds 14 = .ok (.iconst 1, 1) := by decide +kernel
theorem d_Edg_upperEnds_15 : decode b_Edg_upperEnds 15 = .ok (.iand, 1) := by decide +kernel
theorem d_Edg_upperEnds_16 : decode b_Edg_upperEnds 16 = .ok (.iadd, 1) := by decide +kernel
theorem d_Edg_upperEnds_17 : decode b_Edg_upperEnds 17 = .ok (.ireturn, 1) := by decide +kernel
end
section
theorem d_Fac_init_0 : decode b_Fac_init 0 = .ok (.aload_n 0, 1) := by decide +kernel
theorem d_Fac_init_1 : decode b_Fac_init 1 = .ok (.invokespecial 3, 3) := by decide +kernel
theorem d_Fac_init_4 : decode b_Fac_init 4 = .ok (.aload_n 0, 1) := by decide +kernel
theorem d_Fac_init_5 : decode b_Fac_init 5 = .ok (.bipush 80, 2) := by decide +kernel
theorem d_Fac_init_7 : decode b_Fac_init 7 = .ok (.newarray .int, 2) := by decide +kernel
theorem d_Fac_init_9 : decode b_Fac_init 9 = .ok (.putfield 9, 3) := by decide +kernel
theorem d_Fac_init_12 : decode b_Fac_init 12 = .ok (.aload_n 0, 1) := by decide +kernel
theorem d_Fac_init_13 : decode b_Fac_init 13 = .ok (.bipush 80, 2) := by decide +kernel
theorem d_Fac_init_15 : decode b_Fac_init 15 = .ok (.newarray .int, 2) := by decide +kernel
theorem d_Fac_init_17 : decode b_Fac_init 17 = .ok (.putfield 15, 3) := by decide +kernel
theorem d_Fac_init_20 : decode b_Fac_init 20 = .ok (.aload_n 0, 1) := by decide +kernel
theorem d_Fac_init_21 : decode b_Fac_init 21 = .ok (.bipush 81, 2) := by decide +kernel
theorem d_Fac_init_23 : decode b_Fac_init 23 = .ok (.newarray .int, 2) := by decide +kernel
theorem d_Fac_init_25 : decode b_Fac_init 25 = .ok (.putfield 18, 3) := by decide +kernel
theorem d_Fac_init_28 : decode b_Fac_init 28 = .ok (.return_, 1) := by decide +kernel
theorem d_Fac_find_0 : decode b_Fac_find 0 = .ok (.aload_n 0, 1) := by decide +kernel
theorem d_Fac_find_1 : decode b_Fac_find 1 = .ok (.getfield 9, 3) := by decide +kernel
theorem d_Fac_find_4 : decode b_Fac_find 4 = .ok (.iconst (-1), 1) := by decide +kernel
theorem d_Fac_find_5 : decode b_Fac_find 5 = .ok (.invokestatic 21, 3) := by decide +kernel
theorem d_Fac_find_8 : decode b_Fac_find 8 = .ok (.aload_n 0, 1) := by decide +kernel
theorem d_Fac_find_9 : decode b_Fac_find 9 = .ok (.iconst 0, 1) := by decide +kernel
theorem d_Fac_find_10 : decode b_Fac_find 10 = .ok (.putfield 27, 3) := by decide +kernel
theorem d_Fac_find_13 : decode b_Fac_find 13 = .ok (.iconst 0, 1) := by decide +kernel
theorem d_Fac_find_14 : decode b_Fac_find 14 = .ok (.istore_n 2, 1) := by decide +kernel
theorem d_Fac_find_15 : decode b_Fac_find 15 = .ok (.iload_n 2, 1) := by decide +kernel
theorem d_Fac_find_16 : decode b_Fac_find 16 = .ok (.iconst 2, 1) := by decide +kernel
theorem d_Fac_find_17 : decode b_Fac_find 17 = .ok (.aload_n 1, 1) := by decide +kernel
theorem d_Fac_find_18 : decode b_Fac_find 18 = .ok (.getfield 31, 3) := by decide +kernel
theorem d_Fac_find_21 : decode b_Fac_find 21 = .ok (.imul, 1) := by decide +kernel
theorem d_Fac_find_22 : decode b_Fac_find 22 = .ok (.if_icmp .ge 24, 3) := by decide +kernel
theorem d_Fac_find_25 : decode b_Fac_find 25 = .ok (.aload_n 0, 1) := by decide +kernel
theorem d_Fac_find_26 : decode b_Fac_find 26 = .ok (.getfield 9, 3) := by decide +kernel
theorem d_Fac_find_29 : decode b_Fac_find 29 = .ok (.iload_n 2, 1) := by decide +kernel
theorem d_Fac_find_30 : decode b_Fac_find 30 = .ok (.iaload, 1) := by decide +kernel
theorem d_Fac_find_31 : decode b_Fac_find 31 = .ok (.ifCond .ge 9, 3) := by decide +kernel
theorem d_Fac_find_34 : decode b_Fac_find 34 = .ok (.aload_n 0, 1) := by decide +kernel
theorem d_Fac_find_35 : decode b_Fac_find 35 = .ok (.aload_n 1, 1) := by decide +kernel
theorem d_Fac_find_36 : decode b_Fac_find 36 = .ok (.iload_n 2, 1) := by decide +kernel
theorem d_Fac_find_37 : decode b_Fac_find 37 = .ok (.invokevirtual 34, 3) := by decide +kernel
theorem d_Fac_find_40 : decode b_Fac_find 40 = .ok (.iinc 2 1, 3) := by decide +kernel
theorem d_Fac_find_43 : decode b_Fac_find 43 = .ok (.goto (-28), 3) := by decide +kernel
theorem d_Fac_find_46 : decode b_Fac_find 46 = .ok (.return_, 1) := by decide +kernel
theorem d_Fac_addRound_0 : decode b_Fac_addRound 0 = .ok (.aload_n 0, 1) := by decide +kernel
theorem d_Fac_addRound_1 : decode b_Fac_addRound 1 = .ok (.getfield 18, 3) := by decide +kernel
theorem d_Fac_addRound_4 : decode b_Fac_addRound 4 = .ok (.aload_n 0, 1) := by decide +kernel
theorem d_Fac_addRound_5 : decode b_Fac_addRound 5 = .ok (.getfield 27, 3) := by decide +kernel
theorem d_Fac_addRound_8 : decode b_Fac_addRound 8 = .ok (.iaload, 1) := by decide +kernel
theorem d_Fac_addRound_9 : decode b_Fac_addRound 9 = .ok (.istore_n 3, 1) := by decide +kernel
theorem d_Fac_addRound_10 : decode b_Fac_addRound 10 = .ok (.iload_n 2, 1) := by decide +kernel
theorem d_Fac_addRound_11 : decode b_Fac_addRound 11 = .ok (.istore 4, 2) := by decide +kernel
theorem d_Fac_addRound_13 : decode b_Fac_addRound 13 = .ok (.iload_n 3, 1) := by decide +kernel
theorem d_Fac_addRound_14 : decode b_Fac_addRound 14 = .ok (.bipush 80, 2) := by decide +kernel
theorem d_Fac_addRound_16 : decode b_Fac_addRound 16 = .ok (.if_icmp .ge 46, 3) := by decide +kernel
theorem d_Fac_addRound_19 : decode b_Fac_addRound 19 = .ok (.aload_n 0, 1) := by decide +kernel
theorem d_Fac_addRound_20 : decode b_Fac_addRound 20 = .ok (.getfield 9, 3) := by decide +kernel
theorem d_Fac_addRound_23 : decode b_Fac_addRound 23 = .ok (.iload 4, 2) := by decide +kernel
theorem d_Fac_addRound_25 : decode b_Fac_addRound 25 = .ok (.iaload, 1) := by decide +kernel
theorem d_Fac_addRound_26 : decode b_Fac_addRound 26 = .ok (.ifCond .ge 36, 3) := by decide +kernel
theorem d_Fac_addRound_29 : decode b_Fac_addRound 29 = .ok (.aload_n 0, 1) := by decide +kernel
theorem d_Fac_addRound_30 : decode b_Fac_addRound 30 = .ok (.getfield 9, 3) := by decide +kernel
theorem d_Fac_addRound_33 : decode b_Fac_addRound 33 = .ok (.iload 4, 2) := by decide +kernel
theorem d_Fac_addRound_35 : decode b_Fac_addRound 35 = .ok (.aload_n 0, 1) := by decide +kernel
theorem d_Fac_addRound_36 : decode b_Fac_addRound 36 = .ok (.getfield 27, 3) := by decide +kernel
theorem d_Fac_addRound_39 : decode b_Fac_addRound 39 = .ok (.iastore, 1) := by decide +kernel
theorem d_Fac_addRound_40 : decode b_Fac_addRound 40 = .ok (.aload_n 0, 1) := by decide +kernel
theorem d_Fac_addRound_41 : decode b_Fac_addRound 41 = .ok (.getfield 15, 3) := by decide +kernel
theorem d_Fac_addRound_44 : decode b_Fac_addRound 44 = .ok (.iload_n 3, 1) := by decide +kernel
theorem d_Fac_addRound_45 : decode b_Fac_addRound 45 = .ok (.iload 4, 2) := by decide +kernel
theorem d_Fac_addRound_47 : decode b_Fac_addRound 47 = .ok (.iastore, 1) := by decide +kernel
theorem d_Fac_addRound_48 : decode b_Fac_addRound 48 = .ok (.aload_n 1, 1) := by decide +kernel
theorem d_Fac_addRound_49 : decode b_Fac_addRound 49 = .ok (.iload 4, 2) := by decide +kernel
theorem d_Fac_addRound_51 : decode b_Fac_addRound 51 = .ok (.invokevirtual 38, 3) := by decide +kernel
theorem d_Fac_addRound_54 : decode b_Fac_addRound 54 = .ok (.istore 4, 2) := by decide +kernel
theorem d_Fac_addRound_56 : decode b_Fac_addRound 56 = .ok (.iinc 3 1, 3) := by decide +kernel
theorem d_Fac_addRound_59 : decode b_Fac_addRound 59 = .ok (.goto (-46), 3) := by decide +kernel
theorem d_Fac_addRound_62 : decode b_Fac_addRound 62 = .ok (.aload_n 0, 1) := by decide +kernel
theorem d_Fac_addRound_63 : decode b_Fac_addRound 63 = .ok (.dup, 1) := by decide +kernel
theorem d_Fac_addRound_64 : decode b_Fac_addRound 64 = .ok (.getfield 27, 3) := by decide +kernel
theorem d_Fac_addRound_67 : decode b_Fac_addRound 67 = .ok (.iconst 1, 1) := by decide +kernel
theorem d_Fac_addRound_68 : decode b_Fac_addRound 68 = .ok (.iadd, 1) := by decide +kernel
theorem d_Fac_addRound_69 : decode b_Fac_addRound 69 = .ok (.putfield 27, 3) := by decide +kernel
theorem d_Fac_addRound_72 : decode b_Fac_addRound 72 = .ok (.aload_n 0, 1) := by decide +kernel
theorem d_Fac_addRound_73 : decode b_Fac_addRound 73 = .ok (.getfield 18, 3) := by decide +kernel
theorem d_Fac_addRound_76 : decode b_Fac_addRound 76 = .ok (.aload_n 0, 1) := by decide +kernel
theorem d_Fac_addRound_77 : decode b_Fac_addRound 77 = .ok (.getfield 27, 3) := by decide +kernel
theorem d_Fac_addRound_80 : decode b_Fac_addRound 80 = .ok (.iload_n 3, 1) := by decide +kernel
theorem d_Fac_addRound_81 : decode b_Fac_addRound 81 = .ok (.iastore, 1) := by decide +kernel
theorem d_Fac_addRound_82 : decode b_Fac_addRound 82 = .ok (.return_, 1) := by decide +kernel
theorem d_Fac_has_0 : decode b_Fac_has 0 = .ok (.iload_n 1, 1) := by decide +kernel
theorem d_Fac_has_1 : decode b_Fac_has 1 = .ok (.ifCond .lt 15, 3) := by decide +kernel
theorem d_Fac_has_4 : decode b_Fac_has 4 = .ok (.iload_n 1, 1) := by decide +kernel
theorem d_Fac_has_5 : decode b_Fac_has 5 = .ok (.aload_n 0, 1) := by decide +kernel
theorem d_Fac_has_6 : decode b_Fac_has 6 = .ok (.getfield 27, 3) := by decide +kernel
theorem d_Fac_has_9 : decode b_Fac_has 9 = .ok (.if_icmp .ge 7, 3) := by decide +kernel
theorem d_Fac_has_12 : decode b_Fac_has 12 = .ok (.iconst 1, 1) := by decide +kernel
theorem d_Fac_has_13 : decode b_Fac_has 13 = .ok (.goto 4, 3) := by decide +kernel
theorem d_Fac_has_16 : decode b_Fac_has 16 = .ok (.iconst 0, 1) := by decide +kernel
theorem d_Fac_has_17 : decode b_Fac_has 17 = .ok (.ireturn, 1) := by decide +kernel
theorem d_Fac_size_0 : decode b_Fac_size 0 = .ok (.aload_n 0, 1) := by decide +kernel
theorem d_Fac_size_1 : decode b_Fac_size 1 = .ok (.getfield 18, 3) := by decide +kernel
theorem d_Fac_size_4 : decode b_Fac_size 4 = .ok (.iload_n 1, 1) := by decide +kernel
theorem d_Fac_size_5 : decode b_Fac_size 5 = .ok (.iconst 1, 1) := by decide +kernel
theorem d_Fac_size_6 : decode b_Fac_size 6 = .ok (.iadd, 1) := by decide +kernel
theorem d_Fac_size_7 : decode b_Fac_size 7 = .ok (.iaload, 1) := by decide +kernel
theorem d_Fac_size_8 : decode b_Fac_size 8 = .ok (.aload_n 0, 1) := by decide +kernel
theorem d_Fac_size_9 : decode b_Fac_size 9 = .ok (.getfield 18, 3) := by decide +kernel
theorem d_Fac_size_12 : decode b_Fac_size 12 = .ok (.iload_n 1, 1) := by decide +kernel
theorem d_Fac_size_13 : decode b_Fac_size 13 = .ok (.iaload, 1) := by decide +kernel
theorem d_Fac_size_14 : decode b_Fac_size 14 = .ok (.isub, 1) := by decide +kernel
theorem d_Fac_size_15 : decode b_Fac_size 15 = .ok (.ireturn, 1) := by decide +kernel
theorem d_Fac_dart_0 : decode b_Fac_dart 0 = .ok (.aload_n 0, 1) := by decide +kernel
theorem d_Fac_dart_1 : decode b_Fac_dart 1 = .ok (.getfield 15, 3) := by decide +kernel
theorem d_Fac_dart_4 : decode b_Fac_dart 4 = .ok (.aload_n 0, 1) := by decide +kernel
theorem d_Fac_dart_5 : decode b_Fac_dart 5 = .ok (.getfield 18, 3) := by decide +kernel
theorem d_Fac_dart_8 : decode b_Fac_dart 8 = .ok (.iload_n 1, 1) := by decide +kernel
theorem d_Fac_dart_9 : decode b_Fac_dart 9 = .ok (.iaload, 1) := by decide +kernel
theorem d_Fac_dart_10 : decode b_Fac_dart 10 = .ok (.iload_n 2, 1) := by decide +kernel
theorem d_Fac_dart_11 : decode b_Fac_dart 11 = .ok (.iadd, 1) := by decide +kernel
theorem d_Fac_dart_12 : decode b_Fac_dart 12 = .ok (.iaload, 1) := by decide +kernel
theorem d_Fac_dart_13 : decode b_Fac_dart 13 = .ok (.ireturn, 1) := by decide +kernel
theorem d_Pie_init_0 : decode b_Pie_init 0 = .ok (.aload_n 0, 1) := by decide +kernel
theorem d_Pie_init_1 : decode b_Pie_init 1 = .ok (.invokespecial 3, 3) := by decide +kernel
theorem d_Pie_init_4 : decode b_Pie_init 4 = .ok (.aload_n 0, 1) := by decide +kernel
theorem d_Pie_init_5 : decode b_Pie_init 5 = .ok (.bipush 20, 2) := by decide +kernel
theorem d_Pie_init_7 : decode b_Pie_init 7 = .ok (.newarray .int, 2) := by decide +kernel
theorem d_Pie_init_9 : decode b_Pie_init 9 = .ok (.putfield 9, 3) := by decide +kernel
theorem d_Pie_init_12 : decode b_Pie_init 12 = .ok (.aload_n 0, 1) := by decide +kernel
theorem d_Pie_init_13 : decode b_Pie_init 13 = .ok (.bipush 40, 2) := by decide +kernel
theorem d_Pie_init_15 : decode b_Pie_init 15 = .ok (.newarray .int, 2) := by decide +kernel
theorem d_Pie_init_17 : decode b_Pie_init 17 = .ok (.putfield 15, 3) := by decide +kernel
theorem d_Pie_init_20 : decode b_Pie_init 20 = .ok (.return_, 1) := by decide +kernel
theorem d_Pie_find_0 : decode b_Pie_find 0 = .ok (.aload_n 0, 1) := by decide +kernel
theorem d_Pie_find_1 : decode b_Pie_find 1 = .ok (.iload_n 1, 1) := by decide +kernel
theorem d_Pie_find_2 : decode b_Pie_find 2 = .ok (.aload_n 2, 1) := by decide +kernel
theorem d_Pie_find_3 : decode b_Pie_find 3 = .ok (.invokevirtual 18, 3) := by decide +kernel
theorem d_Pie_find_6 : decode b_Pie_find 6 = .ok (.aload_n 0, 1) := by decide +kernel
theorem d_Pie_find_7 : decode b_Pie_find 7 = .ok (.aload_n 2, 1) := by decide +kernel
theorem d_Pie_find_8 : decode b_Pie_find 8 = .ok (.invokevirtual 22, 3) := by decide +kernel
theorem d_Pie_find_11 : decode b_Pie_find 11 = .ok (.return_, 1) := by decide +kernel
theorem d_Pie_findPieces_0 : decode b_Pie_findPieces 0 = .ok (.iconst 0, 1) := by decide +kernel
theorem d_Pie_findPieces_1 : decode b_Pie_findPieces 1 = .ok (.istore_n 3, 1) := by decide +kernel
theorem d_Pie_findPieces_2 : decode b_Pie_findPieces 2 = .ok (.iload_n 3, 1) := by decide +kernel
theorem d_Pie_findPieces_3 : decode b_Pie_findPieces 3 = .ok (.iload_n 1, 1) := by decide +kernel
theorem d_Pie_findPieces_4 : decode b_Pie_findPieces 4 = .ok (.if_icmp .ge 16, 3) := by decide +kernel
theorem d_Pie_findPieces_7 : decode b_Pie_findPieces 7 = .ok (.aload_n 0, 1) := by decide +kernel
theorem d_Pie_findPieces_8 : decode b_Pie_findPieces 8 = .ok (.getfield 9, 3) := by decide +kernel
theorem d_Pie_findPieces_11 : decode b_Pie_findPieces 11 = .ok (.iload_n 3, 1) := by decide +kernel
theorem d_Pie_findPieces_12 : decode b_Pie_findPieces 12 = .ok (.iload_n 3, 1) := by decide +kernel
theorem d_Pie_findPieces_13 : decode b_Pie_findPieces 13 = .ok (.iastore, 1) := by decide +kernel
theorem d_Pie_findPieces_14 : decode b_Pie_findPieces 14 = .ok (.iinc 3 1, 3) := by decide +kernel
theorem d_Pie_findPieces_17 : decode b_Pie_findPieces 17 = .ok (.goto (-15), 3) := by decide +kernel
theorem d_Pie_findPieces_20 : decode b_Pie_findPieces 20 = .ok (.aload_n 0, 1) := by decide +kernel
theorem d_Pie_findPieces_21 : decode b_Pie_findPieces 21 = .ok (.iload_n 1, 1) := by decide +kernel
theorem d_Pie_findPieces_22 : decode b_Pie_findPieces 22 = .ok (.putfield 26, 3) := by decide +kernel
theorem d_Pie_findPieces_25 : decode b_Pie_findPieces 25 = .ok (.iconst 0, 1) := by decide +kernel
theorem d_Pie_findPieces_26 : decode b_Pie_findPieces 26 = .ok (.istore_n 3, 1) := by decide +kernel
theorem d_Pie_findPieces_27 : decode b_Pie_findPieces 27 = .ok (.iload_n 3, 1) := by decide +kernel
theorem d_Pie_findPieces_28 : decode b_Pie_findPieces 28 = .ok (.aload_n 2, 1) := by decide +kernel
theorem d_Pie_findPieces_29 : decode b_Pie_findPieces 29 = .ok (.getfield 30, 3) := by decide +kernel
theorem d_Pie_findPieces_32 : decode b_Pie_findPieces 32 = .ok (.if_icmp .ge 40, 3) := by decide +kernel
theorem d_Pie_findPieces_35 : decode b_Pie_findPieces 35 = .ok (.aload_n 0, 1) := by decide +kernel
theorem d_Pie_findPieces_36 : decode b_Pie_findPieces 36 = .ok (.aload_n 0, 1) := by decide +kernel
theorem d_Pie_findPieces_37 : decode b_Pie_findPieces 37 = .ok (.getfield 9, 3) := by decide +kernel
theorem d_Pie_findPieces_40 : decode b_Pie_findPieces 40 = .ok (.aload_n 2, 1) := by decide +kernel
theorem d_Pie_findPieces_41 : decode b_Pie_findPieces 41 = .ok (.getfield 33, 3) := by decide +kernel
theorem d_Pie_findPieces_44 : decode b_Pie_findPieces 44 = .ok (.iload_n 3, 1) := by decide +kernel
theorem d_Pie_findPieces_45 : decode b_Pie_findPieces 45 = .ok (.iaload, 1) := by decide +kernel
theorem d_Pie_findPieces_46 : decode b_Pie_findPieces 46 = .ok (.iconst 2, 1) := by decide +kernel
theorem d_Pie_findPieces_47 : decode b_Pie_findPieces 47 = .ok (.ishr, 1) := by decide +kernel
theorem d_Pie_findPieces_48 : decode b_Pie_findPieces 48 = .ok (.iaload, 1) := by decide +kernel
theorem d_Pie_findPieces_49 : decode b_Pie_findPieces 49 = .ok (.aload_n 0, 1) := by decide +kernel
theorem d_Pie_findPieces_50 : decode b_Pie_findPieces 50 = .ok (.getfield 9, 3) := by decide +kernel
theorem d_Pie_findPieces_53 : decode b_Pie_findPieces 53 = .ok (.aload_n 2, 1) := by decide +kernel
theorem d_Pie_findPieces_54 : decode b_Pie_findPieces 54 = .ok (.getfield 36, 3) := by decide +kernel
theorem d_Pie_findPieces_57 : decode b_Pie_findPieces 57 = .ok (.iload_n 3, 1) := by decide +kernel
theorem d_Pie_findPieces_58 : decode b_Pie_findPieces 58 = .ok (.iaload, 1) := by decide +kernel
theorem d_Pie_findPieces_59 : decode b_Pie_findPieces 59 = .ok (.iconst 2, 1) := by decide +kernel
theorem d_Pie_findPieces_60 : decode b_Pie_findPieces 60 = .ok (.ishr, 1) := by decide +kernel
theorem d_Pie_findPieces_61 : decode b_Pie_findPieces 61 = .ok (.iaload, 1) := by decide +kernel
theorem d_Pie_findPieces_62 : decode b_Pie_findPieces 62 = .ok (.iload_n 1, 1) := by decide +kernel
theorem d_Pie_findPieces_63 : decode b_Pie_findPieces 63 = .ok (.invokevirtual 39, 3) := by decide +kernel
theorem d_Pie_findPieces_66 : decode b_Pie_findPieces 66 = .ok (.iinc 3 1, 3) := by decide +kernel
theorem d_Pie_findPieces_69 : decode b_Pie_findPieces 69 = .ok (.goto (-42), 3) := by decide +kernel
theorem d_Pie_findPieces_72 : decode b_Pie_findPieces 72 = .ok (.return_, 1) := by decide +kernel
theorem d_Pie_unite_0 : decode b_Pie_unite 0 = .ok (.iload_n 1, 1) := by decide +kernel
theorem d_Pie_unite_1 : decode b_Pie_unite 1 = .ok (.iload_n 2, 1) := by decide +kernel
theorem d_Pie_unite_2 : decode b_Pie_unite 2 = .ok (.if_icmp .ne 4, 3) := by decide +kernel
theorem d_Pie_unite_5 : decode b_Pie_unite 5 = .ok (.return_, 1) := by decide +kernel
theorem d_Pie_unite_6 : decode b_Pie_unite 6 = .ok (.iload_n 1, 1) := by decide +kernel
theorem d_Pie_unite_7 : decode b_Pie_unite 7 = .ok (.iload_n 2, 1) := by decide +kernel
theorem d_Pie_unite_8 : decode b_Pie_unite 8 = .ok (.invokestatic 43, 3) := by decide +kernel
theorem d_Pie_unite_11 : decode b_Pie_unite 11 = .ok (.istore 4, 2) := by decide +kernel
theorem d_Pie_unite_13 : decode b_Pie_unite 13 = .ok (.iload_n 1, 1) := by decide +kernel
theorem d_Pie_unite_14 : decode b_Pie_unite 14 = .ok (.iload_n 2, 1) := by decide +kernel
theorem d_Pie_unite_15 : decode b_Pie_unite 15 = .ok (.invokestatic 49, 3) := by decide +kernel
theorem d_Pie_unite_18 : decode b_Pie_unite 18 = .ok (.istore 5, 2) := by decide +kernel
theorem d_Pie_unite_20 : decode b_Pie_unite 20 = .ok (.iload 5, 2) := by decide +kernel
theorem d_Pie_unite_22 : decode b_Pie_unite 22 = .ok (.istore 6, 2) := by decide +kernel
theorem d_Pie_unite_24 : decode b_Pie_unite 24 = .ok (.iload 6, 2) := by decide +kernel
theorem d_Pie_unite_26 : decode b_Pie_unite 26 = .ok (.iload_n 3, 1) := by decide +kernel
theorem d_Pie_unite_27 : decode b_Pie_unite 27 = .ok (.if_icmp .ge 30, 3) := by decide +kernel
theorem d_Pie_unite_30 : decode b_Pie_unite 30 = .ok (.aload_n 0, 1) := by decide +kernel
theorem d_Pie_unite_31 : decode b_Pie_unite 31 = .ok (.getfield 9, 3) := by decide +kernel
theorem d_Pie_unite_34 : decode b_Pie_unite 34 = .ok (.iload 6, 2) := by decide +kernel
theorem d_Pie_unite_36 : decode b_Pie_unite 36 = .ok (.iaload, 1) := by decide +kernel
theorem d_Pie_unite_37 : decode b_Pie_unite 37 = .ok (.iload 5, 2) := by decide +kernel
theorem d_Pie_unite_39 : decode b_Pie_unite 39 = .ok (.if_icmp .ne 12, 3) := by decide +kernel
theorem d_Pie_unite_42 : decode b_Pie_unite 42 = .ok (.aload_n 0, 1) := by decide +kernel
theorem d_Pie_unite_43 : decode b_Pie_unite 43 = .ok (.getfield 9, 3) := by decide +kernel
theorem d_Pie_unite_46 : decode b_Pie_unite 46 = .ok (.iload 6, 2) := by decide +kernel
theorem d_Pie_unite_48 : decode b_Pie_unite 48 = .ok (.iload 4, 2) := by decide +kernel
theorem d_Pie_unite_50 : decode b_Pie_unite 50 = .ok (.iastore, 1) := by decide +kernel
theorem d_Pie_unite_51 : decode b_Pie_unite 51 = .ok (.iinc 6 1, 3) := by decide +kernel
theorem d_Pie_unite_54 : decode b_Pie_unite 54 = .ok (.goto (-30), 3) := by decide +kernel
theorem d_Pie_unite_57 : decode b_Pie_unite 57 = .ok (.aload_n 0, 1) := by decide +kernel
theorem d_Pie_unite_58 : decode b_Pie_unite 58 = .ok (.dup, 1) := by decide +kernel
theorem d_Pie_unite_59 : decode b_Pie_unite 59 = .ok (.getfield 26, 3) := by decide +kernel
theorem d_Pie_unite_62 : decode b_Pie_unite 62 = .ok (.iconst 1, 1) := by decide +kernel
theorem d_Pie_unite_63 : decode b_Pie_unite 63 = .ok (.isub, 1) := by decide +kernel
theorem d_Pie_unite_64 : decode b_Pie_unite 64 = .ok (.putfield 26, 3) := by decide +kernel
theorem d_Pie_unite_67 : decode b_Pie_unite 67 = .ok (.return_, 1) := by decide +kernel
theorem d_Pie_countComponents_0 : decode b_Pie_countComponents 0 = .ok (.aload_n 0, 1) := by decide +kernel
theorem d_Pie_countComponents_1 : decode b_Pie_countComponents 1 = .ok (.getfield 15, 3) := by decide +kernel
theorem d_Pie_countComponents_4 : decode b_Pie_countComponents 4 = .ok (.iconst (-1), 1) := by decide +kernel
theorem d_Pie_countComponents_5 : decode b_Pie_countComponents 5 = .ok (.invokestatic 52, 3) := by decide +kernel
theorem d_Pie_countComponents_8 : decode b_Pie_countComponents 8 = .ok (.aload_n 0, 1) := by decide +kernel
theorem d_Pie_countComponents_9 : decode b_Pie_countComponents 9 = .ok (.iconst 0, 1) := by decide +kernel
theorem d_Pie_countComponents_10 : decode b_Pie_countComponents 10 = .ok (.putfield 58, 3) := by decide +kernel
theorem d_Pie_countComponents_13 : decode b_Pie_countComponents 13 = .ok (.iconst 0, 1) := by decide +kernel
theorem d_Pie_countComponents_14 : decode b_Pie_countComponents 14 = .ok (.istore_n 2, 1) := by decide +kernel
theorem d_Pie_countComponents_15 : decode b_Pie_countComponents 15 = .ok (.iload_n 2, 1) := by decide +kernel
theorem d_Pie_countComponents_16 : decode b_Pie_countComponents 16 = .ok (.aload_n 1, 1) := by decide +kernel
theorem d_Pie_countComponents_17 : decode b_Pie_countComponents 17 = .ok (.getfield 30, 3) := by decide +kernel
theorem d_Pie_countComponents_20 : decode b_Pie_countComponents 20 = .ok (.if_icmp .ge 34, 3) := by decide +kernel
theorem d_Pie_countComponents_23 : decode b_Pie_countComponents 23 = .ok (.aload_n 0, 1) := by decide +kernel
theorem d_Pie_countComponents_24 : decode b_Pie_countComponents 24 = .ok (.getfield 15, 3) := by decide +kernel
theorem d_Pie_countComponents_27 : decode b_Pie_countComponents 27 = .ok (.iload_n 2, 1) := by decide +kernel
theorem d_Pie_countComponents_28 : decode b_Pie_countComponents 28 = .ok (.iaload, 1) := by decide +kernel
theorem d_Pie_countComponents_29 : decode b_Pie_countComponents 29 = .ok (.ifCond .ge 19, 3) := by decide +kernel
theorem d_Pie_countComponents_32 : decode b_Pie_countComponents 32 = .ok (.aload_n 0, 1) := by decide +kernel
theorem d_Pie_countComponents_33 : decode b_Pie_countComponents 33 = .ok (.aload_n 1, 1) := by decide +kernel
theorem d_Pie_countComponents_34 : decode b_Pie_countComponents 34 = .ok (.iload_n 2, 1) := by decide +kernel
theorem d_Pie_countComponents_35 : decode b_Pie_countComponents 35 = .ok (.invokevirtual 61, 3) := by decide +kernel
theorem d_Pie_countComponents_38 : decode b_Pie_countComponents 38 = .ok (.aload_n 0, 1) := by decide +kernel
theorem d_Pie_countComponents_39 : decode b_Pie_countComponents 39 = .ok (.dup, 1) := by decide +kernel
theorem d_Pie_countComponents_40 : decode b_Pie_countComponents 40 = .ok (.getfield 58, 3) := by decide +kernel
theorem d_Pie_countComponents_43 : decode b_Pie_countComponents 43 = .ok (.iconst 1, 1) := by decide +kernel
theorem d_Pie_countComponents_44 : decode b_Pie_countComponents 44 = .ok (.iadd, 1) := by decide +kernel
theorem d_Pie_countComponents_45 : decode b_Pie_countComponents 45 = .ok (.putfield 58, 3) := by decide +kernel
theorem d_Pie_countComponents_48 : decode b_Pie_countComponents 48 = .ok (.iinc 2 1, 3) := by decide +kernel
theorem d_Pie_countComponents_51 : decode b_Pie_countComponents 51 = .ok (.goto (-36), 3) := by decide +kernel
theorem d_Pie_countComponents_54 : decode b_Pie_countComponents 54 = .ok (.return_, 1) := by decide +kernel
theorem d_Pie_followComponent_0 : decode b_Pie_followComponent 0 = .ok (.iload_n 2, 1) := by decide +kernel
theorem d_Pie_followComponent_1 : decode b_Pie_followComponent 1 = .ok (.istore_n 3, 1) := by decide +kernel
theorem d_Pie_followComponent_2 : decode b_Pie_followComponent 2 = .ok (.iconst 0, 1) := by decide +kernel
theorem d_Pie_followComponent_3 : decode b_Pie_followComponent 3 = .ok (.istore 4, 2) := by decide +kernel
theorem d_Pie_followComponent_5 : decode b_Pie_followComponent 5 = .ok (.iload 4, 2) := by decide +kernel
theorem d_Pie_followComponent_7 : decode b_Pie_followComponent 7 = .ok (.bipush 40, 2) := by decide +kernel
theorem d_Pie_followComponent_9 : decode b_Pie_followComponent 9 = .ok (.if_icmp .ge 42, 3) := by decide +kernel
theorem d_Pie_followComponent_12 : decode b_Pie_followComponent 12 = .ok (.aload_n 0, 1) := by decide +kernel
theorem d_Pie_followComponent_13 : decode b_Pie_followComponent 13 = .ok (.getfield 15, 3) := by decide +kernel
theorem d_Pie_followComponent_16 : decode b_Pie_followComponent 16 = .ok (.iload_n 3, 1) := by decide +kernel
theorem d_Pie_followComponent_17 : decode b_Pie_followComponent 17 = .ok (.iaload, 1) := by decide +kernel
theorem d_Pie_followComponent_18 : decode b_Pie_followComponent 18 = .ok (.ifCond .ge 33, 3) := by decide +kernel
theorem d_Pie_followComponent_21 : decode b_Pie_followComponent 21 = .ok (.aload_n 0, 1) := by decide +kernel
theorem d_Pie_followComponent_22 : decode b_Pie_followComponent 22 = .ok (.getfield 15, 3) := by decide +kernel
theorem d_Pie_followComponent_25 : decode b_Pie_followComponent 25 = .ok (.iload_n 3, 1) := by decide +kernel
theorem d_Pie_followComponent_26 : decode b_Pie_followComponent 26 = .ok (.aload_n 0, 1) := by decide +kernel
theorem d_Pie_followComponent_27 : decode b_Pie_followComponent 27 = .ok (.getfield 58, 3) := by decide +kernel
theorem d_Pie_followComponent_30 : decode b_Pie_followComponent 30 = .ok (.iastore, 1) := by decide +kernel
theorem d_Pie_followComponent_31 : decode b_Pie_followComponent 31 = .ok (.aload_n 1, 1) := by decide +kernel
theorem d_Pie_followComponent_32 : decode b_Pie_followComponent 32 = .ok (.getfield 65, 3) := by decide +kernel
theorem d_Pie_followComponent_35 : decode b_Pie_followComponent 35 = .ok (.aload_n 1, 1) := by decide +kernel
theorem d_Pie_followComponent_36 : decode b_Pie_followComponent 36 = .ok (.getfield 36, 3) := by decide +kernel
theorem d_Pie_followComponent_39 : decode b_Pie_followComponent 39 = .ok (.iload_n 3, 1) := by decide +kernel
theorem d_Pie_followComponent_40 : decode b_Pie_followComponent 40 = .ok (.iaload, 1) := by decide +kernel
theorem d_Pie_followComponent_41 : decode b_Pie_followComponent 41 = .ok (.iconst 2, 1) := by decide +kernel
theorem d_Pie_followComponent_42 : decode b_Pie_followComponent 42 = .ok (.ixor, 1) := by decide +kernel
theorem d_Pie_followComponent_43 : decode b_Pie_followComponent 43 = .ok (.iaload, 1) := by decide +kernel
theorem d_Pie_followComponent_44 : decode b_Pie_followComponent 44 = .ok (.istore_n 3, 1) := by decide +kernel
theorem d_Pie_followComponent_45 : decode b_Pie_followComponent 45 = .ok (.iinc 4 1, 3) := by decide +kernel
theorem d_Pie_followComponent_48 : decode b_Pie_followComponent 48 = .ok (.goto (-43), 3) := by decide +kernel
theorem d_Pie_followComponent_51 : decode b_Pie_followComponent 51 = .ok (.return_, 1) := by decide +kernel
end
section
theorem d_Dia_init_0 : decode b_Dia_init 0 = .ok (.aload_n 0, 1) := by decide +kernel
theorem d_Dia_init_1 : decode b_Dia_init 1 = .ok (.invokespecial 3, 3) := by decide +kernel
theorem d_Dia_init_4 : decode b_Dia_init 4 = .ok (.aload_n 0, 1) := by decide +kernel
theorem d_Dia_init_5 : decode b_Dia_init 5 = .ok (.new 9, 3) := by decide +kernel
theorem d_Dia_init_8 : decode b_Dia_init 8 = .ok (.dup, 1) := by decide +kernel
theorem d_Dia_init_9 : decode b_Dia_init 9 = .ok (.invokespecial 11, 3) := by decide +kernel
theorem d_Dia_init_12 : decode b_Dia_init 12 = .ok (.putfield 12, 3) := by decide +kernel
theorem d_Dia_init_15 : decode b_Dia_init 15 = .ok (.aload_n 0, 1) := by decide +kernel
theorem d_Dia_init_16 : decode b_Dia_init 16 = .ok (.new 18, 3) := by decide +kernel
theorem d_Dia_init_19 : decode b_Dia_init 19 = .ok (.dup, 1) := by decide +kernel
theorem d_Dia_init_20 : decode b_Dia_init 20 = .ok (.invokespecial 20, 3) := by decide +kernel
theorem d_Dia_init_23 : decode b_Dia_init 23 = .ok (.putfield 21, 3) := by decide +kernel
theorem d_Dia_init_26 : decode b_Dia_init 26 = .ok (.aload_n 0, 1) := by decide +kernel
theorem d_Dia_init_27 : decode b_Dia_init 27 = .ok (.new 25, 3) := by decide +kernel
theorem d_Dia_init_30 : decode b_Dia_init 30 = .ok (.dup, 1) := by decide +kernel
theorem d_Dia_init_31 : decode b_Dia_init 31 = .ok (.invokespecial 27, 3) := by decide +kernel
theorem d_Dia_init_34 : decode b_Dia_init 34 = .ok (.putfield 28, 3) := by decide +kernel
theorem d_Dia_init_37 : decode b_Dia_init 37 = .ok (.aload_n 0, 1) := by decide +kernel
theorem d_Dia_init_38 : decode b_Dia_init 38 = .ok (.new 32, 3) := by decide +kernel
theorem d_Dia_init_41 : decode b_Dia_init 41 = .ok (.dup, 1) := by decide +kernel
theorem d_Dia_init_42 : decode b_Dia_init 42 = .ok (.invokespecial 34, 3) := by decide +kernel
theorem d_Dia_init_45 : decode b_Dia_init 45 = .ok (.putfield 35, 3) := by decide +kernel
theorem d_Dia_init_48 : decode b_Dia_init 48 = .ok (.aload_n 0, 1) := by decide +kernel
theorem d_Dia_init_49 : decode b_Dia_init 49 = .ok (.bipush 80, 2) := by decide +kernel
theorem d_Dia_init_51 : decode b_Dia_init 51 = .ok (.newarray .int, 2) := by decide +kernel
theorem d_Dia_init_53 : decode b_Dia_init 53 = .ok (.putfield 39, 3) := by decide +kernel
theorem d_Dia_init_56 : decode b_Dia_init 56 = .ok (.return_, 1) := by decide +kernel
theorem d_Dia_chart_0 : decode b_Dia_chart 0 = .ok (.aload_n 0, 1) := by decide +kernel
theorem d_Dia_chart_1 : decode b_Dia_chart 1 = .ok (.getfield 21, 3) := by decide +kernel
theorem d_Dia_chart_4 : decode b_Dia_chart 4 = .ok (.aload_n 0, 1) := by decide +kernel
theorem d_Dia_chart_5 : decode b_Dia_chart 5 = .ok (.getfield 12, 3) := by decide +kernel
theorem d_Dia_chart_8 : decode b_Dia_chart 8 = .ok (.invokevirtual 43, 3) := by decide +kernel
theorem d_Dia_chart_11 : decode b_Dia_chart 11 = .ok (.istore_n 1, 1) := by decide +kernel
theorem d_Dia_chart_12 : decode b_Dia_chart 12 = .ok (.iload_n 1, 1) := by decide +kernel
theorem d_Dia_chart_13 : decode b_Dia_chart 13 = .ok (.ifCond .eq 5, 3) := by decide +kernel
theorem d_Dia_chart_16 : decode b_Dia_chart 16 = .ok (.iload_n 1, 1) := by decide +kernel
theorem d_Dia_chart_17 : decode b_Dia_chart 17 = .ok (.ireturn, 1) := by decide +kernel
theorem d_Dia_chart_18 : decode b_Dia_chart 18 = .ok (.aload_n 0, 1) := by decide +kernel
theorem d_Dia_chart_19 : decode b_Dia_chart 19 = .ok (.getfield 28, 3) := by decide +kernel
theorem d_Dia_chart_22 : decode b_Dia_chart 22 = .ok (.aload_n 0, 1) := by decide +kernel
theorem d_Dia_chart_23 : decode b_Dia_chart 23 = .ok (.getfield 21, 3) := by decide +kernel
theorem d_Dia_chart_26 : decode b_Dia_chart 26 = .ok (.invokevirtual 47, 3) := by decide +kernel
theorem d_Dia_chart_29 : decode b_Dia_chart 29 = .ok (.aload_n 0, 1) := by decide +kernel
theorem d_Dia_chart_30 : decode b_Dia_chart 30 = .ok (.getfield 35, 3) := by decide +kernel
theorem d_Dia_chart_33 : decode b_Dia_chart 33 = .ok (.aload_n 0, 1) := by decide +kernel
theorem d_Dia_chart_34 : decode b_Dia_chart 34 = .ok (.getfield 12, 3) := by decide +kernel
theorem d_Dia_chart_37 : decode b_Dia_chart 37 = .ok (.getfield 50, 3) := by decide +kernel
theorem d_Dia_chart_40 : decode b_Dia_chart 40 = .ok (.aload_n 0, 1) := by decide +kernel
theorem d_Dia_chart_41 : decode b_Dia_chart 41 = .ok (.getfield 21, 3) := by decide +kernel
theorem d_Dia_chart_44 : decode b_Dia_chart 44 = .ok (.invokevirtual 54, 3) := by decide +kernel
theorem d_Dia_chart_47 : decode b_Dia_chart 47 = .ok (.aload_n 0, 1) := by decide +kernel
theorem d_Dia_chart_48 : decode b_Dia_chart 48 = .ok (.getfield 28, 3) := by decide +kernel
theorem d_Dia_chart_51 : decode b_Dia_chart 51 = .ok (.getfield 57, 3) := by decide +kernel
theorem d_Dia_chart_54 : decode b_Dia_chart 54 = .ok (.aload_n 0, 1) := by decide +kernel
theorem d_Dia_chart_55 : decode b_Dia_chart 55 = .ok (.getfield 12, 3) := by decide +kernel
theorem d_Dia_chart_58 : decode b_Dia_chart 58 = .ok (.getfield 50, 3) := by decide +kernel
theorem d_Dia_chart_61 : decode b_Dia_chart 61 = .ok (.iconst 2, 1) := by decide +kernel
theorem d_Dia_chart_62 : decode b_Dia_chart 62 = .ok (.aload_n 0, 1) := by decide +kernel
theorem d_Dia_chart_63 : decode b_Dia_chart 63 = .ok (.getfield 35, 3) := by decide +kernel
theorem d_Dia_chart_66 : decode b_Dia_chart 66 = .ok (.getfield 58, 3) := by decide +kernel
theorem d_Dia_chart_69 : decode b_Dia_chart 69 = .ok (.imul, 1) := by decide +kernel
theorem d_Dia_chart_70 : decode b_Dia_chart 70 = .ok (.iadd, 1) := by decide +kernel
theorem d_Dia_chart_71 : decode b_Dia_chart 71 = .ok (.if_icmp .ne 7, 3) := by decide +kernel
theorem d_Dia_chart_74 : decode b_Dia_chart 74 = .ok (.iconst 0, 1) := by decide +kernel
theorem d_Dia_chart_75 : decode b_Dia_chart 75 = .ok (.goto 4, 3) := by decide +kernel
theorem d_Dia_chart_78 : decode b_Dia_chart 78 = .ok (.iconst 3, 1) := by decide +kernel
theorem d_Dia_chart_79 : decode b_Dia_chart 79 = .ok (.ireturn, 1) := by decide +kernel
theorem d_Dia_patternAt_0 : decode b_Dia_patternAt 0 = .ok (.aload_n 0, 1) := by decide +kernel
theorem d_Dia_patternAt_1 : decode b_Dia_patternAt 1 = .ok (.getfield 28, 3) := by decide +kernel
theorem d_Dia_patternAt_4 : decode b_Dia_patternAt 4 = .ok (.iload_n 1, 1) := by decide +kernel
theorem d_Dia_patternAt_5 : decode b_Dia_patternAt 5 = .ok (.invokevirtual 59, 3) := by decide +kernel
theorem d_Dia_patternAt_8 : decode b_Dia_patternAt 8 = .ok (.tableswitch 75 1 3 #[28, 30, 61], 28) := by decide +kernel
theorem d_Dia_patternAt_36 : decode b_Dia_patternAt 36 = .ok (.iconst 1, 1) := by decide +kernel
theorem d_Dia_patternAt_37 : decode b_Dia_patternAt 37 = .ok (.ireturn, 1) := by decide +kernel
theorem d_Dia_patternAt_38 : decode b_Dia_patternAt 38 = .ok (.aload_n 0, 1) := by decide +kernel
theorem d_Dia_patternAt_39 : decode b_Dia_patternAt 39 = .ok (.aload_n 0, 1) := by decide +kernel
theorem d_Dia_patternAt_40 : decode b_Dia_patternAt 40 = .ok (.getfield 28, 3) := by decide +kernel
theorem d_Dia_patternAt_43 : decode b_Dia_patternAt 43 = .ok (.iload_n 1, 1) := by decide +kernel
theorem d_Dia_patternAt_44 : decode b_Dia_patternAt 44 = .ok (.iconst 0, 1) := by decide +kernel
theorem d_Dia_patternAt_45 : decode b_Dia_patternAt 45 = .ok (.invokevirtual 63, 3) := by decide +kernel
theorem d_Dia_patternAt_48 : decode b_Dia_patternAt 48 = .ok (.aload_n 0, 1) := by decide +kernel
theorem d_Dia_patternAt_49 : decode b_Dia_patternAt 49 = .ok (.getfield 28, 3) := by decide +kernel
theorem d_Dia_patternAt_52 : decode b_Dia_patternAt 52 = .ok (.iload_n 1, 1) := by decide +kernel
theorem d_Dia_patternAt_53 : decode b_Dia_patternAt 53 = .ok (.iconst 1, 1) := by decide +kernel
theorem d_Dia_patternAt_54 : decode b_Dia_patternAt 54 = .ok (.invokevirtual 63, 3) := by decide +kernel
theorem d_Dia_patternAt_57 : decode b_Dia_patternAt 57 = .ok (.invokevirtual 67, 3) := by decide +kernel
theorem d_Dia_patternAt_60 : decode b_Dia_patternAt 60 = .ok (.ifCond .eq 7, 3) := by decide +kernel
theorem d_Dia_patternAt_63 : decode b_Dia_patternAt 63 = .ok (.iconst 2, 1) := by decide +kernel
theorem d_Dia_patternAt_64 : decode b_Dia_patternAt 64 = .ok (.goto 4, 3) := by decide +kernel
theorem d_Dia_patternAt_67 : decode b_Dia_patternAt 67 = .ok (.iconst 0, 1) := by decide +kernel
theorem d_Dia_patternAt_68 : decode b_Dia_patternAt 68 = .ok (.ireturn, 1) := by decide +kernel
theorem d_Dia_patternAt_69 : decode b_Dia_patternAt 69 = .ok (.aload_n 0, 1) := by decide +kernel
theorem d_Dia_patternAt_70 : decode b_Dia_patternAt 70 = .ok (.iload_n 1, 1) := by decide +kernel
theorem d_Dia_patternAt_71 : decode b_Dia_patternAt 71 = .ok (.invokevirtual 71, 3) := by decide +kernel
theorem d_Dia_patternAt_74 : decode b_Dia_patternAt 74 = .ok (.ifCond .eq 7, 3) := by decide +kernel
theorem d_Dia_patternAt_77 : decode b_Dia_patternAt 77 = .ok (.iconst 3, 1) := by decide +kernel
theorem d_Dia_patternAt_78 : decode b_Dia_patternAt 78 = .ok (.goto 4, 3) := by decide +kernel
theorem d_Dia_patternAt_81 : decode b_Dia_patternAt 81 = .ok (.iconst 0, 1) := by decide +kernel
theorem d_Dia_patternAt_82 : decode b_Dia_patternAt 82 = .ok (.ireturn, 1) := by decide +kernel
theorem d_Dia_patternAt_83 : decode b_Dia_patternAt 83 = .ok (.iconst 0, 1) := by decide +kernel
theorem d_Dia_patternAt_84 : decode b_Dia_patternAt 84 = .ok (.ireturn, 1) := by decide +kernel
theorem d_Dia_isFinger_0 : decode b_Dia_isFinger 0 = .ok (.aload_n 0, 1) := by decide +kernel
theorem d_Dia_isFinger_1 : decode b_Dia_isFinger 1 = .ok (.getfield 21, 3) := by decide +kernel
theorem d_Dia_isFinger_4 : decode b_Dia_isFinger 4 = .ok (.iload_n 1, 1) := by decide +kernel
theorem d_Dia_isFinger_5 : decode b_Dia_isFinger 5 = .ok (.iconst 1, 1) := by decide +kernel
theorem d_Dia_isFinger_6 : decode b_Dia_isFinger 6 = .ok (.ishr, 1) := by decide +kernel
theorem d_Dia_isFinger_7 : decode b_Dia_isFinger 7 = .ok (.invokevirtual 75, 3) := by decide +kernel
theorem d_Dia_isFinger_10 : decode b_Dia_isFinger 10 = .ok (.istore_n 3, 1) := by decide +kernel
theorem d_Dia_isFinger_11 : decode b_Dia_isFinger 11 = .ok (.aload_n 0, 1) := by decide +kernel
theorem d_Dia_isFinger_12 : decode b_Dia_isFinger 12 = .ok (.iload_n 1, 1) := by decide +kernel
theorem d_Dia_isFinger_13 : decode b_Dia_isFinger 13 = .ok (.invokevirtual 78, 3) := by decide +kernel
theorem d_Dia_isFinger_16 : decode b_Dia_isFinger 16 = .ok (.aload_n 0, 1) := by decide +kernel
theorem d_Dia_isFinger_17 : decode b_Dia_isFinger 17 = .ok (.iload_n 2, 1) := by decide +kernel
theorem d_Dia_isFinger_18 : decode b_Dia_isFinger 18 = .ok (.invokevirtual 78, 3) := by decide +kernel
theorem d_Dia_isFinger_21 : decode b_Dia_isFinger 21 = .ok (.if_icmp .eq 28, 3) := by decide +kernel
theorem d_Dia_isFinger_24 : decode b_Dia_isFinger 24 = .ok (.iload_n 3, 1) := by decide +kernel
theorem d_Dia_isFinger_25 : decode b_Dia_isFinger 25 = .ok (.iconst 1, 1) := by decide +kernel
theorem d_Dia_isFinger_26 : decode b_Dia_isFinger 26 = .ok (.if_icmp .eq 23, 3) := by decide +kernel
theorem d_Dia_isFinger_29 : decode b_Dia_isFinger 29 = .ok (.aload_n 0, 1) := by decide +kernel
theorem d_Dia_isFinger_30 : decode b_Dia_isFinger 30 = .ok (.getfield 21, 3) := by decide +kernel
theorem d_Dia_isFinger_33 : decode b_Dia_isFinger 33 = .ok (.iload_n 2, 1) := by decide +kernel
theorem d_Dia_isFinger_34 : decode b_Dia_isFinger 34 = .ok (.iconst 1, 1) := by decide +kernel
theorem d_Dia_isFinger_35 : decode b_Dia_isFinger 35 = .ok (.ishr, 1) := by decide +kernel
theorem d_Dia_isFinger_36 : decode b_Dia_isFinger 36 = .ok (.invokevirtual 75, 3) := by decide +kernel
theorem d_Dia_isFinger_39 : decode b_Dia_isFinger 39 = .ok (.iconst 2, 1) := by decide +kernel
theorem d_Dia_isFinger_40 : decode b_Dia_isFinger 40 = .ok (.iload_n 3, 1) := by decide +kernel
theorem d_Dia_isFinger_41 : decode b_Dia_isFinger 41 = .ok (.isub, 1) := by decide +kernel
theorem d_Dia_isFinger_42 : decode b_Dia_isFinger 42 = .ok (.if_icmp .ne 7, 3) := by decide +kernel
theorem d_Dia_isFinger_45 : decode b_Dia_isFinger 45 = .ok (.iconst 1, 1) := by decide +kernel
theorem d_Dia_isFinger_46 : decode b_Dia_isFinger 46 = .ok (.goto 4, 3) := by decide +kernel
theorem d_Dia_isFinger_49 : decode b_Dia_isFinger 49 = .ok (.iconst 0, 1) := by decide +kernel
theorem d_Dia_isFinger_50 : decode b_Dia_isFinger 50 = .ok (.ireturn, 1) := by decide +kernel
theorem d_Dia_isTriangle_0 : decode b_Dia_isTriangle 0 = .ok (.iconst 0, 1) := by decide +kernel
theorem d_Dia_isTriangle_1 : decode b_Dia_isTriangle 1 = .ok (.istore_n 2, 1) := by decide +kernel
theorem d_Dia_isTriangle_2 : decode b_Dia_isTriangle 2 = .ok (.iconst 0, 1) := by decide +kernel
theorem d_Dia_isTriangle_3 : decode b_Dia_isTriangle 3 = .ok (.istore_n 3, 1) := by decide +kernel
theorem d_Dia_isTriangle_4 : decode b_Dia_isTriangle 4 = .ok (.iconst 0, 1) := by decide +kernel
theorem d_Dia_isTriangle_5 : decode b_Dia_isTriangle 5 = .ok (.istore 4, 2) := by decide +kernel
theorem d_Dia_isTriangle_7 : decode b_Dia_isTriangle 7 = .ok (.iload 4, 2) := by decide +kernel
theorem d_Dia_isTriangle_9 : decode b_Dia_isTriangle 9 = .ok (.iconst 3, 1) := by decide +kernel
theorem d_Dia_isTriangle_10 : decode b_Dia_isTriangle 10 = .ok (.if_icmp .ge 48, 3) := by decide +kernel
theorem d_Dia_isTriangle_13 : decode b_Dia_isTriangle 13 = .ok (.aload_n 0, 1) := by decide +kernel
theorem d_Dia_isTriangle_14 : decode b_Dia_isTriangle 14 = .ok (.getfield 28, 3) := by decide +kernel
theorem d_Dia_isTriangle_17 : decode b_Dia_isTriangle 17 = .ok (.iload_n 1, 1) := by decide +kernel
theorem d_Dia_isTriangle_18 : decode b_Dia_isTriangle 18 = .ok (.iload 4, 2) := by decide +kernel
theorem d_Dia_isTriangle_20 : decode b_Dia_isTriangle 20 = .ok (.invokevirtual 63, 3) := by decide +kernel
theorem d_Dia_isTriangle_23 : decode b_Dia_isTriangle 23 = .ok (.istore 5, 2) := by decide +kernel
theorem d_Dia_isTriangle_25 : decode b_Dia_isTriangle 25 = .ok (.iload_n 2, 1) := by decide +kernel
theorem d_Dia_isTriangle_26 : decode b_Dia_isTriangle 26 = .ok (.iconst 1, 1) := by decide +kernel
theorem d_Dia_isTriangle_27 : decode b_Dia_isTriangle 27 = .ok (.aload_n 0, 1) := by decide +kernel
theorem d_Dia_isTriangle_28 : decode b_Dia_isTriangle 28 = .ok (.iload 5, 2) := by decide +kernel
theorem d_Dia_isTriangle_30 : decode b_Dia_isTriangle 30 = .ok (.invokevirtual 78, 3) := by decide +kernel
theorem d_Dia_isTriangle_33 : decode b_Dia_isTriangle 33 = .ok (.ishl, 1) := by decide +kernel
theorem d_Dia_isTriangle_34 : decode b_Dia_isTriangle 34 = .ok (.ior, 1) := by decide +kernel
theorem d_Dia_isTriangle_35 : decode b_Dia_isTriangle 35 = .ok (.istore_n 2, 1) := by decide +kernel
theorem d_Dia_isTriangle_36 : decode b_Dia_isTriangle 36 = .ok (.iload_n 3, 1) := by decide +kernel
theorem d_Dia_isTriangle_37 : decode b_Dia_isTriangle 37 = .ok (.iconst 1, 1) := by decide +kernel
theorem d_Dia_isTriangle_38 : decode b_Dia_isTriangle 38 = .ok (.aload_n 0, 1) := by decide +kernel
theorem d_Dia_isTriangle_39 : decode b_Dia_isTriangle 39 = .ok (.getfield 21, 3) := by decide +kernel
theorem d_Dia_isTriangle_42 : decode b_Dia_isTriangle 42 = .ok (.iload 5, 2) := by decide +kernel
theorem d_Dia_isTriangle_44 : decode b_Dia_isTriangle 44 = .ok (.iconst 1, 1) := by decide +kernel
theorem d_Dia_isTriangle_45 : decode b_Dia_isTriangle 45 = .ok (.ishr, 1) := by decide +kernel
theorem d_Dia_isTriangle_46 : decode b_Dia_isTriangle 46 = .ok (.invokevirtual 75, 3) := by decide +kernel
theorem d_Dia_isTriangle_49 : decode b_Dia_isTriangle 49 = .ok (.ishl, 1) := by decide +kernel
theorem d_Dia_isTriangle_50 : decode b_Dia_isTriangle 50 = .ok (.ior, 1) := by decide +kernel
theorem d_Dia_isTriangle_51 : decode b_Dia_isTriangle 51 = .ok (.istore_n 3, 1) := by decide +kernel
theorem d_Dia_isTriangle_52 : decode b_Dia_isTriangle 52 = .ok (.iinc 4 1, 3) := by decide +kernel
theorem d_Dia_isTriangle_55 : decode b_Dia_isTriangle 55 = .ok (.goto (-48), 3) := by decide +kernel
theorem d_Dia_isTriangle_58 : decode b_Dia_isTriangle 58 = .ok (.iload_n 2, 1) := by decide +kernel
theorem d_Dia_isTriangle_59 : decode b_Dia_isTriangle 59 = .ok (.invokestatic 81, 3) := by decide +kernel
theorem d_Dia_isTriangle_62 : decode b_Dia_isTriangle 62 = .ok (.iconst 3, 1) := by decide +kernel
theorem d_Dia_isTriangle_63 : decode b_Dia_isTriangle 63 = .ok (.if_icmp .ne 13, 3) := by decide +kernel
theorem d_Dia_isTriangle_66 : decode b_Dia_isTriangle 66 = .ok (.iload_n 3, 1) := by decide +kernel
theorem d_Dia_isTriangle_67 : decode b_Dia_isTriangle 67 = .ok (.bipush 7, 2) := by decide +kernel
theorem d_Dia_isTriangle_69 : decode b_Dia_isTriangle 69 = .ok (.if_icmp .ne 7, 3) := by decide +kernel
theorem d_Dia_isTriangle_72 : decode b_Dia_isTriangle 72 = .ok (.iconst 1, 1) := by decide +kernel
theorem d_Dia_isTriangle_73 : decode b_Dia_isTriangle 73 = .ok (.goto 4, 3) := by decide +kernel
theorem d_Dia_isTriangle_76 : decode b_Dia_isTriangle 76 = .ok (.iconst 0, 1) := by decide +kernel
theorem d_Dia_isTriangle_77 : decode b_Dia_isTriangle 77 = .ok (.ireturn, 1) := by decide +kernel
theorem d_Dia_crossingAhead_0 : decode b_Dia_crossingAhead 0 = .ok (.aload_n 0, 1) := by decide +kernel
theorem d_Dia_crossingAhead_1 : decode b_Dia_crossingAhead 1 = .ok (.getfield 21, 3) := by decide +kernel
theorem d_Dia_crossingAhead_4 : decode b_Dia_crossingAhead 4 = .ok (.iload_n 1, 1) := by decide +kernel
theorem d_Dia_crossingAhead_5 : decode b_Dia_crossingAhead 5 = .ok (.invokevirtual 86, 3) := by decide +kernel
theorem d_Dia_crossingAhead_8 : decode b_Dia_crossingAhead 8 = .ok (.iconst 2, 1) := by decide +kernel
theorem d_Dia_crossingAhead_9 : decode b_Dia_crossingAhead 9 = .ok (.ishr, 1) := by decide +kernel
theorem d_Dia_crossingAhead_10 : decode b_Dia_crossingAhead 10 = .ok (.ireturn, 1) := by decide +kernel
theorem d_Dia_leastFaceToUndo_0 : decode b_Dia_leastFaceToUndo 0 = .ok (.iconst 0, 1) := by decide +kernel
theorem d_Dia_leastFaceToUndo_1 : decode b_Dia_leastFaceToUndo 1 = .ok (.istore_n 1, 1) := by decide +kernel
theorem d_Dia_leastFaceToUndo_2 : decode b_Dia_leastFaceToUndo 2 = .ok (.iload_n 1, 1) := by decide +kernel
theorem d_Dia_leastFaceToUndo_3 : decode b_Dia_leastFaceToUndo 3 = .ok (.aload_n 0, 1) := by decide +kernel
theorem d_Dia_leastFaceToUndo_4 : decode b_Dia_leastFaceToUndo 4 = .ok (.getfield 28, 3) := by decide +kernel
theorem d_Dia_leastFaceToUndo_7 : decode b_Dia_leastFaceToUndo 7 = .ok (.getfield 57, 3) := by decide +kernel
theorem d_Dia_leastFaceToUndo_10 : decode b_Dia_leastFaceToUndo 10 = .ok (.if_icmp .ge 27, 3) := by decide +kernel
theorem d_Dia_leastFaceToUndo_13 : decode b_Dia_leastFaceToUndo 13 = .ok (.aload_n 0, 1) := by decide +kernel
theorem d_Dia_leastFaceToUndo_14 : decode b_Dia_leastFaceToUndo 14 = .ok (.iload_n 1, 1) := by decide +kernel
theorem d_Dia_leastFaceToUndo_15 : decode b_Dia_leastFaceToUndo 15 = .ok (.invokevirtual 89, 3) := by decide +kernel
theorem d_Dia_leastFaceToUndo_18 : decode b_Dia_leastFaceToUndo 18 = .ok (.istore_n 2, 1) := by decide +kernel
theorem d_Dia_leastFaceToUndo_19 : decode b_Dia_leastFaceToUndo 19 = .ok (.iload_n 2, 1) := by decide +kernel
theorem d_Dia_leastFaceToUndo_20 : decode b_Dia_leastFaceToUndo 20 = .ok (.iconst 1, 1) := by decide +kernel
theorem d_Dia_leastFaceToUndo_21 : decode b_Dia_leastFaceToUndo 21 = .ok (.if_icmp .eq 8, 3) := by decide +kernel
theorem d_Dia_leastFaceToUndo_24 : decode b_Dia_leastFaceToUndo 24 = .ok (.iload_n 2, 1) := by decide +kernel
theorem d_Dia_leastFaceToUndo_25 : decode b_Dia_leastFaceToUndo 25 = .ok (.iconst 2, 1) := by decide +kernel
theorem d_Dia_leastFaceToUndo_26 : decode b_Dia_leastFaceToUndo 26 = .ok (.if_icmp .ne 5, 3) := by decide +kernel
theorem d_Dia_leastFaceToUndo_29 : decode b_Dia_leastFaceToUndo 29 = .ok (.iload_n 1, 1) := by decide +kernel
theorem d_Dia_leastFaceToUndo_30 : decode b_Dia_leastFaceToUndo 30 = .ok (.ireturn, 1) := by decide +kernel
theorem d_Dia_leastFaceToUndo_31 : decode b_Dia_leastFaceToUndo 31 = .ok (.iinc 1 1, 3) := by decide +kernel
theorem d_Dia_leastFaceToUndo_34 : decode b_Dia_leastFaceToUndo 34 = .ok (.goto (-32), 3) := by decide +kernel
theorem d_Dia_leastFaceToUndo_37 : decode b_Dia_leastFaceToUndo 37 = .ok (.iconst (-1), 1) := by decide +kernel
theorem d_Dia_leastFaceToUndo_38 : decode b_Dia_leastFaceToUndo 38 = .ok (.ireturn, 1) := by decide +kernel
theorem d_Dia_undoAt_0 : decode b_Dia_undoAt 0 = .ok (.aload_n 0, 1) := by decide +kernel
theorem d_Dia_undoAt_1 : decode b_Dia_undoAt 1 = .ok (.iload_n 1, 1) := by decide +kernel
theorem d_Dia_undoAt_2 : decode b_Dia_undoAt 2 = .ok (.invokevirtual 89, 3) := by decide +kernel
theorem d_Dia_undoAt_5 : decode b_Dia_undoAt 5 = .ok (.istore_n 2, 1) := by decide +kernel
theorem d_Dia_undoAt_6 : decode b_Dia_undoAt 6 = .ok (.iload_n 2, 1) := by decide +kernel
theorem d_Dia_undoAt_7 : decode b_Dia_undoAt 7 = .ok (.iconst 1, 1) := by decide +kernel
theorem d_Dia_undoAt_8 : decode b_Dia_undoAt 8 = .ok (.if_icmp .eq 10, 3) := by decide +kernel
theorem d_Dia_undoAt_11 : decode b_Dia_undoAt 11 = .ok (.iload_n 2, 1) := by decide +kernel
theorem d_Dia_undoAt_12 : decode b_Dia_undoAt 12 = .ok (.iconst 2, 1) := by decide +kernel
theorem d_Dia_undoAt_13 : decode b_Dia_undoAt 13 = .ok (.if_icmp .eq 5, 3) := by decide +kernel
theorem d_Dia_undoAt_16 : decode b_Dia_undoAt 16 = .ok (.iconst 0, 1) := by decide +kernel
theorem d_Dia_undoAt_17 : decode b_Dia_undoAt 17 = .ok (.ireturn, 1) := by decide +kernel
theorem d_Dia_undoAt_18 : decode b_Dia_undoAt 18 = .ok (.aload_n 0, 1) := by decide +kernel
theorem d_Dia_undoAt_19 : decode b_Dia_undoAt 19 = .ok (.aload_n 0, 1) := by decide +kernel
theorem d_Dia_undoAt_20 : decode b_Dia_undoAt 20 = .ok (.getfield 28, 3) := by decide +kernel
theorem d_Dia_undoAt_23 : decode b_Dia_undoAt 23 = .ok (.iload_n 1, 1) := by decide +kernel
theorem d_Dia_undoAt_24 : decode b_Dia_undoAt 24 = .ok (.iconst 0, 1) := by decide +kernel
theorem d_Dia_undoAt_25 : decode b_Dia_undoAt 25 = .ok (.invokevirtual 63, 3) := by decide +kernel
theorem d_Dia_undoAt_28 : decode b_Dia_undoAt 28 = .ok (.invokevirtual 78, 3) := by decide +kernel
theorem d_Dia_undoAt_31 : decode b_Dia_undoAt 31 = .ok (.istore_n 3, 1) := by decide +kernel
theorem d_Dia_undoAt_32 : decode b_Dia_undoAt 32 = .ok (.iload_n 2, 1) := by decide +kernel
theorem d_Dia_undoAt_33 : decode b_Dia_undoAt 33 = .ok (.iconst 1, 1) := by decide +kernel
theorem d_Dia_undoAt_34 : decode b_Dia_undoAt 34 = .ok (.if_icmp .ne 11, 3) := by decide +kernel
theorem d_Dia_undoAt_37 : decode b_Dia_undoAt 37 = .ok (.aload_n 0, 1) := by decide +kernel
theorem d_Dia_undoAt_38 : decode b_Dia_undoAt 38 = .ok (.iload_n 3, 1) := by decide +kernel
theorem d_Dia_undoAt_39 : decode b_Dia_undoAt 39 = .ok (.invokevirtual 92, 3) := by decide +kernel
theorem d_Dia_undoAt_42 : decode b_Dia_undoAt 42 = .ok (.goto 40, 3) := by decide +kernel
theorem d_Dia_undoAt_45 : decode b_Dia_undoAt 45 = .ok (.aload_n 0, 1) := by decide +kernel
theorem d_Dia_undoAt_46 : decode b_Dia_undoAt 46 = .ok (.aload_n 0, 1) := by decide +kernel
theorem d_Dia_undoAt_47 : decode b_Dia_undoAt 47 = .ok (.getfield 28, 3) := by decide +kernel
theorem d_Dia_undoAt_50 : decode b_Dia_undoAt 50 = .ok (.iload_n 1, 1) := by decide +kernel
theorem d_Dia_undoAt_51 : decode b_Dia_undoAt 51 = .ok (.iconst 1, 1) := by decide +kernel
theorem d_Dia_undoAt_52 : decode b_Dia_undoAt 52 = .ok (.invokevirtual 63, 3) := by decide +kernel
theorem d_Dia_undoAt_55 : decode b_Dia_undoAt 55 = .ok (.invokevirtual 78, 3) := by decide +kernel
theorem d_Dia_undoAt_58 : decode b_Dia_undoAt 58 = .ok (.istore 4, 2) := by decide +kernel
theorem d_Dia_undoAt_60 : decode b_Dia_undoAt 60 = .ok (.aload_n 0, 1) := by decide +kernel
theorem d_Dia_undoAt_61 : decode b_Dia_undoAt 61 = .ok (.iload_n 3, 1) := by decide +kernel
theorem d_Dia_undoAt_62 : decode b_Dia_undoAt 62 = .ok (.iload 4, 2) := by decide +kernel
theorem d_Dia_undoAt_64 : decode b_Dia_undoAt 64 = .ok (.invokestatic 96, 3) := by decide +kernel
theorem d_Dia_undoAt_67 : decode b_Dia_undoAt 67 = .ok (.invokevirtual 92, 3) := by decide +kernel
theorem d_Dia_undoAt_70 : decode b_Dia_undoAt 70 = .ok (.aload_n 0, 1) := by decide +kernel
theorem d_Dia_undoAt_71 : decode b_Dia_undoAt 71 = .ok (.iload_n 3, 1) := by decide +kernel
theorem d_Dia_undoAt_72 : decode b_Dia_undoAt 72 = .ok (.iload 4, 2) := by decide +kernel
theorem d_Dia_undoAt_74 : decode b_Dia_undoAt 74 = .ok (.invokestatic 101, 3) := by decide +kernel
theorem d_Dia_undoAt_77 : decode b_Dia_undoAt 77 = .ok (.iconst 1, 1) := by decide +kernel
theorem d_Dia_undoAt_78 : decode b_Dia_undoAt 78 = .ok (.isub, 1) := by decide +kernel
theorem d_Dia_undoAt_79 : decode b_Dia_undoAt 79 = .ok (.invokevirtual 92, 3) := by decide +kernel
theorem d_Dia_undoAt_82 : decode b_Dia_undoAt 82 = .ok (.aload_n 0, 1) := by decide +kernel
theorem d_Dia_undoAt_83 : decode b_Dia_undoAt 83 = .ok (.invokevirtual 104, 3) := by decide +kernel
theorem d_Dia_undoAt_86 : decode b_Dia_undoAt 86 = .ok (.pop, 1) := by decide +kernel
theorem d_Dia_undoAt_87 : decode b_Dia_undoAt 87 = .ok (.iload_n 2, 1) := by decide +kernel
theorem d_Dia_undoAt_88 : decode b_Dia_undoAt 88 = .ok (.ireturn, 1) := by decide +kernel
theorem d_Dia_lift_0 : decode b_Dia_lift 0 = .ok (.aload_n 0, 1) := by decide +kernel
theorem d_Dia_lift_1 : decode b_Dia_lift 1 = .ok (.getfield 12, 3) := by decide +kernel
theorem d_Dia_lift_4 : decode b_Dia_lift 4 = .ok (.iload_n 1, 1) := by decide +kernel
theorem d_Dia_lift_5 : decode b_Dia_lift 5 = .ok (.invokevirtual 108, 3) := by decide +kernel
theorem d_Dia_lift_8 : decode b_Dia_lift 8 = .ok (.istore_n 2, 1) := by decide +kernel
theorem d_Dia_lift_9 : decode b_Dia_lift 9 = .ok (.aload_n 0, 1) := by decide +kernel
theorem d_Dia_lift_10 : decode b_Dia_lift 10 = .ok (.iconst 4, 1) := by decide +kernel
theorem d_Dia_lift_11 : decode b_Dia_lift 11 = .ok (.iload_n 1, 1) := by decide +kernel
theorem d_Dia_lift_12 : decode b_Dia_lift 12 = .ok (.imul, 1) := by decide +kernel
theorem d_Dia_lift_13 : decode b_Dia_lift 13 = .ok (.iconst 4, 1) := by decide +kernel
theorem d_Dia_lift_14 : decode b_Dia_lift 14 = .ok (.iload_n 1, 1) := by decide +kernel
theorem d_Dia_lift_15 : decode b_Dia_lift 15 = .ok (.imul, 1) := by decide +kernel
theorem d_Dia_lift_16 : decode b_Dia_lift 16 = .ok (.iconst 2, 1) := by decide +kernel
theorem d_Dia_lift_17 : decode b_Dia_lift 17 = .ok (.iadd, 1) := by decide +kernel
theorem d_Dia_lift_18 : decode b_Dia_lift 18 = .ok (.invokevirtual 111, 3) := by decide +kernel
theorem d_Dia_lift_21 : decode b_Dia_lift 21 = .ok (.aload_n 0, 1) := by decide +kernel
theorem d_Dia_lift_22 : decode b_Dia_lift 22 = .ok (.iload_n 2, 1) := by decide +kernel
theorem d_Dia_lift_23 : decode b_Dia_lift 23 = .ok (.iload_n 2, 1) := by decide +kernel
theorem d_Dia_lift_24 : decode b_Dia_lift 24 = .ok (.iconst 2, 1) := by decide +kernel
theorem d_Dia_lift_25 : decode b_Dia_lift 25 = .ok (.ixor, 1) := by decide +kernel
theorem d_Dia_lift_26 : decode b_Dia_lift 26 = .ok (.invokevirtual 111, 3) := by decide +kernel
theorem d_Dia_lift_29 : decode b_Dia_lift 29 = .ok (.aload_n 0, 1) := by decide +kernel
theorem d_Dia_lift_30 : decode b_Dia_lift 30 = .ok (.getfield 12, 3) := by decide +kernel
theorem d_Dia_lift_33 : decode b_Dia_lift 33 = .ok (.iload_n 1, 1) := by decide +kernel
theorem d_Dia_lift_34 : decode b_Dia_lift 34 = .ok (.invokevirtual 115, 3) := by decide +kernel
theorem d_Dia_lift_37 : decode b_Dia_lift 37 = .ok (.return_, 1) := by decide +kernel
theorem d_Dia_joinEdges_0 : decode b_Dia_joinEdges 0 = .ok (.aload_n 0, 1) := by decide +kernel
theorem d_Dia_joinEdges_1 : decode b_Dia_joinEdges 1 = .ok (.getfield 12, 3) := by decide +kernel
theorem d_Dia_joinEdges_4 : decode b_Dia_joinEdges 4 = .ok (.iload_n 1, 1) := by decide +kernel
theorem d_Dia_joinEdges_5 : decode b_Dia_joinEdges 5 = .ok (.iload_n 2, 1) := by decide +kernel
theorem d_Dia_joinEdges_6 : decode b_Dia_joinEdges 6 = .ok (.invokevirtual 118, 3) := by decide +kernel
theorem d_Dia_joinEdges_9 : decode b_Dia_joinEdges 9 = .ok (.ifCond .ne 13, 3) := by decide +kernel
theorem d_Dia_joinEdges_12 : decode b_Dia_joinEdges 12 = .ok (.aload_n 0, 1) := by decide +kernel
theorem d_Dia_joinEdges_13 : decode b_Dia_joinEdges 13 = .ok (.dup, 1) := by decide +kernel
theorem d_Dia_joinEdges_14 : decode b_Dia_joinEdges 14 = .ok (.getfield 121, 3) := by decide +kernel
theorem d_Dia_joinEdges_17 : decode b_Dia_joinEdges 17 = .ok (.iconst 1, 1) := by decide +kernel
theorem d_Dia_joinEdges_18 : decode b_Dia_joinEdges 18 = .ok (.iadd, 1) := by decide +kernel
theorem d_Dia_joinEdges_19 : decode b_Dia_joinEdges 19 = .ok (.putfield 121, 3) := by decide +kernel
theorem d_Dia_joinEdges_22 : decode b_Dia_joinEdges 22 = .ok (.return_, 1) := by decide +kernel
theorem d_Dia_slideAt_0 : decode b_Dia_slideAt 0 = .ok (.aload_n 0, 1) := by decide +kernel
theorem d_Dia_slideAt_1 : decode b_Dia_slideAt 1 = .ok (.iload_n 1, 1) := by decide +kernel
theorem d_Dia_slideAt_2 : decode b_Dia_slideAt 2 = .ok (.invokevirtual 89, 3) := by decide +kernel
theorem d_Dia_slideAt_5 : decode b_Dia_slideAt 5 = .ok (.iconst 3, 1) := by decide +kernel
theorem d_Dia_slideAt_6 : decode b_Dia_slideAt 6 = .ok (.if_icmp .eq 5, 3) := by decide +kernel
theorem d_Dia_slideAt_9 : decode b_Dia_slideAt 9 = .ok (.iconst 0, 1) := by decide +kernel
theorem d_Dia_slideAt_10 : decode b_Dia_slideAt 10 = .ok (.ireturn, 1) := by decide +kernel
theorem d_Dia_slideAt_11 : decode b_Dia_slideAt 11 = .ok (.aload_n 0, 1) := by decide +kernel
theorem d_Dia_slideAt_12 : decode b_Dia_slideAt 12 = .ok (.getfield 12, 3) := by decide +kernel
theorem d_Dia_slideAt_15 : decode b_Dia_slideAt 15 = .ok (.getfield 124, 3) := by decide +kernel
theorem d_Dia_slideAt_18 : decode b_Dia_slideAt 18 = .ok (.iconst 0, 1) := by decide +kernel
theorem d_Dia_slideAt_19 : decode b_Dia_slideAt 19 = .ok (.aload_n 0, 1) := by decide +kernel
theorem d_Dia_slideAt_20 : decode b_Dia_slideAt 20 = .ok (.getfield 39, 3) := by decide +kernel
theorem d_Dia_slideAt_23 : decode b_Dia_slideAt 23 = .ok (.iconst 0, 1) := by decide +kernel
theorem d_Dia_slideAt_24 : decode b_Dia_slideAt 24 = .ok (.bipush 80, 2) := by decide +kernel
theorem d_Dia_slideAt_26 : decode b_Dia_slideAt 26 = .ok (.invokestatic 127, 3) := by decide +kernel
theorem d_Dia_slideAt_29 : decode b_Dia_slideAt 29 = .ok (.iconst 0, 1) := by decide +kernel
theorem d_Dia_slideAt_30 : decode b_Dia_slideAt 30 = .ok (.istore_n 2, 1) := by decide +kernel
theorem d_Dia_slideAt_31 : decode b_Dia_slideAt 31 = .ok (.iload_n 2, 1) := by decide +kernel
theorem d_Dia_slideAt_32 : decode b_Dia_slideAt 32 = .ok (.iconst 3, 1) := by decide +kernel
theorem d_Dia_slideAt_33 : decode b_Dia_slideAt 33 = .ok (.if_icmp .ge 24, 3) := by decide +kernel
theorem d_Dia_slideAt_36 : decode b_Dia_slideAt 36 = .ok (.aload_n 0, 1) := by decide +kernel
theorem d_Dia_slideAt_37 : decode b_Dia_slideAt 37 = .ok (.aload_n 0, 1) := by decide +kernel
theorem d_Dia_slideAt_38 : decode b_Dia_slideAt 38 = .ok (.getfield 28, 3) := by decide +kernel
theorem d_Dia_slideAt_41 : decode b_Dia_slideAt 41 = .ok (.iload_n 1, 1) := by decide +kernel
theorem d_Dia_slideAt_42 : decode b_Dia_slideAt 42 = .ok (.iload_n 2, 1) := by decide +kernel
theorem d_Dia_slideAt_43 : decode b_Dia_slideAt 43 = .ok (.invokevirtual 63, 3) := by decide +kernel
theorem d_Dia_slideAt_46 : decode b_Dia_slideAt 46 = .ok (.iconst 1, 1) := by decide +kernel
theorem d_Dia_slideAt_47 : decode b_Dia_slideAt 47 = .ok (.ishr, 1) := by decide +kernel
theorem d_Dia_slideAt_48 : decode b_Dia_slideAt 48 = .ok (.invokevirtual 133, 3) := by decide +kernel
theorem d_Dia_slideAt_51 : decode b_Dia_slideAt 51 = .ok (.iinc 2 1, 3) := by decide +kernel
theorem d_Dia_slideAt_54 : decode b_Dia_slideAt 54 = .ok (.goto (-23), 3) := by decide +kernel
theorem d_Dia_slideAt_57 : decode b_Dia_slideAt 57 = .ok (.aload_n 0, 1) := by decide +kernel
theorem d_Dia_slideAt_58 : decode b_Dia_slideAt 58 = .ok (.getfield 39, 3) := by decide +kernel
theorem d_Dia_slideAt_61 : decode b_Dia_slideAt 61 = .ok (.iconst 0, 1) := by decide +kernel
theorem d_Dia_slideAt_62 : decode b_Dia_slideAt 62 = .ok (.aload_n 0, 1) := by decide +kernel
theorem d_Dia_slideAt_63 : decode b_Dia_slideAt 63 = .ok (.getfield 12, 3) := by decide +kernel
theorem d_Dia_slideAt_66 : decode b_Dia_slideAt 66 = .ok (.getfield 124, 3) := by decide +kernel
theorem d_Dia_slideAt_69 : decode b_Dia_slideAt 69 = .ok (.iconst 0, 1) := by decide +kernel
theorem d_Dia_slideAt_70 : decode b_Dia_slideAt 70 = .ok (.bipush 80, 2) := by decide +kernel
theorem d_Dia_slideAt_72 : decode b_Dia_slideAt 72 = .ok (.invokestatic 127, 3) := by decide +kernel
theorem d_Dia_slideAt_75 : decode b_Dia_slideAt 75 = .ok (.aload_n 0, 1) := by decide +kernel
theorem d_Dia_slideAt_76 : decode b_Dia_slideAt 76 = .ok (.invokevirtual 104, 3) := by decide +kernel
theorem d_Dia_slideAt_79 : decode b_Dia_slideAt 79 = .ok (.pop, 1) := by decide +kernel
theorem d_Dia_slideAt_80 : decode b_Dia_slideAt 80 = .ok (.iconst 1, 1) := by decide +kernel
theorem d_Dia_slideAt_81 : decode b_Dia_slideAt 81 = .ok (.ireturn, 1) := by decide +kernel
theorem d_Dia_slideEdge_0 : decode b_Dia_slideEdge 0 = .ok (.aload_n 0, 1) := by decide +kernel
theorem d_Dia_slideEdge_1 : decode b_Dia_slideEdge 1 = .ok (.getfield 21, 3) := by decide +kernel
theorem d_Dia_slideEdge_4 : decode b_Dia_slideEdge 4 = .ok (.getfield 136, 3) := by decide +kernel
theorem d_Dia_slideEdge_7 : decode b_Dia_slideEdge 7 = .ok (.iload_n 1, 1) := by decide +kernel
theorem d_Dia_slideEdge_8 : decode b_Dia_slideEdge 8 = .ok (.iaload, 1) := by decide +kernel
theorem d_Dia_slideEdge_9 : decode b_Dia_slideEdge 9 = .ok (.istore_n 2, 1) := by decide +kernel
theorem d_Dia_slideEdge_10 : decode b_Dia_slideEdge 10 = .ok (.aload_n 0, 1) := by decide +kernel
theorem d_Dia_slideEdge_11 : decode b_Dia_slideEdge 11 = .ok (.getfield 21, 3) := by decide +kernel
theorem d_Dia_slideEdge_14 : decode b_Dia_slideEdge 14 = .ok (.getfield 139, 3) := by decide +kernel
theorem d_Dia_slideEdge_17 : decode b_Dia_slideEdge 17 = .ok (.iload_n 1, 1) := by decide +kernel
theorem d_Dia_slideEdge_18 : decode b_Dia_slideEdge 18 = .ok (.iaload, 1) := by decide +kernel
theorem d_Dia_slideEdge_19 : decode b_Dia_slideEdge 19 = .ok (.istore_n 3, 1) := by decide +kernel
theorem d_Dia_slideEdge_20 : decode b_Dia_slideEdge 20 = .ok (.aload_n 0, 1) := by decide +kernel
theorem d_Dia_slideEdge_21 : decode b_Dia_slideEdge 21 = .ok (.getfield 12, 3) := by decide +kernel
theorem d_Dia_slideEdge_24 : decode b_Dia_slideEdge 24 = .ok (.getfield 124, 3) := by decide +kernel
theorem d_Dia_slideEdge_27 : decode b_Dia_slideEdge 27 = .ok (.iload_n 2, 1) := by decide +kernel
theorem d_Dia_slideEdge_28 : decode b_Dia_slideEdge 28 = .ok (.iconst 2, 1) := by decide +kernel
theorem d_Dia_slideEdge_29 : decode b_Dia_slideEdge 29 = .ok (.ixor, 1) := by decide +kernel
theorem d_Dia_slideEdge_30 : decode b_Dia_slideEdge 30 = .ok (.iaload, 1) := by decide +kernel
theorem d_Dia_slideEdge_31 : decode b_Dia_slideEdge 31 = .ok (.istore 4, 2) := by decide +kernel
theorem d_Dia_slideEdge_33 : decode b_Dia_slideEdge 33 = .ok (.aload_n 0, 1) := by decide +kernel
theorem d_Dia_slideEdge_34 : decode b_Dia_slideEdge 34 = .ok (.getfield 12, 3) := by decide +kernel
theorem d_Dia_slideEdge_37 : decode b_Dia_slideEdge 37 = .ok (.getfield 124, 3) := by decide +kernel
theorem d_Dia_slideEdge_40 : decode b_Dia_slideEdge 40 = .ok (.iload_n 3, 1) := by decide +kernel
theorem d_Dia_slideEdge_41 : decode b_Dia_slideEdge 41 = .ok (.iconst 2, 1) := by decide +kernel
theorem d_Dia_slideEdge_42 : decode b_Dia_slideEdge 42 = .ok (.ixor, 1) := by decide +kernel
theorem d_Dia_slideEdge_43 : decode b_Dia_slideEdge 43 = .ok (.iaload, 1) := by decide +kernel
theorem d_Dia_slideEdge_44 : decode b_Dia_slideEdge 44 = .ok (.istore 5, 2) := by decide +kernel
theorem d_Dia_slideEdge_46 : decode b_Dia_slideEdge 46 = .ok (.aload_n 0, 1) := by decide +kernel
theorem d_Dia_slideEdge_47 : decode b_Dia_slideEdge 47 = .ok (.getfield 39, 3) := by decide +kernel
theorem d_Dia_slideEdge_50 : decode b_Dia_slideEdge 50 = .ok (.iload_n 2, 1) := by decide +kernel
theorem d_Dia_slideEdge_51 : decode b_Dia_slideEdge 51 = .ok (.iconst 2, 1) := by decide +kernel
theorem d_Dia_slideEdge_52 : decode b_Dia_slideEdge 52 = .ok (.ixor, 1) := by decide +kernel
theorem d_Dia_slideEdge_53 : decode b_Dia_slideEdge 53 = .ok (.aload_n 0, 1) := by decide +kernel
theorem d_Dia_slideEdge_54 : decode b_Dia_slideEdge 54 = .ok (.getfield 21, 3) := by decide +kernel
theorem d_Dia_slideEdge_57 : decode b_Dia_slideEdge 57 = .ok (.getfield 142, 3) := by decide +kernel
theorem d_Dia_slideEdge_60 : decode b_Dia_slideEdge 60 = .ok (.iload_n 1, 1) := by decide +kernel
theorem d_Dia_slideEdge_61 : decode b_Dia_slideEdge 61 = .ok (.iaload, 1) := by decide +kernel
theorem d_Dia_slideEdge_62 : decode b_Dia_slideEdge 62 = .ok (.iastore, 1) := by decide +kernel
theorem d_Dia_slideEdge_63 : decode b_Dia_slideEdge 63 = .ok (.aload_n 0, 1) := by decide +kernel
theorem d_Dia_slideEdge_64 : decode b_Dia_slideEdge 64 = .ok (.getfield 39, 3) := by decide +kernel
theorem d_Dia_slideEdge_67 : decode b_Dia_slideEdge 67 = .ok (.iload_n 2, 1) := by decide +kernel
theorem d_Dia_slideEdge_68 : decode b_Dia_slideEdge 68 = .ok (.iload 5, 2) := by decide +kernel
theorem d_Dia_slideEdge_70 : decode b_Dia_slideEdge 70 = .ok (.iastore, 1) := by decide +kernel
theorem d_Dia_slideEdge_71 : decode b_Dia_slideEdge 71 = .ok (.aload_n 0, 1) := by decide +kernel
theorem d_Dia_slideEdge_72 : decode b_Dia_slideEdge 72 = .ok (.getfield 39, 3) := by decide +kernel
theorem d_Dia_slideEdge_75 : decode b_Dia_slideEdge 75 = .ok (.iload_n 3, 1) := by decide +kernel
theorem d_Dia_slideEdge_76 : decode b_Dia_slideEdge 76 = .ok (.iload 4, 2) := by decide +kernel
theorem d_Dia_slideEdge_78 : decode b_Dia_slideEdge 78 = .ok (.iastore, 1) := by decide +kernel
theorem d_Dia_slideEdge_79 : decode b_Dia_slideEdge 79 = .ok (.aload_n 0, 1) := by decide +kernel
theorem d_Dia_slideEdge_80 : decode b_Dia_slideEdge 80 = .ok (.getfield 39, 3) := by decide +kernel
theorem d_Dia_slideEdge_83 : decode b_Dia_slideEdge 83 = .ok (.iload_n 3, 1) := by decide +kernel
theorem d_Dia_slideEdge_84 : decode b_Dia_slideEdge 84 = .ok (.iconst 2, 1) := by decide +kernel
theorem d_Dia_slideEdge_85 : decode b_Dia_slideEdge 85 = .ok (.ixor, 1) := by decide +kernel
theorem d_Dia_slideEdge_86 : decode b_Dia_slideEdge 86 = .ok (.aload_n 0, 1) := by decide +kernel
theorem d_Dia_slideEdge_87 : decode b_Dia_slideEdge 87 = .ok (.getfield 21, 3) := by decide +kernel
theorem d_Dia_slideEdge_90 : decode b_Dia_slideEdge 90 = .ok (.getfield 142, 3) := by decide +kernel
theorem d_Dia_slideEdge_93 : decode b_Dia_slideEdge 93 = .ok (.iload_n 1, 1) := by decide +kernel
theorem d_Dia_slideEdge_94 : decode b_Dia_slideEdge 94 = .ok (.iaload, 1) := by decide +kernel
theorem d_Dia_slideEdge_95 : decode b_Dia_slideEdge 95 = .ok (.iastore, 1) := by decide +kernel
theorem d_Dia_slideEdge_96 : decode b_Dia_slideEdge 96 = .ok (.return_, 1) := by decide +kernel
theorem d_Dia_twistCircle_0 : decode b_Dia_twistCircle 0 = .ok (.aload_n 0, 1) := by decide +kernel
theorem d_Dia_twistCircle_1 : decode b_Dia_twistCircle 1 = .ok (.getfield 121, 3) := by decide +kernel
theorem d_Dia_twistCircle_4 : decode b_Dia_twistCircle 4 = .ok (.ifCond .gt 5, 3) := by decide +kernel
theorem d_Dia_twistCircle_7 : decode b_Dia_twistCircle 7 = .ok (.iconst 0, 1) := by decide +kernel
theorem d_Dia_twistCircle_8 : decode b_Dia_twistCircle 8 = .ok (.ireturn, 1) := by decide +kernel
theorem d_Dia_twistCircle_9 : decode b_Dia_twistCircle 9 = .ok (.aload_n 0, 1) := by decide +kernel
theorem d_Dia_twistCircle_10 : decode b_Dia_twistCircle 10 = .ok (.dup, 1) := by decide +kernel
theorem d_Dia_twistCircle_11 : decode b_Dia_twistCircle 11 = .ok (.getfield 121, 3) := by decide +kernel
theorem d_Dia_twistCircle_14 : decode b_Dia_twistCircle 14 = .ok (.iconst 1, 1) := by decide +kernel
theorem d_Dia_twistCircle_15 : decode b_Dia_twistCircle 15 = .ok (.isub, 1) := by decide +kernel
theorem d_Dia_twistCircle_16 : decode b_Dia_twistCircle 16 = .ok (.putfield 121, 3) := by decide +kernel
theorem d_Dia_twistCircle_19 : decode b_Dia_twistCircle 19 = .ok (.aload_n 0, 1) := by decide +kernel
theorem d_Dia_twistCircle_20 : decode b_Dia_twistCircle 20 = .ok (.getfield 21, 3) := by decide +kernel
theorem d_Dia_twistCircle_23 : decode b_Dia_twistCircle 23 = .ok (.iconst 0, 1) := by decide +kernel
theorem d_Dia_twistCircle_24 : decode b_Dia_twistCircle 24 = .ok (.invokevirtual 143, 3) := by decide +kernel
theorem d_Dia_twistCircle_27 : decode b_Dia_twistCircle 27 = .ok (.istore_n 3, 1) := by decide +kernel
theorem d_Dia_twistCircle_28 : decode b_Dia_twistCircle 28 = .ok (.aload_n 0, 1) := by decide +kernel
theorem d_Dia_twistCircle_29 : decode b_Dia_twistCircle 29 = .ok (.getfield 21, 3) := by decide +kernel
theorem d_Dia_twistCircle_32 : decode b_Dia_twistCircle 32 = .ok (.iload_n 3, 1) := by decide +kernel
theorem d_Dia_twistCircle_33 : decode b_Dia_twistCircle 33 = .ok (.invokevirtual 143, 3) := by decide +kernel
theorem d_Dia_twistCircle_36 : decode b_Dia_twistCircle 36 = .ok (.istore 4, 2) := by decide +kernel
theorem d_Dia_twistCircle_38 : decode b_Dia_twistCircle 38 = .ok (.aload_n 0, 1) := by decide +kernel
theorem d_Dia_twistCircle_39 : decode b_Dia_twistCircle 39 = .ok (.new 146, 3) := by decide +kernel
theorem d_Dia_twistCircle_42 : decode b_Dia_twistCircle 42 = .ok (.dup, 1) := by decide +kernel
theorem d_Dia_twistCircle_43 : decode b_Dia_twistCircle 43 = .ok (.iload 4, 2) := by decide +kernel
theorem d_Dia_twistCircle_45 : decode b_Dia_twistCircle 45 = .ok (.iload_n 3, 1) := by decide +kernel
theorem d_Dia_twistCircle_46 : decode b_Dia_twistCircle 46 = .ok (.iload 4, 2) := by decide +kernel
theorem d_Dia_twistCircle_48 : decode b_Dia_twistCircle 48 = .ok (.invokespecial 148, 3) := by decide +kernel
theorem d_Dia_twistCircle_51 : decode b_Dia_twistCircle 51 = .ok (.iload_n 1, 1) := by decide +kernel
theorem d_Dia_twistCircle_52 : decode b_Dia_twistCircle 52 = .ok (.iload_n 2, 1) := by decide +kernel
theorem d_Dia_twistCircle_53 : decode b_Dia_twistCircle 53 = .ok (.invokevirtual 151, 3) := by decide +kernel
theorem d_Dia_twistCircle_56 : decode b_Dia_twistCircle 56 = .ok (.iconst 1, 1) := by decide +kernel
theorem d_Dia_twistCircle_57 : decode b_Dia_twistCircle 57 = .ok (.ireturn, 1) := by decide +kernel
theorem d_Dia_twistEdge_0 : decode b_Dia_twistEdge 0 = .ok (.aload_n 0, 1) := by decide +kernel
theorem d_Dia_twistEdge_1 : decode b_Dia_twistEdge 1 = .ok (.getfield 21, 3) := by decide +kernel
theorem d_Dia_twistEdge_4 : decode b_Dia_twistEdge 4 = .ok (.iload_n 1, 1) := by decide +kernel
theorem d_Dia_twistEdge_5 : decode b_Dia_twistEdge 5 = .ok (.invokevirtual 155, 3) := by decide +kernel
theorem d_Dia_twistEdge_8 : decode b_Dia_twistEdge 8 = .ok (.istore 4, 2) := by decide +kernel
theorem d_Dia_twistEdge_10 : decode b_Dia_twistEdge 10 = .ok (.iload 4, 2) := by decide +kernel
theorem d_Dia_twistEdge_12 : decode b_Dia_twistEdge 12 = .ok (.ifCond .ge 5, 3) := by decide +kernel
theorem d_Dia_twistEdge_15 : decode b_Dia_twistEdge 15 = .ok (.iconst 0, 1) := by decide +kernel
theorem d_Dia_twistEdge_16 : decode b_Dia_twistEdge 16 = .ok (.ireturn, 1) := by decide +kernel
theorem d_Dia_twistEdge_17 : decode b_Dia_twistEdge 17 = .ok (.aload_n 0, 1) := by decide +kernel
theorem d_Dia_twistEdge_18 : decode b_Dia_twistEdge 18 = .ok (.aload_n 0, 1) := by decide +kernel
theorem d_Dia_twistEdge_19 : decode b_Dia_twistEdge 19 = .ok (.iload 4, 2) := by decide +kernel
theorem d_Dia_twistEdge_21 : decode b_Dia_twistEdge 21 = .ok (.iconst 0, 1) := by decide +kernel
theorem d_Dia_twistEdge_22 : decode b_Dia_twistEdge 22 = .ok (.invokevirtual 158, 3) := by decide +kernel
theorem d_Dia_twistEdge_25 : decode b_Dia_twistEdge 25 = .ok (.iload_n 2, 1) := by decide +kernel
theorem d_Dia_twistEdge_26 : decode b_Dia_twistEdge 26 = .ok (.iload_n 3, 1) := by decide +kernel
theorem d_Dia_twistEdge_27 : decode b_Dia_twistEdge 27 = .ok (.invokevirtual 151, 3) := by decide +kernel
theorem d_Dia_twistEdge_30 : decode b_Dia_twistEdge 30 = .ok (.iconst 1, 1) := by decide +kernel
theorem d_Dia_twistEdge_31 : decode b_Dia_twistEdge 31 = .ok (.ireturn, 1) := by decide +kernel
theorem d_Dia_addKink_0 : decode b_Dia_addKink 0 = .ok (.aload_n 0, 1) := by decide +kernel
theorem d_Dia_addKink_1 : decode b_Dia_addKink 1 = .ok (.iload_n 2, 1) := by decide +kernel
theorem d_Dia_addKink_2 : decode b_Dia_addKink 2 = .ok (.aload_n 1, 1) := by decide +kernel
theorem d_Dia_addKink_3 : decode b_Dia_addKink 3 = .ok (.iload_n 3, 1) := by decide +kernel
theorem d_Dia_addKink_4 : decode b_Dia_addKink 4 = .ok (.aload_n 1, 1) := by decide +kernel
theorem d_Dia_addKink_5 : decode b_Dia_addKink 5 = .ok (.iload_n 3, 1) := by decide +kernel
theorem d_Dia_addKink_6 : decode b_Dia_addKink 6 = .ok (.ifCond .ne 7, 3) := by decide +kernel
theorem d_Dia_addKink_9 : decode b_Dia_addKink 9 = .ok (.iconst 1, 1) := by decide +kernel
theorem d_Dia_addKink_10 : decode b_Dia_addKink 10 = .ok (.goto 4, 3) := by decide +kernel
theorem d_Dia_addKink_13 : decode b_Dia_addKink 13 = .ok (.iconst 0, 1) := by decide +kernel
theorem d_Dia_addKink_14 : decode b_Dia_addKink 14 = .ok (.invokevirtual 162, 3) := by decide +kernel
theorem d_Dia_addKink_17 : decode b_Dia_addKink 17 = .ok (.aload_n 0, 1) := by decide +kernel
theorem d_Dia_addKink_18 : decode b_Dia_addKink 18 = .ok (.invokevirtual 104, 3) := by decide +kernel
theorem d_Dia_addKink_21 : decode b_Dia_addKink 21 = .ok (.pop, 1) := by decide +kernel
theorem d_Dia_addKink_22 : decode b_Dia_addKink 22 = .ok (.return_, 1) := by decide +kernel
theorem d_Dia_cutEdge_0 : decode b_Dia_cutEdge 0 = .ok (.aload_n 0, 1) := by decide +kernel
theorem d_Dia_cutEdge_1 : decode b_Dia_cutEdge 1 = .ok (.getfield 21, 3) := by decide +kernel
theorem d_Dia_cutEdge_4 : decode b_Dia_cutEdge 4 = .ok (.iload_n 2, 1) := by decide +kernel
theorem d_Dia_cutEdge_5 : decode b_Dia_cutEdge 5 = .ok (.invokevirtual 143, 3) := by decide +kernel
theorem d_Dia_cutEdge_8 : decode b_Dia_cutEdge 8 = .ok (.istore_n 3, 1) := by decide +kernel
theorem d_Dia_cutEdge_9 : decode b_Dia_cutEdge 9 = .ok (.aload_n 0, 1) := by decide +kernel
theorem d_Dia_cutEdge_10 : decode b_Dia_cutEdge 10 = .ok (.getfield 21, 3) := by decide +kernel
theorem d_Dia_cutEdge_13 : decode b_Dia_cutEdge 13 = .ok (.iload_n 3, 1) := by decide +kernel
theorem d_Dia_cutEdge_14 : decode b_Dia_cutEdge 14 = .ok (.invokevirtual 143, 3) := by decide +kernel
theorem d_Dia_cutEdge_17 : decode b_Dia_cutEdge 17 = .ok (.istore 4, 2) := by decide +kernel
theorem d_Dia_cutEdge_19 : decode b_Dia_cutEdge 19 = .ok (.aload_n 0, 1) := by decide +kernel
theorem d_Dia_cutEdge_20 : decode b_Dia_cutEdge 20 = .ok (.getfield 12, 3) := by decide +kernel
theorem d_Dia_cutEdge_23 : decode b_Dia_cutEdge 23 = .ok (.getfield 124, 3) := by decide +kernel
theorem d_Dia_cutEdge_26 : decode b_Dia_cutEdge 26 = .ok (.aload_n 0, 1) := by decide +kernel
theorem d_Dia_cutEdge_27 : decode b_Dia_cutEdge 27 = .ok (.getfield 21, 3) := by decide +kernel
theorem d_Dia_cutEdge_30 : decode b_Dia_cutEdge 30 = .ok (.getfield 139, 3) := by decide +kernel
theorem d_Dia_cutEdge_33 : decode b_Dia_cutEdge 33 = .ok (.iload_n 1, 1) := by decide +kernel
theorem d_Dia_cutEdge_34 : decode b_Dia_cutEdge 34 = .ok (.iaload, 1) := by decide +kernel
theorem d_Dia_cutEdge_35 : decode b_Dia_cutEdge 35 = .ok (.iload 4, 2) := by decide +kernel
theorem d_Dia_cutEdge_37 : decode b_Dia_cutEdge 37 = .ok (.iastore, 1) := by decide +kernel
theorem d_Dia_cutEdge_38 : decode b_Dia_cutEdge 38 = .ok (.new 146, 3) := by decide +kernel
theorem d_Dia_cutEdge_41 : decode b_Dia_cutEdge 41 = .ok (.dup, 1) := by decide +kernel
theorem d_Dia_cutEdge_42 : decode b_Dia_cutEdge 42 = .ok (.aload_n 0, 1) := by decide +kernel
theorem d_Dia_cutEdge_43 : decode b_Dia_cutEdge 43 = .ok (.getfield 21, 3) := by decide +kernel
theorem d_Dia_cutEdge_46 : decode b_Dia_cutEdge 46 = .ok (.getfield 142, 3) := by decide +kernel
theorem d_Dia_cutEdge_49 : decode b_Dia_cutEdge 49 = .ok (.iload_n 1, 1) := by decide +kernel
theorem d_Dia_cutEdge_50 : decode b_Dia_cutEdge 50 = .ok (.iaload, 1) := by decide +kernel
theorem d_Dia_cutEdge_51 : decode b_Dia_cutEdge 51 = .ok (.iload_n 3, 1) := by decide +kernel
theorem d_Dia_cutEdge_52 : decode b_Dia_cutEdge 52 = .ok (.iload 4, 2) := by decide +kernel
theorem d_Dia_cutEdge_54 : decode b_Dia_cutEdge 54 = .ok (.invokespecial 148, 3) := by decide +kernel
theorem d_Dia_cutEdge_57 : decode b_Dia_cutEdge 57 = .ok (.areturn, 1) := by decide +kernel
theorem d_Dia_addCrossing_0 : decode b_Dia_addCrossing 0 = .ok (.aload_n 2, 1) := by decide +kernel
theorem d_Dia_addCrossing_1 : decode b_Dia_addCrossing 1 = .ok (.iload_n 3, 1) := by decide +kernel
theorem d_Dia_addCrossing_2 : decode b_Dia_addCrossing 2 = .ok (.invokevirtual 166, 3) := by decide +kernel
theorem d_Dia_addCrossing_5 : decode b_Dia_addCrossing 5 = .ok (.istore 6, 2) := by decide +kernel
theorem d_Dia_addCrossing_7 : decode b_Dia_addCrossing 7 = .ok (.aload_n 2, 1) := by decide +kernel
theorem d_Dia_addCrossing_8 : decode b_Dia_addCrossing 8 = .ok (.iload_n 3, 1) := by decide +kernel
theorem d_Dia_addCrossing_9 : decode b_Dia_addCrossing 9 = .ok (.invokevirtual 170, 3) := by decide +kernel
theorem d_Dia_addCrossing_12 : decode b_Dia_addCrossing 12 = .ok (.istore 7, 2) := by decide +kernel
theorem d_Dia_addCrossing_14 : decode b_Dia_addCrossing 14 = .ok (.iload_n 1, 1) := by decide +kernel
theorem d_Dia_addCrossing_15 : decode b_Dia_addCrossing 15 = .ok (.iconst 1, 1) := by decide +kernel
theorem d_Dia_addCrossing_16 : decode b_Dia_addCrossing 16 = .ok (.if_icmp .ne 8, 3) := by decide +kernel
theorem d_Dia_addCrossing_19 : decode b_Dia_addCrossing 19 = .ok (.iload 7, 2) := by decide +kernel
theorem d_Dia_addCrossing_21 : decode b_Dia_addCrossing 21 = .ok (.goto 5, 3) := by decide +kernel
theorem d_Dia_addCrossing_24 : decode b_Dia_addCrossing 24 = .ok (.iload 6, 2) := by decide +kernel
theorem d_Dia_addCrossing_26 : decode b_Dia_addCrossing 26 = .ok (.istore 8, 2) := by decide +kernel
theorem d_Dia_addCrossing_28 : decode b_Dia_addCrossing 28 = .ok (.iload_n 1, 1) := by decide +kernel
theorem d_Dia_addCrossing_29 : decode b_Dia_addCrossing 29 = .ok (.iconst 1, 1) := by decide +kernel
theorem d_Dia_addCrossing_30 : decode b_Dia_addCrossing 30 = .ok (.if_icmp .ne 8, 3) := by decide +kernel
theorem d_Dia_addCrossing_33 : decode b_Dia_addCrossing 33 = .ok (.iload 6, 2) := by decide +kernel
theorem d_Dia_addCrossing_35 : decode b_Dia_addCrossing 35 = .ok (.goto 5, 3) := by decide +kernel
theorem d_Dia_addCrossing_38 : decode b_Dia_addCrossing 38 = .ok (.iload 7, 2) := by decide +kernel
theorem d_Dia_addCrossing_40 : decode b_Dia_addCrossing 40 = .ok (.istore 9, 2) := by decide +kernel
theorem d_Dia_addCrossing_42 : decode b_Dia_addCrossing 42 = .ok (.aload_n 0, 1) := by decide +kernel
theorem d_Dia_addCrossing_43 : decode b_Dia_addCrossing 43 = .ok (.getfield 12, 3) := by decide +kernel
theorem d_Dia_addCrossing_46 : decode b_Dia_addCrossing 46 = .ok (.iload_n 1, 1) := by decide +kernel
theorem d_Dia_addCrossing_47 : decode b_Dia_addCrossing 47 = .ok (.aload 4, 2) := by decide +kernel
theorem d_Dia_addCrossing_49 : decode b_Dia_addCrossing 49 = .ok (.iload 5, 2) := by decide +kernel
theorem d_Dia_addCrossing_51 : decode b_Dia_addCrossing 51 = .ok (.invokevirtual 166, 3) := by decide +kernel
theorem d_Dia_addCrossing_54 : decode b_Dia_addCrossing 54 = .ok (.iload 8, 2) := by decide +kernel
theorem d_Dia_addCrossing_56 : decode b_Dia_addCrossing 56 = .ok (.aload 4, 2) := by decide +kernel
theorem d_Dia_addCrossing_58 : decode b_Dia_addCrossing 58 = .ok (.iload 5, 2) := by decide +kernel
theorem d_Dia_addCrossing_60 : decode b_Dia_addCrossing 60 = .ok (.invokevirtual 170, 3) := by decide +kernel
theorem d_Dia_addCrossing_63 : decode b_Dia_addCrossing 63 = .ok (.iload 9, 2) := by decide +kernel
theorem d_Dia_addCrossing_65 : decode b_Dia_addCrossing 65 = .ok (.invokevirtual 173, 3) := by decide +kernel
theorem d_Dia_addCrossing_68 : decode b_Dia_addCrossing 68 = .ok (.return_, 1) := by decide +kernel
theorem d_Dia_pushDart_0 : decode b_Dia_pushDart 0 = .ok (.aload_n 0, 1) := by decide +kernel
theorem d_Dia_pushDart_1 : decode b_Dia_pushDart 1 = .ok (.iload_n 1, 1) := by decide +kernel
theorem d_Dia_pushDart_2 : decode b_Dia_pushDart 2 = .ok (.iload_n 2, 1) := by decide +kernel
theorem d_Dia_pushDart_3 : decode b_Dia_pushDart 3 = .ok (.invokevirtual 177, 3) := by decide +kernel
theorem d_Dia_pushDart_6 : decode b_Dia_pushDart 6 = .ok (.ifCond .ne 5, 3) := by decide +kernel
theorem d_Dia_pushDart_9 : decode b_Dia_pushDart 9 = .ok (.iconst 0, 1) := by decide +kernel
theorem d_Dia_pushDart_10 : decode b_Dia_pushDart 10 = .ok (.ireturn, 1) := by decide +kernel
theorem d_Dia_pushDart_11 : decode b_Dia_pushDart 11 = .ok (.iload_n 1, 1) := by decide +kernel
theorem d_Dia_pushDart_12 : decode b_Dia_pushDart 12 = .ok (.iconst 1, 1) := by decide +kernel
theorem d_Dia_pushDart_13 : decode b_Dia_pushDart 13 = .ok (.iand, 1) := by decide +kernel
theorem d_Dia_pushDart_14 : decode b_Dia_pushDart 14 = .ok (.ifCond .ne 7, 3) := by decide +kernel
theorem d_Dia_pushDart_17 : decode b_Dia_pushDart 17 = .ok (.iconst 1, 1) := by decide +kernel
theorem d_Dia_pushDart_18 : decode b_Dia_pushDart 18 = .ok (.goto 4, 3) := by decide +kernel
theorem d_Dia_pushDart_21 : decode b_Dia_pushDart 21 = .ok (.iconst 0, 1) := by decide +kernel
theorem d_Dia_pushDart_22 : decode b_Dia_pushDart 22 = .ok (.istore 4, 2) := by decide +kernel
theorem d_Dia_pushDart_24 : decode b_Dia_pushDart 24 = .ok (.iload_n 2, 1) := by decide +kernel
theorem d_Dia_pushDart_25 : decode b_Dia_pushDart 25 = .ok (.iconst 1, 1) := by decide +kernel
theorem d_Dia_pushDart_26 : decode b_Dia_pushDart 26 = .ok (.iand, 1) := by decide +kernel
theorem d_Dia_pushDart_27 : decode b_Dia_pushDart 27 = .ok (.ifCond .ne 7, 3) := by decide +kernel
theorem d_Dia_pushDart_30 : decode b_Dia_pushDart 30 = .ok (.iconst 1, 1) := by decide +kernel
theorem d_Dia_pushDart_31 : decode b_Dia_pushDart 31 = .ok (.goto 4, 3) := by decide +kernel
theorem d_Dia_pushDart_34 : decode b_Dia_pushDart 34 = .ok (.iconst 0, 1) := by decide +kernel
theorem d_Dia_pushDart_35 : decode b_Dia_pushDart 35 = .ok (.istore 5, 2) := by decide +kernel
theorem d_Dia_pushDart_37 : decode b_Dia_pushDart 37 = .ok (.aload_n 0, 1) := by decide +kernel
theorem d_Dia_pushDart_38 : decode b_Dia_pushDart 38 = .ok (.iload_n 1, 1) := by decide +kernel
theorem d_Dia_pushDart_39 : decode b_Dia_pushDart 39 = .ok (.iconst 1, 1) := by decide +kernel
theorem d_Dia_pushDart_40 : decode b_Dia_pushDart 40 = .ok (.ishr, 1) := by decide +kernel
theorem d_Dia_pushDart_41 : decode b_Dia_pushDart 41 = .ok (.iconst 0, 1) := by decide +kernel
theorem d_Dia_pushDart_42 : decode b_Dia_pushDart 42 = .ok (.invokevirtual 158, 3) := by decide +kernel
theorem d_Dia_pushDart_45 : decode b_Dia_pushDart 45 = .ok (.astore 6, 2) := by decide +kernel
theorem d_Dia_pushDart_47 : decode b_Dia_pushDart 47 = .ok (.aload_n 0, 1) := by decide +kernel
theorem d_Dia_pushDart_48 : decode b_Dia_pushDart 48 = .ok (.iload_n 2, 1) := by decide +kernel
theorem d_Dia_pushDart_49 : decode b_Dia_pushDart 49 = .ok (.iconst 1, 1) := by decide +kernel
theorem d_Dia_pushDart_50 : decode b_Dia_pushDart 50 = .ok (.ishr, 1) := by decide +kernel
theorem d_Dia_pushDart_51 : decode b_Dia_pushDart 51 = .ok (.aload 6, 2) := by decide +kernel
theorem d_Dia_pushDart_53 : decode b_Dia_pushDart 53 = .ok (.getfield 180, 3) := by decide +kernel
theorem d_Dia_pushDart_56 : decode b_Dia_pushDart 56 = .ok (.invokevirtual 158, 3) := by decide +kernel
theorem d_Dia_pushDart_59 : decode b_Dia_pushDart 59 = .ok (.astore 7, 2) := by decide +kernel
theorem d_Dia_pushDart_61 : decode b_Dia_pushDart 61 = .ok (.iload_n 3, 1) := by decide +kernel
theorem d_Dia_pushDart_62 : decode b_Dia_pushDart 62 = .ok (.iload 4, 2) := by decide +kernel
theorem d_Dia_pushDart_64 : decode b_Dia_pushDart 64 = .ok (.iload 5, 2) := by decide +kernel
theorem d_Dia_pushDart_66 : decode b_Dia_pushDart 66 = .ok (.if_icmp .ne 7, 3) := by decide +kernel
theorem d_Dia_pushDart_69 : decode b_Dia_pushDart 69 = .ok (.iconst 1, 1) := by decide +kernel
theorem d_Dia_pushDart_70 : decode b_Dia_pushDart 70 = .ok (.goto 4, 3) := by decide +kernel
theorem d_Dia_pushDart_73 : decode b_Dia_pushDart 73 = .ok (.iconst 0, 1) := by decide +kernel
theorem d_Dia_pushDart_74 : decode b_Dia_pushDart 74 = .ok (.if_icmp .ne 7, 3) := by decide +kernel
theorem d_Dia_pushDart_77 : decode b_Dia_pushDart 77 = .ok (.iconst 1, 1) := by decide +kernel
theorem d_Dia_pushDart_78 : decode b_Dia_pushDart 78 = .ok (.goto 4, 3) := by decide +kernel
theorem d_Dia_pushDart_81 : decode b_Dia_pushDart 81 = .ok (.iconst (-1), 1) := by decide +kernel
theorem d_Dia_pushDart_82 : decode b_Dia_pushDart 82 = .ok (.istore 8, 2) := by decide +kernel
theorem d_Dia_pushDart_84 : decode b_Dia_pushDart 84 = .ok (.iload_n 3, 1) := by decide +kernel
theorem d_Dia_pushDart_85 : decode b_Dia_pushDart 85 = .ok (.ifCond .eq 51, 3) := by decide +kernel
theorem d_Dia_pushDart_88 : decode b_Dia_pushDart 88 = .ok (.aload_n 0, 1) := by decide +kernel
theorem d_Dia_pushDart_89 : decode b_Dia_pushDart 89 = .ok (.iload 8, 2) := by decide +kernel
theorem d_Dia_pushDart_91 : decode b_Dia_pushDart 91 = .ok (.aload 6, 2) := by decide +kernel
theorem d_Dia_pushDart_93 : decode b_Dia_pushDart 93 = .ok (.iload 4, 2) := by decide +kernel
theorem d_Dia_pushDart_95 : decode b_Dia_pushDart 95 = .ok (.aload 7, 2) := by decide +kernel
theorem d_Dia_pushDart_97 : decode b_Dia_pushDart 97 = .ok (.iload 5, 2) := by decide +kernel
theorem d_Dia_pushDart_99 : decode b_Dia_pushDart 99 = .ok (.ifCond .ne 7, 3) := by decide +kernel
theorem d_Dia_pushDart_102 : decode b_Dia_pushDart 102 = .ok (.iconst 1, 1) := by decide +kernel
theorem d_Dia_pushDart_103 : decode b_Dia_pushDart 103 = .ok (.goto 4, 3) := by decide +kernel
theorem d_Dia_pushDart_106 : decode b_Dia_pushDart 106 = .ok (.iconst 0, 1) := by decide +kernel
theorem d_Dia_pushDart_107 : decode b_Dia_pushDart 107 = .ok (.invokevirtual 162, 3) := by decide +kernel
theorem d_Dia_pushDart_110 : decode b_Dia_pushDart 110 = .ok (.aload_n 0, 1) := by decide +kernel
theorem d_Dia_pushDart_111 : decode b_Dia_pushDart 111 = .ok (.iload 8, 2) := by decide +kernel
theorem d_Dia_pushDart_113 : decode b_Dia_pushDart 113 = .ok (.ineg, 1) := by decide +kernel
theorem d_Dia_pushDart_114 : decode b_Dia_pushDart 114 = .ok (.aload 6, 2) := by decide +kernel
theorem d_Dia_pushDart_116 : decode b_Dia_pushDart 116 = .ok (.iload 4, 2) := by decide +kernel
theorem d_Dia_pushDart_118 : decode b_Dia_pushDart 118 = .ok (.ifCond .ne 7, 3) := by decide +kernel
theorem d_Dia_pushDart_121 : decode b_Dia_pushDart 121 = .ok (.iconst 1, 1) := by decide +kernel
theorem d_Dia_pushDart_122 : decode b_Dia_pushDart 122 = .ok (.goto 4, 3) := by decide +kernel
theorem d_Dia_pushDart_125 : decode b_Dia_pushDart 125 = .ok (.iconst 0, 1) := by decide +kernel
theorem d_Dia_pushDart_126 : decode b_Dia_pushDart 126 = .ok (.aload 7, 2) := by decide +kernel
theorem d_Dia_pushDart_128 : decode b_Dia_pushDart 128 = .ok (.iload 5, 2) := by decide +kernel
theorem d_Dia_pushDart_130 : decode b_Dia_pushDart 130 = .ok (.invokevirtual 162, 3) := by decide +kernel
theorem d_Dia_pushDart_133 : decode b_Dia_pushDart 133 = .ok (.goto 48, 3) := by decide +kernel
theorem d_Dia_pushDart_136 : decode b_Dia_pushDart 136 = .ok (.aload_n 0, 1) := by decide +kernel
theorem d_Dia_pushDart_137 : decode b_Dia_pushDart 137 = .ok (.iload 8, 2) := by decide +kernel
theorem d_Dia_pushDart_139 : decode b_Dia_pushDart 139 = .ok (.aload 7, 2) := by decide +kernel
theorem d_Dia_pushDart_141 : decode b_Dia_pushDart 141 = .ok (.iload 5, 2) := by decide +kernel
theorem d_Dia_pushDart_143 : decode b_Dia_pushDart 143 = .ok (.ifCond .ne 7, 3) := by decide +kernel
theorem d_Dia_pushDart_146 : decode b_Dia_pushDart 146 = .ok (.iconst 1, 1) := by decide +kernel
theorem d_Dia_pushDart_147 : decode b_Dia_pushDart 147 = .ok (.goto 4, 3) := by decide +kernel
theorem d_Dia_pushDart_150 : decode b_Dia_pushDart 150 = .ok (.iconst 0, 1) := by decide +kernel
theorem d_Dia_pushDart_151 : decode b_Dia_pushDart 151 = .ok (.aload 6, 2) := by decide +kernel
theorem d_Dia_pushDart_153 : decode b_Dia_pushDart 153 = .ok (.iload 4, 2) := by decide +kernel
theorem d_Dia_pushDart_155 : decode b_Dia_pushDart 155 = .ok (.invokevirtual 162, 3) := by decide +kernel
theorem d_Dia_pushDart_158 : decode b_Dia_pushDart 158 = .ok (.aload_n 0, 1) := by decide +kernel
theorem d_Dia_pushDart_159 : decode b_Dia_pushDart 159 = .ok (.iload 8, 2) := by decide +kernel
theorem d_Dia_pushDart_161 : decode b_Dia_pushDart 161 = .ok (.ineg, 1) := by decide +kernel
theorem d_Dia_pushDart_162 : decode b_Dia_pushDart 162 = .ok (.aload 7, 2) := by decide +kernel
theorem d_Dia_pushDart_164 : decode b_Dia_pushDart 164 = .ok (.iload 5, 2) := by decide +kernel
theorem d_Dia_pushDart_166 : decode b_Dia_pushDart 166 = .ok (.aload 6, 2) := by decide +kernel
theorem d_Dia_pushDart_168 : decode b_Dia_pushDart 168 = .ok (.iload 4, 2) := by decide +kernel
theorem d_Dia_pushDart_170 : decode b_Dia_pushDart 170 = .ok (.ifCond .ne 7, 3) := by decide +kernel
theorem d_Dia_pushDart_173 : decode b_Dia_pushDart 173 = .ok (.iconst 1, 1) := by decide +kernel
theorem d_Dia_pushDart_174 : decode b_Dia_pushDart 174 = .ok (.goto 4, 3) := by decide +kernel
theorem d_Dia_pushDart_177 : decode b_Dia_pushDart 177 = .ok (.iconst 0, 1) := by decide +kernel
theorem d_Dia_pushDart_178 : decode b_Dia_pushDart 178 = .ok (.invokevirtual 162, 3) := by decide +kernel
theorem d_Dia_pushDart_181 : decode b_Dia_pushDart 181 = .ok (.aload_n 0, 1) := by decide +kernel
theorem d_Dia_pushDart_182 : decode b_Dia_pushDart 182 = .ok (.invokevirtual 104, 3) := by decide +kernel
theorem d_Dia_pushDart_185 : decode b_Dia_pushDart 185 = .ok (.pop, 1) := by decide +kernel
theorem d_Dia_pushDart_186 : decode b_Dia_pushDart 186 = .ok (.iconst 1, 1) := by decide +kernel
theorem d_Dia_pushDart_187 : decode b_Dia_pushDart 187 = .ok (.ireturn, 1) := by decide +kernel
theorem d_Dia_canMeet_0 : decode b_Dia_canMeet 0 = .ok (.aload_n 0, 1) := by decide +kernel
theorem d_Dia_canMeet_1 : decode b_Dia_canMeet 1 = .ok (.getfield 35, 3) := by decide +kernel
theorem d_Dia_canMeet_4 : decode b_Dia_canMeet 4 = .ok (.getfield 183, 3) := by decide +kernel
theorem d_Dia_canMeet_7 : decode b_Dia_canMeet 7 = .ok (.aload_n 0, 1) := by decide +kernel
theorem d_Dia_canMeet_8 : decode b_Dia_canMeet 8 = .ok (.iload_n 1, 1) := by decide +kernel
theorem d_Dia_canMeet_9 : decode b_Dia_canMeet 9 = .ok (.invokevirtual 78, 3) := by decide +kernel
theorem d_Dia_canMeet_12 : decode b_Dia_canMeet 12 = .ok (.iaload, 1) := by decide +kernel
theorem d_Dia_canMeet_13 : decode b_Dia_canMeet 13 = .ok (.istore_n 3, 1) := by decide +kernel
theorem d_Dia_canMeet_14 : decode b_Dia_canMeet 14 = .ok (.aload_n 0, 1) := by decide +kernel
theorem d_Dia_canMeet_15 : decode b_Dia_canMeet 15 = .ok (.getfield 35, 3) := by decide +kernel
theorem d_Dia_canMeet_18 : decode b_Dia_canMeet 18 = .ok (.getfield 183, 3) := by decide +kernel
theorem d_Dia_canMeet_21 : decode b_Dia_canMeet 21 = .ok (.aload_n 0, 1) := by decide +kernel
theorem d_Dia_canMeet_22 : decode b_Dia_canMeet 22 = .ok (.iload_n 2, 1) := by decide +kernel
theorem d_Dia_canMeet_23 : decode b_Dia_canMeet 23 = .ok (.invokevirtual 78, 3) := by decide +kernel
theorem d_Dia_canMeet_26 : decode b_Dia_canMeet 26 = .ok (.iaload, 1) := by decide +kernel
theorem d_Dia_canMeet_27 : decode b_Dia_canMeet 27 = .ok (.istore 4, 2) := by decide +kernel
theorem d_Dia_canMeet_29 : decode b_Dia_canMeet 29 = .ok (.iload_n 3, 1) := by decide +kernel
theorem d_Dia_canMeet_30 : decode b_Dia_canMeet 30 = .ok (.iload 4, 2) := by decide +kernel
theorem d_Dia_canMeet_32 : decode b_Dia_canMeet 32 = .ok (.if_icmp .ne 24, 3) := by decide +kernel
theorem d_Dia_canMeet_35 : decode b_Dia_canMeet 35 = .ok (.aload_n 0, 1) := by decide +kernel
theorem d_Dia_canMeet_36 : decode b_Dia_canMeet 36 = .ok (.getfield 28, 3) := by decide +kernel
theorem d_Dia_canMeet_39 : decode b_Dia_canMeet 39 = .ok (.getfield 186, 3) := by decide +kernel
theorem d_Dia_canMeet_42 : decode b_Dia_canMeet 42 = .ok (.iload_n 1, 1) := by decide +kernel
theorem d_Dia_canMeet_43 : decode b_Dia_canMeet 43 = .ok (.iaload, 1) := by decide +kernel
theorem d_Dia_canMeet_44 : decode b_Dia_canMeet 44 = .ok (.aload_n 0, 1) := by decide +kernel
theorem d_Dia_canMeet_45 : decode b_Dia_canMeet 45 = .ok (.getfield 28, 3) := by decide +kernel
theorem d_Dia_canMeet_48 : decode b_Dia_canMeet 48 = .ok (.getfield 186, 3) := by decide +kernel
theorem d_Dia_canMeet_51 : decode b_Dia_canMeet 51 = .ok (.iload_n 2, 1) := by decide +kernel
theorem d_Dia_canMeet_52 : decode b_Dia_canMeet 52 = .ok (.iaload, 1) := by decide +kernel
theorem d_Dia_canMeet_53 : decode b_Dia_canMeet 53 = .ok (.if_icmp .ne 7, 3) := by decide +kernel
theorem d_Dia_canMeet_56 : decode b_Dia_canMeet 56 = .ok (.iconst 1, 1) := by decide +kernel
theorem d_Dia_canMeet_57 : decode b_Dia_canMeet 57 = .ok (.goto 4, 3) := by decide +kernel
theorem d_Dia_canMeet_60 : decode b_Dia_canMeet 60 = .ok (.iconst 0, 1) := by decide +kernel
theorem d_Dia_canMeet_61 : decode b_Dia_canMeet 61 = .ok (.ireturn, 1) := by decide +kernel
end
section
theorem d_Mov_init_0 : decode b_Mov_init 0 = .ok (.aload_n 0, 1) := by decide +kernel
theorem d_Mov_init_1 : decode b_Mov_init 1 = .ok (.invokespecial 3, 3) := by decide +kernel
theorem d_Mov_init_4 : decode b_Mov_init 4 = .ok (.aload_n 0, 1) := by decide +kernel
theorem d_Mov_init_5 : decode b_Mov_init 5 = .ok (.new 9, 3) := by decide +kernel
theorem d_Mov_init_8 : decode b_Mov_init 8 = .ok (.dup, 1) := by decide +kernel
theorem d_Mov_init_9 : decode b_Mov_init 9 = .ok (.invokespecial 11, 3) := by decide +kernel
theorem d_Mov_init_12 : decode b_Mov_init 12 = .ok (.putfield 12, 3) := by decide +kernel
theorem d_Mov_init_15 : decode b_Mov_init 15 = .ok (.aload_n 0, 1) := by decide +kernel
theorem d_Mov_init_16 : decode b_Mov_init 16 = .ok (.new 9, 3) := by decide +kernel
theorem d_Mov_init_19 : decode b_Mov_init 19 = .ok (.dup, 1) := by decide +kernel
theorem d_Mov_init_20 : decode b_Mov_init 20 = .ok (.invokespecial 11, 3) := by decide +kernel
theorem d_Mov_init_23 : decode b_Mov_init 23 = .ok (.putfield 16, 3) := by decide +kernel
theorem d_Mov_init_26 : decode b_Mov_init 26 = .ok (.return_, 1) := by decide +kernel
theorem d_Mov_crossing_0 : decode b_Mov_crossing 0 = .ok (.iload_n 2, 1) := by decide +kernel
theorem d_Mov_crossing_1 : decode b_Mov_crossing 1 = .ok (.invokestatic 19, 3) := by decide +kernel
theorem d_Mov_crossing_4 : decode b_Mov_crossing 4 = .ok (.ifCond .eq 30, 3) := by decide +kernel
theorem d_Mov_crossing_7 : decode b_Mov_crossing 7 = .ok (.iload_n 3, 1) := by decide +kernel
theorem d_Mov_crossing_8 : decode b_Mov_crossing 8 = .ok (.invokestatic 19, 3) := by decide +kernel
theorem d_Mov_crossing_11 : decode b_Mov_crossing 11 = .ok (.ifCond .eq 23, 3) := by decide +kernel
theorem d_Mov_crossing_14 : decode b_Mov_crossing 14 = .ok (.iload 4, 2) := by decide +kernel
theorem d_Mov_crossing_16 : decode b_Mov_crossing 16 = .ok (.invokestatic 19, 3) := by decide +kernel
theorem d_Mov_crossing_19 : decode b_Mov_crossing 19 = .ok (.ifCond .eq 15, 3) := by decide +kernel
theorem d_Mov_crossing_22 : decode b_Mov_crossing 22 = .ok (.iload 5, 2) := by decide +kernel
theorem d_Mov_crossing_24 : decode b_Mov_crossing 24 = .ok (.invokestatic 19, 3) := by decide +kernel
theorem d_Mov_crossing_27 : decode b_Mov_crossing 27 = .ok (.ifCond .eq 7, 3) := by decide +kernel
theorem d_Mov_crossing_30 : decode b_Mov_crossing 30 = .ok (.iconst 1, 1) := by decide +kernel
theorem d_Mov_crossing_31 : decode b_Mov_crossing 31 = .ok (.goto 4, 3) := by decide +kernel
theorem d_Mov_crossing_34 : decode b_Mov_crossing 34 = .ok (.iconst 0, 1) := by decide +kernel
theorem d_Mov_crossing_35 : decode b_Mov_crossing 35 = .ok (.istore 6, 2) := by decide +kernel
theorem d_Mov_crossing_37 : decode b_Mov_crossing 37 = .ok (.iload_n 1, 1) := by decide +kernel
theorem d_Mov_crossing_38 : decode b_Mov_crossing 38 = .ok (.invokestatic 23, 3) := by decide +kernel
theorem d_Mov_crossing_41 : decode b_Mov_crossing 41 = .ok (.ifCond .eq 21, 3) := by decide +kernel
theorem d_Mov_crossing_44 : decode b_Mov_crossing 44 = .ok (.iload 6, 2) := by decide +kernel
theorem d_Mov_crossing_46 : decode b_Mov_crossing 46 = .ok (.ifCond .eq 16, 3) := by decide +kernel
theorem d_Mov_crossing_49 : decode b_Mov_crossing 49 = .ok (.aload_n 0, 1) := by decide +kernel
theorem d_Mov_crossing_50 : decode b_Mov_crossing 50 = .ok (.getfield 16, 3) := by decide +kernel
theorem d_Mov_crossing_53 : decode b_Mov_crossing 53 = .ok (.getfield 26, 3) := by decide +kernel
theorem d_Mov_crossing_56 : decode b_Mov_crossing 56 = .ok (.invokevirtual 30, 3) := by decide +kernel
theorem d_Mov_crossing_59 : decode b_Mov_crossing 59 = .ok (.ifCond .eq 5, 3) := by decide +kernel
theorem d_Mov_crossing_62 : decode b_Mov_crossing 62 = .ok (.iconst (-1), 1) := by decide +kernel
theorem d_Mov_crossing_63 : decode b_Mov_crossing 63 = .ok (.ireturn, 1) := by decide +kernel
theorem d_Mov_crossing_64 : decode b_Mov_crossing 64 = .ok (.aload_n 0, 1) := by decide +kernel
theorem d_Mov_crossing_65 : decode b_Mov_crossing 65 = .ok (.getfield 16, 3) := by decide +kernel
theorem d_Mov_crossing_68 : decode b_Mov_crossing 68 = .ok (.getfield 26, 3) := by decide +kernel
theorem d_Mov_crossing_71 : decode b_Mov_crossing 71 = .ok (.iload_n 1, 1) := by decide +kernel
theorem d_Mov_crossing_72 : decode b_Mov_crossing 72 = .ok (.iload_n 2, 1) := by decide +kernel
theorem d_Mov_crossing_73 : decode b_Mov_crossing 73 = .ok (.iload_n 3, 1) := by decide +kernel
theorem d_Mov_crossing_74 : decode b_Mov_crossing 74 = .ok (.iload 4, 2) := by decide +kernel
theorem d_Mov_crossing_76 : decode b_Mov_crossing 76 = .ok (.iload 5, 2) := by decide +kernel
theorem d_Mov_crossing_78 : decode b_Mov_crossing 78 = .ok (.invokevirtual 36, 3) := by decide +kernel
theorem d_Mov_crossing_81 : decode b_Mov_crossing 81 = .ok (.aload_n 0, 1) := by decide +kernel
theorem d_Mov_crossing_82 : decode b_Mov_crossing 82 = .ok (.getfield 16, 3) := by decide +kernel
theorem d_Mov_crossing_85 : decode b_Mov_crossing 85 = .ok (.getfield 26, 3) := by decide +kernel
theorem d_Mov_crossing_88 : decode b_Mov_crossing 88 = .ok (.getfield 40, 3) := by decide +kernel
theorem d_Mov_crossing_91 : decode b_Mov_crossing 91 = .ok (.ireturn, 1) := by decide +kernel
theorem d_Mov_check_0 : decode b_Mov_check 0 = .ok (.iload_n 1, 1) := by decide +kernel
theorem d_Mov_check_1 : decode b_Mov_check 1 = .ok (.ifCond .lt 9, 3) := by decide +kernel
theorem d_Mov_check_4 : decode b_Mov_check 4 = .ok (.iload_n 1, 1) := by decide +kernel
theorem d_Mov_check_5 : decode b_Mov_check 5 = .ok (.bipush 20, 2) := by decide +kernel
theorem d_Mov_check_7 : decode b_Mov_check 7 = .ok (.if_icmp .le 5, 3) := by decide +kernel
theorem d_Mov_check_10 : decode b_Mov_check 10 = .ok (.iconst (-1), 1) := by decide +kernel
theorem d_Mov_check_11 : decode b_Mov_check 11 = .ok (.ireturn, 1) := by decide +kernel
theorem d_Mov_check_12 : decode b_Mov_check 12 = .ok (.aload_n 0, 1) := by decide +kernel
theorem d_Mov_check_13 : decode b_Mov_check 13 = .ok (.getfield 16, 3) := by decide +kernel
theorem d_Mov_check_16 : decode b_Mov_check 16 = .ok (.invokevirtual 44, 3) := by decide +kernel
theorem d_Mov_check_19 : decode b_Mov_check 19 = .ok (.istore_n 2, 1) := by decide +kernel
theorem d_Mov_check_20 : decode b_Mov_check 20 = .ok (.iload_n 2, 1) := by decide +kernel
theorem d_Mov_check_21 : decode b_Mov_check 21 = .ok (.ifCond .ne 29, 3) := by decide +kernel
theorem d_Mov_check_24 : decode b_Mov_check 24 = .ok (.aload_n 0, 1) := by decide +kernel
theorem d_Mov_check_25 : decode b_Mov_check 25 = .ok (.getfield 12, 3) := by decide +kernel
theorem d_Mov_check_28 : decode b_Mov_check 28 = .ok (.astore_n 3, 1) := by decide +kernel
theorem d_Mov_check_29 : decode b_Mov_check 29 = .ok (.aload_n 0, 1) := by decide +kernel
theorem d_Mov_check_30 : decode b_Mov_check 30 = .ok (.aload_n 0, 1) := by decide +kernel
theorem d_Mov_check_31 : decode b_Mov_check 31 = .ok (.getfield 16, 3) := by decide +kernel
theorem d_Mov_check_34 : decode b_Mov_check 34 = .ok (.putfield 12, 3) := by decide +kernel
theorem d_Mov_check_37 : decode b_Mov_check 37 = .ok (.aload_n 0, 1) := by decide +kernel
theorem d_Mov_check_38 : decode b_Mov_check 38 = .ok (.getfield 12, 3) := by decide +kernel
theorem d_Mov_check_41 : decode b_Mov_check 41 = .ok (.iload_n 1, 1) := by decide +kernel
theorem d_Mov_check_42 : decode b_Mov_check 42 = .ok (.putfield 48, 3) := by decide +kernel
theorem d_Mov_check_45 : decode b_Mov_check 45 = .ok (.aload_n 0, 1) := by decide +kernel
theorem d_Mov_check_46 : decode b_Mov_check 46 = .ok (.aload_n 3, 1) := by decide +kernel
theorem d_Mov_check_47 : decode b_Mov_check 47 = .ok (.putfield 16, 3) := by decide +kernel
theorem d_Mov_check_50 : decode b_Mov_check 50 = .ok (.aload_n 0, 1) := by decide +kernel
theorem d_Mov_check_51 : decode b_Mov_check 51 = .ok (.getfield 16, 3) := by decide +kernel
theorem d_Mov_check_54 : decode b_Mov_check 54 = .ok (.getfield 26, 3) := by decide +kernel
theorem d_Mov_check_57 : decode b_Mov_check 57 = .ok (.iconst 0, 1) := by decide +kernel
theorem d_Mov_check_58 : decode b_Mov_check 58 = .ok (.putfield 40, 3) := by decide +kernel
theorem d_Mov_check_61 : decode b_Mov_check 61 = .ok (.iload_n 2, 1) := by decide +kernel
theorem d_Mov_check_62 : decode b_Mov_check 62 = .ok (.ireturn, 1) := by decide +kernel
theorem d_Mov_many_0 : decode b_Mov_many 0 = .ok (.iload_n 1, 1) := by decide +kernel
theorem d_Mov_many_1 : decode b_Mov_many 1 = .ok (.tableswitch 149 0 7 #[47, 58, 66, 77, 88, 107, 126, 137], 47) := by decide +kernel
theorem d_Mov_many_48 : decode b_Mov_many 48 = .ok (.aload_n 0, 1) := by decide +kernel
theorem d_Mov_many_49 : decode b_Mov_many 49 = .ok (.getfield 12, 3) := by decide +kernel
theorem d_Mov_many_52 : decode b_Mov_many 52 = .ok (.getfield 26, 3) := by decide +kernel
theorem d_Mov_many_55 : decode b_Mov_many 55 = .ok (.getfield 40, 3) := by decide +kernel
theorem d_Mov_many_58 : decode b_Mov_many 58 = .ok (.ireturn, 1) := by decide +kernel
theorem d_Mov_many_59 : decode b_Mov_many 59 = .ok (.aload_n 0, 1) := by decide +kernel
theorem d_Mov_many_60 : decode b_Mov_many 60 = .ok (.getfield 12, 3) := by decide +kernel
theorem d_Mov_many_63 : decode b_Mov_many 63 = .ok (.getfield 48, 3) := by decide +kernel
theorem d_Mov_many_66 : decode b_Mov_many 66 = .ok (.ireturn, 1) := by decide +kernel
theorem d_Mov_many_67 : decode b_Mov_many 67 = .ok (.aload_n 0, 1) := by decide +kernel
theorem d_Mov_many_68 : decode b_Mov_many 68 = .ok (.getfield 12, 3) := by decide +kernel
theorem d_Mov_many_71 : decode b_Mov_many 71 = .ok (.getfield 26, 3) := by decide +kernel
theorem d_Mov_many_74 : decode b_Mov_many 74 = .ok (.invokevirtual 51, 3) := by decide +kernel
theorem d_Mov_many_77 : decode b_Mov_many 77 = .ok (.ireturn, 1) := by decide +kernel
theorem d_Mov_many_78 : decode b_Mov_many 78 = .ok (.aload_n 0, 1) := by decide +kernel
theorem d_Mov_many_79 : decode b_Mov_many 79 = .ok (.getfield 12, 3) := by decide +kernel
theorem d_Mov_many_82 : decode b_Mov_many 82 = .ok (.getfield 54, 3) := by decide +kernel
theorem d_Mov_many_85 : decode b_Mov_many 85 = .ok (.getfield 58, 3) := by decide +kernel
theorem d_Mov_many_88 : decode b_Mov_many 88 = .ok (.ireturn, 1) := by decide +kernel
theorem d_Mov_many_89 : decode b_Mov_many 89 = .ok (.aload_n 0, 1) := by decide +kernel
theorem d_Mov_many_90 : decode b_Mov_many 90 = .ok (.getfield 12, 3) := by decide +kernel
theorem d_Mov_many_93 : decode b_Mov_many 93 = .ok (.getfield 61, 3) := by decide +kernel
theorem d_Mov_many_96 : decode b_Mov_many 96 = .ok (.getfield 65, 3) := by decide +kernel
theorem d_Mov_many_99 : decode b_Mov_many 99 = .ok (.aload_n 0, 1) := by decide +kernel
theorem d_Mov_many_100 : decode b_Mov_many 100 = .ok (.getfield 12, 3) := by decide +kernel
theorem d_Mov_many_103 : decode b_Mov_many 103 = .ok (.getfield 48, 3) := by decide +kernel
theorem d_Mov_many_106 : decode b_Mov_many 106 = .ok (.iadd, 1) := by decide +kernel
theorem d_Mov_many_107 : decode b_Mov_many 107 = .ok (.ireturn, 1) := by decide +kernel
theorem d_Mov_many_108 : decode b_Mov_many 108 = .ok (.aload_n 0, 1) := by decide +kernel
theorem d_Mov_many_109 : decode b_Mov_many 109 = .ok (.getfield 12, 3) := by decide +kernel
theorem d_Mov_many_112 : decode b_Mov_many 112 = .ok (.getfield 61, 3) := by decide +kernel
theorem d_Mov_many_115 : decode b_Mov_many 115 = .ok (.getfield 70, 3) := by decide +kernel
theorem d_Mov_many_118 : decode b_Mov_many 118 = .ok (.aload_n 0, 1) := by decide +kernel
theorem d_Mov_many_119 : decode b_Mov_many 119 = .ok (.getfield 12, 3) := by decide +kernel
theorem d_Mov_many_122 : decode b_Mov_many 122 = .ok (.getfield 48, 3) := by decide +kernel
theorem d_Mov_many_125 : decode b_Mov_many 125 = .ok (.iadd, 1) := by decide +kernel
theorem d_Mov_many_126 : decode b_Mov_many 126 = .ok (.ireturn, 1) := by decide +kernel
theorem d_Mov_many_127 : decode b_Mov_many 127 = .ok (.aload_n 0, 1) := by decide +kernel
theorem d_Mov_many_128 : decode b_Mov_many 128 = .ok (.getfield 16, 3) := by decide +kernel
theorem d_Mov_many_131 : decode b_Mov_many 131 = .ok (.getfield 26, 3) := by decide +kernel
theorem d_Mov_many_134 : decode b_Mov_many 134 = .ok (.getfield 40, 3) := by decide +kernel
theorem d_Mov_many_137 : decode b_Mov_many 137 = .ok (.ireturn, 1) := by decide +kernel
theorem d_Mov_many_138 : decode b_Mov_many 138 = .ok (.aload_n 0, 1) := by decide +kernel
theorem d_Mov_many_139 : decode b_Mov_many 139 = .ok (.getfield 12, 3) := by decide +kernel
theorem d_Mov_many_142 : decode b_Mov_many 142 = .ok (.getfield 71, 3) := by decide +kernel
theorem d_Mov_many_145 : decode b_Mov_many 145 = .ok (.iconst 0, 1) := by decide +kernel
theorem d_Mov_many_146 : decode b_Mov_many 146 = .ok (.invokevirtual 75, 3) := by decide +kernel
theorem d_Mov_many_149 : decode b_Mov_many 149 = .ok (.ireturn, 1) := by decide +kernel
theorem d_Mov_many_150 : decode b_Mov_many 150 = .ok (.sipush (-1000), 3) := by decide +kernel
theorem d_Mov_many_153 : decode b_Mov_many 153 = .ok (.ireturn, 1) := by decide +kernel
theorem d_Mov_look_0 : decode b_Mov_look 0 = .ok (.iload_n 1, 1) := by decide +kernel
theorem d_Mov_look_1 : decode b_Mov_look 1 = .ok (.ifCond .lt 26, 3) := by decide +kernel
theorem d_Mov_look_4 : decode b_Mov_look 4 = .ok (.iload_n 1, 1) := by decide +kernel
theorem d_Mov_look_5 : decode b_Mov_look 5 = .ok (.aload_n 0, 1) := by decide +kernel
theorem d_Mov_look_6 : decode b_Mov_look 6 = .ok (.getfield 12, 3) := by decide +kernel
theorem d_Mov_look_9 : decode b_Mov_look 9 = .ok (.getfield 26, 3) := by decide +kernel
theorem d_Mov_look_12 : decode b_Mov_look 12 = .ok (.getfield 40, 3) := by decide +kernel
theorem d_Mov_look_15 : decode b_Mov_look 15 = .ok (.if_icmp .ge 12, 3) := by decide +kernel
theorem d_Mov_look_18 : decode b_Mov_look 18 = .ok (.iload_n 2, 1) := by decide +kernel
theorem d_Mov_look_19 : decode b_Mov_look 19 = .ok (.ifCond .lt 8, 3) := by decide +kernel
theorem d_Mov_look_22 : decode b_Mov_look 22 = .ok (.iload_n 2, 1) := by decide +kernel
theorem d_Mov_look_23 : decode b_Mov_look 23 = .ok (.iconst 4, 1) := by decide +kernel
theorem d_Mov_look_24 : decode b_Mov_look 24 = .ok (.if_icmp .le 5, 3) := by decide +kernel
theorem d_Mov_look_27 : decode b_Mov_look 27 = .ok (.iconst 0, 1) := by decide +kernel
theorem d_Mov_look_28 : decode b_Mov_look 28 = .ok (.ireturn, 1) := by decide +kernel
theorem d_Mov_look_29 : decode b_Mov_look 29 = .ok (.iload_n 2, 1) := by decide +kernel
theorem d_Mov_look_30 : decode b_Mov_look 30 = .ok (.iconst 4, 1) := by decide +kernel
theorem d_Mov_look_31 : decode b_Mov_look 31 = .ok (.if_icmp .ne 18, 3) := by decide +kernel
theorem d_Mov_look_34 : decode b_Mov_look 34 = .ok (.aload_n 0, 1) := by decide +kernel
theorem d_Mov_look_35 : decode b_Mov_look 35 = .ok (.getfield 12, 3) := by decide +kernel
theorem d_Mov_look_38 : decode b_Mov_look 38 = .ok (.getfield 26, 3) := by decide +kernel
theorem d_Mov_look_41 : decode b_Mov_look 41 = .ok (.getfield 81, 3) := by decide +kernel
theorem d_Mov_look_44 : decode b_Mov_look 44 = .ok (.iload_n 1, 1) := by decide +kernel
theorem d_Mov_look_45 : decode b_Mov_look 45 = .ok (.iaload, 1) := by decide +kernel
theorem d_Mov_look_46 : decode b_Mov_look 46 = .ok (.goto 19, 3) := by decide +kernel
theorem d_Mov_look_49 : decode b_Mov_look 49 = .ok (.aload_n 0, 1) := by decide +kernel
theorem d_Mov_look_50 : decode b_Mov_look 50 = .ok (.getfield 12, 3) := by decide +kernel
theorem d_Mov_look_53 : decode b_Mov_look 53 = .ok (.getfield 26, 3) := by decide +kernel
theorem d_Mov_look_56 : decode b_Mov_look 56 = .ok (.getfield 85, 3) := by decide +kernel
theorem d_Mov_look_59 : decode b_Mov_look 59 = .ok (.iconst 4, 1) := by decide +kernel
theorem d_Mov_look_60 : decode b_Mov_look 60 = .ok (.iload_n 1, 1) := by decide +kernel
theorem d_Mov_look_61 : decode b_Mov_look 61 = .ok (.imul, 1) := by decide +kernel
theorem d_Mov_look_62 : decode b_Mov_look 62 = .ok (.iload_n 2, 1) := by decide +kernel
theorem d_Mov_look_63 : decode b_Mov_look 63 = .ok (.iadd, 1) := by decide +kernel
theorem d_Mov_look_64 : decode b_Mov_look 64 = .ok (.iaload, 1) := by decide +kernel
theorem d_Mov_look_65 : decode b_Mov_look 65 = .ok (.ireturn, 1) := by decide +kernel
theorem d_Mov_face_0 : decode b_Mov_face 0 = .ok (.aload_n 0, 1) := by decide +kernel
theorem d_Mov_face_1 : decode b_Mov_face 1 = .ok (.getfield 12, 3) := by decide +kernel
theorem d_Mov_face_4 : decode b_Mov_face 4 = .ok (.getfield 54, 3) := by decide +kernel
theorem d_Mov_face_7 : decode b_Mov_face 7 = .ok (.iload_n 1, 1) := by decide +kernel
theorem d_Mov_face_8 : decode b_Mov_face 8 = .ok (.invokevirtual 88, 3) := by decide +kernel
theorem d_Mov_face_11 : decode b_Mov_face 11 = .ok (.ifCond .ne 5, 3) := by decide +kernel
theorem d_Mov_face_14 : decode b_Mov_face 14 = .ok (.iconst 0, 1) := by decide +kernel
theorem d_Mov_face_15 : decode b_Mov_face 15 = .ok (.ireturn, 1) := by decide +kernel
theorem d_Mov_face_16 : decode b_Mov_face 16 = .ok (.aload_n 0, 1) := by decide +kernel
theorem d_Mov_face_17 : decode b_Mov_face 17 = .ok (.getfield 12, 3) := by decide +kernel
theorem d_Mov_face_20 : decode b_Mov_face 20 = .ok (.getfield 54, 3) := by decide +kernel
theorem d_Mov_face_23 : decode b_Mov_face 23 = .ok (.iload_n 1, 1) := by decide +kernel
theorem d_Mov_face_24 : decode b_Mov_face 24 = .ok (.invokevirtual 91, 3) := by decide +kernel
theorem d_Mov_face_27 : decode b_Mov_face 27 = .ok (.istore_n 3, 1) := by decide +kernel
theorem d_Mov_face_28 : decode b_Mov_face 28 = .ok (.iload_n 2, 1) := by decide +kernel
theorem d_Mov_face_29 : decode b_Mov_face 29 = .ok (.iconst (-1), 1) := by decide +kernel
theorem d_Mov_face_30 : decode b_Mov_face 30 = .ok (.if_icmp .ne 5, 3) := by decide +kernel
theorem d_Mov_face_33 : decode b_Mov_face 33 = .ok (.iload_n 3, 1) := by decide +kernel
theorem d_Mov_face_34 : decode b_Mov_face 34 = .ok (.ireturn, 1) := by decide +kernel
theorem d_Mov_face_35 : decode b_Mov_face 35 = .ok (.iload_n 2, 1) := by decide +kernel
theorem d_Mov_face_36 : decode b_Mov_face 36 = .ok (.ifCond .lt 8, 3) := by decide +kernel
theorem d_Mov_face_39 : decode b_Mov_face 39 = .ok (.iload_n 2, 1) := by decide +kernel
theorem d_Mov_face_40 : decode b_Mov_face 40 = .ok (.iload_n 3, 1) := by decide +kernel
theorem d_Mov_face_41 : decode b_Mov_face 41 = .ok (.if_icmp .lt 5, 3) := by decide +kernel
theorem d_Mov_face_44 : decode b_Mov_face 44 = .ok (.iconst 0, 1) := by decide +kernel
theorem d_Mov_face_45 : decode b_Mov_face 45 = .ok (.ireturn, 1) := by decide +kernel
theorem d_Mov_face_46 : decode b_Mov_face 46 = .ok (.aload_n 0, 1) := by decide +kernel
theorem d_Mov_face_47 : decode b_Mov_face 47 = .ok (.getfield 12, 3) := by decide +kernel
theorem d_Mov_face_50 : decode b_Mov_face 50 = .ok (.getfield 71, 3) := by decide +kernel
theorem d_Mov_face_53 : decode b_Mov_face 53 = .ok (.aload_n 0, 1) := by decide +kernel
theorem d_Mov_face_54 : decode b_Mov_face 54 = .ok (.getfield 12, 3) := by decide +kernel
theorem d_Mov_face_57 : decode b_Mov_face 57 = .ok (.getfield 54, 3) := by decide +kernel
theorem d_Mov_face_60 : decode b_Mov_face 60 = .ok (.iload_n 1, 1) := by decide +kernel
theorem d_Mov_face_61 : decode b_Mov_face 61 = .ok (.iload_n 2, 1) := by decide +kernel
theorem d_Mov_face_62 : decode b_Mov_face 62 = .ok (.invokevirtual 94, 3) := by decide +kernel
theorem d_Mov_face_65 : decode b_Mov_face 65 = .ok (.invokevirtual 98, 3) := by decide +kernel
theorem d_Mov_face_68 : decode b_Mov_face 68 = .ok (.ireturn, 1) := by decide +kernel
theorem d_Mov_pattern_0 : decode b_Mov_pattern 0 = .ok (.aload_n 0, 1) := by decide +kernel
theorem d_Mov_pattern_1 : decode b_Mov_pattern 1 = .ok (.getfield 12, 3) := by decide +kernel
theorem d_Mov_pattern_4 : decode b_Mov_pattern 4 = .ok (.getfield 54, 3) := by decide +kernel
theorem d_Mov_pattern_7 : decode b_Mov_pattern 7 = .ok (.iload_n 1, 1) := by decide +kernel
theorem d_Mov_pattern_8 : decode b_Mov_pattern 8 = .ok (.invokevirtual 88, 3) := by decide +kernel
theorem d_Mov_pattern_11 : decode b_Mov_pattern 11 = .ok (.ifCond .eq 14, 3) := by decide +kernel
theorem d_Mov_pattern_14 : decode b_Mov_pattern 14 = .ok (.aload_n 0, 1) := by decide +kernel
theorem d_Mov_pattern_15 : decode b_Mov_pattern 15 = .ok (.getfield 12, 3) := by decide +kernel
theorem d_Mov_pattern_18 : decode b_Mov_pattern 18 = .ok (.iload_n 1, 1) := by decide +kernel
theorem d_Mov_pattern_19 : decode b_Mov_pattern 19 = .ok (.invokevirtual 101, 3) := by decide +kernel
theorem d_Mov_pattern_22 : decode b_Mov_pattern 22 = .ok (.goto 4, 3) := by decide +kernel
theorem d_Mov_pattern_25 : decode b_Mov_pattern 25 = .ok (.iconst (-1), 1) := by decide +kernel
theorem d_Mov_pattern_26 : decode b_Mov_pattern 26 = .ok (.ireturn, 1) := by decide +kernel
theorem d_Mov_undo_0 : decode b_Mov_undo 0 = .ok (.aload_n 0, 1) := by decide +kernel
theorem d_Mov_undo_1 : decode b_Mov_undo 1 = .ok (.getfield 12, 3) := by decide +kernel
theorem d_Mov_undo_4 : decode b_Mov_undo 4 = .ok (.getfield 54, 3) := by decide +kernel
theorem d_Mov_undo_7 : decode b_Mov_undo 7 = .ok (.iload_n 1, 1) := by decide +kernel
theorem d_Mov_undo_8 : decode b_Mov_undo 8 = .ok (.invokevirtual 88, 3) := by decide +kernel
theorem d_Mov_undo_11 : decode b_Mov_undo 11 = .ok (.ifCond .eq 14, 3) := by decide +kernel
theorem d_Mov_undo_14 : decode b_Mov_undo 14 = .ok (.aload_n 0, 1) := by decide +kernel
theorem d_Mov_undo_15 : decode b_Mov_undo 15 = .ok (.getfield 12, 3) := by decide +kernel
theorem d_Mov_undo_18 : decode b_Mov_undo 18 = .ok (.iload_n 1, 1) := by decide +kernel
theorem d_Mov_undo_19 : decode b_Mov_undo 19 = .ok (.invokevirtual 104, 3) := by decide +kernel
theorem d_Mov_undo_22 : decode b_Mov_undo 22 = .ok (.goto 4, 3) := by decide +kernel
theorem d_Mov_undo_25 : decode b_Mov_undo 25 = .ok (.iconst 0, 1) := by decide +kernel
theorem d_Mov_undo_26 : decode b_Mov_undo 26 = .ok (.ireturn, 1) := by decide +kernel
theorem d_Mov_slide_0 : decode b_Mov_slide 0 = .ok (.aload_n 0, 1) := by decide +kernel
theorem d_Mov_slide_1 : decode b_Mov_slide 1 = .ok (.getfield 12, 3) := by decide +kernel
theorem d_Mov_slide_4 : decode b_Mov_slide 4 = .ok (.getfield 54, 3) := by decide +kernel
theorem d_Mov_slide_7 : decode b_Mov_slide 7 = .ok (.iload_n 1, 1) := by decide +kernel
theorem d_Mov_slide_8 : decode b_Mov_slide 8 = .ok (.invokevirtual 88, 3) := by decide +kernel
theorem d_Mov_slide_11 : decode b_Mov_slide 11 = .ok (.ifCond .eq 18, 3) := by decide +kernel
theorem d_Mov_slide_14 : decode b_Mov_slide 14 = .ok (.aload_n 0, 1) := by decide +kernel
theorem d_Mov_slide_15 : decode b_Mov_slide 15 = .ok (.getfield 12, 3) := by decide +kernel
theorem d_Mov_slide_18 : decode b_Mov_slide 18 = .ok (.iload_n 1, 1) := by decide +kernel
theorem d_Mov_slide_19 : decode b_Mov_slide 19 = .ok (.invokevirtual 107, 3) := by decide +kernel
theorem d_Mov_slide_22 : decode b_Mov_slide 22 = .ok (.ifCond .eq 7, 3) := by decide +kernel
theorem d_Mov_slide_25 : decode b_Mov_slide 25 = .ok (.iconst 1, 1) := by decide +kernel
theorem d_Mov_slide_26 : decode b_Mov_slide 26 = .ok (.goto 4, 3) := by decide +kernel
theorem d_Mov_slide_29 : decode b_Mov_slide 29 = .ok (.iconst 0, 1) := by decide +kernel
theorem d_Mov_slide_30 : decode b_Mov_slide 30 = .ok (.ireturn, 1) := by decide +kernel
theorem d_Mov_twist_0 : decode b_Mov_twist 0 = .ok (.iload_n 2, 1) := by decide +kernel
theorem d_Mov_twist_1 : decode b_Mov_twist 1 = .ok (.invokestatic 23, 3) := by decide +kernel
theorem d_Mov_twist_4 : decode b_Mov_twist 4 = .ok (.ifCond .eq 16, 3) := by decide +kernel
theorem d_Mov_twist_7 : decode b_Mov_twist 7 = .ok (.aload_n 0, 1) := by decide +kernel
theorem d_Mov_twist_8 : decode b_Mov_twist 8 = .ok (.getfield 12, 3) := by decide +kernel
theorem d_Mov_twist_11 : decode b_Mov_twist 11 = .ok (.getfield 26, 3) := by decide +kernel
theorem d_Mov_twist_14 : decode b_Mov_twist 14 = .ok (.invokevirtual 30, 3) := by decide +kernel
theorem d_Mov_twist_17 : decode b_Mov_twist 17 = .ok (.ifCond .eq 5, 3) := by decide +kernel
theorem d_Mov_twist_20 : decode b_Mov_twist 20 = .ok (.iconst 0, 1) := by decide +kernel
theorem d_Mov_twist_21 : decode b_Mov_twist 21 = .ok (.ireturn, 1) := by decide +kernel
theorem d_Mov_twist_22 : decode b_Mov_twist 22 = .ok (.iload_n 1, 1) := by decide +kernel
theorem d_Mov_twist_23 : decode b_Mov_twist 23 = .ok (.ifCond .ne 15, 3) := by decide +kernel
theorem d_Mov_twist_26 : decode b_Mov_twist 26 = .ok (.aload_n 0, 1) := by decide +kernel
theorem d_Mov_twist_27 : decode b_Mov_twist 27 = .ok (.getfield 12, 3) := by decide +kernel
theorem d_Mov_twist_30 : decode b_Mov_twist 30 = .ok (.iload_n 2, 1) := by decide +kernel
theorem d_Mov_twist_31 : decode b_Mov_twist 31 = .ok (.iload_n 3, 1) := by decide +kernel
theorem d_Mov_twist_32 : decode b_Mov_twist 32 = .ok (.invokevirtual 110, 3) := by decide +kernel
theorem d_Mov_twist_35 : decode b_Mov_twist 35 = .ok (.goto 13, 3) := by decide +kernel
theorem d_Mov_twist_38 : decode b_Mov_twist 38 = .ok (.aload_n 0, 1) := by decide +kernel
theorem d_Mov_twist_39 : decode b_Mov_twist 39 = .ok (.getfield 12, 3) := by decide +kernel
theorem d_Mov_twist_42 : decode b_Mov_twist 42 = .ok (.iload_n 1, 1) := by decide +kernel
theorem d_Mov_twist_43 : decode b_Mov_twist 43 = .ok (.iload_n 2, 1) := by decide +kernel
theorem d_Mov_twist_44 : decode b_Mov_twist 44 = .ok (.iload_n 3, 1) := by decide +kernel
theorem d_Mov_twist_45 : decode b_Mov_twist 45 = .ok (.invokevirtual 114, 3) := by decide +kernel
theorem d_Mov_twist_48 : decode b_Mov_twist 48 = .ok (.ireturn, 1) := by decide +kernel
theorem d_Mov_push_0 : decode b_Mov_push 0 = .ok (.aload_n 0, 1) := by decide +kernel
theorem d_Mov_push_1 : decode b_Mov_push 1 = .ok (.getfield 12, 3) := by decide +kernel
theorem d_Mov_push_4 : decode b_Mov_push 4 = .ok (.getfield 71, 3) := by decide +kernel
theorem d_Mov_push_7 : decode b_Mov_push 7 = .ok (.iload_n 1, 1) := by decide +kernel
theorem d_Mov_push_8 : decode b_Mov_push 8 = .ok (.invokevirtual 118, 3) := by decide +kernel
theorem d_Mov_push_11 : decode b_Mov_push 11 = .ok (.istore 6, 2) := by decide +kernel
theorem d_Mov_push_13 : decode b_Mov_push 13 = .ok (.aload_n 0, 1) := by decide +kernel
theorem d_Mov_push_14 : decode b_Mov_push 14 = .ok (.getfield 12, 3) := by decide +kernel
theorem d_Mov_push_17 : decode b_Mov_push 17 = .ok (.getfield 71, 3) := by decide +kernel
theorem d_Mov_push_20 : decode b_Mov_push 20 = .ok (.iload_n 3, 1) := by decide +kernel
theorem d_Mov_push_21 : decode b_Mov_push 21 = .ok (.invokevirtual 118, 3) := by decide +kernel
theorem d_Mov_push_24 : decode b_Mov_push 24 = .ok (.istore 7, 2) := by decide +kernel
theorem d_Mov_push_26 : decode b_Mov_push 26 = .ok (.iload 6, 2) := by decide +kernel
theorem d_Mov_push_28 : decode b_Mov_push 28 = .ok (.ifCond .lt 30, 3) := by decide +kernel
theorem d_Mov_push_31 : decode b_Mov_push 31 = .ok (.iload 7, 2) := by decide +kernel
theorem d_Mov_push_33 : decode b_Mov_push 33 = .ok (.ifCond .lt 25, 3) := by decide +kernel
theorem d_Mov_push_36 : decode b_Mov_push 36 = .ok (.iload 6, 2) := by decide +kernel
theorem d_Mov_push_38 : decode b_Mov_push 38 = .ok (.iload 7, 2) := by decide +kernel
theorem d_Mov_push_40 : decode b_Mov_push 40 = .ok (.if_icmp .eq 18, 3) := by decide +kernel
theorem d_Mov_push_43 : decode b_Mov_push 43 = .ok (.aload_n 0, 1) := by decide +kernel
theorem d_Mov_push_44 : decode b_Mov_push 44 = .ok (.getfield 12, 3) := by decide +kernel
theorem d_Mov_push_47 : decode b_Mov_push 47 = .ok (.getfield 26, 3) := by decide +kernel
theorem d_Mov_push_50 : decode b_Mov_push 50 = .ok (.getfield 40, 3) := by decide +kernel
theorem d_Mov_push_53 : decode b_Mov_push 53 = .ok (.bipush 18, 2) := by decide +kernel
theorem d_Mov_push_55 : decode b_Mov_push 55 = .ok (.if_icmp .le 5, 3) := by decide +kernel
theorem d_Mov_push_58 : decode b_Mov_push 58 = .ok (.iconst 0, 1) := by decide +kernel
theorem d_Mov_push_59 : decode b_Mov_push 59 = .ok (.ireturn, 1) := by decide +kernel
theorem d_Mov_push_60 : decode b_Mov_push 60 = .ok (.aload_n 0, 1) := by decide +kernel
theorem d_Mov_push_61 : decode b_Mov_push 61 = .ok (.getfield 12, 3) := by decide +kernel
theorem d_Mov_push_64 : decode b_Mov_push 64 = .ok (.iconst 2, 1) := by decide +kernel
theorem d_Mov_push_65 : decode b_Mov_push 65 = .ok (.iload 6, 2) := by decide +kernel
theorem d_Mov_push_67 : decode b_Mov_push 67 = .ok (.imul, 1) := by decide +kernel
theorem d_Mov_push_68 : decode b_Mov_push 68 = .ok (.iload_n 2, 1) := by decide +kernel
theorem d_Mov_push_69 : decode b_Mov_push 69 = .ok (.ifCond .eq 7, 3) := by decide +kernel
theorem d_Mov_push_72 : decode b_Mov_push 72 = .ok (.iconst 1, 1) := by decide +kernel
theorem d_Mov_push_73 : decode b_Mov_push 73 = .ok (.goto 4, 3) := by decide +kernel
theorem d_Mov_push_76 : decode b_Mov_push 76 = .ok (.iconst 0, 1) := by decide +kernel
theorem d_Mov_push_77 : decode b_Mov_push 77 = .ok (.iadd, 1) := by decide +kernel
theorem d_Mov_push_78 : decode b_Mov_push 78 = .ok (.iconst 2, 1) := by decide +kernel
theorem d_Mov_push_79 : decode b_Mov_push 79 = .ok (.iload 7, 2) := by decide +kernel
theorem d_Mov_push_81 : decode b_Mov_push 81 = .ok (.imul, 1) := by decide +kernel
theorem d_Mov_push_82 : decode b_Mov_push 82 = .ok (.iload 4, 2) := by decide +kernel
theorem d_Mov_push_84 : decode b_Mov_push 84 = .ok (.ifCond .eq 7, 3) := by decide +kernel
theorem d_Mov_push_87 : decode b_Mov_push 87 = .ok (.iconst 1, 1) := by decide +kernel
theorem d_Mov_push_88 : decode b_Mov_push 88 = .ok (.goto 4, 3) := by decide +kernel
theorem d_Mov_push_91 : decode b_Mov_push 91 = .ok (.iconst 0, 1) := by decide +kernel
theorem d_Mov_push_92 : decode b_Mov_push 92 = .ok (.iadd, 1) := by decide +kernel
theorem d_Mov_push_93 : decode b_Mov_push 93 = .ok (.iload 5, 2) := by decide +kernel
theorem d_Mov_push_95 : decode b_Mov_push 95 = .ok (.invokevirtual 121, 3) := by decide +kernel
theorem d_Mov_push_98 : decode b_Mov_push 98 = .ok (.ireturn, 1) := by decide +kernel
theorem d_Mov_simplify_0 : decode b_Mov_simplify 0 = .ok (.iconst 0, 1) := by decide +kernel
theorem d_Mov_simplify_1 : decode b_Mov_simplify 1 = .ok (.istore_n 1, 1) := by decide +kernel
theorem d_Mov_simplify_2 : decode b_Mov_simplify 2 = .ok (.iconst 0, 1) := by decide +kernel
theorem d_Mov_simplify_3 : decode b_Mov_simplify 3 = .ok (.istore_n 2, 1) := by decide +kernel
theorem d_Mov_simplify_4 : decode b_Mov_simplify 4 = .ok (.iload_n 2, 1) := by decide +kernel
theorem d_Mov_simplify_5 : decode b_Mov_simplify 5 = .ok (.bipush 20, 2) := by decide +kernel
theorem d_Mov_simplify_7 : decode b_Mov_simplify 7 = .ok (.if_icmp .gt 35, 3) := by decide +kernel
theorem d_Mov_simplify_10 : decode b_Mov_simplify 10 = .ok (.aload_n 0, 1) := by decide +kernel
theorem d_Mov_simplify_11 : decode b_Mov_simplify 11 = .ok (.getfield 12, 3) := by decide +kernel
theorem d_Mov_simplify_14 : decode b_Mov_simplify 14 = .ok (.invokevirtual 124, 3) := by decide +kernel
theorem d_Mov_simplify_17 : decode b_Mov_simplify 17 = .ok (.istore_n 3, 1) := by decide +kernel
theorem d_Mov_simplify_18 : decode b_Mov_simplify 18 = .ok (.iload_n 3, 1) := by decide +kernel
theorem d_Mov_simplify_19 : decode b_Mov_simplify 19 = .ok (.ifCond .ge 6, 3) := by decide +kernel
theorem d_Mov_simplify_22 : decode b_Mov_simplify 22 = .ok (.goto 20, 3) := by decide +kernel
theorem d_Mov_simplify_25 : decode b_Mov_simplify 25 = .ok (.iload_n 1, 1) := by decide +kernel
theorem d_Mov_simplify_26 : decode b_Mov_simplify 26 = .ok (.aload_n 0, 1) := by decide +kernel
theorem d_Mov_simplify_27 : decode b_Mov_simplify 27 = .ok (.getfield 12, 3) := by decide +kernel
theorem d_Mov_simplify_30 : decode b_Mov_simplify 30 = .ok (.iload_n 3, 1) := by decide +kernel
theorem d_Mov_simplify_31 : decode b_Mov_simplify 31 = .ok (.invokevirtual 104, 3) := by decide +kernel
theorem d_Mov_simplify_34 : decode b_Mov_simplify 34 = .ok (.iadd, 1) := by decide +kernel
theorem d_Mov_simplify_35 : decode b_Mov_simplify 35 = .ok (.istore_n 1, 1) := by decide +kernel
theorem d_Mov_simplify_36 : decode b_Mov_simplify 36 = .ok (.iinc 2 1, 3) := by decide +kernel
theorem d_Mov_simplify_39 : decode b_Mov_simplify 39 = .ok (.goto (-35), 3) := by decide +kernel
theorem d_Mov_simplify_42 : decode b_Mov_simplify 42 = .ok (.iload_n 1, 1) := by decide +kernel
theorem d_Mov_simplify_43 : decode b_Mov_simplify 43 = .ok (.ireturn, 1) := by decide +kernel
theorem d_Mov_isSign_0 : decode b_Mov_isSign 0 = .ok (.iload_n 0, 1) := by decide +kernel
theorem d_Mov_isSign_1 : decode b_Mov_isSign 1 = .ok (.iconst 1, 1) := by decide +kernel
theorem d_Mov_isSign_2 : decode b_Mov_isSign 2 = .ok (.if_icmp .eq 8, 3) := by decide +kernel
theorem d_Mov_isSign_5 : decode b_Mov_isSign 5 = .ok (.iload_n 0, 1) := by decide +kernel
theorem d_Mov_isSign_6 : decode b_Mov_isSign 6 = .ok (.iconst (-1), 1) := by decide +kernel
theorem d_Mov_isSign_7 : decode b_Mov_isSign 7 = .ok (.if_icmp .ne 7, 3) := by decide +kernel
theorem d_Mov_isSign_10 : decode b_Mov_isSign 10 = .ok (.iconst 1, 1) := by decide +kernel
theorem d_Mov_isSign_11 : decode b_Mov_isSign 11 = .ok (.goto 4, 3) := by decide +kernel
theorem d_Mov_isSign_14 : decode b_Mov_isSign 14 = .ok (.iconst 0, 1) := by decide +kernel
theorem d_Mov_isSign_15 : decode b_Mov_isSign 15 = .ok (.ireturn, 1) := by decide +kernel
theorem d_Mov_isLabel_0 : decode b_Mov_isLabel 0 = .ok (.iload_n 0, 1) := by decide +kernel
theorem d_Mov_isLabel_1 : decode b_Mov_isLabel 1 = .ok (.iconst 1, 1) := by decide +kernel
theorem d_Mov_isLabel_2 : decode b_Mov_isLabel 2 = .ok (.if_icmp .lt 14, 3) := by decide +kernel
theorem d_Mov_isLabel_5 : decode b_Mov_isLabel 5 = .ok (.iload_n 0, 1) := by decide +kernel
theorem d_Mov_isLabel_6 : decode b_Mov_isLabel 6 = .ok (.sipush 9999, 3) := by decide +kernel
theorem d_Mov_isLabel_9 : decode b_Mov_isLabel 9 = .ok (.if_icmp .gt 7, 3) := by decide +kernel
theorem d_Mov_isLabel_12 : decode b_Mov_isLabel 12 = .ok (.iconst 1, 1) := by decide +kernel
theorem d_Mov_isLabel_13 : decode b_Mov_isLabel 13 = .ok (.goto 4, 3) := by decide +kernel
theorem d_Mov_isLabel_16 : decode b_Mov_isLabel 16 = .ok (.iconst 0, 1) := by decide +kernel
theorem d_Mov_isLabel_17 : decode b_Mov_isLabel 17 = .ok (.ireturn, 1) := by decide +kernel
end
section
theorem d_Mod_init_0 : decode b_Mod_init 0 = .ok (.aload_n 0, 1) := by decide +kernel
theorem d_Mod_init_1 : decode b_Mod_init 1 = .ok (.invokespecial 1, 3) := by decide +kernel
theorem d_Mod_init_4 : decode b_Mod_init 4 = .ok (.aload_n 0, 1) := by decide +kernel
theorem d_Mod_init_5 : decode b_Mod_init 5 = .ok (.iconst (-1), 1) := by decide +kernel
theorem d_Mod_init_6 : decode b_Mod_init 6 = .ok (.putfield 7, 3) := by decide +kernel
theorem d_Mod_init_9 : decode b_Mod_init 9 = .ok (.aload_n 0, 1) := by decide +kernel
theorem d_Mod_init_10 : decode b_Mod_init 10 = .ok (.bipush 20, 2) := by decide +kernel
theorem d_Mod_init_12 : decode b_Mod_init 12 = .ok (.newarray .int, 2) := by decide +kernel
theorem d_Mod_init_14 : decode b_Mod_init 14 = .ok (.putfield 13, 3) := by decide +kernel
theorem d_Mod_init_17 : decode b_Mod_init 17 = .ok (.aload_n 0, 1) := by decide +kernel
theorem d_Mod_init_18 : decode b_Mod_init 18 = .ok (.bipush 80, 2) := by decide +kernel
theorem d_Mod_init_20 : decode b_Mod_init 20 = .ok (.newarray .int, 2) := by decide +kernel
theorem d_Mod_init_22 : decode b_Mod_init 22 = .ok (.putfield 17, 3) := by decide +kernel
theorem d_Mod_init_25 : decode b_Mod_init 25 = .ok (.aload_n 0, 1) := by decide +kernel
theorem d_Mod_init_26 : decode b_Mod_init 26 = .ok (.bipush 20, 2) := by decide +kernel
theorem d_Mod_init_28 : decode b_Mod_init 28 = .ok (.newarray .int, 2) := by decide +kernel
theorem d_Mod_init_30 : decode b_Mod_init 30 = .ok (.putfield 20, 3) := by decide +kernel
theorem d_Mod_init_33 : decode b_Mod_init 33 = .ok (.aload_n 0, 1) := by decide +kernel
theorem d_Mod_init_34 : decode b_Mod_init 34 = .ok (.bipush 80, 2) := by decide +kernel
theorem d_Mod_init_36 : decode b_Mod_init 36 = .ok (.newarray .int, 2) := by decide +kernel
theorem d_Mod_init_38 : decode b_Mod_init 38 = .ok (.putfield 23, 3) := by decide +kernel
theorem d_Mod_init_41 : decode b_Mod_init 41 = .ok (.aload_n 0, 1) := by decide +kernel
theorem d_Mod_init_42 : decode b_Mod_init 42 = .ok (.bipush 20, 2) := by decide +kernel
theorem d_Mod_init_44 : decode b_Mod_init 44 = .ok (.newarray .int, 2) := by decide +kernel
theorem d_Mod_init_46 : decode b_Mod_init 46 = .ok (.putfield 26, 3) := by decide +kernel
theorem d_Mod_init_49 : decode b_Mod_init 49 = .ok (.aload_n 0, 1) := by decide +kernel
theorem d_Mod_init_50 : decode b_Mod_init 50 = .ok (.bipush 80, 2) := by decide +kernel
theorem d_Mod_init_52 : decode b_Mod_init 52 = .ok (.newarray .int, 2) := by decide +kernel
theorem d_Mod_init_54 : decode b_Mod_init 54 = .ok (.putfield 29, 3) := by decide +kernel
theorem d_Mod_init_57 : decode b_Mod_init 57 = .ok (.aload_n 0, 1) := by decide +kernel
theorem d_Mod_init_58 : decode b_Mod_init 58 = .ok (.bipush 80, 2) := by decide +kernel
theorem d_Mod_init_60 : decode b_Mod_init 60 = .ok (.newarray .int, 2) := by decide +kernel
theorem d_Mod_init_62 : decode b_Mod_init 62 = .ok (.putfield 32, 3) := by decide +kernel
theorem d_Mod_init_65 : decode b_Mod_init 65 = .ok (.aload_n 0, 1) := by decide +kernel
theorem d_Mod_init_66 : decode b_Mod_init 66 = .ok (.bipush 80, 2) := by decide +kernel
theorem d_Mod_init_68 : decode b_Mod_init 68 = .ok (.newarray .int, 2) := by decide +kernel
theorem d_Mod_init_70 : decode b_Mod_init 70 = .ok (.putfield 35, 3) := by decide +kernel
theorem d_Mod_init_73 : decode b_Mod_init 73 = .ok (.aload_n 0, 1) := by decide +kernel
theorem d_Mod_init_74 : decode b_Mod_init 74 = .ok (.bipush 20, 2) := by decide +kernel
theorem d_Mod_init_76 : decode b_Mod_init 76 = .ok (.newarray .int, 2) := by decide +kernel
theorem d_Mod_init_78 : decode b_Mod_init 78 = .ok (.putfield 38, 3) := by decide +kernel
theorem d_Mod_init_81 : decode b_Mod_init 81 = .ok (.aload_n 0, 1) := by decide +kernel
theorem d_Mod_init_82 : decode b_Mod_init 82 = .ok (.bipush 80, 2) := by decide +kernel
theorem d_Mod_init_84 : decode b_Mod_init 84 = .ok (.newarray .int, 2) := by decide +kernel
theorem d_Mod_init_86 : decode b_Mod_init 86 = .ok (.putfield 41, 3) := by decide +kernel
theorem d_Mod_init_89 : decode b_Mod_init 89 = .ok (.aload_n 0, 1) := by decide +kernel
theorem d_Mod_init_90 : decode b_Mod_init 90 = .ok (.bipush 80, 2) := by decide +kernel
theorem d_Mod_init_92 : decode b_Mod_init 92 = .ok (.newarray .int, 2) := by decide +kernel
theorem d_Mod_init_94 : decode b_Mod_init 94 = .ok (.putfield 44, 3) := by decide +kernel
theorem d_Mod_init_97 : decode b_Mod_init 97 = .ok (.aload_n 0, 1) := by decide +kernel
theorem d_Mod_init_98 : decode b_Mod_init 98 = .ok (.bipush 80, 2) := by decide +kernel
theorem d_Mod_init_100 : decode b_Mod_init 100 = .ok (.newarray .int, 2) := by decide +kernel
theorem d_Mod_init_102 : decode b_Mod_init 102 = .ok (.putfield 47, 3) := by decide +kernel
theorem d_Mod_init_105 : decode b_Mod_init 105 = .ok (.aload_n 0, 1) := by decide +kernel
theorem d_Mod_init_106 : decode b_Mod_init 106 = .ok (.iconst 4, 1) := by decide +kernel
theorem d_Mod_init_107 : decode b_Mod_init 107 = .ok (.newarray .int, 2) := by decide +kernel
theorem d_Mod_init_109 : decode b_Mod_init 109 = .ok (.putfield 50, 3) := by decide +kernel
theorem d_Mod_init_112 : decode b_Mod_init 112 = .ok (.aload_n 0, 1) := by decide +kernel
theorem d_Mod_init_113 : decode b_Mod_init 113 = .ok (.iconst 4, 1) := by decide +kernel
theorem d_Mod_init_114 : decode b_Mod_init 114 = .ok (.newarray .int, 2) := by decide +kernel
theorem d_Mod_init_116 : decode b_Mod_init 116 = .ok (.putfield 53, 3) := by decide +kernel
theorem d_Mod_init_119 : decode b_Mod_init 119 = .ok (.return_, 1) := by decide +kernel
theorem d_Mod_isOut_0 : decode b_Mod_isOut 0 = .ok (.iload_n 1, 1) := by decide +kernel
theorem d_Mod_isOut_1 : decode b_Mod_isOut 1 = .ok (.iconst 4, 1) := by decide +kernel
theorem d_Mod_isOut_2 : decode b_Mod_isOut 2 = .ok (.irem, 1) := by decide +kernel
theorem d_Mod_isOut_3 : decode b_Mod_isOut 3 = .ok (.istore_n 2, 1) := by decide +kernel
theorem d_Mod_isOut_4 : decode b_Mod_isOut 4 = .ok (.iload_n 2, 1) := by decide +kernel
theorem d_Mod_isOut_5 : decode b_Mod_isOut 5 = .ok (.iconst 2, 1) := by decide +kernel
theorem d_Mod_isOut_6 : decode b_Mod_isOut 6 = .ok (.if_icmp .eq 23, 3) := by decide +kernel
theorem d_Mod_isOut_9 : decode b_Mod_isOut 9 = .ok (.iload_n 2, 1) := by decide +kernel
theorem d_Mod_isOut_10 : decode b_Mod_isOut 10 = .ok (.aload_n 0, 1) := by decide +kernel
theorem d_Mod_isOut_11 : decode b_Mod_isOut 11 = .ok (.getfield 20, 3) := by decide +kernel
theorem d_Mod_isOut_14 : decode b_Mod_isOut 14 = .ok (.iload_n 1, 1) := by decide +kernel
theorem d_Mod_isOut_15 : decode b_Mod_isOut 15 = .ok (.iconst 4, 1) := by decide +kernel
theorem d_Mod_isOut_16 : decode b_Mod_isOut 16 = .ok (.idiv, 1) := by decide +kernel
theorem d_Mod_isOut_17 : decode b_Mod_isOut 17 = .ok (.iaload, 1) := by decide +kernel
theorem d_Mod_isOut_18 : decode b_Mod_isOut 18 = .ok (.ifCond .le 7, 3) := by decide +kernel
theorem d_Mod_isOut_21 : decode b_Mod_isOut 21 = .ok (.iconst 1, 1) := by decide +kernel
theorem d_Mod_isOut_22 : decode b_Mod_isOut 22 = .ok (.goto 4, 3) := by decide +kernel
theorem d_Mod_isOut_25 : decode b_Mod_isOut 25 = .ok (.iconst 3, 1) := by decide +kernel
theorem d_Mod_isOut_26 : decode b_Mod_isOut 26 = .ok (.if_icmp .ne 7, 3) := by decide +kernel
theorem d_Mod_isOut_29 : decode b_Mod_isOut 29 = .ok (.iconst 1, 1) := by decide +kernel
theorem d_Mod_isOut_30 : decode b_Mod_isOut 30 = .ok (.goto 4, 3) := by decide +kernel
theorem d_Mod_isOut_33 : decode b_Mod_isOut 33 = .ok (.iconst 0, 1) := by decide +kernel
theorem d_Mod_isOut_34 : decode b_Mod_isOut 34 = .ok (.ireturn, 1) := by decide +kernel
theorem d_Mod_isUpper_0 : decode b_Mod_isUpper 0 = .ok (.iload_n 0, 1) := by decide +kernel
theorem d_Mod_isUpper_1 : decode b_Mod_isUpper 1 = .ok (.iconst 2, 1) := by decide +kernel
theorem d_Mod_isUpper_2 : decode b_Mod_isUpper 2 = .ok (.irem, 1) := by decide +kernel
theorem d_Mod_isUpper_3 : decode b_Mod_isUpper 3 = .ok (.iconst 1, 1) := by decide +kernel
theorem d_Mod_isUpper_4 : decode b_Mod_isUpper 4 = .ok (.if_icmp .ne 7, 3) := by decide +kernel
theorem d_Mod_isUpper_7 : decode b_Mod_isUpper 7 = .ok (.iconst 1, 1) := by decide +kernel
theorem d_Mod_isUpper_8 : decode b_Mod_isUpper 8 = .ok (.goto 4, 3) := by decide +kernel
theorem d_Mod_isUpper_11 : decode b_Mod_isUpper 11 = .ok (.iconst 0, 1) := by decide +kernel
theorem d_Mod_isUpper_12 : decode b_Mod_isUpper 12 = .ok (.ireturn, 1) := by decide +kernel
theorem d_Mod_placeOf_0 : decode b_Mod_placeOf 0 = .ok (.iconst (-1), 1) := by decide +kernel
theorem d_Mod_placeOf_1 : decode b_Mod_placeOf 1 = .ok (.istore_n 3, 1) := by decide +kernel
theorem d_Mod_placeOf_2 : decode b_Mod_placeOf 2 = .ok (.iconst 0, 1) := by decide +kernel
theorem d_Mod_placeOf_3 : decode b_Mod_placeOf 3 = .ok (.istore 4, 2) := by decide +kernel
theorem d_Mod_placeOf_5 : decode b_Mod_placeOf 5 = .ok (.iload 4, 2) := by decide +kernel
theorem d_Mod_placeOf_7 : decode b_Mod_placeOf 7 = .ok (.iconst 4, 1) := by decide +kernel
theorem d_Mod_placeOf_8 : decode b_Mod_placeOf 8 = .ok (.aload_n 0, 1) := by decide +kernel
theorem d_Mod_placeOf_9 : decode b_Mod_placeOf 9 = .ok (.getfield 59, 3) := by decide +kernel
theorem d_Mod_placeOf_12 : decode b_Mod_placeOf 12 = .ok (.imul, 1) := by decide +kernel
theorem d_Mod_placeOf_13 : decode b_Mod_placeOf 13 = .ok (.if_icmp .ge 37, 3) := by decide +kernel
theorem d_Mod_placeOf_16 : decode b_Mod_placeOf 16 = .ok (.aload_n 0, 1) := by decide +kernel
theorem d_Mod_placeOf_17 : decode b_Mod_placeOf 17 = .ok (.getfield 23, 3) := by decide +kernel
theorem d_Mod_placeOf_20 : decode b_Mod_placeOf 20 = .ok (.iload 4, 2) := by decide +kernel
theorem d_Mod_placeOf_22 : decode b_Mod_placeOf 22 = .ok (.iaload, 1) := by decide +kernel
theorem d_Mod_placeOf_23 : decode b_Mod_placeOf 23 = .ok (.iload_n 1, 1) := by decide +kernel
theorem d_Mod_placeOf_24 : decode b_Mod_placeOf 24 = .ok (.if_icmp .ne 18, 3) := by decide +kernel
theorem d_Mod_placeOf_27 : decode b_Mod_placeOf 27 = .ok (.aload_n 0, 1) := by decide +kernel
theorem d_Mod_placeOf_28 : decode b_Mod_placeOf 28 = .ok (.iload 4, 2) := by decide +kernel
theorem d_Mod_placeOf_30 : decode b_Mod_placeOf 30 = .ok (.invokevirtual 62, 3) := by decide +kernel
theorem d_Mod_placeOf_33 : decode b_Mod_placeOf 33 = .ok (.iload_n 2, 1) := by decide +kernel
theorem d_Mod_placeOf_34 : decode b_Mod_placeOf 34 = .ok (.if_icmp .ne 8, 3) := by decide +kernel
theorem d_Mod_placeOf_37 : decode b_Mod_placeOf 37 = .ok (.iload 4, 2) := by decide +kernel
theorem d_Mod_placeOf_39 : decode b_Mod_placeOf 39 = .ok (.goto 4, 3) := by decide +kernel
theorem d_Mod_placeOf_42 : decode b_Mod_placeOf 42 = .ok (.iload_n 3, 1) := by decide +kernel
theorem d_Mod_placeOf_43 : decode b_Mod_placeOf 43 = .ok (.istore_n 3, 1) := by decide +kernel
theorem d_Mod_placeOf_44 : decode b_Mod_placeOf 44 = .ok (.iinc 4 1, 3) := by decide +kernel
theorem d_Mod_placeOf_47 : decode b_Mod_placeOf 47 = .ok (.goto (-42), 3) := by decide +kernel
theorem d_Mod_placeOf_50 : decode b_Mod_placeOf 50 = .ok (.iload_n 3, 1) := by decide +kernel
theorem d_Mod_placeOf_51 : decode b_Mod_placeOf 51 = .ok (.ireturn, 1) := by decide +kernel
theorem d_Mod_across_0 : decode b_Mod_across 0 = .ok (.iload_n 0, 1) := by decide +kernel
theorem d_Mod_across_1 : decode b_Mod_across 1 = .ok (.iconst 4, 1) := by decide +kernel
theorem d_Mod_across_2 : decode b_Mod_across 2 = .ok (.idiv, 1) := by decide +kernel
theorem d_Mod_across_3 : decode b_Mod_across 3 = .ok (.iconst 4, 1) := by decide +kernel
theorem d_Mod_across_4 : decode b_Mod_across 4 = .ok (.imul, 1) := by decide +kernel
theorem d_Mod_across_5 : decode b_Mod_across 5 = .ok (.iload_n 0, 1) := by decide +kernel
theorem d_Mod_across_6 : decode b_Mod_across 6 = .ok (.iconst 2, 1) := by decide +kernel
theorem d_Mod_across_7 : decode b_Mod_across 7 = .ok (.iadd, 1) := by decide +kernel
theorem d_Mod_across_8 : decode b_Mod_across 8 = .ok (.iconst 4, 1) := by decide +kernel
theorem d_Mod_across_9 : decode b_Mod_across 9 = .ok (.irem, 1) := by decide +kernel
theorem d_Mod_across_10 : decode b_Mod_across 10 = .ok (.iadd, 1) := by decide +kernel
theorem d_Mod_across_11 : decode b_Mod_across 11 = .ok (.ireturn, 1) := by decide +kernel
theorem d_Mod_next_0 : decode b_Mod_next 0 = .ok (.aload_n 0, 1) := by decide +kernel
theorem d_Mod_next_1 : decode b_Mod_next 1 = .ok (.getfield 23, 3) := by decide +kernel
theorem d_Mod_next_4 : decode b_Mod_next 4 = .ok (.aload_n 0, 1) := by decide +kernel
theorem d_Mod_next_5 : decode b_Mod_next 5 = .ok (.iload_n 1, 1) := by decide +kernel
theorem d_Mod_next_6 : decode b_Mod_next 6 = .ok (.iconst 0, 1) := by decide +kernel
theorem d_Mod_next_7 : decode b_Mod_next 7 = .ok (.invokevirtual 66, 3) := by decide +kernel
theorem d_Mod_next_10 : decode b_Mod_next 10 = .ok (.invokestatic 70, 3) := by decide +kernel
theorem d_Mod_next_13 : decode b_Mod_next 13 = .ok (.iaload, 1) := by decide +kernel
theorem d_Mod_next_14 : decode b_Mod_next 14 = .ok (.ireturn, 1) := by decide +kernel
theorem d_Mod_sort_0 : decode b_Mod_sort 0 = .ok (.aload_n 0, 1) := by decide +kernel
theorem d_Mod_sort_1 : decode b_Mod_sort 1 = .ok (.iconst 0, 1) := by decide +kernel
theorem d_Mod_sort_2 : decode b_Mod_sort 2 = .ok (.putfield 74, 3) := by decide +kernel
theorem d_Mod_sort_5 : decode b_Mod_sort 5 = .ok (.iconst 0, 1) := by decide +kernel
theorem d_Mod_sort_6 : decode b_Mod_sort 6 = .ok (.istore_n 1, 1) := by decide +kernel
theorem d_Mod_sort_7 : decode b_Mod_sort 7 = .ok (.iload_n 1, 1) := by decide +kernel
theorem d_Mod_sort_8 : decode b_Mod_sort 8 = .ok (.iconst 4, 1) := by decide +kernel
theorem d_Mod_sort_9 : decode b_Mod_sort 9 = .ok (.aload_n 0, 1) := by decide +kernel
theorem d_Mod_sort_10 : decode b_Mod_sort 10 = .ok (.getfield 59, 3) := by decide +kernel
theorem d_Mod_sort_13 : decode b_Mod_sort 13 = .ok (.imul, 1) := by decide +kernel
theorem d_Mod_sort_14 : decode b_Mod_sort 14 = .ok (.if_icmp .ge 124, 3) := by decide +kernel
theorem d_Mod_sort_17 : decode b_Mod_sort 17 = .ok (.iconst 0, 1) := by decide +kernel
theorem d_Mod_sort_18 : decode b_Mod_sort 18 = .ok (.istore_n 2, 1) := by decide +kernel
theorem d_Mod_sort_19 : decode b_Mod_sort 19 = .ok (.iconst 0, 1) := by decide +kernel
theorem d_Mod_sort_20 : decode b_Mod_sort 20 = .ok (.istore_n 3, 1) := by decide +kernel
theorem d_Mod_sort_21 : decode b_Mod_sort 21 = .ok (.iload_n 3, 1) := by decide +kernel
theorem d_Mod_sort_22 : decode b_Mod_sort 22 = .ok (.aload_n 0, 1) := by decide +kernel
theorem d_Mod_sort_23 : decode b_Mod_sort 23 = .ok (.getfield 74, 3) := by decide +kernel
theorem d_Mod_sort_26 : decode b_Mod_sort 26 = .ok (.if_icmp .ge 34, 3) := by decide +kernel
theorem d_Mod_sort_29 : decode b_Mod_sort 29 = .ok (.iload_n 2, 1) := by decide +kernel
theorem d_Mod_sort_30 : decode b_Mod_sort 30 = .ok (.ifCond .ne 18, 3) := by decide +kernel
theorem d_Mod_sort_33 : decode b_Mod_sort 33 = .ok (.aload_n 0, 1) := by decide +kernel
theorem d_Mod_sort_34 : decode b_Mod_sort 34 = .ok (.getfield 32, 3) := by decide +kernel
theorem d_Mod_sort_37 : decode b_Mod_sort 37 = .ok (.iload_n 3, 1) := by decide +kernel
theorem d_Mod_sort_38 : decode b_Mod_sort 38 = .ok (.iaload, 1) := by decide +kernel
theorem d_Mod_sort_39 : decode b_Mod_sort 39 = .ok (.aload_n 0, 1) := by decide +kernel
theorem d_Mod_sort_40 : decode b_Mod_sort 40 = .ok (.getfield 23, 3) := by decide +kernel
theorem d_Mod_sort_43 : decode b_Mod_sort 43 = .ok (.iload_n 1, 1) := by decide +kernel
theorem d_Mod_sort_44 : decode b_Mod_sort 44 = .ok (.iaload, 1) := by decide +kernel
theorem d_Mod_sort_45 : decode b_Mod_sort 45 = .ok (.if_icmp .ne 7, 3) := by decide +kernel
theorem d_Mod_sort_48 : decode b_Mod_sort 48 = .ok (.iconst 1, 1) := by decide +kernel
theorem d_Mod_sort_49 : decode b_Mod_sort 49 = .ok (.goto 4, 3) := by decide +kernel
theorem d_Mod_sort_52 : decode b_Mod_sort 52 = .ok (.iconst 0, 1) := by decide +kernel
theorem d_Mod_sort_53 : decode b_Mod_sort 53 = .ok (.istore_n 2, 1) := by decide +kernel
theorem d_Mod_sort_54 : decode b_Mod_sort 54 = .ok (.iinc 3 1, 3) := by decide +kernel
theorem d_Mod_sort_57 : decode b_Mod_sort 57 = .ok (.goto (-36), 3) := by decide +kernel
theorem d_Mod_sort_60 : decode b_Mod_sort 60 = .ok (.iload_n 2, 1) := by decide +kernel
theorem d_Mod_sort_61 : decode b_Mod_sort 61 = .ok (.ifCond .ne 71, 3) := by decide +kernel
theorem d_Mod_sort_64 : decode b_Mod_sort 64 = .ok (.aload_n 0, 1) := by decide +kernel
theorem d_Mod_sort_65 : decode b_Mod_sort 65 = .ok (.getfield 74, 3) := by decide +kernel
theorem d_Mod_sort_68 : decode b_Mod_sort 68 = .ok (.istore_n 3, 1) := by decide +kernel
theorem d_Mod_sort_69 : decode b_Mod_sort 69 = .ok (.iload_n 3, 1) := by decide +kernel
theorem d_Mod_sort_70 : decode b_Mod_sort 70 = .ok (.ifCond .le 40, 3) := by decide +kernel
theorem d_Mod_sort_73 : decode b_Mod_sort 73 = .ok (.aload_n 0, 1) := by decide +kernel
theorem d_Mod_sort_74 : decode b_Mod_sort 74 = .ok (.getfield 32, 3) := by decide +kernel
theorem d_Mod_sort_77 : decode b_Mod_sort 77 = .ok (.iload_n 3, 1) := by decide +kernel
theorem d_Mod_sort_78 : decode b_Mod_sort 78 = .ok (.iconst 1, 1) := by decide +kernel
theorem d_Mod_sort_79 : decode b_Mod_sort 79 = .ok (.isub, 1) := by decide +kernel
theorem d_Mod_sort_80 : decode b_Mod_sort 80 = .ok (.iaload, 1) := by decide +kernel
theorem d_Mod_sort_81 : decode b_Mod_sort 81 = .ok (.aload_n 0, 1) := by decide +kernel
theorem d_Mod_sort_82 : decode b_Mod_sort 82 = .ok (.getfield 23, 3) := by decide +kernel
theorem d_Mod_sort_85 : decode b_Mod_sort 85 = .ok (.iload_n 1, 1) := by decide +kernel
theorem d_Mod_sort_86 : decode b_Mod_sort 86 = .ok (.iaload, 1) := by decide +kernel
theorem d_Mod_sort_87 : decode b_Mod_sort 87 = .ok (.if_icmp .le 23, 3) := by decide +kernel
theorem d_Mod_sort_90 : decode b_Mod_sort 90 = .ok (.aload_n 0, 1) := by decide +kernel
theorem d_Mod_sort_91 : decode b_Mod_sort 91 = .ok (.getfield 32, 3) := by decide +kernel
theorem d_Mod_sort_94 : decode b_Mod_sort 94 = .ok (.iload_n 3, 1) := by decide +kernel
theorem d_Mod_sort_95 : decode b_Mod_sort 95 = .ok (.aload_n 0, 1) := by decide +kernel
theorem d_Mod_sort_96 : decode b_Mod_sort 96 = .ok (.getfield 32, 3) := by decide +kernel
theorem d_Mod_sort_99 : decode b_Mod_sort 99 = .ok (.iload_n 3, 1) := by decide +kernel
theorem d_Mod_sort_100 : decode b_Mod_sort 100 = .ok (.iconst 1, 1) := by decide +kernel
theorem d_Mod_sort_101 : decode b_Mod_sort 101 = .ok (.isub, 1) := by decide +kernel
theorem d_Mod_sort_102 : decode b_Mod_sort 102 = .ok (.iaload, 1) := by decide +kernel
theorem d_Mod_sort_103 : decode b_Mod_sort 103 = .ok (.iastore, 1) := by decide +kernel
theorem d_Mod_sort_104 : decode b_Mod_sort 104 = .ok (.iinc 3 (-1), 3) := by decide +kernel
theorem d_Mod_sort_107 : decode b_Mod_sort 107 = .ok (.goto (-38), 3) := by decide +kernel
theorem d_Mod_sort_110 : decode b_Mod_sort 110 = .ok (.aload_n 0, 1) := by decide +kernel
theorem d_Mod_sort_111 : decode b_Mod_sort 111 = .ok (.getfield 32, 3) := by decide +kernel
theorem d_Mod_sort_114 : decode b_Mod_sort 114 = .ok (.iload_n 3, 1) := by decide +kernel
theorem d_Mod_sort_115 : decode b_Mod_sort 115 = .ok (.aload_n 0, 1) := by decide +kernel
theorem d_Mod_sort_116 : decode b_Mod_sort 116 = .ok (.getfield 23, 3) := by decide +kernel
theorem d_Mod_sort_119 : decode b_Mod_sort 119 = .ok (.iload_n 1, 1) := by decide +kernel
theorem d_Mod_sort_120 : decode b_Mod_sort 120 = .ok (.iaload, 1) := by decide +kernel
theorem d_Mod_sort_121 : decode b_Mod_sort 121 = .ok (.iastore, 1) := by decide +kernel
theorem d_Mod_sort_122 : decode b_Mod_sort 122 = .ok (.aload_n 0, 1) := by decide +kernel
theorem d_Mod_sort_123 : decode b_Mod_sort 123 = .ok (.dup, 1) := by decide +kernel
theorem d_Mod_sort_124 : decode b_Mod_sort 124 = .ok (.getfield 74, 3) := by decide +kernel
theorem d_Mod_sort_127 : decode b_Mod_sort 127 = .ok (.iconst 1, 1) := by decide +kernel
theorem d_Mod_sort_128 : decode b_Mod_sort 128 = .ok (.iadd, 1) := by decide +kernel
theorem d_Mod_sort_129 : decode b_Mod_sort 129 = .ok (.putfield 74, 3) := by decide +kernel
theorem d_Mod_sort_132 : decode b_Mod_sort 132 = .ok (.iinc 1 1, 3) := by decide +kernel
theorem d_Mod_sort_135 : decode b_Mod_sort 135 = .ok (.goto (-128), 3) := by decide +kernel
theorem d_Mod_sort_138 : decode b_Mod_sort 138 = .ok (.return_, 1) := by decide +kernel
theorem d_Mod_components_0 : decode b_Mod_components 0 = .ok (.iconst 0, 1) := by decide +kernel
theorem d_Mod_components_1 : decode b_Mod_components 1 = .ok (.istore_n 1, 1) := by decide +kernel
theorem d_Mod_components_2 : decode b_Mod_components 2 = .ok (.iload_n 1, 1) := by decide +kernel
theorem d_Mod_components_3 : decode b_Mod_components 3 = .ok (.bipush 80, 2) := by decide +kernel
theorem d_Mod_components_5 : decode b_Mod_components 5 = .ok (.if_icmp .ge 16, 3) := by decide +kernel
theorem d_Mod_components_8 : decode b_Mod_components 8 = .ok (.aload_n 0, 1) := by decide +kernel
theorem d_Mod_components_9 : decode b_Mod_components 9 = .ok (.getfield 41, 3) := by decide +kernel
theorem d_Mod_components_12 : decode b_Mod_components 12 = .ok (.iload_n 1, 1) := by decide +kernel
theorem d_Mod_components_13 : decode b_Mod_components 13 = .ok (.iconst (-1), 1) := by decide +kernel
theorem d_Mod_components_14 : decode b_Mod_components 14 = .ok (.iastore, 1) := by decide +kernel
theorem d_Mod_components_15 : decode b_Mod_components 15 = .ok (.iinc 1 1, 3) := by decide +kernel
theorem d_Mod_components_18 : decode b_Mod_components 18 = .ok (.goto (-16), 3) := by decide +kernel
theorem d_Mod_components_21 : decode b_Mod_components 21 = .ok (.aload_n 0, 1) := by decide +kernel
theorem d_Mod_components_22 : decode b_Mod_components 22 = .ok (.iconst 0, 1) := by decide +kernel
theorem d_Mod_components_23 : decode b_Mod_components 23 = .ok (.putfield 77, 3) := by decide +kernel
theorem d_Mod_components_26 : decode b_Mod_components 26 = .ok (.aload_n 0, 1) := by decide +kernel
theorem d_Mod_components_27 : decode b_Mod_components 27 = .ok (.invokevirtual 80, 3) := by decide +kernel
theorem d_Mod_components_30 : decode b_Mod_components 30 = .ok (.iconst 0, 1) := by decide +kernel
theorem d_Mod_components_31 : decode b_Mod_components 31 = .ok (.istore_n 1, 1) := by decide +kernel
theorem d_Mod_components_32 : decode b_Mod_components 32 = .ok (.iload_n 1, 1) := by decide +kernel
theorem d_Mod_components_33 : decode b_Mod_components 33 = .ok (.aload_n 0, 1) := by decide +kernel
theorem d_Mod_components_34 : decode b_Mod_components 34 = .ok (.getfield 74, 3) := by decide +kernel
theorem d_Mod_components_37 : decode b_Mod_components 37 = .ok (.if_icmp .ge 111, 3) := by decide +kernel
theorem d_Mod_components_40 : decode b_Mod_components 40 = .ok (.aload_n 0, 1) := by decide +kernel
theorem d_Mod_components_41 : decode b_Mod_components 41 = .ok (.getfield 32, 3) := by decide +kernel
theorem d_Mod_components_44 : decode b_Mod_components 44 = .ok (.iload_n 1, 1) := by decide +kernel
theorem d_Mod_components_45 : decode b_Mod_components 45 = .ok (.iaload, 1) := by decide +kernel
theorem d_Mod_components_46 : decode b_Mod_components 46 = .ok (.istore_n 2, 1) := by decide +kernel
theorem d_Mod_components_47 : decode b_Mod_components 47 = .ok (.aload_n 0, 1) := by decide +kernel
theorem d_Mod_components_48 : decode b_Mod_components 48 = .ok (.getfield 41, 3) := by decide +kernel
theorem d_Mod_components_51 : decode b_Mod_components 51 = .ok (.aload_n 0, 1) := by decide +kernel
theorem d_Mod_components_52 : decode b_Mod_components 52 = .ok (.iload_n 2, 1) := by decide +kernel
theorem d_Mod_components_53 : decode b_Mod_components 53 = .ok (.iconst 1, 1) := by decide +kernel
theorem d_Mod_components_54 : decode b_Mod_components 54 = .ok (.invokevirtual 66, 3) := by decide +kernel
theorem d_Mod_components_57 : decode b_Mod_components 57 = .ok (.iaload, 1) := by decide +kernel
theorem d_Mod_components_58 : decode b_Mod_components 58 = .ok (.ifCond .ge 7, 3) := by decide +kernel
theorem d_Mod_components_61 : decode b_Mod_components 61 = .ok (.iconst 1, 1) := by decide +kernel
theorem d_Mod_components_62 : decode b_Mod_components 62 = .ok (.goto 4, 3) := by decide +kernel
theorem d_Mod_components_65 : decode b_Mod_components 65 = .ok (.iconst 0, 1) := by decide +kernel
theorem d_Mod_components_66 : decode b_Mod_components 66 = .ok (.istore_n 3, 1) := by decide +kernel
theorem d_Mod_components_67 : decode b_Mod_components 67 = .ok (.iload_n 3, 1) := by decide +kernel
theorem d_Mod_components_68 : decode b_Mod_components 68 = .ok (.ifCond .eq 56, 3) := by decide +kernel
theorem d_Mod_components_71 : decode b_Mod_components 71 = .ok (.aload_n 0, 1) := by decide +kernel
theorem d_Mod_components_72 : decode b_Mod_components 72 = .ok (.getfield 41, 3) := by decide +kernel
theorem d_Mod_components_75 : decode b_Mod_components 75 = .ok (.aload_n 0, 1) := by decide +kernel
theorem d_Mod_components_76 : decode b_Mod_components 76 = .ok (.iload_n 2, 1) := by decide +kernel
theorem d_Mod_components_77 : decode b_Mod_components 77 = .ok (.iconst 1, 1) := by decide +kernel
theorem d_Mod_components_78 : decode b_Mod_components 78 = .ok (.invokevirtual 66, 3) := by decide +kernel
theorem d_Mod_components_81 : decode b_Mod_components 81 = .ok (.iaload, 1) := by decide +kernel
theorem d_Mod_components_82 : decode b_Mod_components 82 = .ok (.ifCond .ge 42, 3) := by decide +kernel
theorem d_Mod_components_85 : decode b_Mod_components 85 = .ok (.aload_n 0, 1) := by decide +kernel
theorem d_Mod_components_86 : decode b_Mod_components 86 = .ok (.getfield 41, 3) := by decide +kernel
theorem d_Mod_components_89 : decode b_Mod_components 89 = .ok (.aload_n 0, 1) := by decide +kernel
theorem d_Mod_components_90 : decode b_Mod_components 90 = .ok (.iload_n 2, 1) := by decide +kernel
theorem d_Mod_components_91 : decode b_Mod_components 91 = .ok (.iconst 1, 1) := by decide +kernel
theorem d_Mod_components_92 : decode b_Mod_components 92 = .ok (.invokevirtual 66, 3) := by decide +kernel
theorem d_Mod_components_95 : decode b_Mod_components 95 = .ok (.aload_n 0, 1) := by decide +kernel
theorem d_Mod_components_96 : decode b_Mod_components 96 = .ok (.getfield 77, 3) := by decide +kernel
theorem d_Mod_components_99 : decode b_Mod_components 99 = .ok (.iastore, 1) := by decide +kernel
theorem d_Mod_components_100 : decode b_Mod_components 100 = .ok (.aload_n 0, 1) := by decide +kernel
theorem d_Mod_components_101 : decode b_Mod_components 101 = .ok (.getfield 41, 3) := by decide +kernel
theorem d_Mod_components_104 : decode b_Mod_components 104 = .ok (.aload_n 0, 1) := by decide +kernel
theorem d_Mod_components_105 : decode b_Mod_components 105 = .ok (.iload_n 2, 1) := by decide +kernel
theorem d_Mod_components_106 : decode b_Mod_components 106 = .ok (.iconst 0, 1) := by decide +kernel
theorem d_Mod_components_107 : decode b_Mod_components 107 = .ok (.invokevirtual 66, 3) := by decide +kernel
theorem d_Mod_components_110 : decode b_Mod_components 110 = .ok (.aload_n 0, 1) := by decide +kernel
theorem d_Mod_components_111 : decode b_Mod_components 111 = .ok (.getfield 77, 3) := by decide +kernel
theorem d_Mod_components_114 : decode b_Mod_components 114 = .ok (.iastore, 1) := by decide +kernel
theorem d_Mod_components_115 : decode b_Mod_components 115 = .ok (.aload_n 0, 1) := by decide +kernel
theorem d_Mod_components_116 : decode b_Mod_components 116 = .ok (.iload_n 2, 1) := by decide +kernel
theorem d_Mod_components_117 : decode b_Mod_components 117 = .ok (.invokevirtual 83, 3) := by decide +kernel
theorem d_Mod_components_120 : decode b_Mod_components 120 = .ok (.istore_n 2, 1) := by decide +kernel
theorem d_Mod_components_121 : decode b_Mod_components 121 = .ok (.goto (-54), 3) := by decide +kernel
theorem d_Mod_components_124 : decode b_Mod_components 124 = .ok (.aload_n 0, 1) := by decide +kernel
theorem d_Mod_components_125 : decode b_Mod_components 125 = .ok (.dup, 1) := by decide +kernel
theorem d_Mod_components_126 : decode b_Mod_components 126 = .ok (.getfield 77, 3) := by decide +kernel
theorem d_Mod_components_129 : decode b_Mod_components 129 = .ok (.iload_n 3, 1) := by decide +kernel
theorem d_Mod_components_130 : decode b_Mod_components 130 = .ok (.ifCond .eq 7, 3) := by decide +kernel
theorem d_Mod_components_133 : decode b_Mod_components 133 = .ok (.iconst 1, 1) := by decide +kernel
theorem d_Mod_components_134 : decode b_Mod_components 134 = .ok (.goto 4, 3) := by decide +kernel
theorem d_Mod_components_137 : decode b_Mod_components 137 = .ok (.iconst 0, 1) := by decide +kernel
theorem d_Mod_components_138 : decode b_Mod_components 138 = .ok (.iadd, 1) := by decide +kernel
theorem d_Mod_components_139 : decode b_Mod_components 139 = .ok (.putfield 77, 3) := by decide +kernel
theorem d_Mod_components_142 : decode b_Mod_components 142 = .ok (.iinc 1 1, 3) := by decide +kernel
theorem d_Mod_components_145 : decode b_Mod_components 145 = .ok (.goto (-113), 3) := by decide +kernel
theorem d_Mod_components_148 : decode b_Mod_components 148 = .ok (.return_, 1) := by decide +kernel
theorem d_Mod_hang_0 : decode b_Mod_hang 0 = .ok (.iconst 0, 1) := by decide +kernel
theorem d_Mod_hang_1 : decode b_Mod_hang 1 = .ok (.istore_n 1, 1) := by decide +kernel
theorem d_Mod_hang_2 : decode b_Mod_hang 2 = .ok (.iload_n 1, 1) := by decide +kernel
theorem d_Mod_hang_3 : decode b_Mod_hang 3 = .ok (.aload_n 0, 1) := by decide +kernel
theorem d_Mod_hang_4 : decode b_Mod_hang 4 = .ok (.getfield 59, 3) := by decide +kernel
theorem d_Mod_hang_7 : decode b_Mod_hang 7 = .ok (.if_icmp .ge 16, 3) := by decide +kernel
theorem d_Mod_hang_10 : decode b_Mod_hang 10 = .ok (.aload_n 0, 1) := by decide +kernel
theorem d_Mod_hang_11 : decode b_Mod_hang 11 = .ok (.getfield 38, 3) := by decide +kernel
theorem d_Mod_hang_14 : decode b_Mod_hang 14 = .ok (.iload_n 1, 1) := by decide +kernel
theorem d_Mod_hang_15 : decode b_Mod_hang 15 = .ok (.iload_n 1, 1) := by decide +kernel
theorem d_Mod_hang_16 : decode b_Mod_hang 16 = .ok (.iastore, 1) := by decide +kernel
theorem d_Mod_hang_17 : decode b_Mod_hang 17 = .ok (.iinc 1 1, 3) := by decide +kernel
theorem d_Mod_hang_20 : decode b_Mod_hang 20 = .ok (.goto (-18), 3) := by decide +kernel
theorem d_Mod_hang_23 : decode b_Mod_hang 23 = .ok (.iconst 1, 1) := by decide +kernel
theorem d_Mod_hang_24 : decode b_Mod_hang 24 = .ok (.istore_n 1, 1) := by decide +kernel
theorem d_Mod_hang_25 : decode b_Mod_hang 25 = .ok (.iload_n 1, 1) := by decide +kernel
theorem d_Mod_hang_26 : decode b_Mod_hang 26 = .ok (.ifCond .eq 96, 3) := by decide +kernel
theorem d_Mod_hang_29 : decode b_Mod_hang 29 = .ok (.iconst 0, 1) := by decide +kernel
theorem d_Mod_hang_30 : decode b_Mod_hang 30 = .ok (.istore_n 1, 1) := by decide +kernel
theorem d_Mod_hang_31 : decode b_Mod_hang 31 = .ok (.iconst 0, 1) := by decide +kernel
theorem d_Mod_hang_32 : decode b_Mod_hang 32 = .ok (.istore_n 2, 1) := by decide +kernel
theorem d_Mod_hang_33 : decode b_Mod_hang 33 = .ok (.iload_n 2, 1) := by decide +kernel
theorem d_Mod_hang_34 : decode b_Mod_hang 34 = .ok (.iconst 4, 1) := by decide +kernel
theorem d_Mod_hang_35 : decode b_Mod_hang 35 = .ok (.aload_n 0, 1) := by decide +kernel
theorem d_Mod_hang_36 : decode b_Mod_hang 36 = .ok (.getfield 59, 3) := by decide +kernel
theorem d_Mod_hang_39 : decode b_Mod_hang 39 = .ok (.imul, 1) := by decide +kernel
theorem d_Mod_hang_40 : decode b_Mod_hang 40 = .ok (.if_icmp .ge 79, 3) := by decide +kernel
theorem d_Mod_hang_43 : decode b_Mod_hang 43 = .ok (.iconst 0, 1) := by decide +kernel
theorem d_Mod_hang_44 : decode b_Mod_hang 44 = .ok (.istore_n 3, 1) := by decide +kernel
theorem d_Mod_hang_45 : decode b_Mod_hang 45 = .ok (.iload_n 3, 1) := by decide +kernel
theorem d_Mod_hang_46 : decode b_Mod_hang 46 = .ok (.iconst 4, 1) := by decide +kernel
theorem d_Mod_hang_47 : decode b_Mod_hang 47 = .ok (.aload_n 0, 1) := by decide +kernel
theorem d_Mod_hang_48 : decode b_Mod_hang 48 = .ok (.getfield 59, 3) := by decide +kernel
theorem d_Mod_hang_51 : decode b_Mod_hang 51 = .ok (.imul, 1) := by decide +kernel
theorem d_Mod_hang_52 : decode b_Mod_hang 52 = .ok (.if_icmp .ge 61, 3) := by decide +kernel
theorem d_Mod_hang_55 : decode b_Mod_hang 55 = .ok (.aload_n 0, 1) := by decide +kernel
theorem d_Mod_hang_56 : decode b_Mod_hang 56 = .ok (.getfield 23, 3) := by decide +kernel
theorem d_Mod_hang_59 : decode b_Mod_hang 59 = .ok (.iload_n 2, 1) := by decide +kernel
theorem d_Mod_hang_60 : decode b_Mod_hang 60 = .ok (.iaload, 1) := by decide +kernel
theorem d_Mod_hang_61 : decode b_Mod_hang 61 = .ok (.aload_n 0, 1) := by decide +kernel
theorem d_Mod_hang_62 : decode b_Mod_hang 62 = .ok (.getfield 23, 3) := by decide +kernel
theorem d_Mod_hang_65 : decode b_Mod_hang 65 = .ok (.iload_n 3, 1) := by decide +kernel
theorem d_Mod_hang_66 : decode b_Mod_hang 66 = .ok (.iaload, 1) := by decide +kernel
theorem d_Mod_hang_67 : decode b_Mod_hang 67 = .ok (.if_icmp .ne 40, 3) := by decide +kernel
theorem d_Mod_hang_70 : decode b_Mod_hang 70 = .ok (.aload_n 0, 1) := by decide +kernel
theorem d_Mod_hang_71 : decode b_Mod_hang 71 = .ok (.getfield 38, 3) := by decide +kernel
theorem d_Mod_hang_74 : decode b_Mod_hang 74 = .ok (.iload_n 2, 1) := by decide +kernel
theorem d_Mod_hang_75 : decode b_Mod_hang 75 = .ok (.iconst 4, 1) := by decide +kernel
theorem d_Mod_hang_76 : decode b_Mod_hang 76 = .ok (.idiv, 1) := by decide +kernel
theorem d_Mod_hang_77 : decode b_Mod_hang 77 = .ok (.iaload, 1) := by decide +kernel
theorem d_Mod_hang_78 : decode b_Mod_hang 78 = .ok (.aload_n 0, 1) := by decide +kernel
theorem d_Mod_hang_79 : decode b_Mod_hang 79 = .ok (.getfield 38, 3) := by decide +kernel
theorem d_Mod_hang_82 : decode b_Mod_hang 82 = .ok (.iload_n 3, 1) := by decide +kernel
theorem d_Mod_hang_83 : decode b_Mod_hang 83 = .ok (.iconst 4, 1) := by decide +kernel
theorem d_Mod_hang_84 : decode b_Mod_hang 84 = .ok (.idiv, 1) := by decide +kernel
theorem d_Mod_hang_85 : decode b_Mod_hang 85 = .ok (.iaload, 1) := by decide +kernel
theorem d_Mod_hang_86 : decode b_Mod_hang 86 = .ok (.if_icmp .ge 21, 3) := by decide +kernel
theorem d_Mod_hang_89 : decode b_Mod_hang 89 = .ok (.aload_n 0, 1) := by decide +kernel
theorem d_Mod_hang_90 : decode b_Mod_hang 90 = .ok (.getfield 38, 3) := by decide +kernel
theorem d_Mod_hang_93 : decode b_Mod_hang 93 = .ok (.iload_n 3, 1) := by decide +kernel
theorem d_Mod_hang_94 : decode b_Mod_hang 94 = .ok (.iconst 4, 1) := by decide +kernel
theorem d_Mod_hang_95 : decode b_Mod_hang 95 = .ok (.idiv, 1) := by decide +kernel
theorem d_Mod_hang_96 : decode b_Mod_hang 96 = .ok (.aload_n 0, 1) := by decide +kernel
theorem d_Mod_hang_97 : decode b_Mod_hang 97 = .ok (.getfield 38, 3) := by decide +kernel
theorem d_Mod_hang_100 : decode b_Mod_hang 100 = .ok (.iload_n 2, 1) := by decide +kernel
theorem d_Mod_hang_101 : decode b_Mod_hang 101 = .ok (.iconst 4, 1) := by decide +kernel
theorem d_Mod_hang_102 : decode b_Mod_hang 102 = .ok (.idiv, 1) := by decide +kernel
theorem d_Mod_hang_103 : decode b_Mod_hang 103 = .ok (.iaload, 1) := by decide +kernel
theorem d_Mod_hang_104 : decode b_Mod_hang 104 = .ok (.iastore, 1) := by decide +kernel
theorem d_Mod_hang_105 : decode b_Mod_hang 105 = .ok (.iconst 1, 1) := by decide +kernel
theorem d_Mod_hang_106 : decode b_Mod_hang 106 = .ok (.istore_n 1, 1) := by decide +kernel
theorem d_Mod_hang_107 : decode b_Mod_hang 107 = .ok (.iinc 3 1, 3) := by decide +kernel
theorem d_Mod_hang_110 : decode b_Mod_hang 110 = .ok (.goto (-65), 3) := by decide +kernel
theorem d_Mod_hang_113 : decode b_Mod_hang 113 = .ok (.iinc 2 1, 3) := by decide +kernel
theorem d_Mod_hang_116 : decode b_Mod_hang 116 = .ok (.goto (-83), 3) := by decide +kernel
theorem d_Mod_hang_119 : decode b_Mod_hang 119 = .ok (.goto (-94), 3) := by decide +kernel
theorem d_Mod_hang_122 : decode b_Mod_hang 122 = .ok (.return_, 1) := by decide +kernel
theorem d_Mod_pieces_0 : decode b_Mod_pieces 0 = .ok (.aload_n 0, 1) := by decide +kernel
theorem d_Mod_pieces_1 : decode b_Mod_pieces 1 = .ok (.invokevirtual 86, 3) := by decide +kernel
theorem d_Mod_pieces_4 : decode b_Mod_pieces 4 = .ok (.iconst 0, 1) := by decide +kernel
theorem d_Mod_pieces_5 : decode b_Mod_pieces 5 = .ok (.istore_n 1, 1) := by decide +kernel
theorem d_Mod_pieces_6 : decode b_Mod_pieces 6 = .ok (.iconst 0, 1) := by decide +kernel
theorem d_Mod_pieces_7 : decode b_Mod_pieces 7 = .ok (.istore_n 2, 1) := by decide +kernel
theorem d_Mod_pieces_8 : decode b_Mod_pieces 8 = .ok (.iload_n 2, 1) := by decide +kernel
theorem d_Mod_pieces_9 : decode b_Mod_pieces 9 = .ok (.aload_n 0, 1) := by decide +kernel
theorem d_Mod_pieces_10 : decode b_Mod_pieces 10 = .ok (.getfield 59, 3) := by decide +kernel
theorem d_Mod_pieces_13 : decode b_Mod_pieces 13 = .ok (.if_icmp .ge 27, 3) := by decide +kernel
theorem d_Mod_pieces_16 : decode b_Mod_pieces 16 = .ok (.iload_n 1, 1) := by decide +kernel
theorem d_Mod_pieces_17 : decode b_Mod_pieces 17 = .ok (.aload_n 0, 1) := by decide +kernel
theorem d_Mod_pieces_18 : decode b_Mod_pieces 18 = .ok (.getfield 38, 3) := by decide +kernel
theorem d_Mod_pieces_21 : decode b_Mod_pieces 21 = .ok (.iload_n 2, 1) := by decide +kernel
theorem d_Mod_pieces_22 : decode b_Mod_pieces 22 = .ok (.iaload, 1) := by decide +kernel
theorem d_Mod_pieces_23 : decode b_Mod_pieces 23 = .ok (.iload_n 2, 1) := by decide +kernel
theorem d_Mod_pieces_24 : decode b_Mod_pieces 24 = .ok (.if_icmp .ne 7, 3) := by decide +kernel
theorem d_Mod_pieces_27 : decode b_Mod_pieces 27 = .ok (.iconst 1, 1) := by decide +kernel
theorem d_Mod_pieces_28 : decode b_Mod_pieces 28 = .ok (.goto 4, 3) := by decide +kernel
theorem d_Mod_pieces_31 : decode b_Mod_pieces 31 = .ok (.iconst 0, 1) := by decide +kernel
theorem d_Mod_pieces_32 : decode b_Mod_pieces 32 = .ok (.iadd, 1) := by decide +kernel
theorem d_Mod_pieces_33 : decode b_Mod_pieces 33 = .ok (.istore_n 1, 1) := by decide +kernel
theorem d_Mod_pieces_34 : decode b_Mod_pieces 34 = .ok (.iinc 2 1, 3) := by decide +kernel
theorem d_Mod_pieces_37 : decode b_Mod_pieces 37 = .ok (.goto (-29), 3) := by decide +kernel
theorem d_Mod_pieces_40 : decode b_Mod_pieces 40 = .ok (.iload_n 1, 1) := by decide +kernel
theorem d_Mod_pieces_41 : decode b_Mod_pieces 41 = .ok (.ireturn, 1) := by decide +kernel
theorem d_Mod_turn_0 : decode b_Mod_turn 0 = .ok (.aload_n 0, 1) := by decide +kernel
theorem d_Mod_turn_1 : decode b_Mod_turn 1 = .ok (.iload_n 1, 1) := by decide +kernel
theorem d_Mod_turn_2 : decode b_Mod_turn 2 = .ok (.iconst 2, 1) := by decide +kernel
theorem d_Mod_turn_3 : decode b_Mod_turn 3 = .ok (.idiv, 1) := by decide +kernel
theorem d_Mod_turn_4 : decode b_Mod_turn 4 = .ok (.iload_n 1, 1) := by decide +kernel
theorem d_Mod_turn_5 : decode b_Mod_turn 5 = .ok (.iconst 2, 1) := by decide +kernel
theorem d_Mod_turn_6 : decode b_Mod_turn 6 = .ok (.irem, 1) := by decide +kernel
theorem d_Mod_turn_7 : decode b_Mod_turn 7 = .ok (.iconst 1, 1) := by decide +kernel
theorem d_Mod_turn_8 : decode b_Mod_turn 8 = .ok (.if_icmp .ne 7, 3) := by decide +kernel
theorem d_Mod_turn_11 : decode b_Mod_turn 11 = .ok (.iconst 1, 1) := by decide +kernel
theorem d_Mod_turn_12 : decode b_Mod_turn 12 = .ok (.goto 4, 3) := by decide +kernel
theorem d_Mod_turn_15 : decode b_Mod_turn 15 = .ok (.iconst 0, 1) := by decide +kernel
theorem d_Mod_turn_16 : decode b_Mod_turn 16 = .ok (.invokevirtual 66, 3) := by decide +kernel
theorem d_Mod_turn_19 : decode b_Mod_turn 19 = .ok (.istore_n 2, 1) := by decide +kernel
theorem d_Mod_turn_20 : decode b_Mod_turn 20 = .ok (.iload_n 2, 1) := by decide +kernel
theorem d_Mod_turn_21 : decode b_Mod_turn 21 = .ok (.iconst 4, 1) := by decide +kernel
theorem d_Mod_turn_22 : decode b_Mod_turn 22 = .ok (.idiv, 1) := by decide +kernel
theorem d_Mod_turn_23 : decode b_Mod_turn 23 = .ok (.iconst 4, 1) := by decide +kernel
theorem d_Mod_turn_24 : decode b_Mod_turn 24 = .ok (.imul, 1) := by decide +kernel
theorem d_Mod_turn_25 : decode b_Mod_turn 25 = .ok (.iload_n 2, 1) := by decide +kernel
theorem d_Mod_turn_26 : decode b_Mod_turn 26 = .ok (.iconst 3, 1) := by decide +kernel
theorem d_Mod_turn_27 : decode b_Mod_turn 27 = .ok (.iadd, 1) := by decide +kernel
theorem d_Mod_turn_28 : decode b_Mod_turn 28 = .ok (.iconst 4, 1) := by decide +kernel
theorem d_Mod_turn_29 : decode b_Mod_turn 29 = .ok (.irem, 1) := by decide +kernel
theorem d_Mod_turn_30 : decode b_Mod_turn 30 = .ok (.iadd, 1) := by decide +kernel
theorem d_Mod_turn_31 : decode b_Mod_turn 31 = .ok (.istore_n 3, 1) := by decide +kernel
theorem d_Mod_turn_32 : decode b_Mod_turn 32 = .ok (.iconst 2, 1) := by decide +kernel
theorem d_Mod_turn_33 : decode b_Mod_turn 33 = .ok (.aload_n 0, 1) := by decide +kernel
theorem d_Mod_turn_34 : decode b_Mod_turn 34 = .ok (.getfield 23, 3) := by decide +kernel
theorem d_Mod_turn_37 : decode b_Mod_turn 37 = .ok (.iload_n 3, 1) := by decide +kernel
theorem d_Mod_turn_38 : decode b_Mod_turn 38 = .ok (.iaload, 1) := by decide +kernel
theorem d_Mod_turn_39 : decode b_Mod_turn 39 = .ok (.imul, 1) := by decide +kernel
theorem d_Mod_turn_40 : decode b_Mod_turn 40 = .ok (.aload_n 0, 1) := by decide +kernel
theorem d_Mod_turn_41 : decode b_Mod_turn 41 = .ok (.iload_n 3, 1) := by decide +kernel
theorem d_Mod_turn_42 : decode b_Mod_turn 42 = .ok (.invokevirtual 62, 3) := by decide +kernel
theorem d_Mod_turn_45 : decode b_Mod_turn 45 = .ok (.ifCond .eq 7, 3) := by decide +kernel
theorem d_Mod_turn_48 : decode b_Mod_turn 48 = .ok (.iconst 0, 1) := by decide +kernel
theorem d_Mod_turn_49 : decode b_Mod_turn 49 = .ok (.goto 4, 3) := by decide +kernel
theorem d_Mod_turn_52 : decode b_Mod_turn 52 = .ok (.iconst 1, 1) := by decide +kernel
theorem d_Mod_turn_53 : decode b_Mod_turn 53 = .ok (.iadd, 1) := by decide +kernel
theorem d_Mod_turn_54 : decode b_Mod_turn 54 = .ok (.ireturn, 1) := by decide +kernel
theorem d_Mod_rowOf_0 : decode b_Mod_rowOf 0 = .ok (.iconst 0, 1) := by decide +kernel
theorem d_Mod_rowOf_1 : decode b_Mod_rowOf 1 = .ok (.istore_n 2, 1) := by decide +kernel
theorem d_Mod_rowOf_2 : decode b_Mod_rowOf 2 = .ok (.aload_n 0, 1) := by decide +kernel
theorem d_Mod_rowOf_3 : decode b_Mod_rowOf 3 = .ok (.getfield 32, 3) := by decide +kernel
theorem d_Mod_rowOf_6 : decode b_Mod_rowOf 6 = .ok (.iload_n 2, 1) := by decide +kernel
theorem d_Mod_rowOf_7 : decode b_Mod_rowOf 7 = .ok (.iaload, 1) := by decide +kernel
theorem d_Mod_rowOf_8 : decode b_Mod_rowOf 8 = .ok (.iload_n 1, 1) := by decide +kernel
theorem d_Mod_rowOf_9 : decode b_Mod_rowOf 9 = .ok (.if_icmp .eq 9, 3) := by decide +kernel
theorem d_Mod_rowOf_12 : decode b_Mod_rowOf 12 = .ok (.iinc 2 1, 3) := by decide +kernel
theorem d_Mod_rowOf_15 : decode b_Mod_rowOf 15 = .ok (.goto (-13), 3) := by decide +kernel
theorem d_Mod_rowOf_18 : decode b_Mod_rowOf 18 = .ok (.iload_n 2, 1) := by decide +kernel
theorem d_Mod_rowOf_19 : decode b_Mod_rowOf 19 = .ok (.ireturn, 1) := by decide +kernel
theorem d_Mod_findFaces_0 : decode b_Mod_findFaces 0 = .ok (.aload_n 0, 1) := by decide +kernel
theorem d_Mod_findFaces_1 : decode b_Mod_findFaces 1 = .ok (.invokevirtual 80, 3) := by decide +kernel
theorem d_Mod_findFaces_4 : decode b_Mod_findFaces 4 = .ok (.iconst 0, 1) := by decide +kernel
theorem d_Mod_findFaces_5 : decode b_Mod_findFaces 5 = .ok (.istore_n 1, 1) := by decide +kernel
theorem d_Mod_findFaces_6 : decode b_Mod_findFaces 6 = .ok (.iload_n 1, 1) := by decide +kernel
theorem d_Mod_findFaces_7 : decode b_Mod_findFaces 7 = .ok (.bipush 80, 2) := by decide +kernel
theorem d_Mod_findFaces_9 : decode b_Mod_findFaces 9 = .ok (.if_icmp .ge 16, 3) := by decide +kernel
theorem d_Mod_findFaces_12 : decode b_Mod_findFaces 12 = .ok (.aload_n 0, 1) := by decide +kernel
theorem d_Mod_findFaces_13 : decode b_Mod_findFaces 13 = .ok (.getfield 44, 3) := by decide +kernel
theorem d_Mod_findFaces_16 : decode b_Mod_findFaces 16 = .ok (.iload_n 1, 1) := by decide +kernel
theorem d_Mod_findFaces_17 : decode b_Mod_findFaces 17 = .ok (.iconst (-1), 1) := by decide +kernel
theorem d_Mod_findFaces_18 : decode b_Mod_findFaces 18 = .ok (.iastore, 1) := by decide +kernel
theorem d_Mod_findFaces_19 : decode b_Mod_findFaces 19 = .ok (.iinc 1 1, 3) := by decide +kernel
theorem d_Mod_findFaces_22 : decode b_Mod_findFaces 22 = .ok (.goto (-16), 3) := by decide +kernel
theorem d_Mod_findFaces_25 : decode b_Mod_findFaces 25 = .ok (.aload_n 0, 1) := by decide +kernel
theorem d_Mod_findFaces_26 : decode b_Mod_findFaces 26 = .ok (.iconst 0, 1) := by decide +kernel
theorem d_Mod_findFaces_27 : decode b_Mod_findFaces 27 = .ok (.putfield 89, 3) := by decide +kernel
theorem d_Mod_findFaces_30 : decode b_Mod_findFaces 30 = .ok (.iconst 0, 1) := by decide +kernel
theorem d_Mod_findFaces_31 : decode b_Mod_findFaces 31 = .ok (.istore_n 1, 1) := by decide +kernel
theorem d_Mod_findFaces_32 : decode b_Mod_findFaces 32 = .ok (.iload_n 1, 1) := by decide +kernel
theorem d_Mod_findFaces_33 : decode b_Mod_findFaces 33 = .ok (.iconst 2, 1) := by decide +kernel
theorem d_Mod_findFaces_34 : decode b_Mod_findFaces 34 = .ok (.aload_n 0, 1) := by decide +kernel
theorem d_Mod_findFaces_35 : decode b_Mod_findFaces 35 = .ok (.getfield 74, 3) := by decide +kernel
theorem d_Mod_findFaces_38 : decode b_Mod_findFaces 38 = .ok (.imul, 1) := by decide +kernel
theorem d_Mod_findFaces_39 : decode b_Mod_findFaces 39 = .ok (.if_icmp .ge 113, 3) := by decide +kernel
theorem d_Mod_findFaces_42 : decode b_Mod_findFaces 42 = .ok (.iconst 2, 1) := by decide +kernel
theorem d_Mod_findFaces_43 : decode b_Mod_findFaces 43 = .ok (.aload_n 0, 1) := by decide +kernel
theorem d_Mod_findFaces_44 : decode b_Mod_findFaces 44 = .ok (.getfield 32, 3) := by decide +kernel
theorem d_Mod_findFaces_47 : decode b_Mod_findFaces 47 = .ok (.iload_n 1, 1) := by decide +kernel
theorem d_Mod_findFaces_48 : decode b_Mod_findFaces 48 = .ok (.iconst 2, 1) := by decide +kernel
theorem d_Mod_findFaces_49 : decode b_Mod_findFaces 49 = .ok (.idiv, 1) := by decide +kernel
theorem d_Mod_findFaces_50 : decode b_Mod_findFaces 50 = .ok (.iaload, 1) := by decide +kernel
theorem d_Mod_findFaces_51 : decode b_Mod_findFaces 51 = .ok (.imul, 1) := by decide +kernel
theorem d_Mod_findFaces_52 : decode b_Mod_findFaces 52 = .ok (.iload_n 1, 1) := by decide +kernel
theorem d_Mod_findFaces_53 : decode b_Mod_findFaces 53 = .ok (.iconst 2, 1) := by decide +kernel
theorem d_Mod_findFaces_54 : decode b_Mod_findFaces 54 = .ok (.irem, 1) := by decide +kernel
theorem d_Mod_findFaces_55 : decode b_Mod_findFaces 55 = .ok (.iadd, 1) := by decide +kernel
theorem d_Mod_findFaces_56 : decode b_Mod_findFaces 56 = .ok (.istore_n 2, 1) := by decide +kernel
theorem d_Mod_findFaces_57 : decode b_Mod_findFaces 57 = .ok (.aload_n 0, 1) := by decide +kernel
theorem d_Mod_findFaces_58 : decode b_Mod_findFaces 58 = .ok (.getfield 44, 3) := by decide +kernel
theorem d_Mod_findFaces_61 : decode b_Mod_findFaces 61 = .ok (.iload_n 1, 1) := by decide +kernel
theorem d_Mod_findFaces_62 : decode b_Mod_findFaces 62 = .ok (.iaload, 1) := by decide +kernel
theorem d_Mod_findFaces_63 : decode b_Mod_findFaces 63 = .ok (.ifCond .ge 7, 3) := by decide +kernel
theorem d_Mod_findFaces_66 : decode b_Mod_findFaces 66 = .ok (.iconst 1, 1) := by decide +kernel
theorem d_Mod_findFaces_67 : decode b_Mod_findFaces 67 = .ok (.goto 4, 3) := by decide +kernel
theorem d_Mod_findFaces_70 : decode b_Mod_findFaces 70 = .ok (.iconst 0, 1) := by decide +kernel
theorem d_Mod_findFaces_71 : decode b_Mod_findFaces 71 = .ok (.istore_n 3, 1) := by decide +kernel
theorem d_Mod_findFaces_72 : decode b_Mod_findFaces 72 = .ok (.iload_n 3, 1) := by decide +kernel
theorem d_Mod_findFaces_73 : decode b_Mod_findFaces 73 = .ok (.ifCond .eq 55, 3) := by decide +kernel
theorem d_Mod_findFaces_76 : decode b_Mod_findFaces 76 = .ok (.aload_n 0, 1) := by decide +kernel
theorem d_Mod_findFaces_77 : decode b_Mod_findFaces 77 = .ok (.getfield 44, 3) := by decide +kernel
theorem d_Mod_findFaces_80 : decode b_Mod_findFaces 80 = .ok (.iconst 2, 1) := by decide +kernel
theorem d_Mod_findFaces_81 : decode b_Mod_findFaces 81 = .ok (.aload_n 0, 1) := by decide +kernel
theorem d_Mod_findFaces_82 : decode b_Mod_findFaces 82 = .ok (.iload_n 2, 1) := by decide +kernel
theorem d_Mod_findFaces_83 : decode b_Mod_findFaces 83 = .ok (.iconst 2, 1) := by decide +kernel
theorem d_Mod_findFaces_84 : decode b_Mod_findFaces 84 = .ok (.idiv, 1) := by decide +kernel
theorem d_Mod_findFaces_85 : decode b_Mod_findFaces 85 = .ok (.invokevirtual 92, 3) := by decide +kernel
theorem d_Mod_findFaces_88 : decode b_Mod_findFaces 88 = .ok (.imul, 1) := by decide +kernel
theorem d_Mod_findFaces_89 : decode b_Mod_findFaces 89 = .ok (.iload_n 2, 1) := by decide +kernel
theorem d_Mod_findFaces_90 : decode b_Mod_findFaces 90 = .ok (.iconst 2, 1) := by decide +kernel
theorem d_Mod_findFaces_91 : decode b_Mod_findFaces 91 = .ok (.irem, 1) := by decide +kernel
theorem d_Mod_findFaces_92 : decode b_Mod_findFaces 92 = .ok (.iadd, 1) := by decide +kernel
theorem d_Mod_findFaces_93 : decode b_Mod_findFaces 93 = .ok (.iaload, 1) := by decide +kernel
theorem d_Mod_findFaces_94 : decode b_Mod_findFaces 94 = .ok (.ifCond .ge 34, 3) := by decide +kernel
theorem d_Mod_findFaces_97 : decode b_Mod_findFaces 97 = .ok (.aload_n 0, 1) := by decide +kernel
theorem d_Mod_findFaces_98 : decode b_Mod_findFaces 98 = .ok (.getfield 44, 3) := by decide +kernel
theorem d_Mod_findFaces_101 : decode b_Mod_findFaces 101 = .ok (.iconst 2, 1) := by decide +kernel
theorem d_Mod_findFaces_102 : decode b_Mod_findFaces 102 = .ok (.aload_n 0, 1) := by decide +kernel
theorem d_Mod_findFaces_103 : decode b_Mod_findFaces 103 = .ok (.iload_n 2, 1) := by decide +kernel
theorem d_Mod_findFaces_104 : decode b_Mod_findFaces 104 = .ok (.iconst 2, 1) := by decide +kernel
theorem d_Mod_findFaces_105 : decode b_Mod_findFaces 105 = .ok (.idiv, 1) := by decide +kernel
theorem d_Mod_findFaces_106 : decode b_Mod_findFaces 106 = .ok (.invokevirtual 92, 3) := by decide +kernel
theorem d_Mod_findFaces_109 : decode b_Mod_findFaces 109 = .ok (.imul, 1) := by decide +kernel
theorem d_Mod_findFaces_110 : decode b_Mod_findFaces 110 = .ok (.iload_n 2, 1) := by decide +kernel
theorem d_Mod_findFaces_111 : decode b_Mod_findFaces 111 = .ok (.iconst 2, 1) := by decide +kernel
theorem d_Mod_findFaces_112 : decode b_Mod_findFaces 112 = .ok (.irem, 1) := by decide +kernel
theorem d_Mod_findFaces_113 : decode b_Mod_findFaces 113 = .ok (.iadd, 1) := by decide +kernel
theorem d_Mod_findFaces_114 : decode b_Mod_findFaces 114 = .ok (.aload_n 0, 1) := by decide +kernel
theorem d_Mod_findFaces_115 : decode b_Mod_findFaces 115 = .ok (.getfield 89, 3) := by decide +kernel
theorem d_Mod_findFaces_118 : decode b_Mod_findFaces 118 = .ok (.iastore, 1) := by decide +kernel
theorem d_Mod_findFaces_119 : decode b_Mod_findFaces 119 = .ok (.aload_n 0, 1) := by decide +kernel
theorem d_Mod_findFaces_120 : decode b_Mod_findFaces 120 = .ok (.iload_n 2, 1) := by decide +kernel
theorem d_Mod_findFaces_121 : decode b_Mod_findFaces 121 = .ok (.invokevirtual 95, 3) := by decide +kernel
theorem d_Mod_findFaces_124 : decode b_Mod_findFaces 124 = .ok (.istore_n 2, 1) := by decide +kernel
theorem d_Mod_findFaces_125 : decode b_Mod_findFaces 125 = .ok (.goto (-53), 3) := by decide +kernel
theorem d_Mod_findFaces_128 : decode b_Mod_findFaces 128 = .ok (.aload_n 0, 1) := by decide +kernel
theorem d_Mod_findFaces_129 : decode b_Mod_findFaces 129 = .ok (.dup, 1) := by decide +kernel
theorem d_Mod_findFaces_130 : decode b_Mod_findFaces 130 = .ok (.getfield 89, 3) := by decide +kernel
theorem d_Mod_findFaces_133 : decode b_Mod_findFaces 133 = .ok (.iload_n 3, 1) := by decide +kernel
theorem d_Mod_findFaces_134 : decode b_Mod_findFaces 134 = .ok (.ifCond .eq 7, 3) := by decide +kernel
theorem d_Mod_findFaces_137 : decode b_Mod_findFaces 137 = .ok (.iconst 1, 1) := by decide +kernel
theorem d_Mod_findFaces_138 : decode b_Mod_findFaces 138 = .ok (.goto 4, 3) := by decide +kernel
theorem d_Mod_findFaces_141 : decode b_Mod_findFaces 141 = .ok (.iconst 0, 1) := by decide +kernel
theorem d_Mod_findFaces_142 : decode b_Mod_findFaces 142 = .ok (.iadd, 1) := by decide +kernel
theorem d_Mod_findFaces_143 : decode b_Mod_findFaces 143 = .ok (.putfield 89, 3) := by decide +kernel
theorem d_Mod_findFaces_146 : decode b_Mod_findFaces 146 = .ok (.iinc 1 1, 3) := by decide +kernel
theorem d_Mod_findFaces_149 : decode b_Mod_findFaces 149 = .ok (.goto (-117), 3) := by decide +kernel
theorem d_Mod_findFaces_152 : decode b_Mod_findFaces 152 = .ok (.return_, 1) := by decide +kernel
theorem d_Mod_facesAt_0 : decode b_Mod_facesAt 0 = .ok (.iconst 0, 1) := by decide +kernel
theorem d_Mod_facesAt_1 : decode b_Mod_facesAt 1 = .ok (.istore_n 2, 1) := by decide +kernel
theorem d_Mod_facesAt_2 : decode b_Mod_facesAt 2 = .ok (.iconst (-1), 1) := by decide +kernel
theorem d_Mod_facesAt_3 : decode b_Mod_facesAt 3 = .ok (.istore_n 3, 1) := by decide +kernel
theorem d_Mod_facesAt_4 : decode b_Mod_facesAt 4 = .ok (.iconst 0, 1) := by decide +kernel
theorem d_Mod_facesAt_5 : decode b_Mod_facesAt 5 = .ok (.istore 4, 2) := by decide +kernel
theorem d_Mod_facesAt_7 : decode b_Mod_facesAt 7 = .ok (.iload 4, 2) := by decide +kernel
theorem d_Mod_facesAt_9 : decode b_Mod_facesAt 9 = .ok (.iconst 2, 1) := by decide +kernel
theorem d_Mod_facesAt_10 : decode b_Mod_facesAt 10 = .ok (.aload_n 0, 1) := by decide +kernel
theorem d_Mod_facesAt_11 : decode b_Mod_facesAt 11 = .ok (.getfield 74, 3) := by decide +kernel
theorem d_Mod_facesAt_14 : decode b_Mod_facesAt 14 = .ok (.imul, 1) := by decide +kernel
theorem d_Mod_facesAt_15 : decode b_Mod_facesAt 15 = .ok (.if_icmp .ge 82, 3) := by decide +kernel
theorem d_Mod_facesAt_18 : decode b_Mod_facesAt 18 = .ok (.aload_n 0, 1) := by decide +kernel
theorem d_Mod_facesAt_19 : decode b_Mod_facesAt 19 = .ok (.getfield 44, 3) := by decide +kernel
theorem d_Mod_facesAt_22 : decode b_Mod_facesAt 22 = .ok (.iload 4, 2) := by decide +kernel
theorem d_Mod_facesAt_24 : decode b_Mod_facesAt 24 = .ok (.iaload, 1) := by decide +kernel
theorem d_Mod_facesAt_25 : decode b_Mod_facesAt 25 = .ok (.iload_n 3, 1) := by decide +kernel
theorem d_Mod_facesAt_26 : decode b_Mod_facesAt 26 = .ok (.if_icmp .le 7, 3) := by decide +kernel
theorem d_Mod_facesAt_29 : decode b_Mod_facesAt 29 = .ok (.iconst 1, 1) := by decide +kernel
theorem d_Mod_facesAt_30 : decode b_Mod_facesAt 30 = .ok (.goto 4, 3) := by decide +kernel
theorem d_Mod_facesAt_33 : decode b_Mod_facesAt 33 = .ok (.iconst 0, 1) := by decide +kernel
theorem d_Mod_facesAt_34 : decode b_Mod_facesAt 34 = .ok (.istore 5, 2) := by decide +kernel
theorem d_Mod_facesAt_36 : decode b_Mod_facesAt 36 = .ok (.iload_n 2, 1) := by decide +kernel
theorem d_Mod_facesAt_37 : decode b_Mod_facesAt 37 = .ok (.iload 5, 2) := by decide +kernel
theorem d_Mod_facesAt_39 : decode b_Mod_facesAt 39 = .ok (.ifCond .eq 32, 3) := by decide +kernel
theorem d_Mod_facesAt_42 : decode b_Mod_facesAt 42 = .ok (.aload_n 0, 1) := by decide +kernel
theorem d_Mod_facesAt_43 : decode b_Mod_facesAt 43 = .ok (.getfield 38, 3) := by decide +kernel
theorem d_Mod_facesAt_46 : decode b_Mod_facesAt 46 = .ok (.aload_n 0, 1) := by decide +kernel
theorem d_Mod_facesAt_47 : decode b_Mod_facesAt 47 = .ok (.aload_n 0, 1) := by decide +kernel
theorem d_Mod_facesAt_48 : decode b_Mod_facesAt 48 = .ok (.getfield 32, 3) := by decide +kernel
theorem d_Mod_facesAt_51 : decode b_Mod_facesAt 51 = .ok (.iload 4, 2) := by decide +kernel
theorem d_Mod_facesAt_53 : decode b_Mod_facesAt 53 = .ok (.iconst 2, 1) := by decide +kernel
theorem d_Mod_facesAt_54 : decode b_Mod_facesAt 54 = .ok (.idiv, 1) := by decide +kernel
theorem d_Mod_facesAt_55 : decode b_Mod_facesAt 55 = .ok (.iaload, 1) := by decide +kernel
theorem d_Mod_facesAt_56 : decode b_Mod_facesAt 56 = .ok (.iconst 1, 1) := by decide +kernel
theorem d_Mod_facesAt_57 : decode b_Mod_facesAt 57 = .ok (.invokevirtual 66, 3) := by decide +kernel
theorem d_Mod_facesAt_60 : decode b_Mod_facesAt 60 = .ok (.iconst 4, 1) := by decide +kernel
theorem d_Mod_facesAt_61 : decode b_Mod_facesAt 61 = .ok (.idiv, 1) := by decide +kernel
theorem d_Mod_facesAt_62 : decode b_Mod_facesAt 62 = .ok (.iaload, 1) := by decide +kernel
theorem d_Mod_facesAt_63 : decode b_Mod_facesAt 63 = .ok (.iload_n 1, 1) := by decide +kernel
theorem d_Mod_facesAt_64 : decode b_Mod_facesAt 64 = .ok (.if_icmp .ne 7, 3) := by decide +kernel
theorem d_Mod_facesAt_67 : decode b_Mod_facesAt 67 = .ok (.iconst 1, 1) := by decide +kernel
theorem d_Mod_facesAt_68 : decode b_Mod_facesAt 68 = .ok (.goto 4, 3) := by decide +kernel
theorem d_Mod_facesAt_71 : decode b_Mod_facesAt 71 = .ok (.iconst 0, 1) := by decide +kernel
theorem d_Mod_facesAt_72 : decode b_Mod_facesAt 72 = .ok (.iadd, 1) := by decide +kernel
theorem d_Mod_facesAt_73 : decode b_Mod_facesAt 73 = .ok (.istore_n 2, 1) := by decide +kernel
theorem d_Mod_facesAt_74 : decode b_Mod_facesAt 74 = .ok (.iload 5, 2) := by decide +kernel
theorem d_Mod_facesAt_76 : decode b_Mod_facesAt 76 = .ok (.ifCond .eq 13, 3) := by decide +kernel
theorem d_Mod_facesAt_79 : decode b_Mod_facesAt 79 = .ok (.aload_n 0, 1) := by decide +kernel
theorem d_Mod_facesAt_80 : decode b_Mod_facesAt 80 = .ok (.getfield 44, 3) := by decide +kernel
theorem d_Mod_facesAt_83 : decode b_Mod_facesAt 83 = .ok (.iload 4, 2) := by decide +kernel
theorem d_Mod_facesAt_85 : decode b_Mod_facesAt 85 = .ok (.iaload, 1) := by decide +kernel
theorem d_Mod_facesAt_86 : decode b_Mod_facesAt 86 = .ok (.goto 4, 3) := by decide +kernel
theorem d_Mod_facesAt_89 : decode b_Mod_facesAt 89 = .ok (.iload_n 3, 1) := by decide +kernel
theorem d_Mod_facesAt_90 : decode b_Mod_facesAt 90 = .ok (.istore_n 3, 1) := by decide +kernel
theorem d_Mod_facesAt_91 : decode b_Mod_facesAt 91 = .ok (.iinc 4 1, 3) := by decide +kernel
theorem d_Mod_facesAt_94 : decode b_Mod_facesAt 94 = .ok (.goto (-87), 3) := by decide +kernel
theorem d_Mod_facesAt_97 : decode b_Mod_facesAt 97 = .ok (.iload_n 2, 1) := by decide +kernel
theorem d_Mod_facesAt_98 : decode b_Mod_facesAt 98 = .ok (.ireturn, 1) := by decide +kernel
theorem d_Mod_crossing_0 : decode b_Mod_crossing 0 = .ok (.iload_n 2, 1) := by decide +kernel
theorem d_Mod_crossing_1 : decode b_Mod_crossing 1 = .ok (.ifCond .le 51, 3) := by decide +kernel
theorem d_Mod_crossing_4 : decode b_Mod_crossing 4 = .ok (.iload_n 3, 1) := by decide +kernel
theorem d_Mod_crossing_5 : decode b_Mod_crossing 5 = .ok (.ifCond .le 47, 3) := by decide +kernel
theorem d_Mod_crossing_8 : decode b_Mod_crossing 8 = .ok (.iload 4, 2) := by decide +kernel
theorem d_Mod_crossing_10 : decode b_Mod_crossing 10 = .ok (.ifCond .le 42, 3) := by decide +kernel
theorem d_Mod_crossing_13 : decode b_Mod_crossing 13 = .ok (.iload 5, 2) := by decide +kernel
theorem d_Mod_crossing_15 : decode b_Mod_crossing 15 = .ok (.ifCond .le 37, 3) := by decide +kernel
theorem d_Mod_crossing_18 : decode b_Mod_crossing 18 = .ok (.iload_n 2, 1) := by decide +kernel
theorem d_Mod_crossing_19 : decode b_Mod_crossing 19 = .ok (.sipush 10000, 3) := by decide +kernel
theorem d_Mod_crossing_22 : decode b_Mod_crossing 22 = .ok (.if_icmp .ge 30, 3) := by decide +kernel
theorem d_Mod_crossing_25 : decode b_Mod_crossing 25 = .ok (.iload_n 3, 1) := by decide +kernel
theorem d_Mod_crossing_26 : decode b_Mod_crossing 26 = .ok (.sipush 10000, 3) := by decide +kernel
theorem d_Mod_crossing_29 : decode b_Mod_crossing 29 = .ok (.if_icmp .ge 23, 3) := by decide +kernel
theorem d_Mod_crossing_32 : decode b_Mod_crossing 32 = .ok (.iload 4, 2) := by decide +kernel
theorem d_Mod_crossing_34 : decode b_Mod_crossing 34 = .ok (.sipush 10000, 3) := by decide +kernel
theorem d_Mod_crossing_37 : decode b_Mod_crossing 37 = .ok (.if_icmp .ge 15, 3) := by decide +kernel
theorem d_Mod_crossing_40 : decode b_Mod_crossing 40 = .ok (.iload 5, 2) := by decide +kernel
theorem d_Mod_crossing_42 : decode b_Mod_crossing 42 = .ok (.sipush 10000, 3) := by decide +kernel
theorem d_Mod_crossing_45 : decode b_Mod_crossing 45 = .ok (.if_icmp .ge 7, 3) := by decide +kernel
theorem d_Mod_crossing_48 : decode b_Mod_crossing 48 = .ok (.iconst 1, 1) := by decide +kernel
theorem d_Mod_crossing_49 : decode b_Mod_crossing 49 = .ok (.goto 4, 3) := by decide +kernel
theorem d_Mod_crossing_52 : decode b_Mod_crossing 52 = .ok (.iconst 0, 1) := by decide +kernel
theorem d_Mod_crossing_53 : decode b_Mod_crossing 53 = .ok (.istore 6, 2) := by decide +kernel
theorem d_Mod_crossing_55 : decode b_Mod_crossing 55 = .ok (.iload_n 1, 1) := by decide +kernel
theorem d_Mod_crossing_56 : decode b_Mod_crossing 56 = .ok (.iconst 1, 1) := by decide +kernel
theorem d_Mod_crossing_57 : decode b_Mod_crossing 57 = .ok (.if_icmp .eq 8, 3) := by decide +kernel
theorem d_Mod_crossing_60 : decode b_Mod_crossing 60 = .ok (.iload_n 1, 1) := by decide +kernel
theorem d_Mod_crossing_61 : decode b_Mod_crossing 61 = .ok (.iconst (-1), 1) := by decide +kernel
theorem d_Mod_crossing_62 : decode b_Mod_crossing 62 = .ok (.if_icmp .ne 17, 3) := by decide +kernel
theorem d_Mod_crossing_65 : decode b_Mod_crossing 65 = .ok (.iload 6, 2) := by decide +kernel
theorem d_Mod_crossing_67 : decode b_Mod_crossing 67 = .ok (.ifCond .eq 12, 3) := by decide +kernel
theorem d_Mod_crossing_70 : decode b_Mod_crossing 70 = .ok (.aload_n 0, 1) := by decide +kernel
theorem d_Mod_crossing_71 : decode b_Mod_crossing 71 = .ok (.getfield 98, 3) := by decide +kernel
theorem d_Mod_crossing_74 : decode b_Mod_crossing 74 = .ok (.bipush 20, 2) := by decide +kernel
theorem d_Mod_crossing_76 : decode b_Mod_crossing 76 = .ok (.if_icmp .ne 5, 3) := by decide +kernel
theorem d_Mod_crossing_79 : decode b_Mod_crossing 79 = .ok (.iconst (-1), 1) := by decide +kernel
theorem d_Mod_crossing_80 : decode b_Mod_crossing 80 = .ok (.ireturn, 1) := by decide +kernel
theorem d_Mod_crossing_81 : decode b_Mod_crossing 81 = .ok (.aload_n 0, 1) := by decide +kernel
theorem d_Mod_crossing_82 : decode b_Mod_crossing 82 = .ok (.getfield 13, 3) := by decide +kernel
theorem d_Mod_crossing_85 : decode b_Mod_crossing 85 = .ok (.aload_n 0, 1) := by decide +kernel
theorem d_Mod_crossing_86 : decode b_Mod_crossing 86 = .ok (.getfield 98, 3) := by decide +kernel
theorem d_Mod_crossing_89 : decode b_Mod_crossing 89 = .ok (.iload_n 1, 1) := by decide +kernel
theorem d_Mod_crossing_90 : decode b_Mod_crossing 90 = .ok (.iastore, 1) := by decide +kernel
theorem d_Mod_crossing_91 : decode b_Mod_crossing 91 = .ok (.aload_n 0, 1) := by decide +kernel
theorem d_Mod_crossing_92 : decode b_Mod_crossing 92 = .ok (.getfield 17, 3) := by decide +kernel
theorem d_Mod_crossing_95 : decode b_Mod_crossing 95 = .ok (.iconst 4, 1) := by decide +kernel
theorem d_Mod_crossing_96 : decode b_Mod_crossing 96 = .ok (.aload_n 0, 1) := by decide +kernel
theorem d_Mod_crossing_97 : decode b_Mod_crossing 97 = .ok (.getfield 98, 3) := by decide +kernel
theorem d_Mod_crossing_100 : decode b_Mod_crossing 100 = .ok (.imul, 1) := by decide +kernel
theorem d_Mod_crossing_101 : decode b_Mod_crossing 101 = .ok (.iload_n 2, 1) := by decide +kernel
theorem d_Mod_crossing_102 : decode b_Mod_crossing 102 = .ok (.iastore, 1) := by decide +kernel
theorem d_Mod_crossing_103 : decode b_Mod_crossing 103 = .ok (.aload_n 0, 1) := by decide +kernel
theorem d_Mod_crossing_104 : decode b_Mod_crossing 104 = .ok (.getfield 17, 3) := by decide +kernel
theorem d_Mod_crossing_107 : decode b_Mod_crossing 107 = .ok (.iconst 4, 1) := by decide +kernel
theorem d_Mod_crossing_108 : decode b_Mod_crossing 108 = .ok (.aload_n 0, 1) := by decide +kernel
theorem d_Mod_crossing_109 : decode b_Mod_crossing 109 = .ok (.getfield 98, 3) := by decide +kernel
theorem d_Mod_crossing_112 : decode b_Mod_crossing 112 = .ok (.imul, 1) := by decide +kernel
theorem d_Mod_crossing_113 : decode b_Mod_crossing 113 = .ok (.iconst 1, 1) := by decide +kernel
theorem d_Mod_crossing_114 : decode b_Mod_crossing 114 = .ok (.iadd, 1) := by decide +kernel
theorem d_Mod_crossing_115 : decode b_Mod_crossing 115 = .ok (.iload_n 3, 1) := by decide +kernel
theorem d_Mod_crossing_116 : decode b_Mod_crossing 116 = .ok (.iastore, 1) := by decide +kernel
theorem d_Mod_crossing_117 : decode b_Mod_crossing 117 = .ok (.aload_n 0, 1) := by decide +kernel
theorem d_Mod_crossing_118 : decode b_Mod_crossing 118 = .ok (.getfield 17, 3) := by decide +kernel
theorem d_Mod_crossing_121 : decode b_Mod_crossing 121 = .ok (.iconst 4, 1) := by decide +kernel
theorem d_Mod_crossing_122 : decode b_Mod_crossing 122 = .ok (.aload_n 0, 1) := by decide +kernel
theorem d_Mod_crossing_123 : decode b_Mod_crossing 123 = .ok (.getfield 98, 3) := by decide +kernel
theorem d_Mod_crossing_126 : decode b_Mod_crossing 126 = .ok (.imul, 1) := by decide +kernel
theorem d_Mod_crossing_127 : decode b_Mod_crossing 127 = .ok (.iconst 2, 1) := by decide +kernel
theorem d_Mod_crossing_128 : decode b_Mod_crossing 128 = .ok (.iadd, 1) := by decide +kernel
theorem d_Mod_crossing_129 : decode b_Mod_crossing 129 = .ok (.iload 4, 2) := by decide +kernel
theorem d_Mod_crossing_131 : decode b_Mod_crossing 131 = .ok (.iastore, 1) := by decide +kernel
theorem d_Mod_crossing_132 : decode b_Mod_crossing 132 = .ok (.aload_n 0, 1) := by decide +kernel
theorem d_Mod_crossing_133 : decode b_Mod_crossing 133 = .ok (.getfield 17, 3) := by decide +kernel
theorem d_Mod_crossing_136 : decode b_Mod_crossing 136 = .ok (.iconst 4, 1) := by decide +kernel
theorem d_Mod_crossing_137 : decode b_Mod_crossing 137 = .ok (.aload_n 0, 1) := by decide +kernel
theorem d_Mod_crossing_138 : decode b_Mod_crossing 138 = .ok (.getfield 98, 3) := by decide +kernel
theorem d_Mod_crossing_141 : decode b_Mod_crossing 141 = .ok (.imul, 1) := by decide +kernel
theorem d_Mod_crossing_142 : decode b_Mod_crossing 142 = .ok (.iconst 3, 1) := by decide +kernel
theorem d_Mod_crossing_143 : decode b_Mod_crossing 143 = .ok (.iadd, 1) := by decide +kernel
theorem d_Mod_crossing_144 : decode b_Mod_crossing 144 = .ok (.iload 5, 2) := by decide +kernel
theorem d_Mod_crossing_146 : decode b_Mod_crossing 146 = .ok (.iastore, 1) := by decide +kernel
theorem d_Mod_crossing_147 : decode b_Mod_crossing 147 = .ok (.aload_n 0, 1) := by decide +kernel
theorem d_Mod_crossing_148 : decode b_Mod_crossing 148 = .ok (.dup, 1) := by decide +kernel
theorem d_Mod_crossing_149 : decode b_Mod_crossing 149 = .ok (.getfield 98, 3) := by decide +kernel
theorem d_Mod_crossing_152 : decode b_Mod_crossing 152 = .ok (.iconst 1, 1) := by decide +kernel
theorem d_Mod_crossing_153 : decode b_Mod_crossing 153 = .ok (.iadd, 1) := by decide +kernel
theorem d_Mod_crossing_154 : decode b_Mod_crossing 154 = .ok (.putfield 98, 3) := by decide +kernel
theorem d_Mod_crossing_157 : decode b_Mod_crossing 157 = .ok (.aload_n 0, 1) := by decide +kernel
theorem d_Mod_crossing_158 : decode b_Mod_crossing 158 = .ok (.getfield 98, 3) := by decide +kernel
theorem d_Mod_crossing_161 : decode b_Mod_crossing 161 = .ok (.ireturn, 1) := by decide +kernel
theorem d_Mod_take_0 : decode b_Mod_take 0 = .ok (.aload_n 0, 1) := by decide +kernel
theorem d_Mod_take_1 : decode b_Mod_take 1 = .ok (.aload_n 0, 1) := by decide +kernel
theorem d_Mod_take_2 : decode b_Mod_take 2 = .ok (.getfield 59, 3) := by decide +kernel
theorem d_Mod_take_5 : decode b_Mod_take 5 = .ok (.putfield 101, 3) := by decide +kernel
theorem d_Mod_take_8 : decode b_Mod_take 8 = .ok (.aload_n 0, 1) := by decide +kernel
theorem d_Mod_take_9 : decode b_Mod_take 9 = .ok (.aload_n 0, 1) := by decide +kernel
theorem d_Mod_take_10 : decode b_Mod_take 10 = .ok (.getfield 104, 3) := by decide +kernel
theorem d_Mod_take_13 : decode b_Mod_take 13 = .ok (.putfield 107, 3) := by decide +kernel
theorem d_Mod_take_16 : decode b_Mod_take 16 = .ok (.iconst 0, 1) := by decide +kernel
theorem d_Mod_take_17 : decode b_Mod_take 17 = .ok (.istore_n 1, 1) := by decide +kernel
theorem d_Mod_take_18 : decode b_Mod_take 18 = .ok (.iload_n 1, 1) := by decide +kernel
theorem d_Mod_take_19 : decode b_Mod_take 19 = .ok (.bipush 20, 2) := by decide +kernel
theorem d_Mod_take_21 : decode b_Mod_take 21 = .ok (.if_icmp .ge 21, 3) := by decide +kernel
theorem d_Mod_take_24 : decode b_Mod_take 24 = .ok (.aload_n 0, 1) := by decide +kernel
theorem d_Mod_take_25 : decode b_Mod_take 25 = .ok (.getfield 26, 3) := by decide +kernel
theorem d_Mod_take_28 : decode b_Mod_take 28 = .ok (.iload_n 1, 1) := by decide +kernel
theorem d_Mod_take_29 : decode b_Mod_take 29 = .ok (.aload_n 0, 1) := by decide +kernel
theorem d_Mod_take_30 : decode b_Mod_take 30 = .ok (.getfield 20, 3) := by decide +kernel
theorem d_Mod_take_33 : decode b_Mod_take 33 = .ok (.iload_n 1, 1) := by decide +kernel
theorem d_Mod_take_34 : decode b_Mod_take 34 = .ok (.iaload, 1) := by decide +kernel
theorem d_Mod_take_35 : decode b_Mod_take 35 = .ok (.iastore, 1) := by decide +kernel
theorem d_Mod_take_36 : decode b_Mod_take 36 = .ok (.iinc 1 1, 3) := by decide +kernel
theorem d_Mod_take_39 : decode b_Mod_take 39 = .ok (.goto (-21), 3) := by decide +kernel
theorem d_Mod_take_42 : decode b_Mod_take 42 = .ok (.iconst 0, 1) := by decide +kernel
theorem d_Mod_take_43 : decode b_Mod_take 43 = .ok (.istore_n 1, 1) := by decide +kernel
theorem d_Mod_take_44 : decode b_Mod_take 44 = .ok (.iload_n 1, 1) := by decide +kernel
theorem d_Mod_take_45 : decode b_Mod_take 45 = .ok (.bipush 80, 2) := by decide +kernel
theorem d_Mod_take_47 : decode b_Mod_take 47 = .ok (.if_icmp .ge 21, 3) := by decide +kernel
theorem d_Mod_take_50 : decode b_Mod_take 50 = .ok (.aload_n 0, 1) := by decide +kernel
theorem d_Mod_take_51 : decode b_Mod_take 51 = .ok (.getfield 29, 3) := by decide +kernel
theorem d_Mod_take_54 : decode b_Mod_take 54 = .ok (.iload_n 1, 1) := by decide +kernel
theorem d_Mod_take_55 : decode b_Mod_take 55 = .ok (.aload_n 0, 1) := by decide +kernel
theorem d_Mod_take_56 : decode b_Mod_take 56 = .ok (.getfield 23, 3) := by decide +kernel
theorem d_Mod_take_59 : decode b_Mod_take 59 = .ok (.iload_n 1, 1) := by decide +kernel
theorem d_Mod_take_60 : decode b_Mod_take 60 = .ok (.iaload, 1) := by decide +kernel
theorem d_Mod_take_61 : decode b_Mod_take 61 = .ok (.iastore, 1) := by decide +kernel
theorem d_Mod_take_62 : decode b_Mod_take 62 = .ok (.iinc 1 1, 3) := by decide +kernel
theorem d_Mod_take_65 : decode b_Mod_take 65 = .ok (.goto (-21), 3) := by decide +kernel
theorem d_Mod_take_68 : decode b_Mod_take 68 = .ok (.aload_n 0, 1) := by decide +kernel
theorem d_Mod_take_69 : decode b_Mod_take 69 = .ok (.aload_n 0, 1) := by decide +kernel
theorem d_Mod_take_70 : decode b_Mod_take 70 = .ok (.getfield 98, 3) := by decide +kernel
theorem d_Mod_take_73 : decode b_Mod_take 73 = .ok (.putfield 59, 3) := by decide +kernel
theorem d_Mod_take_76 : decode b_Mod_take 76 = .ok (.iconst 0, 1) := by decide +kernel
theorem d_Mod_take_77 : decode b_Mod_take 77 = .ok (.istore_n 1, 1) := by decide +kernel
theorem d_Mod_take_78 : decode b_Mod_take 78 = .ok (.iload_n 1, 1) := by decide +kernel
theorem d_Mod_take_79 : decode b_Mod_take 79 = .ok (.aload_n 0, 1) := by decide +kernel
theorem d_Mod_take_80 : decode b_Mod_take 80 = .ok (.getfield 59, 3) := by decide +kernel
theorem d_Mod_take_83 : decode b_Mod_take 83 = .ok (.if_icmp .ge 21, 3) := by decide +kernel
theorem d_Mod_take_86 : decode b_Mod_take 86 = .ok (.aload_n 0, 1) := by decide +kernel
theorem d_Mod_take_87 : decode b_Mod_take 87 = .ok (.getfield 20, 3) := by decide +kernel
theorem d_Mod_take_90 : decode b_Mod_take 90 = .ok (.iload_n 1, 1) := by decide +kernel
theorem d_Mod_take_91 : decode b_Mod_take 91 = .ok (.aload_n 0, 1) := by decide +kernel
theorem d_Mod_take_92 : decode b_Mod_take 92 = .ok (.getfield 13, 3) := by decide +kernel
theorem d_Mod_take_95 : decode b_Mod_take 95 = .ok (.iload_n 1, 1) := by decide +kernel
theorem d_Mod_take_96 : decode b_Mod_take 96 = .ok (.iaload, 1) := by decide +kernel
theorem d_Mod_take_97 : decode b_Mod_take 97 = .ok (.iastore, 1) := by decide +kernel
theorem d_Mod_take_98 : decode b_Mod_take 98 = .ok (.iinc 1 1, 3) := by decide +kernel
theorem d_Mod_take_101 : decode b_Mod_take 101 = .ok (.goto (-23), 3) := by decide +kernel
theorem d_Mod_take_104 : decode b_Mod_take 104 = .ok (.iconst 0, 1) := by decide +kernel
theorem d_Mod_take_105 : decode b_Mod_take 105 = .ok (.istore_n 1, 1) := by decide +kernel
theorem d_Mod_take_106 : decode b_Mod_take 106 = .ok (.iload_n 1, 1) := by decide +kernel
theorem d_Mod_take_107 : decode b_Mod_take 107 = .ok (.iconst 4, 1) := by decide +kernel
theorem d_Mod_take_108 : decode b_Mod_take 108 = .ok (.aload_n 0, 1) := by decide +kernel
theorem d_Mod_take_109 : decode b_Mod_take 109 = .ok (.getfield 59, 3) := by decide +kernel
theorem d_Mod_take_112 : decode b_Mod_take 112 = .ok (.imul, 1) := by decide +kernel
theorem d_Mod_take_113 : decode b_Mod_take 113 = .ok (.if_icmp .ge 21, 3) := by decide +kernel
theorem d_Mod_take_116 : decode b_Mod_take 116 = .ok (.aload_n 0, 1) := by decide +kernel
theorem d_Mod_take_117 : decode b_Mod_take 117 = .ok (.getfield 23, 3) := by decide +kernel
theorem d_Mod_take_120 : decode b_Mod_take 120 = .ok (.iload_n 1, 1) := by decide +kernel
theorem d_Mod_take_121 : decode b_Mod_take 121 = .ok (.aload_n 0, 1) := by decide +kernel
theorem d_Mod_take_122 : decode b_Mod_take 122 = .ok (.getfield 17, 3) := by decide +kernel
theorem d_Mod_take_125 : decode b_Mod_take 125 = .ok (.iload_n 1, 1) := by decide +kernel
theorem d_Mod_take_126 : decode b_Mod_take 126 = .ok (.iaload, 1) := by decide +kernel
theorem d_Mod_take_127 : decode b_Mod_take 127 = .ok (.iastore, 1) := by decide +kernel
theorem d_Mod_take_128 : decode b_Mod_take 128 = .ok (.iinc 1 1, 3) := by decide +kernel
theorem d_Mod_take_131 : decode b_Mod_take 131 = .ok (.goto (-25), 3) := by decide +kernel
theorem d_Mod_take_134 : decode b_Mod_take 134 = .ok (.aload_n 0, 1) := by decide +kernel
theorem d_Mod_take_135 : decode b_Mod_take 135 = .ok (.iconst 0, 1) := by decide +kernel
theorem d_Mod_take_136 : decode b_Mod_take 136 = .ok (.putfield 98, 3) := by decide +kernel
theorem d_Mod_take_139 : decode b_Mod_take 139 = .ok (.return_, 1) := by decide +kernel
end
section
theorem d_Mod_back_0 : decode b_Mod_back 0 = .ok (.aload_n 0, 1) := by decide +kernel
theorem d_Mod_back_1 : decode b_Mod_back 1 = .ok (.aload_n 0, 1) := by decide +kernel
theorem d_Mod_back_2 : decode b_Mod_back 2 = .ok (.getfield 101, 3) := by decide +kernel
theorem d_Mod_back_5 : decode b_Mod_back 5 = .ok (.putfield 59, 3) := by decide +kernel
theorem d_Mod_back_8 : decode b_Mod_back 8 = .ok (.aload_n 0, 1) := by decide +kernel
theorem d_Mod_back_9 : decode b_Mod_back 9 = .ok (.aload_n 0, 1) := by decide +kernel
theorem d_Mod_back_10 : decode b_Mod_back 10 = .ok (.getfield 107, 3) := by decide +kernel
theorem d_Mod_back_13 : decode b_Mod_back 13 = .ok (.putfield 104, 3) := by decide +kernel
theorem d_Mod_back_16 : decode b_Mod_back 16 = .ok (.iconst 0, 1) := by decide +kernel
theorem d_Mod_back_17 : decode b_Mod_back 17 = .ok (.istore_n 1, 1) := by decide +kernel
theorem d_Mod_back_18 : decode b_Mod_back 18 = .ok (.iload_n 1, 1) := by decide +kernel
theorem d_Mod_back_19 : decode b_Mod_back 19 = .ok (.bipush 20, 2) := by decide +kernel
theorem d_Mod_back_21 : decode b_Mod_back 21 = .ok (.if_icmp .ge 21, 3) := by decide +kernel
theorem d_Mod_back_24 : decode b_Mod_back 24 = .ok (.aload_n 0, 1) := by decide +kernel
theorem d_Mod_back_25 : decode b_Mod_back 25 = .ok (.getfield 20, 3) := by decide +kernel
theorem d_Mod_back_28 : decode b_Mod_back 28 = .ok (.iload_n 1, 1) := by decide +kernel
theorem d_Mod_back_29 : decode b_Mod_back 29 = .ok (.aload_n 0, 1) := by decide +kernel
theorem d_Mod_back_30 : decode b_Mod_back 30 = .ok (.getfield 26, 3) := by decide +kernel
theorem d_Mod_back_33 : decode b_Mod_back 33 = .ok (.iload_n 1, 1) := by decide +kernel
theorem d_Mod_back_34 : decode b_Mod_back 34 = .ok (.iaload, 1) := by decide +kernel
theorem d_Mod_back_35 : decode b_Mod_back 35 = .ok (.iastore, 1) := by decide +kernel
theorem d_Mod_back_36 : decode b_Mod_back 36 = .ok (.iinc 1 1, 3) := by decide +kernel
theorem d_Mod_back_39 : decode b_Mod_back 39 = .ok (.goto (-21), 3) := by decide +kernel
theorem d_Mod_back_42 : decode b_Mod_back 42 = .ok (.iconst 0, 1) := by decide +kernel
theorem d_Mod_back_43 : decode b_Mod_back 43 = .ok (.istore_n 1, 1) := by decide +kernel
theorem d_Mod_back_44 : decode b_Mod_back 44 = .ok (.iload_n 1, 1) := by decide +kernel
theorem d_Mod_back_45 : decode b_Mod_back 45 = .ok (.bipush 80, 2) := by decide +kernel
theorem d_Mod_back_47 : decode b_Mod_back 47 = .ok (.if_icmp .ge 21, 3) := by decide +kernel
theorem d_Mod_back_50 : decode b_Mod_back 50 = .ok (.aload_n 0, 1) := by decide +kernel
theorem d_Mod_back_51 : decode b_Mod_back 51 = .ok (.getfield 23, 3) := by decide +kernel
theorem d_Mod_back_54 : decode b_Mod_back 54 = .ok (.iload_n 1, 1) := by decide +kernel
theorem d_Mod_back_55 : decode b_Mod_back 55 = .ok (.aload_n 0, 1) := by decide +kernel
theorem d_Mod_back_56 : decode b_Mod_back 56 = .ok (.getfield 29, 3) := by decide +kernel
theorem d_Mod_back_59 : decode b_Mod_back 59 = .ok (.iload_n 1, 1) := by decide +kernel
theorem d_Mod_back_60 : decode b_Mod_back 60 = .ok (.iaload, 1) := by decide +kernel
theorem d_Mod_back_61 : decode b_Mod_back 61 = .ok (.iastore, 1) := by decide +kernel
theorem d_Mod_back_62 : decode b_Mod_back 62 = .ok (.iinc 1 1, 3) := by decide +kernel
theorem d_Mod_back_65 : decode b_Mod_back 65 = .ok (.goto (-21), 3) := by decide +kernel
theorem d_Mod_back_68 : decode b_Mod_back 68 = .ok (.return_, 1) := by decide +kernel
theorem d_Mod_badLabel_0 : decode b_Mod_badLabel 0 = .ok (.aload_n 0, 1) := by decide +kernel
theorem d_Mod_badLabel_1 : decode b_Mod_badLabel 1 = .ok (.invokevirtual 80, 3) := by decide +kernel
theorem d_Mod_badLabel_4 : decode b_Mod_badLabel 4 = .ok (.iconst 0, 1) := by decide +kernel
theorem d_Mod_badLabel_5 : decode b_Mod_badLabel 5 = .ok (.istore_n 2, 1) := by decide +kernel
theorem d_Mod_badLabel_6 : decode b_Mod_badLabel 6 = .ok (.iload_n 2, 1) := by decide +kernel
theorem d_Mod_badLabel_7 : decode b_Mod_badLabel 7 = .ok (.aload_n 0, 1) := by decide +kernel
theorem d_Mod_badLabel_8 : decode b_Mod_badLabel 8 = .ok (.getfield 74, 3) := by decide +kernel
theorem d_Mod_badLabel_11 : decode b_Mod_badLabel 11 = .ok (.if_icmp .ge 119, 3) := by decide +kernel
theorem d_Mod_badLabel_14 : decode b_Mod_badLabel 14 = .ok (.iconst 0, 1) := by decide +kernel
theorem d_Mod_badLabel_15 : decode b_Mod_badLabel 15 = .ok (.istore_n 3, 1) := by decide +kernel
theorem d_Mod_badLabel_16 : decode b_Mod_badLabel 16 = .ok (.iconst 0, 1) := by decide +kernel
theorem d_Mod_badLabel_17 : decode b_Mod_badLabel 17 = .ok (.istore 4, 2) := by decide +kernel
theorem d_Mod_badLabel_19 : decode b_Mod_badLabel 19 = .ok (.iload 4, 2) := by decide +kernel
theorem d_Mod_badLabel_21 : decode b_Mod_badLabel 21 = .ok (.iconst 4, 1) := by decide +kernel
theorem d_Mod_badLabel_22 : decode b_Mod_badLabel 22 = .ok (.aload_n 0, 1) := by decide +kernel
theorem d_Mod_badLabel_23 : decode b_Mod_badLabel 23 = .ok (.getfield 59, 3) := by decide +kernel
theorem d_Mod_badLabel_26 : decode b_Mod_badLabel 26 = .ok (.imul, 1) := by decide +kernel
theorem d_Mod_badLabel_27 : decode b_Mod_badLabel 27 = .ok (.if_icmp .ge 33, 3) := by decide +kernel
theorem d_Mod_badLabel_30 : decode b_Mod_badLabel 30 = .ok (.iload_n 3, 1) := by decide +kernel
theorem d_Mod_badLabel_31 : decode b_Mod_badLabel 31 = .ok (.aload_n 0, 1) := by decide +kernel
theorem d_Mod_badLabel_32 : decode b_Mod_badLabel 32 = .ok (.getfield 23, 3) := by decide +kernel
theorem d_Mod_badLabel_35 : decode b_Mod_badLabel 35 = .ok (.iload 4, 2) := by decide +kernel
theorem d_Mod_badLabel_37 : decode b_Mod_badLabel 37 = .ok (.iaload, 1) := by decide +kernel
theorem d_Mod_badLabel_38 : decode b_Mod_badLabel 38 = .ok (.aload_n 0, 1) := by decide +kernel
theorem d_Mod_badLabel_39 : decode b_Mod_badLabel 39 = .ok (.getfield 32, 3) := by decide +kernel
theorem d_Mod_badLabel_42 : decode b_Mod_badLabel 42 = .ok (.iload_n 2, 1) := by decide +kernel
theorem d_Mod_badLabel_43 : decode b_Mod_badLabel 43 = .ok (.iaload, 1) := by decide +kernel
theorem d_Mod_badLabel_44 : decode b_Mod_badLabel 44 = .ok (.if_icmp .ne 7, 3) := by decide +kernel
theorem d_Mod_badLabel_47 : decode b_Mod_badLabel 47 = .ok (.iconst 1, 1) := by decide +kernel
theorem d_Mod_badLabel_48 : decode b_Mod_badLabel 48 = .ok (.goto 4, 3) := by decide +kernel
theorem d_Mod_badLabel_51 : decode b_Mod_badLabel 51 = .ok (.iconst 0, 1) := by decide +kernel
theorem d_Mod_badLabel_52 : decode b_Mod_badLabel 52 = .ok (.iadd, 1) := by decide +kernel
theorem d_Mod_badLabel_53 : decode b_Mod_badLabel 53 = .ok (.istore_n 3, 1) := by decide +kernel
theorem d_Mod_badLabel_54 : decode b_Mod_badLabel 54 = .ok (.iinc 4 1, 3) := by decide +kernel
theorem d_Mod_badLabel_57 : decode b_Mod_badLabel 57 = .ok (.goto (-38), 3) := by decide +kernel
theorem d_Mod_badLabel_60 : decode b_Mod_badLabel 60 = .ok (.iload_n 1, 1) := by decide +kernel
theorem d_Mod_badLabel_61 : decode b_Mod_badLabel 61 = .ok (.ifCond .eq 39, 3) := by decide +kernel
theorem d_Mod_badLabel_64 : decode b_Mod_badLabel 64 = .ok (.aload_n 0, 1) := by decide +kernel
theorem d_Mod_badLabel_65 : decode b_Mod_badLabel 65 = .ok (.aload_n 0, 1) := by decide +kernel
theorem d_Mod_badLabel_66 : decode b_Mod_badLabel 66 = .ok (.getfield 32, 3) := by decide +kernel
theorem d_Mod_badLabel_69 : decode b_Mod_badLabel 69 = .ok (.iload_n 2, 1) := by decide +kernel
theorem d_Mod_badLabel_70 : decode b_Mod_badLabel 70 = .ok (.iaload, 1) := by decide +kernel
theorem d_Mod_badLabel_71 : decode b_Mod_badLabel 71 = .ok (.iconst 1, 1) := by decide +kernel
theorem d_Mod_badLabel_72 : decode b_Mod_badLabel 72 = .ok (.invokevirtual 66, 3) := by decide +kernel
theorem d_Mod_badLabel_75 : decode b_Mod_badLabel 75 = .ok (.ifCond .lt 21, 3) := by decide +kernel
theorem d_Mod_badLabel_78 : decode b_Mod_badLabel 78 = .ok (.aload_n 0, 1) := by decide +kernel
theorem d_Mod_badLabel_79 : decode b_Mod_badLabel 79 = .ok (.aload_n 0, 1) := by decide +kernel
theorem d_Mod_badLabel_80 : decode b_Mod_badLabel 80 = .ok (.getfield 32, 3) := by decide +kernel
theorem d_Mod_badLabel_83 : decode b_Mod_badLabel 83 = .ok (.iload_n 2, 1) := by decide +kernel
theorem d_Mod_badLabel_84 : decode b_Mod_badLabel 84 = .ok (.iaload, 1) := by decide +kernel
theorem d_Mod_badLabel_85 : decode b_Mod_badLabel 85 = .ok (.iconst 0, 1) := by decide +kernel
theorem d_Mod_badLabel_86 : decode b_Mod_badLabel 86 = .ok (.invokevirtual 66, 3) := by decide +kernel
theorem d_Mod_badLabel_89 : decode b_Mod_badLabel 89 = .ok (.ifCond .lt 7, 3) := by decide +kernel
theorem d_Mod_badLabel_92 : decode b_Mod_badLabel 92 = .ok (.iconst 1, 1) := by decide +kernel
theorem d_Mod_badLabel_93 : decode b_Mod_badLabel 93 = .ok (.goto 17, 3) := by decide +kernel
theorem d_Mod_badLabel_96 : decode b_Mod_badLabel 96 = .ok (.iconst 0, 1) := by decide +kernel
theorem d_Mod_badLabel_97 : decode b_Mod_badLabel 97 = .ok (.goto 13, 3) := by decide +kernel
theorem d_Mod_badLabel_100 : decode b_Mod_badLabel 100 = .ok (.iload_n 3, 1) := by decide +kernel
theorem d_Mod_badLabel_101 : decode b_Mod_badLabel 101 = .ok (.iconst 2, 1) := by decide +kernel
theorem d_Mod_badLabel_102 : decode b_Mod_badLabel 102 = .ok (.if_icmp .ne 7, 3) := by decide +kernel
theorem d_Mod_badLabel_105 : decode b_Mod_badLabel 105 = .ok (.iconst 1, 1) := by decide +kernel
theorem d_Mod_badLabel_106 : decode b_Mod_badLabel 106 = .ok (.goto 4, 3) := by decide +kernel
theorem d_Mod_badLabel_109 : decode b_Mod_badLabel 109 = .ok (.iconst 0, 1) := by decide +kernel
theorem d_Mod_badLabel_110 : decode b_Mod_badLabel 110 = .ok (.istore 4, 2) := by decide +kernel
theorem d_Mod_badLabel_112 : decode b_Mod_badLabel 112 = .ok (.iload 4, 2) := by decide +kernel
theorem d_Mod_badLabel_114 : decode b_Mod_badLabel 114 = .ok (.ifCond .ne 10, 3) := by decide +kernel
theorem d_Mod_badLabel_117 : decode b_Mod_badLabel 117 = .ok (.aload_n 0, 1) := by decide +kernel
theorem d_Mod_badLabel_118 : decode b_Mod_badLabel 118 = .ok (.getfield 32, 3) := by decide +kernel
theorem d_Mod_badLabel_121 : decode b_Mod_badLabel 121 = .ok (.iload_n 2, 1) := by decide +kernel
theorem d_Mod_badLabel_122 : decode b_Mod_badLabel 122 = .ok (.iaload, 1) := by decide +kernel
theorem d_Mod_badLabel_123 : decode b_Mod_badLabel 123 = .ok (.ireturn, 1) := by decide +kernel
theorem d_Mod_badLabel_124 : decode b_Mod_badLabel 124 = .ok (.iinc 2 1, 3) := by decide +kernel
theorem d_Mod_badLabel_127 : decode b_Mod_badLabel 127 = .ok (.goto (-121), 3) := by decide +kernel
theorem d_Mod_badLabel_130 : decode b_Mod_badLabel 130 = .ok (.iconst (-1), 1) := by decide +kernel
theorem d_Mod_badLabel_131 : decode b_Mod_badLabel 131 = .ok (.ireturn, 1) := by decide +kernel
theorem d_Mod_badPiece_0 : decode b_Mod_badPiece 0 = .ok (.aload_n 0, 1) := by decide +kernel
theorem d_Mod_badPiece_1 : decode b_Mod_badPiece 1 = .ok (.invokevirtual 86, 3) := by decide +kernel
theorem d_Mod_badPiece_4 : decode b_Mod_badPiece 4 = .ok (.aload_n 0, 1) := by decide +kernel
theorem d_Mod_badPiece_5 : decode b_Mod_badPiece 5 = .ok (.invokevirtual 110, 3) := by decide +kernel
theorem d_Mod_badPiece_8 : decode b_Mod_badPiece 8 = .ok (.iconst (-1), 1) := by decide +kernel
theorem d_Mod_badPiece_9 : decode b_Mod_badPiece 9 = .ok (.istore_n 1, 1) := by decide +kernel
theorem d_Mod_badPiece_10 : decode b_Mod_badPiece 10 = .ok (.aload_n 0, 1) := by decide +kernel
theorem d_Mod_badPiece_11 : decode b_Mod_badPiece 11 = .ok (.getfield 59, 3) := by decide +kernel
theorem d_Mod_badPiece_14 : decode b_Mod_badPiece 14 = .ok (.iconst 1, 1) := by decide +kernel
theorem d_Mod_badPiece_15 : decode b_Mod_badPiece 15 = .ok (.isub, 1) := by decide +kernel
theorem d_Mod_badPiece_16 : decode b_Mod_badPiece 16 = .ok (.istore_n 2, 1) := by decide +kernel
theorem d_Mod_badPiece_17 : decode b_Mod_badPiece 17 = .ok (.iload_n 2, 1) := by decide +kernel
theorem d_Mod_badPiece_18 : decode b_Mod_badPiece 18 = .ok (.ifCond .lt 75, 3) := by decide +kernel
theorem d_Mod_badPiece_21 : decode b_Mod_badPiece 21 = .ok (.iconst 0, 1) := by decide +kernel
theorem d_Mod_badPiece_22 : decode b_Mod_badPiece 22 = .ok (.istore_n 3, 1) := by decide +kernel
theorem d_Mod_badPiece_23 : decode b_Mod_badPiece 23 = .ok (.iconst 0, 1) := by decide +kernel
theorem d_Mod_badPiece_24 : decode b_Mod_badPiece 24 = .ok (.istore 4, 2) := by decide +kernel
theorem d_Mod_badPiece_26 : decode b_Mod_badPiece 26 = .ok (.iload 4, 2) := by decide +kernel
theorem d_Mod_badPiece_28 : decode b_Mod_badPiece 28 = .ok (.aload_n 0, 1) := by decide +kernel
theorem d_Mod_badPiece_29 : decode b_Mod_badPiece 29 = .ok (.getfield 59, 3) := by decide +kernel
theorem d_Mod_badPiece_32 : decode b_Mod_badPiece 32 = .ok (.if_icmp .ge 28, 3) := by decide +kernel
theorem d_Mod_badPiece_35 : decode b_Mod_badPiece 35 = .ok (.iload_n 3, 1) := by decide +kernel
theorem d_Mod_badPiece_36 : decode b_Mod_badPiece 36 = .ok (.aload_n 0, 1) := by decide +kernel
theorem d_Mod_badPiece_37 : decode b_Mod_badPiece 37 = .ok (.getfield 38, 3) := by decide +kernel
theorem d_Mod_badPiece_40 : decode b_Mod_badPiece 40 = .ok (.iload 4, 2) := by decide +kernel
theorem d_Mod_badPiece_42 : decode b_Mod_badPiece 42 = .ok (.iaload, 1) := by decide +kernel
theorem d_Mod_badPiece_43 : decode b_Mod_badPiece 43 = .ok (.iload_n 2, 1) := by decide +kernel
theorem d_Mod_badPiece_44 : decode b_Mod_badPiece 44 = .ok (.if_icmp .ne 7, 3) := by decide +kernel
theorem d_Mod_badPiece_47 : decode b_Mod_badPiece 47 = .ok (.iconst 1, 1) := by decide +kernel
theorem d_Mod_badPiece_48 : decode b_Mod_badPiece 48 = .ok (.goto 4, 3) := by decide +kernel
theorem d_Mod_badPiece_51 : decode b_Mod_badPiece 51 = .ok (.iconst 0, 1) := by decide +kernel
theorem d_Mod_badPiece_52 : decode b_Mod_badPiece 52 = .ok (.iadd, 1) := by decide +kernel
theorem d_Mod_badPiece_53 : decode b_Mod_badPiece 53 = .ok (.istore_n 3, 1) := by decide +kernel
theorem d_Mod_badPiece_54 : decode b_Mod_badPiece 54 = .ok (.iinc 4 1, 3) := by decide +kernel
theorem d_Mod_badPiece_57 : decode b_Mod_badPiece 57 = .ok (.goto (-31), 3) := by decide +kernel
theorem d_Mod_badPiece_60 : decode b_Mod_badPiece 60 = .ok (.aload_n 0, 1) := by decide +kernel
theorem d_Mod_badPiece_61 : decode b_Mod_badPiece 61 = .ok (.getfield 38, 3) := by decide +kernel
theorem d_Mod_badPiece_64 : decode b_Mod_badPiece 64 = .ok (.iload_n 2, 1) := by decide +kernel
theorem d_Mod_badPiece_65 : decode b_Mod_badPiece 65 = .ok (.iaload, 1) := by decide +kernel
theorem d_Mod_badPiece_66 : decode b_Mod_badPiece 66 = .ok (.iload_n 2, 1) := by decide +kernel
theorem d_Mod_badPiece_67 : decode b_Mod_badPiece 67 = .ok (.if_icmp .ne 18, 3) := by decide +kernel
theorem d_Mod_badPiece_70 : decode b_Mod_badPiece 70 = .ok (.aload_n 0, 1) := by decide +kernel
theorem d_Mod_badPiece_71 : decode b_Mod_badPiece 71 = .ok (.iload_n 2, 1) := by decide +kernel
theorem d_Mod_badPiece_72 : decode b_Mod_badPiece 72 = .ok (.invokevirtual 113, 3) := by decide +kernel
theorem d_Mod_badPiece_75 : decode b_Mod_badPiece 75 = .ok (.iload_n 3, 1) := by decide +kernel
theorem d_Mod_badPiece_76 : decode b_Mod_badPiece 76 = .ok (.iconst 2, 1) := by decide +kernel
theorem d_Mod_badPiece_77 : decode b_Mod_badPiece 77 = .ok (.iadd, 1) := by decide +kernel
theorem d_Mod_badPiece_78 : decode b_Mod_badPiece 78 = .ok (.if_icmp .eq 7, 3) := by decide +kernel
theorem d_Mod_badPiece_81 : decode b_Mod_badPiece 81 = .ok (.iload_n 2, 1) := by decide +kernel
theorem d_Mod_badPiece_82 : decode b_Mod_badPiece 82 = .ok (.goto 4, 3) := by decide +kernel
theorem d_Mod_badPiece_85 : decode b_Mod_badPiece 85 = .ok (.iload_n 1, 1) := by decide +kernel
theorem d_Mod_badPiece_86 : decode b_Mod_badPiece 86 = .ok (.istore_n 1, 1) := by decide +kernel
theorem d_Mod_badPiece_87 : decode b_Mod_badPiece 87 = .ok (.iinc 2 (-1), 3) := by decide +kernel
theorem d_Mod_badPiece_90 : decode b_Mod_badPiece 90 = .ok (.goto (-73), 3) := by decide +kernel
theorem d_Mod_badPiece_93 : decode b_Mod_badPiece 93 = .ok (.iload_n 1, 1) := by decide +kernel
theorem d_Mod_badPiece_94 : decode b_Mod_badPiece 94 = .ok (.ireturn, 1) := by decide +kernel
theorem d_Mod_fault_0 : decode b_Mod_fault 0 = .ok (.aload_n 0, 1) := by decide +kernel
theorem d_Mod_fault_1 : decode b_Mod_fault 1 = .ok (.aload_n 0, 1) := by decide +kernel
theorem d_Mod_fault_2 : decode b_Mod_fault 2 = .ok (.iconst 0, 1) := by decide +kernel
theorem d_Mod_fault_3 : decode b_Mod_fault 3 = .ok (.invokevirtual 116, 3) := by decide +kernel
theorem d_Mod_fault_6 : decode b_Mod_fault 6 = .ok (.putfield 7, 3) := by decide +kernel
theorem d_Mod_fault_9 : decode b_Mod_fault 9 = .ok (.aload_n 0, 1) := by decide +kernel
theorem d_Mod_fault_10 : decode b_Mod_fault 10 = .ok (.getfield 7, 3) := by decide +kernel
theorem d_Mod_fault_13 : decode b_Mod_fault 13 = .ok (.ifCond .lt 5, 3) := by decide +kernel
theorem d_Mod_fault_16 : decode b_Mod_fault 16 = .ok (.iconst 1, 1) := by decide +kernel
theorem d_Mod_fault_17 : decode b_Mod_fault 17 = .ok (.ireturn, 1) := by decide +kernel
theorem d_Mod_fault_18 : decode b_Mod_fault 18 = .ok (.aload_n 0, 1) := by decide +kernel
theorem d_Mod_fault_19 : decode b_Mod_fault 19 = .ok (.aload_n 0, 1) := by decide +kernel
theorem d_Mod_fault_20 : decode b_Mod_fault 20 = .ok (.iconst 1, 1) := by decide +kernel
theorem d_Mod_fault_21 : decode b_Mod_fault 21 = .ok (.invokevirtual 116, 3) := by decide +kernel
theorem d_Mod_fault_24 : decode b_Mod_fault 24 = .ok (.putfield 7, 3) := by decide +kernel
theorem d_Mod_fault_27 : decode b_Mod_fault 27 = .ok (.aload_n 0, 1) := by decide +kernel
theorem d_Mod_fault_28 : decode b_Mod_fault 28 = .ok (.getfield 7, 3) := by decide +kernel
theorem d_Mod_fault_31 : decode b_Mod_fault 31 = .ok (.ifCond .lt 5, 3) := by decide +kernel
theorem d_Mod_fault_34 : decode b_Mod_fault 34 = .ok (.iconst 2, 1) := by decide +kernel
theorem d_Mod_fault_35 : decode b_Mod_fault 35 = .ok (.ireturn, 1) := by decide +kernel
theorem d_Mod_fault_36 : decode b_Mod_fault 36 = .ok (.aload_n 0, 1) := by decide +kernel
theorem d_Mod_fault_37 : decode b_Mod_fault 37 = .ok (.aload_n 0, 1) := by decide +kernel
theorem d_Mod_fault_38 : decode b_Mod_fault 38 = .ok (.invokevirtual 120, 3) := by decide +kernel
theorem d_Mod_fault_41 : decode b_Mod_fault 41 = .ok (.putfield 7, 3) := by decide +kernel
theorem d_Mod_fault_44 : decode b_Mod_fault 44 = .ok (.aload_n 0, 1) := by decide +kernel
theorem d_Mod_fault_45 : decode b_Mod_fault 45 = .ok (.getfield 7, 3) := by decide +kernel
theorem d_Mod_fault_48 : decode b_Mod_fault 48 = .ok (.ifCond .lt 7, 3) := by decide +kernel
theorem d_Mod_fault_51 : decode b_Mod_fault 51 = .ok (.iconst 3, 1) := by decide +kernel
theorem d_Mod_fault_52 : decode b_Mod_fault 52 = .ok (.goto 4, 3) := by decide +kernel
theorem d_Mod_fault_55 : decode b_Mod_fault 55 = .ok (.iconst 0, 1) := by decide +kernel
theorem d_Mod_fault_56 : decode b_Mod_fault 56 = .ok (.ireturn, 1) := by decide +kernel
theorem d_Mod_check_0 : decode b_Mod_check 0 = .ok (.iload_n 1, 1) := by decide +kernel
theorem d_Mod_check_1 : decode b_Mod_check 1 = .ok (.ifCond .lt 9, 3) := by decide +kernel
theorem d_Mod_check_4 : decode b_Mod_check 4 = .ok (.iload_n 1, 1) := by decide +kernel
theorem d_Mod_check_5 : decode b_Mod_check 5 = .ok (.bipush 20, 2) := by decide +kernel
theorem d_Mod_check_7 : decode b_Mod_check 7 = .ok (.if_icmp .le 5, 3) := by decide +kernel
theorem d_Mod_check_10 : decode b_Mod_check 10 = .ok (.iconst (-1), 1) := by decide +kernel
theorem d_Mod_check_11 : decode b_Mod_check 11 = .ok (.ireturn, 1) := by decide +kernel
theorem d_Mod_check_12 : decode b_Mod_check 12 = .ok (.aload_n 0, 1) := by decide +kernel
theorem d_Mod_check_13 : decode b_Mod_check 13 = .ok (.invokevirtual 124, 3) := by decide +kernel
theorem d_Mod_check_16 : decode b_Mod_check 16 = .ok (.aload_n 0, 1) := by decide +kernel
theorem d_Mod_check_17 : decode b_Mod_check 17 = .ok (.iload_n 1, 1) := by decide +kernel
theorem d_Mod_check_18 : decode b_Mod_check 18 = .ok (.putfield 104, 3) := by decide +kernel
theorem d_Mod_check_21 : decode b_Mod_check 21 = .ok (.aload_n 0, 1) := by decide +kernel
theorem d_Mod_check_22 : decode b_Mod_check 22 = .ok (.invokevirtual 127, 3) := by decide +kernel
theorem d_Mod_check_25 : decode b_Mod_check 25 = .ok (.istore_n 2, 1) := by decide +kernel
theorem d_Mod_check_26 : decode b_Mod_check 26 = .ok (.iload_n 2, 1) := by decide +kernel
theorem d_Mod_check_27 : decode b_Mod_check 27 = .ok (.ifCond .le 7, 3) := by decide +kernel
theorem d_Mod_check_30 : decode b_Mod_check 30 = .ok (.aload_n 0, 1) := by decide +kernel
theorem d_Mod_check_31 : decode b_Mod_check 31 = .ok (.invokevirtual 130, 3) := by decide +kernel
theorem d_Mod_check_34 : decode b_Mod_check 34 = .ok (.iload_n 2, 1) := by decide +kernel
theorem d_Mod_check_35 : decode b_Mod_check 35 = .ok (.ireturn, 1) := by decide +kernel
theorem d_Mod_signs_0 : decode b_Mod_signs 0 = .ok (.iconst 0, 1) := by decide +kernel
theorem d_Mod_signs_1 : decode b_Mod_signs 1 = .ok (.istore_n 1, 1) := by decide +kernel
theorem d_Mod_signs_2 : decode b_Mod_signs 2 = .ok (.iconst 0, 1) := by decide +kernel
theorem d_Mod_signs_3 : decode b_Mod_signs 3 = .ok (.istore_n 2, 1) := by decide +kernel
theorem d_Mod_signs_4 : decode b_Mod_signs 4 = .ok (.iload_n 2, 1) := by decide +kernel
theorem d_Mod_signs_5 : decode b_Mod_signs 5 = .ok (.aload_n 0, 1) := by decide +kernel
theorem d_Mod_signs_6 : decode b_Mod_signs 6 = .ok (.getfield 59, 3) := by decide +kernel
theorem d_Mod_signs_9 : decode b_Mod_signs 9 = .ok (.if_icmp .ge 18, 3) := by decide +kernel
theorem d_Mod_signs_12 : decode b_Mod_signs 12 = .ok (.iload_n 1, 1) := by decide +kernel
theorem d_Mod_signs_13 : decode b_Mod_signs 13 = .ok (.aload_n 0, 1) := by decide +kernel
theorem d_Mod_signs_14 : decode b_Mod_signs 14 = .ok (.getfield 20, 3) := by decide +kernel
theorem d_Mod_signs_17 : decode b_Mod_signs 17 = .ok (.iload_n 2, 1) := by decide +kernel
theorem d_Mod_signs_18 : decode b_Mod_signs 18 = .ok (.iaload, 1) := by decide +kernel
theorem d_Mod_signs_19 : decode b_Mod_signs 19 = .ok (.iadd, 1) := by decide +kernel
theorem d_Mod_signs_20 : decode b_Mod_signs 20 = .ok (.istore_n 1, 1) := by decide +kernel
theorem d_Mod_signs_21 : decode b_Mod_signs 21 = .ok (.iinc 2 1, 3) := by decide +kernel
theorem d_Mod_signs_24 : decode b_Mod_signs 24 = .ok (.goto (-20), 3) := by decide +kernel
theorem d_Mod_signs_27 : decode b_Mod_signs 27 = .ok (.iload_n 1, 1) := by decide +kernel
theorem d_Mod_signs_28 : decode b_Mod_signs 28 = .ok (.ireturn, 1) := by decide +kernel
theorem d_Mod_allFaces_0 : decode b_Mod_allFaces 0 = .ok (.aload_n 0, 1) := by decide +kernel
theorem d_Mod_allFaces_1 : decode b_Mod_allFaces 1 = .ok (.invokevirtual 110, 3) := by decide +kernel
theorem d_Mod_allFaces_4 : decode b_Mod_allFaces 4 = .ok (.aload_n 0, 1) := by decide +kernel
theorem d_Mod_allFaces_5 : decode b_Mod_allFaces 5 = .ok (.getfield 89, 3) := by decide +kernel
theorem d_Mod_allFaces_8 : decode b_Mod_allFaces 8 = .ok (.ireturn, 1) := by decide +kernel
theorem d_Mod_allComponents_0 : decode b_Mod_allComponents 0 = .ok (.aload_n 0, 1) := by decide +kernel
theorem d_Mod_allComponents_1 : decode b_Mod_allComponents 1 = .ok (.invokevirtual 133, 3) := by decide +kernel
theorem d_Mod_allComponents_4 : decode b_Mod_allComponents 4 = .ok (.aload_n 0, 1) := by decide +kernel
theorem d_Mod_allComponents_5 : decode b_Mod_allComponents 5 = .ok (.getfield 77, 3) := by decide +kernel
theorem d_Mod_allComponents_8 : decode b_Mod_allComponents 8 = .ok (.aload_n 0, 1) := by decide +kernel
theorem d_Mod_allComponents_9 : decode b_Mod_allComponents 9 = .ok (.getfield 104, 3) := by decide +kernel
theorem d_Mod_allComponents_12 : decode b_Mod_allComponents 12 = .ok (.iadd, 1) := by decide +kernel
theorem d_Mod_allComponents_13 : decode b_Mod_allComponents 13 = .ok (.ireturn, 1) := by decide +kernel
theorem d_Mod_findFree_0 : decode b_Mod_findFree 0 = .ok (.aload_n 0, 1) := by decide +kernel
theorem d_Mod_findFree_1 : decode b_Mod_findFree 1 = .ok (.invokevirtual 80, 3) := by decide +kernel
theorem d_Mod_findFree_4 : decode b_Mod_findFree 4 = .ok (.iconst 0, 1) := by decide +kernel
theorem d_Mod_findFree_5 : decode b_Mod_findFree 5 = .ok (.istore_n 1, 1) := by decide +kernel
theorem d_Mod_findFree_6 : decode b_Mod_findFree 6 = .ok (.iconst 1, 1) := by decide +kernel
theorem d_Mod_findFree_7 : decode b_Mod_findFree 7 = .ok (.istore_n 2, 1) := by decide +kernel
theorem d_Mod_findFree_8 : decode b_Mod_findFree 8 = .ok (.iload_n 1, 1) := by decide +kernel
theorem d_Mod_findFree_9 : decode b_Mod_findFree 9 = .ok (.iconst 4, 1) := by decide +kernel
theorem d_Mod_findFree_10 : decode b_Mod_findFree 10 = .ok (.if_icmp .ge 64, 3) := by decide +kernel
theorem d_Mod_findFree_13 : decode b_Mod_findFree 13 = .ok (.iconst 0, 1) := by decide +kernel
theorem d_Mod_findFree_14 : decode b_Mod_findFree 14 = .ok (.istore_n 3, 1) := by decide +kernel
theorem d_Mod_findFree_15 : decode b_Mod_findFree 15 = .ok (.iconst 0, 1) := by decide +kernel
theorem d_Mod_findFree_16 : decode b_Mod_findFree 16 = .ok (.istore 4, 2) := by decide +kernel
theorem d_Mod_findFree_18 : decode b_Mod_findFree 18 = .ok (.iload 4, 2) := by decide +kernel
theorem d_Mod_findFree_20 : decode b_Mod_findFree 20 = .ok (.aload_n 0, 1) := by decide +kernel
theorem d_Mod_findFree_21 : decode b_Mod_findFree 21 = .ok (.getfield 74, 3) := by decide +kernel
theorem d_Mod_findFree_24 : decode b_Mod_findFree 24 = .ok (.if_icmp .ge 30, 3) := by decide +kernel
theorem d_Mod_findFree_27 : decode b_Mod_findFree 27 = .ok (.iload_n 3, 1) := by decide +kernel
theorem d_Mod_findFree_28 : decode b_Mod_findFree 28 = .ok (.ifCond .ne 14, 3) := by decide +kernel
theorem d_Mod_findFree_31 : decode b_Mod_findFree 31 = .ok (.aload_n 0, 1) := by decide +kernel
theorem d_Mod_findFree_32 : decode b_Mod_findFree 32 = .ok (.getfield 32, 3) := by decide +kernel
theorem d_Mod_findFree_35 : decode b_Mod_findFree 35 = .ok (.iload 4, 2) := by decide +kernel
theorem d_Mod_findFree_37 : decode b_Mod_findFree 37 = .ok (.iaload, 1) := by decide +kernel
theorem d_Mod_findFree_38 : decode b_Mod_findFree 38 = .ok (.iload_n 2, 1) := by decide +kernel
theorem d_Mod_findFree_39 : decode b_Mod_findFree 39 = .ok (.if_icmp .ne 7, 3) := by decide +kernel
theorem d_Mod_findFree_42 : decode b_Mod_findFree 42 = .ok (.iconst 1, 1) := by decide +kernel
theorem d_Mod_findFree_43 : decode b_Mod_findFree 43 = .ok (.goto 4, 3) := by decide +kernel
theorem d_Mod_findFree_46 : decode b_Mod_findFree 46 = .ok (.iconst 0, 1) := by decide +kernel
theorem d_Mod_findFree_47 : decode b_Mod_findFree 47 = .ok (.istore_n 3, 1) := by decide +kernel
theorem d_Mod_findFree_48 : decode b_Mod_findFree 48 = .ok (.iinc 4 1, 3) := by decide +kernel
theorem d_Mod_findFree_51 : decode b_Mod_findFree 51 = .ok (.goto (-33), 3) := by decide +kernel
theorem d_Mod_findFree_54 : decode b_Mod_findFree 54 = .ok (.iload_n 3, 1) := by decide +kernel
theorem d_Mod_findFree_55 : decode b_Mod_findFree 55 = .ok (.ifCond .ne 13, 3) := by decide +kernel
theorem d_Mod_findFree_58 : decode b_Mod_findFree 58 = .ok (.aload_n 0, 1) := by decide +kernel
theorem d_Mod_findFree_59 : decode b_Mod_findFree 59 = .ok (.getfield 50, 3) := by decide +kernel
theorem d_Mod_findFree_62 : decode b_Mod_findFree 62 = .ok (.iload_n 1, 1) := by decide +kernel
theorem d_Mod_findFree_63 : decode b_Mod_findFree 63 = .ok (.iload_n 2, 1) := by decide +kernel
theorem d_Mod_findFree_64 : decode b_Mod_findFree 64 = .ok (.iastore, 1) := by decide +kernel
theorem d_Mod_findFree_65 : decode b_Mod_findFree 65 = .ok (.iinc 1 1, 3) := by decide +kernel
theorem d_Mod_findFree_68 : decode b_Mod_findFree 68 = .ok (.iinc 2 1, 3) := by decide +kernel
theorem d_Mod_findFree_71 : decode b_Mod_findFree 71 = .ok (.goto (-63), 3) := by decide +kernel
theorem d_Mod_findFree_74 : decode b_Mod_findFree 74 = .ok (.return_, 1) := by decide +kernel
theorem d_Mod_leastFree_0 : decode b_Mod_leastFree 0 = .ok (.aload_n 0, 1) := by decide +kernel
theorem d_Mod_leastFree_1 : decode b_Mod_leastFree 1 = .ok (.invokevirtual 136, 3) := by decide +kernel
theorem d_Mod_leastFree_4 : decode b_Mod_leastFree 4 = .ok (.aload_n 0, 1) := by decide +kernel
theorem d_Mod_leastFree_5 : decode b_Mod_leastFree 5 = .ok (.getfield 50, 3) := by decide +kernel
theorem d_Mod_leastFree_8 : decode b_Mod_leastFree 8 = .ok (.iconst 0, 1) := by decide +kernel
theorem d_Mod_leastFree_9 : decode b_Mod_leastFree 9 = .ok (.iaload, 1) := by decide +kernel
theorem d_Mod_leastFree_10 : decode b_Mod_leastFree 10 = .ok (.ireturn, 1) := by decide +kernel
theorem d_Mod_many_0 : decode b_Mod_many 0 = .ok (.iload_n 1, 1) := by decide +kernel
theorem d_Mod_many_1 : decode b_Mod_many 1 = .ok (.tableswitch 92 0 7 #[47, 52, 57, 62, 67, 72, 82, 87], 47) := by decide +kernel
theorem d_Mod_many_48 : decode b_Mod_many 48 = .ok (.aload_n 0, 1) := by decide +kernel
theorem d_Mod_many_49 : decode b_Mod_many 49 = .ok (.getfield 59, 3) := by decide +kernel
theorem d_Mod_many_52 : decode b_Mod_many 52 = .ok (.ireturn, 1) := by decide +kernel
theorem d_Mod_many_53 : decode b_Mod_many 53 = .ok (.aload_n 0, 1) := by decide +kernel
theorem d_Mod_many_54 : decode b_Mod_many 54 = .ok (.getfield 104, 3) := by decide +kernel
theorem d_Mod_many_57 : decode b_Mod_many 57 = .ok (.ireturn, 1) := by decide +kernel
theorem d_Mod_many_58 : decode b_Mod_many 58 = .ok (.aload_n 0, 1) := by decide +kernel
theorem d_Mod_many_59 : decode b_Mod_many 59 = .ok (.invokevirtual 139, 3) := by decide +kernel
theorem d_Mod_many_62 : decode b_Mod_many 62 = .ok (.ireturn, 1) := by decide +kernel
theorem d_Mod_many_63 : decode b_Mod_many 63 = .ok (.aload_n 0, 1) := by decide +kernel
theorem d_Mod_many_64 : decode b_Mod_many 64 = .ok (.invokevirtual 142, 3) := by decide +kernel
theorem d_Mod_many_67 : decode b_Mod_many 67 = .ok (.ireturn, 1) := by decide +kernel
theorem d_Mod_many_68 : decode b_Mod_many 68 = .ok (.aload_n 0, 1) := by decide +kernel
theorem d_Mod_many_69 : decode b_Mod_many 69 = .ok (.invokevirtual 145, 3) := by decide +kernel
theorem d_Mod_many_72 : decode b_Mod_many 72 = .ok (.ireturn, 1) := by decide +kernel
theorem d_Mod_many_73 : decode b_Mod_many 73 = .ok (.aload_n 0, 1) := by decide +kernel
theorem d_Mod_many_74 : decode b_Mod_many 74 = .ok (.invokevirtual 148, 3) := by decide +kernel
theorem d_Mod_many_77 : decode b_Mod_many 77 = .ok (.aload_n 0, 1) := by decide +kernel
theorem d_Mod_many_78 : decode b_Mod_many 78 = .ok (.getfield 104, 3) := by decide +kernel
theorem d_Mod_many_81 : decode b_Mod_many 81 = .ok (.iadd, 1) := by decide +kernel
theorem d_Mod_many_82 : decode b_Mod_many 82 = .ok (.ireturn, 1) := by decide +kernel
theorem d_Mod_many_83 : decode b_Mod_many 83 = .ok (.aload_n 0, 1) := by decide +kernel
theorem d_Mod_many_84 : decode b_Mod_many 84 = .ok (.getfield 98, 3) := by decide +kernel
theorem d_Mod_many_87 : decode b_Mod_many 87 = .ok (.ireturn, 1) := by decide +kernel
theorem d_Mod_many_88 : decode b_Mod_many 88 = .ok (.aload_n 0, 1) := by decide +kernel
theorem d_Mod_many_89 : decode b_Mod_many 89 = .ok (.invokevirtual 151, 3) := by decide +kernel
theorem d_Mod_many_92 : decode b_Mod_many 92 = .ok (.ireturn, 1) := by decide +kernel
theorem d_Mod_many_93 : decode b_Mod_many 93 = .ok (.sipush (-1000), 3) := by decide +kernel
theorem d_Mod_many_96 : decode b_Mod_many 96 = .ok (.ireturn, 1) := by decide +kernel
theorem d_Mod_look_0 : decode b_Mod_look 0 = .ok (.iload_n 1, 1) := by decide +kernel
theorem d_Mod_look_1 : decode b_Mod_look 1 = .ok (.ifCond .lt 20, 3) := by decide +kernel
theorem d_Mod_look_4 : decode b_Mod_look 4 = .ok (.iload_n 1, 1) := by decide +kernel
theorem d_Mod_look_5 : decode b_Mod_look 5 = .ok (.aload_n 0, 1) := by decide +kernel
theorem d_Mod_look_6 : decode b_Mod_look 6 = .ok (.getfield 59, 3) := by decide +kernel
theorem d_Mod_look_9 : decode b_Mod_look 9 = .ok (.if_icmp .ge 12, 3) := by decide +kernel
theorem d_Mod_look_12 : decode b_Mod_look 12 = .ok (.iload_n 2, 1) := by decide +kernel
theorem d_Mod_look_13 : decode b_Mod_look 13 = .ok (.ifCond .lt 8, 3) := by decide +kernel
theorem d_Mod_look_16 : decode b_Mod_look 16 = .ok (.iload_n 2, 1) := by decide +kernel
theorem d_Mod_look_17 : decode b_Mod_look 17 = .ok (.iconst 4, 1) := by decide +kernel
theorem d_Mod_look_18 : decode b_Mod_look 18 = .ok (.if_icmp .le 5, 3) := by decide +kernel
theorem d_Mod_look_21 : decode b_Mod_look 21 = .ok (.iconst 0, 1) := by decide +kernel
theorem d_Mod_look_22 : decode b_Mod_look 22 = .ok (.ireturn, 1) := by decide +kernel
theorem d_Mod_look_23 : decode b_Mod_look 23 = .ok (.iload_n 2, 1) := by decide +kernel
theorem d_Mod_look_24 : decode b_Mod_look 24 = .ok (.iconst 4, 1) := by decide +kernel
theorem d_Mod_look_25 : decode b_Mod_look 25 = .ok (.if_icmp .ne 12, 3) := by decide +kernel
theorem d_Mod_look_28 : decode b_Mod_look 28 = .ok (.aload_n 0, 1) := by decide +kernel
theorem d_Mod_look_29 : decode b_Mod_look 29 = .ok (.getfield 20, 3) := by decide +kernel
theorem d_Mod_look_32 : decode b_Mod_look 32 = .ok (.iload_n 1, 1) := by decide +kernel
theorem d_Mod_look_33 : decode b_Mod_look 33 = .ok (.iaload, 1) := by decide +kernel
theorem d_Mod_look_34 : decode b_Mod_look 34 = .ok (.goto 13, 3) := by decide +kernel
theorem d_Mod_look_37 : decode b_Mod_look 37 = .ok (.aload_n 0, 1) := by decide +kernel
theorem d_Mod_look_38 : decode b_Mod_look 38 = .ok (.getfield 23, 3) := by decide +kernel
theorem d_Mod_look_41 : decode b_Mod_look 41 = .ok (.iconst 4, 1) := by decide +kernel
theorem d_Mod_look_42 : decode b_Mod_look 42 = .ok (.iload_n 1, 1) := by decide +kernel
theorem d_Mod_look_43 : decode b_Mod_look 43 = .ok (.imul, 1) := by decide +kernel
theorem d_Mod_look_44 : decode b_Mod_look 44 = .ok (.iload_n 2, 1) := by decide +kernel
theorem d_Mod_look_45 : decode b_Mod_look 45 = .ok (.iadd, 1) := by decide +kernel
theorem d_Mod_look_46 : decode b_Mod_look 46 = .ok (.iaload, 1) := by decide +kernel
theorem d_Mod_look_47 : decode b_Mod_look 47 = .ok (.ireturn, 1) := by decide +kernel
theorem d_Mod_findSides_0 : decode b_Mod_findSides 0 = .ok (.aload_n 0, 1) := by decide +kernel
theorem d_Mod_findSides_1 : decode b_Mod_findSides 1 = .ok (.invokevirtual 110, 3) := by decide +kernel
theorem d_Mod_findSides_4 : decode b_Mod_findSides 4 = .ok (.aload_n 0, 1) := by decide +kernel
theorem d_Mod_findSides_5 : decode b_Mod_findSides 5 = .ok (.iconst 0, 1) := by decide +kernel
theorem d_Mod_findSides_6 : decode b_Mod_findSides 6 = .ok (.putfield 154, 3) := by decide +kernel
theorem d_Mod_findSides_9 : decode b_Mod_findSides 9 = .ok (.iload_n 1, 1) := by decide +kernel
theorem d_Mod_findSides_10 : decode b_Mod_findSides 10 = .ok (.ifCond .lt 11, 3) := by decide +kernel
theorem d_Mod_findSides_13 : decode b_Mod_findSides 13 = .ok (.iload_n 1, 1) := by decide +kernel
theorem d_Mod_findSides_14 : decode b_Mod_findSides 14 = .ok (.aload_n 0, 1) := by decide +kernel
theorem d_Mod_findSides_15 : decode b_Mod_findSides 15 = .ok (.getfield 89, 3) := by decide +kernel
theorem d_Mod_findSides_18 : decode b_Mod_findSides 18 = .ok (.if_icmp .lt 5, 3) := by decide +kernel
theorem d_Mod_findSides_21 : decode b_Mod_findSides 21 = .ok (.iconst 0, 1) := by decide +kernel
theorem d_Mod_findSides_22 : decode b_Mod_findSides 22 = .ok (.ireturn, 1) := by decide +kernel
theorem d_Mod_findSides_23 : decode b_Mod_findSides 23 = .ok (.iconst 0, 1) := by decide +kernel
theorem d_Mod_findSides_24 : decode b_Mod_findSides 24 = .ok (.istore_n 2, 1) := by decide +kernel
theorem d_Mod_findSides_25 : decode b_Mod_findSides 25 = .ok (.aload_n 0, 1) := by decide +kernel
theorem d_Mod_findSides_26 : decode b_Mod_findSides 26 = .ok (.getfield 44, 3) := by decide +kernel
theorem d_Mod_findSides_29 : decode b_Mod_findSides 29 = .ok (.iload_n 2, 1) := by decide +kernel
theorem d_Mod_findSides_30 : decode b_Mod_findSides 30 = .ok (.iaload, 1) := by decide +kernel
theorem d_Mod_findSides_31 : decode b_Mod_findSides 31 = .ok (.iload_n 1, 1) := by decide +kernel
theorem d_Mod_findSides_32 : decode b_Mod_findSides 32 = .ok (.if_icmp .eq 9, 3) := by decide +kernel
theorem d_Mod_findSides_35 : decode b_Mod_findSides 35 = .ok (.iinc 2 1, 3) := by decide +kernel
theorem d_Mod_findSides_38 : decode b_Mod_findSides 38 = .ok (.goto (-13), 3) := by decide +kernel
theorem d_Mod_findSides_41 : decode b_Mod_findSides 41 = .ok (.iconst 2, 1) := by decide +kernel
theorem d_Mod_findSides_42 : decode b_Mod_findSides 42 = .ok (.aload_n 0, 1) := by decide +kernel
theorem d_Mod_findSides_43 : decode b_Mod_findSides 43 = .ok (.getfield 32, 3) := by decide +kernel
theorem d_Mod_findSides_46 : decode b_Mod_findSides 46 = .ok (.iload_n 2, 1) := by decide +kernel
theorem d_Mod_findSides_47 : decode b_Mod_findSides 47 = .ok (.iconst 2, 1) := by decide +kernel
theorem d_Mod_findSides_48 : decode b_Mod_findSides 48 = .ok (.idiv, 1) := by decide +kernel
theorem d_Mod_findSides_49 : decode b_Mod_findSides 49 = .ok (.iaload, 1) := by decide +kernel
theorem d_Mod_findSides_50 : decode b_Mod_findSides 50 = .ok (.imul, 1) := by decide +kernel
theorem d_Mod_findSides_51 : decode b_Mod_findSides 51 = .ok (.iload_n 2, 1) := by decide +kernel
theorem d_Mod_findSides_52 : decode b_Mod_findSides 52 = .ok (.iconst 2, 1) := by decide +kernel
theorem d_Mod_findSides_53 : decode b_Mod_findSides 53 = .ok (.irem, 1) := by decide +kernel
theorem d_Mod_findSides_54 : decode b_Mod_findSides 54 = .ok (.iadd, 1) := by decide +kernel
theorem d_Mod_findSides_55 : decode b_Mod_findSides 55 = .ok (.istore_n 3, 1) := by decide +kernel
theorem d_Mod_findSides_56 : decode b_Mod_findSides 56 = .ok (.iload_n 3, 1) := by decide +kernel
theorem d_Mod_findSides_57 : decode b_Mod_findSides 57 = .ok (.istore 4, 2) := by decide +kernel
theorem d_Mod_findSides_59 : decode b_Mod_findSides 59 = .ok (.aload_n 0, 1) := by decide +kernel
theorem d_Mod_findSides_60 : decode b_Mod_findSides 60 = .ok (.getfield 154, 3) := by decide +kernel
theorem d_Mod_findSides_63 : decode b_Mod_findSides 63 = .ok (.ifCond .eq 9, 3) := by decide +kernel
theorem d_Mod_findSides_66 : decode b_Mod_findSides 66 = .ok (.iload 4, 2) := by decide +kernel
theorem d_Mod_findSides_68 : decode b_Mod_findSides 68 = .ok (.iload_n 3, 1) := by decide +kernel
theorem d_Mod_findSides_69 : decode b_Mod_findSides 69 = .ok (.if_icmp .eq 35, 3) := by decide +kernel
theorem d_Mod_findSides_72 : decode b_Mod_findSides 72 = .ok (.aload_n 0, 1) := by decide +kernel
theorem d_Mod_findSides_73 : decode b_Mod_findSides 73 = .ok (.getfield 47, 3) := by decide +kernel
theorem d_Mod_findSides_76 : decode b_Mod_findSides 76 = .ok (.aload_n 0, 1) := by decide +kernel
theorem d_Mod_findSides_77 : decode b_Mod_findSides 77 = .ok (.getfield 154, 3) := by decide +kernel
theorem d_Mod_findSides_80 : decode b_Mod_findSides 80 = .ok (.iload 4, 2) := by decide +kernel
theorem d_Mod_findSides_82 : decode b_Mod_findSides 82 = .ok (.iastore, 1) := by decide +kernel
theorem d_Mod_findSides_83 : decode b_Mod_findSides 83 = .ok (.aload_n 0, 1) := by decide +kernel
theorem d_Mod_findSides_84 : decode b_Mod_findSides 84 = .ok (.dup, 1) := by decide +kernel
theorem d_Mod_findSides_85 : decode b_Mod_findSides 85 = .ok (.getfield 154, 3) := by decide +kernel
theorem d_Mod_findSides_88 : decode b_Mod_findSides 88 = .ok (.iconst 1, 1) := by decide +kernel
theorem d_Mod_findSides_89 : decode b_Mod_findSides 89 = .ok (.iadd, 1) := by decide +kernel
theorem d_Mod_findSides_90 : decode b_Mod_findSides 90 = .ok (.putfield 154, 3) := by decide +kernel
theorem d_Mod_findSides_93 : decode b_Mod_findSides 93 = .ok (.aload_n 0, 1) := by decide +kernel
theorem d_Mod_findSides_94 : decode b_Mod_findSides 94 = .ok (.iload 4, 2) := by decide +kernel
theorem d_Mod_findSides_96 : decode b_Mod_findSides 96 = .ok (.invokevirtual 95, 3) := by decide +kernel
theorem d_Mod_findSides_99 : decode b_Mod_findSides 99 = .ok (.istore 4, 2) := by decide +kernel
theorem d_Mod_findSides_101 : decode b_Mod_findSides 101 = .ok (.goto (-42), 3) := by decide +kernel
theorem d_Mod_findSides_104 : decode b_Mod_findSides 104 = .ok (.iconst 1, 1) := by decide +kernel
theorem d_Mod_findSides_105 : decode b_Mod_findSides 105 = .ok (.ireturn, 1) := by decide +kernel
theorem d_Mod_face_0 : decode b_Mod_face 0 = .ok (.aload_n 0, 1) := by decide +kernel
theorem d_Mod_face_1 : decode b_Mod_face 1 = .ok (.iload_n 1, 1) := by decide +kernel
theorem d_Mod_face_2 : decode b_Mod_face 2 = .ok (.invokevirtual 157, 3) := by decide +kernel
theorem d_Mod_face_5 : decode b_Mod_face 5 = .ok (.ifCond .eq 16, 3) := by decide +kernel
theorem d_Mod_face_8 : decode b_Mod_face 8 = .ok (.iload_n 2, 1) := by decide +kernel
theorem d_Mod_face_9 : decode b_Mod_face 9 = .ok (.iconst (-1), 1) := by decide +kernel
theorem d_Mod_face_10 : decode b_Mod_face 10 = .ok (.if_icmp .lt 11, 3) := by decide +kernel
theorem d_Mod_face_13 : decode b_Mod_face 13 = .ok (.iload_n 2, 1) := by decide +kernel
theorem d_Mod_face_14 : decode b_Mod_face 14 = .ok (.aload_n 0, 1) := by decide +kernel
theorem d_Mod_face_15 : decode b_Mod_face 15 = .ok (.getfield 154, 3) := by decide +kernel
theorem d_Mod_face_18 : decode b_Mod_face 18 = .ok (.if_icmp .lt 5, 3) := by decide +kernel
theorem d_Mod_face_21 : decode b_Mod_face 21 = .ok (.iconst 0, 1) := by decide +kernel
theorem d_Mod_face_22 : decode b_Mod_face 22 = .ok (.ireturn, 1) := by decide +kernel
theorem d_Mod_face_23 : decode b_Mod_face 23 = .ok (.iload_n 2, 1) := by decide +kernel
theorem d_Mod_face_24 : decode b_Mod_face 24 = .ok (.ifCond .ge 8, 3) := by decide +kernel
theorem d_Mod_face_27 : decode b_Mod_face 27 = .ok (.aload_n 0, 1) := by decide +kernel
theorem d_Mod_face_28 : decode b_Mod_face 28 = .ok (.getfield 154, 3) := by decide +kernel
theorem d_Mod_face_31 : decode b_Mod_face 31 = .ok (.ireturn, 1) := by decide +kernel
theorem d_Mod_face_32 : decode b_Mod_face 32 = .ok (.aload_n 0, 1) := by decide +kernel
theorem d_Mod_face_33 : decode b_Mod_face 33 = .ok (.getfield 47, 3) := by decide +kernel
theorem d_Mod_face_36 : decode b_Mod_face 36 = .ok (.iload_n 2, 1) := by decide +kernel
theorem d_Mod_face_37 : decode b_Mod_face 37 = .ok (.iaload, 1) := by decide +kernel
theorem d_Mod_face_38 : decode b_Mod_face 38 = .ok (.iconst 2, 1) := by decide +kernel
theorem d_Mod_face_39 : decode b_Mod_face 39 = .ok (.irem, 1) := by decide +kernel
theorem d_Mod_face_40 : decode b_Mod_face 40 = .ok (.iconst 1, 1) := by decide +kernel
theorem d_Mod_face_41 : decode b_Mod_face 41 = .ok (.if_icmp .ne 15, 3) := by decide +kernel
theorem d_Mod_face_44 : decode b_Mod_face 44 = .ok (.aload_n 0, 1) := by decide +kernel
theorem d_Mod_face_45 : decode b_Mod_face 45 = .ok (.getfield 47, 3) := by decide +kernel
theorem d_Mod_face_48 : decode b_Mod_face 48 = .ok (.iload_n 2, 1) := by decide +kernel
theorem d_Mod_face_49 : decode b_Mod_face 49 = .ok (.iaload, 1) := by decide +kernel
theorem d_Mod_face_50 : decode b_Mod_face 50 = .ok (.iconst 2, 1) := by decide +kernel
theorem d_Mod_face_51 : decode b_Mod_face 51 = .ok (.idiv, 1) := by decide +kernel
theorem d_Mod_face_52 : decode b_Mod_face 52 = .ok (.ineg, 1) := by decide +kernel
theorem d_Mod_face_53 : decode b_Mod_face 53 = .ok (.goto 11, 3) := by decide +kernel
theorem d_Mod_face_56 : decode b_Mod_face 56 = .ok (.aload_n 0, 1) := by decide +kernel
theorem d_Mod_face_57 : decode b_Mod_face 57 = .ok (.getfield 47, 3) := by decide +kernel
theorem d_Mod_face_60 : decode b_Mod_face 60 = .ok (.iload_n 2, 1) := by decide +kernel
theorem d_Mod_face_61 : decode b_Mod_face 61 = .ok (.iaload, 1) := by decide +kernel
theorem d_Mod_face_62 : decode b_Mod_face 62 = .ok (.iconst 2, 1) := by decide +kernel
theorem d_Mod_face_63 : decode b_Mod_face 63 = .ok (.idiv, 1) := by decide +kernel
theorem d_Mod_face_64 : decode b_Mod_face 64 = .ok (.ireturn, 1) := by decide +kernel
theorem d_Mod_uppers_0 : decode b_Mod_uppers 0 = .ok (.aload_n 0, 1) := by decide +kernel
theorem d_Mod_uppers_1 : decode b_Mod_uppers 1 = .ok (.iload_n 1, 1) := by decide +kernel
theorem d_Mod_uppers_2 : decode b_Mod_uppers 2 = .ok (.iconst 1, 1) := by decide +kernel
theorem d_Mod_uppers_3 : decode b_Mod_uppers 3 = .ok (.invokevirtual 66, 3) := by decide +kernel
theorem d_Mod_uppers_6 : decode b_Mod_uppers 6 = .ok (.invokestatic 160, 3) := by decide +kernel
theorem d_Mod_uppers_9 : decode b_Mod_uppers 9 = .ok (.ifCond .eq 7, 3) := by decide +kernel
theorem d_Mod_uppers_12 : decode b_Mod_uppers 12 = .ok (.iconst 1, 1) := by decide +kernel
theorem d_Mod_uppers_13 : decode b_Mod_uppers 13 = .ok (.goto 4, 3) := by decide +kernel
theorem d_Mod_uppers_16 : decode b_Mod_uppers 16 = .ok (.iconst 0, 1) := by decide +kernel
theorem d_Mod_uppers_17 : decode b_Mod_uppers 17 = .ok (.aload_n 0, 1) := by decide +kernel
theorem d_Mod_uppers_18 : decode b_Mod_uppers 18 = .ok (.iload_n 1, 1) := by decide +kernel
theorem d_Mod_uppers_19 : decode b_Mod_uppers 19 = .ok (.iconst 0, 1) := by decide +kernel
theorem d_Mod_uppers_20 : decode b_Mod_uppers 20 = .ok (.invokevirtual 66, 3) := by decide +kernel
theorem d_Mod_uppers_23 : decode b_Mod_uppers 23 = .ok (.invokestatic 160, 3) := by decide +kernel
theorem d_Mod_uppers_26 : decode b_Mod_uppers 26 = .ok (.ifCond .eq 7, 3) := by decide +kernel
theorem d_Mod_uppers_29 : decode b_Mod_uppers 29 = .ok (.iconst 1, 1) := by decide +kernel
theorem d_Mod_uppers_30 : decode b_Mod_uppers 30 = .ok (.goto 4, 3) := by decide +kernel
theorem d_Mod_uppers_33 : decode b_Mod_uppers 33 = .ok (.iconst 0, 1) := by decide +kernel
theorem d_Mod_uppers_34 : decode b_Mod_uppers 34 = .ok (.iadd, 1) := by decide +kernel
theorem d_Mod_uppers_35 : decode b_Mod_uppers 35 = .ok (.ireturn, 1) := by decide +kernel
theorem d_Mod_corner_0 : decode b_Mod_corner 0 = .ok (.aload_n 0, 1) := by decide +kernel
theorem d_Mod_corner_1 : decode b_Mod_corner 1 = .ok (.iload_n 1, 1) := by decide +kernel
theorem d_Mod_corner_2 : decode b_Mod_corner 2 = .ok (.iconst 2, 1) := by decide +kernel
theorem d_Mod_corner_3 : decode b_Mod_corner 3 = .ok (.idiv, 1) := by decide +kernel
theorem d_Mod_corner_4 : decode b_Mod_corner 4 = .ok (.iload_n 1, 1) := by decide +kernel
theorem d_Mod_corner_5 : decode b_Mod_corner 5 = .ok (.iconst 2, 1) := by decide +kernel
theorem d_Mod_corner_6 : decode b_Mod_corner 6 = .ok (.irem, 1) := by decide +kernel
theorem d_Mod_corner_7 : decode b_Mod_corner 7 = .ok (.iconst 1, 1) := by decide +kernel
theorem d_Mod_corner_8 : decode b_Mod_corner 8 = .ok (.if_icmp .ne 7, 3) := by decide +kernel
theorem d_Mod_corner_11 : decode b_Mod_corner 11 = .ok (.iconst 1, 1) := by decide +kernel
theorem d_Mod_corner_12 : decode b_Mod_corner 12 = .ok (.goto 4, 3) := by decide +kernel
theorem d_Mod_corner_15 : decode b_Mod_corner 15 = .ok (.iconst 0, 1) := by decide +kernel
theorem d_Mod_corner_16 : decode b_Mod_corner 16 = .ok (.invokevirtual 66, 3) := by decide +kernel
theorem d_Mod_corner_19 : decode b_Mod_corner 19 = .ok (.iconst 4, 1) := by decide +kernel
theorem d_Mod_corner_20 : decode b_Mod_corner 20 = .ok (.idiv, 1) := by decide +kernel
theorem d_Mod_corner_21 : decode b_Mod_corner 21 = .ok (.ireturn, 1) := by decide +kernel
theorem d_Mod_pattern_0 : decode b_Mod_pattern 0 = .ok (.aload_n 0, 1) := by decide +kernel
theorem d_Mod_pattern_1 : decode b_Mod_pattern 1 = .ok (.iload_n 1, 1) := by decide +kernel
theorem d_Mod_pattern_2 : decode b_Mod_pattern 2 = .ok (.invokevirtual 157, 3) := by decide +kernel
theorem d_Mod_pattern_5 : decode b_Mod_pattern 5 = .ok (.ifCond .ne 5, 3) := by decide +kernel
theorem d_Mod_pattern_8 : decode b_Mod_pattern 8 = .ok (.iconst (-1), 1) := by decide +kernel
theorem d_Mod_pattern_9 : decode b_Mod_pattern 9 = .ok (.ireturn, 1) := by decide +kernel
theorem d_Mod_pattern_10 : decode b_Mod_pattern 10 = .ok (.aload_n 0, 1) := by decide +kernel
theorem d_Mod_pattern_11 : decode b_Mod_pattern 11 = .ok (.getfield 154, 3) := by decide +kernel
theorem d_Mod_pattern_14 : decode b_Mod_pattern 14 = .ok (.iconst 1, 1) := by decide +kernel
theorem d_Mod_pattern_15 : decode b_Mod_pattern 15 = .ok (.if_icmp .ne 5, 3) := by decide +kernel
theorem d_Mod_pattern_18 : decode b_Mod_pattern 18 = .ok (.iconst 1, 1) := by decide +kernel
theorem d_Mod_pattern_19 : decode b_Mod_pattern 19 = .ok (.ireturn, 1) := by decide +kernel
theorem d_Mod_pattern_20 : decode b_Mod_pattern 20 = .ok (.aload_n 0, 1) := by decide +kernel
theorem d_Mod_pattern_21 : decode b_Mod_pattern 21 = .ok (.getfield 154, 3) := by decide +kernel
theorem d_Mod_pattern_24 : decode b_Mod_pattern 24 = .ok (.iconst 2, 1) := by decide +kernel
theorem d_Mod_pattern_25 : decode b_Mod_pattern 25 = .ok (.if_icmp .ne 30, 3) := by decide +kernel
theorem d_Mod_pattern_28 : decode b_Mod_pattern 28 = .ok (.aload_n 0, 1) := by decide +kernel
theorem d_Mod_pattern_29 : decode b_Mod_pattern 29 = .ok (.aload_n 0, 1) := by decide +kernel
theorem d_Mod_pattern_30 : decode b_Mod_pattern 30 = .ok (.getfield 47, 3) := by decide +kernel
theorem d_Mod_pattern_33 : decode b_Mod_pattern 33 = .ok (.iconst 0, 1) := by decide +kernel
theorem d_Mod_pattern_34 : decode b_Mod_pattern 34 = .ok (.iaload, 1) := by decide +kernel
theorem d_Mod_pattern_35 : decode b_Mod_pattern 35 = .ok (.invokevirtual 163, 3) := by decide +kernel
theorem d_Mod_pattern_38 : decode b_Mod_pattern 38 = .ok (.aload_n 0, 1) := by decide +kernel
theorem d_Mod_pattern_39 : decode b_Mod_pattern 39 = .ok (.aload_n 0, 1) := by decide +kernel
theorem d_Mod_pattern_40 : decode b_Mod_pattern 40 = .ok (.getfield 47, 3) := by decide +kernel
theorem d_Mod_pattern_43 : decode b_Mod_pattern 43 = .ok (.iconst 1, 1) := by decide +kernel
theorem d_Mod_pattern_44 : decode b_Mod_pattern 44 = .ok (.iaload, 1) := by decide +kernel
theorem d_Mod_pattern_45 : decode b_Mod_pattern 45 = .ok (.invokevirtual 163, 3) := by decide +kernel
theorem d_Mod_pattern_48 : decode b_Mod_pattern 48 = .ok (.if_icmp .eq 7, 3) := by decide +kernel
theorem d_Mod_pattern_51 : decode b_Mod_pattern 51 = .ok (.iconst 1, 1) := by decide +kernel
theorem d_Mod_pattern_52 : decode b_Mod_pattern 52 = .ok (.goto 4, 3) := by decide +kernel
theorem d_Mod_pattern_55 : decode b_Mod_pattern 55 = .ok (.iconst 0, 1) := by decide +kernel
theorem d_Mod_pattern_56 : decode b_Mod_pattern 56 = .ok (.istore_n 2, 1) := by decide +kernel
theorem d_Mod_pattern_57 : decode b_Mod_pattern 57 = .ok (.iload_n 2, 1) := by decide +kernel
theorem d_Mod_pattern_58 : decode b_Mod_pattern 58 = .ok (.ifCond .eq 71, 3) := by decide +kernel
theorem d_Mod_pattern_61 : decode b_Mod_pattern 61 = .ok (.aload_n 0, 1) := by decide +kernel
theorem d_Mod_pattern_62 : decode b_Mod_pattern 62 = .ok (.aload_n 0, 1) := by decide +kernel
theorem d_Mod_pattern_63 : decode b_Mod_pattern 63 = .ok (.getfield 47, 3) := by decide +kernel
theorem d_Mod_pattern_66 : decode b_Mod_pattern 66 = .ok (.iconst 0, 1) := by decide +kernel
theorem d_Mod_pattern_67 : decode b_Mod_pattern 67 = .ok (.iaload, 1) := by decide +kernel
theorem d_Mod_pattern_68 : decode b_Mod_pattern 68 = .ok (.iconst 2, 1) := by decide +kernel
theorem d_Mod_pattern_69 : decode b_Mod_pattern 69 = .ok (.idiv, 1) := by decide +kernel
theorem d_Mod_pattern_70 : decode b_Mod_pattern 70 = .ok (.invokevirtual 166, 3) := by decide +kernel
theorem d_Mod_pattern_73 : decode b_Mod_pattern 73 = .ok (.iconst 2, 1) := by decide +kernel
theorem d_Mod_pattern_74 : decode b_Mod_pattern 74 = .ok (.if_icmp .ne 18, 3) := by decide +kernel
theorem d_Mod_pattern_77 : decode b_Mod_pattern 77 = .ok (.aload_n 0, 1) := by decide +kernel
theorem d_Mod_pattern_78 : decode b_Mod_pattern 78 = .ok (.aload_n 0, 1) := by decide +kernel
theorem d_Mod_pattern_79 : decode b_Mod_pattern 79 = .ok (.getfield 47, 3) := by decide +kernel
theorem d_Mod_pattern_82 : decode b_Mod_pattern 82 = .ok (.iconst 1, 1) := by decide +kernel
theorem d_Mod_pattern_83 : decode b_Mod_pattern 83 = .ok (.iaload, 1) := by decide +kernel
theorem d_Mod_pattern_84 : decode b_Mod_pattern 84 = .ok (.iconst 2, 1) := by decide +kernel
theorem d_Mod_pattern_85 : decode b_Mod_pattern 85 = .ok (.idiv, 1) := by decide +kernel
theorem d_Mod_pattern_86 : decode b_Mod_pattern 86 = .ok (.invokevirtual 166, 3) := by decide +kernel
theorem d_Mod_pattern_89 : decode b_Mod_pattern 89 = .ok (.ifCond .eq 34, 3) := by decide +kernel
theorem d_Mod_pattern_92 : decode b_Mod_pattern 92 = .ok (.aload_n 0, 1) := by decide +kernel
theorem d_Mod_pattern_93 : decode b_Mod_pattern 93 = .ok (.aload_n 0, 1) := by decide +kernel
theorem d_Mod_pattern_94 : decode b_Mod_pattern 94 = .ok (.getfield 47, 3) := by decide +kernel
theorem d_Mod_pattern_97 : decode b_Mod_pattern 97 = .ok (.iconst 0, 1) := by decide +kernel
theorem d_Mod_pattern_98 : decode b_Mod_pattern 98 = .ok (.iaload, 1) := by decide +kernel
theorem d_Mod_pattern_99 : decode b_Mod_pattern 99 = .ok (.iconst 2, 1) := by decide +kernel
theorem d_Mod_pattern_100 : decode b_Mod_pattern 100 = .ok (.idiv, 1) := by decide +kernel
theorem d_Mod_pattern_101 : decode b_Mod_pattern 101 = .ok (.invokevirtual 166, 3) := by decide +kernel
theorem d_Mod_pattern_104 : decode b_Mod_pattern 104 = .ok (.ifCond .ne 23, 3) := by decide +kernel
theorem d_Mod_pattern_107 : decode b_Mod_pattern 107 = .ok (.aload_n 0, 1) := by decide +kernel
theorem d_Mod_pattern_108 : decode b_Mod_pattern 108 = .ok (.aload_n 0, 1) := by decide +kernel
theorem d_Mod_pattern_109 : decode b_Mod_pattern 109 = .ok (.getfield 47, 3) := by decide +kernel
theorem d_Mod_pattern_112 : decode b_Mod_pattern 112 = .ok (.iconst 1, 1) := by decide +kernel
theorem d_Mod_pattern_113 : decode b_Mod_pattern 113 = .ok (.iaload, 1) := by decide +kernel
theorem d_Mod_pattern_114 : decode b_Mod_pattern 114 = .ok (.iconst 2, 1) := by decide +kernel
theorem d_Mod_pattern_115 : decode b_Mod_pattern 115 = .ok (.idiv, 1) := by decide +kernel
theorem d_Mod_pattern_116 : decode b_Mod_pattern 116 = .ok (.invokevirtual 166, 3) := by decide +kernel
theorem d_Mod_pattern_119 : decode b_Mod_pattern 119 = .ok (.iconst 2, 1) := by decide +kernel
theorem d_Mod_pattern_120 : decode b_Mod_pattern 120 = .ok (.if_icmp .ne 7, 3) := by decide +kernel
theorem d_Mod_pattern_123 : decode b_Mod_pattern 123 = .ok (.iconst 2, 1) := by decide +kernel
theorem d_Mod_pattern_124 : decode b_Mod_pattern 124 = .ok (.goto 4, 3) := by decide +kernel
theorem d_Mod_pattern_127 : decode b_Mod_pattern 127 = .ok (.iconst 0, 1) := by decide +kernel
theorem d_Mod_pattern_128 : decode b_Mod_pattern 128 = .ok (.ireturn, 1) := by decide +kernel
theorem d_Mod_pattern_129 : decode b_Mod_pattern 129 = .ok (.aload_n 0, 1) := by decide +kernel
theorem d_Mod_pattern_130 : decode b_Mod_pattern 130 = .ok (.getfield 154, 3) := by decide +kernel
theorem d_Mod_pattern_133 : decode b_Mod_pattern 133 = .ok (.iconst 3, 1) := by decide +kernel
theorem d_Mod_pattern_134 : decode b_Mod_pattern 134 = .ok (.if_icmp .ne 76, 3) := by decide +kernel
theorem d_Mod_pattern_137 : decode b_Mod_pattern 137 = .ok (.aload_n 0, 1) := by decide +kernel
theorem d_Mod_pattern_138 : decode b_Mod_pattern 138 = .ok (.aload_n 0, 1) := by decide +kernel
theorem d_Mod_pattern_139 : decode b_Mod_pattern 139 = .ok (.getfield 47, 3) := by decide +kernel
theorem d_Mod_pattern_142 : decode b_Mod_pattern 142 = .ok (.iconst 0, 1) := by decide +kernel
theorem d_Mod_pattern_143 : decode b_Mod_pattern 143 = .ok (.iaload, 1) := by decide +kernel
theorem d_Mod_pattern_144 : decode b_Mod_pattern 144 = .ok (.invokevirtual 163, 3) := by decide +kernel
theorem d_Mod_pattern_147 : decode b_Mod_pattern 147 = .ok (.aload_n 0, 1) := by decide +kernel
theorem d_Mod_pattern_148 : decode b_Mod_pattern 148 = .ok (.aload_n 0, 1) := by decide +kernel
theorem d_Mod_pattern_149 : decode b_Mod_pattern 149 = .ok (.getfield 47, 3) := by decide +kernel
theorem d_Mod_pattern_152 : decode b_Mod_pattern 152 = .ok (.iconst 1, 1) := by decide +kernel
theorem d_Mod_pattern_153 : decode b_Mod_pattern 153 = .ok (.iaload, 1) := by decide +kernel
theorem d_Mod_pattern_154 : decode b_Mod_pattern 154 = .ok (.invokevirtual 163, 3) := by decide +kernel
theorem d_Mod_pattern_157 : decode b_Mod_pattern 157 = .ok (.if_icmp .eq 53, 3) := by decide +kernel
theorem d_Mod_pattern_160 : decode b_Mod_pattern 160 = .ok (.aload_n 0, 1) := by decide +kernel
theorem d_Mod_pattern_161 : decode b_Mod_pattern 161 = .ok (.aload_n 0, 1) := by decide +kernel
theorem d_Mod_pattern_162 : decode b_Mod_pattern 162 = .ok (.getfield 47, 3) := by decide +kernel
theorem d_Mod_pattern_165 : decode b_Mod_pattern 165 = .ok (.iconst 1, 1) := by decide +kernel
theorem d_Mod_pattern_166 : decode b_Mod_pattern 166 = .ok (.iaload, 1) := by decide +kernel
theorem d_Mod_pattern_167 : decode b_Mod_pattern 167 = .ok (.invokevirtual 163, 3) := by decide +kernel
theorem d_Mod_pattern_170 : decode b_Mod_pattern 170 = .ok (.aload_n 0, 1) := by decide +kernel
theorem d_Mod_pattern_171 : decode b_Mod_pattern 171 = .ok (.aload_n 0, 1) := by decide +kernel
theorem d_Mod_pattern_172 : decode b_Mod_pattern 172 = .ok (.getfield 47, 3) := by decide +kernel
theorem d_Mod_pattern_175 : decode b_Mod_pattern 175 = .ok (.iconst 2, 1) := by decide +kernel
theorem d_Mod_pattern_176 : decode b_Mod_pattern 176 = .ok (.iaload, 1) := by decide +kernel
theorem d_Mod_pattern_177 : decode b_Mod_pattern 177 = .ok (.invokevirtual 163, 3) := by decide +kernel
theorem d_Mod_pattern_180 : decode b_Mod_pattern 180 = .ok (.if_icmp .eq 30, 3) := by decide +kernel
theorem d_Mod_pattern_183 : decode b_Mod_pattern 183 = .ok (.aload_n 0, 1) := by decide +kernel
theorem d_Mod_pattern_184 : decode b_Mod_pattern 184 = .ok (.aload_n 0, 1) := by decide +kernel
theorem d_Mod_pattern_185 : decode b_Mod_pattern 185 = .ok (.getfield 47, 3) := by decide +kernel
theorem d_Mod_pattern_188 : decode b_Mod_pattern 188 = .ok (.iconst 0, 1) := by decide +kernel
theorem d_Mod_pattern_189 : decode b_Mod_pattern 189 = .ok (.iaload, 1) := by decide +kernel
theorem d_Mod_pattern_190 : decode b_Mod_pattern 190 = .ok (.invokevirtual 163, 3) := by decide +kernel
theorem d_Mod_pattern_193 : decode b_Mod_pattern 193 = .ok (.aload_n 0, 1) := by decide +kernel
theorem d_Mod_pattern_194 : decode b_Mod_pattern 194 = .ok (.aload_n 0, 1) := by decide +kernel
theorem d_Mod_pattern_195 : decode b_Mod_pattern 195 = .ok (.getfield 47, 3) := by decide +kernel
theorem d_Mod_pattern_198 : decode b_Mod_pattern 198 = .ok (.iconst 2, 1) := by decide +kernel
theorem d_Mod_pattern_199 : decode b_Mod_pattern 199 = .ok (.iaload, 1) := by decide +kernel
theorem d_Mod_pattern_200 : decode b_Mod_pattern 200 = .ok (.invokevirtual 163, 3) := by decide +kernel
theorem d_Mod_pattern_203 : decode b_Mod_pattern 203 = .ok (.if_icmp .eq 7, 3) := by decide +kernel
theorem d_Mod_pattern_206 : decode b_Mod_pattern 206 = .ok (.iconst 1, 1) := by decide +kernel
theorem d_Mod_pattern_207 : decode b_Mod_pattern 207 = .ok (.goto 4, 3) := by decide +kernel
theorem d_Mod_pattern_210 : decode b_Mod_pattern 210 = .ok (.iconst 0, 1) := by decide +kernel
theorem d_Mod_pattern_211 : decode b_Mod_pattern 211 = .ok (.istore_n 3, 1) := by decide +kernel
theorem d_Mod_pattern_212 : decode b_Mod_pattern 212 = .ok (.iload_n 3, 1) := by decide +kernel
theorem d_Mod_pattern_213 : decode b_Mod_pattern 213 = .ok (.ifCond .ne 5, 3) := by decide +kernel
theorem d_Mod_pattern_216 : decode b_Mod_pattern 216 = .ok (.iconst 0, 1) := by decide +kernel
theorem d_Mod_pattern_217 : decode b_Mod_pattern 217 = .ok (.ireturn, 1) := by decide +kernel
theorem d_Mod_pattern_218 : decode b_Mod_pattern 218 = .ok (.aload_n 0, 1) := by decide +kernel
theorem d_Mod_pattern_219 : decode b_Mod_pattern 219 = .ok (.aload_n 0, 1) := by decide +kernel
theorem d_Mod_pattern_220 : decode b_Mod_pattern 220 = .ok (.getfield 47, 3) := by decide +kernel
theorem d_Mod_pattern_223 : decode b_Mod_pattern 223 = .ok (.iconst 0, 1) := by decide +kernel
theorem d_Mod_pattern_224 : decode b_Mod_pattern 224 = .ok (.iaload, 1) := by decide +kernel
theorem d_Mod_pattern_225 : decode b_Mod_pattern 225 = .ok (.iconst 2, 1) := by decide +kernel
theorem d_Mod_pattern_226 : decode b_Mod_pattern 226 = .ok (.idiv, 1) := by decide +kernel
theorem d_Mod_pattern_227 : decode b_Mod_pattern 227 = .ok (.invokevirtual 166, 3) := by decide +kernel
theorem d_Mod_pattern_230 : decode b_Mod_pattern 230 = .ok (.istore 4, 2) := by decide +kernel
theorem d_Mod_pattern_232 : decode b_Mod_pattern 232 = .ok (.aload_n 0, 1) := by decide +kernel
theorem d_Mod_pattern_233 : decode b_Mod_pattern 233 = .ok (.aload_n 0, 1) := by decide +kernel
theorem d_Mod_pattern_234 : decode b_Mod_pattern 234 = .ok (.getfield 47, 3) := by decide +kernel
theorem d_Mod_pattern_237 : decode b_Mod_pattern 237 = .ok (.iconst 1, 1) := by decide +kernel
theorem d_Mod_pattern_238 : decode b_Mod_pattern 238 = .ok (.iaload, 1) := by decide +kernel
theorem d_Mod_pattern_239 : decode b_Mod_pattern 239 = .ok (.iconst 2, 1) := by decide +kernel
theorem d_Mod_pattern_240 : decode b_Mod_pattern 240 = .ok (.idiv, 1) := by decide +kernel
theorem d_Mod_pattern_241 : decode b_Mod_pattern 241 = .ok (.invokevirtual 166, 3) := by decide +kernel
theorem d_Mod_pattern_244 : decode b_Mod_pattern 244 = .ok (.istore 5, 2) := by decide +kernel
theorem d_Mod_pattern_246 : decode b_Mod_pattern 246 = .ok (.aload_n 0, 1) := by decide +kernel
theorem d_Mod_pattern_247 : decode b_Mod_pattern 247 = .ok (.aload_n 0, 1) := by decide +kernel
theorem d_Mod_pattern_248 : decode b_Mod_pattern 248 = .ok (.getfield 47, 3) := by decide +kernel
theorem d_Mod_pattern_251 : decode b_Mod_pattern 251 = .ok (.iconst 2, 1) := by decide +kernel
theorem d_Mod_pattern_252 : decode b_Mod_pattern 252 = .ok (.iaload, 1) := by decide +kernel
theorem d_Mod_pattern_253 : decode b_Mod_pattern 253 = .ok (.iconst 2, 1) := by decide +kernel
theorem d_Mod_pattern_254 : decode b_Mod_pattern 254 = .ok (.idiv, 1) := by decide +kernel
theorem d_Mod_pattern_255 : decode b_Mod_pattern 255 = .ok (.invokevirtual 166, 3) := by decide +kernel
theorem d_Mod_pattern_258 : decode b_Mod_pattern 258 = .ok (.istore 6, 2) := by decide +kernel
theorem d_Mod_pattern_260 : decode b_Mod_pattern 260 = .ok (.iload 4, 2) := by decide +kernel
theorem d_Mod_pattern_262 : decode b_Mod_pattern 262 = .ok (.iload 5, 2) := by decide +kernel
theorem d_Mod_pattern_264 : decode b_Mod_pattern 264 = .ok (.if_icmp .eq 21, 3) := by decide +kernel
theorem d_Mod_pattern_267 : decode b_Mod_pattern 267 = .ok (.iload 5, 2) := by decide +kernel
theorem d_Mod_pattern_269 : decode b_Mod_pattern 269 = .ok (.iload 6, 2) := by decide +kernel
theorem d_Mod_pattern_271 : decode b_Mod_pattern 271 = .ok (.if_icmp .eq 14, 3) := by decide +kernel
theorem d_Mod_pattern_274 : decode b_Mod_pattern 274 = .ok (.iload 4, 2) := by decide +kernel
theorem d_Mod_pattern_276 : decode b_Mod_pattern 276 = .ok (.iload 6, 2) := by decide +kernel
theorem d_Mod_pattern_278 : decode b_Mod_pattern 278 = .ok (.if_icmp .eq 7, 3) := by decide +kernel
theorem d_Mod_pattern_281 : decode b_Mod_pattern 281 = .ok (.iconst 3, 1) := by decide +kernel
theorem d_Mod_pattern_282 : decode b_Mod_pattern 282 = .ok (.goto 4, 3) := by decide +kernel
theorem d_Mod_pattern_285 : decode b_Mod_pattern 285 = .ok (.iconst 0, 1) := by decide +kernel
theorem d_Mod_pattern_286 : decode b_Mod_pattern 286 = .ok (.ireturn, 1) := by decide +kernel
end
section
theorem d_Mod_rename_0 : decode b_Mod_rename 0 = .ok (.iconst 0, 1) := by decide +kernel
theorem d_Mod_rename_1 : decode b_Mod_rename 1 = .ok (.istore_n 3, 1) := by decide +kernel
theorem d_Mod_rename_2 : decode b_Mod_rename 2 = .ok (.iload_n 3, 1) := by decide +kernel
theorem d_Mod_rename_3 : decode b_Mod_rename 3 = .ok (.iconst 4, 1) := by decide +kernel
theorem d_Mod_rename_4 : decode b_Mod_rename 4 = .ok (.aload_n 0, 1) := by decide +kernel
theorem d_Mod_rename_5 : decode b_Mod_rename 5 = .ok (.getfield 59, 3) := by decide +kernel
theorem d_Mod_rename_8 : decode b_Mod_rename 8 = .ok (.imul, 1) := by decide +kernel
theorem d_Mod_rename_9 : decode b_Mod_rename 9 = .ok (.if_icmp .ge 35, 3) := by decide +kernel
theorem d_Mod_rename_12 : decode b_Mod_rename 12 = .ok (.aload_n 0, 1) := by decide +kernel
theorem d_Mod_rename_13 : decode b_Mod_rename 13 = .ok (.getfield 23, 3) := by decide +kernel
theorem d_Mod_rename_16 : decode b_Mod_rename 16 = .ok (.iload_n 3, 1) := by decide +kernel
theorem d_Mod_rename_17 : decode b_Mod_rename 17 = .ok (.aload_n 0, 1) := by decide +kernel
theorem d_Mod_rename_18 : decode b_Mod_rename 18 = .ok (.getfield 23, 3) := by decide +kernel
theorem d_Mod_rename_21 : decode b_Mod_rename 21 = .ok (.iload_n 3, 1) := by decide +kernel
theorem d_Mod_rename_22 : decode b_Mod_rename 22 = .ok (.iaload, 1) := by decide +kernel
theorem d_Mod_rename_23 : decode b_Mod_rename 23 = .ok (.iload_n 1, 1) := by decide +kernel
theorem d_Mod_rename_24 : decode b_Mod_rename 24 = .ok (.if_icmp .ne 7, 3) := by decide +kernel
theorem d_Mod_rename_27 : decode b_Mod_rename 27 = .ok (.iload_n 2, 1) := by decide +kernel
theorem d_Mod_rename_28 : decode b_Mod_rename 28 = .ok (.goto 9, 3) := by decide +kernel
theorem d_Mod_rename_31 : decode b_Mod_rename 31 = .ok (.aload_n 0, 1) := by decide +kernel
theorem d_Mod_rename_32 : decode b_Mod_rename 32 = .ok (.getfield 23, 3) := by decide +kernel
theorem d_Mod_rename_35 : decode b_Mod_rename 35 = .ok (.iload_n 3, 1) := by decide +kernel
theorem d_Mod_rename_36 : decode b_Mod_rename 36 = .ok (.iaload, 1) := by decide +kernel
theorem d_Mod_rename_37 : decode b_Mod_rename 37 = .ok (.iastore, 1) := by decide +kernel
theorem d_Mod_rename_38 : decode b_Mod_rename 38 = .ok (.iinc 3 1, 3) := by decide +kernel
theorem d_Mod_rename_41 : decode b_Mod_rename 41 = .ok (.goto (-39), 3) := by decide +kernel
theorem d_Mod_rename_44 : decode b_Mod_rename 44 = .ok (.iconst 0, 1) := by decide +kernel
theorem d_Mod_rename_45 : decode b_Mod_rename 45 = .ok (.istore_n 3, 1) := by decide +kernel
theorem d_Mod_rename_46 : decode b_Mod_rename 46 = .ok (.iload_n 3, 1) := by decide +kernel
theorem d_Mod_rename_47 : decode b_Mod_rename 47 = .ok (.iconst 4, 1) := by decide +kernel
theorem d_Mod_rename_48 : decode b_Mod_rename 48 = .ok (.if_icmp .ge 35, 3) := by decide +kernel
theorem d_Mod_rename_51 : decode b_Mod_rename 51 = .ok (.aload_n 0, 1) := by decide +kernel
theorem d_Mod_rename_52 : decode b_Mod_rename 52 = .ok (.getfield 35, 3) := by decide +kernel
theorem d_Mod_rename_55 : decode b_Mod_rename 55 = .ok (.iload_n 3, 1) := by decide +kernel
theorem d_Mod_rename_56 : decode b_Mod_rename 56 = .ok (.aload_n 0, 1) := by decide +kernel
theorem d_Mod_rename_57 : decode b_Mod_rename 57 = .ok (.getfield 35, 3) := by decide +kernel
theorem d_Mod_rename_60 : decode b_Mod_rename 60 = .ok (.iload_n 3, 1) := by decide +kernel
theorem d_Mod_rename_61 : decode b_Mod_rename 61 = .ok (.iaload, 1) := by decide +kernel
theorem d_Mod_rename_62 : decode b_Mod_rename 62 = .ok (.iload_n 1, 1) := by decide +kernel
theorem d_Mod_rename_63 : decode b_Mod_rename 63 = .ok (.if_icmp .ne 7, 3) := by decide +kernel
theorem d_Mod_rename_66 : decode b_Mod_rename 66 = .ok (.iload_n 2, 1) := by decide +kernel
theorem d_Mod_rename_67 : decode b_Mod_rename 67 = .ok (.goto 9, 3) := by decide +kernel
theorem d_Mod_rename_70 : decode b_Mod_rename 70 = .ok (.aload_n 0, 1) := by decide +kernel
theorem d_Mod_rename_71 : decode b_Mod_rename 71 = .ok (.getfield 35, 3) := by decide +kernel
theorem d_Mod_rename_74 : decode b_Mod_rename 74 = .ok (.iload_n 3, 1) := by decide +kernel
theorem d_Mod_rename_75 : decode b_Mod_rename 75 = .ok (.iaload, 1) := by decide +kernel
theorem d_Mod_rename_76 : decode b_Mod_rename 76 = .ok (.iastore, 1) := by decide +kernel
theorem d_Mod_rename_77 : decode b_Mod_rename 77 = .ok (.iinc 3 1, 3) := by decide +kernel
theorem d_Mod_rename_80 : decode b_Mod_rename 80 = .ok (.goto (-34), 3) := by decide +kernel
theorem d_Mod_rename_83 : decode b_Mod_rename 83 = .ok (.return_, 1) := by decide +kernel
theorem d_Mod_join_0 : decode b_Mod_join 0 = .ok (.iload_n 1, 1) := by decide +kernel
theorem d_Mod_join_1 : decode b_Mod_join 1 = .ok (.iload_n 2, 1) := by decide +kernel
theorem d_Mod_join_2 : decode b_Mod_join 2 = .ok (.if_icmp .ne 16, 3) := by decide +kernel
theorem d_Mod_join_5 : decode b_Mod_join 5 = .ok (.aload_n 0, 1) := by decide +kernel
theorem d_Mod_join_6 : decode b_Mod_join 6 = .ok (.dup, 1) := by decide +kernel
theorem d_Mod_join_7 : decode b_Mod_join 7 = .ok (.getfield 104, 3) := by decide +kernel
theorem d_Mod_join_10 : decode b_Mod_join 10 = .ok (.iconst 1, 1) := by decide +kernel
theorem d_Mod_join_11 : decode b_Mod_join 11 = .ok (.iadd, 1) := by decide +kernel
theorem d_Mod_join_12 : decode b_Mod_join 12 = .ok (.putfield 104, 3) := by decide +kernel
theorem d_Mod_join_15 : decode b_Mod_join 15 = .ok (.goto 27, 3) := by decide +kernel
theorem d_Mod_join_18 : decode b_Mod_join 18 = .ok (.aload_n 0, 1) := by decide +kernel
theorem d_Mod_join_19 : decode b_Mod_join 19 = .ok (.iload_n 1, 1) := by decide +kernel
theorem d_Mod_join_20 : decode b_Mod_join 20 = .ok (.iload_n 2, 1) := by decide +kernel
theorem d_Mod_join_21 : decode b_Mod_join 21 = .ok (.if_icmp .ge 7, 3) := by decide +kernel
theorem d_Mod_join_24 : decode b_Mod_join 24 = .ok (.iload_n 2, 1) := by decide +kernel
theorem d_Mod_join_25 : decode b_Mod_join 25 = .ok (.goto 4, 3) := by decide +kernel
theorem d_Mod_join_28 : decode b_Mod_join 28 = .ok (.iload_n 1, 1) := by decide +kernel
theorem d_Mod_join_29 : decode b_Mod_join 29 = .ok (.iload_n 1, 1) := by decide +kernel
theorem d_Mod_join_30 : decode b_Mod_join 30 = .ok (.iload_n 2, 1) := by decide +kernel
theorem d_Mod_join_31 : decode b_Mod_join 31 = .ok (.if_icmp .ge 7, 3) := by decide +kernel
theorem d_Mod_join_34 : decode b_Mod_join 34 = .ok (.iload_n 1, 1) := by decide +kernel
theorem d_Mod_join_35 : decode b_Mod_join 35 = .ok (.goto 4, 3) := by decide +kernel
theorem d_Mod_join_38 : decode b_Mod_join 38 = .ok (.iload_n 2, 1) := by decide +kernel
theorem d_Mod_join_39 : decode b_Mod_join 39 = .ok (.invokevirtual 169, 3) := by decide +kernel
theorem d_Mod_join_42 : decode b_Mod_join 42 = .ok (.return_, 1) := by decide +kernel
theorem d_Mod_lift_0 : decode b_Mod_lift 0 = .ok (.iconst 0, 1) := by decide +kernel
theorem d_Mod_lift_1 : decode b_Mod_lift 1 = .ok (.istore_n 2, 1) := by decide +kernel
theorem d_Mod_lift_2 : decode b_Mod_lift 2 = .ok (.iload_n 2, 1) := by decide +kernel
theorem d_Mod_lift_3 : decode b_Mod_lift 3 = .ok (.iconst 4, 1) := by decide +kernel
theorem d_Mod_lift_4 : decode b_Mod_lift 4 = .ok (.if_icmp .ge 25, 3) := by decide +kernel
theorem d_Mod_lift_7 : decode b_Mod_lift 7 = .ok (.aload_n 0, 1) := by decide +kernel
theorem d_Mod_lift_8 : decode b_Mod_lift 8 = .ok (.getfield 35, 3) := by decide +kernel
theorem d_Mod_lift_11 : decode b_Mod_lift 11 = .ok (.iload_n 2, 1) := by decide +kernel
theorem d_Mod_lift_12 : decode b_Mod_lift 12 = .ok (.aload_n 0, 1) := by decide +kernel
theorem d_Mod_lift_13 : decode b_Mod_lift 13 = .ok (.getfield 23, 3) := by decide +kernel
theorem d_Mod_lift_16 : decode b_Mod_lift 16 = .ok (.iconst 4, 1) := by decide +kernel
theorem d_Mod_lift_17 : decode b_Mod_lift 17 = .ok (.iload_n 1, 1) := by decide +kernel
theorem d_Mod_lift_18 : decode b_Mod_lift 18 = .ok (.imul, 1) := by decide +kernel
theorem d_Mod_lift_19 : decode b_Mod_lift 19 = .ok (.iload_n 2, 1) := by decide +kernel
theorem d_Mod_lift_20 : decode b_Mod_lift 20 = .ok (.iadd, 1) := by decide +kernel
theorem d_Mod_lift_21 : decode b_Mod_lift 21 = .ok (.iaload, 1) := by decide +kernel
theorem d_Mod_lift_22 : decode b_Mod_lift 22 = .ok (.iastore, 1) := by decide +kernel
theorem d_Mod_lift_23 : decode b_Mod_lift 23 = .ok (.iinc 2 1, 3) := by decide +kernel
theorem d_Mod_lift_26 : decode b_Mod_lift 26 = .ok (.goto (-24), 3) := by decide +kernel
theorem d_Mod_lift_29 : decode b_Mod_lift 29 = .ok (.aload_n 0, 1) := by decide +kernel
theorem d_Mod_lift_30 : decode b_Mod_lift 30 = .ok (.dup, 1) := by decide +kernel
theorem d_Mod_lift_31 : decode b_Mod_lift 31 = .ok (.getfield 59, 3) := by decide +kernel
theorem d_Mod_lift_34 : decode b_Mod_lift 34 = .ok (.iconst 1, 1) := by decide +kernel
theorem d_Mod_lift_35 : decode b_Mod_lift 35 = .ok (.isub, 1) := by decide +kernel
theorem d_Mod_lift_36 : decode b_Mod_lift 36 = .ok (.putfield 59, 3) := by decide +kernel
theorem d_Mod_lift_39 : decode b_Mod_lift 39 = .ok (.iload_n 1, 1) := by decide +kernel
theorem d_Mod_lift_40 : decode b_Mod_lift 40 = .ok (.istore_n 2, 1) := by decide +kernel
theorem d_Mod_lift_41 : decode b_Mod_lift 41 = .ok (.iload_n 2, 1) := by decide +kernel
theorem d_Mod_lift_42 : decode b_Mod_lift 42 = .ok (.aload_n 0, 1) := by decide +kernel
theorem d_Mod_lift_43 : decode b_Mod_lift 43 = .ok (.getfield 59, 3) := by decide +kernel
theorem d_Mod_lift_46 : decode b_Mod_lift 46 = .ok (.if_icmp .ge 58, 3) := by decide +kernel
theorem d_Mod_lift_49 : decode b_Mod_lift 49 = .ok (.aload_n 0, 1) := by decide +kernel
theorem d_Mod_lift_50 : decode b_Mod_lift 50 = .ok (.getfield 20, 3) := by decide +kernel
theorem d_Mod_lift_53 : decode b_Mod_lift 53 = .ok (.iload_n 2, 1) := by decide +kernel
theorem d_Mod_lift_54 : decode b_Mod_lift 54 = .ok (.aload_n 0, 1) := by decide +kernel
theorem d_Mod_lift_55 : decode b_Mod_lift 55 = .ok (.getfield 20, 3) := by decide +kernel
theorem d_Mod_lift_58 : decode b_Mod_lift 58 = .ok (.iload_n 2, 1) := by decide +kernel
theorem d_Mod_lift_59 : decode b_Mod_lift 59 = .ok (.iconst 1, 1) := by decide +kernel
theorem d_Mod_lift_60 : decode b_Mod_lift 60 = .ok (.iadd, 1) := by decide +kernel
theorem d_Mod_lift_61 : decode b_Mod_lift 61 = .ok (.iaload, 1) := by decide +kernel
theorem d_Mod_lift_62 : decode b_Mod_lift 62 = .ok (.iastore, 1) := by decide +kernel
theorem d_Mod_lift_63 : decode b_Mod_lift 63 = .ok (.iconst 0, 1) := by decide +kernel
theorem d_Mod_lift_64 : decode b_Mod_lift 64 = .ok (.istore_n 3, 1) := by decide +kernel
theorem d_Mod_lift_65 : decode b_Mod_lift 65 = .ok (.iload_n 3, 1) := by decide +kernel
theorem d_Mod_lift_66 : decode b_Mod_lift 66 = .ok (.iconst 4, 1) := by decide +kernel
theorem d_Mod_lift_67 : decode b_Mod_lift 67 = .ok (.if_icmp .ge 31, 3) := by decide +kernel
theorem d_Mod_lift_70 : decode b_Mod_lift 70 = .ok (.aload_n 0, 1) := by decide +kernel
theorem d_Mod_lift_71 : decode b_Mod_lift 71 = .ok (.getfield 23, 3) := by decide +kernel
theorem d_Mod_lift_74 : decode b_Mod_lift 74 = .ok (.iconst 4, 1) := by decide +kernel
theorem d_Mod_lift_75 : decode b_Mod_lift 75 = .ok (.iload_n 2, 1) := by decide +kernel
theorem d_Mod_lift_76 : decode b_Mod_lift 76 = .ok (.imul, 1) := by decide +kernel
theorem d_Mod_lift_77 : decode b_Mod_lift 77 = .ok (.iload_n 3, 1) := by decide +kernel
theorem d_Mod_lift_78 : decode b_Mod_lift 78 = .ok (.iadd, 1) := by decide +kernel
theorem d_Mod_lift_79 : decode b_Mod_lift 79 = .ok (.aload_n 0, 1) := by decide +kernel
theorem d_Mod_lift_80 : decode b_Mod_lift 80 = .ok (.getfield 23, 3) := by decide +kernel
theorem d_Mod_lift_83 : decode b_Mod_lift 83 = .ok (.iconst 4, 1) := by decide +kernel
theorem d_Mod_lift_84 : decode b_Mod_lift 84 = .ok (.iload_n 2, 1) := by decide +kernel
theorem d_Mod_lift_85 : decode b_Mod_lift 85 = .ok (.imul, 1) := by decide +kernel
theorem d_Mod_lift_86 : decode b_Mod_lift 86 = .ok (.iconst 4, 1) := by decide +kernel
theorem d_Mod_lift_87 : decode b_Mod_lift 87 = .ok (.iadd, 1) := by decide +kernel
theorem d_Mod_lift_88 : decode b_Mod_lift 88 = .ok (.iload_n 3, 1) := by decide +kernel
theorem d_Mod_lift_89 : decode b_Mod_lift 89 = .ok (.iadd, 1) := by decide +kernel
theorem d_Mod_lift_90 : decode b_Mod_lift 90 = .ok (.iaload, 1) := by decide +kernel
theorem d_Mod_lift_91 : decode b_Mod_lift 91 = .ok (.iastore, 1) := by decide +kernel
theorem d_Mod_lift_92 : decode b_Mod_lift 92 = .ok (.iinc 3 1, 3) := by decide +kernel
theorem d_Mod_lift_95 : decode b_Mod_lift 95 = .ok (.goto (-30), 3) := by decide +kernel
theorem d_Mod_lift_98 : decode b_Mod_lift 98 = .ok (.iinc 2 1, 3) := by decide +kernel
theorem d_Mod_lift_101 : decode b_Mod_lift 101 = .ok (.goto (-60), 3) := by decide +kernel
theorem d_Mod_lift_104 : decode b_Mod_lift 104 = .ok (.aload_n 0, 1) := by decide +kernel
theorem d_Mod_lift_105 : decode b_Mod_lift 105 = .ok (.aload_n 0, 1) := by decide +kernel
theorem d_Mod_lift_106 : decode b_Mod_lift 106 = .ok (.getfield 35, 3) := by decide +kernel
theorem d_Mod_lift_109 : decode b_Mod_lift 109 = .ok (.iconst 0, 1) := by decide +kernel
theorem d_Mod_lift_110 : decode b_Mod_lift 110 = .ok (.iaload, 1) := by decide +kernel
theorem d_Mod_lift_111 : decode b_Mod_lift 111 = .ok (.aload_n 0, 1) := by decide +kernel
theorem d_Mod_lift_112 : decode b_Mod_lift 112 = .ok (.getfield 35, 3) := by decide +kernel
theorem d_Mod_lift_115 : decode b_Mod_lift 115 = .ok (.iconst 2, 1) := by decide +kernel
theorem d_Mod_lift_116 : decode b_Mod_lift 116 = .ok (.iaload, 1) := by decide +kernel
theorem d_Mod_lift_117 : decode b_Mod_lift 117 = .ok (.invokevirtual 173, 3) := by decide +kernel
theorem d_Mod_lift_120 : decode b_Mod_lift 120 = .ok (.aload_n 0, 1) := by decide +kernel
theorem d_Mod_lift_121 : decode b_Mod_lift 121 = .ok (.aload_n 0, 1) := by decide +kernel
theorem d_Mod_lift_122 : decode b_Mod_lift 122 = .ok (.getfield 35, 3) := by decide +kernel
theorem d_Mod_lift_125 : decode b_Mod_lift 125 = .ok (.iconst 1, 1) := by decide +kernel
theorem d_Mod_lift_126 : decode b_Mod_lift 126 = .ok (.iaload, 1) := by decide +kernel
theorem d_Mod_lift_127 : decode b_Mod_lift 127 = .ok (.aload_n 0, 1) := by decide +kernel
theorem d_Mod_lift_128 : decode b_Mod_lift 128 = .ok (.getfield 35, 3) := by decide +kernel
theorem d_Mod_lift_131 : decode b_Mod_lift 131 = .ok (.iconst 3, 1) := by decide +kernel
theorem d_Mod_lift_132 : decode b_Mod_lift 132 = .ok (.iaload, 1) := by decide +kernel
theorem d_Mod_lift_133 : decode b_Mod_lift 133 = .ok (.invokevirtual 173, 3) := by decide +kernel
theorem d_Mod_lift_136 : decode b_Mod_lift 136 = .ok (.return_, 1) := by decide +kernel
theorem d_Mod_undo_0 : decode b_Mod_undo 0 = .ok (.aload_n 0, 1) := by decide +kernel
theorem d_Mod_undo_1 : decode b_Mod_undo 1 = .ok (.iload_n 1, 1) := by decide +kernel
theorem d_Mod_undo_2 : decode b_Mod_undo 2 = .ok (.invokevirtual 176, 3) := by decide +kernel
theorem d_Mod_undo_5 : decode b_Mod_undo 5 = .ok (.istore_n 2, 1) := by decide +kernel
theorem d_Mod_undo_6 : decode b_Mod_undo 6 = .ok (.iload_n 2, 1) := by decide +kernel
theorem d_Mod_undo_7 : decode b_Mod_undo 7 = .ok (.iconst 1, 1) := by decide +kernel
theorem d_Mod_undo_8 : decode b_Mod_undo 8 = .ok (.if_icmp .eq 10, 3) := by decide +kernel
theorem d_Mod_undo_11 : decode b_Mod_undo 11 = .ok (.iload_n 2, 1) := by decide +kernel
theorem d_Mod_undo_12 : decode b_Mod_undo 12 = .ok (.iconst 2, 1) := by decide +kernel
theorem d_Mod_undo_13 : decode b_Mod_undo 13 = .ok (.if_icmp .eq 5, 3) := by decide +kernel
theorem d_Mod_undo_16 : decode b_Mod_undo 16 = .ok (.iconst 0, 1) := by decide +kernel
theorem d_Mod_undo_17 : decode b_Mod_undo 17 = .ok (.ireturn, 1) := by decide +kernel
theorem d_Mod_undo_18 : decode b_Mod_undo 18 = .ok (.aload_n 0, 1) := by decide +kernel
theorem d_Mod_undo_19 : decode b_Mod_undo 19 = .ok (.aload_n 0, 1) := by decide +kernel
theorem d_Mod_undo_20 : decode b_Mod_undo 20 = .ok (.getfield 47, 3) := by decide +kernel
theorem d_Mod_undo_23 : decode b_Mod_undo 23 = .ok (.iconst 0, 1) := by decide +kernel
theorem d_Mod_undo_24 : decode b_Mod_undo 24 = .ok (.iaload, 1) := by decide +kernel
theorem d_Mod_undo_25 : decode b_Mod_undo 25 = .ok (.invokevirtual 163, 3) := by decide +kernel
theorem d_Mod_undo_28 : decode b_Mod_undo 28 = .ok (.istore_n 3, 1) := by decide +kernel
theorem d_Mod_undo_29 : decode b_Mod_undo 29 = .ok (.iload_n 2, 1) := by decide +kernel
theorem d_Mod_undo_30 : decode b_Mod_undo 30 = .ok (.iconst 1, 1) := by decide +kernel
theorem d_Mod_undo_31 : decode b_Mod_undo 31 = .ok (.if_icmp .ne 7, 3) := by decide +kernel
theorem d_Mod_undo_34 : decode b_Mod_undo 34 = .ok (.iload_n 3, 1) := by decide +kernel
theorem d_Mod_undo_35 : decode b_Mod_undo 35 = .ok (.goto 13, 3) := by decide +kernel
theorem d_Mod_undo_38 : decode b_Mod_undo 38 = .ok (.aload_n 0, 1) := by decide +kernel
theorem d_Mod_undo_39 : decode b_Mod_undo 39 = .ok (.aload_n 0, 1) := by decide +kernel
theorem d_Mod_undo_40 : decode b_Mod_undo 40 = .ok (.getfield 47, 3) := by decide +kernel
theorem d_Mod_undo_43 : decode b_Mod_undo 43 = .ok (.iconst 1, 1) := by decide +kernel
theorem d_Mod_undo_44 : decode b_Mod_undo 44 = .ok (.iaload, 1) := by decide +kernel
theorem d_Mod_undo_45 : decode b_Mod_undo 45 = .ok (.invokevirtual 163, 3) := by decide +kernel
theorem d_Mod_undo_48 : decode b_Mod_undo 48 = .ok (.istore 4, 2) := by decide +kernel
theorem d_Mod_undo_50 : decode b_Mod_undo 50 = .ok (.aload_n 0, 1) := by decide +kernel
theorem d_Mod_undo_51 : decode b_Mod_undo 51 = .ok (.iload_n 3, 1) := by decide +kernel
theorem d_Mod_undo_52 : decode b_Mod_undo 52 = .ok (.iload 4, 2) := by decide +kernel
theorem d_Mod_undo_54 : decode b_Mod_undo 54 = .ok (.if_icmp .ge 7, 3) := by decide +kernel
theorem d_Mod_undo_57 : decode b_Mod_undo 57 = .ok (.iload_n 3, 1) := by decide +kernel
theorem d_Mod_undo_58 : decode b_Mod_undo 58 = .ok (.goto 5, 3) := by decide +kernel
theorem d_Mod_undo_61 : decode b_Mod_undo 61 = .ok (.iload 4, 2) := by decide +kernel
theorem d_Mod_undo_63 : decode b_Mod_undo 63 = .ok (.invokevirtual 179, 3) := by decide +kernel
theorem d_Mod_undo_66 : decode b_Mod_undo 66 = .ok (.iload_n 2, 1) := by decide +kernel
theorem d_Mod_undo_67 : decode b_Mod_undo 67 = .ok (.iconst 2, 1) := by decide +kernel
theorem d_Mod_undo_68 : decode b_Mod_undo 68 = .ok (.if_icmp .ne 23, 3) := by decide +kernel
theorem d_Mod_undo_71 : decode b_Mod_undo 71 = .ok (.aload_n 0, 1) := by decide +kernel
theorem d_Mod_undo_72 : decode b_Mod_undo 72 = .ok (.iload_n 3, 1) := by decide +kernel
theorem d_Mod_undo_73 : decode b_Mod_undo 73 = .ok (.iload 4, 2) := by decide +kernel
theorem d_Mod_undo_75 : decode b_Mod_undo 75 = .ok (.if_icmp .ge 10, 3) := by decide +kernel
theorem d_Mod_undo_78 : decode b_Mod_undo 78 = .ok (.iload 4, 2) := by decide +kernel
theorem d_Mod_undo_80 : decode b_Mod_undo 80 = .ok (.iconst 1, 1) := by decide +kernel
theorem d_Mod_undo_81 : decode b_Mod_undo 81 = .ok (.isub, 1) := by decide +kernel
theorem d_Mod_undo_82 : decode b_Mod_undo 82 = .ok (.goto 6, 3) := by decide +kernel
theorem d_Mod_undo_85 : decode b_Mod_undo 85 = .ok (.iload_n 3, 1) := by decide +kernel
theorem d_Mod_undo_86 : decode b_Mod_undo 86 = .ok (.iconst 1, 1) := by decide +kernel
theorem d_Mod_undo_87 : decode b_Mod_undo 87 = .ok (.isub, 1) := by decide +kernel
theorem d_Mod_undo_88 : decode b_Mod_undo 88 = .ok (.invokevirtual 179, 3) := by decide +kernel
theorem d_Mod_undo_91 : decode b_Mod_undo 91 = .ok (.iload_n 2, 1) := by decide +kernel
theorem d_Mod_undo_92 : decode b_Mod_undo 92 = .ok (.ireturn, 1) := by decide +kernel
theorem d_Mod_simplify_0 : decode b_Mod_simplify 0 = .ok (.iconst 0, 1) := by decide +kernel
theorem d_Mod_simplify_1 : decode b_Mod_simplify 1 = .ok (.istore_n 1, 1) := by decide +kernel
theorem d_Mod_simplify_2 : decode b_Mod_simplify 2 = .ok (.iconst 0, 1) := by decide +kernel
theorem d_Mod_simplify_3 : decode b_Mod_simplify 3 = .ok (.istore_n 2, 1) := by decide +kernel
theorem d_Mod_simplify_4 : decode b_Mod_simplify 4 = .ok (.iload_n 2, 1) := by decide +kernel
theorem d_Mod_simplify_5 : decode b_Mod_simplify 5 = .ok (.aload_n 0, 1) := by decide +kernel
theorem d_Mod_simplify_6 : decode b_Mod_simplify 6 = .ok (.invokevirtual 142, 3) := by decide +kernel
theorem d_Mod_simplify_9 : decode b_Mod_simplify 9 = .ok (.if_icmp .ge 28, 3) := by decide +kernel
theorem d_Mod_simplify_12 : decode b_Mod_simplify 12 = .ok (.aload_n 0, 1) := by decide +kernel
theorem d_Mod_simplify_13 : decode b_Mod_simplify 13 = .ok (.iload_n 2, 1) := by decide +kernel
theorem d_Mod_simplify_14 : decode b_Mod_simplify 14 = .ok (.invokevirtual 183, 3) := by decide +kernel
theorem d_Mod_simplify_17 : decode b_Mod_simplify 17 = .ok (.istore_n 3, 1) := by decide +kernel
theorem d_Mod_simplify_18 : decode b_Mod_simplify 18 = .ok (.iload_n 1, 1) := by decide +kernel
theorem d_Mod_simplify_19 : decode b_Mod_simplify 19 = .ok (.iload_n 3, 1) := by decide +kernel
theorem d_Mod_simplify_20 : decode b_Mod_simplify 20 = .ok (.iadd, 1) := by decide +kernel
theorem d_Mod_simplify_21 : decode b_Mod_simplify 21 = .ok (.istore_n 1, 1) := by decide +kernel
theorem d_Mod_simplify_22 : decode b_Mod_simplify 22 = .ok (.iload_n 3, 1) := by decide +kernel
theorem d_Mod_simplify_23 : decode b_Mod_simplify 23 = .ok (.ifCond .le 7, 3) := by decide +kernel
theorem d_Mod_simplify_26 : decode b_Mod_simplify 26 = .ok (.iconst 0, 1) := by decide +kernel
theorem d_Mod_simplify_27 : decode b_Mod_simplify 27 = .ok (.goto 6, 3) := by decide +kernel
theorem d_Mod_simplify_30 : decode b_Mod_simplify 30 = .ok (.iload_n 2, 1) := by decide +kernel
theorem d_Mod_simplify_31 : decode b_Mod_simplify 31 = .ok (.iconst 1, 1) := by decide +kernel
theorem d_Mod_simplify_32 : decode b_Mod_simplify 32 = .ok (.iadd, 1) := by decide +kernel
theorem d_Mod_simplify_33 : decode b_Mod_simplify 33 = .ok (.istore_n 2, 1) := by decide +kernel
theorem d_Mod_simplify_34 : decode b_Mod_simplify 34 = .ok (.goto (-30), 3) := by decide +kernel
theorem d_Mod_simplify_37 : decode b_Mod_simplify 37 = .ok (.iload_n 1, 1) := by decide +kernel
theorem d_Mod_simplify_38 : decode b_Mod_simplify 38 = .ok (.ireturn, 1) := by decide +kernel
theorem d_Mod_slide_0 : decode b_Mod_slide 0 = .ok (.aload_n 0, 1) := by decide +kernel
theorem d_Mod_slide_1 : decode b_Mod_slide 1 = .ok (.iload_n 1, 1) := by decide +kernel
theorem d_Mod_slide_2 : decode b_Mod_slide 2 = .ok (.invokevirtual 176, 3) := by decide +kernel
theorem d_Mod_slide_5 : decode b_Mod_slide 5 = .ok (.iconst 3, 1) := by decide +kernel
theorem d_Mod_slide_6 : decode b_Mod_slide 6 = .ok (.if_icmp .eq 5, 3) := by decide +kernel
theorem d_Mod_slide_9 : decode b_Mod_slide 9 = .ok (.iconst 0, 1) := by decide +kernel
theorem d_Mod_slide_10 : decode b_Mod_slide 10 = .ok (.ireturn, 1) := by decide +kernel
theorem d_Mod_slide_11 : decode b_Mod_slide 11 = .ok (.iconst 0, 1) := by decide +kernel
theorem d_Mod_slide_12 : decode b_Mod_slide 12 = .ok (.istore_n 2, 1) := by decide +kernel
theorem d_Mod_slide_13 : decode b_Mod_slide 13 = .ok (.iload_n 2, 1) := by decide +kernel
theorem d_Mod_slide_14 : decode b_Mod_slide 14 = .ok (.iconst 4, 1) := by decide +kernel
theorem d_Mod_slide_15 : decode b_Mod_slide 15 = .ok (.aload_n 0, 1) := by decide +kernel
theorem d_Mod_slide_16 : decode b_Mod_slide 16 = .ok (.getfield 59, 3) := by decide +kernel
theorem d_Mod_slide_19 : decode b_Mod_slide 19 = .ok (.imul, 1) := by decide +kernel
theorem d_Mod_slide_20 : decode b_Mod_slide 20 = .ok (.if_icmp .ge 21, 3) := by decide +kernel
theorem d_Mod_slide_23 : decode b_Mod_slide 23 = .ok (.aload_n 0, 1) := by decide +kernel
theorem d_Mod_slide_24 : decode b_Mod_slide 24 = .ok (.getfield 35, 3) := by decide +kernel
theorem d_Mod_slide_27 : decode b_Mod_slide 27 = .ok (.iload_n 2, 1) := by decide +kernel
theorem d_Mod_slide_28 : decode b_Mod_slide 28 = .ok (.aload_n 0, 1) := by decide +kernel
theorem d_Mod_slide_29 : decode b_Mod_slide 29 = .ok (.getfield 23, 3) := by decide +kernel
theorem d_Mod_slide_32 : decode b_Mod_slide 32 = .ok (.iload_n 2, 1) := by decide +kernel
theorem d_Mod_slide_33 : decode b_Mod_slide 33 = .ok (.iaload, 1) := by decide +kernel
theorem d_Mod_slide_34 : decode b_Mod_slide 34 = .ok (.iastore, 1) := by decide +kernel
theorem d_Mod_slide_35 : decode b_Mod_slide 35 = .ok (.iinc 2 1, 3) := by decide +kernel
theorem d_Mod_slide_38 : decode b_Mod_slide 38 = .ok (.goto (-25), 3) := by decide +kernel
theorem d_Mod_slide_41 : decode b_Mod_slide 41 = .ok (.iconst 0, 1) := by decide +kernel
theorem d_Mod_slide_42 : decode b_Mod_slide 42 = .ok (.istore_n 2, 1) := by decide +kernel
theorem d_Mod_slide_43 : decode b_Mod_slide 43 = .ok (.iload_n 2, 1) := by decide +kernel
theorem d_Mod_slide_44 : decode b_Mod_slide 44 = .ok (.iconst 3, 1) := by decide +kernel
theorem d_Mod_slide_45 : decode b_Mod_slide 45 = .ok (.if_icmp .ge 98, 3) := by decide +kernel
theorem d_Mod_slide_48 : decode b_Mod_slide 48 = .ok (.aload_n 0, 1) := by decide +kernel
theorem d_Mod_slide_49 : decode b_Mod_slide 49 = .ok (.getfield 47, 3) := by decide +kernel
theorem d_Mod_slide_52 : decode b_Mod_slide 52 = .ok (.iload_n 2, 1) := by decide +kernel
theorem d_Mod_slide_53 : decode b_Mod_slide 53 = .ok (.iaload, 1) := by decide +kernel
theorem d_Mod_slide_54 : decode b_Mod_slide 54 = .ok (.iconst 2, 1) := by decide +kernel
theorem d_Mod_slide_55 : decode b_Mod_slide 55 = .ok (.idiv, 1) := by decide +kernel
theorem d_Mod_slide_56 : decode b_Mod_slide 56 = .ok (.istore_n 3, 1) := by decide +kernel
theorem d_Mod_slide_57 : decode b_Mod_slide 57 = .ok (.aload_n 0, 1) := by decide +kernel
theorem d_Mod_slide_58 : decode b_Mod_slide 58 = .ok (.iload_n 3, 1) := by decide +kernel
theorem d_Mod_slide_59 : decode b_Mod_slide 59 = .ok (.iconst 1, 1) := by decide +kernel
theorem d_Mod_slide_60 : decode b_Mod_slide 60 = .ok (.invokevirtual 66, 3) := by decide +kernel
theorem d_Mod_slide_63 : decode b_Mod_slide 63 = .ok (.istore 4, 2) := by decide +kernel
theorem d_Mod_slide_65 : decode b_Mod_slide 65 = .ok (.aload_n 0, 1) := by decide +kernel
theorem d_Mod_slide_66 : decode b_Mod_slide 66 = .ok (.iload_n 3, 1) := by decide +kernel
theorem d_Mod_slide_67 : decode b_Mod_slide 67 = .ok (.iconst 0, 1) := by decide +kernel
theorem d_Mod_slide_68 : decode b_Mod_slide 68 = .ok (.invokevirtual 66, 3) := by decide +kernel
theorem d_Mod_slide_71 : decode b_Mod_slide 71 = .ok (.istore 5, 2) := by decide +kernel
theorem d_Mod_slide_73 : decode b_Mod_slide 73 = .ok (.aload_n 0, 1) := by decide +kernel
theorem d_Mod_slide_74 : decode b_Mod_slide 74 = .ok (.getfield 23, 3) := by decide +kernel
theorem d_Mod_slide_77 : decode b_Mod_slide 77 = .ok (.iload 4, 2) := by decide +kernel
theorem d_Mod_slide_79 : decode b_Mod_slide 79 = .ok (.invokestatic 70, 3) := by decide +kernel
theorem d_Mod_slide_82 : decode b_Mod_slide 82 = .ok (.iaload, 1) := by decide +kernel
theorem d_Mod_slide_83 : decode b_Mod_slide 83 = .ok (.istore 6, 2) := by decide +kernel
theorem d_Mod_slide_85 : decode b_Mod_slide 85 = .ok (.aload_n 0, 1) := by decide +kernel
theorem d_Mod_slide_86 : decode b_Mod_slide 86 = .ok (.getfield 23, 3) := by decide +kernel
theorem d_Mod_slide_89 : decode b_Mod_slide 89 = .ok (.iload 5, 2) := by decide +kernel
theorem d_Mod_slide_91 : decode b_Mod_slide 91 = .ok (.invokestatic 70, 3) := by decide +kernel
theorem d_Mod_slide_94 : decode b_Mod_slide 94 = .ok (.iaload, 1) := by decide +kernel
theorem d_Mod_slide_95 : decode b_Mod_slide 95 = .ok (.istore 7, 2) := by decide +kernel
theorem d_Mod_slide_97 : decode b_Mod_slide 97 = .ok (.aload_n 0, 1) := by decide +kernel
theorem d_Mod_slide_98 : decode b_Mod_slide 98 = .ok (.getfield 35, 3) := by decide +kernel
theorem d_Mod_slide_101 : decode b_Mod_slide 101 = .ok (.iload 4, 2) := by decide +kernel
theorem d_Mod_slide_103 : decode b_Mod_slide 103 = .ok (.invokestatic 70, 3) := by decide +kernel
theorem d_Mod_slide_106 : decode b_Mod_slide 106 = .ok (.iload_n 3, 1) := by decide +kernel
theorem d_Mod_slide_107 : decode b_Mod_slide 107 = .ok (.iastore, 1) := by decide +kernel
theorem d_Mod_slide_108 : decode b_Mod_slide 108 = .ok (.aload_n 0, 1) := by decide +kernel
theorem d_Mod_slide_109 : decode b_Mod_slide 109 = .ok (.getfield 35, 3) := by decide +kernel
theorem d_Mod_slide_112 : decode b_Mod_slide 112 = .ok (.iload 4, 2) := by decide +kernel
theorem d_Mod_slide_114 : decode b_Mod_slide 114 = .ok (.iload 7, 2) := by decide +kernel
theorem d_Mod_slide_116 : decode b_Mod_slide 116 = .ok (.iastore, 1) := by decide +kernel
theorem d_Mod_slide_117 : decode b_Mod_slide 117 = .ok (.aload_n 0, 1) := by decide +kernel
theorem d_Mod_slide_118 : decode b_Mod_slide 118 = .ok (.getfield 35, 3) := by decide +kernel
theorem d_Mod_slide_121 : decode b_Mod_slide 121 = .ok (.iload 5, 2) := by decide +kernel
theorem d_Mod_slide_123 : decode b_Mod_slide 123 = .ok (.iload 6, 2) := by decide +kernel
theorem d_Mod_slide_125 : decode b_Mod_slide 125 = .ok (.iastore, 1) := by decide +kernel
theorem d_Mod_slide_126 : decode b_Mod_slide 126 = .ok (.aload_n 0, 1) := by decide +kernel
theorem d_Mod_slide_127 : decode b_Mod_slide 127 = .ok (.getfield 35, 3) := by decide +kernel
theorem d_Mod_slide_130 : decode b_Mod_slide 130 = .ok (.iload 5, 2) := by decide +kernel
theorem d_Mod_slide_132 : decode b_Mod_slide 132 = .ok (.invokestatic 70, 3) := by decide +kernel
theorem d_Mod_slide_135 : decode b_Mod_slide 135 = .ok (.iload_n 3, 1) := by decide +kernel
theorem d_Mod_slide_136 : decode b_Mod_slide 136 = .ok (.iastore, 1) := by decide +kernel
theorem d_Mod_slide_137 : decode b_Mod_slide 137 = .ok (.iinc 2 1, 3) := by decide +kernel
theorem d_Mod_slide_140 : decode b_Mod_slide 140 = .ok (.goto (-97), 3) := by decide +kernel
theorem d_Mod_slide_143 : decode b_Mod_slide 143 = .ok (.iconst 0, 1) := by decide +kernel
theorem d_Mod_slide_144 : decode b_Mod_slide 144 = .ok (.istore_n 2, 1) := by decide +kernel
theorem d_Mod_slide_145 : decode b_Mod_slide 145 = .ok (.iload_n 2, 1) := by decide +kernel
theorem d_Mod_slide_146 : decode b_Mod_slide 146 = .ok (.iconst 4, 1) := by decide +kernel
theorem d_Mod_slide_147 : decode b_Mod_slide 147 = .ok (.aload_n 0, 1) := by decide +kernel
theorem d_Mod_slide_148 : decode b_Mod_slide 148 = .ok (.getfield 59, 3) := by decide +kernel
theorem d_Mod_slide_151 : decode b_Mod_slide 151 = .ok (.imul, 1) := by decide +kernel
theorem d_Mod_slide_152 : decode b_Mod_slide 152 = .ok (.if_icmp .ge 21, 3) := by decide +kernel
theorem d_Mod_slide_155 : decode b_Mod_slide 155 = .ok (.aload_n 0, 1) := by decide +kernel
theorem d_Mod_slide_156 : decode b_Mod_slide 156 = .ok (.getfield 23, 3) := by decide +kernel
theorem d_Mod_slide_159 : decode b_Mod_slide 159 = .ok (.iload_n 2, 1) := by decide +kernel
theorem d_Mod_slide_160 : decode b_Mod_slide 160 = .ok (.aload_n 0, 1) := by decide +kernel
theorem d_Mod_slide_161 : decode b_Mod_slide 161 = .ok (.getfield 35, 3) := by decide +kernel
theorem d_Mod_slide_164 : decode b_Mod_slide 164 = .ok (.iload_n 2, 1) := by decide +kernel
theorem d_Mod_slide_165 : decode b_Mod_slide 165 = .ok (.iaload, 1) := by decide +kernel
theorem d_Mod_slide_166 : decode b_Mod_slide 166 = .ok (.iastore, 1) := by decide +kernel
theorem d_Mod_slide_167 : decode b_Mod_slide 167 = .ok (.iinc 2 1, 3) := by decide +kernel
theorem d_Mod_slide_170 : decode b_Mod_slide 170 = .ok (.goto (-25), 3) := by decide +kernel
theorem d_Mod_slide_173 : decode b_Mod_slide 173 = .ok (.iconst 1, 1) := by decide +kernel
theorem d_Mod_slide_174 : decode b_Mod_slide 174 = .ok (.ireturn, 1) := by decide +kernel
theorem d_Mod_add_0 : decode b_Mod_add 0 = .ok (.aload_n 0, 1) := by decide +kernel
theorem d_Mod_add_1 : decode b_Mod_add 1 = .ok (.getfield 20, 3) := by decide +kernel
theorem d_Mod_add_4 : decode b_Mod_add 4 = .ok (.aload_n 0, 1) := by decide +kernel
theorem d_Mod_add_5 : decode b_Mod_add 5 = .ok (.getfield 59, 3) := by decide +kernel
theorem d_Mod_add_8 : decode b_Mod_add 8 = .ok (.iload_n 1, 1) := by decide +kernel
theorem d_Mod_add_9 : decode b_Mod_add 9 = .ok (.iastore, 1) := by decide +kernel
theorem d_Mod_add_10 : decode b_Mod_add 10 = .ok (.aload_n 0, 1) := by decide +kernel
theorem d_Mod_add_11 : decode b_Mod_add 11 = .ok (.getfield 23, 3) := by decide +kernel
theorem d_Mod_add_14 : decode b_Mod_add 14 = .ok (.iconst 4, 1) := by decide +kernel
theorem d_Mod_add_15 : decode b_Mod_add 15 = .ok (.aload_n 0, 1) := by decide +kernel
theorem d_Mod_add_16 : decode b_Mod_add 16 = .ok (.getfield 59, 3) := by decide +kernel
theorem d_Mod_add_19 : decode b_Mod_add 19 = .ok (.imul, 1) := by decide +kernel
theorem d_Mod_add_20 : decode b_Mod_add 20 = .ok (.iload_n 2, 1) := by decide +kernel
theorem d_Mod_add_21 : decode b_Mod_add 21 = .ok (.iastore, 1) := by decide +kernel
theorem d_Mod_add_22 : decode b_Mod_add 22 = .ok (.aload_n 0, 1) := by decide +kernel
theorem d_Mod_add_23 : decode b_Mod_add 23 = .ok (.getfield 23, 3) := by decide +kernel
theorem d_Mod_add_26 : decode b_Mod_add 26 = .ok (.iconst 4, 1) := by decide +kernel
theorem d_Mod_add_27 : decode b_Mod_add 27 = .ok (.aload_n 0, 1) := by decide +kernel
theorem d_Mod_add_28 : decode b_Mod_add 28 = .ok (.getfield 59, 3) := by decide +kernel
theorem d_Mod_add_31 : decode b_Mod_add 31 = .ok (.imul, 1) := by decide +kernel
theorem d_Mod_add_32 : decode b_Mod_add 32 = .ok (.iconst 1, 1) := by decide +kernel
theorem d_Mod_add_33 : decode b_Mod_add 33 = .ok (.iadd, 1) := by decide +kernel
theorem d_Mod_add_34 : decode b_Mod_add 34 = .ok (.iload_n 3, 1) := by decide +kernel
theorem d_Mod_add_35 : decode b_Mod_add 35 = .ok (.iastore, 1) := by decide +kernel
theorem d_Mod_add_36 : decode b_Mod_add 36 = .ok (.aload_n 0, 1) := by decide +kernel
theorem d_Mod_add_37 : decode b_Mod_add 37 = .ok (.getfield 23, 3) := by decide +kernel
theorem d_Mod_add_40 : decode b_Mod_add 40 = .ok (.iconst 4, 1) := by decide +kernel
theorem d_Mod_add_41 : decode b_Mod_add 41 = .ok (.aload_n 0, 1) := by decide +kernel
theorem d_Mod_add_42 : decode b_Mod_add 42 = .ok (.getfield 59, 3) := by decide +kernel
theorem d_Mod_add_45 : decode b_Mod_add 45 = .ok (.imul, 1) := by decide +kernel
theorem d_Mod_add_46 : decode b_Mod_add 46 = .ok (.iconst 2, 1) := by decide +kernel
theorem d_Mod_add_47 : decode b_Mod_add 47 = .ok (.iadd, 1) := by decide +kernel
theorem d_Mod_add_48 : decode b_Mod_add 48 = .ok (.iload 4, 2) := by decide +kernel
theorem d_Mod_add_50 : decode b_Mod_add 50 = .ok (.iastore, 1) := by decide +kernel
theorem d_Mod_add_51 : decode b_Mod_add 51 = .ok (.aload_n 0, 1) := by decide +kernel
theorem d_Mod_add_52 : decode b_Mod_add 52 = .ok (.getfield 23, 3) := by decide +kernel
theorem d_Mod_add_55 : decode b_Mod_add 55 = .ok (.iconst 4, 1) := by decide +kernel
theorem d_Mod_add_56 : decode b_Mod_add 56 = .ok (.aload_n 0, 1) := by decide +kernel
theorem d_Mod_add_57 : decode b_Mod_add 57 = .ok (.getfield 59, 3) := by decide +kernel
theorem d_Mod_add_60 : decode b_Mod_add 60 = .ok (.imul, 1) := by decide +kernel
theorem d_Mod_add_61 : decode b_Mod_add 61 = .ok (.iconst 3, 1) := by decide +kernel
theorem d_Mod_add_62 : decode b_Mod_add 62 = .ok (.iadd, 1) := by decide +kernel
theorem d_Mod_add_63 : decode b_Mod_add 63 = .ok (.iload 5, 2) := by decide +kernel
theorem d_Mod_add_65 : decode b_Mod_add 65 = .ok (.iastore, 1) := by decide +kernel
theorem d_Mod_add_66 : decode b_Mod_add 66 = .ok (.aload_n 0, 1) := by decide +kernel
theorem d_Mod_add_67 : decode b_Mod_add 67 = .ok (.dup, 1) := by decide +kernel
theorem d_Mod_add_68 : decode b_Mod_add 68 = .ok (.getfield 59, 3) := by decide +kernel
theorem d_Mod_add_71 : decode b_Mod_add 71 = .ok (.iconst 1, 1) := by decide +kernel
theorem d_Mod_add_72 : decode b_Mod_add 72 = .ok (.iadd, 1) := by decide +kernel
theorem d_Mod_add_73 : decode b_Mod_add 73 = .ok (.putfield 59, 3) := by decide +kernel
theorem d_Mod_add_76 : decode b_Mod_add 76 = .ok (.return_, 1) := by decide +kernel
theorem d_Mod_twist_0 : decode b_Mod_twist 0 = .ok (.iload_n 1, 1) := by decide +kernel
theorem d_Mod_twist_1 : decode b_Mod_twist 1 = .ok (.ifCond .ne 18, 3) := by decide +kernel
theorem d_Mod_twist_4 : decode b_Mod_twist 4 = .ok (.aload_n 0, 1) := by decide +kernel
theorem d_Mod_twist_5 : decode b_Mod_twist 5 = .ok (.getfield 104, 3) := by decide +kernel
theorem d_Mod_twist_8 : decode b_Mod_twist 8 = .ok (.ifCond .le 7, 3) := by decide +kernel
theorem d_Mod_twist_11 : decode b_Mod_twist 11 = .ok (.iconst 1, 1) := by decide +kernel
theorem d_Mod_twist_12 : decode b_Mod_twist 12 = .ok (.goto 25, 3) := by decide +kernel
theorem d_Mod_twist_15 : decode b_Mod_twist 15 = .ok (.iconst 0, 1) := by decide +kernel
theorem d_Mod_twist_16 : decode b_Mod_twist 16 = .ok (.goto 21, 3) := by decide +kernel
theorem d_Mod_twist_19 : decode b_Mod_twist 19 = .ok (.iload_n 1, 1) := by decide +kernel
theorem d_Mod_twist_20 : decode b_Mod_twist 20 = .ok (.ifCond .le 16, 3) := by decide +kernel
theorem d_Mod_twist_23 : decode b_Mod_twist 23 = .ok (.aload_n 0, 1) := by decide +kernel
theorem d_Mod_twist_24 : decode b_Mod_twist 24 = .ok (.iload_n 1, 1) := by decide +kernel
theorem d_Mod_twist_25 : decode b_Mod_twist 25 = .ok (.iconst 1, 1) := by decide +kernel
theorem d_Mod_twist_26 : decode b_Mod_twist 26 = .ok (.invokevirtual 66, 3) := by decide +kernel
theorem d_Mod_twist_29 : decode b_Mod_twist 29 = .ok (.ifCond .lt 7, 3) := by decide +kernel
theorem d_Mod_twist_32 : decode b_Mod_twist 32 = .ok (.iconst 1, 1) := by decide +kernel
theorem d_Mod_twist_33 : decode b_Mod_twist 33 = .ok (.goto 4, 3) := by decide +kernel
theorem d_Mod_twist_36 : decode b_Mod_twist 36 = .ok (.iconst 0, 1) := by decide +kernel
theorem d_Mod_twist_37 : decode b_Mod_twist 37 = .ok (.istore 4, 2) := by decide +kernel
theorem d_Mod_twist_39 : decode b_Mod_twist 39 = .ok (.iload 4, 2) := by decide +kernel
theorem d_Mod_twist_41 : decode b_Mod_twist 41 = .ok (.ifCond .eq 22, 3) := by decide +kernel
theorem d_Mod_twist_44 : decode b_Mod_twist 44 = .ok (.iload_n 2, 1) := by decide +kernel
theorem d_Mod_twist_45 : decode b_Mod_twist 45 = .ok (.iconst 1, 1) := by decide +kernel
theorem d_Mod_twist_46 : decode b_Mod_twist 46 = .ok (.if_icmp .eq 8, 3) := by decide +kernel
theorem d_Mod_twist_49 : decode b_Mod_twist 49 = .ok (.iload_n 2, 1) := by decide +kernel
theorem d_Mod_twist_50 : decode b_Mod_twist 50 = .ok (.iconst (-1), 1) := by decide +kernel
theorem d_Mod_twist_51 : decode b_Mod_twist 51 = .ok (.if_icmp .ne 12, 3) := by decide +kernel
theorem d_Mod_twist_54 : decode b_Mod_twist 54 = .ok (.aload_n 0, 1) := by decide +kernel
theorem d_Mod_twist_55 : decode b_Mod_twist 55 = .ok (.getfield 59, 3) := by decide +kernel
theorem d_Mod_twist_58 : decode b_Mod_twist 58 = .ok (.bipush 20, 2) := by decide +kernel
theorem d_Mod_twist_60 : decode b_Mod_twist 60 = .ok (.if_icmp .ne 5, 3) := by decide +kernel
theorem d_Mod_twist_63 : decode b_Mod_twist 63 = .ok (.iconst 0, 1) := by decide +kernel
theorem d_Mod_twist_64 : decode b_Mod_twist 64 = .ok (.ireturn, 1) := by decide +kernel
theorem d_Mod_twist_65 : decode b_Mod_twist 65 = .ok (.aload_n 0, 1) := by decide +kernel
theorem d_Mod_twist_66 : decode b_Mod_twist 66 = .ok (.invokevirtual 136, 3) := by decide +kernel
theorem d_Mod_twist_69 : decode b_Mod_twist 69 = .ok (.aload_n 0, 1) := by decide +kernel
theorem d_Mod_twist_70 : decode b_Mod_twist 70 = .ok (.getfield 50, 3) := by decide +kernel
theorem d_Mod_twist_73 : decode b_Mod_twist 73 = .ok (.iconst 0, 1) := by decide +kernel
theorem d_Mod_twist_74 : decode b_Mod_twist 74 = .ok (.iaload, 1) := by decide +kernel
theorem d_Mod_twist_75 : decode b_Mod_twist 75 = .ok (.istore 5, 2) := by decide +kernel
theorem d_Mod_twist_77 : decode b_Mod_twist 77 = .ok (.aload_n 0, 1) := by decide +kernel
theorem d_Mod_twist_78 : decode b_Mod_twist 78 = .ok (.getfield 50, 3) := by decide +kernel
theorem d_Mod_twist_81 : decode b_Mod_twist 81 = .ok (.iconst 1, 1) := by decide +kernel
theorem d_Mod_twist_82 : decode b_Mod_twist 82 = .ok (.iaload, 1) := by decide +kernel
theorem d_Mod_twist_83 : decode b_Mod_twist 83 = .ok (.istore 6, 2) := by decide +kernel
theorem d_Mod_twist_85 : decode b_Mod_twist 85 = .ok (.iload_n 1, 1) := by decide +kernel
theorem d_Mod_twist_86 : decode b_Mod_twist 86 = .ok (.ifCond .ne 8, 3) := by decide +kernel
theorem d_Mod_twist_89 : decode b_Mod_twist 89 = .ok (.iload 6, 2) := by decide +kernel
theorem d_Mod_twist_91 : decode b_Mod_twist 91 = .ok (.goto 4, 3) := by decide +kernel
theorem d_Mod_twist_94 : decode b_Mod_twist 94 = .ok (.iload_n 1, 1) := by decide +kernel
theorem d_Mod_twist_95 : decode b_Mod_twist 95 = .ok (.istore 7, 2) := by decide +kernel
theorem d_Mod_twist_97 : decode b_Mod_twist 97 = .ok (.iload_n 1, 1) := by decide +kernel
theorem d_Mod_twist_98 : decode b_Mod_twist 98 = .ok (.ifCond .ne 16, 3) := by decide +kernel
theorem d_Mod_twist_101 : decode b_Mod_twist 101 = .ok (.aload_n 0, 1) := by decide +kernel
theorem d_Mod_twist_102 : decode b_Mod_twist 102 = .ok (.dup, 1) := by decide +kernel
theorem d_Mod_twist_103 : decode b_Mod_twist 103 = .ok (.getfield 104, 3) := by decide +kernel
theorem d_Mod_twist_106 : decode b_Mod_twist 106 = .ok (.iconst 1, 1) := by decide +kernel
theorem d_Mod_twist_107 : decode b_Mod_twist 107 = .ok (.isub, 1) := by decide +kernel
theorem d_Mod_twist_108 : decode b_Mod_twist 108 = .ok (.putfield 104, 3) := by decide +kernel
theorem d_Mod_twist_111 : decode b_Mod_twist 111 = .ok (.goto 16, 3) := by decide +kernel
theorem d_Mod_twist_114 : decode b_Mod_twist 114 = .ok (.aload_n 0, 1) := by decide +kernel
theorem d_Mod_twist_115 : decode b_Mod_twist 115 = .ok (.getfield 23, 3) := by decide +kernel
theorem d_Mod_twist_118 : decode b_Mod_twist 118 = .ok (.aload_n 0, 1) := by decide +kernel
theorem d_Mod_twist_119 : decode b_Mod_twist 119 = .ok (.iload_n 1, 1) := by decide +kernel
theorem d_Mod_twist_120 : decode b_Mod_twist 120 = .ok (.iconst 0, 1) := by decide +kernel
theorem d_Mod_twist_121 : decode b_Mod_twist 121 = .ok (.invokevirtual 66, 3) := by decide +kernel
theorem d_Mod_twist_124 : decode b_Mod_twist 124 = .ok (.iload 6, 2) := by decide +kernel
theorem d_Mod_twist_126 : decode b_Mod_twist 126 = .ok (.iastore, 1) := by decide +kernel
theorem d_Mod_twist_127 : decode b_Mod_twist 127 = .ok (.iload_n 3, 1) := by decide +kernel
theorem d_Mod_twist_128 : decode b_Mod_twist 128 = .ok (.ifCond .eq 23, 3) := by decide +kernel
theorem d_Mod_twist_131 : decode b_Mod_twist 131 = .ok (.iload_n 2, 1) := by decide +kernel
theorem d_Mod_twist_132 : decode b_Mod_twist 132 = .ok (.ifCond .le 19, 3) := by decide +kernel
theorem d_Mod_twist_135 : decode b_Mod_twist 135 = .ok (.aload_n 0, 1) := by decide +kernel
theorem d_Mod_twist_136 : decode b_Mod_twist 136 = .ok (.iconst 1, 1) := by decide +kernel
theorem d_Mod_twist_137 : decode b_Mod_twist 137 = .ok (.iload 5, 2) := by decide +kernel
theorem d_Mod_twist_139 : decode b_Mod_twist 139 = .ok (.iload 5, 2) := by decide +kernel
theorem d_Mod_twist_141 : decode b_Mod_twist 141 = .ok (.iload 6, 2) := by decide +kernel
theorem d_Mod_twist_143 : decode b_Mod_twist 143 = .ok (.iload 7, 2) := by decide +kernel
theorem d_Mod_twist_145 : decode b_Mod_twist 145 = .ok (.invokevirtual 186, 3) := by decide +kernel
theorem d_Mod_twist_148 : decode b_Mod_twist 148 = .ok (.goto 56, 3) := by decide +kernel
theorem d_Mod_twist_151 : decode b_Mod_twist 151 = .ok (.iload_n 3, 1) := by decide +kernel
theorem d_Mod_twist_152 : decode b_Mod_twist 152 = .ok (.ifCond .eq 19, 3) := by decide +kernel
theorem d_Mod_twist_155 : decode b_Mod_twist 155 = .ok (.aload_n 0, 1) := by decide +kernel
theorem d_Mod_twist_156 : decode b_Mod_twist 156 = .ok (.iconst (-1), 1) := by decide +kernel
theorem d_Mod_twist_157 : decode b_Mod_twist 157 = .ok (.iload 5, 2) := by decide +kernel
theorem d_Mod_twist_159 : decode b_Mod_twist 159 = .ok (.iload 7, 2) := by decide +kernel
theorem d_Mod_twist_161 : decode b_Mod_twist 161 = .ok (.iload 6, 2) := by decide +kernel
theorem d_Mod_twist_163 : decode b_Mod_twist 163 = .ok (.iload 5, 2) := by decide +kernel
theorem d_Mod_twist_165 : decode b_Mod_twist 165 = .ok (.invokevirtual 186, 3) := by decide +kernel
theorem d_Mod_twist_168 : decode b_Mod_twist 168 = .ok (.goto 36, 3) := by decide +kernel
theorem d_Mod_twist_171 : decode b_Mod_twist 171 = .ok (.iload_n 2, 1) := by decide +kernel
theorem d_Mod_twist_172 : decode b_Mod_twist 172 = .ok (.ifCond .le 19, 3) := by decide +kernel
theorem d_Mod_twist_175 : decode b_Mod_twist 175 = .ok (.aload_n 0, 1) := by decide +kernel
theorem d_Mod_twist_176 : decode b_Mod_twist 176 = .ok (.iconst 1, 1) := by decide +kernel
theorem d_Mod_twist_177 : decode b_Mod_twist 177 = .ok (.iload 7, 2) := by decide +kernel
theorem d_Mod_twist_179 : decode b_Mod_twist 179 = .ok (.iload 6, 2) := by decide +kernel
theorem d_Mod_twist_181 : decode b_Mod_twist 181 = .ok (.iload 5, 2) := by decide +kernel
theorem d_Mod_twist_183 : decode b_Mod_twist 183 = .ok (.iload 5, 2) := by decide +kernel
theorem d_Mod_twist_185 : decode b_Mod_twist 185 = .ok (.invokevirtual 186, 3) := by decide +kernel
theorem d_Mod_twist_188 : decode b_Mod_twist 188 = .ok (.goto 16, 3) := by decide +kernel
theorem d_Mod_twist_191 : decode b_Mod_twist 191 = .ok (.aload_n 0, 1) := by decide +kernel
theorem d_Mod_twist_192 : decode b_Mod_twist 192 = .ok (.iconst (-1), 1) := by decide +kernel
theorem d_Mod_twist_193 : decode b_Mod_twist 193 = .ok (.iload 7, 2) := by decide +kernel
theorem d_Mod_twist_195 : decode b_Mod_twist 195 = .ok (.iload 5, 2) := by decide +kernel
theorem d_Mod_twist_197 : decode b_Mod_twist 197 = .ok (.iload 5, 2) := by decide +kernel
theorem d_Mod_twist_199 : decode b_Mod_twist 199 = .ok (.iload 6, 2) := by decide +kernel
theorem d_Mod_twist_201 : decode b_Mod_twist 201 = .ok (.invokevirtual 186, 3) := by decide +kernel
theorem d_Mod_twist_204 : decode b_Mod_twist 204 = .ok (.iconst 1, 1) := by decide +kernel
theorem d_Mod_twist_205 : decode b_Mod_twist 205 = .ok (.ireturn, 1) := by decide +kernel
theorem d_Mod_cross_0 : decode b_Mod_cross 0 = .ok (.aload_n 0, 1) := by decide +kernel
theorem d_Mod_cross_1 : decode b_Mod_cross 1 = .ok (.iload_n 1, 1) := by decide +kernel
theorem d_Mod_cross_2 : decode b_Mod_cross 2 = .ok (.iconst 3, 1) := by decide +kernel
theorem d_Mod_cross_3 : decode b_Mod_cross 3 = .ok (.iadd, 1) := by decide +kernel
theorem d_Mod_cross_4 : decode b_Mod_cross 4 = .ok (.iconst 4, 1) := by decide +kernel
theorem d_Mod_cross_5 : decode b_Mod_cross 5 = .ok (.irem, 1) := by decide +kernel
theorem d_Mod_cross_6 : decode b_Mod_cross 6 = .ok (.iload_n 2, 1) := by decide +kernel
theorem d_Mod_cross_7 : decode b_Mod_cross 7 = .ok (.if_icmp .ne 7, 3) := by decide +kernel
theorem d_Mod_cross_10 : decode b_Mod_cross 10 = .ok (.iconst 1, 1) := by decide +kernel
theorem d_Mod_cross_11 : decode b_Mod_cross 11 = .ok (.goto 4, 3) := by decide +kernel
theorem d_Mod_cross_14 : decode b_Mod_cross 14 = .ok (.iconst (-1), 1) := by decide +kernel
theorem d_Mod_cross_15 : decode b_Mod_cross 15 = .ok (.aload_n 0, 1) := by decide +kernel
theorem d_Mod_cross_16 : decode b_Mod_cross 16 = .ok (.getfield 53, 3) := by decide +kernel
theorem d_Mod_cross_19 : decode b_Mod_cross 19 = .ok (.iload_n 1, 1) := by decide +kernel
theorem d_Mod_cross_20 : decode b_Mod_cross 20 = .ok (.iaload, 1) := by decide +kernel
theorem d_Mod_cross_21 : decode b_Mod_cross 21 = .ok (.aload_n 0, 1) := by decide +kernel
theorem d_Mod_cross_22 : decode b_Mod_cross 22 = .ok (.getfield 53, 3) := by decide +kernel
theorem d_Mod_cross_25 : decode b_Mod_cross 25 = .ok (.iload_n 1, 1) := by decide +kernel
theorem d_Mod_cross_26 : decode b_Mod_cross 26 = .ok (.iconst 1, 1) := by decide +kernel
theorem d_Mod_cross_27 : decode b_Mod_cross 27 = .ok (.iadd, 1) := by decide +kernel
theorem d_Mod_cross_28 : decode b_Mod_cross 28 = .ok (.iconst 4, 1) := by decide +kernel
theorem d_Mod_cross_29 : decode b_Mod_cross 29 = .ok (.irem, 1) := by decide +kernel
theorem d_Mod_cross_30 : decode b_Mod_cross 30 = .ok (.iaload, 1) := by decide +kernel
theorem d_Mod_cross_31 : decode b_Mod_cross 31 = .ok (.aload_n 0, 1) := by decide +kernel
theorem d_Mod_cross_32 : decode b_Mod_cross 32 = .ok (.getfield 53, 3) := by decide +kernel
theorem d_Mod_cross_35 : decode b_Mod_cross 35 = .ok (.iload_n 1, 1) := by decide +kernel
theorem d_Mod_cross_36 : decode b_Mod_cross 36 = .ok (.iconst 2, 1) := by decide +kernel
theorem d_Mod_cross_37 : decode b_Mod_cross 37 = .ok (.iadd, 1) := by decide +kernel
theorem d_Mod_cross_38 : decode b_Mod_cross 38 = .ok (.iconst 4, 1) := by decide +kernel
theorem d_Mod_cross_39 : decode b_Mod_cross 39 = .ok (.irem, 1) := by decide +kernel
theorem d_Mod_cross_40 : decode b_Mod_cross 40 = .ok (.iaload, 1) := by decide +kernel
theorem d_Mod_cross_41 : decode b_Mod_cross 41 = .ok (.aload_n 0, 1) := by decide +kernel
theorem d_Mod_cross_42 : decode b_Mod_cross 42 = .ok (.getfield 53, 3) := by decide +kernel
theorem d_Mod_cross_45 : decode b_Mod_cross 45 = .ok (.iload_n 1, 1) := by decide +kernel
theorem d_Mod_cross_46 : decode b_Mod_cross 46 = .ok (.iconst 3, 1) := by decide +kernel
theorem d_Mod_cross_47 : decode b_Mod_cross 47 = .ok (.iadd, 1) := by decide +kernel
theorem d_Mod_cross_48 : decode b_Mod_cross 48 = .ok (.iconst 4, 1) := by decide +kernel
theorem d_Mod_cross_49 : decode b_Mod_cross 49 = .ok (.irem, 1) := by decide +kernel
theorem d_Mod_cross_50 : decode b_Mod_cross 50 = .ok (.iaload, 1) := by decide +kernel
theorem d_Mod_cross_51 : decode b_Mod_cross 51 = .ok (.invokevirtual 186, 3) := by decide +kernel
theorem d_Mod_cross_54 : decode b_Mod_cross 54 = .ok (.return_, 1) := by decide +kernel
theorem d_Mod_areOne_0 : decode b_Mod_areOne 0 = .ok (.aload_n 0, 1) := by decide +kernel
theorem d_Mod_areOne_1 : decode b_Mod_areOne 1 = .ok (.invokevirtual 110, 3) := by decide +kernel
theorem d_Mod_areOne_4 : decode b_Mod_areOne 4 = .ok (.aload_n 0, 1) := by decide +kernel
theorem d_Mod_areOne_5 : decode b_Mod_areOne 5 = .ok (.getfield 44, 3) := by decide +kernel
theorem d_Mod_areOne_8 : decode b_Mod_areOne 8 = .ok (.iconst 2, 1) := by decide +kernel
theorem d_Mod_areOne_9 : decode b_Mod_areOne 9 = .ok (.aload_n 0, 1) := by decide +kernel
theorem d_Mod_areOne_10 : decode b_Mod_areOne 10 = .ok (.iload_n 1, 1) := by decide +kernel
theorem d_Mod_areOne_11 : decode b_Mod_areOne 11 = .ok (.invokevirtual 92, 3) := by decide +kernel
theorem d_Mod_areOne_14 : decode b_Mod_areOne 14 = .ok (.imul, 1) := by decide +kernel
theorem d_Mod_areOne_15 : decode b_Mod_areOne 15 = .ok (.iload_n 2, 1) := by decide +kernel
theorem d_Mod_areOne_16 : decode b_Mod_areOne 16 = .ok (.iadd, 1) := by decide +kernel
theorem d_Mod_areOne_17 : decode b_Mod_areOne 17 = .ok (.iaload, 1) := by decide +kernel
theorem d_Mod_areOne_18 : decode b_Mod_areOne 18 = .ok (.istore 5, 2) := by decide +kernel
theorem d_Mod_areOne_20 : decode b_Mod_areOne 20 = .ok (.aload_n 0, 1) := by decide +kernel
theorem d_Mod_areOne_21 : decode b_Mod_areOne 21 = .ok (.getfield 44, 3) := by decide +kernel
theorem d_Mod_areOne_24 : decode b_Mod_areOne 24 = .ok (.iconst 2, 1) := by decide +kernel
theorem d_Mod_areOne_25 : decode b_Mod_areOne 25 = .ok (.aload_n 0, 1) := by decide +kernel
theorem d_Mod_areOne_26 : decode b_Mod_areOne 26 = .ok (.iload_n 3, 1) := by decide +kernel
theorem d_Mod_areOne_27 : decode b_Mod_areOne 27 = .ok (.invokevirtual 92, 3) := by decide +kernel
theorem d_Mod_areOne_30 : decode b_Mod_areOne 30 = .ok (.imul, 1) := by decide +kernel
theorem d_Mod_areOne_31 : decode b_Mod_areOne 31 = .ok (.iload 4, 2) := by decide +kernel
theorem d_Mod_areOne_33 : decode b_Mod_areOne 33 = .ok (.iadd, 1) := by decide +kernel
theorem d_Mod_areOne_34 : decode b_Mod_areOne 34 = .ok (.iaload, 1) := by decide +kernel
theorem d_Mod_areOne_35 : decode b_Mod_areOne 35 = .ok (.istore 6, 2) := by decide +kernel
theorem d_Mod_areOne_37 : decode b_Mod_areOne 37 = .ok (.aload_n 0, 1) := by decide +kernel
theorem d_Mod_areOne_38 : decode b_Mod_areOne 38 = .ok (.invokevirtual 86, 3) := by decide +kernel
theorem d_Mod_areOne_41 : decode b_Mod_areOne 41 = .ok (.iload 5, 2) := by decide +kernel
theorem d_Mod_areOne_43 : decode b_Mod_areOne 43 = .ok (.iload 6, 2) := by decide +kernel
theorem d_Mod_areOne_45 : decode b_Mod_areOne 45 = .ok (.if_icmp .eq 32, 3) := by decide +kernel
theorem d_Mod_areOne_48 : decode b_Mod_areOne 48 = .ok (.aload_n 0, 1) := by decide +kernel
theorem d_Mod_areOne_49 : decode b_Mod_areOne 49 = .ok (.getfield 38, 3) := by decide +kernel
theorem d_Mod_areOne_52 : decode b_Mod_areOne 52 = .ok (.aload_n 0, 1) := by decide +kernel
theorem d_Mod_areOne_53 : decode b_Mod_areOne 53 = .ok (.iload_n 1, 1) := by decide +kernel
theorem d_Mod_areOne_54 : decode b_Mod_areOne 54 = .ok (.iconst 1, 1) := by decide +kernel
theorem d_Mod_areOne_55 : decode b_Mod_areOne 55 = .ok (.invokevirtual 66, 3) := by decide +kernel
theorem d_Mod_areOne_58 : decode b_Mod_areOne 58 = .ok (.iconst 4, 1) := by decide +kernel
theorem d_Mod_areOne_59 : decode b_Mod_areOne 59 = .ok (.idiv, 1) := by decide +kernel
theorem d_Mod_areOne_60 : decode b_Mod_areOne 60 = .ok (.iaload, 1) := by decide +kernel
theorem d_Mod_areOne_61 : decode b_Mod_areOne 61 = .ok (.aload_n 0, 1) := by decide +kernel
theorem d_Mod_areOne_62 : decode b_Mod_areOne 62 = .ok (.getfield 38, 3) := by decide +kernel
theorem d_Mod_areOne_65 : decode b_Mod_areOne 65 = .ok (.aload_n 0, 1) := by decide +kernel
theorem d_Mod_areOne_66 : decode b_Mod_areOne 66 = .ok (.iload_n 3, 1) := by decide +kernel
theorem d_Mod_areOne_67 : decode b_Mod_areOne 67 = .ok (.iconst 1, 1) := by decide +kernel
theorem d_Mod_areOne_68 : decode b_Mod_areOne 68 = .ok (.invokevirtual 66, 3) := by decide +kernel
theorem d_Mod_areOne_71 : decode b_Mod_areOne 71 = .ok (.iconst 4, 1) := by decide +kernel
theorem d_Mod_areOne_72 : decode b_Mod_areOne 72 = .ok (.idiv, 1) := by decide +kernel
theorem d_Mod_areOne_73 : decode b_Mod_areOne 73 = .ok (.iaload, 1) := by decide +kernel
theorem d_Mod_areOne_74 : decode b_Mod_areOne 74 = .ok (.if_icmp .eq 7, 3) := by decide +kernel
theorem d_Mod_areOne_77 : decode b_Mod_areOne 77 = .ok (.iconst 1, 1) := by decide +kernel
theorem d_Mod_areOne_78 : decode b_Mod_areOne 78 = .ok (.goto 4, 3) := by decide +kernel
theorem d_Mod_areOne_81 : decode b_Mod_areOne 81 = .ok (.iconst 0, 1) := by decide +kernel
theorem d_Mod_areOne_82 : decode b_Mod_areOne 82 = .ok (.ireturn, 1) := by decide +kernel
theorem d_Mod_push_0 : decode b_Mod_push 0 = .ok (.iload_n 1, 1) := by decide +kernel
theorem d_Mod_push_1 : decode b_Mod_push 1 = .ok (.ifCond .le 34, 3) := by decide +kernel
theorem d_Mod_push_4 : decode b_Mod_push 4 = .ok (.iload_n 3, 1) := by decide +kernel
theorem d_Mod_push_5 : decode b_Mod_push 5 = .ok (.ifCond .le 30, 3) := by decide +kernel
theorem d_Mod_push_8 : decode b_Mod_push 8 = .ok (.iload_n 1, 1) := by decide +kernel
theorem d_Mod_push_9 : decode b_Mod_push 9 = .ok (.iload_n 3, 1) := by decide +kernel
theorem d_Mod_push_10 : decode b_Mod_push 10 = .ok (.if_icmp .eq 25, 3) := by decide +kernel
theorem d_Mod_push_13 : decode b_Mod_push 13 = .ok (.aload_n 0, 1) := by decide +kernel
theorem d_Mod_push_14 : decode b_Mod_push 14 = .ok (.iload_n 1, 1) := by decide +kernel
theorem d_Mod_push_15 : decode b_Mod_push 15 = .ok (.iconst 1, 1) := by decide +kernel
theorem d_Mod_push_16 : decode b_Mod_push 16 = .ok (.invokevirtual 66, 3) := by decide +kernel
theorem d_Mod_push_19 : decode b_Mod_push 19 = .ok (.ifCond .lt 16, 3) := by decide +kernel
theorem d_Mod_push_22 : decode b_Mod_push 22 = .ok (.aload_n 0, 1) := by decide +kernel
theorem d_Mod_push_23 : decode b_Mod_push 23 = .ok (.iload_n 3, 1) := by decide +kernel
theorem d_Mod_push_24 : decode b_Mod_push 24 = .ok (.iconst 1, 1) := by decide +kernel
theorem d_Mod_push_25 : decode b_Mod_push 25 = .ok (.invokevirtual 66, 3) := by decide +kernel
theorem d_Mod_push_28 : decode b_Mod_push 28 = .ok (.ifCond .lt 7, 3) := by decide +kernel
theorem d_Mod_push_31 : decode b_Mod_push 31 = .ok (.iconst 1, 1) := by decide +kernel
theorem d_Mod_push_32 : decode b_Mod_push 32 = .ok (.goto 4, 3) := by decide +kernel
theorem d_Mod_push_35 : decode b_Mod_push 35 = .ok (.iconst 0, 1) := by decide +kernel
theorem d_Mod_push_36 : decode b_Mod_push 36 = .ok (.istore 6, 2) := by decide +kernel
theorem d_Mod_push_38 : decode b_Mod_push 38 = .ok (.iload 6, 2) := by decide +kernel
theorem d_Mod_push_40 : decode b_Mod_push 40 = .ok (.ifCond .eq 40, 3) := by decide +kernel
theorem d_Mod_push_43 : decode b_Mod_push 43 = .ok (.aload_n 0, 1) := by decide +kernel
theorem d_Mod_push_44 : decode b_Mod_push 44 = .ok (.getfield 59, 3) := by decide +kernel
theorem d_Mod_push_47 : decode b_Mod_push 47 = .ok (.bipush 18, 2) := by decide +kernel
theorem d_Mod_push_49 : decode b_Mod_push 49 = .ok (.if_icmp .gt 31, 3) := by decide +kernel
theorem d_Mod_push_52 : decode b_Mod_push 52 = .ok (.aload_n 0, 1) := by decide +kernel
theorem d_Mod_push_53 : decode b_Mod_push 53 = .ok (.iload_n 1, 1) := by decide +kernel
theorem d_Mod_push_54 : decode b_Mod_push 54 = .ok (.iload_n 2, 1) := by decide +kernel
theorem d_Mod_push_55 : decode b_Mod_push 55 = .ok (.ifCond .eq 7, 3) := by decide +kernel
theorem d_Mod_push_58 : decode b_Mod_push 58 = .ok (.iconst 1, 1) := by decide +kernel
theorem d_Mod_push_59 : decode b_Mod_push 59 = .ok (.goto 4, 3) := by decide +kernel
theorem d_Mod_push_62 : decode b_Mod_push 62 = .ok (.iconst 0, 1) := by decide +kernel
theorem d_Mod_push_63 : decode b_Mod_push 63 = .ok (.iload_n 3, 1) := by decide +kernel
theorem d_Mod_push_64 : decode b_Mod_push 64 = .ok (.iload 4, 2) := by decide +kernel
theorem d_Mod_push_66 : decode b_Mod_push 66 = .ok (.ifCond .eq 7, 3) := by decide +kernel
theorem d_Mod_push_69 : decode b_Mod_push 69 = .ok (.iconst 1, 1) := by decide +kernel
theorem d_Mod_push_70 : decode b_Mod_push 70 = .ok (.goto 4, 3) := by decide +kernel
theorem d_Mod_push_73 : decode b_Mod_push 73 = .ok (.iconst 0, 1) := by decide +kernel
theorem d_Mod_push_74 : decode b_Mod_push 74 = .ok (.invokevirtual 190, 3) := by decide +kernel
theorem d_Mod_push_77 : decode b_Mod_push 77 = .ok (.ifCond .ne 5, 3) := by decide +kernel
theorem d_Mod_push_80 : decode b_Mod_push 80 = .ok (.iconst 0, 1) := by decide +kernel
theorem d_Mod_push_81 : decode b_Mod_push 81 = .ok (.ireturn, 1) := by decide +kernel
theorem d_Mod_push_82 : decode b_Mod_push 82 = .ok (.aload_n 0, 1) := by decide +kernel
theorem d_Mod_push_83 : decode b_Mod_push 83 = .ok (.invokevirtual 136, 3) := by decide +kernel
theorem d_Mod_push_86 : decode b_Mod_push 86 = .ok (.aload_n 0, 1) := by decide +kernel
theorem d_Mod_push_87 : decode b_Mod_push 87 = .ok (.iload_n 1, 1) := by decide +kernel
theorem d_Mod_push_88 : decode b_Mod_push 88 = .ok (.iconst 0, 1) := by decide +kernel
theorem d_Mod_push_89 : decode b_Mod_push 89 = .ok (.invokevirtual 66, 3) := by decide +kernel
theorem d_Mod_push_92 : decode b_Mod_push 92 = .ok (.istore 7, 2) := by decide +kernel
theorem d_Mod_push_94 : decode b_Mod_push 94 = .ok (.aload_n 0, 1) := by decide +kernel
theorem d_Mod_push_95 : decode b_Mod_push 95 = .ok (.iload_n 3, 1) := by decide +kernel
theorem d_Mod_push_96 : decode b_Mod_push 96 = .ok (.iconst 0, 1) := by decide +kernel
theorem d_Mod_push_97 : decode b_Mod_push 97 = .ok (.invokevirtual 66, 3) := by decide +kernel
theorem d_Mod_push_100 : decode b_Mod_push 100 = .ok (.istore 8, 2) := by decide +kernel
theorem d_Mod_push_102 : decode b_Mod_push 102 = .ok (.aload_n 0, 1) := by decide +kernel
theorem d_Mod_push_103 : decode b_Mod_push 103 = .ok (.getfield 23, 3) := by decide +kernel
theorem d_Mod_push_106 : decode b_Mod_push 106 = .ok (.iload 7, 2) := by decide +kernel
theorem d_Mod_push_108 : decode b_Mod_push 108 = .ok (.aload_n 0, 1) := by decide +kernel
theorem d_Mod_push_109 : decode b_Mod_push 109 = .ok (.getfield 50, 3) := by decide +kernel
theorem d_Mod_push_112 : decode b_Mod_push 112 = .ok (.iconst 1, 1) := by decide +kernel
theorem d_Mod_push_113 : decode b_Mod_push 113 = .ok (.iaload, 1) := by decide +kernel
theorem d_Mod_push_114 : decode b_Mod_push 114 = .ok (.iastore, 1) := by decide +kernel
theorem d_Mod_push_115 : decode b_Mod_push 115 = .ok (.aload_n 0, 1) := by decide +kernel
theorem d_Mod_push_116 : decode b_Mod_push 116 = .ok (.getfield 23, 3) := by decide +kernel
theorem d_Mod_push_119 : decode b_Mod_push 119 = .ok (.iload 8, 2) := by decide +kernel
theorem d_Mod_push_121 : decode b_Mod_push 121 = .ok (.aload_n 0, 1) := by decide +kernel
theorem d_Mod_push_122 : decode b_Mod_push 122 = .ok (.getfield 50, 3) := by decide +kernel
theorem d_Mod_push_125 : decode b_Mod_push 125 = .ok (.iconst 3, 1) := by decide +kernel
theorem d_Mod_push_126 : decode b_Mod_push 126 = .ok (.iaload, 1) := by decide +kernel
theorem d_Mod_push_127 : decode b_Mod_push 127 = .ok (.iastore, 1) := by decide +kernel
theorem d_Mod_push_128 : decode b_Mod_push 128 = .ok (.aload_n 0, 1) := by decide +kernel
theorem d_Mod_push_129 : decode b_Mod_push 129 = .ok (.getfield 53, 3) := by decide +kernel
theorem d_Mod_push_132 : decode b_Mod_push 132 = .ok (.iconst 0, 1) := by decide +kernel
theorem d_Mod_push_133 : decode b_Mod_push 133 = .ok (.aload_n 0, 1) := by decide +kernel
theorem d_Mod_push_134 : decode b_Mod_push 134 = .ok (.getfield 50, 3) := by decide +kernel
theorem d_Mod_push_137 : decode b_Mod_push 137 = .ok (.iconst 2, 1) := by decide +kernel
theorem d_Mod_push_138 : decode b_Mod_push 138 = .ok (.iaload, 1) := by decide +kernel
theorem d_Mod_push_139 : decode b_Mod_push 139 = .ok (.iastore, 1) := by decide +kernel
theorem d_Mod_push_140 : decode b_Mod_push 140 = .ok (.aload_n 0, 1) := by decide +kernel
theorem d_Mod_push_141 : decode b_Mod_push 141 = .ok (.getfield 53, 3) := by decide +kernel
theorem d_Mod_push_144 : decode b_Mod_push 144 = .ok (.iconst 1, 1) := by decide +kernel
theorem d_Mod_push_145 : decode b_Mod_push 145 = .ok (.aload_n 0, 1) := by decide +kernel
theorem d_Mod_push_146 : decode b_Mod_push 146 = .ok (.getfield 50, 3) := by decide +kernel
theorem d_Mod_push_149 : decode b_Mod_push 149 = .ok (.iconst 0, 1) := by decide +kernel
theorem d_Mod_push_150 : decode b_Mod_push 150 = .ok (.iaload, 1) := by decide +kernel
theorem d_Mod_push_151 : decode b_Mod_push 151 = .ok (.iastore, 1) := by decide +kernel
theorem d_Mod_push_152 : decode b_Mod_push 152 = .ok (.aload_n 0, 1) := by decide +kernel
theorem d_Mod_push_153 : decode b_Mod_push 153 = .ok (.getfield 53, 3) := by decide +kernel
theorem d_Mod_push_156 : decode b_Mod_push 156 = .ok (.iconst 2, 1) := by decide +kernel
theorem d_Mod_push_157 : decode b_Mod_push 157 = .ok (.iload 4, 2) := by decide +kernel
theorem d_Mod_push_159 : decode b_Mod_push 159 = .ok (.ifCond .eq 7, 3) := by decide +kernel
theorem d_Mod_push_162 : decode b_Mod_push 162 = .ok (.iload_n 3, 1) := by decide +kernel
theorem d_Mod_push_163 : decode b_Mod_push 163 = .ok (.goto 9, 3) := by decide +kernel
theorem d_Mod_push_166 : decode b_Mod_push 166 = .ok (.aload_n 0, 1) := by decide +kernel
theorem d_Mod_push_167 : decode b_Mod_push 167 = .ok (.getfield 50, 3) := by decide +kernel
theorem d_Mod_push_170 : decode b_Mod_push 170 = .ok (.iconst 3, 1) := by decide +kernel
theorem d_Mod_push_171 : decode b_Mod_push 171 = .ok (.iaload, 1) := by decide +kernel
theorem d_Mod_push_172 : decode b_Mod_push 172 = .ok (.iastore, 1) := by decide +kernel
theorem d_Mod_push_173 : decode b_Mod_push 173 = .ok (.aload_n 0, 1) := by decide +kernel
theorem d_Mod_push_174 : decode b_Mod_push 174 = .ok (.getfield 53, 3) := by decide +kernel
theorem d_Mod_push_177 : decode b_Mod_push 177 = .ok (.iconst 3, 1) := by decide +kernel
theorem d_Mod_push_178 : decode b_Mod_push 178 = .ok (.iload_n 2, 1) := by decide +kernel
theorem d_Mod_push_179 : decode b_Mod_push 179 = .ok (.ifCond .eq 12, 3) := by decide +kernel
theorem d_Mod_push_182 : decode b_Mod_push 182 = .ok (.aload_n 0, 1) := by decide +kernel
theorem d_Mod_push_183 : decode b_Mod_push 183 = .ok (.getfield 50, 3) := by decide +kernel
theorem d_Mod_push_186 : decode b_Mod_push 186 = .ok (.iconst 1, 1) := by decide +kernel
theorem d_Mod_push_187 : decode b_Mod_push 187 = .ok (.iaload, 1) := by decide +kernel
theorem d_Mod_push_188 : decode b_Mod_push 188 = .ok (.goto 4, 3) := by decide +kernel
theorem d_Mod_push_191 : decode b_Mod_push 191 = .ok (.iload_n 1, 1) := by decide +kernel
theorem d_Mod_push_192 : decode b_Mod_push 192 = .ok (.iastore, 1) := by decide +kernel
theorem d_Mod_push_193 : decode b_Mod_push 193 = .ok (.iload_n 2, 1) := by decide +kernel
theorem d_Mod_push_194 : decode b_Mod_push 194 = .ok (.ifCond .eq 7, 3) := by decide +kernel
theorem d_Mod_push_197 : decode b_Mod_push 197 = .ok (.iconst 1, 1) := by decide +kernel
theorem d_Mod_push_198 : decode b_Mod_push 198 = .ok (.goto 4, 3) := by decide +kernel
theorem d_Mod_push_201 : decode b_Mod_push 201 = .ok (.iconst 3, 1) := by decide +kernel
theorem d_Mod_push_202 : decode b_Mod_push 202 = .ok (.istore 9, 2) := by decide +kernel
theorem d_Mod_push_204 : decode b_Mod_push 204 = .ok (.iload 4, 2) := by decide +kernel
theorem d_Mod_push_206 : decode b_Mod_push 206 = .ok (.ifCond .eq 7, 3) := by decide +kernel
theorem d_Mod_push_209 : decode b_Mod_push 209 = .ok (.iconst 2, 1) := by decide +kernel
theorem d_Mod_push_210 : decode b_Mod_push 210 = .ok (.goto 4, 3) := by decide +kernel
theorem d_Mod_push_213 : decode b_Mod_push 213 = .ok (.iconst 0, 1) := by decide +kernel
theorem d_Mod_push_214 : decode b_Mod_push 214 = .ok (.istore 10, 2) := by decide +kernel
theorem d_Mod_push_216 : decode b_Mod_push 216 = .ok (.aload_n 0, 1) := by decide +kernel
theorem d_Mod_push_217 : decode b_Mod_push 217 = .ok (.iload 5, 2) := by decide +kernel
theorem d_Mod_push_219 : decode b_Mod_push 219 = .ok (.ifCond .eq 8, 3) := by decide +kernel
theorem d_Mod_push_222 : decode b_Mod_push 222 = .ok (.iload 10, 2) := by decide +kernel
theorem d_Mod_push_224 : decode b_Mod_push 224 = .ok (.goto 5, 3) := by decide +kernel
theorem d_Mod_push_227 : decode b_Mod_push 227 = .ok (.iload 9, 2) := by decide +kernel
theorem d_Mod_push_229 : decode b_Mod_push 229 = .ok (.iload 5, 2) := by decide +kernel
theorem d_Mod_push_231 : decode b_Mod_push 231 = .ok (.ifCond .eq 8, 3) := by decide +kernel
theorem d_Mod_push_234 : decode b_Mod_push 234 = .ok (.iload 9, 2) := by decide +kernel
theorem d_Mod_push_236 : decode b_Mod_push 236 = .ok (.goto 5, 3) := by decide +kernel
theorem d_Mod_push_239 : decode b_Mod_push 239 = .ok (.iload 10, 2) := by decide +kernel
theorem d_Mod_push_241 : decode b_Mod_push 241 = .ok (.invokevirtual 194, 3) := by decide +kernel
theorem d_Mod_push_244 : decode b_Mod_push 244 = .ok (.aload_n 0, 1) := by decide +kernel
theorem d_Mod_push_245 : decode b_Mod_push 245 = .ok (.getfield 53, 3) := by decide +kernel
theorem d_Mod_push_248 : decode b_Mod_push 248 = .ok (.iconst 0, 1) := by decide +kernel
theorem d_Mod_push_249 : decode b_Mod_push 249 = .ok (.aload_n 0, 1) := by decide +kernel
theorem d_Mod_push_250 : decode b_Mod_push 250 = .ok (.getfield 50, 3) := by decide +kernel
theorem d_Mod_push_253 : decode b_Mod_push 253 = .ok (.iconst 2, 1) := by decide +kernel
theorem d_Mod_push_254 : decode b_Mod_push 254 = .ok (.iaload, 1) := by decide +kernel
theorem d_Mod_push_255 : decode b_Mod_push 255 = .ok (.iastore, 1) := by decide +kernel
theorem d_Mod_push_256 : decode b_Mod_push 256 = .ok (.aload_n 0, 1) := by decide +kernel
theorem d_Mod_push_257 : decode b_Mod_push 257 = .ok (.getfield 53, 3) := by decide +kernel
theorem d_Mod_push_260 : decode b_Mod_push 260 = .ok (.iconst 1, 1) := by decide +kernel
theorem d_Mod_push_261 : decode b_Mod_push 261 = .ok (.iload_n 2, 1) := by decide +kernel
theorem d_Mod_push_262 : decode b_Mod_push 262 = .ok (.ifCond .eq 7, 3) := by decide +kernel
theorem d_Mod_push_265 : decode b_Mod_push 265 = .ok (.iload_n 1, 1) := by decide +kernel
theorem d_Mod_push_266 : decode b_Mod_push 266 = .ok (.goto 9, 3) := by decide +kernel
theorem d_Mod_push_269 : decode b_Mod_push 269 = .ok (.aload_n 0, 1) := by decide +kernel
theorem d_Mod_push_270 : decode b_Mod_push 270 = .ok (.getfield 50, 3) := by decide +kernel
theorem d_Mod_push_273 : decode b_Mod_push 273 = .ok (.iconst 1, 1) := by decide +kernel
theorem d_Mod_push_274 : decode b_Mod_push 274 = .ok (.iaload, 1) := by decide +kernel
theorem d_Mod_push_275 : decode b_Mod_push 275 = .ok (.iastore, 1) := by decide +kernel
theorem d_Mod_push_276 : decode b_Mod_push 276 = .ok (.aload_n 0, 1) := by decide +kernel
theorem d_Mod_push_277 : decode b_Mod_push 277 = .ok (.getfield 53, 3) := by decide +kernel
theorem d_Mod_push_280 : decode b_Mod_push 280 = .ok (.iconst 2, 1) := by decide +kernel
theorem d_Mod_push_281 : decode b_Mod_push 281 = .ok (.iload 4, 2) := by decide +kernel
theorem d_Mod_push_283 : decode b_Mod_push 283 = .ok (.ifCond .eq 12, 3) := by decide +kernel
theorem d_Mod_push_286 : decode b_Mod_push 286 = .ok (.aload_n 0, 1) := by decide +kernel
theorem d_Mod_push_287 : decode b_Mod_push 287 = .ok (.getfield 50, 3) := by decide +kernel
theorem d_Mod_push_290 : decode b_Mod_push 290 = .ok (.iconst 3, 1) := by decide +kernel
theorem d_Mod_push_291 : decode b_Mod_push 291 = .ok (.iaload, 1) := by decide +kernel
theorem d_Mod_push_292 : decode b_Mod_push 292 = .ok (.goto 4, 3) := by decide +kernel
theorem d_Mod_push_295 : decode b_Mod_push 295 = .ok (.iload_n 3, 1) := by decide +kernel
theorem d_Mod_push_296 : decode b_Mod_push 296 = .ok (.iastore, 1) := by decide +kernel
theorem d_Mod_push_297 : decode b_Mod_push 297 = .ok (.aload_n 0, 1) := by decide +kernel
theorem d_Mod_push_298 : decode b_Mod_push 298 = .ok (.getfield 53, 3) := by decide +kernel
theorem d_Mod_push_301 : decode b_Mod_push 301 = .ok (.iconst 3, 1) := by decide +kernel
theorem d_Mod_push_302 : decode b_Mod_push 302 = .ok (.aload_n 0, 1) := by decide +kernel
theorem d_Mod_push_303 : decode b_Mod_push 303 = .ok (.getfield 50, 3) := by decide +kernel
theorem d_Mod_push_306 : decode b_Mod_push 306 = .ok (.iconst 0, 1) := by decide +kernel
theorem d_Mod_push_307 : decode b_Mod_push 307 = .ok (.iaload, 1) := by decide +kernel
theorem d_Mod_push_308 : decode b_Mod_push 308 = .ok (.iastore, 1) := by decide +kernel
theorem d_Mod_push_309 : decode b_Mod_push 309 = .ok (.iload 4, 2) := by decide +kernel
theorem d_Mod_push_311 : decode b_Mod_push 311 = .ok (.ifCond .eq 7, 3) := by decide +kernel
theorem d_Mod_push_314 : decode b_Mod_push 314 = .ok (.iconst 0, 1) := by decide +kernel
theorem d_Mod_push_315 : decode b_Mod_push 315 = .ok (.goto 4, 3) := by decide +kernel
theorem d_Mod_push_318 : decode b_Mod_push 318 = .ok (.iconst 2, 1) := by decide +kernel
theorem d_Mod_push_319 : decode b_Mod_push 319 = .ok (.istore 10, 2) := by decide +kernel
theorem d_Mod_push_321 : decode b_Mod_push 321 = .ok (.aload_n 0, 1) := by decide +kernel
theorem d_Mod_push_322 : decode b_Mod_push 322 = .ok (.iload 5, 2) := by decide +kernel
theorem d_Mod_push_324 : decode b_Mod_push 324 = .ok (.ifCond .eq 8, 3) := by decide +kernel
theorem d_Mod_push_327 : decode b_Mod_push 327 = .ok (.iload 10, 2) := by decide +kernel
theorem d_Mod_push_329 : decode b_Mod_push 329 = .ok (.goto 5, 3) := by decide +kernel
theorem d_Mod_push_332 : decode b_Mod_push 332 = .ok (.iload 9, 2) := by decide +kernel
theorem d_Mod_push_334 : decode b_Mod_push 334 = .ok (.iload 5, 2) := by decide +kernel
theorem d_Mod_push_336 : decode b_Mod_push 336 = .ok (.ifCond .eq 8, 3) := by decide +kernel
theorem d_Mod_push_339 : decode b_Mod_push 339 = .ok (.iload 9, 2) := by decide +kernel
theorem d_Mod_push_341 : decode b_Mod_push 341 = .ok (.goto 5, 3) := by decide +kernel
theorem d_Mod_push_344 : decode b_Mod_push 344 = .ok (.iload 10, 2) := by decide +kernel
theorem d_Mod_push_346 : decode b_Mod_push 346 = .ok (.invokevirtual 194, 3) := by decide +kernel
theorem d_Mod_push_349 : decode b_Mod_push 349 = .ok (.iconst 1, 1) := by decide +kernel
theorem d_Mod_push_350 : decode b_Mod_push 350 = .ok (.ireturn, 1) := by decide +kernel
end
section
/-! MY LAYER OVER THE KIT: a method's world is a LIST of cells, a reference in it is a PLACE in that list. -/
abbrev zE : Type := (Nat × vp_A) ⊕ (Nat × List Value)
def zv (f : Nat → Nat) : Value → Value
  | .ref k => .ref (f k)
  | v => v
def zA (f : Nat → Nat) (a : vp_A) : vp_A := (a.1, match a.2 with
  | .inr (.inr (.inr (.inr g))) => .inr (.inr (.inr (.inr (fun j => (g j).map f))))
  | x => x)
def zc (f : Nat → Nat) : zE → zE
  | .inl (t, a) => .inl (t, zA f a)
  | .inr (ci, fs) => .inr (ci, fs.map (zv f))
def zD (dA : Nat → ClassId) : zE → va_E
  | .inl (t, a) => .inl (dA t, a)
  | .inr o => .inr o
def zw (dA : Nat → ClassId) (ad : Nat → Nat) (h : List zE) : va_W := h.mapIdx (fun k e => (ad k, zD dA (zc ad e)))
/-- places in range -/
def zvok (N : Nat) : Value → Bool
  | .ref k => decide (k < N)
  | _ => true
def zok (N : Nat) : zE → Bool
  | .inr (_, fs) => fs.all (zvok N)
  | .inl (_, _, .inr (.inr (.inr (.inr _)))) => false
  | _ => true
def zlok (N : Nat) : Option Value → Bool
  | some v => zvok N v
  | none => true
/-- of one slot -/
def zc1 : Option Value → Bool
  | some (.long _) => false
  | some (.double _) => false
  | _ => true
theorem zv_comp (f g : Nat → Nat) (v : Value) : zv f (zv g v) = zv (fun i => f (g i)) v := by cases v <;> rfl
theorem zv_eq {f g : Nat → Nat} {N : Nat} (h : ∀ i, i < N → f i = g i) {v : Value} (hv : zvok N v = true) : zv f v = zv g v := by
  cases v with
  | ref k => simp only [zvok, decide_eq_true_eq] at hv; simp only [zv, h k hv]
  | _ => rfl
theorem zv_cat (f : Nat → Nat) (v : Value) : (zv f v).category = v.category := by cases v <;> rfl
theorem zA_comp (f g : Nat → Nat) (a : vp_A) : zA f (zA g a) = zA (fun i => f (g i)) a := by
  obtain ⟨n, x⟩ := a
  rcases x with x | x | x | x | x
  · rfl
  · rfl
  · rfl
  · rfl
  · simp only [zA, Option.map_map]; rfl
theorem zc_comp (f g : Nat → Nat) (e : zE) : zc f (zc g e) = zc (fun i => f (g i)) e := by
  rcases e with ⟨t, a⟩ | ⟨ci, fs⟩
  · simp only [zc, zA_comp]
  · simp only [zc, List.map_map]
    congr 2
    apply List.map_congr_left
    intro v _
    exact zv_comp f g v
theorem zc_eq {f g : Nat → Nat} {N : Nat} (h : ∀ i, i < N → f i = g i) {e : zE} (he : zok N e = true) : zc f e = zc g e := by
  rcases e with ⟨t, n, x⟩ | ⟨ci, fs⟩
  · rcases x with x | x | x | x | x
    · rfl
    · rfl
    · rfl
    · rfl
    · cases he
  · simp only [zc]
    congr 2
    apply List.map_congr_left
    intro v hv
    exact zv_eq h (List.all_eq_true.mp he v hv)
theorem zw_at {dA : Nat → ClassId} {ad : Nat → Nat} {h : List zE} (k : Nat) {e : zE} (h1 : h[k]? = some e) : (zw dA ad h)[k]? = some (ad k, zD dA (zc ad e)) := by
  rw [zw, List.getElem?_mapIdx, h1]; rfl
theorem zw_inv {dA : Nat → ClassId} {ad : Nat → Nat} {h : List zE} {k : Nat} {q : Nat × va_E} (h1 : (zw dA ad h)[k]? = some q) : ∃ e, h[k]? = some e ∧ q = (ad k, zD dA (zc ad e)) := by
  rw [zw, List.getElem?_mapIdx] at h1
  cases h2 : h[k]? with
  | none => rw [h2] at h1; cases h1
  | some e => rw [h2] at h1; exact ⟨e, rfl, (Option.some.inj h1).symm⟩
theorem zw_set {dA : Nat → ClassId} {ad : Nat → Nat} {h : List zE} (k : Nat) (e : zE) : zw dA ad (h.set k e) = (zw dA ad h).set k (ad k, zD dA (zc ad e)) := by
  apply List.ext_getElem?
  intro i
  rw [zw, List.getElem?_mapIdx]
  by_cases hi : i = k
  · subst hi
    by_cases hl : i < h.length
    · rw [List.getElem?_set_self hl, List.getElem?_set_self (by simpa [zw] using hl)]; rfl
    · rw [List.getElem?_eq_none (by simpa using hl), List.getElem?_eq_none (by simpa [zw] using hl)]; rfl
  · rw [List.getElem?_set_ne (Ne.symm hi), List.getElem?_set_ne (Ne.symm hi), zw, List.getElem?_mapIdx]
theorem zw_ext {dA : Nat → ClassId} {f g : Nat → Nat} {h : List zE} {N : Nat} (hN : h.length ≤ N) (hfg : ∀ i, i < N → f i = g i) (hok : h.all (zok N) = true) : zw dA f h = zw dA g h := by
  apply List.ext_getElem?
  intro i
  rw [zw, zw, List.getElem?_mapIdx, List.getElem?_mapIdx]
  cases hi : h[i]? with
  | none => rfl
  | some e =>
    have hl : i < h.length := (List.getElem?_eq_some_iff.mp hi).1
    show some (f i, zD dA (zc f e)) = some (g i, zD dA (zc g e))
    rw [hfg i (by omega), zc_eq hfg (List.all_eq_true.mp hok e (List.mem_of_getElem? hi))]
theorem zw_take {dA : Nat → ClassId} {ad : Nat → Nat} {h : List zE} (j : Nat) : zw dA ad (h.take j) = (zw dA ad h).take j := by
  apply List.ext_getElem?
  intro i
  rw [zw, List.getElem?_mapIdx, List.getElem?_take, List.getElem?_take, zw, List.getElem?_mapIdx]
  by_cases hi : i < j
  · rw [if_pos hi, if_pos hi]
  · rw [if_neg hi, if_neg hi]; rfl
theorem zw_push {dA : Nat → ClassId} {ad : Nat → Nat} {h : List zE} (e : zE) : zw dA ad (h ++ [e]) = zw dA ad h ++ [(ad h.length, zD dA (zc ad e))] := by
  rw [zw, List.mapIdx_append]; simp [zw]
/-! locals by place -/
def zl (ad : Nat → Nat) (ls : List (Option Value)) : List (Nat × Value) := (ls.mapIdx (fun i o => o.map (fun v => (i, zv ad v)))).filterMap id
theorem zl_mem {ad : Nat → Nat} {ls : List (Option Value)} {q : Nat × Value} : q ∈ zl ad ls ↔ ∃ v, ls[q.1]? = some (some v) ∧ q.2 = zv ad v := by
  rw [zl, List.mem_filterMap]
  constructor
  · rintro ⟨o, ho, h2⟩
    obtain ⟨i, hi⟩ := List.getElem?_of_mem ho
    rw [List.getElem?_mapIdx] at hi
    cases hx : ls[i]? with
    | none => rw [hx] at hi; cases hi
    | some x =>
      rw [hx] at hi
      cases x with
      | none => cases hi; cases h2
      | some v => cases hi; cases h2; exact ⟨v, hx, rfl⟩
  · rintro ⟨v, h1, h2⟩
    refine ⟨some q, ?_, rfl⟩
    refine List.mem_of_getElem? (i := q.1) ?_
    rw [List.getElem?_mapIdx, h1]
    show some (some (q.1, zv ad v)) = some (some q)
    rw [← h2]
theorem zl_has {L : Array Slot} {nL : Nat} {ad : Nat → Nat} {ls : List (Option Value)} (h : lv_has L nL (zl ad ls)) {i : Nat} {v : Value} (hi : ls[i]? = some (some v)) : L[i]? = some (.val (zv ad v)) := h.2.2 (i, zv ad v) (zl_mem.mpr ⟨v, hi, rfl⟩)
theorem zl_set {L : Array Slot} {nL : Nat} {ad : Nat → Nat} {ls : List (Option Value)} {i : Nat} {v : Value} (hc : ls.all zc1 = true)
    (h : lv_has L nL ((i, zv ad v) :: (zl ad ls).filter (fun q => !(q.1 == i) && !(q.1 + 1 == i && q.2.category == 2)))) : lv_has L nL (zl ad (ls.set i (some v))) := by
  refine ⟨h.1, h.2.1, fun q hq => ?_⟩
  obtain ⟨w, h1, h2⟩ := zl_mem.mp hq
  refine h.2.2 q ?_
  by_cases hi : q.1 = i
  · have hl : i < ls.length := by
      have := (List.getElem?_eq_some_iff.mp h1).1
      rw [List.length_set] at this
      omega
    rw [hi, List.getElem?_set_self hl] at h1
    cases h1
    obtain ⟨a, b⟩ := q
    dsimp only at hi h2
    subst hi; subst h2
    exact List.mem_cons_self
  · rw [List.getElem?_set_ne (Ne.symm hi)] at h1
    refine List.mem_cons_of_mem _ (List.mem_filter.mpr ⟨zl_mem.mpr ⟨w, h1, h2⟩, ?_⟩)
    have h3 := List.all_eq_true.mp hc (some w) (List.mem_of_getElem? h1)
    have h4 : w.category = 1 := by cases w <;> first | rfl | cases h3
    rw [h2, zv_cat, h4]
    simp [hi]
theorem zl_ext {L : Array Slot} {nL : Nat} {f g : Nat → Nat} {ls : List (Option Value)} {N : Nat} (hfg : ∀ i, i < N → f i = g i) (hok : ls.all (zlok N) = true) (h : lv_has L nL (zl f ls)) : lv_has L nL (zl g ls) := by
  refine ⟨h.1, h.2.1, fun q hq => ?_⟩
  obtain ⟨w, h1, h2⟩ := zl_mem.mp hq
  refine h.2.2 q (zl_mem.mpr ⟨w, h1, ?_⟩)
  have h3 := List.all_eq_true.mp hok (some w) (List.mem_of_getElem? h1)
  rw [h2]; exact (zv_eq hfg h3).symm
theorem zs_ext {f g : Nat → Nat} {st : List Value} {N : Nat} (hfg : ∀ i, i < N → f i = g i) (hok : st.all (zvok N) = true) : st.map (zv f) = st.map (zv g) := by
  apply List.map_congr_left
  intro v hv
  exact zv_eq hfg (List.all_eq_true.mp hok v hv)
end
section
/-! THE JUDGEMENT zG: the method, now at pc with locals ls, stack st and cells h, comes to an end with Q -/
def ztys (dA : Nat → ClassId) : List (ClassId × FieldType) := [(dA 0, .int)]
def zOK (own : String) (cc : ByteArray) (nL : Nat) (ret : Option FieldType) (rm : Room) (p : Program) (R : Room) (s : State) (m : MethodId) (args : Array Value) (meth : Method) (c : Code) (D : va_G) (dA : Nat → ClassId) (A : Nat → Prop) : Prop :=
  R = rm ∧ p.tables.exec = Jvm.exec ∧ c.code = cc ∧ c.maxLocals = nL ∧ s.vm.findClass own = some m.cls ∧ (∀ w ∈ zt, w.before args s = true) ∧ meth.sig.returnType = ret ∧ meth.locks = false ∧ va_K D vwCl (ztys dA) s ∧ (∀ q, s.heap.size ≤ q → A q) ∧ zNst s
/-- a method's end: the answer and the cells by Q; the first n0 cells are where they were -/
def zQc (D : va_G) (dA : Nat → ClassId) (A : Nat → Prop) (ad0 : Nat → Nat) (n0 : Nat) (Q : Option Value → List zE → Prop) : Array Value → State → Outcome → State → Prop := fun _ st oc t =>
  (∃ (r : Option Value) (h' : List zE) (ad' : Nat → Nat), oc = .returned (r.map (zv ad')) ∧ Q r h' ∧ (∀ i, i < n0 → ad' i = ad0 i) ∧ n0 ≤ h'.length ∧ va_P D vwCl (zw dA ad' h') t.heap ∧ va_K D vwCl (ztys dA) t ∧ va_D A (zw dA ad' h')) ∧ va_F A st t
def zG (p : Program) (l : Launch) (e : Env) (R : Room) (s : State) (m : MethodId) (args : Array Value) (below : List Frame) (meth : Method) (c : Code) (D : va_G) (dA : Nat → ClassId) (A : Nat → Prop) (ad0 : Nat → Nat) (n0 nL : Nat) (Q : Option Value → List zE → Prop) (mc ms : Nat) (k n pc : Nat) (ls : List (Option Value)) (st : List Value) (h : List zE) : Prop :=
  ∀ (ad : Nat → Nat) (H : Heap) (locs : List Loc) (L : Array Slot), (∀ i, i < n0 → ad i = ad0 i) → lv_has L nL (zl ad ls) → va_P D vwCl (zw dA ad h) H → va_D A (zw dA ad h) → va_S A s.heap H locs →
    W p l e R s m args below meth c H locs k n (MQ below (zQc D dA A ad0 n0 Q) args s mc ms A) (F0 m pc L (st.map (zv ad)))
/-- a method's contract -/
def zMet (y : MethodName) (cc : ByteArray) (nL : Nat) (ret : Option FieldType) (rm : Room) (av : List Value) (h : List zE) (Q : Option Value → List zE → Prop) : Prop :=
  ∀ (l : Launch) (D : va_G) (dA : Nat → ClassId) (ad : Nat → Nat) (sz : Nat), Met l y (.code y cc nL ret :: zt) rm
    (va_Pc (av.map (zv ad)) (fun U => U.heap.size = sz ∧ va_P D vwCl (zw dA ad h) U.heap ∧ va_K D vwCl (ztys dA) U ∧ va_D (fun _ => True) (zw dA ad h) ∧ zNst U))
    (zQc D dA (va_A (zw dA ad h) sz) ad h.length Q) rm.cells rm.slots (va_A (zw dA ad h) sz)
theorem zMet.mono {y : MethodName} {cc : ByteArray} {nL : Nat} {ret : Option FieldType} {rm : Room} {av : List Value} {h : List zE} {Q Q' : Option Value → List zE → Prop} (H : zMet y cc nL ret rm av h Q) (hq : ∀ r h', Q r h' → Q' r h') : zMet y cc nL ret rm av h Q' := by
  intro l D dA ad sz p e a1 a2 a3 s m args below b1 b2 b3 b4
  obtain ⟨t, o, c1, c2, c3, ⟨⟨⟨r, h', ad', e1, e2, e3⟩, d2⟩, d3⟩⟩ := H l D dA ad sz p e a1 a2 a3 s m args below b1 b2 b3 b4
  exact ⟨t, o, c1, c2, c3, ⟨⟨⟨r, h', ad', e1, hq _ _ e2, e3⟩, d2⟩, d3⟩⟩
/-- the locals at a method's entry -/
def zen (av : List Value) (nL : Nat) : List (Option Value) := av.map some ++ List.replicate (nL - av.length) none
theorem zen_args (ad : Nat → Nat) : ∀ (av : List Value) (i : Nat), av.all (fun v => zc1 (some v)) = true → ∀ (j : Nat) (v : Value), av[j]? = some v → (i + j, zv ad v) ∈ lv_args i (av.map (zv ad))
  | [], _, _, j, v, h => by simp at h
  | a :: av, i, hc, j, v, h => by
    have hc1 : (zv ad a).category = 1 := by
      have := List.all_eq_true.mp hc a List.mem_cons_self
      rw [zv_cat]
      cases a <;> first | rfl | cases this
    have hc2 : av.all (fun v => zc1 (some v)) = true := by
      rw [List.all_cons, Bool.and_eq_true] at hc
      exact hc.2
    rw [List.map_cons, lv_args, hc1, if_neg (by decide)]
    cases j with
    | zero => rw [List.getElem?_cons_zero] at h; cases h; exact List.mem_cons_self
    | succ j =>
      rw [List.getElem?_cons_succ] at h
      have h2 := zen_args ad av (i + 1) hc2 j v h
      rw [show i + 1 + j = i + (j + 1) by omega] at h2
      exact List.mem_cons_of_mem _ h2
theorem zen_sl (ad : Nat → Nat) : ∀ (av : List Value), av.all (fun v => zc1 (some v)) = true → (lg_sl (av.map (zv ad))).length = av.length
  | [], _ => rfl
  | a :: av, hc => by
    have hc1 : (zv ad a).category = 1 := by
      have := List.all_eq_true.mp hc a List.mem_cons_self
      rw [zv_cat]
      cases a <;> first | rfl | cases this
    have hc2 : av.all (fun v => zc1 (some v)) = true := by
      rw [List.all_cons, Bool.and_eq_true] at hc
      exact hc.2
    have ih := zen_sl ad av hc2
    simp only [lg_sl, List.map_cons, List.flatMap_cons, List.length_append, List.length_cons] at ih ⊢
    rw [ih, hc1]
    simp
    omega
theorem z_ofW {l : Launch} {y : MethodName} {ws ws' : List Cond} {rm : Room} {Pc : Array Value → State → Prop} {Qc : Array Value → State → Outcome → State → Prop} {mc ms : Nat} {free : Addr → Prop} {cc : ByteArray} {maxL : Nat} {ret : Option FieldType}
    (hy : plainFor y = true) (hw : ws = Cond.code y cc maxL ret :: ws')
    (body : ∀ p e s m args below meth c s₁, BodyLoose p l y (headSpec ws rm) cc maxL ret e s m args below meth c s₁ → c.maxLocals = maxL → Pc args s →
      W p l e (headSpec ws rm).room s m args below meth c s.heap [] 0 0 (MQ below Qc args s mc ms free) (entryFrame m args maxL)) : Met l y ws rm Pc Qc mc ms free := by
  refine MetFree.of_bodySF (code := cc) (maxLocals := maxL) (ret := ret) hy ?_ ?_
  · intro args s m h hn
    obtain ⟨meth, c, h1, h2, h3, h4, h5, h6, -, -⟩ := Cond.code_spec hn (atoms_spec (ws := ws) h _ (by rw [hw]; exact List.mem_cons_self))
    exact ⟨meth, c, h1, h2, h3, h4, h5, h6⟩
  · intro p e s m args below meth c s₁ B hml hP _
    have hh0 : s₁.heap = s.heap := by rw [B.state]; rfl
    obtain ⟨t, a1, o, b1, b2, b3⟩ := body p e s m args below meth c s₁ B hml hP s₁ hh0 (Stand.of_body B)
    exact ⟨t, o, a1, b1, b2, ⟨b3.1, b3.2⟩⟩
set_option maxHeartbeats 1000000 in
theorem zMet_of {y : MethodName} {cc : ByteArray} {nL : Nat} {ret : Option FieldType} {rm : Room} {av : List Value} {h : List zE} {Q : Option Value → List zE → Prop} (hy : plainFor y = true) (hc : av.all (fun v => zc1 (some v)) = true) (hn : av.length ≤ nL)
    (K : ∀ (p : Program) (l : Launch) (e : Env) (R : Room) (s : State) (m : MethodId) (args : Array Value) (below : List Frame) (meth : Method) (c : Code) (D : va_G) (dA : Nat → ClassId) (A : Nat → Prop) (ad0 : Nat → Nat), zOK y.cls cc nL ret rm p R s m args meth c D dA A → meth.name = y.name →
      zG p l e R s m args below meth c D dA A ad0 h.length nL Q rm.cells rm.slots 0 0 0 (zen av nL) [] h) : zMet y cc nL ret rm av h Q := by
  intro l D dA ad sz
  refine z_ofW (cc := cc) (maxL := nL) (ret := ret) hy rfl ?_
  intro p e s m args below meth c s₁ B hml hv
  obtain ⟨rfl, hsz, hP, hK, hD0, hN⟩ := hv
  have hts := atoms_spec (ws := .code y cc nL ret :: zt) B.pre
  have hown : s.vm.findClass y.cls = some m.cls := findClass_of_methodNamed B.named
  have hin : meth.name = y.name := (name_of_methodNamed B.named B.method).1
  subst hsz
  have hD := hD0.self (sz := s.heap.size)
  have hA : ∀ q : Nat, s.heap.size ≤ q → va_A (zw dA ad h) s.heap.size q := fun q h => Or.inr h
  have hl := lv_entry (av.map (zv ad)) (n := nL) (by rw [zen_sl ad av hc]; exact hn)
  rw [lg_entry_eq]
  refine K p l e _ s m _ below meth c D dA _ ad ⟨rfl, B.exec, B.bytes, hml, hown, fun w hw => hts w (List.mem_cons_of_mem _ hw), B.returns, B.notSynchronized, hK, hA, hN⟩ hin ad s.heap [] _ (fun _ _ => rfl) ⟨hl.1, hl.2.1, fun q hq => ?_⟩ hP hD va_S.rf
  obtain ⟨w, h1, h2⟩ := zl_mem.mp hq
  refine hl.2.2 q ?_
  have h3 : av[q.1]? = some w := by
    rw [zen] at h1
    by_cases hi : q.1 < av.length
    · rw [List.getElem?_append_left (by simpa using hi), List.getElem?_map] at h1
      cases hx : av[q.1]? with
      | none => rw [hx] at h1; cases h1
      | some x => rw [hx] at h1; cases h1; rfl
    · rw [List.getElem?_append_right (by simpa using hi)] at h1
      have := List.eq_of_mem_replicate (List.mem_of_getElem? h1)
      cases this
  have h4 := zen_args ad av 0 hc q.1 w h3
  rw [Nat.zero_add, ← h2] at h4
  exact h4
/-! the instructions -/
section ZI
variable {own : String} {cc : ByteArray} {nL : Nat} {ret : Option FieldType} {rm : Room} {p : Program} {l : Launch} {e : Env} {R : Room} {s : State} {m : MethodId} {args : Array Value} {below : List Frame} {meth : Method} {c : Code} {D : va_G} {dA : Nat → ClassId} {A : Nat → Prop} {ad0 : Nat → Nat} {n0 : Nat} {Q : Option Value → List zE → Prop} {mc ms k n pc : Nat} {ls : List (Option Value)} {st : List Value} {h : List zE}
theorem zi_iconst (O : zOK own cc nL ret rm p R s m args meth c D dA A) {x : Int} {v : Int32} (d : decode cc pc = .ok (.iconst x, 1)) (hv : Int32.ofInt x = v) (K : zG p l e R s m args below meth c D dA A ad0 n0 nL Q mc ms k n (pc + 1) ls (.int v :: st) h) : zG p l e R s m args below meth c D dA A ad0 n0 nL Q mc ms k n pc ls st h :=
  fun ad H locs L h1 h2 h3 h4 h5 => lv_iconst O.2.1 O.2.2.1 d hv (K ad H locs L h1 h2 h3 h4 h5)
theorem zi_bipush (O : zOK own cc nL ret rm p R s m args meth c D dA A) {x : Int} {v : Int32} (d : decode cc pc = .ok (.bipush x, 2)) (hv : (Int8.ofInt x).toInt32 = v) (K : zG p l e R s m args below meth c D dA A ad0 n0 nL Q mc ms k n (pc + 2) ls (.int v :: st) h) : zG p l e R s m args below meth c D dA A ad0 n0 nL Q mc ms k n pc ls st h :=
  fun ad H locs L h1 h2 h3 h4 h5 => lv_bipush O.2.1 O.2.2.1 d hv (K ad H locs L h1 h2 h3 h4 h5)
theorem zi_sipush (O : zOK own cc nL ret rm p R s m args meth c D dA A) {x : Int} {v : Int32} (d : decode cc pc = .ok (.sipush x, 3)) (hv : (Int16.ofInt x).toInt32 = v) (K : zG p l e R s m args below meth c D dA A ad0 n0 nL Q mc ms k n (pc + 3) ls (.int v :: st) h) : zG p l e R s m args below meth c D dA A ad0 n0 nL Q mc ms k n pc ls st h :=
  fun ad H locs L h1 h2 h3 h4 h5 => lv_sipush O.2.1 O.2.2.1 d hv (K ad H locs L h1 h2 h3 h4 h5)
theorem zi_iload_n (O : zOK own cc nL ret rm p R s m args meth c D dA A) {i : Fin 4} {x : Int32} (d : decode cc pc = .ok (.iload_n i, 1)) (hl : ls[i.val]? = some (some (.int x))) (K : zG p l e R s m args below meth c D dA A ad0 n0 nL Q mc ms k n (pc + 1) ls (.int x :: st) h) : zG p l e R s m args below meth c D dA A ad0 n0 nL Q mc ms k n pc ls st h :=
  fun ad H locs L h1 h2 h3 h4 h5 => lv_iload_n O.2.1 O.2.2.1 d rfl (zl_has h2 hl) (K ad H locs L h1 h2 h3 h4 h5)
theorem zi_iload (O : zOK own cc nL ret rm p R s m args meth c D dA A) {i : Nat} {x : Int32} (d : decode cc pc = .ok (.iload i, 2)) (hl : ls[i]? = some (some (.int x))) (K : zG p l e R s m args below meth c D dA A ad0 n0 nL Q mc ms k n (pc + 2) ls (.int x :: st) h) : zG p l e R s m args below meth c D dA A ad0 n0 nL Q mc ms k n pc ls st h :=
  fun ad H locs L h1 h2 h3 h4 h5 => lv_iload O.2.1 O.2.2.1 d (zl_has h2 hl) (K ad H locs L h1 h2 h3 h4 h5)
theorem zi_aload_n (O : zOK own cc nL ret rm p R s m args meth c D dA A) {i : Fin 4} {x : Nat} (d : decode cc pc = .ok (.aload_n i, 1)) (hl : ls[i.val]? = some (some (.ref x))) (K : zG p l e R s m args below meth c D dA A ad0 n0 nL Q mc ms k n (pc + 1) ls (.ref x :: st) h) : zG p l e R s m args below meth c D dA A ad0 n0 nL Q mc ms k n pc ls st h :=
  fun ad H locs L h1 h2 h3 h4 h5 => lv_aload_n O.2.1 O.2.2.1 d rfl (zl_has h2 hl) (K ad H locs L h1 h2 h3 h4 h5)
theorem zi_aload (O : zOK own cc nL ret rm p R s m args meth c D dA A) {i : Nat} {x : Nat} (d : decode cc pc = .ok (.aload i, 2)) (hl : ls[i]? = some (some (.ref x))) (K : zG p l e R s m args below meth c D dA A ad0 n0 nL Q mc ms k n (pc + 2) ls (.ref x :: st) h) : zG p l e R s m args below meth c D dA A ad0 n0 nL Q mc ms k n pc ls st h :=
  fun ad H locs L h1 h2 h3 h4 h5 => lv_aload O.2.1 O.2.2.1 d (zl_has h2 hl) (K ad H locs L h1 h2 h3 h4 h5)
theorem zi_istore_n (O : zOK own cc nL ret rm p R s m args meth c D dA A) {i : Fin 4} {x : Int32} {ls' : List (Option Value)} (d : decode cc pc = .ok (.istore_n i, 1)) (hc : ls.all zc1 = true) (hn : i.val < nL) (hs : ls.set i.val (some (.int x)) = ls') (K : zG p l e R s m args below meth c D dA A ad0 n0 nL Q mc ms k n (pc + 1) ls' st h) : zG p l e R s m args below meth c D dA A ad0 n0 nL Q mc ms k n pc ls (.int x :: st) h := by
  subst hs
  exact fun ad H locs L h1 h2 h3 h4 h5 => lv_istore_n O.2.1 O.2.2.1 d rfl h2 hn rfl (fun L' h2' => K ad H locs L' h1 (zl_set (v := .int x) hc h2') h3 h4 h5)
theorem zi_istore (O : zOK own cc nL ret rm p R s m args meth c D dA A) {i : Nat} {x : Int32} {ls' : List (Option Value)} (d : decode cc pc = .ok (.istore i, 2)) (hc : ls.all zc1 = true) (hn : i < nL) (hs : ls.set i (some (.int x)) = ls') (K : zG p l e R s m args below meth c D dA A ad0 n0 nL Q mc ms k n (pc + 2) ls' st h) : zG p l e R s m args below meth c D dA A ad0 n0 nL Q mc ms k n pc ls (.int x :: st) h := by
  subst hs
  exact fun ad H locs L h1 h2 h3 h4 h5 => lv_istore O.2.1 O.2.2.1 d h2 hn rfl (fun L' h2' => K ad H locs L' h1 (zl_set (v := .int x) hc h2') h3 h4 h5)
theorem zi_astore_n (O : zOK own cc nL ret rm p R s m args meth c D dA A) {i : Fin 4} {x : Nat} {ls' : List (Option Value)} (d : decode cc pc = .ok (.astore_n i, 1)) (hc : ls.all zc1 = true) (hn : i.val < nL) (hs : ls.set i.val (some (.ref x)) = ls') (K : zG p l e R s m args below meth c D dA A ad0 n0 nL Q mc ms k n (pc + 1) ls' st h) : zG p l e R s m args below meth c D dA A ad0 n0 nL Q mc ms k n pc ls (.ref x :: st) h := by
  subst hs
  exact fun ad H locs L h1 h2 h3 h4 h5 => lv_astore_n O.2.1 O.2.2.1 d rfl h2 hn rfl (fun L' h2' => K ad H locs L' h1 (zl_set (v := .ref x) hc h2') h3 h4 h5)
theorem zi_astore (O : zOK own cc nL ret rm p R s m args meth c D dA A) {i : Nat} {x : Nat} {ls' : List (Option Value)} (d : decode cc pc = .ok (.astore i, 2)) (hc : ls.all zc1 = true) (hn : i < nL) (hs : ls.set i (some (.ref x)) = ls') (K : zG p l e R s m args below meth c D dA A ad0 n0 nL Q mc ms k n (pc + 2) ls' st h) : zG p l e R s m args below meth c D dA A ad0 n0 nL Q mc ms k n pc ls (.ref x :: st) h := by
  subst hs
  exact fun ad H locs L h1 h2 h3 h4 h5 => lv_astore O.2.1 O.2.2.1 d h2 hn rfl (fun L' h2' => K ad H locs L' h1 (zl_set (v := .ref x) hc h2') h3 h4 h5)
theorem zi_iinc (O : zOK own cc nL ret rm p R s m args meth c D dA A) {i : Nat} {z : Int} {x v : Int32} {ls' : List (Option Value)} (d : decode cc pc = .ok (.iinc i z, 3)) (hc : ls.all zc1 = true) (hn : i < nL) (hx : ls[i]? = some (some (.int x))) (hv : x + Int32.ofInt z = v) (hs : ls.set i (some (.int v)) = ls') (K : zG p l e R s m args below meth c D dA A ad0 n0 nL Q mc ms k n (pc + 3) ls' st h) : zG p l e R s m args below meth c D dA A ad0 n0 nL Q mc ms k n pc ls st h := by
  subst hs
  intro ad H locs L h1 h2 h3 h4 h5
  obtain ⟨j, hj⟩ := List.getElem?_of_mem (zl_mem.mpr ⟨.int x, hx, rfl⟩ : (i, Value.int x) ∈ zl ad ls)
  exact lv_iinc O.2.1 O.2.2.1 d h2 hj hv hn rfl (fun L' h2' => K ad H locs L' h1 (zl_set (v := .int v) hc h2') h3 h4 h5)
theorem zi_iadd (O : zOK own cc nL ret rm p R s m args meth c D dA A) {x y : Int32} (d : decode cc pc = .ok (.iadd, 1)) (K : zG p l e R s m args below meth c D dA A ad0 n0 nL Q mc ms k n (pc + 1) ls (.int (x + y) :: st) h) : zG p l e R s m args below meth c D dA A ad0 n0 nL Q mc ms k n pc ls (.int y :: .int x :: st) h :=
  fun ad H locs L h1 h2 h3 h4 h5 => lv_iadd O.2.1 O.2.2.1 d (K ad H locs L h1 h2 h3 h4 h5)
theorem zi_isub (O : zOK own cc nL ret rm p R s m args meth c D dA A) {x y : Int32} (d : decode cc pc = .ok (.isub, 1)) (K : zG p l e R s m args below meth c D dA A ad0 n0 nL Q mc ms k n (pc + 1) ls (.int (x - y) :: st) h) : zG p l e R s m args below meth c D dA A ad0 n0 nL Q mc ms k n pc ls (.int y :: .int x :: st) h :=
  fun ad H locs L h1 h2 h3 h4 h5 => lv_isub O.2.1 O.2.2.1 d (K ad H locs L h1 h2 h3 h4 h5)
theorem zi_imul (O : zOK own cc nL ret rm p R s m args meth c D dA A) {x y : Int32} (d : decode cc pc = .ok (.imul, 1)) (K : zG p l e R s m args below meth c D dA A ad0 n0 nL Q mc ms k n (pc + 1) ls (.int (x * y) :: st) h) : zG p l e R s m args below meth c D dA A ad0 n0 nL Q mc ms k n pc ls (.int y :: .int x :: st) h :=
  fun ad H locs L h1 h2 h3 h4 h5 => lv_imul O.2.1 O.2.2.1 d (K ad H locs L h1 h2 h3 h4 h5)
theorem zi_iand (O : zOK own cc nL ret rm p R s m args meth c D dA A) {x y : Int32} (d : decode cc pc = .ok (.iand, 1)) (K : zG p l e R s m args below meth c D dA A ad0 n0 nL Q mc ms k n (pc + 1) ls (.int (x &&& y) :: st) h) : zG p l e R s m args below meth c D dA A ad0 n0 nL Q mc ms k n pc ls (.int y :: .int x :: st) h :=
  fun ad H locs L h1 h2 h3 h4 h5 => lv_iand O.2.1 O.2.2.1 d (K ad H locs L h1 h2 h3 h4 h5)
theorem zi_ior (O : zOK own cc nL ret rm p R s m args meth c D dA A) {x y : Int32} (d : decode cc pc = .ok (.ior, 1)) (K : zG p l e R s m args below meth c D dA A ad0 n0 nL Q mc ms k n (pc + 1) ls (.int (x ||| y) :: st) h) : zG p l e R s m args below meth c D dA A ad0 n0 nL Q mc ms k n pc ls (.int y :: .int x :: st) h :=
  fun ad H locs L h1 h2 h3 h4 h5 => lv_ior O.2.1 O.2.2.1 d (K ad H locs L h1 h2 h3 h4 h5)
theorem zi_ixor (O : zOK own cc nL ret rm p R s m args meth c D dA A) {x y : Int32} (d : decode cc pc = .ok (.ixor, 1)) (K : zG p l e R s m args below meth c D dA A ad0 n0 nL Q mc ms k n (pc + 1) ls (.int (x ^^^ y) :: st) h) : zG p l e R s m args below meth c D dA A ad0 n0 nL Q mc ms k n pc ls (.int y :: .int x :: st) h :=
  fun ad H locs L h1 h2 h3 h4 h5 => lv_ixor O.2.1 O.2.2.1 d (K ad H locs L h1 h2 h3 h4 h5)
theorem zi_ishl (O : zOK own cc nL ret rm p R s m args meth c D dA A) {x y : Int32} (d : decode cc pc = .ok (.ishl, 1)) (K : zG p l e R s m args below meth c D dA A ad0 n0 nL Q mc ms k n (pc + 1) ls (.int (x <<< (y &&& 31)) :: st) h) : zG p l e R s m args below meth c D dA A ad0 n0 nL Q mc ms k n pc ls (.int y :: .int x :: st) h :=
  fun ad H locs L h1 h2 h3 h4 h5 => lv_ishl O.2.1 O.2.2.1 d (K ad H locs L h1 h2 h3 h4 h5)
theorem zi_ishr (O : zOK own cc nL ret rm p R s m args meth c D dA A) {x y : Int32} (d : decode cc pc = .ok (.ishr, 1)) (K : zG p l e R s m args below meth c D dA A ad0 n0 nL Q mc ms k n (pc + 1) ls (.int (x >>> (y &&& 31)) :: st) h) : zG p l e R s m args below meth c D dA A ad0 n0 nL Q mc ms k n pc ls (.int y :: .int x :: st) h :=
  fun ad H locs L h1 h2 h3 h4 h5 => lv_ishr O.2.1 O.2.2.1 d (K ad H locs L h1 h2 h3 h4 h5)
theorem zi_ineg (O : zOK own cc nL ret rm p R s m args meth c D dA A) {x : Int32} (d : decode cc pc = .ok (.ineg, 1)) (K : zG p l e R s m args below meth c D dA A ad0 n0 nL Q mc ms k n (pc + 1) ls (.int (-x) :: st) h) : zG p l e R s m args below meth c D dA A ad0 n0 nL Q mc ms k n pc ls (.int x :: st) h :=
  fun ad H locs L h1 h2 h3 h4 h5 => lv_ineg O.2.1 O.2.2.1 d (K ad H locs L h1 h2 h3 h4 h5)
/-- the number on top by another name -/
theorem zi_top {x y : Int32} (hxy : x = y) (K : zG p l e R s m args below meth c D dA A ad0 n0 nL Q mc ms k n pc ls (.int y :: st) h) : zG p l e R s m args below meth c D dA A ad0 n0 nL Q mc ms k n pc ls (.int x :: st) h := hxy ▸ K
theorem zi_dup (O : zOK own cc nL ret rm p R s m args meth c D dA A) {v : Value} (d : decode cc pc = .ok (.dup, 1)) (hv : v.category = 1) (K : zG p l e R s m args below meth c D dA A ad0 n0 nL Q mc ms k n (pc + 1) ls (v :: v :: st) h) : zG p l e R s m args below meth c D dA A ad0 n0 nL Q mc ms k n pc ls (v :: st) h :=
  fun ad H locs L h1 h2 h3 h4 h5 => lv_dup O.2.1 O.2.2.1 d (by rw [zv_cat]; exact hv) (K ad H locs L h1 h2 h3 h4 h5)
theorem zi_dup_x1 (O : zOK own cc nL ret rm p R s m args meth c D dA A) {v w : Value} (d : decode cc pc = .ok (.dup_x1, 1)) (hv : v.category = 1) (hw : w.category = 1) (K : zG p l e R s m args below meth c D dA A ad0 n0 nL Q mc ms k n (pc + 1) ls (v :: w :: v :: st) h) : zG p l e R s m args below meth c D dA A ad0 n0 nL Q mc ms k n pc ls (v :: w :: st) h :=
  fun ad H locs L h1 h2 h3 h4 h5 => lv_dup_x1 O.2.1 O.2.2.1 d (by rw [zv_cat]; exact hv) (by rw [zv_cat]; exact hw) (K ad H locs L h1 h2 h3 h4 h5)
theorem zi_pop (O : zOK own cc nL ret rm p R s m args meth c D dA A) {v : Value} (d : decode cc pc = .ok (.pop, 1)) (hv : v.category = 1) (K : zG p l e R s m args below meth c D dA A ad0 n0 nL Q mc ms k n (pc + 1) ls st h) : zG p l e R s m args below meth c D dA A ad0 n0 nL Q mc ms k n pc ls (v :: st) h :=
  fun ad H locs L h1 h2 h3 h4 h5 => lv_pop O.2.1 O.2.2.1 d (by rw [zv_cat]; exact hv) (K ad H locs L h1 h2 h3 h4 h5)
theorem zi_goto (O : zOK own cc nL ret rm p R s m args meth c D dA A) {off : Int} (tgt : Nat) (d : decode cc pc = .ok (.goto off, 3)) (ht : (pc : Int) + off = (tgt : Int)) (K : zG p l e R s m args below meth c D dA A ad0 n0 nL Q mc ms k n tgt ls st h) : zG p l e R s m args below meth c D dA A ad0 n0 nL Q mc ms k n pc ls st h :=
  fun ad H locs L h1 h2 h3 h4 h5 => lv_goto O.2.1 O.2.2.1 d ht (K ad H locs L h1 h2 h3 h4 h5)
theorem zi_icmp_eq (O : zOK own cc nL ret rm p R s m args meth c D dA A) {x y : Int32} {off : Int} (tgt : Nat) (d : decode cc pc = .ok (.if_icmp .eq off, 3)) (ht : (pc : Int) + off = (tgt : Int)) (kt : x = y → zG p l e R s m args below meth c D dA A ad0 n0 nL Q mc ms k n tgt ls st h) (kf : ¬ x = y → zG p l e R s m args below meth c D dA A ad0 n0 nL Q mc ms k n (pc + 3) ls st h) : zG p l e R s m args below meth c D dA A ad0 n0 nL Q mc ms k n pc ls (.int y :: .int x :: st) h :=
  fun ad H locs L h1 h2 h3 h4 h5 => lv_icmp_eq O.2.1 O.2.2.1 d ht (fun z => kt z ad H locs L h1 h2 h3 h4 h5) (fun z => kf z ad H locs L h1 h2 h3 h4 h5)
theorem zi_if_eq (O : zOK own cc nL ret rm p R s m args meth c D dA A) {x : Int32} {off : Int} (tgt : Nat) (d : decode cc pc = .ok (.ifCond .eq off, 3)) (ht : (pc : Int) + off = (tgt : Int)) (kt : x = 0 → zG p l e R s m args below meth c D dA A ad0 n0 nL Q mc ms k n tgt ls st h) (kf : ¬ x = 0 → zG p l e R s m args below meth c D dA A ad0 n0 nL Q mc ms k n (pc + 3) ls st h) : zG p l e R s m args below meth c D dA A ad0 n0 nL Q mc ms k n pc ls (.int x :: st) h :=
  fun ad H locs L h1 h2 h3 h4 h5 => lv_if_eq O.2.1 O.2.2.1 d ht (fun z => kt z ad H locs L h1 h2 h3 h4 h5) (fun z => kf z ad H locs L h1 h2 h3 h4 h5)
theorem zi_icmp_ne (O : zOK own cc nL ret rm p R s m args meth c D dA A) {x y : Int32} {off : Int} (tgt : Nat) (d : decode cc pc = .ok (.if_icmp .ne off, 3)) (ht : (pc : Int) + off = (tgt : Int)) (kt : ¬ x = y → zG p l e R s m args below meth c D dA A ad0 n0 nL Q mc ms k n tgt ls st h) (kf : x = y → zG p l e R s m args below meth c D dA A ad0 n0 nL Q mc ms k n (pc + 3) ls st h) : zG p l e R s m args below meth c D dA A ad0 n0 nL Q mc ms k n pc ls (.int y :: .int x :: st) h :=
  fun ad H locs L h1 h2 h3 h4 h5 => lv_icmp_ne O.2.1 O.2.2.1 d ht (fun z => kt z ad H locs L h1 h2 h3 h4 h5) (fun z => kf z ad H locs L h1 h2 h3 h4 h5)
theorem zi_if_ne (O : zOK own cc nL ret rm p R s m args meth c D dA A) {x : Int32} {off : Int} (tgt : Nat) (d : decode cc pc = .ok (.ifCond .ne off, 3)) (ht : (pc : Int) + off = (tgt : Int)) (kt : ¬ x = 0 → zG p l e R s m args below meth c D dA A ad0 n0 nL Q mc ms k n tgt ls st h) (kf : x = 0 → zG p l e R s m args below meth c D dA A ad0 n0 nL Q mc ms k n (pc + 3) ls st h) : zG p l e R s m args below meth c D dA A ad0 n0 nL Q mc ms k n pc ls (.int x :: st) h :=
  fun ad H locs L h1 h2 h3 h4 h5 => lv_if_ne O.2.1 O.2.2.1 d ht (fun z => kt z ad H locs L h1 h2 h3 h4 h5) (fun z => kf z ad H locs L h1 h2 h3 h4 h5)
theorem zi_icmp_lt (O : zOK own cc nL ret rm p R s m args meth c D dA A) {x y : Int32} {off : Int} (tgt : Nat) (d : decode cc pc = .ok (.if_icmp .lt off, 3)) (ht : (pc : Int) + off = (tgt : Int)) (kt : x < y → zG p l e R s m args below meth c D dA A ad0 n0 nL Q mc ms k n tgt ls st h) (kf : ¬ x < y → zG p l e R s m args below meth c D dA A ad0 n0 nL Q mc ms k n (pc + 3) ls st h) : zG p l e R s m args below meth c D dA A ad0 n0 nL Q mc ms k n pc ls (.int y :: .int x :: st) h :=
  fun ad H locs L h1 h2 h3 h4 h5 => lv_icmp_lt O.2.1 O.2.2.1 d ht (fun z => kt z ad H locs L h1 h2 h3 h4 h5) (fun z => kf z ad H locs L h1 h2 h3 h4 h5)
theorem zi_if_lt (O : zOK own cc nL ret rm p R s m args meth c D dA A) {x : Int32} {off : Int} (tgt : Nat) (d : decode cc pc = .ok (.ifCond .lt off, 3)) (ht : (pc : Int) + off = (tgt : Int)) (kt : x < 0 → zG p l e R s m args below meth c D dA A ad0 n0 nL Q mc ms k n tgt ls st h) (kf : ¬ x < 0 → zG p l e R s m args below meth c D dA A ad0 n0 nL Q mc ms k n (pc + 3) ls st h) : zG p l e R s m args below meth c D dA A ad0 n0 nL Q mc ms k n pc ls (.int x :: st) h :=
  fun ad H locs L h1 h2 h3 h4 h5 => lv_if_lt O.2.1 O.2.2.1 d ht (fun z => kt z ad H locs L h1 h2 h3 h4 h5) (fun z => kf z ad H locs L h1 h2 h3 h4 h5)
theorem zi_icmp_ge (O : zOK own cc nL ret rm p R s m args meth c D dA A) {x y : Int32} {off : Int} (tgt : Nat) (d : decode cc pc = .ok (.if_icmp .ge off, 3)) (ht : (pc : Int) + off = (tgt : Int)) (kt : y ≤ x → zG p l e R s m args below meth c D dA A ad0 n0 nL Q mc ms k n tgt ls st h) (kf : ¬ y ≤ x → zG p l e R s m args below meth c D dA A ad0 n0 nL Q mc ms k n (pc + 3) ls st h) : zG p l e R s m args below meth c D dA A ad0 n0 nL Q mc ms k n pc ls (.int y :: .int x :: st) h :=
  fun ad H locs L h1 h2 h3 h4 h5 => lv_icmp_ge O.2.1 O.2.2.1 d ht (fun z => kt z ad H locs L h1 h2 h3 h4 h5) (fun z => kf z ad H locs L h1 h2 h3 h4 h5)
theorem zi_if_ge (O : zOK own cc nL ret rm p R s m args meth c D dA A) {x : Int32} {off : Int} (tgt : Nat) (d : decode cc pc = .ok (.ifCond .ge off, 3)) (ht : (pc : Int) + off = (tgt : Int)) (kt : 0 ≤ x → zG p l e R s m args below meth c D dA A ad0 n0 nL Q mc ms k n tgt ls st h) (kf : ¬ 0 ≤ x → zG p l e R s m args below meth c D dA A ad0 n0 nL Q mc ms k n (pc + 3) ls st h) : zG p l e R s m args below meth c D dA A ad0 n0 nL Q mc ms k n pc ls (.int x :: st) h :=
  fun ad H locs L h1 h2 h3 h4 h5 => lv_if_ge O.2.1 O.2.2.1 d ht (fun z => kt z ad H locs L h1 h2 h3 h4 h5) (fun z => kf z ad H locs L h1 h2 h3 h4 h5)
theorem zi_icmp_gt (O : zOK own cc nL ret rm p R s m args meth c D dA A) {x y : Int32} {off : Int} (tgt : Nat) (d : decode cc pc = .ok (.if_icmp .gt off, 3)) (ht : (pc : Int) + off = (tgt : Int)) (kt : y < x → zG p l e R s m args below meth c D dA A ad0 n0 nL Q mc ms k n tgt ls st h) (kf : ¬ y < x → zG p l e R s m args below meth c D dA A ad0 n0 nL Q mc ms k n (pc + 3) ls st h) : zG p l e R s m args below meth c D dA A ad0 n0 nL Q mc ms k n pc ls (.int y :: .int x :: st) h :=
  fun ad H locs L h1 h2 h3 h4 h5 => lv_icmp_gt O.2.1 O.2.2.1 d ht (fun z => kt z ad H locs L h1 h2 h3 h4 h5) (fun z => kf z ad H locs L h1 h2 h3 h4 h5)
theorem zi_if_gt (O : zOK own cc nL ret rm p R s m args meth c D dA A) {x : Int32} {off : Int} (tgt : Nat) (d : decode cc pc = .ok (.ifCond .gt off, 3)) (ht : (pc : Int) + off = (tgt : Int)) (kt : 0 < x → zG p l e R s m args below meth c D dA A ad0 n0 nL Q mc ms k n tgt ls st h) (kf : ¬ 0 < x → zG p l e R s m args below meth c D dA A ad0 n0 nL Q mc ms k n (pc + 3) ls st h) : zG p l e R s m args below meth c D dA A ad0 n0 nL Q mc ms k n pc ls (.int x :: st) h :=
  fun ad H locs L h1 h2 h3 h4 h5 => lv_if_gt O.2.1 O.2.2.1 d ht (fun z => kt z ad H locs L h1 h2 h3 h4 h5) (fun z => kf z ad H locs L h1 h2 h3 h4 h5)
theorem zi_icmp_le (O : zOK own cc nL ret rm p R s m args meth c D dA A) {x y : Int32} {off : Int} (tgt : Nat) (d : decode cc pc = .ok (.if_icmp .le off, 3)) (ht : (pc : Int) + off = (tgt : Int)) (kt : x ≤ y → zG p l e R s m args below meth c D dA A ad0 n0 nL Q mc ms k n tgt ls st h) (kf : ¬ x ≤ y → zG p l e R s m args below meth c D dA A ad0 n0 nL Q mc ms k n (pc + 3) ls st h) : zG p l e R s m args below meth c D dA A ad0 n0 nL Q mc ms k n pc ls (.int y :: .int x :: st) h :=
  fun ad H locs L h1 h2 h3 h4 h5 => lv_icmp_le O.2.1 O.2.2.1 d ht (fun z => kt z ad H locs L h1 h2 h3 h4 h5) (fun z => kf z ad H locs L h1 h2 h3 h4 h5)
theorem zi_if_le (O : zOK own cc nL ret rm p R s m args meth c D dA A) {x : Int32} {off : Int} (tgt : Nat) (d : decode cc pc = .ok (.ifCond .le off, 3)) (ht : (pc : Int) + off = (tgt : Int)) (kt : x ≤ 0 → zG p l e R s m args below meth c D dA A ad0 n0 nL Q mc ms k n tgt ls st h) (kf : ¬ x ≤ 0 → zG p l e R s m args below meth c D dA A ad0 n0 nL Q mc ms k n (pc + 3) ls st h) : zG p l e R s m args below meth c D dA A ad0 n0 nL Q mc ms k n pc ls (.int x :: st) h :=
  fun ad H locs L h1 h2 h3 h4 h5 => lv_if_le O.2.1 O.2.2.1 d ht (fun z => kt z ad H locs L h1 h2 h3 h4 h5) (fun z => kf z ad H locs L h1 h2 h3 h4 h5)
theorem zi_tableOut (O : zOK own cc nL ret rm p R s m args meth c D dA A) {dflt lo hi : Int} {offs : Array Int} {len : Nat} {x : Int32} (tgt : Nat) (d : decode cc pc = .ok (.tableswitch dflt lo hi offs, len)) (hx : x.toInt < lo ∨ hi < x.toInt) (ht : (pc : Int) + dflt = (tgt : Int)) (K : zG p l e R s m args below meth c D dA A ad0 n0 nL Q mc ms k n tgt ls st h) : zG p l e R s m args below meth c D dA A ad0 n0 nL Q mc ms k n pc ls (.int x :: st) h :=
  fun ad H locs L h1 h2 h3 h4 h5 => lv_tableOut O.2.1 O.2.2.1 d hx ht (K ad H locs L h1 h2 h3 h4 h5)
theorem zi_tableIn (O : zOK own cc nL ret rm p R s m args meth c D dA A) {dflt lo hi : Int} {offs : Array Int} {len : Nat} {x : Int32} {off : Int} (tgt : Nat) (d : decode cc pc = .ok (.tableswitch dflt lo hi offs, len)) (hx1 : ¬ x.toInt < lo) (hx2 : ¬ hi < x.toInt) (ho : offs[(x.toInt - lo).toNat]? = some off) (ht : (pc : Int) + off = (tgt : Int)) (K : zG p l e R s m args below meth c D dA A ad0 n0 nL Q mc ms k n tgt ls st h) : zG p l e R s m args below meth c D dA A ad0 n0 nL Q mc ms k n pc ls (.int x :: st) h :=
  fun ad H locs L h1 h2 h3 h4 h5 => lv_tableIn O.2.1 O.2.2.1 d hx1 hx2 ho ht (K ad H locs L h1 h2 h3 h4 h5)
theorem zi_iret (O : zOK own cc nL (some .int) rm p R s m args meth c D dA A) {v : Int32} (d : decode cc pc = .ok (.ireturn, 1)) (hk : k ≤ mc) (hn : n ≤ ms) (h0 : n0 ≤ h.length) (hq : Q (some (.int v)) h) : zG p l e R s m args below meth c D dA A ad0 n0 nL Q mc ms k n pc ls [.int v] h :=
  fun ad H locs L h1 h2 h3 h4 h5 => W.widen hk hn (W.iret (v := v) O.2.1 O.2.2.1 O.2.2.2.2.2.2.1 (fun t ht hW => ⟨⟨some (.int v), h, ad, rfl, hq, h1, h0, by rw [ht]; exact h3, va_K.moved hW.alike O.2.2.2.2.2.2.2.2.1, h4⟩, h5.F ht⟩) h5.2.2 d O.2.2.2.2.2.2.2.1)
theorem zi_zret (O : zOK own cc nL (some .boolean) rm p R s m args meth c D dA A) {v : Int32} (d : decode cc pc = .ok (.ireturn, 1)) (hv : narrow .boolean (.int v) = .int v) (hk : k ≤ mc) (hn : n ≤ ms) (h0 : n0 ≤ h.length) (hq : Q (some (.int v)) h) : zG p l e R s m args below meth c D dA A ad0 n0 nL Q mc ms k n pc ls [.int v] h :=
  fun ad H locs L h1 h2 h3 h4 h5 => W.widen hk hn (W.zret (v := v) O.2.1 O.2.2.1 O.2.2.2.2.2.2.1 hv (fun t ht hW => ⟨⟨some (.int v), h, ad, rfl, hq, h1, h0, by rw [ht]; exact h3, va_K.moved hW.alike O.2.2.2.2.2.2.2.2.1, h4⟩, h5.F ht⟩) h5.2.2 d O.2.2.2.2.2.2.2.1)
theorem zi_vret (O : zOK own cc nL none rm p R s m args meth c D dA A) (d : decode cc pc = .ok (.return_, 1)) (hk : k ≤ mc) (hn : n ≤ ms) (h0 : n0 ≤ h.length) (hq : Q none h) : zG p l e R s m args below meth c D dA A ad0 n0 nL Q mc ms k n pc ls [] h :=
  fun ad H locs L h1 h2 h3 h4 h5 => W.widen hk hn (W.vret O.2.1 O.2.2.1 O.2.2.2.2.2.2.1 (fun t ht hW => ⟨⟨none, h, ad, rfl, hq, h1, h0, by rw [ht]; exact h3, va_K.moved hW.alike O.2.2.2.2.2.2.2.2.1, h4⟩, h5.F ht⟩) h5.2.2 d O.2.2.2.2.2.2.2.1)
theorem zi_aret {rt : FieldType} (O : zOK own cc nL (some rt) rm p R s m args meth c D dA A) {v : Nat} (d : decode cc pc = .ok (.areturn, 1)) (hrt : (∃ n, rt = .object n) ∨ ∃ t, rt = .array t) (hk : k ≤ mc) (hn : n ≤ ms) (h0 : n0 ≤ h.length) (hq : Q (some (.ref v)) h) : zG p l e R s m args below meth c D dA A ad0 n0 nL Q mc ms k n pc ls [.ref v] h :=
  fun ad H locs L h1 h2 h3 h4 h5 => W.widen hk hn (W.aret (v := .ref (ad v)) O.2.1 O.2.2.1 O.2.2.2.2.2.2.1 hrt (Or.inr ⟨_, rfl⟩) (fun t ht hW => ⟨⟨some (.ref v), h, ad, rfl, hq, h1, h0, by rw [ht]; exact h3, va_K.moved hW.alike O.2.2.2.2.2.2.2.2.1, h4⟩, h5.F ht⟩) h5.2.2 d O.2.2.2.2.2.2.2.1)
/-- cells behind are forgotten -/
theorem zi_drop (j : Nat) (K : zG p l e R s m args below meth c D dA A ad0 n0 nL Q mc ms k n pc ls st (h.take j)) : zG p l e R s m args below meth c D dA A ad0 n0 nL Q mc ms k n pc ls st h := by
  intro ad H locs L h1 h2 h3 h4 h5
  have key : ∀ (i : Nat) (q : Nat × va_E), (zw dA ad (h.take j))[i]? = some q → (zw dA ad h)[i]? = some q := by
    intro i q hi
    rw [zw_take, List.getElem?_take] at hi
    by_cases hj : i < j
    · rw [if_pos hj] at hi; exact hi
    · rw [if_neg hj] at hi; cases hi
  exact K ad H locs L h1 h2 (fun i q hi => h3 i q (key i q hi)) ⟨fun i j x y hi hj => h4.1 i j x y (key i x hi) (key j y hj), fun i q hi => h4.2 i q (key i q hi)⟩ h5
theorem zi_widen {k' n' : Nat} (hk : k ≤ k') (hn : n ≤ n') (K : zG p l e R s m args below meth c D dA A ad0 n0 nL Q mc ms k' n' pc ls st h) : zG p l e R s m args below meth c D dA A ad0 n0 nL Q mc ms k n pc ls st h :=
  fun ad H locs L h1 h2 h3 h4 h5 => W.widen hk hn (K ad H locs L h1 h2 h3 h4 h5)
/-! fields and arrays -/
def zF (own : String) (index ci j : Nat) (ty : FieldType) (fin : Bool) : Prop := ∃ (C : String) (T : u_T) (N : Nat) (ty0 : Nat → FieldType), vwCl[ci]? = some (C, T, N) ∧ j < N ∧ Cond.fieldLink own index C (T j).2.1 (T j).2.2.1 ∈ zt ∧ (T j).1 = C ∧ (∀ w ∈ u_ws C T N, w ∈ zt) ∧ (∀ k, k < N → parseFieldDescriptor (T k).2.2.1 = some (ty0 k)) ∧ (∀ a, a < N → ∀ b, b < N → a ≠ b → (T a).2.1 ≠ (T b).2.1) ∧ ty0 j = ty ∧ (T j).2.2.2 = fin
theorem zi_get (O : zOK own cc nL ret rm p R s m args meth c D dA A) {index ci j q : Nat} {ty : FieldType} {fin : Bool} {fs : List Value} {v : Value} (F : zF own index ci j ty fin) (d : decode cc pc = .ok (.getfield index, 3)) (he : h[q]? = some (.inr (ci, fs))) (hv : fs[j]? = some v) (K : zG p l e R s m args below meth c D dA A ad0 n0 nL Q mc ms k n (pc + 3) ls (v :: st) h) : zG p l e R s m args below meth c D dA A ad0 n0 nL Q mc ms k n pc ls (.ref q :: st) h := by
  obtain ⟨C, T, N, ty0, F1, F2, F3, F4, F5, F6, F7, F8, F9⟩ := F
  obtain ⟨-, o1, o2, o3, o4, o5, o6, o7, o8, o9, o10⟩ := O
  exact fun ad H locs L h1 h2 h3 h4 h5 => va_get (D := D) (ci := ci) (v := zv ad v) (C := C) (T := T) (N := N) (fs := fs.map (zv ad)) (ref := C) o1 o2 o5 F5 o4 o8 h3 q (zw_at q he) F1 j F2 (o5 _ F3) (fun x hx => by rw [F4] at hx; exact hx) (by rw [List.getElem?_map, hv]; rfl) d (K ad H locs L h1 h2 h3 h4 h5)
theorem zi_put (O : zOK own cc nL ret rm p R s m args meth c D dA A) {index ci j q : Nat} {ty : FieldType} {fs : List Value} {v : Value} {h' : List zE} (F : zF own index ci j ty false) (d : decode cc pc = .ok (.putfield index, 3)) (he : h[q]? = some (.inr (ci, fs))) (hj : j < fs.length) (hn : ∀ ad, narrow ty (zv ad v) = zv ad v) (hf : ∀ ad, fits ty (zv ad v) = true) (hh : h.set q (.inr (ci, fs.set j v)) = h') (K : zG p l e R s m args below meth c D dA A ad0 n0 nL Q mc ms k n (pc + 3) ls st h') : zG p l e R s m args below meth c D dA A ad0 n0 nL Q mc ms k n pc ls (v :: .ref q :: st) h := by
  subst hh
  obtain ⟨C, T, N, ty0, F1, F2, F3, F4, F5, F6, F7, F8, F9⟩ := F
  obtain ⟨-, o1, o2, o3, o4, o5, o6, o7, o8, o9, o10⟩ := O
  intro ad H locs L h1 h2 h3 h4 h5
  have e1 : zw dA ad (h.set q (.inr (ci, fs.set j v))) = (zw dA ad h).set q (ad q, .inr (ci, (fs.map (zv ad)).set j (zv ad v))) := by
    rw [zw_set, ← List.map_set]; rfl
  exact va_put (D := D) (ci := ci) (v := zv ad v) (ty := ty) (C := C) (T := T) (N := N) (fs := fs.map (zv ad)) (ref := C) o1 o2 o5 F5 ty0 F6 F7 o4 o8 h3 h4 h5 q (zw_at q he) F1 j F2 (o5 _ F3) (fun x hx => by rw [F4] at hx; exact hx) F9 (by rw [F6 j F2, F8]) (hn ad) (hf ad) (by simpa using hj) d
    (fun H1 locs1 a1 a2 a3 => K ad H1 locs1 L h1 h2 (by rw [e1]; exact a1) (by rw [e1]; exact a2) a3)
theorem zi_putF (O : zOK own cc nL ret rm p R s m args meth c D dA A) (hin : meth.name = "<init>") {index ci j q : Nat} {ty : FieldType} {fs : List Value} {v : Value} {h' : List zE} (F : zF own index ci j ty true) (d : decode cc pc = .ok (.putfield index, 3)) (hC : (vwCl[ci]?).map (fun x => x.1) = some own) (he : h[q]? = some (.inr (ci, fs))) (hj : j < fs.length) (hn : ∀ ad, narrow ty (zv ad v) = zv ad v) (hf : ∀ ad, fits ty (zv ad v) = true) (hh : h.set q (.inr (ci, fs.set j v)) = h') (K : zG p l e R s m args below meth c D dA A ad0 n0 nL Q mc ms k n (pc + 3) ls st h') : zG p l e R s m args below meth c D dA A ad0 n0 nL Q mc ms k n pc ls (v :: .ref q :: st) h := by
  subst hh
  obtain ⟨C, T, N, ty0, F1, F2, F3, F4, F5, F6, F7, F8, F9⟩ := F
  obtain ⟨-, o1, o2, o3, o4, o5, o6, o7, o8, o9, o10⟩ := O
  intro ad H locs L h1 h2 h3 h4 h5
  have e1 : zw dA ad (h.set q (.inr (ci, fs.set j v))) = (zw dA ad h).set q (ad q, .inr (ci, (fs.map (zv ad)).set j (zv ad v))) := by
    rw [zw_set, ← List.map_set]; rfl
  have e2 : C = own := by rw [F1] at hC; exact Option.some.inj hC
  exact va_putF (D := D) (ci := ci) (v := zv ad v) (ty := ty) (C := C) (T := T) (N := N) (fs := fs.map (zv ad)) (ref := C) o1 o2 o5 F5 ty0 F6 F7 o4 o8 h3 h4 h5 q (zw_at q he) F1 j F2 (o5 _ F3) (fun x hx => by rw [F4] at hx; exact hx) F9 hin (F4.trans e2) (by rw [F6 j F2, F8]) (hn ad) (hf ad) (by simpa using hj) d
    (fun H1 locs1 a1 a2 a3 => K ad H1 locs1 L h1 h2 (by rw [e1]; exact a1) (by rw [e1]; exact a2) a3)
theorem zi_iald (O : zOK own cc nL ret rm p R s m args meth c D dA A) {q N a : Nat} {f : Nat → Int32} {i : Int32} (d : decode cc pc = .ok (.iaload, 1)) (he : h[q]? = some (.inl (0, N, .inl f))) (hi : i = nI a) (ha : a < N) (hN : N < 2 ^ 31) (K : zG p l e R s m args below meth c D dA A ad0 n0 nL Q mc ms k n (pc + 1) ls (.int (f a) :: st) h) : zG p l e R s m args below meth c D dA A ad0 n0 nL Q mc ms k n pc ls (.int i :: .ref q :: st) h := by
  subst hi
  obtain ⟨-, o1, o2, o3, o4, o5, o6, o7, o8, o9, o10⟩ := O
  intro ad H locs L h1 h2 h3 h4 h5
  refine va_iald o1 o2 o8 h3 q 0 (zw_at q he) rfl (vp_in_nI ha hN) d ?_
  rw [nI_clamp (by omega)]
  exact K ad H locs L h1 h2 h3 h4 h5
theorem zi_iast (O : zOK own cc nL ret rm p R s m args meth c D dA A) {q N a : Nat} {f : Nat → Int32} {i x : Int32} {h' : List zE} (d : decode cc pc = .ok (.iastore, 1)) (he : h[q]? = some (.inl (0, N, .inl f))) (hi : i = nI a) (ha : a < N) (hN : N < 2 ^ 31) (hh : h.set q (.inl (0, N, .inl (upd f a x))) = h') (K : zG p l e R s m args below meth c D dA A ad0 n0 nL Q mc ms k n (pc + 1) ls st h') : zG p l e R s m args below meth c D dA A ad0 n0 nL Q mc ms k n pc ls (.int x :: .int i :: .ref q :: st) h := by
  subst hi
  subst hh
  obtain ⟨-, o1, o2, o3, o4, o5, o6, o7, o8, o9, o10⟩ := O
  intro ad H locs L h1 h2 h3 h4 h5
  refine va_iast o1 o2 o8 h3 h4 h5 q 0 (zw_at q he) rfl (vp_in_nI ha hN) d ?_
  rw [nI_clamp (by omega)]
  exact fun H1 locs1 a1 a2 a3 => K ad H1 locs1 L h1 h2 (by rw [zw_set]; exact a1) (by rw [zw_set]; exact a2) a3
theorem zi_alen (O : zOK own cc nL ret rm p R s m args meth c D dA A) {q N : Nat} {f : Nat → Int32} (d : decode cc pc = .ok (.arraylength, 1)) (he : h[q]? = some (.inl (0, N, .inl f))) (K : zG p l e R s m args below meth c D dA A ad0 n0 nL Q mc ms k n (pc + 1) ls (.int (nI N) :: st) h) : zG p l e R s m args below meth c D dA A ad0 n0 nL Q mc ms k n pc ls (.ref q :: st) h := by
  obtain ⟨-, o1, o2, o3, o4, o5, o6, o7, o8, o9, o10⟩ := O
  exact fun ad H locs L h1 h2 h3 h4 h5 => va_alen o1 o2 o8 h3 q 0 (zw_at q he) rfl rfl d (K ad H locs L h1 h2 h3 h4 h5)
end ZI
end
section
/-! CALLS: the callee's cells are those at the places ρ of the caller's; what it makes comes behind the caller's -/
def zr (ρ : List Nat) (N i : Nat) : Nat := (ρ[i]?).getD (N + (i - ρ.length))
def zset : List Nat → List zE → List zE → List zE
  | i :: ρ, e :: es, h => zset ρ es (h.set i e)
  | [], _, h => h
  | _ :: _, [], h => h
def zput (ρ : List Nat) (h h' : List zE) : List zE := zset ρ (h'.map (zc (zr ρ h.length))) h ++ (h'.drop ρ.length).map (zc (zr ρ h.length))
theorem zset_len : ∀ (ρ : List Nat) (es h : List zE), (zset ρ es h).length = h.length
  | i :: ρ, e :: es, h => by rw [zset, zset_len, List.length_set]
  | [], _, _ => by rw [zset]
  | _ :: _, [], _ => by rw [zset]
theorem zset_out : ∀ (ρ : List Nat) (es h : List zE) (j : Nat), j ∉ ρ → (zset ρ es h)[j]? = h[j]?
  | i :: ρ, e :: es, h, j, hj => by
    rw [zset, zset_out ρ es _ j (fun z => hj (List.mem_cons_of_mem _ z)), List.getElem?_set_ne (fun z => hj (by rw [z]; exact List.mem_cons_self))]
  | [], _, _, _, _ => by rw [zset]
  | _ :: _, [], _, _, _ => by rw [zset]
theorem zset_in : ∀ (ρ : List Nat) (es h : List zE) (i j : Nat) (e : zE), va_nd ρ = true → ρ[i]? = some j → es[i]? = some e → j < h.length → (zset ρ es h)[j]? = some e
  | [], _, _, i, j, e, _, h1, _, _ => by simp at h1
  | _ :: _, [], _, i, j, e, _, _, h2, _ => by simp at h2
  | a :: ρ, b :: es, h, i, j, e, hn, h1, h2, h3 => by
    simp only [va_nd, Bool.and_eq_true, decide_eq_true_eq] at hn
    rw [zset]
    cases i with
    | zero =>
      rw [List.getElem?_cons_zero] at h1 h2
      cases h1; cases h2
      rw [zset_out ρ es _ a hn.1, List.getElem?_set_self h3]
    | succ i =>
      rw [List.getElem?_cons_succ] at h1 h2
      exact zset_in ρ es _ i j e hn.2 h1 h2 (by rw [List.length_set]; exact h3)
section ZC
variable {own : String} {cc : ByteArray} {nL : Nat} {ret : Option FieldType} {rm : Room} {p : Program} {l : Launch} {e : Env} {R : Room} {s : State} {m : MethodId} {args : Array Value} {below : List Frame} {meth : Method} {c : Code} {D : va_G} {dA : Nat → ClassId} {A : Nat → Prop} {ad0 : Nat → Nat} {n0 : Nat} {Q : Option Value → List zE → Prop} {mc ms k n pc : Nat} {ls : List (Option Value)} {st : List Value} {h : List zE}
theorem z_sub {ρ : List Nat} {hC : List zE} (hh : ρ.map (fun i => h[i]?) = hC.map (fun x => some (zc (zr ρ h.length) x))) (ad : Nat → Nat) : ρ.map (fun i => (zw dA ad h)[i]?) = (zw dA (fun i => ad (zr ρ h.length i)) hC).map some := by
  apply List.ext_getElem?
  intro i
  have hi := congrArg (fun l => l[i]?) hh
  simp only [List.getElem?_map] at hi ⊢
  cases hρ : ρ[i]? with
  | none =>
    rw [hρ] at hi
    cases hx : hC[i]? with
    | none =>
      have hz : (zw dA (fun i => ad (zr ρ h.length i)) hC)[i]? = none := by rw [zw, List.getElem?_mapIdx, hx]; rfl
      rw [hz]; rfl
    | some x => rw [hx] at hi; cases hi
  | some j =>
    rw [hρ] at hi
    cases hx : hC[i]? with
    | none => rw [hx] at hi; cases hi
    | some x =>
      rw [hx] at hi
      have h1 : h[j]? = some (zc (zr ρ h.length) x) := Option.some.inj hi
      rw [zw_at i hx]
      show some ((zw dA ad h)[j]?) = some (some _)
      rw [zw_at j h1, zc_comp]
      have h2 : zr ρ h.length i = j := by rw [zr, hρ]; rfl
      rw [h2]
set_option maxHeartbeats 1000000 in
theorem zi_after (hA : ∀ q, s.heap.size ≤ q → A q) {ρ : List Nat} {hC : List zE} {Q' : Option Value → List zE → Prop} {st0 rest : List Value} {mc' ms' : Nat} {a : (Nat → Nat) → Array Value} (hnd : va_nd ρ = true) (hh : ρ.map (fun i => h[i]?) = hC.map (fun x => some (zc (zr ρ h.length) x))) (hok : h.all (zok h.length) = true) (hls : ls.all (zlok h.length) = true) (hst : rest.all (zvok h.length) = true) (hn0 : n0 ≤ h.length)
    (run : ∀ (ad : Nat → Nat) (H : Heap) (locs : List Loc) (L : Array Slot), lv_has L nL (zl ad ls) → va_P D vwCl (zw dA ad h) H → va_P D vwCl (zw dA (fun i => ad (zr ρ h.length i)) hC) H → va_D (fun _ => True) (zw dA (fun i => ad (zr ρ h.length i)) hC) →
      va_Run p l e R s m args below meth c H locs k n mc' ms' (F0 m pc L (st0.map (zv ad))) (rest.map (zv ad)) (zQc D dA (va_A (zw dA (fun i => ad (zr ρ h.length i)) hC) H.size) (fun i => ad (zr ρ h.length i)) hC.length Q' (a ad)) (va_A (zw dA (fun i => ad (zr ρ h.length i)) hC) H.size))
    (K : ∀ (r : Option Value) (h' : List zE), Q' r h' → hC.length ≤ h'.length → zG p l e R s m args below meth c D dA A ad0 n0 nL Q mc ms (k + mc') (n + ms') (pc + 3) ls ((r.map (zv (zr ρ h.length))).toList ++ rest) (zput ρ h h')) : zG p l e R s m args below meth c D dA A ad0 n0 nL Q mc ms k n pc ls st0 h := by
  intro ad H locs L h1 h2 h3 h4 h5
  have hlen : ρ.length = hC.length := by simpa using congrArg List.length hh
  have hsub := z_sub (dA := dA) hh ad
  have hρlt : ∀ i j : Nat, ρ[i]? = some j → j < h.length := by
    intro i j hi
    have h6 := congrArg (fun l => l[i]?) hh
    simp only [List.getElem?_map, hi] at h6
    cases hx : hC[i]? with
    | none => rw [hx] at h6; cases h6
    | some x => rw [hx] at h6; exact (List.getElem?_eq_some_iff.mp (Option.some.inj h6)).1
  generalize hadC : (fun i => ad (zr ρ h.length i)) = adC at hsub
  have at' : ∀ (i : Nat) (q : Nat × va_E), (zw dA adC hC)[i]? = some q → ∃ j, ρ[i]? = some j ∧ (zw dA ad h)[j]? = some q := by
    intro i q hq
    have h6 : (ρ.map (fun i => (zw dA ad h)[i]?))[i]? = some (some q) := by rw [hsub, List.getElem?_map, hq]; rfl
    rw [List.getElem?_map] at h6
    cases hi : ρ[i]? with
    | none => rw [hi] at h6; cases h6
    | some j => rw [hi] at h6; exact ⟨j, rfl, Option.some.inj h6⟩
  have hPc : va_P D vwCl (zw dA adC hC) H := by
    intro i q hq
    obtain ⟨j, -, hj⟩ := at' i q hq
    exact h3 j q hj
  have hDc : va_D A (zw dA adC hC) := h4.sub ρ hnd hsub
  have hFc : ∀ q, va_A (zw dA adC hC) H.size q → A q := va_free h4 h5 hA ρ hsub
  have run := run ad H locs L h2 h3 (by rw [hadC]; exact hPc) (by rw [hadC]; exact hDc.weaken (fun _ _ _ _ => trivial))
  rw [hadC] at run
  intro T hT X
  obtain ⟨v, st₀, t, T', L', e0, X', hL, e1, e2, ⟨⟨r, h', ad', hv, hq, had, hlen', hP', hK', hD'⟩, hz, hk⟩, stp⟩ := run T hT X
  cases hv
  rw [e0] at hz hk
  obtain ⟨ad2, had2⟩ : ∃ ad2 : Nat → Nat, ad2 = fun j => if j < h.length then ad j else ad' (ρ.length + (j - h.length)) := ⟨_, rfl⟩
  have hfg : ∀ i, i < h.length → ad i = ad2 i := fun i hi => by rw [had2]; exact (if_pos hi).symm
  have hcomp : ∀ i, ad2 (zr ρ h.length i) = ad' i := by
    intro i
    by_cases hi : i < ρ.length
    · have hj : ρ[i]? = some ρ[i] := List.getElem?_eq_getElem hi
      have hz1 : zr ρ h.length i = ρ[i] := by rw [zr, hj]; rfl
      rw [had i (by omega), ← hadC]
      show ad2 (zr ρ h.length i) = ad (zr ρ h.length i)
      rw [hz1, hfg _ (hρlt i _ hj)]
    · have hj : ρ[i]? = none := List.getElem?_eq_none (by omega)
      have hz1 : zr ρ h.length i = h.length + (i - ρ.length) := by rw [zr, hj]; rfl
      rw [hz1, had2]
      show (if h.length + (i - ρ.length) < h.length then _ else _) = _
      rw [if_neg (by omega)]
      congr 1
      omega
  have hzc : ∀ x, zc ad2 (zc (zr ρ h.length) x) = zc ad' x := by
    intro x
    rw [zc_comp]
    congr 1
    funext i
    exact hcomp i
  have key : ∀ (j : Nat) (q : Nat × va_E), (zw dA ad2 (zput ρ h h'))[j]? = some q → (∃ (i : Nat) (x : zE), h'[i]? = some x ∧ q = (ad' i, zD dA (zc ad' x)) ∧ zr ρ h.length i = j) ∨ (j < h.length ∧ j ∉ ρ ∧ (zw dA ad h)[j]? = some q) := by
    intro j q hj
    obtain ⟨x, hx, rfl⟩ := zw_inv hj
    rw [zput] at hx
    by_cases hl : j < h.length
    · rw [List.getElem?_append_left (by rw [zset_len]; exact hl)] at hx
      by_cases hm : j ∈ ρ
      · obtain ⟨i, hi⟩ := List.getElem?_of_mem hm
        have hil : i < ρ.length := (List.getElem?_eq_some_iff.mp hi).1
        have hy : h'[i]? = some h'[i] := List.getElem?_eq_getElem (by omega)
        rw [zset_in ρ _ h i j _ hnd hi (by rw [List.getElem?_map, hy]; rfl) hl] at hx
        cases hx
        have hzi : zr ρ h.length i = j := by rw [zr, hi]; rfl
        refine Or.inl ⟨i, _, hy, ?_, hzi⟩
        rw [hzc, ← hcomp i, hzi]
      · rw [zset_out _ _ _ _ hm] at hx
        refine Or.inr ⟨hl, hm, ?_⟩
        rw [zw_at j hx, hfg j hl, zc_eq hfg (List.all_eq_true.mp hok x (List.mem_of_getElem? hx))]
    · rw [List.getElem?_append_right (by rw [zset_len]; omega), zset_len, List.getElem?_map, List.getElem?_drop] at hx
      cases hy : h'[ρ.length + (j - h.length)]? with
      | none => rw [hy] at hx; cases hx
      | some y =>
        rw [hy] at hx
        cases hx
        have hzi : zr ρ h.length (ρ.length + (j - h.length)) = j := by
          rw [zr, List.getElem?_eq_none (by omega)]
          show h.length + _ = j
          omega
        refine Or.inl ⟨_, y, hy, ?_, hzi⟩
        rw [hzc, ← hcomp, hzi]
  have apart : ∀ (j : Nat) (q : Nat × va_E), j ∉ ρ → (zw dA ad h)[j]? = some q → q.1 < H.size ∧ ¬ va_A (zw dA adC hC) H.size q.1 := by
    intro j q hm hq2
    have hl := (h3 j q hq2).lt
    refine ⟨hl, fun hz2 => ?_⟩
    rcases hz2 with ⟨k2, x, hx⟩ | hx
    · obtain ⟨j2, hj2, hj3⟩ := at' k2 (q.1, x) hx
      have := h4.1 j j2 q (q.1, x) hq2 hj3 rfl
      subst this
      exact hm (List.mem_of_getElem? hj2)
    · omega
  have hP2 : va_P D vwCl (zw dA ad2 (zput ρ h h')) T'.heap := by
    intro j q hj
    rw [e1]
    rcases key j q hj with ⟨i, x, hx, rfl, -⟩ | ⟨hl, hm, hq2⟩
    · exact hP' i _ (zw_at i hx)
    · obtain ⟨a1, a2⟩ := apart j q hm hq2
      exact (h3 j q hq2).kept (hk q.1 a1 a2)
  have hD2 : va_D A (zw dA ad2 (zput ρ h h')) := by
    refine ⟨fun i j x y hi hj hxy => ?_, fun j q hj => ?_⟩
    · rcases key i x hi with ⟨i1, x1, a1, rfl, a3⟩ | ⟨a1, a2, a3⟩ <;> rcases key j y hj with ⟨i2, x2, b1, rfl, b3⟩ | ⟨b1, b2, b3⟩
      · have := hD'.1 i1 i2 _ _ (zw_at i1 a1) (zw_at i2 b1) hxy
        rw [← a3, ← b3, this]
      · exact absurd (by rw [← hxy]; exact hD'.2 i1 _ (zw_at i1 a1)) (apart j y b2 b3).2
      · exact absurd (by rw [hxy]; exact hD'.2 i2 _ (zw_at i2 b1)) (apart i x a2 a3).2
      · exact h4.1 i j x y a3 b3 hxy
    · rcases key j q hj with ⟨i1, x1, a1, rfl, a3⟩ | ⟨a1, a2, a3⟩
      · exact hFc _ (hD'.2 i1 _ (zw_at i1 a1))
      · exact h4.2 j q a3
  have hS2 : va_S A s.heap T'.heap (locs ++ L') := by
    refine ⟨Nat.le_trans h5.1 (by rw [e1]; exact hz), fun q a1 a2 => ?_, fun q hq => ?_⟩
    · rw [e1, hk q (Nat.lt_of_lt_of_le a1 h5.1) (fun z => a2 (hFc q z))]
      exact h5.2.1 q a1 a2
    · rcases List.mem_append.mp hq with h | h
      · exact h5.2.2 q h
      · exact hFc _ (hL q h)
  obtain ⟨t2, s1, s2⟩ := K r h' hq hlen' ad2 T'.heap (locs ++ L') L (fun i hi => by rw [← hfg i (by omega)]; exact h1 i hi) (zl_ext hfg hls h2) hP2 hD2 hS2 T' rfl X'
  refine ⟨t2, stp t2 ?_, s2⟩
  have e3 : ((r.map (zv (zr ρ h.length))).toList ++ rest).map (zv ad2) = (r.map (zv ad')).toList ++ rest.map (zv ad) := by
    rw [List.map_append, ← zs_ext hfg hst]
    congr 1
    cases r with
    | none => rfl
    | some v =>
      show [zv ad2 (zv _ v)] = [zv ad' v]
      rw [zv_comp]
      congr 2
      funext i
      exact hcomp i
  rw [e3] at s1
  exact s1

theorem zt_goodIn {w : Cond} (h : w ∈ zt) : GoodIn zt (w :: zt) := by
  intro v hv
  rcases List.mem_cons.mp hv with rfl | hv
  · exact ⟨h, good_of_word (zt_good h)⟩
  · exact ⟨hv, good_of_word (zt_good hv)⟩
/-- what a call at an entry of the pool says: the method, its class's number, how many arguments -/
def zCB (y : MethodName) (np : Nat) : Prop := Cond.initialized y.cls ∈ zt ∧ y.cls ≠ "java/lang/invoke/MethodHandle" ∧ y.cls ≠ "java/lang/invoke/VarHandle" ∧ (parseMethodDescriptor y.desc).map (fun d => d.parameters.length) = some np
def zCV (own : String) (index : Nat) (y : MethodName) (ci np : Nat) : Prop := zCB y np ∧ Cond.methodLink own index y ∈ zt ∧ Cond.instanceMethod y ∈ zt ∧ Cond.selects y.cls y y ∈ zt ∧ (vwCl[ci]?).map (fun x => x.1) = some y.cls
def zCS (own : String) (index : Nat) (y : MethodName) (np : Nat) : Prop := zCB y np ∧ Cond.methodLink own index y ∈ zt ∧ Cond.static y ∈ zt
def zCI (own : String) (index : Nat) (y : MethodName) (np : Nat) : Prop := zCB y np ∧ (Cond.methodLink own index y ∈ zt ∨ ∃ host, (own, index, y, host) ∈ zNs) ∧ Cond.instanceMethod y ∈ zt ∧ y.name = "<init>"
theorem z_blind {av : List Value} {D : va_G} {dA : Nat → ClassId} {sz : Nat} {w : va_W} : FrameBlind (va_Pc av (fun U => U.heap.size = sz ∧ va_P D vwCl w U.heap ∧ va_K D vwCl (ztys dA) U ∧ va_D (fun _ => True) w ∧ zNst U)) := by
  intro a U g mk q
  obtain ⟨q0, q1, qP, qK, qD, qN⟩ := q
  exact ⟨q0, q1, qP, va_K.moved (u := U) (U := U.calling g mk a) (Vm.Alike.refl U.vm) qK, qD, fun x hx => va_Nw.same rfl (u := U) (U := U.calling g mk a) rfl (qN x hx)⟩
theorem z_stk (f g : Nat → Nat) (As : List Value) : (As.map (zv (fun i => f (g i)))).reverse = ((As.map (zv g)).reverse).map (zv f) := by
  rw [List.map_reverse, List.map_map]
  congr 1
  apply List.map_congr_left
  intro v _
  exact (zv_comp f g v).symm
theorem z_cat (f : Nat → Nat) (st : List Value) : (st.map (zv f)).map (fun v => v.category) = st.map (fun v => v.category) := by
  rw [List.map_map]
  apply List.map_congr_left
  intro v _
  exact zv_cat f v
set_option maxHeartbeats 1000000 in
theorem zi_callV (O : zOK own cc nL ret rm p R s m args meth c D dA A) {index ci np : Nat} {y : MethodName} {cc' : ByteArray} {nL' : Nat} {ret' : Option FieldType} {rm' : Room} {a0 : Nat} {As : List Value} {hC : List zE} {Q' : Option Value → List zE → Prop} {rest : List Value} {fs : List Value} (ρ : List Nat)
    (C : zCV own index y ci np) (cm : Cond.code y cc' nL' ret' ∈ zt) (hM : zMet y cc' nL' ret' rm' (.ref a0 :: As) hC Q') (d : decode cc pc = .ok (.invokevirtual index, 3)) (hR : rm'.frames + 1 ≤ rm.frames ∧ 8 + (nL' + 11) + rm'.locals ≤ rm.locals) (hf : k + rm'.cells ≤ rm.cells ∧ n + rm'.slots ≤ rm.slots) (hnA : As.length = np) (hrec : hC[a0]? = some (.inr (ci, fs))) (hrs : (rest.map fun v => v.category).sum ≤ 8)
    (hnd : va_nd ρ = true) (hh : ρ.map (fun i => h[i]?) = hC.map (fun x => some (zc (zr ρ h.length) x))) (hok : h.all (zok h.length) = true) (hls : ls.all (zlok h.length) = true) (hst : rest.all (zvok h.length) = true) (hn0 : n0 ≤ h.length) (hstk : st = (As.map (zv (zr ρ h.length))).reverse ++ .ref (zr ρ h.length a0) :: rest)
    (K : ∀ (r : Option Value) (h' : List zE), Q' r h' → hC.length ≤ h'.length → zG p l e R s m args below meth c D dA A ad0 n0 nL Q mc ms (k + rm'.cells) (n + rm'.slots) (pc + 3) ls ((r.map (zv (zr ρ h.length))).toList ++ rest) (zput ρ h h')) : zG p l e R s m args below meth c D dA A ad0 n0 nL Q mc ms k n pc ls st h := by
  obtain ⟨rfl, o1, o2, o3, o4, o5, o6, o7, o8, o9, o10⟩ := O
  obtain ⟨⟨c1, c2, c3, c4⟩, c5, c6, c7, c8⟩ := C
  subst hstk
  refine zi_after o9 hnd hh hok hls hst hn0 (a := fun ad => (Value.ref (ad (zr ρ h.length a0)) :: As.map (zv (fun i => ad (zr ρ h.length i)))).toArray) ?_ K
  intro ad H locs L hL h3 hPc hDc
  obtain ⟨q, hq⟩ : ∃ q, vwCl[ci]? = some q := by
    cases hx : vwCl[ci]? with
    | none => rw [hx] at c8; cases c8
    | some q => exact ⟨q, rfl⟩
  have hq1 : q.1 = y.cls := by rw [hq] at c8; exact Option.some.inj c8
  have hcw : CallW R s args own y.cls index y cc' nL' ret' (.code y cc' nL' ret' :: zt) rm' rm'.cells rm'.slots np := ⟨callB_of np o5 (zt_goodIn cm) rfl rfl rfl (o5 _ c1) (o5 _ c5) ⟨c2, c3, c4⟩ hR, o5 _ c6, o5 _ c7⟩
  refine va_runV (As := As.map (zv (fun i => ad (zr ρ h.length i)))) (b := ad (zr ρ h.length a0)) ⟨o1, o2, o3, o4, o5⟩ (hM l D dA (fun i => ad (zr ρ h.length i)) H.size) hcw ⟨z_blind, ?_, fun U hU hW => ⟨rfl, by rw [hU], by rw [hU]; exact hPc, va_K.moved hW.alike o8, hDc, zNst.warm hW o10⟩⟩ rfl (by rw [List.length_map]; exact hnA) hL.1 ?_ (lv_room (by rw [z_cat]; exact hrs)) d hf
  · have := va_recv o8 hPc hq (zw_at a0 hrec)
    rw [hq1] at this
    exact this
  · show List.map (zv ad) _ = _
    rw [List.map_append, z_stk ad (zr ρ h.length) As]
    rfl
set_option maxHeartbeats 1000000 in
theorem zi_callS (O : zOK own cc nL ret rm p R s m args meth c D dA A) {index np : Nat} {y : MethodName} {cc' : ByteArray} {nL' : Nat} {ret' : Option FieldType} {rm' : Room} {As : List Value} {hC : List zE} {Q' : Option Value → List zE → Prop} {rest : List Value} (ρ : List Nat)
    (C : zCS own index y np) (cm : Cond.code y cc' nL' ret' ∈ zt) (hM : zMet y cc' nL' ret' rm' As hC Q') (d : decode cc pc = .ok (.invokestatic index, 3)) (hR : rm'.frames + 1 ≤ rm.frames ∧ 8 + (nL' + 11) + rm'.locals ≤ rm.locals) (hf : k + rm'.cells ≤ rm.cells ∧ n + rm'.slots ≤ rm.slots) (hnA : As.length = np) (hrs : (rest.map fun v => v.category).sum ≤ 8)
    (hnd : va_nd ρ = true) (hh : ρ.map (fun i => h[i]?) = hC.map (fun x => some (zc (zr ρ h.length) x))) (hok : h.all (zok h.length) = true) (hls : ls.all (zlok h.length) = true) (hst : rest.all (zvok h.length) = true) (hn0 : n0 ≤ h.length) (hstk : st = (As.map (zv (zr ρ h.length))).reverse ++ rest)
    (K : ∀ (r : Option Value) (h' : List zE), Q' r h' → hC.length ≤ h'.length → zG p l e R s m args below meth c D dA A ad0 n0 nL Q mc ms (k + rm'.cells) (n + rm'.slots) (pc + 3) ls ((r.map (zv (zr ρ h.length))).toList ++ rest) (zput ρ h h')) : zG p l e R s m args below meth c D dA A ad0 n0 nL Q mc ms k n pc ls st h := by
  obtain ⟨rfl, o1, o2, o3, o4, o5, o6, o7, o8, o9, o10⟩ := O
  obtain ⟨⟨c1, c2, c3, c4⟩, c5, c6⟩ := C
  subst hstk
  refine zi_after o9 hnd hh hok hls hst hn0 (a := fun ad => (As.map (zv (fun i => ad (zr ρ h.length i)))).toArray) ?_ K
  intro ad H locs L hL h3 hPc hDc
  have hcw : CallB R s args own index y cc' nL' ret' (.code y cc' nL' ret' :: zt) rm' rm'.cells rm'.slots np := callB_of np o5 (zt_goodIn cm) rfl rfl rfl (o5 _ c1) (o5 _ c5) ⟨c2, c3, c4⟩ hR
  refine va_runS (As := As.map (zv (fun i => ad (zr ρ h.length i)))) ⟨o1, o2, o3, o4, o5⟩ (hM l D dA (fun i => ad (zr ρ h.length i)) H.size) ⟨hcw, o5 _ c6⟩ ⟨z_blind, fun U hU hW => ⟨rfl, by rw [hU], by rw [hU]; exact hPc, va_K.moved hW.alike o8, hDc, zNst.warm hW o10⟩⟩ rfl (by rw [List.length_map]; exact hnA) hL.1 ?_ (lv_room (by rw [z_cat]; exact hrs)) d hf
  show List.map (zv ad) _ = _
  rw [List.map_append, z_stk ad (zr ρ h.length) As]
set_option maxHeartbeats 1000000 in
theorem zi_callI (O : zOK own cc nL ret rm p R s m args meth c D dA A) {index np : Nat} {y : MethodName} {cc' : ByteArray} {nL' : Nat} {rm' : Room} {a0 : Nat} {As : List Value} {hC : List zE} {Q' : Option Value → List zE → Prop} {rest : List Value} (ρ : List Nat)
    (C : zCI own index y np) (cm : Cond.code y cc' nL' none ∈ zt) (hM : zMet y cc' nL' none rm' (.ref a0 :: As) hC Q') (d : decode cc pc = .ok (.invokespecial index, 3)) (hR : rm'.frames + 1 ≤ rm.frames ∧ 8 + (nL' + 11) + rm'.locals ≤ rm.locals) (hf : k + rm'.cells ≤ rm.cells ∧ n + rm'.slots ≤ rm.slots) (hnA : As.length = np) (hrs : (rest.map fun v => v.category).sum ≤ 8)
    (hnd : va_nd ρ = true) (hh : ρ.map (fun i => h[i]?) = hC.map (fun x => some (zc (zr ρ h.length) x))) (hok : h.all (zok h.length) = true) (hls : ls.all (zlok h.length) = true) (hst : rest.all (zvok h.length) = true) (hn0 : n0 ≤ h.length) (hstk : st = (As.map (zv (zr ρ h.length))).reverse ++ .ref (zr ρ h.length a0) :: rest)
    (K : ∀ (r : Option Value) (h' : List zE), Q' r h' → hC.length ≤ h'.length → zG p l e R s m args below meth c D dA A ad0 n0 nL Q mc ms (k + rm'.cells) (n + rm'.slots) (pc + 3) ls ((r.map (zv (zr ρ h.length))).toList ++ rest) (zput ρ h h')) : zG p l e R s m args below meth c D dA A ad0 n0 nL Q mc ms k n pc ls st h := by
  obtain ⟨rfl, o1, o2, o3, o4, o5, o6, o7, o8, o9, o10⟩ := O
  obtain ⟨⟨c1, c2, c3, c4⟩, c5, c6, c7⟩ := C
  subst hstk
  refine zi_after o9 hnd hh hok hls hst hn0 (a := fun ad => (Value.ref (ad (zr ρ h.length a0)) :: As.map (zv (fun i => ad (zr ρ h.length i)))).toArray) ?_ K
  intro ad H locs L hL h3 hPc hDc
  rcases c5 with c5 | ⟨host, c5⟩
  · have hcw : CallB R s args own index y cc' nL' none (.code y cc' nL' none :: zt) rm' rm'.cells rm'.slots np := callB_of np o5 (zt_goodIn cm) rfl rfl rfl (o5 _ c1) (o5 _ c5) ⟨c2, c3, c4⟩ hR
    refine va_runI (As := As.map (zv (fun i => ad (zr ρ h.length i)))) (b := ad (zr ρ h.length a0)) ⟨o1, o2, o3, o4, o5⟩ (hM l D dA (fun i => ad (zr ρ h.length i)) H.size) ⟨hcw, c7, o5 _ c6⟩ ⟨z_blind, fun U hU hW => ⟨rfl, by rw [hU], by rw [hU]; exact hPc, va_K.moved hW.alike o8, hDc, zNst.warm hW o10⟩⟩ rfl (by rw [List.length_map]; exact hnA) hL.1 ?_ (lv_room (by rw [z_cat]; exact hrs)) d hf
    show List.map (zv ad) _ = _
    rw [List.map_append, z_stk ad (zr ρ h.length) As]
    rfl
  · have hcw : va_CN R s args own index y host cc' nL' none (.code y cc' nL' none :: zt) rm' rm'.cells rm'.slots np := va_cnB np o5 (zt_goodIn cm) rfl rfl rfl (o10 _ c5) (o5 _ c1) ⟨c2, c3, c4⟩ hR
    refine va_runIN (As := As.map (zv (fun i => ad (zr ρ h.length i)))) (b := ad (zr ρ h.length a0)) ⟨o1, o2, o3, o4, o5⟩ (hM l D dA (fun i => ad (zr ρ h.length i)) H.size) ⟨hcw, c7, o5 _ c6⟩ ⟨z_blind, fun U hU hW => ⟨rfl, by rw [hU], by rw [hU]; exact hPc, va_K.moved hW.alike o8, hDc, zNst.warm hW o10⟩⟩ rfl (by rw [List.length_map]; exact hnA) hL.1 ?_ (lv_room (by rw [z_cat]; exact hrs)) d hf
    show List.map (zv ad) _ = _
    rw [List.map_append, z_stk ad (zr ρ h.length) As]
    rfl
end ZC
end
section
/-! more instructions: making cells, division, constants, copying; and numbers as naturals -/
section ZM
variable {own : String} {cc : ByteArray} {nL : Nat} {ret : Option FieldType} {rm : Room} {p : Program} {l : Launch} {e : Env} {R : Room} {s : State} {m : MethodId} {args : Array Value} {below : List Frame} {meth : Method} {c : Code} {D : va_G} {dA : Nat → ClassId} {A : Nat → Prop} {ad0 : Nat → Nat} {n0 : Nat} {Q : Option Value → List zE → Prop} {mc ms k n pc : Nat} {ls : List (Option Value)} {st : List Value} {h : List zE}
theorem z_newcell {ad : Nat → Nat} {H1 : Heap} {q : Nat} {x : zE} (hok : h.all (zok h.length) = true) (hx : zok 0 x = true) : zw dA (fun j => if j = h.length then q else ad j) (h ++ [x]) = zw dA ad h ++ [(q, zD dA (zc ad x))] := by
  have hfg : ∀ i, i < h.length → (fun j => if j = h.length then q else ad j) i = ad i := fun i hi => by
    show (if i = h.length then q else ad i) = ad i
    rw [if_neg (by omega)]
  rw [zw_push, zw_ext (Nat.le_refl _) hfg hok, zc_eq (f := fun j => if j = h.length then q else ad j) (g := ad) (N := 0) (fun i hi => absurd hi (Nat.not_lt_zero i)) hx]
  show _ ++ [((if h.length = h.length then q else ad h.length), _)] = _
  rw [if_pos rfl]
theorem zi_new (O : zOK own cc nL ret rm p R s m args meth c D dA A) {index ci N : Nat} {C : String} {T : u_T} {ty : Nat → FieldType} {fs : List Value} (d : decode cc pc = .ok (.new index, 3)) (hc : vwCl[ci]? = some (C, T, N)) (hin : ∀ w ∈ u_ws C T N, w ∈ zt) (hty : ∀ k, k < N → parseFieldDescriptor (T k).2.2.1 = some (ty k)) (w1 : Cond.classLink own index C ∈ zt) (w2 : Cond.instantiable C N ∈ zt) (w3 : Cond.initialized C ∈ zt) (hfs : ∀ j, j < N → defaultValue (ty j) = vp_V fs j) (hfo : zok 0 (.inr (ci, fs)) = true) (hk : k + 1 ≤ rm.cells) (hn : n + N ≤ rm.slots)
    (hok : h.all (zok h.length) = true) (hls : ls.all (zlok h.length) = true) (hst : st.all (zvok h.length) = true) (hn0 : n0 ≤ h.length) (K : zG p l e R s m args below meth c D dA A ad0 n0 nL Q mc ms (k + 1) (n + N) (pc + 3) ls (.ref h.length :: st) (h ++ [.inr (ci, fs)])) : zG p l e R s m args below meth c D dA A ad0 n0 nL Q mc ms k n pc ls st h := by
  obtain ⟨rfl, o1, o2, o3, o4, o5, o6, o7, o8, o9, o10⟩ := O
  intro ad H locs L h1 h2 h3 h4 h5
  refine va_new (ci := ci) (fs := fs) (C := C) (T := T) (N := N) o1 o2 o5 hin ty hty o4 (o5 _ w1) (o5 _ w2) (o5 _ w3) o8 h3 h4 h5 o9 hc hfs hk hn d (fun q H1 hP hD hS => ?_)
  have hfg : ∀ i, i < h.length → ad i = (fun j => if j = h.length then q else ad j) i := fun i hi => by
    show ad i = (if i = h.length then q else ad i)
    rw [if_neg (by omega)]
  have he : zD dA (zc ad (.inr (ci, fs))) = .inr (ci, fs) := by
    have : fs.map (zv ad) = fs := by
      conv => rhs; rw [← List.map_id fs]
      apply List.map_congr_left
      intro v hv
      have h6 := List.all_eq_true.mp hfo v hv
      cases v with
      | ref a => simp [zvok] at h6
      | _ => rfl
    show Sum.inr (ci, fs.map (zv ad)) = _
    rw [this]
  have hw := z_newcell (dA := dA) (ad := ad) (H1 := H1) (q := q) hok hfo
  rw [he] at hw
  have := K (fun j => if j = h.length then q else ad j) H1 locs L (fun i hi => (hfg i (by omega)).symm.trans (h1 i hi)) (zl_ext hfg hls h2) (by rw [hw]; exact hP) (by rw [hw]; exact hD) hS
  rw [List.map_cons, ← zs_ext hfg hst] at this
  rw [show zv (fun j => if j = h.length then q else ad j) (.ref h.length) = .ref q by show Value.ref (if h.length = h.length then q else _) = _; rw [if_pos rfl]] at this
  exact this
theorem z_dA {D : va_G} {cA : ClassId} (h1 : va_K D vwCl (ztys dA) s) (h2 : va_K D vwCl (ztys dA ++ [(cA, .int)]) s) : cA = dA 0 := by
  have a := (h1.2 0 _ rfl).2
  have b := (h2.2 1 _ rfl).2
  exact Option.some.inj (b.symm.trans a)
theorem zi_newa (O : zOK own cc nL ret rm p R s m args meth c D dA A) {x : Int32} {N : Nat} (d : decode cc pc = .ok (.newarray .int, 2)) (w1 : Cond.arrayClass .int ∈ zt) (hx : x = nI N) (hN : N ≤ 1000) (hk : k + 1 ≤ rm.cells) (hn : n + N ≤ rm.slots)
    (hok : h.all (zok h.length) = true) (hls : ls.all (zlok h.length) = true) (hst : st.all (zvok h.length) = true) (hn0 : n0 ≤ h.length) (K : zG p l e R s m args below meth c D dA A ad0 n0 nL Q mc ms (k + 1) (n + N) (pc + 2) ls (.ref h.length :: st) (h ++ [.inl (0, N, .inl (fun _ => 0))])) : zG p l e R s m args below meth c D dA A ad0 n0 nL Q mc ms k n pc ls (.int x :: st) h := by
  obtain ⟨rfl, o1, o2, o3, o4, o5, o6, o7, o8, o9, o10⟩ := O
  subst hx
  intro ad H locs L h1 h2 h3 h4 h5
  refine va_newa (atype := .int) (ty := .int) (a0 := (N, .inl (fun _ => 0))) (N' := N) o1 o2 (o5 _ w1) rfl o8 h3 h4 h5 o9 (fun cA => rfl) (nI_pos (by omega)) (nI_clamp (by omega)) (by show N * 4 ≤ _; omega) hk hn d (fun q cA H1 hK hP hD hS => ?_)
  have hcA := z_dA o8 hK
  subst hcA
  have hfg : ∀ i, i < h.length → ad i = (fun j => if j = h.length then q else ad j) i := fun i hi => by
    show ad i = (if i = h.length then q else ad i)
    rw [if_neg (by omega)]
  have hw := z_newcell (dA := dA) (ad := ad) (H1 := H1) (q := q) (x := .inl (0, N, .inl (fun _ => 0))) hok rfl
  have := K (fun j => if j = h.length then q else ad j) H1 locs L (fun i hi => (hfg i (by omega)).symm.trans (h1 i hi)) (zl_ext hfg hls h2) (by rw [hw]; exact hP) (by rw [hw]; exact hD) hS
  rw [List.map_cons, ← zs_ext hfg hst] at this
  rw [show zv (fun j => if j = h.length then q else ad j) (.ref h.length) = .ref q by show Value.ref (if h.length = h.length then q else _) = _; rw [if_pos rfl]] at this
  exact this
theorem zi_objInit (O : zOK own cc nL ret rm p R s m args meth c D dA A) {idx a : Nat} (d : decode cc pc = .ok (.invokespecial idx, 3)) (w1 : Cond.methodLink own idx objectInit ∈ zt) (w2 : Cond.instanceMethod objectInit ∈ zt) (w3 : Cond.code objectInit ⟨#[0xb1]⟩ 1 none ∈ zt) (hf : 1 ≤ rm.frames) (hl : (st.map fun v => v.category).sum + 12 ≤ rm.locals) (K : zG p l e R s m args below meth c D dA A ad0 n0 nL Q mc ms k n (pc + 3) ls st h) : zG p l e R s m args below meth c D dA A ad0 n0 nL Q mc ms k n pc ls (.ref a :: st) h := by
  obtain ⟨rfl, o1, o2, o3, o4, o5, o6, o7, o8, o9, o10⟩ := O
  intro ad H locs L h1 h2 h3 h4 h5
  refine W.objInit o1 o2 o4 (o5 _ w1) (o5 _ w2) (o5 _ w3) rfl (by rw [o3]; exact h2.1) rfl d hf ?_ (K ad H locs L h1 h2 h3 h4 h5)
  show 0 + _ + 12 ≤ _
  rw [z_cat, Nat.zero_add]
  exact hl
theorem zi_copy (O : zOK own cc nL ret rm p R s m args meth c D dA A) {index q1 q2 N1 N2 a1 a2 b : Nat} {f g : Nat → Int32} {x1 x2 y : Int32} {h' : List zE} (d : decode cc pc = .ok (.invokestatic index, 3)) (w1 : Cond.methodLink own index arraycopyName ∈ zt) (w2 : Cond.native arraycopyName ∈ zt) (w3 : Cond.static arraycopyName ∈ zt) (w4 : Cond.initialized "java/lang/System" ∈ zt) (he1 : h[q1]? = some (.inl (0, N1, .inl f))) (he2 : h[q2]? = some (.inl (0, N2, .inl g))) (hx1 : x1 = nI a1) (hx2 : x2 = nI a2) (hy : y = nI b) (hb1 : a1 + b ≤ N1) (hb2 : a2 + b ≤ N2) (hN1 : N1 ≤ 1000) (hN2 : N2 ≤ 1000) (hf : 1 ≤ rm.frames) (hl : (st.map fun v => v.category).sum + (nativeFrameWords "java/lang/System" "arraycopy" 5 + 11) ≤ rm.locals)
    (hh : h.set q2 (.inl (0, N2, .inl (va_cpy f g a1 a2 b))) = h') (K : zG p l e R s m args below meth c D dA A ad0 n0 nL Q mc ms k n (pc + 3) ls st h') : zG p l e R s m args below meth c D dA A ad0 n0 nL Q mc ms k n pc ls (.int y :: .int x2 :: .ref q2 :: .int x1 :: .ref q1 :: st) h := by
  obtain ⟨rfl, o1, o2, o3, o4, o5, o6, o7, o8, o9, o10⟩ := O
  subst hx1; subst hx2; subst hy; subst hh
  intro ad H locs L h1 h2 h3 h4 h5
  have e1 : (nI a1).toNatClampNeg = a1 := nI_clamp (by omega)
  have e2 : (nI a2).toNatClampNeg = a2 := nI_clamp (by omega)
  have e3 : (nI b).toNatClampNeg = b := nI_clamp (by omega)
  refine va_copyi (rest := st.map (zv ad)) o1 o2 (by rw [o3]; exact h2.1.symm) o4 (o5 _ w1) (o5 _ w2) (o5 _ w3) (o5 _ w4) o8 h3 h4 h5 q1 q2 0 0 (zw_at q1 he1) (zw_at q2 he2) rfl rfl rfl (nI_pos (by omega)) (nI_pos (by omega)) (nI_pos (by omega)) (by rw [e1, e3]; exact hb1) (by rw [e2, e3]; exact hb2) (fun i _ => rfl) hf (by rw [z_cat]; exact hl) d ?_
  rw [e1, e2, e3]
  exact fun H1 locs1 a1 a2 a3 => K ad H1 locs1 L h1 h2 (by rw [zw_set]; exact a1) (by rw [zw_set]; exact a2) a3
theorem zi_iconstN (O : zOK own cc nL ret rm p R s m args meth c D dA A) {x : Int} (v : Nat) (d : decode cc pc = .ok (.iconst x, 1)) (hv : Int32.ofInt x = nI v) (K : zG p l e R s m args below meth c D dA A ad0 n0 nL Q mc ms k n (pc + 1) ls (.int (nI v) :: st) h) : zG p l e R s m args below meth c D dA A ad0 n0 nL Q mc ms k n pc ls st h := zi_iconst O d hv K
theorem zi_bipushN (O : zOK own cc nL ret rm p R s m args meth c D dA A) {x : Int} (v : Nat) (d : decode cc pc = .ok (.bipush x, 2)) (hv : (Int8.ofInt x).toInt32 = nI v) (K : zG p l e R s m args below meth c D dA A ad0 n0 nL Q mc ms k n (pc + 2) ls (.int (nI v) :: st) h) : zG p l e R s m args below meth c D dA A ad0 n0 nL Q mc ms k n pc ls st h := zi_bipush O d hv K
theorem zi_sipushN (O : zOK own cc nL ret rm p R s m args meth c D dA A) {x : Int} (v : Nat) (d : decode cc pc = .ok (.sipush x, 3)) (hv : (Int16.ofInt x).toInt32 = nI v) (K : zG p l e R s m args below meth c D dA A ad0 n0 nL Q mc ms k n (pc + 3) ls (.int (nI v) :: st) h) : zG p l e R s m args below meth c D dA A ad0 n0 nL Q mc ms k n pc ls st h := zi_sipush O d hv K
theorem zi_iaddN (O : zOK own cc nL ret rm p R s m args meth c D dA A) {a b : Nat} (d : decode cc pc = .ok (.iadd, 1)) (K : zG p l e R s m args below meth c D dA A ad0 n0 nL Q mc ms k n (pc + 1) ls (.int (nI (a + b)) :: st) h) : zG p l e R s m args below meth c D dA A ad0 n0 nL Q mc ms k n pc ls (.int (nI b) :: .int (nI a) :: st) h := zi_iadd O d (zi_top (nI_add a b) K)
theorem zi_isubN (O : zOK own cc nL ret rm p R s m args meth c D dA A) {a b : Nat} (d : decode cc pc = .ok (.isub, 1)) (hb : b ≤ a) (K : zG p l e R s m args below meth c D dA A ad0 n0 nL Q mc ms k n (pc + 1) ls (.int (nI (a - b)) :: st) h) : zG p l e R s m args below meth c D dA A ad0 n0 nL Q mc ms k n pc ls (.int (nI b) :: .int (nI a) :: st) h := zi_isub O d (zi_top (pk_sub hb) K)
theorem zi_imulN (O : zOK own cc nL ret rm p R s m args meth c D dA A) {a b : Nat} (d : decode cc pc = .ok (.imul, 1)) (K : zG p l e R s m args below meth c D dA A ad0 n0 nL Q mc ms k n (pc + 1) ls (.int (nI (a * b)) :: st) h) : zG p l e R s m args below meth c D dA A ad0 n0 nL Q mc ms k n pc ls (.int (nI b) :: .int (nI a) :: st) h := zi_imul O d (zi_top (pk_mul a b) K)
theorem zi_idivN (O : zOK own cc nL ret rm p R s m args meth c D dA A) {a b : Nat} (d : decode cc pc = .ok (.idiv, 1)) (ha : a < 2 ^ 31) (hb : 0 < b) (hb2 : b < 2 ^ 31) (K : zG p l e R s m args below meth c D dA A ad0 n0 nL Q mc ms k n (pc + 1) ls (.int (nI (a / b)) :: st) h) : zG p l e R s m args below meth c D dA A ad0 n0 nL Q mc ms k n pc ls (.int (nI b) :: .int (nI a) :: st) h :=
  fun ad H locs L h1 h2 h3 h4 h5 => lv_idiv O.2.1 O.2.2.1 d (nI_ne0 hb hb2) (by rw [pk_div ha hb hb2]; exact K ad H locs L h1 h2 h3 h4 h5)
theorem zi_iremN (O : zOK own cc nL ret rm p R s m args meth c D dA A) {a b : Nat} (d : decode cc pc = .ok (.irem, 1)) (ha : a < 2 ^ 31) (hb : 0 < b) (hb2 : b < 2 ^ 31) (K : zG p l e R s m args below meth c D dA A ad0 n0 nL Q mc ms k n (pc + 1) ls (.int (nI (a % b)) :: st) h) : zG p l e R s m args below meth c D dA A ad0 n0 nL Q mc ms k n pc ls (.int (nI b) :: .int (nI a) :: st) h :=
  fun ad H locs L h1 h2 h3 h4 h5 => lv_irem O.2.1 O.2.2.1 d (nI_ne0 hb hb2) (by rw [pk_rem ha hb hb2]; exact K ad H locs L h1 h2 h3 h4 h5)
theorem zi_ishrN (O : zOK own cc nL ret rm p R s m args meth c D dA A) {a : Nat} (v w : Nat) (d : decode cc pc = .ok (.ishr, 1)) (hv : ((nI v &&& 31).toBitVec.smod 32).toNat = w) (ha : a < 2 ^ 31) (K : zG p l e R s m args below meth c D dA A ad0 n0 nL Q mc ms k n (pc + 1) ls (.int (nI (a / 2 ^ w)) :: st) h) : zG p l e R s m args below meth c D dA A ad0 n0 nL Q mc ms k n pc ls (.int (nI v) :: .int (nI a) :: st) h := zi_ishr O d (zi_top (pk_shrN ha _ w hv) K)
theorem zi_iandN (O : zOK own cc nL ret rm p R s m args meth c D dA A) {a : Nat} (v w : Nat) (d : decode cc pc = .ok (.iand, 1)) (hv : (nI v).toBitVec.toNat = 2 ^ w - 1) (ha : a < 2 ^ 32) (K : zG p l e R s m args below meth c D dA A ad0 n0 nL Q mc ms k n (pc + 1) ls (.int (nI (a % 2 ^ w)) :: st) h) : zG p l e R s m args below meth c D dA A ad0 n0 nL Q mc ms k n pc ls (.int (nI v) :: .int (nI a) :: st) h := zi_iand O d (zi_top (pk_andN ha w hv) K)
theorem zi_icmp_eqN (O : zOK own cc nL ret rm p R s m args meth c D dA A) {a b : Nat} {off : Int} (tgt : Nat) (d : decode cc pc = .ok (.if_icmp .eq off, 3)) (ht : (pc : Int) + off = (tgt : Int)) (ha : a < 2 ^ 31) (hb : b < 2 ^ 31) (kt : a = b → zG p l e R s m args below meth c D dA A ad0 n0 nL Q mc ms k n tgt ls st h) (kf : a ≠ b → zG p l e R s m args below meth c D dA A ad0 n0 nL Q mc ms k n (pc + 3) ls st h) : zG p l e R s m args below meth c D dA A ad0 n0 nL Q mc ms k n pc ls (.int (nI b) :: .int (nI a) :: st) h := zi_icmp_eq O tgt d ht (fun z => kt ((nI_eq ha hb).mp z)) (fun z => kf (fun q => z ((nI_eq ha hb).mpr q)))
theorem zi_icmp_neN (O : zOK own cc nL ret rm p R s m args meth c D dA A) {a b : Nat} {off : Int} (tgt : Nat) (d : decode cc pc = .ok (.if_icmp .ne off, 3)) (ht : (pc : Int) + off = (tgt : Int)) (ha : a < 2 ^ 31) (hb : b < 2 ^ 31) (kt : a ≠ b → zG p l e R s m args below meth c D dA A ad0 n0 nL Q mc ms k n tgt ls st h) (kf : a = b → zG p l e R s m args below meth c D dA A ad0 n0 nL Q mc ms k n (pc + 3) ls st h) : zG p l e R s m args below meth c D dA A ad0 n0 nL Q mc ms k n pc ls (.int (nI b) :: .int (nI a) :: st) h := zi_icmp_ne O tgt d ht (fun z => kt (fun q => z ((nI_eq ha hb).mpr q))) (fun z => kf ((nI_eq ha hb).mp z))
theorem zi_icmp_ltN (O : zOK own cc nL ret rm p R s m args meth c D dA A) {a b : Nat} {off : Int} (tgt : Nat) (d : decode cc pc = .ok (.if_icmp .lt off, 3)) (ht : (pc : Int) + off = (tgt : Int)) (ha : a < 2 ^ 31) (hb : b < 2 ^ 31) (kt : a < b → zG p l e R s m args below meth c D dA A ad0 n0 nL Q mc ms k n tgt ls st h) (kf : b ≤ a → zG p l e R s m args below meth c D dA A ad0 n0 nL Q mc ms k n (pc + 3) ls st h) : zG p l e R s m args below meth c D dA A ad0 n0 nL Q mc ms k n pc ls (.int (nI b) :: .int (nI a) :: st) h := zi_icmp_lt O tgt d ht (fun z => kt ((nI_ltI ha hb).mp z)) (fun z => kf (Nat.not_lt.mp (fun q => z ((nI_ltI ha hb).mpr q))))
theorem zi_icmp_geN (O : zOK own cc nL ret rm p R s m args meth c D dA A) {a b : Nat} {off : Int} (tgt : Nat) (d : decode cc pc = .ok (.if_icmp .ge off, 3)) (ht : (pc : Int) + off = (tgt : Int)) (ha : a < 2 ^ 31) (hb : b < 2 ^ 31) (kt : b ≤ a → zG p l e R s m args below meth c D dA A ad0 n0 nL Q mc ms k n tgt ls st h) (kf : a < b → zG p l e R s m args below meth c D dA A ad0 n0 nL Q mc ms k n (pc + 3) ls st h) : zG p l e R s m args below meth c D dA A ad0 n0 nL Q mc ms k n pc ls (.int (nI b) :: .int (nI a) :: st) h := zi_icmp_ge O tgt d ht (fun z => kt ((nI_leI hb ha).mp z)) (fun z => kf (Nat.not_le.mp (fun q => z ((nI_leI hb ha).mpr q))))
theorem zi_icmp_gtN (O : zOK own cc nL ret rm p R s m args meth c D dA A) {a b : Nat} {off : Int} (tgt : Nat) (d : decode cc pc = .ok (.if_icmp .gt off, 3)) (ht : (pc : Int) + off = (tgt : Int)) (ha : a < 2 ^ 31) (hb : b < 2 ^ 31) (kt : b < a → zG p l e R s m args below meth c D dA A ad0 n0 nL Q mc ms k n tgt ls st h) (kf : a ≤ b → zG p l e R s m args below meth c D dA A ad0 n0 nL Q mc ms k n (pc + 3) ls st h) : zG p l e R s m args below meth c D dA A ad0 n0 nL Q mc ms k n pc ls (.int (nI b) :: .int (nI a) :: st) h := zi_icmp_gt O tgt d ht (fun z => kt ((nI_ltI hb ha).mp z)) (fun z => kf (Nat.not_lt.mp (fun q => z ((nI_ltI hb ha).mpr q))))
theorem zi_icmp_leN (O : zOK own cc nL ret rm p R s m args meth c D dA A) {a b : Nat} {off : Int} (tgt : Nat) (d : decode cc pc = .ok (.if_icmp .le off, 3)) (ht : (pc : Int) + off = (tgt : Int)) (ha : a < 2 ^ 31) (hb : b < 2 ^ 31) (kt : a ≤ b → zG p l e R s m args below meth c D dA A ad0 n0 nL Q mc ms k n tgt ls st h) (kf : b < a → zG p l e R s m args below meth c D dA A ad0 n0 nL Q mc ms k n (pc + 3) ls st h) : zG p l e R s m args below meth c D dA A ad0 n0 nL Q mc ms k n pc ls (.int (nI b) :: .int (nI a) :: st) h := zi_icmp_le O tgt d ht (fun z => kt ((nI_leI ha hb).mp z)) (fun z => kf (Nat.not_le.mp (fun q => z ((nI_leI ha hb).mpr q))))
theorem zi_iincN (O : zOK own cc nL ret rm p R s m args meth c D dA A) {i : Nat} {z : Int} {a : Nat} {ls' : List (Option Value)} (v : Nat) (d : decode cc pc = .ok (.iinc i z, 3)) (hc : ls.all zc1 = true) (hn : i < nL) (hx : ls[i]? = some (some (.int (nI a)))) (hz : Int32.ofInt z = nI v) (hs : ls.set i (some (.int (nI (a + v)))) = ls') (K : zG p l e R s m args below meth c D dA A ad0 n0 nL Q mc ms k n (pc + 3) ls' st h) : zG p l e R s m args below meth c D dA A ad0 n0 nL Q mc ms k n pc ls st h := zi_iinc O d hc hn hx (by rw [hz, nI_add]) hs K
theorem zi_iushr (O : zOK own cc nL ret rm p R s m args meth c D dA A) {x y : Int32} (d : decode cc pc = .ok (.iushr, 1)) (K : zG p l e R s m args below meth c D dA A ad0 n0 nL Q mc ms k n (pc + 1) ls (.int (x.toUInt32 >>> (y.toUInt32 &&& Int32.toUInt32 31)).toInt32 :: st) h) : zG p l e R s m args below meth c D dA A ad0 n0 nL Q mc ms k n pc ls (.int y :: .int x :: st) h :=
  fun ad H locs L h1 h2 h3 h4 h5 => lv_iushr O.2.1 O.2.2.1 d rfl (K ad H locs L h1 h2 h3 h4 h5)
theorem zi_ldcw (O : zOK own cc nL ret rm p R s m args meth c D dA A) {index : Nat} {v : Int32} (w : Cond.constant own index v ∈ zt) (d : decode cc pc = .ok (.ldc_w index, 3)) (K : zG p l e R s m args below meth c D dA A ad0 n0 nL Q mc ms k n (pc + 3) ls (.int v :: st) h) : zG p l e R s m args below meth c D dA A ad0 n0 nL Q mc ms k n pc ls st h :=
  fun ad H locs L h1 h2 h3 h4 h5 => lv_ldcw O.2.1 O.2.2.1 O.2.2.2.2.1 (O.2.2.2.2.2.1 _ w) d (K ad H locs L h1 h2 h3 h4 h5)
end ZM
end
section
theorem f_Mov_12 : zF R_Mov 12 0 0 (.object "DiagramMoves$Diagram") false := ⟨R_Mov, F_Mov, 2, t_Mov, rfl, by decide, zt_of (List.mem_append_left _ (List.mem_of_getElem? (i := 153) rfl)) rfl, rfl, i_Mov, t_Mov_ok, n_Mov, rfl, rfl⟩
theorem f_Mov_16 : zF R_Mov 16 0 1 (.object "DiagramMoves$Diagram") false := ⟨R_Mov, F_Mov, 2, t_Mov, rfl, by decide, zt_of (List.mem_append_left _ (List.mem_of_getElem? (i := 154) rfl)) rfl, rfl, i_Mov, t_Mov_ok, n_Mov, rfl, rfl⟩
theorem f_Mov_26 : zF R_Mov 26 1 0 (.object "DiagramMoves$Row") true := ⟨R_Dia, F_Dia, 6, t_Dia, rfl, by decide, zt_of (List.mem_append_left _ (List.mem_of_getElem? (i := 130) rfl)) rfl, rfl, i_Dia, t_Dia_ok, n_Dia, rfl, rfl⟩
theorem f_Mov_40 : zF R_Mov 40 2 2 .int false := ⟨R_Row, F_Row, 3, t_Row, rfl, by decide, zt_of (List.mem_append_left _ (List.mem_of_getElem? (i := 41) rfl)) rfl, rfl, i_Row, t_Row_ok, n_Row, rfl, rfl⟩
theorem f_Mov_48 : zF R_Mov 48 1 5 .int false := ⟨R_Dia, F_Dia, 6, t_Dia, rfl, by decide, zt_of (List.mem_append_left _ (List.mem_of_getElem? (i := 138) rfl)) rfl, rfl, i_Dia, t_Dia_ok, n_Dia, rfl, rfl⟩
theorem f_Mov_54 : zF R_Mov 54 1 2 (.object "DiagramMoves$Faces") true := ⟨R_Dia, F_Dia, 6, t_Dia, rfl, by decide, zt_of (List.mem_append_left _ (List.mem_of_getElem? (i := 134) rfl)) rfl, rfl, i_Dia, t_Dia_ok, n_Dia, rfl, rfl⟩
theorem f_Mov_58 : zF R_Mov 58 4 3 .int false := ⟨R_Fac, F_Fac, 4, t_Fac, rfl, by decide, zt_of (List.mem_append_left _ (List.mem_of_getElem? (i := 96) rfl)) rfl, rfl, i_Fac, t_Fac_ok, n_Fac, rfl, rfl⟩
theorem f_Mov_61 : zF R_Mov 61 1 3 (.object "DiagramMoves$Pieces") true := ⟨R_Dia, F_Dia, 6, t_Dia, rfl, by decide, zt_of (List.mem_append_left _ (List.mem_of_getElem? (i := 136) rfl)) rfl, rfl, i_Dia, t_Dia_ok, n_Dia, rfl, rfl⟩
theorem f_Mov_65 : zF R_Mov 65 5 3 .int false := ⟨R_Pie, F_Pie, 4, t_Pie, rfl, by decide, zt_of (List.mem_append_left _ (List.mem_of_getElem? (i := 118) rfl)) rfl, rfl, i_Pie, t_Pie_ok, n_Pie, rfl, rfl⟩
theorem f_Mov_70 : zF R_Mov 70 5 2 .int false := ⟨R_Pie, F_Pie, 4, t_Pie, rfl, by decide, zt_of (List.mem_append_left _ (List.mem_of_getElem? (i := 117) rfl)) rfl, rfl, i_Pie, t_Pie_ok, n_Pie, rfl, rfl⟩
theorem f_Mov_71 : zF R_Mov 71 1 1 (.object "DiagramMoves$Edges") true := ⟨R_Dia, F_Dia, 6, t_Dia, rfl, by decide, zt_of (List.mem_append_left _ (List.mem_of_getElem? (i := 132) rfl)) rfl, rfl, i_Dia, t_Dia_ok, n_Dia, rfl, rfl⟩
theorem f_Mov_81 : zF R_Mov 81 2 1 (.array .int) true := ⟨R_Row, F_Row, 3, t_Row, rfl, by decide, zt_of (List.mem_append_left _ (List.mem_of_getElem? (i := 38) rfl)) rfl, rfl, i_Row, t_Row_ok, n_Row, rfl, rfl⟩
theorem f_Mov_85 : zF R_Mov 85 2 0 (.array .int) true := ⟨R_Row, F_Row, 3, t_Row, rfl, by decide, zt_of (List.mem_append_left _ (List.mem_of_getElem? (i := 35) rfl)) rfl, rfl, i_Row, t_Row_ok, n_Row, rfl, rfl⟩
theorem f_Cut_7 : zF R_Cut 7 6 0 .int true := ⟨R_Cut, F_Cut, 3, t_Cut, rfl, by decide, zt_of (List.mem_append_right _ (List.mem_append_left _ (List.mem_of_getElem? (i := 152) rfl))) rfl, rfl, i_Cut, t_Cut_ok, n_Cut, rfl, rfl⟩
theorem f_Cut_13 : zF R_Cut 13 6 1 .int true := ⟨R_Cut, F_Cut, 3, t_Cut, rfl, by decide, zt_of (List.mem_append_right _ (List.mem_append_left _ (List.mem_of_getElem? (i := 153) rfl))) rfl, rfl, i_Cut, t_Cut_ok, n_Cut, rfl, rfl⟩
theorem f_Cut_16 : zF R_Cut 16 6 2 .int true := ⟨R_Cut, F_Cut, 3, t_Cut, rfl, by decide, zt_of (List.mem_append_right _ (List.mem_append_left _ (List.mem_of_getElem? (i := 154) rfl))) rfl, rfl, i_Cut, t_Cut_ok, n_Cut, rfl, rfl⟩
theorem f_Dia_12 : zF R_Dia 12 1 0 (.object "DiagramMoves$Row") true := ⟨R_Dia, F_Dia, 6, t_Dia, rfl, by decide, zt_of (List.mem_append_left _ (List.mem_of_getElem? (i := 129) rfl)) rfl, rfl, i_Dia, t_Dia_ok, n_Dia, rfl, rfl⟩
theorem f_Dia_21 : zF R_Dia 21 1 1 (.object "DiagramMoves$Edges") true := ⟨R_Dia, F_Dia, 6, t_Dia, rfl, by decide, zt_of (List.mem_append_left _ (List.mem_of_getElem? (i := 131) rfl)) rfl, rfl, i_Dia, t_Dia_ok, n_Dia, rfl, rfl⟩
theorem f_Dia_28 : zF R_Dia 28 1 2 (.object "DiagramMoves$Faces") true := ⟨R_Dia, F_Dia, 6, t_Dia, rfl, by decide, zt_of (List.mem_append_left _ (List.mem_of_getElem? (i := 133) rfl)) rfl, rfl, i_Dia, t_Dia_ok, n_Dia, rfl, rfl⟩
theorem f_Dia_35 : zF R_Dia 35 1 3 (.object "DiagramMoves$Pieces") true := ⟨R_Dia, F_Dia, 6, t_Dia, rfl, by decide, zt_of (List.mem_append_left _ (List.mem_of_getElem? (i := 135) rfl)) rfl, rfl, i_Dia, t_Dia_ok, n_Dia, rfl, rfl⟩
theorem f_Dia_39 : zF R_Dia 39 1 4 (.array .int) true := ⟨R_Dia, F_Dia, 6, t_Dia, rfl, by decide, zt_of (List.mem_append_left _ (List.mem_of_getElem? (i := 137) rfl)) rfl, rfl, i_Dia, t_Dia_ok, n_Dia, rfl, rfl⟩
theorem f_Dia_50 : zF R_Dia 50 2 2 .int false := ⟨R_Row, F_Row, 3, t_Row, rfl, by decide, zt_of (List.mem_append_left _ (List.mem_of_getElem? (i := 40) rfl)) rfl, rfl, i_Row, t_Row_ok, n_Row, rfl, rfl⟩
theorem f_Dia_57 : zF R_Dia 57 4 3 .int false := ⟨R_Fac, F_Fac, 4, t_Fac, rfl, by decide, zt_of (List.mem_append_left _ (List.mem_of_getElem? (i := 95) rfl)) rfl, rfl, i_Fac, t_Fac_ok, n_Fac, rfl, rfl⟩
theorem f_Dia_58 : zF R_Dia 58 5 2 .int false := ⟨R_Pie, F_Pie, 4, t_Pie, rfl, by decide, zt_of (List.mem_append_left _ (List.mem_of_getElem? (i := 115) rfl)) rfl, rfl, i_Pie, t_Pie_ok, n_Pie, rfl, rfl⟩
theorem f_Dia_121 : zF R_Dia 121 1 5 .int false := ⟨R_Dia, F_Dia, 6, t_Dia, rfl, by decide, zt_of (List.mem_append_left _ (List.mem_of_getElem? (i := 139) rfl)) rfl, rfl, i_Dia, t_Dia_ok, n_Dia, rfl, rfl⟩
theorem f_Dia_124 : zF R_Dia 124 2 0 (.array .int) true := ⟨R_Row, F_Row, 3, t_Row, rfl, by decide, zt_of (List.mem_append_left _ (List.mem_of_getElem? (i := 36) rfl)) rfl, rfl, i_Row, t_Row_ok, n_Row, rfl, rfl⟩
theorem f_Dia_136 : zF R_Dia 136 3 2 (.array .int) true := ⟨R_Edg, F_Edg, 6, t_Edg, rfl, by decide, zt_of (List.mem_append_left _ (List.mem_of_getElem? (i := 62) rfl)) rfl, rfl, i_Edg, t_Edg_ok, n_Edg, rfl, rfl⟩
theorem f_Dia_139 : zF R_Dia 139 3 3 (.array .int) true := ⟨R_Edg, F_Edg, 6, t_Edg, rfl, by decide, zt_of (List.mem_append_left _ (List.mem_of_getElem? (i := 65) rfl)) rfl, rfl, i_Edg, t_Edg_ok, n_Edg, rfl, rfl⟩
theorem f_Dia_142 : zF R_Dia 142 3 1 (.array .int) true := ⟨R_Edg, F_Edg, 6, t_Edg, rfl, by decide, zt_of (List.mem_append_left _ (List.mem_of_getElem? (i := 59) rfl)) rfl, rfl, i_Edg, t_Edg_ok, n_Edg, rfl, rfl⟩
theorem f_Dia_180 : zF R_Dia 180 6 2 .int true := ⟨R_Cut, F_Cut, 3, t_Cut, rfl, by decide, zt_of (List.mem_append_right _ (List.mem_append_left _ (List.mem_of_getElem? (i := 155) rfl))) rfl, rfl, i_Cut, t_Cut_ok, n_Cut, rfl, rfl⟩
theorem f_Dia_183 : zF R_Dia 183 5 0 (.array .int) true := ⟨R_Pie, F_Pie, 4, t_Pie, rfl, by decide, zt_of (List.mem_append_left _ (List.mem_of_getElem? (i := 113) rfl)) rfl, rfl, i_Pie, t_Pie_ok, n_Pie, rfl, rfl⟩
theorem f_Dia_186 : zF R_Dia 186 4 0 (.array .int) true := ⟨R_Fac, F_Fac, 4, t_Fac, rfl, by decide, zt_of (List.mem_append_left _ (List.mem_of_getElem? (i := 91) rfl)) rfl, rfl, i_Fac, t_Fac_ok, n_Fac, rfl, rfl⟩
theorem f_Edg_9 : zF R_Edg 9 3 0 (.array .int) true := ⟨R_Edg, F_Edg, 6, t_Edg, rfl, by decide, zt_of (List.mem_append_left _ (List.mem_of_getElem? (i := 57) rfl)) rfl, rfl, i_Edg, t_Edg_ok, n_Edg, rfl, rfl⟩
theorem f_Edg_15 : zF R_Edg 15 3 1 (.array .int) true := ⟨R_Edg, F_Edg, 6, t_Edg, rfl, by decide, zt_of (List.mem_append_left _ (List.mem_of_getElem? (i := 58) rfl)) rfl, rfl, i_Edg, t_Edg_ok, n_Edg, rfl, rfl⟩
theorem f_Edg_18 : zF R_Edg 18 3 2 (.array .int) true := ⟨R_Edg, F_Edg, 6, t_Edg, rfl, by decide, zt_of (List.mem_append_left _ (List.mem_of_getElem? (i := 60) rfl)) rfl, rfl, i_Edg, t_Edg_ok, n_Edg, rfl, rfl⟩
theorem f_Edg_21 : zF R_Edg 21 3 3 (.array .int) true := ⟨R_Edg, F_Edg, 6, t_Edg, rfl, by decide, zt_of (List.mem_append_left _ (List.mem_of_getElem? (i := 63) rfl)) rfl, rfl, i_Edg, t_Edg_ok, n_Edg, rfl, rfl⟩
theorem f_Edg_24 : zF R_Edg 24 3 4 (.array .int) true := ⟨R_Edg, F_Edg, 6, t_Edg, rfl, by decide, zt_of (List.mem_append_left _ (List.mem_of_getElem? (i := 66) rfl)) rfl, rfl, i_Edg, t_Edg_ok, n_Edg, rfl, rfl⟩
theorem f_Edg_38 : zF R_Edg 38 2 2 .int false := ⟨R_Row, F_Row, 3, t_Row, rfl, by decide, zt_of (List.mem_append_left _ (List.mem_of_getElem? (i := 42) rfl)) rfl, rfl, i_Row, t_Row_ok, n_Row, rfl, rfl⟩
theorem f_Edg_44 : zF R_Edg 44 2 0 (.array .int) true := ⟨R_Row, F_Row, 3, t_Row, rfl, by decide, zt_of (List.mem_append_left _ (List.mem_of_getElem? (i := 34) rfl)) rfl, rfl, i_Row, t_Row_ok, n_Row, rfl, rfl⟩
theorem f_Edg_45 : zF R_Edg 45 3 5 .int false := ⟨R_Edg, F_Edg, 6, t_Edg, rfl, by decide, zt_of (List.mem_append_left _ (List.mem_of_getElem? (i := 70) rfl)) rfl, rfl, i_Edg, t_Edg_ok, n_Edg, rfl, rfl⟩
theorem f_Fac_9 : zF R_Fac 9 4 0 (.array .int) true := ⟨R_Fac, F_Fac, 4, t_Fac, rfl, by decide, zt_of (List.mem_append_left _ (List.mem_of_getElem? (i := 90) rfl)) rfl, rfl, i_Fac, t_Fac_ok, n_Fac, rfl, rfl⟩
theorem f_Fac_15 : zF R_Fac 15 4 1 (.array .int) true := ⟨R_Fac, F_Fac, 4, t_Fac, rfl, by decide, zt_of (List.mem_append_left _ (List.mem_of_getElem? (i := 92) rfl)) rfl, rfl, i_Fac, t_Fac_ok, n_Fac, rfl, rfl⟩
theorem f_Fac_18 : zF R_Fac 18 4 2 (.array .int) true := ⟨R_Fac, F_Fac, 4, t_Fac, rfl, by decide, zt_of (List.mem_append_left _ (List.mem_of_getElem? (i := 93) rfl)) rfl, rfl, i_Fac, t_Fac_ok, n_Fac, rfl, rfl⟩
theorem f_Fac_27 : zF R_Fac 27 4 3 .int false := ⟨R_Fac, F_Fac, 4, t_Fac, rfl, by decide, zt_of (List.mem_append_left _ (List.mem_of_getElem? (i := 94) rfl)) rfl, rfl, i_Fac, t_Fac_ok, n_Fac, rfl, rfl⟩
theorem f_Fac_31 : zF R_Fac 31 3 5 .int false := ⟨R_Edg, F_Edg, 6, t_Edg, rfl, by decide, zt_of (List.mem_append_left _ (List.mem_of_getElem? (i := 68) rfl)) rfl, rfl, i_Edg, t_Edg_ok, n_Edg, rfl, rfl⟩
theorem f_Pie_9 : zF R_Pie 9 5 0 (.array .int) true := ⟨R_Pie, F_Pie, 4, t_Pie, rfl, by decide, zt_of (List.mem_append_left _ (List.mem_of_getElem? (i := 112) rfl)) rfl, rfl, i_Pie, t_Pie_ok, n_Pie, rfl, rfl⟩
theorem f_Pie_15 : zF R_Pie 15 5 1 (.array .int) true := ⟨R_Pie, F_Pie, 4, t_Pie, rfl, by decide, zt_of (List.mem_append_left _ (List.mem_of_getElem? (i := 114) rfl)) rfl, rfl, i_Pie, t_Pie_ok, n_Pie, rfl, rfl⟩
theorem f_Pie_26 : zF R_Pie 26 5 2 .int false := ⟨R_Pie, F_Pie, 4, t_Pie, rfl, by decide, zt_of (List.mem_append_left _ (List.mem_of_getElem? (i := 116) rfl)) rfl, rfl, i_Pie, t_Pie_ok, n_Pie, rfl, rfl⟩
theorem f_Pie_30 : zF R_Pie 30 3 5 .int false := ⟨R_Edg, F_Edg, 6, t_Edg, rfl, by decide, zt_of (List.mem_append_left _ (List.mem_of_getElem? (i := 69) rfl)) rfl, rfl, i_Edg, t_Edg_ok, n_Edg, rfl, rfl⟩
theorem f_Pie_33 : zF R_Pie 33 3 2 (.array .int) true := ⟨R_Edg, F_Edg, 6, t_Edg, rfl, by decide, zt_of (List.mem_append_left _ (List.mem_of_getElem? (i := 61) rfl)) rfl, rfl, i_Edg, t_Edg_ok, n_Edg, rfl, rfl⟩
theorem f_Pie_36 : zF R_Pie 36 3 3 (.array .int) true := ⟨R_Edg, F_Edg, 6, t_Edg, rfl, by decide, zt_of (List.mem_append_left _ (List.mem_of_getElem? (i := 64) rfl)) rfl, rfl, i_Edg, t_Edg_ok, n_Edg, rfl, rfl⟩
theorem f_Pie_58 : zF R_Pie 58 5 3 .int false := ⟨R_Pie, F_Pie, 4, t_Pie, rfl, by decide, zt_of (List.mem_append_left _ (List.mem_of_getElem? (i := 119) rfl)) rfl, rfl, i_Pie, t_Pie_ok, n_Pie, rfl, rfl⟩
theorem f_Pie_65 : zF R_Pie 65 3 4 (.array .int) true := ⟨R_Edg, F_Edg, 6, t_Edg, rfl, by decide, zt_of (List.mem_append_left _ (List.mem_of_getElem? (i := 67) rfl)) rfl, rfl, i_Edg, t_Edg_ok, n_Edg, rfl, rfl⟩
theorem f_Row_9 : zF R_Row 9 2 0 (.array .int) true := ⟨R_Row, F_Row, 3, t_Row, rfl, by decide, zt_of (List.mem_append_left _ (List.mem_of_getElem? (i := 33) rfl)) rfl, rfl, i_Row, t_Row_ok, n_Row, rfl, rfl⟩
theorem f_Row_15 : zF R_Row 15 2 1 (.array .int) true := ⟨R_Row, F_Row, 3, t_Row, rfl, by decide, zt_of (List.mem_append_left _ (List.mem_of_getElem? (i := 37) rfl)) rfl, rfl, i_Row, t_Row_ok, n_Row, rfl, rfl⟩
theorem f_Row_18 : zF R_Row 18 2 2 .int false := ⟨R_Row, F_Row, 3, t_Row, rfl, by decide, zt_of (List.mem_append_left _ (List.mem_of_getElem? (i := 39) rfl)) rfl, rfl, i_Row, t_Row_ok, n_Row, rfl, rfl⟩
theorem f_Mod_7 : zF R_Mod 7 7 2 .int false := ⟨R_Mod, F_Mod, 25, t_Mod, rfl, by decide, zt_of (List.mem_append_right _ (List.mem_append_left _ (List.mem_of_getElem? (i := 220) rfl))) rfl, rfl, i_Mod, t_Mod_ok, n_Mod, rfl, rfl⟩
theorem f_Mod_13 : zF R_Mod 13 7 3 (.array .int) true := ⟨R_Mod, F_Mod, 25, t_Mod, rfl, by decide, zt_of (List.mem_append_right _ (List.mem_append_left _ (List.mem_of_getElem? (i := 221) rfl))) rfl, rfl, i_Mod, t_Mod_ok, n_Mod, rfl, rfl⟩
theorem f_Mod_17 : zF R_Mod 17 7 4 (.array .int) true := ⟨R_Mod, F_Mod, 25, t_Mod, rfl, by decide, zt_of (List.mem_append_right _ (List.mem_append_left _ (List.mem_of_getElem? (i := 222) rfl))) rfl, rfl, i_Mod, t_Mod_ok, n_Mod, rfl, rfl⟩
theorem f_Mod_20 : zF R_Mod 20 7 9 (.array .int) true := ⟨R_Mod, F_Mod, 25, t_Mod, rfl, by decide, zt_of (List.mem_append_right _ (List.mem_append_left _ (List.mem_of_getElem? (i := 227) rfl))) rfl, rfl, i_Mod, t_Mod_ok, n_Mod, rfl, rfl⟩
theorem f_Mod_23 : zF R_Mod 23 7 10 (.array .int) true := ⟨R_Mod, F_Mod, 25, t_Mod, rfl, by decide, zt_of (List.mem_append_right _ (List.mem_append_left _ (List.mem_of_getElem? (i := 228) rfl))) rfl, rfl, i_Mod, t_Mod_ok, n_Mod, rfl, rfl⟩
theorem f_Mod_26 : zF R_Mod 26 7 11 (.array .int) true := ⟨R_Mod, F_Mod, 25, t_Mod, rfl, by decide, zt_of (List.mem_append_right _ (List.mem_append_left _ (List.mem_of_getElem? (i := 229) rfl))) rfl, rfl, i_Mod, t_Mod_ok, n_Mod, rfl, rfl⟩
theorem f_Mod_29 : zF R_Mod 29 7 12 (.array .int) true := ⟨R_Mod, F_Mod, 25, t_Mod, rfl, by decide, zt_of (List.mem_append_right _ (List.mem_append_left _ (List.mem_of_getElem? (i := 230) rfl))) rfl, rfl, i_Mod, t_Mod_ok, n_Mod, rfl, rfl⟩
theorem f_Mod_32 : zF R_Mod 32 7 14 (.array .int) true := ⟨R_Mod, F_Mod, 25, t_Mod, rfl, by decide, zt_of (List.mem_append_right _ (List.mem_append_left _ (List.mem_of_getElem? (i := 232) rfl))) rfl, rfl, i_Mod, t_Mod_ok, n_Mod, rfl, rfl⟩
theorem f_Mod_35 : zF R_Mod 35 7 15 (.array .int) true := ⟨R_Mod, F_Mod, 25, t_Mod, rfl, by decide, zt_of (List.mem_append_right _ (List.mem_append_left _ (List.mem_of_getElem? (i := 233) rfl))) rfl, rfl, i_Mod, t_Mod_ok, n_Mod, rfl, rfl⟩
theorem f_Mod_38 : zF R_Mod 38 7 16 (.array .int) true := ⟨R_Mod, F_Mod, 25, t_Mod, rfl, by decide, zt_of (List.mem_append_right _ (List.mem_append_left _ (List.mem_of_getElem? (i := 234) rfl))) rfl, rfl, i_Mod, t_Mod_ok, n_Mod, rfl, rfl⟩
theorem f_Mod_41 : zF R_Mod 41 7 19 (.array .int) true := ⟨R_Mod, F_Mod, 25, t_Mod, rfl, by decide, zt_of (List.mem_append_right _ (List.mem_append_left _ (List.mem_of_getElem? (i := 237) rfl))) rfl, rfl, i_Mod, t_Mod_ok, n_Mod, rfl, rfl⟩
theorem f_Mod_44 : zF R_Mod 44 7 20 (.array .int) true := ⟨R_Mod, F_Mod, 25, t_Mod, rfl, by decide, zt_of (List.mem_append_right _ (List.mem_append_left _ (List.mem_of_getElem? (i := 238) rfl))) rfl, rfl, i_Mod, t_Mod_ok, n_Mod, rfl, rfl⟩
theorem f_Mod_47 : zF R_Mod 47 7 22 (.array .int) true := ⟨R_Mod, F_Mod, 25, t_Mod, rfl, by decide, zt_of (List.mem_append_right _ (List.mem_append_right _ (List.mem_of_getElem? (i := 0) rfl))) rfl, rfl, i_Mod, t_Mod_ok, n_Mod, rfl, rfl⟩
theorem f_Mod_50 : zF R_Mod 50 7 23 (.array .int) true := ⟨R_Mod, F_Mod, 25, t_Mod, rfl, by decide, zt_of (List.mem_append_right _ (List.mem_append_right _ (List.mem_of_getElem? (i := 1) rfl))) rfl, rfl, i_Mod, t_Mod_ok, n_Mod, rfl, rfl⟩
theorem f_Mod_53 : zF R_Mod 53 7 24 (.array .int) true := ⟨R_Mod, F_Mod, 25, t_Mod, rfl, by decide, zt_of (List.mem_append_right _ (List.mem_append_right _ (List.mem_of_getElem? (i := 2) rfl))) rfl, rfl, i_Mod, t_Mod_ok, n_Mod, rfl, rfl⟩
theorem f_Mod_59 : zF R_Mod 59 7 5 .int false := ⟨R_Mod, F_Mod, 25, t_Mod, rfl, by decide, zt_of (List.mem_append_right _ (List.mem_append_left _ (List.mem_of_getElem? (i := 223) rfl))) rfl, rfl, i_Mod, t_Mod_ok, n_Mod, rfl, rfl⟩
theorem f_Mod_74 : zF R_Mod 74 7 13 .int false := ⟨R_Mod, F_Mod, 25, t_Mod, rfl, by decide, zt_of (List.mem_append_right _ (List.mem_append_left _ (List.mem_of_getElem? (i := 231) rfl))) rfl, rfl, i_Mod, t_Mod_ok, n_Mod, rfl, rfl⟩
theorem f_Mod_77 : zF R_Mod 77 7 17 .int false := ⟨R_Mod, F_Mod, 25, t_Mod, rfl, by decide, zt_of (List.mem_append_right _ (List.mem_append_left _ (List.mem_of_getElem? (i := 235) rfl))) rfl, rfl, i_Mod, t_Mod_ok, n_Mod, rfl, rfl⟩
theorem f_Mod_89 : zF R_Mod 89 7 18 .int false := ⟨R_Mod, F_Mod, 25, t_Mod, rfl, by decide, zt_of (List.mem_append_right _ (List.mem_append_left _ (List.mem_of_getElem? (i := 236) rfl))) rfl, rfl, i_Mod, t_Mod_ok, n_Mod, rfl, rfl⟩
theorem f_Mod_98 : zF R_Mod 98 7 1 .int false := ⟨R_Mod, F_Mod, 25, t_Mod, rfl, by decide, zt_of (List.mem_append_right _ (List.mem_append_left _ (List.mem_of_getElem? (i := 219) rfl))) rfl, rfl, i_Mod, t_Mod_ok, n_Mod, rfl, rfl⟩
theorem f_Mod_101 : zF R_Mod 101 7 7 .int false := ⟨R_Mod, F_Mod, 25, t_Mod, rfl, by decide, zt_of (List.mem_append_right _ (List.mem_append_left _ (List.mem_of_getElem? (i := 225) rfl))) rfl, rfl, i_Mod, t_Mod_ok, n_Mod, rfl, rfl⟩
theorem f_Mod_104 : zF R_Mod 104 7 6 .int false := ⟨R_Mod, F_Mod, 25, t_Mod, rfl, by decide, zt_of (List.mem_append_right _ (List.mem_append_left _ (List.mem_of_getElem? (i := 224) rfl))) rfl, rfl, i_Mod, t_Mod_ok, n_Mod, rfl, rfl⟩
theorem f_Mod_107 : zF R_Mod 107 7 8 .int false := ⟨R_Mod, F_Mod, 25, t_Mod, rfl, by decide, zt_of (List.mem_append_right _ (List.mem_append_left _ (List.mem_of_getElem? (i := 226) rfl))) rfl, rfl, i_Mod, t_Mod_ok, n_Mod, rfl, rfl⟩
theorem f_Mod_154 : zF R_Mod 154 7 21 .int false := ⟨R_Mod, F_Mod, 25, t_Mod, rfl, by decide, zt_of (List.mem_append_right _ (List.mem_append_left _ (List.mem_of_getElem? (i := 239) rfl))) rfl, rfl, i_Mod, t_Mod_ok, n_Mod, rfl, rfl⟩
theorem c_Mov_11 : zCI R_Mov 11 y_Dia_init 0 := ⟨⟨zt_of (List.mem_append_left _ (List.mem_of_getElem? (i := 2) rfl)) rfl, by decide +kernel, by decide +kernel, by decide +kernel⟩, Or.inr ⟨"DiagramMoves", by decide +kernel⟩, zt_of (List.mem_append_left _ (List.mem_of_getElem? (i := 24) rfl)) rfl, rfl⟩
theorem c_Mov_19 : zCS R_Mov 19 y_Mov_isLabel 1 := ⟨⟨zt_of (List.mem_append_left _ (List.mem_of_getElem? (i := 1) rfl)) rfl, by decide +kernel, by decide +kernel, by decide +kernel⟩, zt_of (List.mem_append_left _ (List.mem_of_getElem? (i := 164) rfl)) rfl, zt_of (List.mem_append_left _ (List.mem_of_getElem? (i := 165) rfl)) rfl⟩
theorem c_Mov_23 : zCS R_Mov 23 y_Mov_isSign 1 := ⟨⟨zt_of (List.mem_append_left _ (List.mem_of_getElem? (i := 1) rfl)) rfl, by decide +kernel, by decide +kernel, by decide +kernel⟩, zt_of (List.mem_append_left _ (List.mem_of_getElem? (i := 167) rfl)) rfl, zt_of (List.mem_append_left _ (List.mem_of_getElem? (i := 168) rfl)) rfl⟩
theorem c_Mov_30 : zCV R_Mov 30 y_Row_isFull 2 0 := ⟨⟨zt_of (List.mem_append_left _ (List.mem_of_getElem? (i := 3) rfl)) rfl, by decide +kernel, by decide +kernel, by decide +kernel⟩, zt_of (List.mem_append_left _ (List.mem_of_getElem? (i := 170) rfl)) rfl, zt_of (List.mem_append_left _ (List.mem_of_getElem? (i := 171) rfl)) rfl, zt_of (List.mem_append_left _ (List.mem_of_getElem? (i := 172) rfl)) rfl, rfl⟩
theorem c_Mov_36 : zCV R_Mov 36 y_Row_add 2 5 := ⟨⟨zt_of (List.mem_append_left _ (List.mem_of_getElem? (i := 3) rfl)) rfl, by decide +kernel, by decide +kernel, by decide +kernel⟩, zt_of (List.mem_append_left _ (List.mem_of_getElem? (i := 174) rfl)) rfl, zt_of (List.mem_append_left _ (List.mem_of_getElem? (i := 175) rfl)) rfl, zt_of (List.mem_append_left _ (List.mem_of_getElem? (i := 176) rfl)) rfl, rfl⟩
theorem c_Mov_44 : zCV R_Mov 44 y_Dia_chart 1 0 := ⟨⟨zt_of (List.mem_append_left _ (List.mem_of_getElem? (i := 2) rfl)) rfl, by decide +kernel, by decide +kernel, by decide +kernel⟩, zt_of (List.mem_append_left _ (List.mem_of_getElem? (i := 183) rfl)) rfl, zt_of (List.mem_append_left _ (List.mem_of_getElem? (i := 184) rfl)) rfl, zt_of (List.mem_append_left _ (List.mem_of_getElem? (i := 185) rfl)) rfl, rfl⟩
theorem c_Mov_51 : zCV R_Mov 51 y_Row_sumOfSigns 2 0 := ⟨⟨zt_of (List.mem_append_left _ (List.mem_of_getElem? (i := 3) rfl)) rfl, by decide +kernel, by decide +kernel, by decide +kernel⟩, zt_of (List.mem_append_right _ (List.mem_append_left _ (List.mem_of_getElem? (i := 25) rfl))) rfl, zt_of (List.mem_append_right _ (List.mem_append_left _ (List.mem_of_getElem? (i := 26) rfl))) rfl, zt_of (List.mem_append_right _ (List.mem_append_left _ (List.mem_of_getElem? (i := 27) rfl))) rfl, rfl⟩
theorem c_Mov_75 : zCV R_Mov 75 y_Edg_freeAfter 3 1 := ⟨⟨zt_of (List.mem_append_left _ (List.mem_of_getElem? (i := 4) rfl)) rfl, by decide +kernel, by decide +kernel, by decide +kernel⟩, zt_of (List.mem_append_right _ (List.mem_append_left _ (List.mem_of_getElem? (i := 29) rfl))) rfl, zt_of (List.mem_append_right _ (List.mem_append_left _ (List.mem_of_getElem? (i := 30) rfl))) rfl, zt_of (List.mem_append_right _ (List.mem_append_left _ (List.mem_of_getElem? (i := 31) rfl))) rfl, rfl⟩
theorem c_Mov_88 : zCV R_Mov 88 y_Fac_has 4 1 := ⟨⟨zt_of (List.mem_append_left _ (List.mem_of_getElem? (i := 5) rfl)) rfl, by decide +kernel, by decide +kernel, by decide +kernel⟩, zt_of (List.mem_append_right _ (List.mem_append_left _ (List.mem_of_getElem? (i := 41) rfl))) rfl, zt_of (List.mem_append_right _ (List.mem_append_left _ (List.mem_of_getElem? (i := 42) rfl))) rfl, zt_of (List.mem_append_right _ (List.mem_append_left _ (List.mem_of_getElem? (i := 43) rfl))) rfl, rfl⟩
theorem c_Mov_91 : zCV R_Mov 91 y_Fac_size 4 1 := ⟨⟨zt_of (List.mem_append_left _ (List.mem_of_getElem? (i := 5) rfl)) rfl, by decide +kernel, by decide +kernel, by decide +kernel⟩, zt_of (List.mem_append_right _ (List.mem_append_left _ (List.mem_of_getElem? (i := 45) rfl))) rfl, zt_of (List.mem_append_right _ (List.mem_append_left _ (List.mem_of_getElem? (i := 46) rfl))) rfl, zt_of (List.mem_append_right _ (List.mem_append_left _ (List.mem_of_getElem? (i := 47) rfl))) rfl, rfl⟩
theorem c_Mov_94 : zCV R_Mov 94 y_Fac_dart 4 2 := ⟨⟨zt_of (List.mem_append_left _ (List.mem_of_getElem? (i := 5) rfl)) rfl, by decide +kernel, by decide +kernel, by decide +kernel⟩, zt_of (List.mem_append_right _ (List.mem_append_left _ (List.mem_of_getElem? (i := 49) rfl))) rfl, zt_of (List.mem_append_right _ (List.mem_append_left _ (List.mem_of_getElem? (i := 50) rfl))) rfl, zt_of (List.mem_append_right _ (List.mem_append_left _ (List.mem_of_getElem? (i := 51) rfl))) rfl, rfl⟩
theorem c_Mov_98 : zCV R_Mov 98 y_Edg_signedLabel 3 1 := ⟨⟨zt_of (List.mem_append_left _ (List.mem_of_getElem? (i := 4) rfl)) rfl, by decide +kernel, by decide +kernel, by decide +kernel⟩, zt_of (List.mem_append_right _ (List.mem_append_left _ (List.mem_of_getElem? (i := 53) rfl))) rfl, zt_of (List.mem_append_right _ (List.mem_append_left _ (List.mem_of_getElem? (i := 54) rfl))) rfl, zt_of (List.mem_append_right _ (List.mem_append_left _ (List.mem_of_getElem? (i := 55) rfl))) rfl, rfl⟩
theorem c_Mov_101 : zCV R_Mov 101 y_Dia_patternAt 1 1 := ⟨⟨zt_of (List.mem_append_left _ (List.mem_of_getElem? (i := 2) rfl)) rfl, by decide +kernel, by decide +kernel, by decide +kernel⟩, zt_of (List.mem_append_right _ (List.mem_append_left _ (List.mem_of_getElem? (i := 61) rfl))) rfl, zt_of (List.mem_append_right _ (List.mem_append_left _ (List.mem_of_getElem? (i := 62) rfl))) rfl, zt_of (List.mem_append_right _ (List.mem_append_left _ (List.mem_of_getElem? (i := 63) rfl))) rfl, rfl⟩
theorem c_Mov_104 : zCV R_Mov 104 y_Dia_undoAt 1 1 := ⟨⟨zt_of (List.mem_append_left _ (List.mem_of_getElem? (i := 2) rfl)) rfl, by decide +kernel, by decide +kernel, by decide +kernel⟩, zt_of (List.mem_append_right _ (List.mem_append_left _ (List.mem_of_getElem? (i := 94) rfl))) rfl, zt_of (List.mem_append_right _ (List.mem_append_left _ (List.mem_of_getElem? (i := 95) rfl))) rfl, zt_of (List.mem_append_right _ (List.mem_append_left _ (List.mem_of_getElem? (i := 96) rfl))) rfl, rfl⟩
theorem c_Mov_107 : zCV R_Mov 107 y_Dia_slideAt 1 1 := ⟨⟨zt_of (List.mem_append_left _ (List.mem_of_getElem? (i := 2) rfl)) rfl, by decide +kernel, by decide +kernel, by decide +kernel⟩, zt_of (List.mem_append_right _ (List.mem_append_left _ (List.mem_of_getElem? (i := 128) rfl))) rfl, zt_of (List.mem_append_right _ (List.mem_append_left _ (List.mem_of_getElem? (i := 129) rfl))) rfl, zt_of (List.mem_append_right _ (List.mem_append_left _ (List.mem_of_getElem? (i := 130) rfl))) rfl, rfl⟩
theorem c_Mov_110 : zCV R_Mov 110 y_Dia_twistCircle 1 2 := ⟨⟨zt_of (List.mem_append_left _ (List.mem_of_getElem? (i := 2) rfl)) rfl, by decide +kernel, by decide +kernel, by decide +kernel⟩, zt_of (List.mem_append_right _ (List.mem_append_left _ (List.mem_of_getElem? (i := 141) rfl))) rfl, zt_of (List.mem_append_right _ (List.mem_append_left _ (List.mem_of_getElem? (i := 142) rfl))) rfl, zt_of (List.mem_append_right _ (List.mem_append_left _ (List.mem_of_getElem? (i := 143) rfl))) rfl, rfl⟩
theorem c_Mov_114 : zCV R_Mov 114 y_Dia_twistEdge 1 3 := ⟨⟨zt_of (List.mem_append_left _ (List.mem_of_getElem? (i := 2) rfl)) rfl, by decide +kernel, by decide +kernel, by decide +kernel⟩, zt_of (List.mem_append_right _ (List.mem_append_left _ (List.mem_of_getElem? (i := 180) rfl))) rfl, zt_of (List.mem_append_right _ (List.mem_append_left _ (List.mem_of_getElem? (i := 181) rfl))) rfl, zt_of (List.mem_append_right _ (List.mem_append_left _ (List.mem_of_getElem? (i := 182) rfl))) rfl, rfl⟩
theorem c_Mov_118 : zCV R_Mov 118 y_Edg_withLabel 3 1 := ⟨⟨zt_of (List.mem_append_left _ (List.mem_of_getElem? (i := 4) rfl)) rfl, by decide +kernel, by decide +kernel, by decide +kernel⟩, zt_of (List.mem_append_right _ (List.mem_append_left _ (List.mem_of_getElem? (i := 196) rfl))) rfl, zt_of (List.mem_append_right _ (List.mem_append_left _ (List.mem_of_getElem? (i := 185) rfl))) rfl, zt_of (List.mem_append_right _ (List.mem_append_left _ (List.mem_of_getElem? (i := 186) rfl))) rfl, rfl⟩
theorem c_Mov_121 : zCV R_Mov 121 y_Dia_pushDart 1 3 := ⟨⟨zt_of (List.mem_append_left _ (List.mem_of_getElem? (i := 2) rfl)) rfl, by decide +kernel, by decide +kernel, by decide +kernel⟩, zt_of (List.mem_append_right _ (List.mem_append_left _ (List.mem_of_getElem? (i := 197) rfl))) rfl, zt_of (List.mem_append_right _ (List.mem_append_left _ (List.mem_of_getElem? (i := 198) rfl))) rfl, zt_of (List.mem_append_right _ (List.mem_append_left _ (List.mem_of_getElem? (i := 199) rfl))) rfl, rfl⟩
theorem c_Mov_124 : zCV R_Mov 124 y_Dia_leastFaceToUndo 1 0 := ⟨⟨zt_of (List.mem_append_left _ (List.mem_of_getElem? (i := 2) rfl)) rfl, by decide +kernel, by decide +kernel, by decide +kernel⟩, zt_of (List.mem_append_right _ (List.mem_append_left _ (List.mem_of_getElem? (i := 209) rfl))) rfl, zt_of (List.mem_append_right _ (List.mem_append_left _ (List.mem_of_getElem? (i := 210) rfl))) rfl, zt_of (List.mem_append_right _ (List.mem_append_left _ (List.mem_of_getElem? (i := 211) rfl))) rfl, rfl⟩
theorem c_Dia_11 : zCI R_Dia 11 y_Row_init 0 := ⟨⟨zt_of (List.mem_append_left _ (List.mem_of_getElem? (i := 3) rfl)) rfl, by decide +kernel, by decide +kernel, by decide +kernel⟩, Or.inr ⟨"DiagramMoves", by decide +kernel⟩, zt_of (List.mem_append_left _ (List.mem_of_getElem? (i := 30) rfl)) rfl, rfl⟩
theorem c_Dia_20 : zCI R_Dia 20 y_Edg_init 0 := ⟨⟨zt_of (List.mem_append_left _ (List.mem_of_getElem? (i := 4) rfl)) rfl, by decide +kernel, by decide +kernel, by decide +kernel⟩, Or.inr ⟨"DiagramMoves", by decide +kernel⟩, zt_of (List.mem_append_left _ (List.mem_of_getElem? (i := 54) rfl)) rfl, rfl⟩
theorem c_Dia_27 : zCI R_Dia 27 y_Fac_init 0 := ⟨⟨zt_of (List.mem_append_left _ (List.mem_of_getElem? (i := 5) rfl)) rfl, by decide +kernel, by decide +kernel, by decide +kernel⟩, Or.inr ⟨"DiagramMoves", by decide +kernel⟩, zt_of (List.mem_append_left _ (List.mem_of_getElem? (i := 87) rfl)) rfl, rfl⟩
theorem c_Dia_34 : zCI R_Dia 34 y_Pie_init 0 := ⟨⟨zt_of (List.mem_append_left _ (List.mem_of_getElem? (i := 6) rfl)) rfl, by decide +kernel, by decide +kernel, by decide +kernel⟩, Or.inr ⟨"DiagramMoves", by decide +kernel⟩, zt_of (List.mem_append_left _ (List.mem_of_getElem? (i := 109) rfl)) rfl, rfl⟩
theorem c_Dia_43 : zCV R_Dia 43 y_Edg_find 3 1 := ⟨⟨zt_of (List.mem_append_left _ (List.mem_of_getElem? (i := 4) rfl)) rfl, by decide +kernel, by decide +kernel, by decide +kernel⟩, zt_of (List.mem_append_left _ (List.mem_of_getElem? (i := 187) rfl)) rfl, zt_of (List.mem_append_left _ (List.mem_of_getElem? (i := 188) rfl)) rfl, zt_of (List.mem_append_left _ (List.mem_of_getElem? (i := 189) rfl)) rfl, rfl⟩
theorem c_Dia_47 : zCV R_Dia 47 y_Fac_find 4 1 := ⟨⟨zt_of (List.mem_append_left _ (List.mem_of_getElem? (i := 5) rfl)) rfl, by decide +kernel, by decide +kernel, by decide +kernel⟩, zt_of (List.mem_append_left _ (List.mem_of_getElem? (i := 211) rfl)) rfl, zt_of (List.mem_append_left _ (List.mem_of_getElem? (i := 212) rfl)) rfl, zt_of (List.mem_append_left _ (List.mem_of_getElem? (i := 213) rfl)) rfl, rfl⟩
theorem c_Dia_54 : zCV R_Dia 54 y_Pie_find 5 2 := ⟨⟨zt_of (List.mem_append_left _ (List.mem_of_getElem? (i := 6) rfl)) rfl, by decide +kernel, by decide +kernel, by decide +kernel⟩, zt_of (List.mem_append_left _ (List.mem_of_getElem? (i := 234) rfl)) rfl, zt_of (List.mem_append_left _ (List.mem_of_getElem? (i := 235) rfl)) rfl, zt_of (List.mem_append_left _ (List.mem_of_getElem? (i := 236) rfl)) rfl, rfl⟩
theorem c_Dia_59 : zCV R_Dia 59 y_Fac_size 4 1 := ⟨⟨zt_of (List.mem_append_left _ (List.mem_of_getElem? (i := 5) rfl)) rfl, by decide +kernel, by decide +kernel, by decide +kernel⟩, zt_of (List.mem_append_right _ (List.mem_append_left _ (List.mem_of_getElem? (i := 65) rfl))) rfl, zt_of (List.mem_append_right _ (List.mem_append_left _ (List.mem_of_getElem? (i := 46) rfl))) rfl, zt_of (List.mem_append_right _ (List.mem_append_left _ (List.mem_of_getElem? (i := 47) rfl))) rfl, rfl⟩
theorem c_Dia_63 : zCV R_Dia 63 y_Fac_dart 4 2 := ⟨⟨zt_of (List.mem_append_left _ (List.mem_of_getElem? (i := 5) rfl)) rfl, by decide +kernel, by decide +kernel, by decide +kernel⟩, zt_of (List.mem_append_right _ (List.mem_append_left _ (List.mem_of_getElem? (i := 66) rfl))) rfl, zt_of (List.mem_append_right _ (List.mem_append_left _ (List.mem_of_getElem? (i := 50) rfl))) rfl, zt_of (List.mem_append_right _ (List.mem_append_left _ (List.mem_of_getElem? (i := 51) rfl))) rfl, rfl⟩
theorem c_Dia_67 : zCV R_Dia 67 y_Dia_isFinger 1 2 := ⟨⟨zt_of (List.mem_append_left _ (List.mem_of_getElem? (i := 2) rfl)) rfl, by decide +kernel, by decide +kernel, by decide +kernel⟩, zt_of (List.mem_append_right _ (List.mem_append_left _ (List.mem_of_getElem? (i := 67) rfl))) rfl, zt_of (List.mem_append_right _ (List.mem_append_left _ (List.mem_of_getElem? (i := 69) rfl))) rfl, zt_ps (by decide +kernel) rfl, rfl⟩
theorem c_Dia_71 : zCV R_Dia 71 y_Dia_isTriangle 1 1 := ⟨⟨zt_of (List.mem_append_left _ (List.mem_of_getElem? (i := 2) rfl)) rfl, by decide +kernel, by decide +kernel, by decide +kernel⟩, zt_of (List.mem_append_right _ (List.mem_append_left _ (List.mem_of_getElem? (i := 80) rfl))) rfl, zt_of (List.mem_append_right _ (List.mem_append_left _ (List.mem_of_getElem? (i := 82) rfl))) rfl, zt_ps (by decide +kernel) rfl, rfl⟩
theorem c_Dia_75 : zCV R_Dia 75 y_Edg_upperEnds 3 1 := ⟨⟨zt_of (List.mem_append_left _ (List.mem_of_getElem? (i := 4) rfl)) rfl, by decide +kernel, by decide +kernel, by decide +kernel⟩, zt_of (List.mem_append_right _ (List.mem_append_left _ (List.mem_of_getElem? (i := 71) rfl))) rfl, zt_of (List.mem_append_right _ (List.mem_append_left _ (List.mem_of_getElem? (i := 72) rfl))) rfl, zt_of (List.mem_append_right _ (List.mem_append_left _ (List.mem_of_getElem? (i := 73) rfl))) rfl, rfl⟩
theorem c_Dia_78 : zCV R_Dia 78 y_Dia_crossingAhead 1 1 := ⟨⟨zt_of (List.mem_append_left _ (List.mem_of_getElem? (i := 2) rfl)) rfl, by decide +kernel, by decide +kernel, by decide +kernel⟩, zt_of (List.mem_append_right _ (List.mem_append_left _ (List.mem_of_getElem? (i := 75) rfl))) rfl, zt_of (List.mem_append_right _ (List.mem_append_left _ (List.mem_of_getElem? (i := 77) rfl))) rfl, zt_ps (by decide +kernel) rfl, rfl⟩
theorem c_Dia_81 : zCS R_Dia 81 y_Int_bitCount 1 := ⟨⟨zt_of (List.mem_append_left _ (List.mem_of_getElem? (i := 10) rfl)) rfl, by decide +kernel, by decide +kernel, by decide +kernel⟩, zt_of (List.mem_append_right _ (List.mem_append_left _ (List.mem_of_getElem? (i := 84) rfl))) rfl, zt_of (List.mem_append_right _ (List.mem_append_left _ (List.mem_of_getElem? (i := 85) rfl))) rfl⟩
theorem c_Dia_86 : zCV R_Dia 86 y_Edg_arrival 3 1 := ⟨⟨zt_of (List.mem_append_left _ (List.mem_of_getElem? (i := 4) rfl)) rfl, by decide +kernel, by decide +kernel, by decide +kernel⟩, zt_of (List.mem_append_right _ (List.mem_append_left _ (List.mem_of_getElem? (i := 79) rfl))) rfl, zt_of (List.mem_append_left _ (List.mem_of_getElem? (i := 227) rfl)) rfl, zt_of (List.mem_append_left _ (List.mem_of_getElem? (i := 228) rfl)) rfl, rfl⟩
theorem c_Dia_89 : zCV R_Dia 89 y_Dia_patternAt 1 1 := ⟨⟨zt_of (List.mem_append_left _ (List.mem_of_getElem? (i := 2) rfl)) rfl, by decide +kernel, by decide +kernel, by decide +kernel⟩, zt_of (List.mem_append_right _ (List.mem_append_left _ (List.mem_of_getElem? (i := 98) rfl))) rfl, zt_of (List.mem_append_right _ (List.mem_append_left _ (List.mem_of_getElem? (i := 62) rfl))) rfl, zt_of (List.mem_append_right _ (List.mem_append_left _ (List.mem_of_getElem? (i := 63) rfl))) rfl, rfl⟩
theorem c_Dia_92 : zCV R_Dia 92 y_Dia_lift 1 1 := ⟨⟨zt_of (List.mem_append_left _ (List.mem_of_getElem? (i := 2) rfl)) rfl, by decide +kernel, by decide +kernel, by decide +kernel⟩, zt_of (List.mem_append_right _ (List.mem_append_left _ (List.mem_of_getElem? (i := 99) rfl))) rfl, zt_of (List.mem_append_right _ (List.mem_append_left _ (List.mem_of_getElem? (i := 101) rfl))) rfl, zt_ps (by decide +kernel) rfl, rfl⟩
theorem c_Dia_96 : zCS R_Dia 96 y_Math_min 2 := ⟨⟨zt_of (List.mem_append_left _ (List.mem_of_getElem? (i := 9) rfl)) rfl, by decide +kernel, by decide +kernel, by decide +kernel⟩, zt_of (List.mem_append_right _ (List.mem_append_left _ (List.mem_of_getElem? (i := 121) rfl))) rfl, zt_of (List.mem_append_right _ (List.mem_append_left _ (List.mem_of_getElem? (i := 7) rfl))) rfl⟩
theorem c_Dia_101 : zCS R_Dia 101 y_Math_max 2 := ⟨⟨zt_of (List.mem_append_left _ (List.mem_of_getElem? (i := 9) rfl)) rfl, by decide +kernel, by decide +kernel, by decide +kernel⟩, zt_of (List.mem_append_right _ (List.mem_append_left _ (List.mem_of_getElem? (i := 122) rfl))) rfl, zt_of (List.mem_append_right _ (List.mem_append_left _ (List.mem_of_getElem? (i := 10) rfl))) rfl⟩
theorem c_Dia_104 : zCV R_Dia 104 y_Dia_chart 1 0 := ⟨⟨zt_of (List.mem_append_left _ (List.mem_of_getElem? (i := 2) rfl)) rfl, by decide +kernel, by decide +kernel, by decide +kernel⟩, zt_of (List.mem_append_right _ (List.mem_append_left _ (List.mem_of_getElem? (i := 123) rfl))) rfl, zt_of (List.mem_append_left _ (List.mem_of_getElem? (i := 184) rfl)) rfl, zt_of (List.mem_append_left _ (List.mem_of_getElem? (i := 185) rfl)) rfl, rfl⟩
theorem c_Dia_108 : zCV R_Dia 108 y_Row_upperIn 2 1 := ⟨⟨zt_of (List.mem_append_left _ (List.mem_of_getElem? (i := 3) rfl)) rfl, by decide +kernel, by decide +kernel, by decide +kernel⟩, zt_of (List.mem_append_right _ (List.mem_append_left _ (List.mem_of_getElem? (i := 103) rfl))) rfl, zt_of (List.mem_append_left _ (List.mem_of_getElem? (i := 208) rfl)) rfl, zt_of (List.mem_append_left _ (List.mem_of_getElem? (i := 209) rfl)) rfl, rfl⟩
theorem c_Dia_111 : zCV R_Dia 111 y_Dia_joinEdges 1 2 := ⟨⟨zt_of (List.mem_append_left _ (List.mem_of_getElem? (i := 2) rfl)) rfl, by decide +kernel, by decide +kernel, by decide +kernel⟩, zt_of (List.mem_append_right _ (List.mem_append_left _ (List.mem_of_getElem? (i := 104) rfl))) rfl, zt_of (List.mem_append_right _ (List.mem_append_left _ (List.mem_of_getElem? (i := 106) rfl))) rfl, zt_ps (by decide +kernel) rfl, rfl⟩
theorem c_Dia_115 : zCV R_Dia 115 y_Row_remove 2 1 := ⟨⟨zt_of (List.mem_append_left _ (List.mem_of_getElem? (i := 3) rfl)) rfl, by decide +kernel, by decide +kernel, by decide +kernel⟩, zt_of (List.mem_append_right _ (List.mem_append_left _ (List.mem_of_getElem? (i := 114) rfl))) rfl, zt_of (List.mem_append_right _ (List.mem_append_left _ (List.mem_of_getElem? (i := 115) rfl))) rfl, zt_of (List.mem_append_right _ (List.mem_append_left _ (List.mem_of_getElem? (i := 116) rfl))) rfl, rfl⟩
theorem c_Dia_118 : zCV R_Dia 118 y_Row_joinLabels 2 2 := ⟨⟨zt_of (List.mem_append_left _ (List.mem_of_getElem? (i := 3) rfl)) rfl, by decide +kernel, by decide +kernel, by decide +kernel⟩, zt_of (List.mem_append_right _ (List.mem_append_left _ (List.mem_of_getElem? (i := 108) rfl))) rfl, zt_of (List.mem_append_right _ (List.mem_append_left _ (List.mem_of_getElem? (i := 109) rfl))) rfl, zt_of (List.mem_append_right _ (List.mem_append_left _ (List.mem_of_getElem? (i := 110) rfl))) rfl, rfl⟩
theorem c_Dia_133 : zCV R_Dia 133 y_Dia_slideEdge 1 1 := ⟨⟨zt_of (List.mem_append_left _ (List.mem_of_getElem? (i := 2) rfl)) rfl, by decide +kernel, by decide +kernel, by decide +kernel⟩, zt_of (List.mem_append_right _ (List.mem_append_left _ (List.mem_of_getElem? (i := 133) rfl))) rfl, zt_of (List.mem_append_right _ (List.mem_append_left _ (List.mem_of_getElem? (i := 135) rfl))) rfl, zt_ps (by decide +kernel) rfl, rfl⟩
theorem c_Dia_143 : zCV R_Dia 143 y_Edg_freeAfter 3 1 := ⟨⟨zt_of (List.mem_append_left _ (List.mem_of_getElem? (i := 4) rfl)) rfl, by decide +kernel, by decide +kernel, by decide +kernel⟩, zt_of (List.mem_append_right _ (List.mem_append_left _ (List.mem_of_getElem? (i := 145) rfl))) rfl, zt_of (List.mem_append_right _ (List.mem_append_left _ (List.mem_of_getElem? (i := 30) rfl))) rfl, zt_of (List.mem_append_right _ (List.mem_append_left _ (List.mem_of_getElem? (i := 31) rfl))) rfl, rfl⟩
theorem c_Dia_148 : zCI R_Dia 148 y_Cut_init 3 := ⟨⟨zt_of (List.mem_append_left _ (List.mem_of_getElem? (i := 12) rfl)) rfl, by decide +kernel, by decide +kernel, by decide +kernel⟩, Or.inl (zt_of (List.mem_append_right _ (List.mem_append_left _ (List.mem_of_getElem? (i := 148) rfl))) rfl), zt_of (List.mem_append_right _ (List.mem_append_left _ (List.mem_of_getElem? (i := 149) rfl))) rfl, rfl⟩
theorem c_Dia_151 : zCV R_Dia 151 y_Dia_addKink 1 3 := ⟨⟨zt_of (List.mem_append_left _ (List.mem_of_getElem? (i := 2) rfl)) rfl, by decide +kernel, by decide +kernel, by decide +kernel⟩, zt_of (List.mem_append_right _ (List.mem_append_left _ (List.mem_of_getElem? (i := 163) rfl))) rfl, zt_of (List.mem_append_right _ (List.mem_append_left _ (List.mem_of_getElem? (i := 165) rfl))) rfl, zt_ps (by decide +kernel) rfl, rfl⟩
theorem c_Dia_155 : zCV R_Dia 155 y_Edg_withLabel 3 1 := ⟨⟨zt_of (List.mem_append_left _ (List.mem_of_getElem? (i := 4) rfl)) rfl, by decide +kernel, by decide +kernel, by decide +kernel⟩, zt_of (List.mem_append_right _ (List.mem_append_left _ (List.mem_of_getElem? (i := 184) rfl))) rfl, zt_of (List.mem_append_right _ (List.mem_append_left _ (List.mem_of_getElem? (i := 185) rfl))) rfl, zt_of (List.mem_append_right _ (List.mem_append_left _ (List.mem_of_getElem? (i := 186) rfl))) rfl, rfl⟩
theorem c_Dia_158 : zCV R_Dia 158 y_Dia_cutEdge 1 2 := ⟨⟨zt_of (List.mem_append_left _ (List.mem_of_getElem? (i := 2) rfl)) rfl, by decide +kernel, by decide +kernel, by decide +kernel⟩, zt_of (List.mem_append_right _ (List.mem_append_left _ (List.mem_of_getElem? (i := 188) rfl))) rfl, zt_of (List.mem_append_right _ (List.mem_append_left _ (List.mem_of_getElem? (i := 190) rfl))) rfl, zt_ps (by decide +kernel) rfl, rfl⟩
theorem c_Dia_162 : zCV R_Dia 162 y_Dia_addCrossing 1 5 := ⟨⟨zt_of (List.mem_append_left _ (List.mem_of_getElem? (i := 2) rfl)) rfl, by decide +kernel, by decide +kernel, by decide +kernel⟩, zt_of (List.mem_append_right _ (List.mem_append_left _ (List.mem_of_getElem? (i := 167) rfl))) rfl, zt_of (List.mem_append_right _ (List.mem_append_left _ (List.mem_of_getElem? (i := 169) rfl))) rfl, zt_ps (by decide +kernel) rfl, rfl⟩
theorem c_Dia_166 : zCV R_Dia 166 y_Cut_in 6 1 := ⟨⟨zt_of (List.mem_append_left _ (List.mem_of_getElem? (i := 12) rfl)) rfl, by decide +kernel, by decide +kernel, by decide +kernel⟩, zt_of (List.mem_append_right _ (List.mem_append_left _ (List.mem_of_getElem? (i := 171) rfl))) rfl, zt_of (List.mem_append_right _ (List.mem_append_left _ (List.mem_of_getElem? (i := 172) rfl))) rfl, zt_of (List.mem_append_right _ (List.mem_append_left _ (List.mem_of_getElem? (i := 173) rfl))) rfl, rfl⟩
theorem c_Dia_170 : zCV R_Dia 170 y_Cut_out 6 1 := ⟨⟨zt_of (List.mem_append_left _ (List.mem_of_getElem? (i := 12) rfl)) rfl, by decide +kernel, by decide +kernel, by decide +kernel⟩, zt_of (List.mem_append_right _ (List.mem_append_left _ (List.mem_of_getElem? (i := 175) rfl))) rfl, zt_of (List.mem_append_right _ (List.mem_append_left _ (List.mem_of_getElem? (i := 176) rfl))) rfl, zt_of (List.mem_append_right _ (List.mem_append_left _ (List.mem_of_getElem? (i := 177) rfl))) rfl, rfl⟩
theorem c_Dia_173 : zCV R_Dia 173 y_Row_add 2 5 := ⟨⟨zt_of (List.mem_append_left _ (List.mem_of_getElem? (i := 3) rfl)) rfl, by decide +kernel, by decide +kernel, by decide +kernel⟩, zt_of (List.mem_append_right _ (List.mem_append_left _ (List.mem_of_getElem? (i := 179) rfl))) rfl, zt_of (List.mem_append_left _ (List.mem_of_getElem? (i := 175) rfl)) rfl, zt_of (List.mem_append_left _ (List.mem_of_getElem? (i := 176) rfl)) rfl, rfl⟩
theorem c_Dia_177 : zCV R_Dia 177 y_Dia_canMeet 1 2 := ⟨⟨zt_of (List.mem_append_left _ (List.mem_of_getElem? (i := 2) rfl)) rfl, by decide +kernel, by decide +kernel, by decide +kernel⟩, zt_of (List.mem_append_right _ (List.mem_append_left _ (List.mem_of_getElem? (i := 201) rfl))) rfl, zt_of (List.mem_append_right _ (List.mem_append_left _ (List.mem_of_getElem? (i := 203) rfl))) rfl, zt_ps (by decide +kernel) rfl, rfl⟩
theorem c_Edg_27 : zCV R_Edg 27 y_Edg_sortPlaces 3 1 := ⟨⟨zt_of (List.mem_append_left _ (List.mem_of_getElem? (i := 4) rfl)) rfl, by decide +kernel, by decide +kernel, by decide +kernel⟩, zt_of (List.mem_append_left _ (List.mem_of_getElem? (i := 191) rfl)) rfl, zt_of (List.mem_append_left _ (List.mem_of_getElem? (i := 193) rfl)) rfl, zt_ps (by decide +kernel) rfl, rfl⟩
theorem c_Edg_31 : zCV R_Edg 31 y_Edg_everyLabelStandsTwice 3 1 := ⟨⟨zt_of (List.mem_append_left _ (List.mem_of_getElem? (i := 4) rfl)) rfl, by decide +kernel, by decide +kernel, by decide +kernel⟩, zt_of (List.mem_append_left _ (List.mem_of_getElem? (i := 195) rfl)) rfl, zt_of (List.mem_append_left _ (List.mem_of_getElem? (i := 197) rfl)) rfl, zt_ps (by decide +kernel) rfl, rfl⟩
theorem c_Edg_35 : zCV R_Edg 35 y_Edg_pairPlaces 3 1 := ⟨⟨zt_of (List.mem_append_left _ (List.mem_of_getElem? (i := 4) rfl)) rfl, by decide +kernel, by decide +kernel, by decide +kernel⟩, zt_of (List.mem_append_left _ (List.mem_of_getElem? (i := 199) rfl)) rfl, zt_of (List.mem_append_left _ (List.mem_of_getElem? (i := 201) rfl)) rfl, zt_ps (by decide +kernel) rfl, rfl⟩
theorem c_Edg_46 : zCV R_Edg 46 y_Row_strandGoesIn 2 1 := ⟨⟨zt_of (List.mem_append_left _ (List.mem_of_getElem? (i := 3) rfl)) rfl, by decide +kernel, by decide +kernel, by decide +kernel⟩, zt_of (List.mem_append_left _ (List.mem_of_getElem? (i := 203) rfl)) rfl, zt_of (List.mem_append_left _ (List.mem_of_getElem? (i := 204) rfl)) rfl, zt_of (List.mem_append_left _ (List.mem_of_getElem? (i := 205) rfl)) rfl, rfl⟩
theorem c_Edg_50 : zCV R_Edg 50 y_Edg_arrival 3 1 := ⟨⟨zt_of (List.mem_append_left _ (List.mem_of_getElem? (i := 4) rfl)) rfl, by decide +kernel, by decide +kernel, by decide +kernel⟩, zt_of (List.mem_append_left _ (List.mem_of_getElem? (i := 226) rfl)) rfl, zt_of (List.mem_append_left _ (List.mem_of_getElem? (i := 227) rfl)) rfl, zt_of (List.mem_append_left _ (List.mem_of_getElem? (i := 228) rfl)) rfl, rfl⟩
theorem c_Edg_54 : zCV R_Edg 54 y_Edg_dartLeaving 3 1 := ⟨⟨zt_of (List.mem_append_left _ (List.mem_of_getElem? (i := 4) rfl)) rfl, by decide +kernel, by decide +kernel, by decide +kernel⟩, zt_of (List.mem_append_left _ (List.mem_of_getElem? (i := 230) rfl)) rfl, zt_of (List.mem_append_left _ (List.mem_of_getElem? (i := 231) rfl)) rfl, zt_of (List.mem_append_left _ (List.mem_of_getElem? (i := 232) rfl)) rfl, rfl⟩
theorem c_Fac_21 : zCS R_Fac 21 y_Arr_fill 2 := ⟨⟨zt_of (List.mem_append_left _ (List.mem_of_getElem? (i := 8) rfl)) rfl, by decide +kernel, by decide +kernel, by decide +kernel⟩, zt_of (List.mem_append_left _ (List.mem_of_getElem? (i := 215) rfl)) rfl, zt_of (List.mem_append_left _ (List.mem_of_getElem? (i := 216) rfl)) rfl⟩
theorem c_Fac_34 : zCV R_Fac 34 y_Fac_addRound 4 2 := ⟨⟨zt_of (List.mem_append_left _ (List.mem_of_getElem? (i := 5) rfl)) rfl, by decide +kernel, by decide +kernel, by decide +kernel⟩, zt_of (List.mem_append_left _ (List.mem_of_getElem? (i := 218) rfl)) rfl, zt_of (List.mem_append_left _ (List.mem_of_getElem? (i := 220) rfl)) rfl, zt_ps (by decide +kernel) rfl, rfl⟩
theorem c_Fac_38 : zCV R_Fac 38 y_Edg_nextDart 3 1 := ⟨⟨zt_of (List.mem_append_left _ (List.mem_of_getElem? (i := 4) rfl)) rfl, by decide +kernel, by decide +kernel, by decide +kernel⟩, zt_of (List.mem_append_left _ (List.mem_of_getElem? (i := 222) rfl)) rfl, zt_of (List.mem_append_left _ (List.mem_of_getElem? (i := 223) rfl)) rfl, zt_of (List.mem_append_left _ (List.mem_of_getElem? (i := 224) rfl)) rfl, rfl⟩
theorem c_Pie_18 : zCV R_Pie 18 y_Pie_findPieces 5 2 := ⟨⟨zt_of (List.mem_append_left _ (List.mem_of_getElem? (i := 6) rfl)) rfl, by decide +kernel, by decide +kernel, by decide +kernel⟩, zt_of (List.mem_append_left _ (List.mem_of_getElem? (i := 238) rfl)) rfl, zt_of (List.mem_append_right _ (List.mem_append_left _ (List.mem_of_getElem? (i := 0) rfl))) rfl, zt_ps (by decide +kernel) rfl, rfl⟩
theorem c_Pie_22 : zCV R_Pie 22 y_Pie_countComponents 5 1 := ⟨⟨zt_of (List.mem_append_left _ (List.mem_of_getElem? (i := 6) rfl)) rfl, by decide +kernel, by decide +kernel, by decide +kernel⟩, zt_of (List.mem_append_right _ (List.mem_append_left _ (List.mem_of_getElem? (i := 12) rfl))) rfl, zt_of (List.mem_append_right _ (List.mem_append_left _ (List.mem_of_getElem? (i := 14) rfl))) rfl, zt_ps (by decide +kernel) rfl, rfl⟩
theorem c_Pie_39 : zCV R_Pie 39 y_Pie_unite 5 3 := ⟨⟨zt_of (List.mem_append_left _ (List.mem_of_getElem? (i := 6) rfl)) rfl, by decide +kernel, by decide +kernel, by decide +kernel⟩, zt_of (List.mem_append_right _ (List.mem_append_left _ (List.mem_of_getElem? (i := 2) rfl))) rfl, zt_of (List.mem_append_right _ (List.mem_append_left _ (List.mem_of_getElem? (i := 4) rfl))) rfl, zt_ps (by decide +kernel) rfl, rfl⟩
theorem c_Pie_43 : zCS R_Pie 43 y_Math_min 2 := ⟨⟨zt_of (List.mem_append_left _ (List.mem_of_getElem? (i := 9) rfl)) rfl, by decide +kernel, by decide +kernel, by decide +kernel⟩, zt_of (List.mem_append_right _ (List.mem_append_left _ (List.mem_of_getElem? (i := 6) rfl))) rfl, zt_of (List.mem_append_right _ (List.mem_append_left _ (List.mem_of_getElem? (i := 7) rfl))) rfl⟩
theorem c_Pie_49 : zCS R_Pie 49 y_Math_max 2 := ⟨⟨zt_of (List.mem_append_left _ (List.mem_of_getElem? (i := 9) rfl)) rfl, by decide +kernel, by decide +kernel, by decide +kernel⟩, zt_of (List.mem_append_right _ (List.mem_append_left _ (List.mem_of_getElem? (i := 9) rfl))) rfl, zt_of (List.mem_append_right _ (List.mem_append_left _ (List.mem_of_getElem? (i := 10) rfl))) rfl⟩
theorem c_Pie_52 : zCS R_Pie 52 y_Arr_fill 2 := ⟨⟨zt_of (List.mem_append_left _ (List.mem_of_getElem? (i := 8) rfl)) rfl, by decide +kernel, by decide +kernel, by decide +kernel⟩, zt_of (List.mem_append_right _ (List.mem_append_left _ (List.mem_of_getElem? (i := 16) rfl))) rfl, zt_of (List.mem_append_left _ (List.mem_of_getElem? (i := 216) rfl)) rfl⟩
theorem c_Pie_61 : zCV R_Pie 61 y_Pie_followComponent 5 2 := ⟨⟨zt_of (List.mem_append_left _ (List.mem_of_getElem? (i := 6) rfl)) rfl, by decide +kernel, by decide +kernel, by decide +kernel⟩, zt_of (List.mem_append_right _ (List.mem_append_left _ (List.mem_of_getElem? (i := 17) rfl))) rfl, zt_of (List.mem_append_right _ (List.mem_append_left _ (List.mem_of_getElem? (i := 19) rfl))) rfl, zt_ps (by decide +kernel) rfl, rfl⟩
theorem c_Row_22 : zCV R_Row 22 y_Row_isFull 2 0 := ⟨⟨zt_of (List.mem_append_left _ (List.mem_of_getElem? (i := 3) rfl)) rfl, by decide +kernel, by decide +kernel, by decide +kernel⟩, zt_of (List.mem_append_left _ (List.mem_of_getElem? (i := 178) rfl)) rfl, zt_of (List.mem_append_left _ (List.mem_of_getElem? (i := 171) rfl)) rfl, zt_of (List.mem_append_left _ (List.mem_of_getElem? (i := 172) rfl)) rfl, rfl⟩
theorem c_Row_26 : zCV R_Row 26 y_Row_upperIn 2 1 := ⟨⟨zt_of (List.mem_append_left _ (List.mem_of_getElem? (i := 3) rfl)) rfl, by decide +kernel, by decide +kernel, by decide +kernel⟩, zt_of (List.mem_append_left _ (List.mem_of_getElem? (i := 207) rfl)) rfl, zt_of (List.mem_append_left _ (List.mem_of_getElem? (i := 208) rfl)) rfl, zt_of (List.mem_append_left _ (List.mem_of_getElem? (i := 209) rfl)) rfl, rfl⟩
theorem c_Row_30 : zCS R_Row 30 y_Math_min 2 := ⟨⟨zt_of (List.mem_append_left _ (List.mem_of_getElem? (i := 9) rfl)) rfl, by decide +kernel, by decide +kernel, by decide +kernel⟩, zt_of (List.mem_append_right _ (List.mem_append_left _ (List.mem_of_getElem? (i := 112) rfl))) rfl, zt_of (List.mem_append_right _ (List.mem_append_left _ (List.mem_of_getElem? (i := 7) rfl))) rfl⟩
theorem c_Row_36 : zCS R_Row 36 y_Math_max 2 := ⟨⟨zt_of (List.mem_append_left _ (List.mem_of_getElem? (i := 9) rfl)) rfl, by decide +kernel, by decide +kernel, by decide +kernel⟩, zt_of (List.mem_append_right _ (List.mem_append_left _ (List.mem_of_getElem? (i := 113) rfl))) rfl, zt_of (List.mem_append_right _ (List.mem_append_left _ (List.mem_of_getElem? (i := 10) rfl))) rfl⟩
theorem c_Mod_62 : zCV R_Mod 62 y_Mod_isOut 7 1 := ⟨⟨zt_of (List.mem_append_left _ (List.mem_of_getElem? (i := 7) rfl)) rfl, by decide +kernel, by decide +kernel, by decide +kernel⟩, zt_of (List.mem_append_right _ (List.mem_append_right _ (List.mem_of_getElem? (i := 82) rfl))) rfl, zt_of (List.mem_append_right _ (List.mem_append_right _ (List.mem_of_getElem? (i := 84) rfl))) rfl, zt_ps (by decide +kernel) rfl, rfl⟩
theorem c_Mod_66 : zCV R_Mod 66 y_Mod_placeOf 7 2 := ⟨⟨zt_of (List.mem_append_left _ (List.mem_of_getElem? (i := 7) rfl)) rfl, by decide +kernel, by decide +kernel, by decide +kernel⟩, zt_of (List.mem_append_right _ (List.mem_append_right _ (List.mem_of_getElem? (i := 78) rfl))) rfl, zt_of (List.mem_append_right _ (List.mem_append_right _ (List.mem_of_getElem? (i := 80) rfl))) rfl, zt_ps (by decide +kernel) rfl, rfl⟩
theorem c_Mod_70 : zCS R_Mod 70 y_Mod_across 1 := ⟨⟨zt_of (List.mem_append_left _ (List.mem_of_getElem? (i := 7) rfl)) rfl, by decide +kernel, by decide +kernel, by decide +kernel⟩, zt_of (List.mem_append_right _ (List.mem_append_right _ (List.mem_of_getElem? (i := 138) rfl))) rfl, zt_of (List.mem_append_right _ (List.mem_append_right _ (List.mem_of_getElem? (i := 139) rfl))) rfl⟩
theorem c_Mod_80 : zCV R_Mod 80 y_Mod_sort 7 0 := ⟨⟨zt_of (List.mem_append_left _ (List.mem_of_getElem? (i := 7) rfl)) rfl, by decide +kernel, by decide +kernel, by decide +kernel⟩, zt_of (List.mem_append_right _ (List.mem_append_right _ (List.mem_of_getElem? (i := 74) rfl))) rfl, zt_of (List.mem_append_right _ (List.mem_append_right _ (List.mem_of_getElem? (i := 76) rfl))) rfl, zt_ps (by decide +kernel) rfl, rfl⟩
theorem c_Mod_83 : zCV R_Mod 83 y_Mod_next 7 1 := ⟨⟨zt_of (List.mem_append_left _ (List.mem_of_getElem? (i := 7) rfl)) rfl, by decide +kernel, by decide +kernel, by decide +kernel⟩, zt_of (List.mem_append_right _ (List.mem_append_right _ (List.mem_of_getElem? (i := 134) rfl))) rfl, zt_of (List.mem_append_right _ (List.mem_append_right _ (List.mem_of_getElem? (i := 136) rfl))) rfl, zt_ps (by decide +kernel) rfl, rfl⟩
theorem c_Mod_86 : zCV R_Mod 86 y_Mod_hang 7 0 := ⟨⟨zt_of (List.mem_append_left _ (List.mem_of_getElem? (i := 7) rfl)) rfl, by decide +kernel, by decide +kernel, by decide +kernel⟩, zt_of (List.mem_append_right _ (List.mem_append_right _ (List.mem_of_getElem? (i := 90) rfl))) rfl, zt_of (List.mem_append_right _ (List.mem_append_right _ (List.mem_of_getElem? (i := 92) rfl))) rfl, zt_ps (by decide +kernel) rfl, rfl⟩
theorem c_Mod_92 : zCV R_Mod 92 y_Mod_rowOf 7 1 := ⟨⟨zt_of (List.mem_append_left _ (List.mem_of_getElem? (i := 7) rfl)) rfl, by decide +kernel, by decide +kernel, by decide +kernel⟩, zt_of (List.mem_append_right _ (List.mem_append_right _ (List.mem_of_getElem? (i := 98) rfl))) rfl, zt_of (List.mem_append_right _ (List.mem_append_right _ (List.mem_of_getElem? (i := 100) rfl))) rfl, zt_ps (by decide +kernel) rfl, rfl⟩
theorem c_Mod_95 : zCV R_Mod 95 y_Mod_turn 7 1 := ⟨⟨zt_of (List.mem_append_left _ (List.mem_of_getElem? (i := 7) rfl)) rfl, by decide +kernel, by decide +kernel, by decide +kernel⟩, zt_of (List.mem_append_right _ (List.mem_append_right _ (List.mem_of_getElem? (i := 102) rfl))) rfl, zt_of (List.mem_append_right _ (List.mem_append_right _ (List.mem_of_getElem? (i := 104) rfl))) rfl, zt_ps (by decide +kernel) rfl, rfl⟩
theorem c_Mod_110 : zCV R_Mod 110 y_Mod_findFaces 7 0 := ⟨⟨zt_of (List.mem_append_left _ (List.mem_of_getElem? (i := 7) rfl)) rfl, by decide +kernel, by decide +kernel, by decide +kernel⟩, zt_of (List.mem_append_right _ (List.mem_append_right _ (List.mem_of_getElem? (i := 94) rfl))) rfl, zt_of (List.mem_append_right _ (List.mem_append_right _ (List.mem_of_getElem? (i := 96) rfl))) rfl, zt_ps (by decide +kernel) rfl, rfl⟩
theorem c_Mod_113 : zCV R_Mod 113 y_Mod_facesAt 7 1 := ⟨⟨zt_of (List.mem_append_left _ (List.mem_of_getElem? (i := 7) rfl)) rfl, by decide +kernel, by decide +kernel, by decide +kernel⟩, zt_of (List.mem_append_right _ (List.mem_append_right _ (List.mem_of_getElem? (i := 106) rfl))) rfl, zt_of (List.mem_append_right _ (List.mem_append_right _ (List.mem_of_getElem? (i := 108) rfl))) rfl, zt_ps (by decide +kernel) rfl, rfl⟩
theorem c_Mod_116 : zCV R_Mod 116 y_Mod_badLabel 7 1 := ⟨⟨zt_of (List.mem_append_left _ (List.mem_of_getElem? (i := 7) rfl)) rfl, by decide +kernel, by decide +kernel, by decide +kernel⟩, zt_of (List.mem_append_right _ (List.mem_append_right _ (List.mem_of_getElem? (i := 70) rfl))) rfl, zt_of (List.mem_append_right _ (List.mem_append_right _ (List.mem_of_getElem? (i := 72) rfl))) rfl, zt_ps (by decide +kernel) rfl, rfl⟩
theorem c_Mod_120 : zCV R_Mod 120 y_Mod_badPiece 7 0 := ⟨⟨zt_of (List.mem_append_left _ (List.mem_of_getElem? (i := 7) rfl)) rfl, by decide +kernel, by decide +kernel, by decide +kernel⟩, zt_of (List.mem_append_right _ (List.mem_append_right _ (List.mem_of_getElem? (i := 86) rfl))) rfl, zt_of (List.mem_append_right _ (List.mem_append_right _ (List.mem_of_getElem? (i := 88) rfl))) rfl, zt_ps (by decide +kernel) rfl, rfl⟩
theorem c_Mod_124 : zCV R_Mod 124 y_Mod_take 7 0 := ⟨⟨zt_of (List.mem_append_left _ (List.mem_of_getElem? (i := 7) rfl)) rfl, by decide +kernel, by decide +kernel, by decide +kernel⟩, zt_of (List.mem_append_right _ (List.mem_append_right _ (List.mem_of_getElem? (i := 62) rfl))) rfl, zt_of (List.mem_append_right _ (List.mem_append_right _ (List.mem_of_getElem? (i := 64) rfl))) rfl, zt_ps (by decide +kernel) rfl, rfl⟩
theorem c_Mod_127 : zCV R_Mod 127 y_Mod_fault 7 0 := ⟨⟨zt_of (List.mem_append_left _ (List.mem_of_getElem? (i := 7) rfl)) rfl, by decide +kernel, by decide +kernel, by decide +kernel⟩, zt_of (List.mem_append_right _ (List.mem_append_right _ (List.mem_of_getElem? (i := 66) rfl))) rfl, zt_of (List.mem_append_right _ (List.mem_append_right _ (List.mem_of_getElem? (i := 68) rfl))) rfl, zt_ps (by decide +kernel) rfl, rfl⟩
theorem c_Mod_130 : zCV R_Mod 130 y_Mod_back 7 0 := ⟨⟨zt_of (List.mem_append_left _ (List.mem_of_getElem? (i := 7) rfl)) rfl, by decide +kernel, by decide +kernel, by decide +kernel⟩, zt_of (List.mem_append_right _ (List.mem_append_right _ (List.mem_of_getElem? (i := 110) rfl))) rfl, zt_of (List.mem_append_right _ (List.mem_append_right _ (List.mem_of_getElem? (i := 112) rfl))) rfl, zt_ps (by decide +kernel) rfl, rfl⟩
theorem c_Mod_133 : zCV R_Mod 133 y_Mod_components 7 0 := ⟨⟨zt_of (List.mem_append_left _ (List.mem_of_getElem? (i := 7) rfl)) rfl, by decide +kernel, by decide +kernel, by decide +kernel⟩, zt_of (List.mem_append_right _ (List.mem_append_right _ (List.mem_of_getElem? (i := 130) rfl))) rfl, zt_of (List.mem_append_right _ (List.mem_append_right _ (List.mem_of_getElem? (i := 132) rfl))) rfl, zt_ps (by decide +kernel) rfl, rfl⟩
theorem c_Mod_136 : zCV R_Mod 136 y_Mod_findFree 7 0 := ⟨⟨zt_of (List.mem_append_left _ (List.mem_of_getElem? (i := 7) rfl)) rfl, by decide +kernel, by decide +kernel, by decide +kernel⟩, zt_of (List.mem_append_right _ (List.mem_append_right _ (List.mem_of_getElem? (i := 149) rfl))) rfl, zt_of (List.mem_append_right _ (List.mem_append_right _ (List.mem_of_getElem? (i := 151) rfl))) rfl, zt_ps (by decide +kernel) rfl, rfl⟩
theorem c_Mod_139 : zCV R_Mod 139 y_Mod_signs 7 0 := ⟨⟨zt_of (List.mem_append_left _ (List.mem_of_getElem? (i := 7) rfl)) rfl, by decide +kernel, by decide +kernel, by decide +kernel⟩, zt_of (List.mem_append_right _ (List.mem_append_right _ (List.mem_of_getElem? (i := 118) rfl))) rfl, zt_of (List.mem_append_right _ (List.mem_append_right _ (List.mem_of_getElem? (i := 120) rfl))) rfl, zt_ps (by decide +kernel) rfl, rfl⟩
theorem c_Mod_142 : zCV R_Mod 142 y_Mod_allFaces 7 0 := ⟨⟨zt_of (List.mem_append_left _ (List.mem_of_getElem? (i := 7) rfl)) rfl, by decide +kernel, by decide +kernel, by decide +kernel⟩, zt_of (List.mem_append_right _ (List.mem_append_right _ (List.mem_of_getElem? (i := 122) rfl))) rfl, zt_of (List.mem_append_right _ (List.mem_append_right _ (List.mem_of_getElem? (i := 124) rfl))) rfl, zt_ps (by decide +kernel) rfl, rfl⟩
theorem c_Mod_145 : zCV R_Mod 145 y_Mod_allComponents 7 0 := ⟨⟨zt_of (List.mem_append_left _ (List.mem_of_getElem? (i := 7) rfl)) rfl, by decide +kernel, by decide +kernel, by decide +kernel⟩, zt_of (List.mem_append_right _ (List.mem_append_right _ (List.mem_of_getElem? (i := 126) rfl))) rfl, zt_of (List.mem_append_right _ (List.mem_append_right _ (List.mem_of_getElem? (i := 128) rfl))) rfl, zt_ps (by decide +kernel) rfl, rfl⟩
theorem c_Mod_148 : zCV R_Mod 148 y_Mod_pieces 7 0 := ⟨⟨zt_of (List.mem_append_left _ (List.mem_of_getElem? (i := 7) rfl)) rfl, by decide +kernel, by decide +kernel, by decide +kernel⟩, zt_of (List.mem_append_right _ (List.mem_append_right _ (List.mem_of_getElem? (i := 141) rfl))) rfl, zt_of (List.mem_append_right _ (List.mem_append_right _ (List.mem_of_getElem? (i := 143) rfl))) rfl, zt_ps (by decide +kernel) rfl, rfl⟩
theorem c_Mod_151 : zCV R_Mod 151 y_Mod_leastFree 7 0 := ⟨⟨zt_of (List.mem_append_left _ (List.mem_of_getElem? (i := 7) rfl)) rfl, by decide +kernel, by decide +kernel, by decide +kernel⟩, zt_of (List.mem_append_right _ (List.mem_append_right _ (List.mem_of_getElem? (i := 145) rfl))) rfl, zt_of (List.mem_append_right _ (List.mem_append_right _ (List.mem_of_getElem? (i := 147) rfl))) rfl, zt_ps (by decide +kernel) rfl, rfl⟩
theorem c_Mod_157 : zCV R_Mod 157 y_Mod_findSides 7 1 := ⟨⟨zt_of (List.mem_append_left _ (List.mem_of_getElem? (i := 7) rfl)) rfl, by decide +kernel, by decide +kernel, by decide +kernel⟩, zt_of (List.mem_append_right _ (List.mem_append_right _ (List.mem_of_getElem? (i := 161) rfl))) rfl, zt_of (List.mem_append_right _ (List.mem_append_right _ (List.mem_of_getElem? (i := 163) rfl))) rfl, zt_ps (by decide +kernel) rfl, rfl⟩
theorem c_Mod_160 : zCS R_Mod 160 y_Mod_isUpper 1 := ⟨⟨zt_of (List.mem_append_left _ (List.mem_of_getElem? (i := 7) rfl)) rfl, by decide +kernel, by decide +kernel, by decide +kernel⟩, zt_of (List.mem_append_right _ (List.mem_append_right _ (List.mem_of_getElem? (i := 177) rfl))) rfl, zt_of (List.mem_append_right _ (List.mem_append_right _ (List.mem_of_getElem? (i := 178) rfl))) rfl⟩
theorem c_Mod_163 : zCV R_Mod 163 y_Mod_corner 7 1 := ⟨⟨zt_of (List.mem_append_left _ (List.mem_of_getElem? (i := 7) rfl)) rfl, by decide +kernel, by decide +kernel, by decide +kernel⟩, zt_of (List.mem_append_right _ (List.mem_append_right _ (List.mem_of_getElem? (i := 169) rfl))) rfl, zt_of (List.mem_append_right _ (List.mem_append_right _ (List.mem_of_getElem? (i := 171) rfl))) rfl, zt_ps (by decide +kernel) rfl, rfl⟩
theorem c_Mod_166 : zCV R_Mod 166 y_Mod_uppers 7 1 := ⟨⟨zt_of (List.mem_append_left _ (List.mem_of_getElem? (i := 7) rfl)) rfl, by decide +kernel, by decide +kernel, by decide +kernel⟩, zt_of (List.mem_append_right _ (List.mem_append_right _ (List.mem_of_getElem? (i := 173) rfl))) rfl, zt_of (List.mem_append_right _ (List.mem_append_right _ (List.mem_of_getElem? (i := 175) rfl))) rfl, zt_ps (by decide +kernel) rfl, rfl⟩
theorem c_Mod_169 : zCV R_Mod 169 y_Mod_rename 7 2 := ⟨⟨zt_of (List.mem_append_left _ (List.mem_of_getElem? (i := 7) rfl)) rfl, by decide +kernel, by decide +kernel, by decide +kernel⟩, zt_of (List.mem_append_right _ (List.mem_append_right _ (List.mem_of_getElem? (i := 193) rfl))) rfl, zt_of (List.mem_append_right _ (List.mem_append_right _ (List.mem_of_getElem? (i := 195) rfl))) rfl, zt_ps (by decide +kernel) rfl, rfl⟩
theorem c_Mod_173 : zCV R_Mod 173 y_Mod_join 7 2 := ⟨⟨zt_of (List.mem_append_left _ (List.mem_of_getElem? (i := 7) rfl)) rfl, by decide +kernel, by decide +kernel, by decide +kernel⟩, zt_of (List.mem_append_right _ (List.mem_append_right _ (List.mem_of_getElem? (i := 189) rfl))) rfl, zt_of (List.mem_append_right _ (List.mem_append_right _ (List.mem_of_getElem? (i := 191) rfl))) rfl, zt_ps (by decide +kernel) rfl, rfl⟩
theorem c_Mod_176 : zCV R_Mod 176 y_Mod_pattern 7 1 := ⟨⟨zt_of (List.mem_append_left _ (List.mem_of_getElem? (i := 7) rfl)) rfl, by decide +kernel, by decide +kernel, by decide +kernel⟩, zt_of (List.mem_append_right _ (List.mem_append_right _ (List.mem_of_getElem? (i := 184) rfl))) rfl, zt_of (List.mem_append_right _ (List.mem_append_right _ (List.mem_of_getElem? (i := 166) rfl))) rfl, zt_of (List.mem_append_right _ (List.mem_append_right _ (List.mem_of_getElem? (i := 167) rfl))) rfl, rfl⟩
theorem c_Mod_179 : zCV R_Mod 179 y_Mod_lift 7 1 := ⟨⟨zt_of (List.mem_append_left _ (List.mem_of_getElem? (i := 7) rfl)) rfl, by decide +kernel, by decide +kernel, by decide +kernel⟩, zt_of (List.mem_append_right _ (List.mem_append_right _ (List.mem_of_getElem? (i := 185) rfl))) rfl, zt_of (List.mem_append_right _ (List.mem_append_right _ (List.mem_of_getElem? (i := 187) rfl))) rfl, zt_ps (by decide +kernel) rfl, rfl⟩
theorem c_Mod_183 : zCV R_Mod 183 y_Mod_undo 7 1 := ⟨⟨zt_of (List.mem_append_left _ (List.mem_of_getElem? (i := 7) rfl)) rfl, by decide +kernel, by decide +kernel, by decide +kernel⟩, zt_of (List.mem_append_right _ (List.mem_append_right _ (List.mem_of_getElem? (i := 201) rfl))) rfl, zt_of (List.mem_append_right _ (List.mem_append_right _ (List.mem_of_getElem? (i := 181) rfl))) rfl, zt_of (List.mem_append_right _ (List.mem_append_right _ (List.mem_of_getElem? (i := 182) rfl))) rfl, rfl⟩
theorem c_Mod_186 : zCV R_Mod 186 y_Mod_add 7 5 := ⟨⟨zt_of (List.mem_append_left _ (List.mem_of_getElem? (i := 7) rfl)) rfl, by decide +kernel, by decide +kernel, by decide +kernel⟩, zt_of (List.mem_append_right _ (List.mem_append_right _ (List.mem_of_getElem? (i := 210) rfl))) rfl, zt_of (List.mem_append_right _ (List.mem_append_right _ (List.mem_of_getElem? (i := 212) rfl))) rfl, zt_ps (by decide +kernel) rfl, rfl⟩
theorem c_Mod_190 : zCV R_Mod 190 y_Mod_areOne 7 4 := ⟨⟨zt_of (List.mem_append_left _ (List.mem_of_getElem? (i := 7) rfl)) rfl, by decide +kernel, by decide +kernel, by decide +kernel⟩, zt_of (List.mem_append_right _ (List.mem_append_right _ (List.mem_of_getElem? (i := 218) rfl))) rfl, zt_of (List.mem_append_right _ (List.mem_append_right _ (List.mem_of_getElem? (i := 220) rfl))) rfl, zt_ps (by decide +kernel) rfl, rfl⟩
theorem c_Mod_194 : zCV R_Mod 194 y_Mod_cross 7 2 := ⟨⟨zt_of (List.mem_append_left _ (List.mem_of_getElem? (i := 7) rfl)) rfl, by decide +kernel, by decide +kernel, by decide +kernel⟩, zt_of (List.mem_append_right _ (List.mem_append_right _ (List.mem_of_getElem? (i := 222) rfl))) rfl, zt_of (List.mem_append_right _ (List.mem_append_right _ (List.mem_of_getElem? (i := 224) rfl))) rfl, zt_ps (by decide +kernel) rfl, rfl⟩
theorem z_oI : Cond.instanceMethod objectInit ∈ zt := zt_of (List.mem_append_left _ (List.mem_of_getElem? (i := 19) rfl)) rfl
theorem z_oC : Cond.code objectInit ⟨#[0xb1]⟩ 1 none ∈ zt := zt_of (List.mem_append_left _ (List.mem_of_getElem? (i := 20) rfl)) rfl
theorem z_o_Mov : Cond.methodLink R_Mov 3 objectInit ∈ zt := zt_of (List.mem_append_left _ (List.mem_of_getElem? (i := 18) rfl)) rfl
theorem z_o_Dia : Cond.methodLink R_Dia 3 objectInit ∈ zt := zt_of (List.mem_append_left _ (List.mem_of_getElem? (i := 26) rfl)) rfl
theorem z_o_Row : Cond.methodLink R_Row 3 objectInit ∈ zt := zt_of (List.mem_append_left _ (List.mem_of_getElem? (i := 32) rfl)) rfl
theorem z_o_Edg : Cond.methodLink R_Edg 3 objectInit ∈ zt := zt_of (List.mem_append_left _ (List.mem_of_getElem? (i := 56) rfl)) rfl
theorem z_o_Fac : Cond.methodLink R_Fac 3 objectInit ∈ zt := zt_of (List.mem_append_left _ (List.mem_of_getElem? (i := 89) rfl)) rfl
theorem z_o_Pie : Cond.methodLink R_Pie 3 objectInit ∈ zt := zt_of (List.mem_append_left _ (List.mem_of_getElem? (i := 111) rfl)) rfl
theorem z_ac_Row : Cond.methodLink R_Row 39 arraycopyName ∈ zt := zt_of (List.mem_append_right _ (List.mem_append_left _ (List.mem_of_getElem? (i := 118) rfl))) rfl
theorem z_ac_Dia : Cond.methodLink R_Dia 127 arraycopyName ∈ zt := zt_of (List.mem_append_right _ (List.mem_append_left _ (List.mem_of_getElem? (i := 132) rfl))) rfl
theorem z_o_Cut : Cond.methodLink R_Cut 1 objectInit ∈ zt := zt_of (List.mem_append_right _ (List.mem_append_left _ (List.mem_of_getElem? (i := 151) rfl))) rfl
theorem z_o_Mod : Cond.methodLink R_Mod 1 objectInit ∈ zt := zt_of (List.mem_append_right _ (List.mem_append_left _ (List.mem_of_getElem? (i := 218) rfl))) rfl
theorem z_ac1 : Cond.native arraycopyName ∈ zt := zt_of (List.mem_append_right _ (List.mem_append_left _ (List.mem_of_getElem? (i := 120) rfl))) rfl
theorem z_ac2 : Cond.static arraycopyName ∈ zt := zt_of (List.mem_append_right _ (List.mem_append_left _ (List.mem_of_getElem? (i := 119) rfl))) rfl
theorem z_ac3 : Cond.initialized "java/lang/System" ∈ zt := zt_of (List.mem_append_left _ (List.mem_of_getElem? (i := 11) rfl)) rfl
theorem z_ar : Cond.arrayClass .int ∈ zt := zt_of (List.mem_append_left _ (List.mem_of_getElem? (i := 50) rfl)) rfl
theorem z_cl_Law_7 : Cond.classLink R_Law 7 R_Mov ∈ zt := zt_of (List.mem_append_left _ (List.mem_of_getElem? (i := 13) rfl)) rfl
theorem z_cl_Mov_9 : Cond.classLink R_Mov 9 R_Dia ∈ zt := zt_of (List.mem_append_left _ (List.mem_of_getElem? (i := 21) rfl)) rfl
theorem z_cl_Dia_9 : Cond.classLink R_Dia 9 R_Row ∈ zt := zt_of (List.mem_append_left _ (List.mem_of_getElem? (i := 27) rfl)) rfl
theorem z_cl_Dia_18 : Cond.classLink R_Dia 18 R_Edg ∈ zt := zt_of (List.mem_append_left _ (List.mem_of_getElem? (i := 51) rfl)) rfl
theorem z_cl_Dia_25 : Cond.classLink R_Dia 25 R_Fac ∈ zt := zt_of (List.mem_append_left _ (List.mem_of_getElem? (i := 84) rfl)) rfl
theorem z_cl_Dia_32 : Cond.classLink R_Dia 32 R_Pie ∈ zt := zt_of (List.mem_append_left _ (List.mem_of_getElem? (i := 106) rfl)) rfl
theorem z_cl_Dia_146 : Cond.classLink R_Dia 146 R_Cut ∈ zt := zt_of (List.mem_append_right _ (List.mem_append_left _ (List.mem_of_getElem? (i := 146) rfl))) rfl
theorem z_cl_Law_10 : Cond.classLink R_Law 10 R_Mod ∈ zt := zt_of (List.mem_append_right _ (List.mem_append_left _ (List.mem_of_getElem? (i := 213) rfl))) rfl
theorem z_in_Mov : Cond.instantiable R_Mov 2 ∈ zt := zt_of (List.mem_append_left _ (List.mem_of_getElem? (i := 14) rfl)) rfl
theorem z_ini_Mov : Cond.initialized R_Mov ∈ zt := zt_of (List.mem_append_left _ (List.mem_of_getElem? (i := 1) rfl)) rfl
theorem z_in_Dia : Cond.instantiable R_Dia 6 ∈ zt := zt_of (List.mem_append_left _ (List.mem_of_getElem? (i := 22) rfl)) rfl
theorem z_ini_Dia : Cond.initialized R_Dia ∈ zt := zt_of (List.mem_append_left _ (List.mem_of_getElem? (i := 2) rfl)) rfl
theorem z_in_Row : Cond.instantiable R_Row 3 ∈ zt := zt_of (List.mem_append_left _ (List.mem_of_getElem? (i := 28) rfl)) rfl
theorem z_ini_Row : Cond.initialized R_Row ∈ zt := zt_of (List.mem_append_left _ (List.mem_of_getElem? (i := 3) rfl)) rfl
theorem z_in_Edg : Cond.instantiable R_Edg 6 ∈ zt := zt_of (List.mem_append_left _ (List.mem_of_getElem? (i := 52) rfl)) rfl
theorem z_ini_Edg : Cond.initialized R_Edg ∈ zt := zt_of (List.mem_append_left _ (List.mem_of_getElem? (i := 4) rfl)) rfl
theorem z_in_Fac : Cond.instantiable R_Fac 4 ∈ zt := zt_of (List.mem_append_left _ (List.mem_of_getElem? (i := 85) rfl)) rfl
theorem z_ini_Fac : Cond.initialized R_Fac ∈ zt := zt_of (List.mem_append_left _ (List.mem_of_getElem? (i := 5) rfl)) rfl
theorem z_in_Pie : Cond.instantiable R_Pie 4 ∈ zt := zt_of (List.mem_append_left _ (List.mem_of_getElem? (i := 107) rfl)) rfl
theorem z_ini_Pie : Cond.initialized R_Pie ∈ zt := zt_of (List.mem_append_left _ (List.mem_of_getElem? (i := 6) rfl)) rfl
theorem z_in_Cut : Cond.instantiable R_Cut 3 ∈ zt := zt_of (List.mem_append_right _ (List.mem_append_left _ (List.mem_of_getElem? (i := 147) rfl))) rfl
theorem z_ini_Cut : Cond.initialized R_Cut ∈ zt := zt_of (List.mem_append_left _ (List.mem_of_getElem? (i := 12) rfl)) rfl
theorem z_in_Mod : Cond.instantiable R_Mod 25 ∈ zt := zt_of (List.mem_append_right _ (List.mem_append_left _ (List.mem_of_getElem? (i := 214) rfl))) rfl
theorem z_ini_Mod : Cond.initialized R_Mod ∈ zt := zt_of (List.mem_append_left _ (List.mem_of_getElem? (i := 7) rfl)) rfl
theorem z_k_265 : Cond.constant R_Int 265 1431655765 ∈ zt := zt_of (List.mem_append_right _ (List.mem_append_left _ (List.mem_of_getElem? (i := 87) rfl))) rfl
theorem z_k_266 : Cond.constant R_Int 266 858993459 ∈ zt := zt_of (List.mem_append_right _ (List.mem_append_left _ (List.mem_of_getElem? (i := 88) rfl))) rfl
theorem z_k_267 : Cond.constant R_Int 267 252645135 ∈ zt := zt_of (List.mem_append_right _ (List.mem_append_left _ (List.mem_of_getElem? (i := 89) rfl))) rfl
end
section
/-! calls that leave the cells as they are; small words -/
abbrev zo (ci : Nat) (fs : List Value) : zE := Sum.inr (ci, fs)
abbrev za (n : Nat) (f : Nat → Int32) : zE := Sum.inl (0, n, Sum.inl f)
/-- a contract of a method that leaves the cells: its answer -/
abbrev zPu (y : MethodName) (cc : ByteArray) (nL : Nat) (ret : Option FieldType) (rm : Room) (av : List Value) (h : List zE) (v : Value) : Prop := zMet y cc nL ret rm av h (fun r h' => r = some v ∧ h' = h)
theorem zset_same (h : List zE) : ∀ (ρ : List Nat) (es : List zE), ρ.map (fun i => h[i]?) = es.map some → zset ρ es h = h
  | [], _, _ => by rw [zset]
  | i :: ρ, [], hh => by simp at hh
  | i :: ρ, x :: es, hh => by
    rw [List.map_cons, List.map_cons] at hh
    injection hh with h1 h2
    have : h.set i x = h := by
      apply List.ext_getElem?
      intro j
      by_cases hj : j = i
      · subst hj
        rw [List.getElem?_set_self (List.getElem?_eq_some_iff.mp h1).1, h1]
      · rw [List.getElem?_set_ne (Ne.symm hj)]
    rw [zset, this]
    exact zset_same h ρ es h2
theorem zput_same {ρ : List Nat} {h hC : List zE} (hh : ρ.map (fun i => h[i]?) = hC.map (fun x => some (zc (zr ρ h.length) x))) : zput ρ h hC = h := by
  have hlen : ρ.length = hC.length := by simpa using congrArg List.length hh
  rw [zput, zset_same h ρ _ (by rw [hh, List.map_map]; rfl), List.drop_eq_nil_of_le (by omega)]
  simp
section ZP
variable {own : String} {cc : ByteArray} {nL : Nat} {ret : Option FieldType} {rm : Room} {p : Program} {l : Launch} {e : Env} {R : Room} {s : State} {m : MethodId} {args : Array Value} {below : List Frame} {meth : Method} {c : Code} {D : va_G} {dA : Nat → ClassId} {A : Nat → Prop} {ad0 : Nat → Nat} {n0 : Nat} {Q : Option Value → List zE → Prop} {mc ms k n pc : Nat} {ls : List (Option Value)} {st : List Value} {h : List zE}
theorem zi_ls {ls' : List (Option Value)} (hl : ls = ls') (K : zG p l e R s m args below meth c D dA A ad0 n0 nL Q mc ms k n pc ls' st h) : zG p l e R s m args below meth c D dA A ad0 n0 nL Q mc ms k n pc ls st h := hl ▸ K
theorem zi_h {h' : List zE} (hl : h = h') (K : zG p l e R s m args below meth c D dA A ad0 n0 nL Q mc ms k n pc ls st h') : zG p l e R s m args below meth c D dA A ad0 n0 nL Q mc ms k n pc ls st h := hl ▸ K
theorem zi_st {st' : List Value} (hl : st = st') (K : zG p l e R s m args below meth c D dA A ad0 n0 nL Q mc ms k n pc ls st' h) : zG p l e R s m args below meth c D dA A ad0 n0 nL Q mc ms k n pc ls st h := hl ▸ K
theorem zi_pureV (O : zOK own cc nL ret rm p R s m args meth c D dA A) {index ci np : Nat} {y : MethodName} {cc' : ByteArray} {nL' : Nat} {ret' : Option FieldType} {fr lo : Nat} {a0 : Nat} {As : List Value} {hC : List zE} {v : Int32} {rest : List Value} {fs : List Value} (ρ : List Nat)
    (C : zCV own index y ci np) (cm : Cond.code y cc' nL' ret' ∈ zt) (hM : zPu y cc' nL' ret' ⟨fr, 0, 0, lo⟩ (.ref a0 :: As) hC (.int v)) (d : decode cc pc = .ok (.invokevirtual index, 3)) (hR : fr + 1 ≤ rm.frames ∧ 8 + (nL' + 11) + lo ≤ rm.locals) (hf : k ≤ rm.cells ∧ n ≤ rm.slots) (hnA : As.length = np) (hrec : hC[a0]? = some (.inr (ci, fs))) (hrs : (rest.map fun v => v.category).sum ≤ 8)
    (hnd : va_nd ρ = true) (hh : ρ.map (fun i => h[i]?) = hC.map (fun x => some (zc (zr ρ h.length) x))) (hok : h.all (zok h.length) = true) (hls : ls.all (zlok h.length) = true) (hst : rest.all (zvok h.length) = true) (hn0 : n0 ≤ h.length) (hstk : st = (As.map (zv (zr ρ h.length))).reverse ++ .ref (zr ρ h.length a0) :: rest)
    (K : zG p l e R s m args below meth c D dA A ad0 n0 nL Q mc ms k n (pc + 3) ls (.int v :: rest) h) : zG p l e R s m args below meth c D dA A ad0 n0 nL Q mc ms k n pc ls st h := by
  refine zi_callV O ρ C cm hM d hR hf hnA hrec hrs hnd hh hok hls hst hn0 hstk (fun r h' hq _ => ?_)
  obtain ⟨rfl, rfl⟩ := hq
  rw [zput_same hh]
  exact K
theorem zi_pureS (O : zOK own cc nL ret rm p R s m args meth c D dA A) {index np : Nat} {y : MethodName} {cc' : ByteArray} {nL' : Nat} {ret' : Option FieldType} {fr lo : Nat} {As : List Value} {hC : List zE} {v : Int32} {rest : List Value} (ρ : List Nat)
    (C : zCS own index y np) (cm : Cond.code y cc' nL' ret' ∈ zt) (hM : zPu y cc' nL' ret' ⟨fr, 0, 0, lo⟩ As hC (.int v)) (d : decode cc pc = .ok (.invokestatic index, 3)) (hR : fr + 1 ≤ rm.frames ∧ 8 + (nL' + 11) + lo ≤ rm.locals) (hf : k ≤ rm.cells ∧ n ≤ rm.slots) (hnA : As.length = np) (hrs : (rest.map fun v => v.category).sum ≤ 8)
    (hnd : va_nd ρ = true) (hh : ρ.map (fun i => h[i]?) = hC.map (fun x => some (zc (zr ρ h.length) x))) (hok : h.all (zok h.length) = true) (hls : ls.all (zlok h.length) = true) (hst : rest.all (zvok h.length) = true) (hn0 : n0 ≤ h.length) (hstk : st = (As.map (zv (zr ρ h.length))).reverse ++ rest)
    (K : zG p l e R s m args below meth c D dA A ad0 n0 nL Q mc ms k n (pc + 3) ls (.int v :: rest) h) : zG p l e R s m args below meth c D dA A ad0 n0 nL Q mc ms k n pc ls st h := by
  refine zi_callS O ρ C cm hM d hR hf hnA hrs hnd hh hok hls hst hn0 hstk (fun r h' hq _ => ?_)
  obtain ⟨rfl, rfl⟩ := hq
  rw [zput_same hh]
  exact K
theorem zi_iincD (O : zOK own cc nL ret rm p R s m args meth c D dA A) {i : Nat} {z : Int} {a : Nat} {ls' : List (Option Value)} (d : decode cc pc = .ok (.iinc i z, 3)) (hc : ls.all zc1 = true) (hn : i < nL) (hx : ls[i]? = some (some (.int (nI a)))) (hz : Int32.ofInt z = -1) (ha : 0 < a) (hs : ls.set i (some (.int (nI (a - 1)))) = ls') (K : zG p l e R s m args below meth c D dA A ad0 n0 nL Q mc ms k n (pc + 3) ls' st h) : zG p l e R s m args below meth c D dA A ad0 n0 nL Q mc ms k n pc ls st h := zi_iinc O d hc hn hx (by rw [hz]; exact sb_m1 ha) hs K
theorem zi_no (i : Nat) {ls' : List (Option Value)} (hs : ls.set i none = ls') (K : zG p l e R s m args below meth c D dA A ad0 n0 nL Q mc ms k n pc ls' st h) : zG p l e R s m args below meth c D dA A ad0 n0 nL Q mc ms k n pc ls st h := by
  subst hs
  intro ad H locs L h1 h2 h3 h4 h5
  refine K ad H locs L h1 ⟨h2.1, h2.2.1, fun q hq => ?_⟩ h3 h4 h5
  obtain ⟨w, a1, a2⟩ := zl_mem.mp hq
  refine h2.2.2 q (zl_mem.mpr ⟨w, ?_, a2⟩)
  by_cases hi : q.1 = i
  · rw [hi] at a1
    by_cases hl : i < ls.length
    · rw [List.getElem?_set_self hl] at a1; cases a1
    · rw [List.getElem?_eq_none (by rw [List.length_set]; omega)] at a1; cases a1
  · rw [List.getElem?_set_ne (Ne.symm hi)] at a1; exact a1
theorem zi_arr (q : Nat) {N : Nat} {f : Nat → Int32} (g : Nat → Int32) {h' : List zE} (he : h[q]? = some (.inl (0, N, .inl f))) (hfg : ∀ j, j < N → f j = g j) (hh : h.set q (.inl (0, N, .inl g)) = h') (K : zG p l e R s m args below meth c D dA A ad0 n0 nL Q mc ms k n pc ls st h') : zG p l e R s m args below meth c D dA A ad0 n0 nL Q mc ms k n pc ls st h := by
  subst hh
  intro ad H locs L h1 h2 h3 h4 h5
  have e1 := zw_at (dA := dA) (ad := ad) q he
  refine K ad H locs L h1 h2 ?_ ?_ h5
  · rw [zw_set]
    refine h3.set h4 e1 ?_ (fun _ _ => rfl)
    have h6 := h3 q _ e1
    show H[ad q]? = some (vp_cell (dA 0) (N, .inl g))
    have h7 : H[ad q]? = some (vp_cell (dA 0) (N, .inl f)) := h6
    rw [h7]
    congr 1
    rw [vp_cell_i, vp_cell_i, arrV, arrV]
    congr 2
    funext j
    rw [hfg j.val j.isLt]
  · rw [zw_set]
    exact h4.set e1
theorem zi_loop {σ : Type} (lf : σ → List (Option Value)) (hf : σ → List zE) (I : σ → Prop) (μ : σ → Nat) (x0 : σ) (hl : ls = lf x0) (hh : h = hf x0) (h0 : I x0) (stp : ∀ x, I x → (∀ y, I y → μ y < μ x → zG p l e R s m args below meth c D dA A ad0 n0 nL Q mc ms k n pc (lf y) st (hf y)) → zG p l e R s m args below meth c D dA A ad0 n0 nL Q mc ms k n pc (lf x) st (hf x)) : zG p l e R s m args below meth c D dA A ad0 n0 nL Q mc ms k n pc ls st h := by
  subst hl; subst hh
  have key : ∀ (t : Nat) (x : σ), μ x < t → I x → zG p l e R s m args below meth c D dA A ad0 n0 nL Q mc ms k n pc (lf x) st (hf x) := by
    intro t
    induction t with
    | zero => intro x hx; exact absurd hx (Nat.not_lt_zero _)
    | succ t ih => intro x hx hI; exact stp x hI (fun y hy hm => ih y (by omega) hy)
  exact key (μ x0 + 1) x0 (by omega) h0
theorem zi_for (lf : Nat → List (Option Value)) (hf : Nat → List zE) (i0 e0 : Nat) (hie : i0 ≤ e0) (hl : ls = lf i0) (hh : h = hf i0) (stp : ∀ i, i0 ≤ i → i < e0 → zG p l e R s m args below meth c D dA A ad0 n0 nL Q mc ms k n pc (lf (i + 1)) st (hf (i + 1)) → zG p l e R s m args below meth c D dA A ad0 n0 nL Q mc ms k n pc (lf i) st (hf i)) (ex : zG p l e R s m args below meth c D dA A ad0 n0 nL Q mc ms k n pc (lf e0) st (hf e0)) : zG p l e R s m args below meth c D dA A ad0 n0 nL Q mc ms k n pc ls st h := by
  refine zi_loop lf hf (fun i => i0 ≤ i ∧ i ≤ e0) (fun i => e0 - i) i0 hl hh ⟨Nat.le_refl _, hie⟩ ?_
  intro i hi ih
  by_cases he : i = e0
  · rw [he]; exact ex
  · exact stp i hi.1 (by omega) (ih (i + 1) ⟨by omega, by omega⟩ (by omega))
end ZP
end
section
/-! a call whose callee's cells are all the caller's, in their order -/
theorem zv_id (v : Value) : zv (fun i => i) v = v := by cases v <;> rfl
theorem zA_id (a : vp_A) : zA (fun i => i) a = a := by
  obtain ⟨n, x⟩ := a
  rcases x with x | x | x | x | x
  · rfl
  · rfl
  · rfl
  · rfl
  · simp [zA]
theorem zc_id (e : zE) : zc (fun i => i) e = e := by
  rcases e with ⟨t, a⟩ | ⟨ci, fs⟩
  · simp only [zc, zA_id]
  · simp only [zc]
    congr 2
    conv => rhs; rw [← List.map_id fs]
    apply List.map_congr_left
    intro v _
    exact zv_id v
theorem zr_range (N : Nat) : zr (List.range N) N = fun i => i := by
  funext i
  unfold zr
  by_cases h : i < N
  · rw [List.getElem?_range h]; rfl
  · rw [List.getElem?_eq_none (by simpa using h), List.length_range]
    show N + (i - N) = i
    omega
theorem va_nd_of : ∀ (l : List Nat), l.Nodup → va_nd l = true
  | [], _ => rfl
  | a :: l, h => by
    rw [List.nodup_cons] at h
    rw [va_nd, va_nd_of l h.2]
    simp [h.1]
theorem zput_range (h h' : List zE) (hl : h.length ≤ h'.length) : zput (List.range h.length) h h' = h' := by
  unfold zput
  rw [zr_range]
  have e : h'.map (zc (fun i => i)) = h' := by
    conv => rhs; rw [← List.map_id h']
    apply List.map_congr_left
    intro v _
    exact zc_id v
  have e2 : (h'.drop (List.range h.length).length).map (zc (fun i => i)) = h'.drop h.length := by
    rw [List.length_range]
    conv => rhs; rw [← List.map_id (h'.drop h.length)]
    apply List.map_congr_left
    intro v _
    exact zc_id v
  rw [e, e2]
  apply List.ext_getElem?
  intro j
  by_cases hj : j < h.length
  · rw [List.getElem?_append_left (by rw [zset_len]; exact hj)]
    have hy : h'[j]? = some h'[j] := List.getElem?_eq_getElem (by omega)
    rw [zset_in _ _ _ j j _ (va_nd_of _ List.nodup_range) (List.getElem?_range hj) hy hj, hy]
  · rw [List.getElem?_append_right (by rw [zset_len]; omega), zset_len, List.getElem?_drop]
    congr 1
    omega
section ZS
variable {own : String} {cc : ByteArray} {nL : Nat} {ret : Option FieldType} {rm : Room} {p : Program} {l : Launch} {e : Env} {R : Room} {s : State} {m : MethodId} {args : Array Value} {below : List Frame} {meth : Method} {c : Code} {D : va_G} {dA : Nat → ClassId} {A : Nat → Prop} {ad0 : Nat → Nat} {n0 : Nat} {Q : Option Value → List zE → Prop} {mc ms k n pc : Nat} {ls : List (Option Value)} {st : List Value} {h : List zE}
theorem zi_selfV (O : zOK own cc nL ret rm p R s m args meth c D dA A) {index ci np : Nat} {y : MethodName} {cc' : ByteArray} {nL' : Nat} {ret' : Option FieldType} {rm' : Room} {a0 : Nat} {As : List Value} {Q' : Option Value → List zE → Prop} {rest : List Value} {fs : List Value}
    (C : zCV own index y ci np) (cm : Cond.code y cc' nL' ret' ∈ zt) (hM : zMet y cc' nL' ret' rm' (.ref a0 :: As) h Q') (d : decode cc pc = .ok (.invokevirtual index, 3)) (hR : rm'.frames + 1 ≤ rm.frames ∧ 8 + (nL' + 11) + rm'.locals ≤ rm.locals) (hf : k + rm'.cells ≤ rm.cells ∧ n + rm'.slots ≤ rm.slots) (hnA : As.length = np) (hrec : h[a0]? = some (.inr (ci, fs))) (hrs : (rest.map fun v => v.category).sum ≤ 8)
    (hok : h.all (zok h.length) = true) (hls : ls.all (zlok h.length) = true) (hst : rest.all (zvok h.length) = true) (hn0 : n0 ≤ h.length) (hstk : st = As.reverse ++ .ref a0 :: rest)
    (K : ∀ (r : Option Value) (h' : List zE), Q' r h' → h.length ≤ h'.length → zG p l e R s m args below meth c D dA A ad0 n0 nL Q mc ms (k + rm'.cells) (n + rm'.slots) (pc + 3) ls (r.toList ++ rest) h') : zG p l e R s m args below meth c D dA A ad0 n0 nL Q mc ms k n pc ls st h := by
  have hAs : As.map (zv (fun i => i)) = As := by
    conv => rhs; rw [← List.map_id As]
    apply List.map_congr_left
    intro v _
    exact zv_id v
  refine zi_callV O (List.range h.length) C cm hM d hR hf hnA hrec hrs (va_nd_of _ List.nodup_range) ?_ hok hls hst hn0 (by rw [zr_range, hAs]; exact hstk) (fun r h' hq hl => ?_)
  · rw [zr_range]
    apply List.ext_getElem?
    intro j
    rw [List.getElem?_map, List.getElem?_map]
    by_cases hj : j < h.length
    · rw [List.getElem?_range hj, List.getElem?_eq_getElem hj]
      show some (h[j]?) = some (some _)
      rw [zc_id, List.getElem?_eq_getElem hj]
    · rw [List.getElem?_eq_none (by simpa using hj), List.getElem?_eq_none (by omega)]; rfl
  · rw [zput_range _ _ hl, zr_range]
    have : (r.map (zv (fun i => i))) = r := by cases r with
      | none => rfl
      | some v => show some (zv _ v) = some v; rw [zv_id]
    rw [this]
    exact K r h' hq hl
theorem zi_selfP (O : zOK own cc nL ret rm p R s m args meth c D dA A) {index ci np : Nat} {y : MethodName} {cc' : ByteArray} {nL' : Nat} {ret' : Option FieldType} {fr lo : Nat} {a0 : Nat} {As : List Value} {v : Int32} {rest : List Value} {fs : List Value}
    (C : zCV own index y ci np) (cm : Cond.code y cc' nL' ret' ∈ zt) (hM : zPu y cc' nL' ret' ⟨fr, 0, 0, lo⟩ (.ref a0 :: As) h (.int v)) (d : decode cc pc = .ok (.invokevirtual index, 3)) (hR : fr + 1 ≤ rm.frames ∧ 8 + (nL' + 11) + lo ≤ rm.locals) (hf : k ≤ rm.cells ∧ n ≤ rm.slots) (hnA : As.length = np) (hrec : h[a0]? = some (.inr (ci, fs))) (hrs : (rest.map fun v => v.category).sum ≤ 8)
    (hok : h.all (zok h.length) = true) (hls : ls.all (zlok h.length) = true) (hst : rest.all (zvok h.length) = true) (hn0 : n0 ≤ h.length) (hstk : st = As.reverse ++ .ref a0 :: rest)
    (K : zG p l e R s m args below meth c D dA A ad0 n0 nL Q mc ms k n (pc + 3) ls (.int v :: rest) h) : zG p l e R s m args below meth c D dA A ad0 n0 nL Q mc ms k n pc ls st h := by
  refine zi_selfV O C cm hM d hR hf hnA hrec hrs hok hls hst hn0 hstk (fun r h' hq hl => ?_)
  obtain ⟨rfl, rfl⟩ := hq
  exact K
theorem zr_pre {M N i : Nat} (h : i < M) : zr (List.range M) N i = i := by
  unfold zr
  rw [List.getElem?_range h]; rfl
theorem zset_range (es h : List zE) (M : Nat) (h1 : M ≤ es.length) (h2 : M ≤ h.length) : zset (List.range M) es h = es.take M ++ h.drop M := by
  apply List.ext_getElem?
  intro j
  by_cases hj : j < M
  · have hy : es[j]? = some es[j] := List.getElem?_eq_getElem (by omega)
    rw [zset_in _ _ _ j j _ (va_nd_of _ List.nodup_range) (List.getElem?_range hj) hy (by omega), List.getElem?_append_left (by rw [List.length_take]; omega), List.getElem?_take, if_pos hj, hy]
  · rw [zset_out _ _ _ _ (by rw [List.mem_range]; exact hj), List.getElem?_append_right (by rw [List.length_take]; omega), List.length_take, List.getElem?_drop]
    congr 1
    omega
theorem map_zc_id {f : Nat → Nat} {M : Nat} (hf : ∀ i, i < M → f i = i) {l : List zE} (h : l.all (zok M) = true) : l.map (zc f) = l := by
  conv => rhs; rw [← List.map_id l]
  apply List.map_congr_left
  intro v hv
  rw [zc_eq (g := fun i => i) hf (List.all_eq_true.mp h v hv)]
  exact zc_id v
/-- a call whose callee's cells are the caller's first ones -/
theorem zi_preV (O : zOK own cc nL ret rm p R s m args meth c D dA A) {index ci np : Nat} {y : MethodName} {cc' : ByteArray} {nL' : Nat} {ret' : Option FieldType} {rm' : Room} {a0 : Nat} {As : List Value} {Q' : Option Value → List zE → Prop} {rest : List Value} {fs : List Value} (h1 T : List zE) (hh : h = h1 ++ T)
    (C : zCV own index y ci np) (cm : Cond.code y cc' nL' ret' ∈ zt) (hM : zMet y cc' nL' ret' rm' (.ref a0 :: As) h1 Q') (d : decode cc pc = .ok (.invokevirtual index, 3)) (hR : rm'.frames + 1 ≤ rm.frames ∧ 8 + (nL' + 11) + rm'.locals ≤ rm.locals) (hf : k + rm'.cells ≤ rm.cells ∧ n + rm'.slots ≤ rm.slots) (hnA : As.length = np) (hrec : h1[a0]? = some (.inr (ci, fs))) (hrs : (rest.map fun v => v.category).sum ≤ 8)
    (hok : h.all (zok h.length) = true) (hls : ls.all (zlok h.length) = true) (hst : rest.all (zvok h.length) = true) (hn0 : n0 ≤ h.length) (hAs : As.all (zvok h1.length) = true) (h1ok : h1.all (zok h1.length) = true) (hw : ∀ r h', Q' r h' → (h'.take h1.length).all (zok h1.length) = true ∧ (h'.drop h1.length).all (zok 0) = true) (hstk : st = As.reverse ++ .ref a0 :: rest)
    (K : ∀ (r : Option Value) (h' : List zE), Q' r h' → h1.length ≤ h'.length → zG p l e R s m args below meth c D dA A ad0 n0 nL Q mc ms (k + rm'.cells) (n + rm'.slots) (pc + 3) ls ((r.map (zv (zr (List.range h1.length) h.length))).toList ++ rest) (h'.take h1.length ++ T ++ h'.drop h1.length)) : zG p l e R s m args below meth c D dA A ad0 n0 nL Q mc ms k n pc ls st h := by
  have hf0 : ∀ i, i < h1.length → zr (List.range h1.length) h.length i = i := fun i hi => zr_pre hi
  have ha0 : a0 < h1.length := (List.getElem?_eq_some_iff.mp hrec).1
  have hlen : h1.length ≤ h.length := by rw [hh, List.length_append]; omega
  have hAs2 : As.map (zv (zr (List.range h1.length) h.length)) = As := by
    conv => rhs; rw [← List.map_id As]
    apply List.map_congr_left
    intro v hv
    rw [zv_eq (g := fun i => i) hf0 (List.all_eq_true.mp hAs v hv)]
    exact zv_id v
  refine zi_callV O (List.range h1.length) C cm hM d hR hf hnA hrec hrs (va_nd_of _ List.nodup_range) ?_ hok hls hst hn0 (by rw [hAs2, hf0 a0 ha0]; exact hstk) (fun r h' hq hl => ?_)
  · apply List.ext_getElem?
    intro j
    rw [List.getElem?_map, List.getElem?_map]
    by_cases hj : j < h1.length
    · rw [List.getElem?_range hj, List.getElem?_eq_getElem hj]
      show some (h[j]?) = some (some _)
      rw [zc_eq (g := fun i => i) hf0 (List.all_eq_true.mp h1ok _ (List.getElem_mem hj)), zc_id, hh, List.getElem?_append_left hj, List.getElem?_eq_getElem hj]
    · rw [List.getElem?_eq_none (by simpa using hj), List.getElem?_eq_none (by omega)]; rfl
  · obtain ⟨w1, w2⟩ := hw r h' hq
    have := K r h' hq hl
    have e : zput (List.range h1.length) h h' = h'.take h1.length ++ T ++ h'.drop h1.length := by
      unfold zput
      rw [zset_range _ _ _ (by rw [List.length_map]; exact hl) hlen, ← List.map_take, map_zc_id hf0 w1, List.length_range, map_zc_id (M := 0) (fun i hi => absurd hi (Nat.not_lt_zero i)) w2]
      congr 2
      rw [hh, List.drop_left]
    rw [e]
    exact this
end ZS
end
section
/-! Math, Arrays, Row -/
def zb (b : Prop) [Decidable b] : Int32 := if b then 1 else 0
def jlo (x y : Int32) : Int32 := if y < x then y else x
def jhi (x y : Int32) : Int32 := if x < y then y else x
abbrev rowH (n : Nat) (L S : Nat → Int32) : List zE := [zo 2 [.ref 1, .ref 2, .int (nI n)], za 80 L, za 20 S]
theorem m_Math_min (x y : Int32) : zPu y_Math_min b_Math_min 2 (some .int) ⟨0, 0, 0, 0⟩ [.int x, .int y] [] (.int (jlo x y)) := by
  refine zMet_of (by decide +kernel) rfl (Nat.le_of_ble_eq_true rfl) (fun z1 z2 z3 z4 z5 z6 z7 z8 z9 z10 z11 z12 z13 z14 O hin => ?_)
  refine zi_ls (ls' := [some (.int x), some (.int y)]) rfl ?_
  refine zi_iload_n O d_Math_min_0 rfl ?_
  refine zi_iload_n O d_Math_min_1 rfl ?_
  refine zi_icmp_gt O 9 d_Math_min_2 (by decide) (fun c2 => ?_) (fun c2 => ?_)
  · refine zi_iload_n O d_Math_min_9 rfl ?_
    refine zi_iret O d_Math_min_10 (Nat.le_of_ble_eq_true rfl) (Nat.le_of_ble_eq_true rfl) (Nat.le_of_ble_eq_true rfl) ?_
    exact ⟨by rw [jlo, if_pos c2], rfl⟩
  · refine zi_iload_n O d_Math_min_5 rfl ?_
    refine zi_goto O 10 d_Math_min_6 (by decide) ?_
    refine zi_iret O d_Math_min_10 (Nat.le_of_ble_eq_true rfl) (Nat.le_of_ble_eq_true rfl) (Nat.le_of_ble_eq_true rfl) ?_
    exact ⟨by rw [jlo, if_neg c2], rfl⟩
theorem m_Math_max (x y : Int32) : zPu y_Math_max b_Math_max 2 (some .int) ⟨0, 0, 0, 0⟩ [.int x, .int y] [] (.int (jhi x y)) := by
  refine zMet_of (by decide +kernel) rfl (Nat.le_of_ble_eq_true rfl) (fun z1 z2 z3 z4 z5 z6 z7 z8 z9 z10 z11 z12 z13 z14 O hin => ?_)
  refine zi_ls (ls' := [some (.int x), some (.int y)]) rfl ?_
  refine zi_iload_n O d_Math_max_0 rfl ?_
  refine zi_iload_n O d_Math_max_1 rfl ?_
  refine zi_icmp_lt O 9 d_Math_max_2 (by decide) (fun c2 => ?_) (fun c2 => ?_)
  · refine zi_iload_n O d_Math_max_9 rfl ?_
    refine zi_iret O d_Math_max_10 (Nat.le_of_ble_eq_true rfl) (Nat.le_of_ble_eq_true rfl) (Nat.le_of_ble_eq_true rfl) ?_
    exact ⟨by rw [jhi, if_pos c2], rfl⟩
  · refine zi_iload_n O d_Math_max_5 rfl ?_
    refine zi_goto O 10 d_Math_max_6 (by decide) ?_
    refine zi_iret O d_Math_max_10 (Nat.le_of_ble_eq_true rfl) (Nat.le_of_ble_eq_true rfl) (Nat.le_of_ble_eq_true rfl) ?_
    exact ⟨by rw [jhi, if_neg c2], rfl⟩
theorem m_Row_isFull (n : Nat) (L S : Nat → Int32) (hn : n ≤ 20) : zPu y_Row_isFull b_Row_isFull 1 (some .boolean) ⟨0, 0, 0, 0⟩ [.ref 0] (rowH n L S) (.int (zb (20 ≤ n))) := by
  refine zMet_of (plainFor_of_name (by decide +kernel)) rfl (Nat.le_of_ble_eq_true rfl) (fun z1 z2 z3 z4 z5 z6 z7 z8 z9 z10 z11 z12 z13 z14 O hin => ?_)
  refine zi_ls (ls' := [some (.ref 0)]) rfl ?_
  refine zi_aload_n O d_Row_isFull_0 rfl ?_
  refine zi_get O f_Row_18 d_Row_isFull_1 rfl rfl ?_
  refine zi_bipushN O 20 d_Row_isFull_4 (by decide) ?_
  refine zi_icmp_ltN O 13 d_Row_isFull_6 (by decide) (by omega) (by omega) (fun c6 => ?_) (fun c6 => ?_)
  · refine zi_iconstN O 0 d_Row_isFull_13 (by decide) ?_
    refine zi_zret O d_Row_isFull_14 rfl (Nat.le_of_ble_eq_true rfl) (Nat.le_of_ble_eq_true rfl) (Nat.le_of_ble_eq_true rfl) ?_
    exact ⟨by rw [zb, if_neg (by omega)]; rfl, rfl⟩
  · refine zi_iconstN O 1 d_Row_isFull_9 (by decide) ?_
    refine zi_goto O 14 d_Row_isFull_10 (by decide) ?_
    refine zi_zret O d_Row_isFull_14 rfl (Nat.le_of_ble_eq_true rfl) (Nat.le_of_ble_eq_true rfl) (Nat.le_of_ble_eq_true rfl) ?_
    exact ⟨by rw [zb, if_pos (by omega)]; rfl, rfl⟩
theorem m_Row_add (n : Nat) (L S : Nat → Int32) (sg l0 l1 l2 l3 : Int32) (hn : n < 20) : zMet y_Row_add b_Row_add 7 none ⟨1, 0, 0, 20⟩ [.ref 0, .int sg, .int l0, .int l1, .int l2, .int l3] (rowH n L S) (fun r h' => r = none ∧ h' = rowH (n + 1) (upd (upd (upd (upd L (4 * n) l0) (4 * n + 1) l1) (4 * n + 2) l2) (4 * n + 3) l3) (upd S n sg)) := by
  refine zMet_of (plainFor_of_name (by decide +kernel)) rfl (Nat.le_of_ble_eq_true rfl) (fun z1 z2 z3 z4 z5 z6 z7 z8 z9 z10 z11 z12 z13 z14 O hin => ?_)
  refine zi_ls (ls' := [some (.ref 0), some (.int sg), some (.int l0), some (.int l1), some (.int l2), some (.int l3), none]) rfl ?_
  refine zi_aload_n O d_Row_add_0 rfl ?_
  refine zi_pureV O [0, 1, 2] c_Row_22 k_Row_isFull (m_Row_isFull n L S (by omega)) d_Row_add_1 ⟨(Nat.le_of_ble_eq_true rfl), (Nat.le_of_ble_eq_true rfl)⟩ ⟨(Nat.le_of_ble_eq_true rfl), (Nat.le_of_ble_eq_true rfl)⟩ rfl rfl (Nat.le_of_ble_eq_true rfl) rfl rfl rfl rfl rfl (Nat.le_of_ble_eq_true rfl) rfl ?_
  refine zi_if_eq O 8 d_Row_add_4 (by decide) (fun c4 => ?_) (fun c4 => ?_)
  · refine zi_iconstN O 4 d_Row_add_8 (by decide) ?_
    refine zi_aload_n O d_Row_add_9 rfl ?_
    refine zi_get O f_Row_18 d_Row_add_10 rfl rfl ?_
    first | refine zi_imulN O d_Row_add_13 ?_ | refine zi_imul O d_Row_add_13 ?_
    refine zi_istore (ls' := _ :: _ :: _ :: _ :: _ :: _ :: some _ :: _) O d_Row_add_14 rfl (by decide) rfl ?_
    refine zi_aload_n O d_Row_add_16 rfl ?_
    refine zi_get O f_Row_9 d_Row_add_17 rfl rfl ?_
    refine zi_iload O d_Row_add_20 rfl ?_
    refine zi_iload_n O d_Row_add_22 rfl ?_
    refine zi_iast O d_Row_add_23 rfl rfl (by omega) (by decide) (by dsimp only [List.set]) ?_
    refine zi_aload_n O d_Row_add_24 rfl ?_
    refine zi_get O f_Row_9 d_Row_add_25 rfl rfl ?_
    refine zi_iload O d_Row_add_28 rfl ?_
    refine zi_iconstN O 1 d_Row_add_30 (by decide) ?_
    first | refine zi_iaddN O d_Row_add_31 ?_ | refine zi_iadd O d_Row_add_31 ?_
    refine zi_iload_n O d_Row_add_32 rfl ?_
    refine zi_iast O d_Row_add_33 rfl rfl (by omega) (by decide) (by dsimp only [List.set]) ?_
    refine zi_aload_n O d_Row_add_34 rfl ?_
    refine zi_get O f_Row_9 d_Row_add_35 rfl rfl ?_
    refine zi_iload O d_Row_add_38 rfl ?_
    refine zi_iconstN O 2 d_Row_add_40 (by decide) ?_
    first | refine zi_iaddN O d_Row_add_41 ?_ | refine zi_iadd O d_Row_add_41 ?_
    refine zi_iload O d_Row_add_42 rfl ?_
    refine zi_iast O d_Row_add_44 rfl rfl (by omega) (by decide) (by dsimp only [List.set]) ?_
    refine zi_aload_n O d_Row_add_45 rfl ?_
    refine zi_get O f_Row_9 d_Row_add_46 rfl rfl ?_
    refine zi_iload O d_Row_add_49 rfl ?_
    refine zi_iconstN O 3 d_Row_add_51 (by decide) ?_
    first | refine zi_iaddN O d_Row_add_52 ?_ | refine zi_iadd O d_Row_add_52 ?_
    refine zi_iload O d_Row_add_53 rfl ?_
    refine zi_iast O d_Row_add_55 rfl rfl (by omega) (by decide) (by dsimp only [List.set]) ?_
    refine zi_aload_n O d_Row_add_56 rfl ?_
    refine zi_get O f_Row_15 d_Row_add_57 rfl rfl ?_
    refine zi_aload_n O d_Row_add_60 rfl ?_
    refine zi_get O f_Row_18 d_Row_add_61 rfl rfl ?_
    refine zi_iload_n O d_Row_add_64 rfl ?_
    refine zi_iast O d_Row_add_65 rfl rfl (by omega) (by decide) (by dsimp only [List.set]) ?_
    refine zi_aload_n O d_Row_add_66 rfl ?_
    refine zi_dup O d_Row_add_67 rfl ?_
    refine zi_get O f_Row_18 d_Row_add_68 rfl rfl ?_
    refine zi_iconstN O 1 d_Row_add_71 (by decide) ?_
    first | refine zi_iaddN O d_Row_add_72 ?_ | refine zi_iadd O d_Row_add_72 ?_
    refine zi_put O f_Row_18 d_Row_add_73 rfl (Nat.le_of_ble_eq_true rfl) (fun _ => rfl) (fun _ => rfl) (by dsimp only [List.set]) ?_
    refine zi_vret O d_Row_add_76 (Nat.le_of_ble_eq_true rfl) (Nat.le_of_ble_eq_true rfl) (Nat.le_of_ble_eq_true rfl) ?_
    exact ⟨rfl, rfl⟩
  · exact absurd (by rw [zb, if_neg (by omega)]) c4
def sumS (S : Nat → Int32) : Nat → Int32
  | 0 => nI 0
  | n + 1 => sumS S n + S n
theorem m_Row_sumOfSigns (n : Nat) (L S : Nat → Int32) (hn : n ≤ 20) : zPu y_Row_sumOfSigns b_Row_sumOfSigns 3 (some .int) ⟨0, 0, 0, 0⟩ [.ref 0] (rowH n L S) (.int (sumS S n)) := by
  refine zMet_of (plainFor_of_name (by decide +kernel)) rfl (Nat.le_of_ble_eq_true rfl) (fun z1 z2 z3 z4 z5 z6 z7 z8 z9 z10 z11 z12 z13 z14 O hin => ?_)
  refine zi_ls (ls' := [some (.ref 0), none, none]) rfl ?_
  refine zi_iconstN O 0 d_Row_sumOfSigns_0 (by decide) ?_
  refine zi_istore_n (ls' := _ :: some _ :: _) O d_Row_sumOfSigns_1 rfl (by decide) rfl ?_
  refine zi_iconstN O 0 d_Row_sumOfSigns_2 (by decide) ?_
  refine zi_istore_n (ls' := _ :: _ :: some _ :: _) O d_Row_sumOfSigns_3 rfl (by decide) rfl ?_
  refine zi_for (fun i => [some (.ref 0), some (.int (sumS S i)), some (.int (nI i))]) (fun _ => rowH n L S) 0 n (by omega) rfl rfl (fun i _ hi ih => ?_) ?_
  · refine zi_iload_n O d_Row_sumOfSigns_4 rfl ?_
    refine zi_aload_n O d_Row_sumOfSigns_5 rfl ?_
    refine zi_get O f_Row_18 d_Row_sumOfSigns_6 rfl rfl ?_
    refine zi_icmp_geN O 27 d_Row_sumOfSigns_9 (by decide) (by omega) (by omega) (fun c9 => ?_) (fun c9 => ?_)
    · omega
    · refine zi_iload_n O d_Row_sumOfSigns_12 rfl ?_
      refine zi_aload_n O d_Row_sumOfSigns_13 rfl ?_
      refine zi_get O f_Row_15 d_Row_sumOfSigns_14 rfl rfl ?_
      refine zi_iload_n O d_Row_sumOfSigns_17 rfl ?_
      refine zi_iald O d_Row_sumOfSigns_18 rfl rfl (by omega) (by decide) ?_
      first | refine zi_iaddN O d_Row_sumOfSigns_19 ?_ | refine zi_iadd O d_Row_sumOfSigns_19 ?_
      refine zi_istore_n (ls' := _ :: some _ :: _) O d_Row_sumOfSigns_20 rfl (by decide) rfl ?_
      refine zi_iincN (ls' := _ :: _ :: some _ :: _) O 1 d_Row_sumOfSigns_21 rfl (by decide) rfl (by decide) rfl ?_
      refine zi_goto O 4 d_Row_sumOfSigns_24 (by decide) ?_
      exact ih
  · refine zi_iload_n O d_Row_sumOfSigns_4 rfl ?_
    refine zi_aload_n O d_Row_sumOfSigns_5 rfl ?_
    refine zi_get O f_Row_18 d_Row_sumOfSigns_6 rfl rfl ?_
    refine zi_icmp_geN O 27 d_Row_sumOfSigns_9 (by decide) (by omega) (by omega) (fun c9 => ?_) (fun c9 => ?_)
    · refine zi_iload_n O d_Row_sumOfSigns_27 rfl ?_
      refine zi_iret O d_Row_sumOfSigns_28 (Nat.le_of_ble_eq_true rfl) (Nat.le_of_ble_eq_true rfl) (Nat.le_of_ble_eq_true rfl) ?_
      exact ⟨rfl, rfl⟩
    · omega
def up (S : Nat → Int32) (c : Nat) : Nat := if S c = nI 1 then 3 else 1
theorem up_le (S : Nat → Int32) (c : Nat) : up S c ≤ 3 := by unfold up; split <;> omega
theorem m_Row_upperIn (n : Nat) (L S : Nat → Int32) (a : Nat) (ha : a < 20) : zPu y_Row_upperIn b_Row_upperIn 2 (some .int) ⟨0, 0, 0, 0⟩ [.ref 0, .int (nI a)] (rowH n L S) (.int (nI (4 * a + up S a))) := by
  refine zMet_of (plainFor_of_name (by decide +kernel)) rfl (Nat.le_of_ble_eq_true rfl) (fun z1 z2 z3 z4 z5 z6 z7 z8 z9 z10 z11 z12 z13 z14 O hin => ?_)
  refine zi_ls (ls' := [some (.ref 0), some (.int (nI a))]) rfl ?_
  refine zi_iconstN O 4 d_Row_upperIn_0 (by decide) ?_
  refine zi_iload_n O d_Row_upperIn_1 rfl ?_
  first | refine zi_imulN O d_Row_upperIn_2 ?_ | refine zi_imul O d_Row_upperIn_2 ?_
  refine zi_aload_n O d_Row_upperIn_3 rfl ?_
  refine zi_get O f_Row_15 d_Row_upperIn_4 rfl rfl ?_
  refine zi_iload_n O d_Row_upperIn_7 rfl ?_
  refine zi_iald O d_Row_upperIn_8 rfl rfl (by omega) (by decide) ?_
  refine zi_iconstN O 1 d_Row_upperIn_9 (by decide) ?_
  refine zi_icmp_ne O 17 d_Row_upperIn_10 (by decide) (fun c10 => ?_) (fun c10 => ?_)
  · refine zi_iconstN O 1 d_Row_upperIn_17 (by decide) ?_
    first | refine zi_iaddN O d_Row_upperIn_18 ?_ | refine zi_iadd O d_Row_upperIn_18 ?_
    refine zi_iret O d_Row_upperIn_19 (Nat.le_of_ble_eq_true rfl) (Nat.le_of_ble_eq_true rfl) (Nat.le_of_ble_eq_true rfl) ?_
    exact ⟨by rw [up, if_neg c10], rfl⟩
  · refine zi_iconstN O 3 d_Row_upperIn_13 (by decide) ?_
    refine zi_goto O 18 d_Row_upperIn_14 (by decide) ?_
    first | refine zi_iaddN O d_Row_upperIn_18 ?_ | refine zi_iadd O d_Row_upperIn_18 ?_
    refine zi_iret O d_Row_upperIn_19 (Nat.le_of_ble_eq_true rfl) (Nat.le_of_ble_eq_true rfl) (Nat.le_of_ble_eq_true rfl) ?_
    exact ⟨by rw [up, if_pos c10], rfl⟩
theorem m_Row_strandGoesIn (n : Nat) (L S : Nat → Int32) (a : Nat) (ha : a < 80) : zPu y_Row_strandGoesIn b_Row_strandGoesIn 3 (some .boolean) ⟨1, 0, 0, 24⟩ [.ref 0, .int (nI a)] (rowH n L S) (.int (zb (a = 4 * (a / 4) ∨ a = 4 * (a / 4) + up S (a / 4)))) := by
  have hu := up_le S (a / 4)
  refine zMet_of (plainFor_of_name (by decide +kernel)) rfl (Nat.le_of_ble_eq_true rfl) (fun z1 z2 z3 z4 z5 z6 z7 z8 z9 z10 z11 z12 z13 z14 O hin => ?_)
  refine zi_ls (ls' := [some (.ref 0), some (.int (nI a)), none]) rfl ?_
  refine zi_iload_n O d_Row_strandGoesIn_0 rfl ?_
  refine zi_iconstN O 2 d_Row_strandGoesIn_1 (by decide) ?_
  first | refine zi_ishrN O 2 2 d_Row_strandGoesIn_2 (by decide) (by omega) ?_ | refine zi_ishrN O 1 1 d_Row_strandGoesIn_2 (by decide) (by omega) ?_
  refine zi_istore_n (ls' := _ :: _ :: some _ :: _) O d_Row_strandGoesIn_3 rfl (by decide) rfl ?_
  refine zi_iload_n O d_Row_strandGoesIn_4 rfl ?_
  refine zi_iconstN O 4 d_Row_strandGoesIn_5 (by decide) ?_
  refine zi_iload_n O d_Row_strandGoesIn_6 rfl ?_
  first | refine zi_imulN O d_Row_strandGoesIn_7 ?_ | refine zi_imul O d_Row_strandGoesIn_7 ?_
  refine zi_icmp_eqN O 20 d_Row_strandGoesIn_8 (by decide) (by omega) (by omega) (fun c8 => ?_) (fun c8 => ?_)
  · refine zi_iconstN O 1 d_Row_strandGoesIn_20 (by decide) ?_
    refine zi_goto O 25 d_Row_strandGoesIn_21 (by decide) ?_
    refine zi_zret O d_Row_strandGoesIn_25 rfl (Nat.le_of_ble_eq_true rfl) (Nat.le_of_ble_eq_true rfl) (Nat.le_of_ble_eq_true rfl) ?_
    exact ⟨by rw [zb, if_pos (Or.inl c8)]; rfl, rfl⟩
  · refine zi_iload_n O d_Row_strandGoesIn_11 rfl ?_
    refine zi_aload_n O d_Row_strandGoesIn_12 rfl ?_
    refine zi_iload_n O d_Row_strandGoesIn_13 rfl ?_
    refine zi_pureV O [0, 1, 2] c_Row_26 k_Row_upperIn (m_Row_upperIn n L S (a / 4) (by omega)) d_Row_strandGoesIn_14 ⟨(Nat.le_of_ble_eq_true rfl), (Nat.le_of_ble_eq_true rfl)⟩ ⟨(Nat.le_of_ble_eq_true rfl), (Nat.le_of_ble_eq_true rfl)⟩ rfl rfl (Nat.le_of_ble_eq_true rfl) rfl rfl rfl rfl rfl (Nat.le_of_ble_eq_true rfl) rfl ?_
    refine zi_icmp_neN O 24 d_Row_strandGoesIn_17 (by decide) (by omega) (by omega) (fun c17 => ?_) (fun c17 => ?_)
    · refine zi_iconstN O 0 d_Row_strandGoesIn_24 (by decide) ?_
      refine zi_zret O d_Row_strandGoesIn_25 rfl (Nat.le_of_ble_eq_true rfl) (Nat.le_of_ble_eq_true rfl) (Nat.le_of_ble_eq_true rfl) ?_
      exact ⟨by rw [zb, if_neg (fun z => z.elim c8 c17)]; rfl, rfl⟩
    · refine zi_iconstN O 1 d_Row_strandGoesIn_20 (by decide) ?_
      refine zi_goto O 25 d_Row_strandGoesIn_21 (by decide) ?_
      refine zi_zret O d_Row_strandGoesIn_25 rfl (Nat.le_of_ble_eq_true rfl) (Nat.le_of_ble_eq_true rfl) (Nat.le_of_ble_eq_true rfl) ?_
      exact ⟨by rw [zb, if_pos (Or.inr c17)]; rfl, rfl⟩
def jn (L : Nat → Int32) (lo hi : Int32) (k : Nat) : Nat → Int32 := fun j => if j < k ∧ L j = hi then lo else L j
theorem jn_0 (L : Nat → Int32) (lo hi : Int32) : jn L lo hi 0 = L := by funext j; simp [jn]
theorem jn_at (L : Nat → Int32) (lo hi : Int32) (k : Nat) : jn L lo hi k k = L k := by simp [jn]
theorem jn_no {L : Nat → Int32} {lo hi : Int32} {k : Nat} (h : ¬ L k = hi) : jn L lo hi (k + 1) = jn L lo hi k := by
  funext j
  unfold jn
  by_cases hj : j = k
  · subst hj; simp [h]
  · have : (j < k + 1 ∧ L j = hi) ↔ (j < k ∧ L j = hi) := ⟨fun z => ⟨by omega, z.2⟩, fun z => ⟨by omega, z.2⟩⟩
    simp only [this]
theorem jn_yes {L : Nat → Int32} {lo hi : Int32} {k : Nat} (h : L k = hi) : upd (jn L lo hi k) k lo = jn L lo hi (k + 1) := by
  funext j
  unfold upd jn
  by_cases hj : j = k
  · subst hj; simp [h]
  · have : (j < k + 1 ∧ L j = hi) ↔ (j < k ∧ L j = hi) := ⟨fun z => ⟨by omega, z.2⟩, fun z => ⟨by omega, z.2⟩⟩
    simp only [this, if_neg hj]
theorem m_Row_joinLabels (n : Nat) (L S : Nat → Int32) (a b : Nat) (hn : n ≤ 20) (ha : a < 80) (hb : b < 80) : zMet y_Row_joinLabels b_Row_joinLabels 6 (some .boolean) ⟨1, 0, 0, 24⟩ [.ref 0, .int (nI a), .int (nI b)] (rowH n L S)
    (fun r h' => r = some (.int (zb (¬ jlo (L a) (L b) = jhi (L a) (L b)))) ∧ h' = rowH n (if jlo (L a) (L b) = jhi (L a) (L b) then L else jn L (jlo (L a) (L b)) (jhi (L a) (L b)) (4 * n)) S) := by
  refine zMet_of (plainFor_of_name (by decide +kernel)) rfl (Nat.le_of_ble_eq_true rfl) (fun z1 z2 z3 z4 z5 z6 z7 z8 z9 z10 z11 z12 z13 z14 O hin => ?_)
  refine zi_ls (ls' := [some (.ref 0), some (.int (nI a)), some (.int (nI b)), none, none, none]) rfl ?_
  refine zi_aload_n O d_Row_joinLabels_0 rfl ?_
  refine zi_get O f_Row_9 d_Row_joinLabels_1 rfl rfl ?_
  refine zi_iload_n O d_Row_joinLabels_4 rfl ?_
  refine zi_iald O d_Row_joinLabels_5 rfl rfl (by omega) (by decide) ?_
  refine zi_aload_n O d_Row_joinLabels_6 rfl ?_
  refine zi_get O f_Row_9 d_Row_joinLabels_7 rfl rfl ?_
  refine zi_iload_n O d_Row_joinLabels_10 rfl ?_
  refine zi_iald O d_Row_joinLabels_11 rfl rfl (by omega) (by decide) ?_
  refine zi_pureS O [] c_Row_30 k_Math_min (m_Math_min (L a) (L b)) d_Row_joinLabels_12 ⟨(Nat.le_of_ble_eq_true rfl), (Nat.le_of_ble_eq_true rfl)⟩ ⟨(Nat.le_of_ble_eq_true rfl), (Nat.le_of_ble_eq_true rfl)⟩ rfl (Nat.le_of_ble_eq_true rfl) rfl rfl rfl rfl rfl (Nat.le_of_ble_eq_true rfl) rfl ?_
  refine zi_istore_n (ls' := _ :: _ :: _ :: some _ :: _) O d_Row_joinLabels_15 rfl (by decide) rfl ?_
  refine zi_aload_n O d_Row_joinLabels_16 rfl ?_
  refine zi_get O f_Row_9 d_Row_joinLabels_17 rfl rfl ?_
  refine zi_iload_n O d_Row_joinLabels_20 rfl ?_
  refine zi_iald O d_Row_joinLabels_21 rfl rfl (by omega) (by decide) ?_
  refine zi_aload_n O d_Row_joinLabels_22 rfl ?_
  refine zi_get O f_Row_9 d_Row_joinLabels_23 rfl rfl ?_
  refine zi_iload_n O d_Row_joinLabels_26 rfl ?_
  refine zi_iald O d_Row_joinLabels_27 rfl rfl (by omega) (by decide) ?_
  refine zi_pureS O [] c_Row_36 k_Math_max (m_Math_max (L a) (L b)) d_Row_joinLabels_28 ⟨(Nat.le_of_ble_eq_true rfl), (Nat.le_of_ble_eq_true rfl)⟩ ⟨(Nat.le_of_ble_eq_true rfl), (Nat.le_of_ble_eq_true rfl)⟩ rfl (Nat.le_of_ble_eq_true rfl) rfl rfl rfl rfl rfl (Nat.le_of_ble_eq_true rfl) rfl ?_
  refine zi_istore (ls' := _ :: _ :: _ :: _ :: some _ :: _) O d_Row_joinLabels_31 rfl (by decide) rfl ?_
  refine zi_iload_n O d_Row_joinLabels_33 rfl ?_
  refine zi_iload O d_Row_joinLabels_34 rfl ?_
  refine zi_icmp_ne O 41 d_Row_joinLabels_36 (by decide) (fun c36 => ?_) (fun c36 => ?_)
  · refine zi_iconstN O 0 d_Row_joinLabels_41 (by decide) ?_
    refine zi_istore (ls' := _ :: _ :: _ :: _ :: _ :: some _ :: _) O d_Row_joinLabels_42 rfl (by decide) rfl ?_
    refine zi_for (fun i => [some (.ref 0), some (.int (nI a)), some (.int (nI b)), some (.int (jlo (L a) (L b))), some (.int (jhi (L a) (L b))), some (.int (nI i))]) (fun i => rowH n (jn L (jlo (L a) (L b)) (jhi (L a) (L b)) i) S) 0 (4 * n) (by omega) rfl (by rw [jn_0]) (fun i _ hi ih => ?_) ?_
    · refine zi_iload O d_Row_joinLabels_44 rfl ?_
      refine zi_iconstN O 4 d_Row_joinLabels_46 (by decide) ?_
      refine zi_aload_n O d_Row_joinLabels_47 rfl ?_
      refine zi_get O f_Row_18 d_Row_joinLabels_48 rfl rfl ?_
      first | refine zi_imulN O d_Row_joinLabels_51 ?_ | refine zi_imul O d_Row_joinLabels_51 ?_
      refine zi_icmp_geN O 81 d_Row_joinLabels_52 (by decide) (by omega) (by omega) (fun c52 => ?_) (fun c52 => ?_)
      · omega
      · refine zi_aload_n O d_Row_joinLabels_55 rfl ?_
        refine zi_get O f_Row_9 d_Row_joinLabels_56 rfl rfl ?_
        refine zi_iload O d_Row_joinLabels_59 rfl ?_
        refine zi_iald O d_Row_joinLabels_61 rfl rfl (by omega) (by decide) ?_
        refine zi_iload O d_Row_joinLabels_62 rfl ?_
        rw [jn_at]
        refine zi_icmp_ne O 75 d_Row_joinLabels_64 (by decide) (fun c64 => ?_) (fun c64 => ?_)
        · refine zi_iincN (ls' := _ :: _ :: _ :: _ :: _ :: some _ :: _) O 1 d_Row_joinLabels_75 rfl (by decide) rfl (by decide) rfl ?_
          refine zi_goto O 44 d_Row_joinLabels_78 (by decide) ?_
          rw [← jn_no (lo := jlo (L a) (L b)) c64]
          exact ih
        · refine zi_aload_n O d_Row_joinLabels_67 rfl ?_
          refine zi_get O f_Row_9 d_Row_joinLabels_68 rfl rfl ?_
          refine zi_iload O d_Row_joinLabels_71 rfl ?_
          refine zi_iload_n O d_Row_joinLabels_73 rfl ?_
          refine zi_iast O d_Row_joinLabels_74 rfl rfl (by omega) (by decide) (by dsimp only [List.set]) ?_
          refine zi_iincN (ls' := _ :: _ :: _ :: _ :: _ :: some _ :: _) O 1 d_Row_joinLabels_75 rfl (by decide) rfl (by decide) rfl ?_
          refine zi_goto O 44 d_Row_joinLabels_78 (by decide) ?_
          rw [jn_yes c64]
          exact ih
    · refine zi_iload O d_Row_joinLabels_44 rfl ?_
      refine zi_iconstN O 4 d_Row_joinLabels_46 (by decide) ?_
      refine zi_aload_n O d_Row_joinLabels_47 rfl ?_
      refine zi_get O f_Row_18 d_Row_joinLabels_48 rfl rfl ?_
      first | refine zi_imulN O d_Row_joinLabels_51 ?_ | refine zi_imul O d_Row_joinLabels_51 ?_
      refine zi_icmp_geN O 81 d_Row_joinLabels_52 (by decide) (by omega) (by omega) (fun c52 => ?_) (fun c52 => ?_)
      · refine zi_iconstN O 1 d_Row_joinLabels_81 (by decide) ?_
        refine zi_zret O d_Row_joinLabels_82 rfl (Nat.le_of_ble_eq_true rfl) (Nat.le_of_ble_eq_true rfl) (Nat.le_of_ble_eq_true rfl) ?_
        exact ⟨by rw [zb, if_pos c36]; rfl, by rw [if_neg c36]⟩
      · omega
  · refine zi_iconstN O 0 d_Row_joinLabels_39 (by decide) ?_
    refine zi_zret O d_Row_joinLabels_40 rfl (Nat.le_of_ble_eq_true rfl) (Nat.le_of_ble_eq_true rfl) (Nat.le_of_ble_eq_true rfl) ?_
    exact ⟨by rw [zb, if_neg (fun z => z c36)]; rfl, by rw [if_pos c36]⟩
theorem m_Row_remove (n : Nat) (L S : Nat → Int32) (a : Nat) (hn : n ≤ 20) (ha : a < n) : zMet y_Row_remove b_Row_remove 3 none ⟨1, 0, 0, 60⟩ [.ref 0, .int (nI a)] (rowH n L S)
    (fun r h' => r = none ∧ h' = rowH (n - 1) (va_cpy L L (4 * (a + 1)) (4 * a) (4 * (n - a - 1))) (va_cpy S S (a + 1) a (n - a - 1))) := by
  refine zMet_of (plainFor_of_name (by decide +kernel)) rfl (Nat.le_of_ble_eq_true rfl) (fun z1 z2 z3 z4 z5 z6 z7 z8 z9 z10 z11 z12 z13 z14 O hin => ?_)
  refine zi_ls (ls' := [some (.ref 0), some (.int (nI a)), none]) rfl ?_
  refine zi_iload_n O d_Row_remove_0 rfl ?_
  refine zi_if_lt O 12 d_Row_remove_1 (by decide) (fun c1 => ?_) (fun c1 => ?_)
  · exact absurd c1 (nI_pos (by omega))
  · refine zi_iload_n O d_Row_remove_4 rfl ?_
    refine zi_aload_n O d_Row_remove_5 rfl ?_
    refine zi_get O f_Row_18 d_Row_remove_6 rfl rfl ?_
    refine zi_icmp_ltN O 13 d_Row_remove_9 (by decide) (by omega) (by omega) (fun c9 => ?_) (fun c9 => ?_)
    · refine zi_aload_n O d_Row_remove_13 rfl ?_
      refine zi_get O f_Row_18 d_Row_remove_14 rfl rfl ?_
      refine zi_iload_n O d_Row_remove_17 rfl ?_
      first | refine zi_isubN O d_Row_remove_18 (by omega) ?_ | refine zi_isub O d_Row_remove_18 ?_
      refine zi_iconstN O 1 d_Row_remove_19 (by decide) ?_
      first | refine zi_isubN O d_Row_remove_20 (by omega) ?_ | refine zi_isub O d_Row_remove_20 ?_
      refine zi_istore_n (ls' := _ :: _ :: some _ :: _) O d_Row_remove_21 rfl (by decide) rfl ?_
      refine zi_aload_n O d_Row_remove_22 rfl ?_
      refine zi_get O f_Row_9 d_Row_remove_23 rfl rfl ?_
      refine zi_iconstN O 4 d_Row_remove_26 (by decide) ?_
      refine zi_iload_n O d_Row_remove_27 rfl ?_
      refine zi_iconstN O 1 d_Row_remove_28 (by decide) ?_
      first | refine zi_iaddN O d_Row_remove_29 ?_ | refine zi_iadd O d_Row_remove_29 ?_
      first | refine zi_imulN O d_Row_remove_30 ?_ | refine zi_imul O d_Row_remove_30 ?_
      refine zi_aload_n O d_Row_remove_31 rfl ?_
      refine zi_get O f_Row_9 d_Row_remove_32 rfl rfl ?_
      refine zi_iconstN O 4 d_Row_remove_35 (by decide) ?_
      refine zi_iload_n O d_Row_remove_36 rfl ?_
      first | refine zi_imulN O d_Row_remove_37 ?_ | refine zi_imul O d_Row_remove_37 ?_
      refine zi_iconstN O 4 d_Row_remove_38 (by decide) ?_
      refine zi_iload_n O d_Row_remove_39 rfl ?_
      first | refine zi_imulN O d_Row_remove_40 ?_ | refine zi_imul O d_Row_remove_40 ?_
      refine zi_copy O d_Row_remove_41 z_ac_Row z_ac1 z_ac2 z_ac3 rfl rfl rfl rfl rfl (by omega) (by omega) (by decide) (by decide) (Nat.le_of_ble_eq_true rfl) (Nat.le_of_ble_eq_true rfl) (by dsimp only [List.set]) ?_
      refine zi_aload_n O d_Row_remove_44 rfl ?_
      refine zi_get O f_Row_15 d_Row_remove_45 rfl rfl ?_
      refine zi_iload_n O d_Row_remove_48 rfl ?_
      refine zi_iconstN O 1 d_Row_remove_49 (by decide) ?_
      first | refine zi_iaddN O d_Row_remove_50 ?_ | refine zi_iadd O d_Row_remove_50 ?_
      refine zi_aload_n O d_Row_remove_51 rfl ?_
      refine zi_get O f_Row_15 d_Row_remove_52 rfl rfl ?_
      refine zi_iload_n O d_Row_remove_55 rfl ?_
      refine zi_iload_n O d_Row_remove_56 rfl ?_
      refine zi_copy O d_Row_remove_57 z_ac_Row z_ac1 z_ac2 z_ac3 rfl rfl rfl rfl rfl (by omega) (by omega) (by decide) (by decide) (Nat.le_of_ble_eq_true rfl) (Nat.le_of_ble_eq_true rfl) (by dsimp only [List.set]) ?_
      refine zi_aload_n O d_Row_remove_60 rfl ?_
      refine zi_dup O d_Row_remove_61 rfl ?_
      refine zi_get O f_Row_18 d_Row_remove_62 rfl rfl ?_
      refine zi_iconstN O 1 d_Row_remove_65 (by decide) ?_
      first | refine zi_isubN O d_Row_remove_66 (by omega) ?_ | refine zi_isub O d_Row_remove_66 ?_
      refine zi_put O f_Row_18 d_Row_remove_67 rfl (Nat.le_of_ble_eq_true rfl) (fun _ => rfl) (fun _ => rfl) (by dsimp only [List.set]) ?_
      refine zi_vret O d_Row_remove_70 (Nat.le_of_ble_eq_true rfl) (Nat.le_of_ble_eq_true rfl) (Nat.le_of_ble_eq_true rfl) ?_
      exact ⟨rfl, rfl⟩
    · omega
end
section
/-! Edges: reading -/
abbrev edgH (m : Nat) (PL LB FR TO AT : Nat → Int32) : List zE := [zo 3 [.ref 1, .ref 2, .ref 3, .ref 4, .ref 5, .int (nI m)], za 80 PL, za 40 LB, za 40 FR, za 40 TO, za 80 AT]
theorem m_Edg_withLabel (m : Nat) (PL LB FR TO AT : Nat → Int32) (x : Int32) (hm : m ≤ 40) (i : Nat) (hi : i < m) (hx : LB i = x) (hb : ∀ j, j < i → ¬ LB j = x) : zPu y_Edg_withLabel b_Edg_withLabel 3 (some .int) ⟨0, 0, 0, 0⟩ [.ref 0, .int x] (edgH m PL LB FR TO AT) (.int (nI i)) := by
  refine zMet_of (plainFor_of_name (by decide +kernel)) rfl (Nat.le_of_ble_eq_true rfl) (fun z1 z2 z3 z4 z5 z6 z7 z8 z9 z10 z11 z12 z13 z14 O hin => ?_)
  refine zi_ls (ls' := [some (.ref 0), some (.int x), none]) rfl ?_
  refine zi_iconstN O 0 d_Edg_withLabel_0 (by decide) ?_
  refine zi_istore_n (ls' := _ :: _ :: some _ :: _) O d_Edg_withLabel_1 rfl (by decide) rfl ?_
  refine zi_for (fun i => [some (.ref 0), some (.int x), some (.int (nI i))]) (fun _ => edgH m PL LB FR TO AT) 0 i (by omega) rfl rfl (fun j _ hj ih => ?_) ?_
  · refine zi_iload_n O d_Edg_withLabel_2 rfl ?_
    refine zi_aload_n O d_Edg_withLabel_3 rfl ?_
    refine zi_get O f_Edg_45 d_Edg_withLabel_4 rfl rfl ?_
    refine zi_icmp_geN O 28 d_Edg_withLabel_7 (by decide) (by omega) (by omega) (fun c7 => ?_) (fun c7 => ?_)
    · omega
    · refine zi_aload_n O d_Edg_withLabel_10 rfl ?_
      refine zi_get O f_Edg_15 d_Edg_withLabel_11 rfl rfl ?_
      refine zi_iload_n O d_Edg_withLabel_14 rfl ?_
      refine zi_iald O d_Edg_withLabel_15 rfl rfl (by omega) (by decide) ?_
      refine zi_iload_n O d_Edg_withLabel_16 rfl ?_
      refine zi_icmp_ne O 22 d_Edg_withLabel_17 (by decide) (fun c17 => ?_) (fun c17 => ?_)
      · refine zi_iincN (ls' := _ :: _ :: some _ :: _) O 1 d_Edg_withLabel_22 rfl (by decide) rfl (by decide) rfl ?_
        refine zi_goto O 2 d_Edg_withLabel_25 (by decide) ?_
        exact ih
      · exact absurd c17 (hb j hj)
  · refine zi_iload_n O d_Edg_withLabel_2 rfl ?_
    refine zi_aload_n O d_Edg_withLabel_3 rfl ?_
    refine zi_get O f_Edg_45 d_Edg_withLabel_4 rfl rfl ?_
    refine zi_icmp_geN O 28 d_Edg_withLabel_7 (by decide) (by omega) (by omega) (fun c7 => ?_) (fun c7 => ?_)
    · omega
    · refine zi_aload_n O d_Edg_withLabel_10 rfl ?_
      refine zi_get O f_Edg_15 d_Edg_withLabel_11 rfl rfl ?_
      refine zi_iload_n O d_Edg_withLabel_14 rfl ?_
      refine zi_iald O d_Edg_withLabel_15 rfl rfl (by omega) (by decide) ?_
      refine zi_iload_n O d_Edg_withLabel_16 rfl ?_
      refine zi_icmp_ne O 22 d_Edg_withLabel_17 (by decide) (fun c17 => ?_) (fun c17 => ?_)
      · exact absurd hx c17
      · refine zi_iload_n O d_Edg_withLabel_20 rfl ?_
        refine zi_iret O d_Edg_withLabel_21 (Nat.le_of_ble_eq_true rfl) (Nat.le_of_ble_eq_true rfl) (Nat.le_of_ble_eq_true rfl) ?_
        exact ⟨rfl, rfl⟩
theorem m_Edg_withLabel_no (m : Nat) (PL LB FR TO AT : Nat → Int32) (x : Int32) (hm : m ≤ 40) (hb : ∀ j, j < m → ¬ LB j = x) : zPu y_Edg_withLabel b_Edg_withLabel 3 (some .int) ⟨0, 0, 0, 0⟩ [.ref 0, .int x] (edgH m PL LB FR TO AT) (.int (-1)) := by
  refine zMet_of (plainFor_of_name (by decide +kernel)) rfl (Nat.le_of_ble_eq_true rfl) (fun z1 z2 z3 z4 z5 z6 z7 z8 z9 z10 z11 z12 z13 z14 O hin => ?_)
  refine zi_ls (ls' := [some (.ref 0), some (.int x), none]) rfl ?_
  refine zi_iconstN O 0 d_Edg_withLabel_0 (by decide) ?_
  refine zi_istore_n (ls' := _ :: _ :: some _ :: _) O d_Edg_withLabel_1 rfl (by decide) rfl ?_
  refine zi_for (fun i => [some (.ref 0), some (.int x), some (.int (nI i))]) (fun _ => edgH m PL LB FR TO AT) 0 m (by omega) rfl rfl (fun j _ hj ih => ?_) ?_
  · refine zi_iload_n O d_Edg_withLabel_2 rfl ?_
    refine zi_aload_n O d_Edg_withLabel_3 rfl ?_
    refine zi_get O f_Edg_45 d_Edg_withLabel_4 rfl rfl ?_
    refine zi_icmp_geN O 28 d_Edg_withLabel_7 (by decide) (by omega) (by omega) (fun c7 => ?_) (fun c7 => ?_)
    · omega
    · refine zi_aload_n O d_Edg_withLabel_10 rfl ?_
      refine zi_get O f_Edg_15 d_Edg_withLabel_11 rfl rfl ?_
      refine zi_iload_n O d_Edg_withLabel_14 rfl ?_
      refine zi_iald O d_Edg_withLabel_15 rfl rfl (by omega) (by decide) ?_
      refine zi_iload_n O d_Edg_withLabel_16 rfl ?_
      refine zi_icmp_ne O 22 d_Edg_withLabel_17 (by decide) (fun c17 => ?_) (fun c17 => ?_)
      · refine zi_iincN (ls' := _ :: _ :: some _ :: _) O 1 d_Edg_withLabel_22 rfl (by decide) rfl (by decide) rfl ?_
        refine zi_goto O 2 d_Edg_withLabel_25 (by decide) ?_
        exact ih
      · exact absurd c17 (hb j hj)
  · refine zi_iload_n O d_Edg_withLabel_2 rfl ?_
    refine zi_aload_n O d_Edg_withLabel_3 rfl ?_
    refine zi_get O f_Edg_45 d_Edg_withLabel_4 rfl rfl ?_
    refine zi_icmp_geN O 28 d_Edg_withLabel_7 (by decide) (by omega) (by omega) (fun c7 => ?_) (fun c7 => ?_)
    · refine zi_iconst (v := -1) O d_Edg_withLabel_28 (by decide) ?_
      refine zi_iret O d_Edg_withLabel_29 (Nat.le_of_ble_eq_true rfl) (Nat.le_of_ble_eq_true rfl) (Nat.le_of_ble_eq_true rfl) ?_
      exact ⟨rfl, rfl⟩
    · omega
/-- the least number behind a that isn't among the first i labels -/
def fa (LB : Nat → Int32) (a : Nat) : Nat → Nat
  | 0 => a + 1
  | i + 1 => if LB i = nI (fa LB a i) then fa LB a i + 1 else fa LB a i
theorem m_Edg_freeAfter (m : Nat) (PL LB FR TO AT : Nat → Int32) (a : Nat) (hm : m ≤ 40) : zPu y_Edg_freeAfter b_Edg_freeAfter 4 (some .int) ⟨0, 0, 0, 0⟩ [.ref 0, .int (nI a)] (edgH m PL LB FR TO AT) (.int (nI (fa LB a m))) := by
  refine zMet_of (plainFor_of_name (by decide +kernel)) rfl (Nat.le_of_ble_eq_true rfl) (fun z1 z2 z3 z4 z5 z6 z7 z8 z9 z10 z11 z12 z13 z14 O hin => ?_)
  refine zi_ls (ls' := [some (.ref 0), some (.int (nI a)), none, none]) rfl ?_
  refine zi_iload_n O d_Edg_freeAfter_0 rfl ?_
  refine zi_iconstN O 1 d_Edg_freeAfter_1 (by decide) ?_
  first | refine zi_iaddN O d_Edg_freeAfter_2 ?_ | refine zi_iadd O d_Edg_freeAfter_2 ?_
  refine zi_istore_n (ls' := _ :: _ :: some _ :: _) O d_Edg_freeAfter_3 rfl (by decide) rfl ?_
  refine zi_iconstN O 0 d_Edg_freeAfter_4 (by decide) ?_
  refine zi_istore_n (ls' := _ :: _ :: _ :: some _ :: _) O d_Edg_freeAfter_5 rfl (by decide) rfl ?_
  refine zi_for (fun i => [some (.ref 0), some (.int (nI a)), some (.int (nI (fa LB a i))), some (.int (nI i))]) (fun _ => edgH m PL LB FR TO AT) 0 m (by omega) rfl rfl (fun j _ hj ih => ?_) ?_
  · refine zi_iload_n O d_Edg_freeAfter_6 rfl ?_
    refine zi_aload_n O d_Edg_freeAfter_7 rfl ?_
    refine zi_get O f_Edg_45 d_Edg_freeAfter_8 rfl rfl ?_
    refine zi_icmp_geN O 33 d_Edg_freeAfter_11 (by decide) (by omega) (by omega) (fun c11 => ?_) (fun c11 => ?_)
    · omega
    · refine zi_aload_n O d_Edg_freeAfter_14 rfl ?_
      refine zi_get O f_Edg_15 d_Edg_freeAfter_15 rfl rfl ?_
      refine zi_iload_n O d_Edg_freeAfter_18 rfl ?_
      refine zi_iald O d_Edg_freeAfter_19 rfl rfl (by omega) (by decide) ?_
      refine zi_iload_n O d_Edg_freeAfter_20 rfl ?_
      refine zi_icmp_ne O 27 d_Edg_freeAfter_21 (by decide) (fun c21 => ?_) (fun c21 => ?_)
      · refine zi_iincN (ls' := _ :: _ :: _ :: some _ :: _) O 1 d_Edg_freeAfter_27 rfl (by decide) rfl (by decide) rfl ?_
        refine zi_goto O 6 d_Edg_freeAfter_30 (by decide) ?_
        rw [fa, if_neg c21] at ih
        exact ih
      · refine zi_iincN (ls' := _ :: _ :: some _ :: _) O 1 d_Edg_freeAfter_24 rfl (by decide) rfl (by decide) rfl ?_
        refine zi_iincN (ls' := _ :: _ :: _ :: some _ :: _) O 1 d_Edg_freeAfter_27 rfl (by decide) rfl (by decide) rfl ?_
        refine zi_goto O 6 d_Edg_freeAfter_30 (by decide) ?_
        rw [fa, if_pos c21] at ih
        exact ih
  · refine zi_iload_n O d_Edg_freeAfter_6 rfl ?_
    refine zi_aload_n O d_Edg_freeAfter_7 rfl ?_
    refine zi_get O f_Edg_45 d_Edg_freeAfter_8 rfl rfl ?_
    refine zi_icmp_geN O 33 d_Edg_freeAfter_11 (by decide) (by omega) (by omega) (fun c11 => ?_) (fun c11 => ?_)
    · refine zi_iload_n O d_Edg_freeAfter_33 rfl ?_
      refine zi_iret O d_Edg_freeAfter_34 (Nat.le_of_ble_eq_true rfl) (Nat.le_of_ble_eq_true rfl) (Nat.le_of_ble_eq_true rfl) ?_
      exact ⟨rfl, rfl⟩
    · omega
theorem m_Edg_signedLabel (m : Nat) (PL LB FR TO AT : Nat → Int32) (d : Nat) (hd : d < 80) : zPu y_Edg_signedLabel b_Edg_signedLabel 3 (some .int) ⟨0, 0, 0, 0⟩ [.ref 0, .int (nI d)] (edgH m PL LB FR TO AT) (.int (if d % 2 = 0 then LB (d / 2) else -(LB (d / 2)))) := by
  refine zMet_of (plainFor_of_name (by decide +kernel)) rfl (Nat.le_of_ble_eq_true rfl) (fun z1 z2 z3 z4 z5 z6 z7 z8 z9 z10 z11 z12 z13 z14 O hin => ?_)
  refine zi_ls (ls' := [some (.ref 0), some (.int (nI d)), none]) rfl ?_
  refine zi_aload_n O d_Edg_signedLabel_0 rfl ?_
  refine zi_get O f_Edg_15 d_Edg_signedLabel_1 rfl rfl ?_
  refine zi_iload_n O d_Edg_signedLabel_4 rfl ?_
  refine zi_iconstN O 1 d_Edg_signedLabel_5 (by decide) ?_
  first | refine zi_ishrN O 2 2 d_Edg_signedLabel_6 (by decide) (by omega) ?_ | refine zi_ishrN O 1 1 d_Edg_signedLabel_6 (by decide) (by omega) ?_
  refine zi_iald O d_Edg_signedLabel_7 rfl rfl (by omega) (by decide) ?_
  refine zi_istore_n (ls' := _ :: _ :: some _ :: _) O d_Edg_signedLabel_8 rfl (by decide) rfl ?_
  refine zi_iload_n O d_Edg_signedLabel_9 rfl ?_
  refine zi_iconstN O 1 d_Edg_signedLabel_10 (by decide) ?_
  first | refine zi_iandN O 1 1 d_Edg_signedLabel_11 (by decide) (by omega) ?_ | refine zi_iandN O 3 2 d_Edg_signedLabel_11 (by decide) (by omega) ?_ | refine zi_iand O d_Edg_signedLabel_11 ?_
  refine zi_if_ne O 19 d_Edg_signedLabel_12 (by decide) (fun c12 => ?_) (fun c12 => ?_)
  · refine zi_iload_n O d_Edg_signedLabel_19 rfl ?_
    refine zi_ineg O d_Edg_signedLabel_20 ?_
    refine zi_iret O d_Edg_signedLabel_21 (Nat.le_of_ble_eq_true rfl) (Nat.le_of_ble_eq_true rfl) (Nat.le_of_ble_eq_true rfl) ?_
    exact ⟨by rw [if_neg (fun z => c12 (by rw [show d % 2 ^ 1 = 0 from z]; rfl))], rfl⟩
  · refine zi_iload_n O d_Edg_signedLabel_15 rfl ?_
    refine zi_goto O 21 d_Edg_signedLabel_16 (by decide) ?_
    refine zi_iret O d_Edg_signedLabel_21 (Nat.le_of_ble_eq_true rfl) (Nat.le_of_ble_eq_true rfl) (Nat.le_of_ble_eq_true rfl) ?_
    have h0 : d % 2 = 0 := by
      rcases Nat.mod_two_eq_zero_or_one d with q | q
      · exact q
      · exact absurd c12 (by rw [show d % 2 ^ 1 = 1 from q]; decide)
    exact ⟨by rw [if_pos h0], rfl⟩
theorem m_Edg_arrival (m : Nat) (PL LB FR TO AT : Nat → Int32) (d : Nat) (hd : d < 80) : zPu y_Edg_arrival b_Edg_arrival 2 (some .int) ⟨0, 0, 0, 0⟩ [.ref 0, .int (nI d)] (edgH m PL LB FR TO AT) (.int (if d % 2 = 0 then TO (d / 2) else FR (d / 2))) := by
  refine zMet_of (plainFor_of_name (by decide +kernel)) rfl (Nat.le_of_ble_eq_true rfl) (fun z1 z2 z3 z4 z5 z6 z7 z8 z9 z10 z11 z12 z13 z14 O hin => ?_)
  refine zi_ls (ls' := [some (.ref 0), some (.int (nI d))]) rfl ?_
  refine zi_iload_n O d_Edg_arrival_0 rfl ?_
  refine zi_iconstN O 1 d_Edg_arrival_1 (by decide) ?_
  first | refine zi_iandN O 1 1 d_Edg_arrival_2 (by decide) (by omega) ?_ | refine zi_iandN O 3 2 d_Edg_arrival_2 (by decide) (by omega) ?_ | refine zi_iand O d_Edg_arrival_2 ?_
  refine zi_if_ne O 17 d_Edg_arrival_3 (by decide) (fun c3 => ?_) (fun c3 => ?_)
  · refine zi_aload_n O d_Edg_arrival_17 rfl ?_
    refine zi_get O f_Edg_18 d_Edg_arrival_18 rfl rfl ?_
    refine zi_iload_n O d_Edg_arrival_21 rfl ?_
    refine zi_iconstN O 1 d_Edg_arrival_22 (by decide) ?_
    first | refine zi_ishrN O 2 2 d_Edg_arrival_23 (by decide) (by omega) ?_ | refine zi_ishrN O 1 1 d_Edg_arrival_23 (by decide) (by omega) ?_
    refine zi_iald O d_Edg_arrival_24 rfl rfl (by omega) (by decide) ?_
    refine zi_iret O d_Edg_arrival_25 (Nat.le_of_ble_eq_true rfl) (Nat.le_of_ble_eq_true rfl) (Nat.le_of_ble_eq_true rfl) ?_
    exact ⟨by rw [if_neg (fun z => c3 (by rw [show d % 2 ^ 1 = 0 from z]; rfl))], rfl⟩
  · refine zi_aload_n O d_Edg_arrival_6 rfl ?_
    refine zi_get O f_Edg_21 d_Edg_arrival_7 rfl rfl ?_
    refine zi_iload_n O d_Edg_arrival_10 rfl ?_
    refine zi_iconstN O 1 d_Edg_arrival_11 (by decide) ?_
    first | refine zi_ishrN O 2 2 d_Edg_arrival_12 (by decide) (by omega) ?_ | refine zi_ishrN O 1 1 d_Edg_arrival_12 (by decide) (by omega) ?_
    refine zi_iald O d_Edg_arrival_13 rfl rfl (by omega) (by decide) ?_
    refine zi_goto O 25 d_Edg_arrival_14 (by decide) ?_
    refine zi_iret O d_Edg_arrival_25 (Nat.le_of_ble_eq_true rfl) (Nat.le_of_ble_eq_true rfl) (Nat.le_of_ble_eq_true rfl) ?_
    have h0 : d % 2 = 0 := by
      rcases Nat.mod_two_eq_zero_or_one d with q | q
      · exact q
      · exact absurd c3 (by rw [show d % 2 ^ 1 = 1 from q]; decide)
    exact ⟨by rw [if_pos h0], rfl⟩
theorem m_Edg_dartLeaving (m : Nat) (PL LB FR TO AT : Nat → Int32) (q e : Nat) (hq : q < 80) (he : e < 40) (hA : AT q = nI e) : zPu y_Edg_dartLeaving b_Edg_dartLeaving 3 (some .int) ⟨0, 0, 0, 0⟩ [.ref 0, .int (nI q)] (edgH m PL LB FR TO AT) (.int (nI (if FR e = nI q then 2 * e else 2 * e + 1))) := by
  refine zMet_of (plainFor_of_name (by decide +kernel)) rfl (Nat.le_of_ble_eq_true rfl) (fun z1 z2 z3 z4 z5 z6 z7 z8 z9 z10 z11 z12 z13 z14 O hin => ?_)
  refine zi_ls (ls' := [some (.ref 0), some (.int (nI q)), none]) rfl ?_
  refine zi_aload_n O d_Edg_dartLeaving_0 rfl ?_
  refine zi_get O f_Edg_24 d_Edg_dartLeaving_1 rfl rfl ?_
  refine zi_iload_n O d_Edg_dartLeaving_4 rfl ?_
  refine zi_iald O d_Edg_dartLeaving_5 rfl rfl (by omega) (by decide) ?_
  rw [hA]
  refine zi_istore_n (ls' := _ :: _ :: some _ :: _) O d_Edg_dartLeaving_6 rfl (by decide) rfl ?_
  refine zi_aload_n O d_Edg_dartLeaving_7 rfl ?_
  refine zi_get O f_Edg_18 d_Edg_dartLeaving_8 rfl rfl ?_
  refine zi_iload_n O d_Edg_dartLeaving_11 rfl ?_
  refine zi_iald O d_Edg_dartLeaving_12 rfl rfl (by omega) (by decide) ?_
  refine zi_iload_n O d_Edg_dartLeaving_13 rfl ?_
  refine zi_icmp_ne O 23 d_Edg_dartLeaving_14 (by decide) (fun c14 => ?_) (fun c14 => ?_)
  · refine zi_iconstN O 2 d_Edg_dartLeaving_23 (by decide) ?_
    refine zi_iload_n O d_Edg_dartLeaving_24 rfl ?_
    first | refine zi_imulN O d_Edg_dartLeaving_25 ?_ | refine zi_imul O d_Edg_dartLeaving_25 ?_
    refine zi_iconstN O 1 d_Edg_dartLeaving_26 (by decide) ?_
    first | refine zi_iaddN O d_Edg_dartLeaving_27 ?_ | refine zi_iadd O d_Edg_dartLeaving_27 ?_
    refine zi_iret O d_Edg_dartLeaving_28 (Nat.le_of_ble_eq_true rfl) (Nat.le_of_ble_eq_true rfl) (Nat.le_of_ble_eq_true rfl) ?_
    exact ⟨by rw [if_neg c14], rfl⟩
  · refine zi_iconstN O 2 d_Edg_dartLeaving_17 (by decide) ?_
    refine zi_iload_n O d_Edg_dartLeaving_18 rfl ?_
    first | refine zi_imulN O d_Edg_dartLeaving_19 ?_ | refine zi_imul O d_Edg_dartLeaving_19 ?_
    refine zi_goto O 28 d_Edg_dartLeaving_20 (by decide) ?_
    refine zi_iret O d_Edg_dartLeaving_28 (Nat.le_of_ble_eq_true rfl) (Nat.le_of_ble_eq_true rfl) (Nat.le_of_ble_eq_true rfl) ?_
    exact ⟨by rw [if_pos c14], rfl⟩
theorem m_Edg_nextDart (m : Nat) (PL LB FR TO AT : Nat → Int32) (d q e : Nat) (hd : d < 80) (hq : q < 80) (he : e < 40) (hQ : (if d % 2 = 0 then TO (d / 2) else FR (d / 2)) = nI q) (hA : AT (4 * (q / 4) + (q + 3) % 4) = nI e) : zPu y_Edg_nextDart b_Edg_nextDart 4 (some .int) ⟨1, 0, 0, 24⟩ [.ref 0, .int (nI d)] (edgH m PL LB FR TO AT) (.int (nI (if FR e = nI (4 * (q / 4) + (q + 3) % 4) then 2 * e else 2 * e + 1))) := by
  refine zMet_of (plainFor_of_name (by decide +kernel)) rfl (Nat.le_of_ble_eq_true rfl) (fun z1 z2 z3 z4 z5 z6 z7 z8 z9 z10 z11 z12 z13 z14 O hin => ?_)
  refine zi_ls (ls' := [some (.ref 0), some (.int (nI d)), none, none]) rfl ?_
  refine zi_aload_n O d_Edg_nextDart_0 rfl ?_
  refine zi_iload_n O d_Edg_nextDart_1 rfl ?_
  refine zi_pureV O [0, 1, 2, 3, 4, 5] c_Edg_50 k_Edg_arrival (m_Edg_arrival m PL LB FR TO AT d hd) d_Edg_nextDart_2 ⟨(Nat.le_of_ble_eq_true rfl), (Nat.le_of_ble_eq_true rfl)⟩ ⟨(Nat.le_of_ble_eq_true rfl), (Nat.le_of_ble_eq_true rfl)⟩ rfl rfl (Nat.le_of_ble_eq_true rfl) rfl rfl rfl rfl rfl (Nat.le_of_ble_eq_true rfl) rfl ?_
  rw [hQ]
  refine zi_istore_n (ls' := _ :: _ :: some _ :: _) O d_Edg_nextDart_5 rfl (by decide) rfl ?_
  refine zi_iload_n O d_Edg_nextDart_6 rfl ?_
  refine zi_iconstN O 2 d_Edg_nextDart_7 (by decide) ?_
  first | refine zi_ishrN O 2 2 d_Edg_nextDart_8 (by decide) (by omega) ?_ | refine zi_ishrN O 1 1 d_Edg_nextDart_8 (by decide) (by omega) ?_
  refine zi_istore_n (ls' := _ :: _ :: _ :: some _ :: _) O d_Edg_nextDart_9 rfl (by decide) rfl ?_
  refine zi_aload_n O d_Edg_nextDart_10 rfl ?_
  refine zi_iconstN O 4 d_Edg_nextDart_11 (by decide) ?_
  refine zi_iload_n O d_Edg_nextDart_12 rfl ?_
  first | refine zi_imulN O d_Edg_nextDart_13 ?_ | refine zi_imul O d_Edg_nextDart_13 ?_
  refine zi_iload_n O d_Edg_nextDart_14 rfl ?_
  refine zi_iconstN O 3 d_Edg_nextDart_15 (by decide) ?_
  first | refine zi_iaddN O d_Edg_nextDart_16 ?_ | refine zi_iadd O d_Edg_nextDart_16 ?_
  refine zi_iconstN O 3 d_Edg_nextDart_17 (by decide) ?_
  first | refine zi_iandN O 1 1 d_Edg_nextDart_18 (by decide) (by omega) ?_ | refine zi_iandN O 3 2 d_Edg_nextDart_18 (by decide) (by omega) ?_ | refine zi_iand O d_Edg_nextDart_18 ?_
  first | refine zi_iaddN O d_Edg_nextDart_19 ?_ | refine zi_iadd O d_Edg_nextDart_19 ?_
  refine zi_pureV O [0, 1, 2, 3, 4, 5] c_Edg_54 k_Edg_dartLeaving (m_Edg_dartLeaving m PL LB FR TO AT (4 * (q / 4) + (q + 3) % 4) e (by omega) he hA) d_Edg_nextDart_20 ⟨(Nat.le_of_ble_eq_true rfl), (Nat.le_of_ble_eq_true rfl)⟩ ⟨(Nat.le_of_ble_eq_true rfl), (Nat.le_of_ble_eq_true rfl)⟩ rfl rfl (Nat.le_of_ble_eq_true rfl) rfl rfl rfl rfl rfl (Nat.le_of_ble_eq_true rfl) rfl ?_
  refine zi_iret O d_Edg_nextDart_23 (Nat.le_of_ble_eq_true rfl) (Nat.le_of_ble_eq_true rfl) (Nat.le_of_ble_eq_true rfl) ?_
  exact ⟨rfl, rfl⟩
theorem m_Edg_upperEnds (m : Nat) (PL LB FR TO AT : Nat → Int32) (e f t : Nat) (he : e < 40) (hf : FR e = nI f) (ht : TO e = nI t) (hf2 : f < 80) (ht2 : t < 80) : zPu y_Edg_upperEnds b_Edg_upperEnds 2 (some .int) ⟨0, 0, 0, 0⟩ [.ref 0, .int (nI e)] (edgH m PL LB FR TO AT) (.int (nI (f % 2 + t % 2))) := by
  refine zMet_of (plainFor_of_name (by decide +kernel)) rfl (Nat.le_of_ble_eq_true rfl) (fun z1 z2 z3 z4 z5 z6 z7 z8 z9 z10 z11 z12 z13 z14 O hin => ?_)
  refine zi_ls (ls' := [some (.ref 0), some (.int (nI e))]) rfl ?_
  refine zi_aload_n O d_Edg_upperEnds_0 rfl ?_
  refine zi_get O f_Edg_18 d_Edg_upperEnds_1 rfl rfl ?_
  refine zi_iload_n O d_Edg_upperEnds_4 rfl ?_
  refine zi_iald O d_Edg_upperEnds_5 rfl rfl (by omega) (by decide) ?_
  rw [hf]
  refine zi_iconstN O 1 d_Edg_upperEnds_6 (by decide) ?_
  first | refine zi_iandN O 1 1 d_Edg_upperEnds_7 (by decide) (by omega) ?_ | refine zi_iandN O 3 2 d_Edg_upperEnds_7 (by decide) (by omega) ?_ | refine zi_iand O d_Edg_upperEnds_7 ?_
  refine zi_aload_n O d_Edg_upperEnds_8 rfl ?_
  refine zi_get O f_Edg_21 d_Edg_upperEnds_9 rfl rfl ?_
  refine zi_iload_n O d_Edg_upperEnds_12 rfl ?_
  refine zi_iald O d_Edg_upperEnds_13 rfl rfl (by omega) (by decide) ?_
  rw [ht]
  refine zi_iconstN O 1 d_Edg_upperEnds_14 (by decide) ?_
  first | refine zi_iandN O 1 1 d_Edg_upperEnds_15 (by decide) (by omega) ?_ | refine zi_iandN O 3 2 d_Edg_upperEnds_15 (by decide) (by omega) ?_ | refine zi_iand O d_Edg_upperEnds_15 ?_
  first | refine zi_iaddN O d_Edg_upperEnds_16 ?_ | refine zi_iadd O d_Edg_upperEnds_16 ?_
  refine zi_iret O d_Edg_upperEnds_17 (Nat.le_of_ble_eq_true rfl) (Nat.le_of_ble_eq_true rfl) (Nat.le_of_ble_eq_true rfl) ?_
  exact ⟨rfl, rfl⟩
end
section
/-! Edges.find: the places by their labels, the labels two by two -/
abbrev erH (m : Nat) (PL LB FR TO AT : Nat → Int32) (n : Nat) (L S : Nat → Int32) : List zE := [zo 3 [.ref 1, .ref 2, .ref 3, .ref 4, .ref 5, .int (nI m)], za 80 PL, za 40 LB, za 40 FR, za 40 TO, za 80 AT, zo 2 [.ref 7, .ref 8, .int (nI n)], za 80 L, za 20 S]
def RowOK (n : Nat) (L : Nat → Int32) (lab : Nat → Nat) : Prop := n ≤ 20 ∧ ∀ q, q < 4 * n → L q = nI (lab q) ∧ 1 ≤ lab q ∧ lab q ≤ 9999
def SortP (k : Nat) (lab P : Nat → Nat) : Prop := (∀ j, j < k → P j < k) ∧ (∀ i j, i < k → j < k → P i = P j → i = j) ∧ (∀ j, j + 1 < k → lab (P j) ≤ lab (P (j + 1))) ∧ ∀ q, q < k → ∃ j, j < k ∧ P j = q
theorem sortP_ins {k t : Nat} {lab P : Nat → Nat} (h : SortP k lab P) (ht : t ≤ k) (hlo : 0 < t → lab (P (t - 1)) ≤ lab k) (hhi : ∀ j, t ≤ j → j < k → lab k < lab (P j)) : SortP (k + 1) lab (fun j => if j < t then P j else if j = t then k else P (j - 1)) := by
  obtain ⟨h1, h2, h3, h4⟩ := h
  refine ⟨fun j hj => ?_, fun i j hi hj hij => ?_, fun j hj => ?_, fun q hq => ?_⟩
  · dsimp only
    split
    · have := h1 j (by omega); omega
    · split
      · omega
      · have := h1 (j - 1) (by omega); omega
  · dsimp only at hij
    have a1 : ∀ j, j < k → P j ≠ k := fun j hj => by have := h1 j hj; omega
    split at hij
    · split at hij
      · exact h2 i j (by omega) (by omega) hij
      · split at hij
        · exact absurd hij (a1 i (by omega))
        · have := h2 i (j - 1) (by omega) (by omega) hij; omega
    · split at hij
      · split at hij
        · exact absurd hij.symm (a1 j (by omega))
        · split at hij
          · omega
          · exact absurd hij.symm (a1 (j - 1) (by omega))
      · split at hij
        · have := h2 (i - 1) j (by omega) (by omega) hij; omega
        · split at hij
          · exact absurd hij (a1 (i - 1) (by omega))
          · have := h2 (i - 1) (j - 1) (by omega) (by omega) hij; omega
  · dsimp only
    by_cases c1 : j + 1 < t
    · rw [if_pos (by omega), if_pos c1]; exact h3 j (by omega)
    · by_cases c2 : j + 1 = t
      · rw [if_pos (by omega), if_neg (by omega), if_pos c2]
        have := hlo (by omega)
        rw [show t - 1 = j by omega] at this
        exact this
      · by_cases c3 : j = t
        · rw [if_neg (by omega), if_pos c3, if_neg (by omega), if_neg (by omega)]
          exact Nat.le_of_lt (hhi (j + 1 - 1) (by omega) (by omega))
        · rw [if_neg (by omega), if_neg c3, if_neg (by omega), if_neg (by omega)]
          have := h3 (j - 1) (by omega)
          rw [show j - 1 + 1 = j + 1 - 1 by omega] at this
          exact this
  · by_cases c1 : q = k
    · refine ⟨t, by omega, ?_⟩
      dsimp only
      rw [if_neg (by omega), if_pos rfl, c1]
    · obtain ⟨j, a1, a2⟩ := h4 q (by omega)
      by_cases c2 : j < t
      · refine ⟨j, by omega, ?_⟩
        dsimp only
        rw [if_pos c2, a2]
      · refine ⟨j + 1, by omega, ?_⟩
        dsimp only
        rw [if_neg (by omega), if_neg (by omega)]
        exact a2
set_option maxHeartbeats 1000000 in
theorem m_Edg_sortPlaces (m : Nat) (PL LB FR TO AT : Nat → Int32) (n : Nat) (L S : Nat → Int32) (lab : Nat → Nat) (hR : RowOK n L lab) : zMet y_Edg_sortPlaces b_Edg_sortPlaces 5 none ⟨0, 0, 0, 0⟩ [.ref 0, .ref 6] (erH m PL LB FR TO AT n L S)
    (fun r h' => r = none ∧ ∃ (PL' : Nat → Int32) (P : Nat → Nat), h' = erH m PL' LB FR TO AT n L S ∧ (∀ j, j < 4 * n → PL' j = nI (P j)) ∧ SortP (4 * n) lab P) := by
  obtain ⟨hn, hL⟩ := hR
  refine zMet_of (plainFor_of_name (by decide +kernel)) rfl (Nat.le_of_ble_eq_true rfl) (fun z1 z2 z3 z4 z5 z6 z7 z8 z9 z10 z11 z12 z13 z14 O hin => ?_)
  refine zi_ls (ls' := [some (.ref 0), some (.ref 6), none, none, none]) rfl ?_
  refine zi_iconstN O 0 d_Edg_sortPlaces_0 (by decide) ?_
  refine zi_istore_n (ls' := _ :: _ :: some _ :: _) O d_Edg_sortPlaces_1 rfl (by decide) rfl ?_
  refine zi_loop (σ := Nat × (Nat → Int32)) (fun x => [some (.ref 0), some (.ref 6), some (.int (nI x.1)), none, none]) (fun x => erH m x.2 LB FR TO AT n L S)
    (fun x => x.1 ≤ 4 * n ∧ ∃ P : Nat → Nat, (∀ j, j < x.1 → x.2 j = nI (P j)) ∧ SortP x.1 lab P) (fun x => 4 * n - x.1) (0, PL) rfl rfl ⟨Nat.zero_le _, fun j => j, fun j hj => absurd hj (Nat.not_lt_zero j), fun j hj => absurd hj (Nat.not_lt_zero j), fun i j hi => absurd hi (Nat.not_lt_zero i), fun j hj => absurd hj (Nat.not_lt_zero _), fun j hj => absurd hj (Nat.not_lt_zero _)⟩ ?_
  rintro ⟨k, PK⟩ ⟨hk, P, hP, hS⟩ ih
  dsimp only at hk hP hS ih ⊢
  refine zi_iload_n O d_Edg_sortPlaces_2 rfl ?_
  refine zi_iconstN O 4 d_Edg_sortPlaces_3 (by decide) ?_
  refine zi_aload_n O d_Edg_sortPlaces_4 rfl ?_
  refine zi_get O f_Edg_38 d_Edg_sortPlaces_5 rfl rfl ?_
  first | refine zi_imulN O d_Edg_sortPlaces_8 ?_ | refine zi_imul O d_Edg_sortPlaces_8 ?_
  refine zi_icmp_geN O 81 d_Edg_sortPlaces_9 (by decide) (by omega) (by omega) (fun c9 => ?_) (fun c9 => ?_)
  · refine zi_vret O d_Edg_sortPlaces_81 (Nat.le_of_ble_eq_true rfl) (Nat.le_of_ble_eq_true rfl) (Nat.le_of_ble_eq_true rfl) ?_
    have : k = 4 * n := by omega
    subst this
    exact ⟨rfl, PK, P, rfl, hP, hS⟩
  · refine zi_aload_n O d_Edg_sortPlaces_12 rfl ?_
    refine zi_get O f_Edg_44 d_Edg_sortPlaces_13 rfl rfl ?_
    refine zi_iload_n O d_Edg_sortPlaces_16 rfl ?_
    refine zi_iald O d_Edg_sortPlaces_17 rfl rfl (by omega) (by decide) ?_
    rw [(hL k (by omega)).1]
    refine zi_istore_n (ls' := _ :: _ :: _ :: some _ :: _) O d_Edg_sortPlaces_18 rfl (by decide) rfl ?_
    refine zi_iload_n O d_Edg_sortPlaces_19 rfl ?_
    refine zi_istore (ls' := _ :: _ :: _ :: _ :: some _ :: _) O d_Edg_sortPlaces_20 rfl (by decide) rfl ?_
    refine zi_loop (σ := Nat × (Nat → Int32)) (fun x => [some (.ref 0), some (.ref 6), some (.int (nI k)), some (.int (nI (lab k))), some (.int (nI x.1))]) (fun x => erH m x.2 LB FR TO AT n L S)
      (fun x => x.1 ≤ k ∧ (∀ j, j < x.1 → x.2 j = nI (P j)) ∧ (∀ j, x.1 < j → j ≤ k → x.2 j = nI (P (j - 1))) ∧ ∀ j, x.1 ≤ j → j < k → lab k < lab (P j)) (fun x => x.1) (k, PK) rfl rfl ⟨Nat.le_refl _, hP, fun j h1 h2 => absurd h1 (by omega), fun j h1 h2 => absurd h1 (by omega)⟩ ?_
    rintro ⟨t, PT⟩ ⟨ht, hlo, hhi, hgt⟩ ih2
    dsimp only at ht hlo hhi hgt ih2 ⊢
    have hlk := (hL k (by omega)).2
    have fin : (0 < t → lab (P (t - 1)) ≤ lab k) → zG z1 z2 z3 z4 z5 z6 z7 z8 z9 z10 z11 z12 z13 z14 9 5 (fun r h' => r = none ∧ ∃ (PL' : Nat → Int32) (P : Nat → Nat), h' = erH m PL' LB FR TO AT n L S ∧ (∀ j, j < 4 * n → PL' j = nI (P j)) ∧ SortP (4 * n) lab P) 0 0 0 0 67 [some (.ref 0), some (.ref 6), some (.int (nI k)), some (.int (nI (lab k))), some (.int (nI t))] [] (erH m PT LB FR TO AT n L S) := by
      intro hst
      refine zi_aload_n O d_Edg_sortPlaces_67 rfl ?_
      refine zi_get O f_Edg_9 d_Edg_sortPlaces_68 rfl rfl ?_
      refine zi_iload O d_Edg_sortPlaces_71 rfl ?_
      refine zi_iload_n O d_Edg_sortPlaces_73 rfl ?_
      refine zi_iast O d_Edg_sortPlaces_74 rfl rfl (by omega) (by decide) (by dsimp only [List.set]) ?_
      refine zi_iincN (ls' := _ :: _ :: some _ :: _) O 1 d_Edg_sortPlaces_75 rfl (by decide) rfl (by decide) rfl ?_
      refine zi_goto O 2 d_Edg_sortPlaces_78 (by decide) ?_
      refine zi_no 3 (ls' := _ :: _ :: _ :: none :: _) rfl ?_
      refine zi_no 4 (ls' := _ :: _ :: _ :: _ :: none :: _) rfl ?_
      refine ih (k + 1, upd PT t (nI k)) ⟨by dsimp only; omega, fun j => if j < t then P j else if j = t then k else P (j - 1), ?_, sortP_ins hS ht hst hgt⟩ (by dsimp only; omega)
      intro j hj
      dsimp only at hj ⊢
      unfold upd
      by_cases c1 : j < t
      · rw [if_neg (by omega), if_pos c1]; exact hlo j c1
      · by_cases c2 : j = t
        · rw [if_pos c2, if_neg c1, if_pos c2]
        · rw [if_neg c2, if_neg c1, if_neg c2]; exact hhi j (by omega) (by omega)
    refine zi_iload O d_Edg_sortPlaces_22 rfl ?_
    refine zi_if_le O 67 d_Edg_sortPlaces_24 (by decide) (fun c24 => ?_) (fun c24 => ?_)
    · refine fin (fun h0 => absurd c24 (nI_nle h0 (by omega)))
    · have ht0 : 0 < t := Nat.pos_of_ne_zero (fun z => c24 (by rw [z]; decide))
      have hb := hS.1 (t - 1) (by omega)
      have hlb := (hL (P (t - 1)) (by omega)).2
      refine zi_aload_n O d_Edg_sortPlaces_27 rfl ?_
      refine zi_get O f_Edg_44 d_Edg_sortPlaces_28 rfl rfl ?_
      refine zi_aload_n O d_Edg_sortPlaces_31 rfl ?_
      refine zi_get O f_Edg_9 d_Edg_sortPlaces_32 rfl rfl ?_
      refine zi_iload O d_Edg_sortPlaces_35 rfl ?_
      refine zi_iconstN O 1 d_Edg_sortPlaces_37 (by decide) ?_
      first | refine zi_isubN O d_Edg_sortPlaces_38 (by omega) ?_ | refine zi_isub O d_Edg_sortPlaces_38 ?_
      refine zi_iald O d_Edg_sortPlaces_39 rfl rfl (by omega) (by decide) ?_
      rw [hlo (t - 1) (by omega)]
      refine zi_iald O d_Edg_sortPlaces_40 rfl rfl (by omega) (by decide) ?_
      rw [(hL (P (t - 1)) (by omega)).1]
      refine zi_iload_n O d_Edg_sortPlaces_41 rfl ?_
      refine zi_icmp_leN O 67 d_Edg_sortPlaces_42 (by decide) (by omega) (by omega) (fun c42 => ?_) (fun c42 => ?_)
      · exact fin (fun _ => c42)
      · refine zi_aload_n O d_Edg_sortPlaces_45 rfl ?_
        refine zi_get O f_Edg_9 d_Edg_sortPlaces_46 rfl rfl ?_
        refine zi_iload O d_Edg_sortPlaces_49 rfl ?_
        refine zi_aload_n O d_Edg_sortPlaces_51 rfl ?_
        refine zi_get O f_Edg_9 d_Edg_sortPlaces_52 rfl rfl ?_
        refine zi_iload O d_Edg_sortPlaces_55 rfl ?_
        refine zi_iconstN O 1 d_Edg_sortPlaces_57 (by decide) ?_
        first | refine zi_isubN O d_Edg_sortPlaces_58 (by omega) ?_ | refine zi_isub O d_Edg_sortPlaces_58 ?_
        refine zi_iald O d_Edg_sortPlaces_59 rfl rfl (by omega) (by decide) ?_
        rw [hlo (t - 1) (by omega)]
        refine zi_iast O d_Edg_sortPlaces_60 rfl rfl (by omega) (by decide) (by dsimp only [List.set]) ?_
        refine zi_iincD (ls' := _ :: _ :: _ :: _ :: some _ :: _) O d_Edg_sortPlaces_61 rfl (by decide) rfl (by decide) (by omega) rfl ?_
        refine zi_goto O 22 d_Edg_sortPlaces_64 (by decide) ?_
        refine ih2 (t - 1, upd PT t (nI (P (t - 1)))) ⟨by dsimp only; omega, fun j hj => ?_, fun j h1 h2 => ?_, fun j h1 h2 => ?_⟩ (by dsimp only; omega)
        · dsimp only at hj ⊢
          unfold upd
          rw [if_neg (by omega)]; exact hlo j (by omega)
        · dsimp only at h1 h2 ⊢
          unfold upd
          by_cases c1 : j = t
          · rw [if_pos c1, c1]
          · rw [if_neg c1]; exact hhi j (by omega) h2
        · dsimp only at h1 h2
          by_cases c1 : j = t - 1
          · rw [c1]; exact c42
          · exact hgt j (by omega) h2
end
section
/-! Edges.find: (1) and (2), and the edges -/
theorem zb_t {q : Prop} [Decidable q] (h : q) : zb q = 1 := if_pos h
theorem zb_f {q : Prop} [Decidable q] (h : ¬ q) : zb q = 0 := if_neg h
theorem zb_iff {q r : Prop} [Decidable q] [Decidable r] : zb q = zb r ↔ (q ↔ r) := by
  unfold zb
  by_cases h1 : q <;> by_cases h2 : r <;> simp [h1, h2] <;> decide
abbrev gi (S : Nat → Int32) (q : Nat) : Prop := q = 4 * (q / 4) ∨ q = 4 * (q / 4) + up S (q / 4)
def TwoP (k : Nat) (lab P : Nat → Nat) : Prop := ∀ i, i < k → lab (P (2 * i)) = lab (P (2 * i + 1)) ∧ (0 < i → ¬ lab (P (2 * i)) = lab (P (2 * i - 2)))
def bf (lab P : Nat → Nat) : Nat → Int32
  | 0 => nI 0
  | k + 1 => nI (lab (P (2 * k)))
theorem m_Edg_everyLabelStandsTwice (m : Nat) (PL LB FR TO AT : Nat → Int32) (n : Nat) (L S : Nat → Int32) (lab P : Nat → Nat) (hR : RowOK n L lab) (hP : ∀ j, j < 4 * n → PL j = nI (P j)) (hS : SortP (4 * n) lab P) : zMet y_Edg_everyLabelStandsTwice b_Edg_everyLabelStandsTwice 5 (some .boolean) ⟨0, 0, 0, 0⟩ [.ref 0, .ref 6] (erH m PL LB FR TO AT n L S)
    (fun r h' => h' = erH m PL LB FR TO AT n L S ∧ ((r = some (.int 1) ∧ TwoP (2 * n) lab P) ∨ (r = some (.int 0) ∧ ¬ TwoP (2 * n) lab P))) := by
  obtain ⟨hn, hL⟩ := hR
  refine zMet_of (plainFor_of_name (by decide +kernel)) rfl (Nat.le_of_ble_eq_true rfl) (fun z1 z2 z3 z4 z5 z6 z7 z8 z9 z10 z11 z12 z13 z14 O hin => ?_)
  refine zi_ls (ls' := [some (.ref 0), some (.ref 6), none, none, none]) rfl ?_
  refine zi_iconstN O 0 d_Edg_everyLabelStandsTwice_0 (by decide) ?_
  refine zi_istore_n (ls' := _ :: _ :: some _ :: _) O d_Edg_everyLabelStandsTwice_1 rfl (by decide) rfl ?_
  refine zi_iconstN O 0 d_Edg_everyLabelStandsTwice_2 (by decide) ?_
  refine zi_istore_n (ls' := _ :: _ :: _ :: some _ :: _) O d_Edg_everyLabelStandsTwice_3 rfl (by decide) rfl ?_
  refine zi_loop (σ := Nat) (fun k => [some (.ref 0), some (.ref 6), some (.int (bf lab P k)), some (.int (nI (2 * k))), none]) (fun _ => erH m PL LB FR TO AT n L S) (fun k => k ≤ 2 * n ∧ TwoP k lab P) (fun k => 2 * n - k) 0 rfl rfl ⟨Nat.zero_le _, fun i hi => absurd hi (Nat.not_lt_zero i)⟩ ?_
  intro k hk ih
  obtain ⟨hk, hT⟩ := hk
  refine zi_iload_n O d_Edg_everyLabelStandsTwice_4 rfl ?_
  refine zi_iconstN O 1 d_Edg_everyLabelStandsTwice_5 (by decide) ?_
  first | refine zi_iaddN O d_Edg_everyLabelStandsTwice_6 ?_ | refine zi_iadd O d_Edg_everyLabelStandsTwice_6 ?_
  refine zi_iconstN O 4 d_Edg_everyLabelStandsTwice_7 (by decide) ?_
  refine zi_aload_n O d_Edg_everyLabelStandsTwice_8 rfl ?_
  refine zi_get O f_Edg_38 d_Edg_everyLabelStandsTwice_9 rfl rfl ?_
  first | refine zi_imulN O d_Edg_everyLabelStandsTwice_12 ?_ | refine zi_imul O d_Edg_everyLabelStandsTwice_12 ?_
  refine zi_icmp_geN O 64 d_Edg_everyLabelStandsTwice_13 (by decide) (by omega) (by omega) (fun c13 => ?_) (fun c13 => ?_)
  · refine zi_iconstN O 1 d_Edg_everyLabelStandsTwice_64 (by decide) ?_
    refine zi_zret O d_Edg_everyLabelStandsTwice_65 rfl (Nat.le_of_ble_eq_true rfl) (Nat.le_of_ble_eq_true rfl) (Nat.le_of_ble_eq_true rfl) ?_
    have : k = 2 * n := by omega
    subst this
    exact ⟨rfl, Or.inl ⟨rfl, hT⟩⟩
  · have a1 := hS.1 (2 * k) (by omega)
    have a2 := hS.1 (2 * k + 1) (by omega)
    have b1 := (hL (P (2 * k)) (by omega)).2
    have b2 := (hL (P (2 * k + 1)) (by omega)).2
    refine zi_aload_n O d_Edg_everyLabelStandsTwice_16 rfl ?_
    refine zi_get O f_Edg_44 d_Edg_everyLabelStandsTwice_17 rfl rfl ?_
    refine zi_aload_n O d_Edg_everyLabelStandsTwice_20 rfl ?_
    refine zi_get O f_Edg_9 d_Edg_everyLabelStandsTwice_21 rfl rfl ?_
    refine zi_iload_n O d_Edg_everyLabelStandsTwice_24 rfl ?_
    refine zi_iald O d_Edg_everyLabelStandsTwice_25 rfl rfl (by omega) (by decide) ?_
    rw [hP (2 * k) (by omega)]
    refine zi_iald O d_Edg_everyLabelStandsTwice_26 rfl rfl (by omega) (by decide) ?_
    rw [(hL (P (2 * k)) (by omega)).1]
    refine zi_istore (ls' := _ :: _ :: _ :: _ :: some _ :: _) O d_Edg_everyLabelStandsTwice_27 rfl (by decide) rfl ?_
    refine zi_iload O d_Edg_everyLabelStandsTwice_29 rfl ?_
    refine zi_iload_n O d_Edg_everyLabelStandsTwice_31 rfl ?_
    refine zi_icmp_eq O 53 d_Edg_everyLabelStandsTwice_32 (by decide) (fun c32 => ?_) (fun c32 => ?_)
    · refine zi_iconstN O 0 d_Edg_everyLabelStandsTwice_53 (by decide) ?_
      refine zi_zret O d_Edg_everyLabelStandsTwice_54 rfl (Nat.le_of_ble_eq_true rfl) (Nat.le_of_ble_eq_true rfl) (Nat.le_of_ble_eq_true rfl) ?_
      refine ⟨rfl, Or.inr ⟨rfl, fun hz => ?_⟩⟩
      cases k with
      | zero => exact absurd c32 (by show ¬ nI _ = nI 0; rw [nI_eq (by omega) (by omega)]; omega)
      | succ k =>
        have b3 := (hL (P (2 * k)) (by have := hS.1 (2 * k) (by omega); omega)).2
        have c := (nI_eq (by omega) (by omega)).mp c32
        exact (hz (k + 1) (by omega)).2 (by omega) c
    · refine zi_iload O d_Edg_everyLabelStandsTwice_35 rfl ?_
      refine zi_aload_n O d_Edg_everyLabelStandsTwice_37 rfl ?_
      refine zi_get O f_Edg_44 d_Edg_everyLabelStandsTwice_38 rfl rfl ?_
      refine zi_aload_n O d_Edg_everyLabelStandsTwice_41 rfl ?_
      refine zi_get O f_Edg_9 d_Edg_everyLabelStandsTwice_42 rfl rfl ?_
      refine zi_iload_n O d_Edg_everyLabelStandsTwice_45 rfl ?_
      refine zi_iconstN O 1 d_Edg_everyLabelStandsTwice_46 (by decide) ?_
      first | refine zi_iaddN O d_Edg_everyLabelStandsTwice_47 ?_ | refine zi_iadd O d_Edg_everyLabelStandsTwice_47 ?_
      refine zi_iald O d_Edg_everyLabelStandsTwice_48 rfl rfl (by omega) (by decide) ?_
      rw [hP (2 * k + 1) (by omega)]
      refine zi_iald O d_Edg_everyLabelStandsTwice_49 rfl rfl (by omega) (by decide) ?_
      rw [(hL (P (2 * k + 1)) (by omega)).1]
      refine zi_icmp_eqN O 55 d_Edg_everyLabelStandsTwice_50 (by decide) (by omega) (by omega) (fun c50 => ?_) (fun c50 => ?_)
      · refine zi_iload O d_Edg_everyLabelStandsTwice_55 rfl ?_
        refine zi_istore_n (ls' := _ :: _ :: some _ :: _) O d_Edg_everyLabelStandsTwice_57 rfl (by decide) rfl ?_
        refine zi_iincN (ls' := _ :: _ :: _ :: some _ :: _) O 2 d_Edg_everyLabelStandsTwice_58 rfl (by decide) rfl (by decide) rfl ?_
        refine zi_goto O 4 d_Edg_everyLabelStandsTwice_61 (by decide) ?_
        refine zi_no 4 (ls' := _ :: _ :: _ :: _ :: none :: _) rfl ?_
        refine ih (k + 1) ⟨by omega, fun i hi => ?_⟩ (by omega)
        by_cases c1 : i = k
        · subst c1
          refine ⟨c50, fun h0 hz => c32 ?_⟩
          cases i with
          | zero => omega
          | succ i => show nI _ = nI _; rw [hz]; rfl
        · exact hT i (by omega)
      · refine zi_iconstN O 0 d_Edg_everyLabelStandsTwice_53 (by decide) ?_
        refine zi_zret O d_Edg_everyLabelStandsTwice_54 rfl (Nat.le_of_ble_eq_true rfl) (Nat.le_of_ble_eq_true rfl) (Nat.le_of_ble_eq_true rfl) ?_
        exact ⟨rfl, Or.inr ⟨rfl, fun hz => c50 (hz k (by omega)).1⟩⟩
def KindP (k : Nat) (S : Nat → Int32) (P : Nat → Nat) : Prop := ∀ e, e < k → ¬ (gi S (P (2 * e)) ↔ gi S (P (2 * e + 1)))
def PairP (k : Nat) (S : Nat → Int32) (lab P : Nat → Nat) (LB FR TO AT : Nat → Int32) : Prop := ∀ e, e < k → FR e = nI (if gi S (P (2 * e)) then P (2 * e + 1) else P (2 * e)) ∧ TO e = nI (if gi S (P (2 * e)) then P (2 * e) else P (2 * e + 1)) ∧ LB e = nI (lab (P (2 * e))) ∧ AT (P (2 * e)) = nI e ∧ AT (P (2 * e + 1)) = nI e
set_option maxHeartbeats 1000000 in
theorem m_Edg_pairPlaces (m : Nat) (PL LB FR TO AT : Nat → Int32) (n : Nat) (L S : Nat → Int32) (lab P : Nat → Nat) (hR : RowOK n L lab) (hP : ∀ j, j < 4 * n → PL j = nI (P j)) (hS : SortP (4 * n) lab P) : zMet y_Edg_pairPlaces b_Edg_pairPlaces 6 (some .boolean) ⟨2, 0, 0, 50⟩ [.ref 0, .ref 6] (erH m PL LB FR TO AT n L S)
    (fun r h' => ∃ (LB' FR' TO' AT' : Nat → Int32), h' = erH (2 * n) PL LB' FR' TO' AT' n L S ∧ ((r = some (.int 1) ∧ KindP (2 * n) S P ∧ PairP (2 * n) S lab P LB' FR' TO' AT') ∨ (r = some (.int 0) ∧ ¬ KindP (2 * n) S P))) := by
  obtain ⟨hn, hL⟩ := hR
  refine zMet_of (plainFor_of_name (by decide +kernel)) rfl (Nat.le_of_ble_eq_true rfl) (fun z1 z2 z3 z4 z5 z6 z7 z8 z9 z10 z11 z12 z13 z14 O hin => ?_)
  refine zi_ls (ls' := [some (.ref 0), some (.ref 6), none, none, none, none]) rfl ?_
  refine zi_aload_n O d_Edg_pairPlaces_0 rfl ?_
  refine zi_iconstN O 2 d_Edg_pairPlaces_1 (by decide) ?_
  refine zi_aload_n O d_Edg_pairPlaces_2 rfl ?_
  refine zi_get O f_Edg_38 d_Edg_pairPlaces_3 rfl rfl ?_
  first | refine zi_imulN O d_Edg_pairPlaces_6 ?_ | refine zi_imul O d_Edg_pairPlaces_6 ?_
  refine zi_put O f_Edg_45 d_Edg_pairPlaces_7 rfl (Nat.le_of_ble_eq_true rfl) (fun _ => rfl) (fun _ => rfl) (by dsimp only [List.set]) ?_
  refine zi_iconstN O 0 d_Edg_pairPlaces_10 (by decide) ?_
  refine zi_istore_n (ls' := _ :: _ :: some _ :: _) O d_Edg_pairPlaces_11 rfl (by decide) rfl ?_
  refine zi_loop (σ := Nat × (Nat → Int32) × (Nat → Int32) × (Nat → Int32) × (Nat → Int32)) (fun x => [some (.ref 0), some (.ref 6), some (.int (nI x.1)), none, none, none]) (fun x => erH (2 * n) PL x.2.1 x.2.2.1 x.2.2.2.1 x.2.2.2.2 n L S) (fun x => x.1 ≤ 2 * n ∧ KindP x.1 S P ∧ PairP x.1 S lab P x.2.1 x.2.2.1 x.2.2.2.1 x.2.2.2.2) (fun x => 2 * n - x.1) (0, LB, FR, TO, AT) rfl rfl ⟨Nat.zero_le _, fun i hi => absurd hi (Nat.not_lt_zero i), fun i hi => absurd hi (Nat.not_lt_zero i)⟩ ?_
  rintro ⟨k, LK, FK, TK, AK⟩ ⟨hk, hK, hE⟩ ih
  dsimp only at hk hK hE ih ⊢
  refine zi_iload_n O d_Edg_pairPlaces_12 rfl ?_
  refine zi_aload_n O d_Edg_pairPlaces_13 rfl ?_
  refine zi_get O f_Edg_45 d_Edg_pairPlaces_14 rfl rfl ?_
  refine zi_icmp_geN O 128 d_Edg_pairPlaces_17 (by decide) (by omega) (by omega) (fun c17 => ?_) (fun c17 => ?_)
  · refine zi_iconstN O 1 d_Edg_pairPlaces_128 (by decide) ?_
    refine zi_zret O d_Edg_pairPlaces_129 rfl (Nat.le_of_ble_eq_true rfl) (Nat.le_of_ble_eq_true rfl) (Nat.le_of_ble_eq_true rfl) ?_
    have : k = 2 * n := by omega
    subst this
    exact ⟨LK, FK, TK, AK, rfl, Or.inl ⟨rfl, hK, hE⟩⟩
  · have a1 := hS.1 (2 * k) (by omega)
    have a2 := hS.1 (2 * k + 1) (by omega)
    refine zi_aload_n O d_Edg_pairPlaces_20 rfl ?_
    refine zi_get O f_Edg_9 d_Edg_pairPlaces_21 rfl rfl ?_
    refine zi_iconstN O 2 d_Edg_pairPlaces_24 (by decide) ?_
    refine zi_iload_n O d_Edg_pairPlaces_25 rfl ?_
    first | refine zi_imulN O d_Edg_pairPlaces_26 ?_ | refine zi_imul O d_Edg_pairPlaces_26 ?_
    refine zi_iald O d_Edg_pairPlaces_27 rfl rfl (by omega) (by decide) ?_
    rw [hP (2 * k) (by omega)]
    refine zi_istore_n (ls' := _ :: _ :: _ :: some _ :: _) O d_Edg_pairPlaces_28 rfl (by decide) rfl ?_
    refine zi_aload_n O d_Edg_pairPlaces_29 rfl ?_
    refine zi_get O f_Edg_9 d_Edg_pairPlaces_30 rfl rfl ?_
    refine zi_iconstN O 2 d_Edg_pairPlaces_33 (by decide) ?_
    refine zi_iload_n O d_Edg_pairPlaces_34 rfl ?_
    first | refine zi_imulN O d_Edg_pairPlaces_35 ?_ | refine zi_imul O d_Edg_pairPlaces_35 ?_
    refine zi_iconstN O 1 d_Edg_pairPlaces_36 (by decide) ?_
    first | refine zi_iaddN O d_Edg_pairPlaces_37 ?_ | refine zi_iadd O d_Edg_pairPlaces_37 ?_
    refine zi_iald O d_Edg_pairPlaces_38 rfl rfl (by omega) (by decide) ?_
    rw [hP (2 * k + 1) (by omega)]
    refine zi_istore (ls' := _ :: _ :: _ :: _ :: some _ :: _) O d_Edg_pairPlaces_39 rfl (by decide) rfl ?_
    refine zi_aload_n O d_Edg_pairPlaces_41 rfl ?_
    refine zi_iload_n O d_Edg_pairPlaces_42 rfl ?_
    refine zi_pureV O [6, 7, 8] c_Edg_46 k_Row_strandGoesIn (m_Row_strandGoesIn n L S (P (2 * k)) (by omega)) d_Edg_pairPlaces_43 ⟨(Nat.le_of_ble_eq_true rfl), (Nat.le_of_ble_eq_true rfl)⟩ ⟨(Nat.le_of_ble_eq_true rfl), (Nat.le_of_ble_eq_true rfl)⟩ rfl rfl (Nat.le_of_ble_eq_true rfl) rfl rfl rfl rfl rfl (Nat.le_of_ble_eq_true rfl) rfl ?_
    refine zi_istore (ls' := _ :: _ :: _ :: _ :: _ :: some _ :: _) O d_Edg_pairPlaces_46 rfl (by decide) rfl ?_
    refine zi_iload O d_Edg_pairPlaces_48 rfl ?_
    refine zi_aload_n O d_Edg_pairPlaces_50 rfl ?_
    refine zi_iload O d_Edg_pairPlaces_51 rfl ?_
    refine zi_pureV O [6, 7, 8] c_Edg_46 k_Row_strandGoesIn (m_Row_strandGoesIn n L S (P (2 * k + 1)) (by omega)) d_Edg_pairPlaces_53 ⟨(Nat.le_of_ble_eq_true rfl), (Nat.le_of_ble_eq_true rfl)⟩ ⟨(Nat.le_of_ble_eq_true rfl), (Nat.le_of_ble_eq_true rfl)⟩ rfl rfl (Nat.le_of_ble_eq_true rfl) rfl rfl rfl rfl rfl (Nat.le_of_ble_eq_true rfl) rfl ?_
    have fin : ∀ (x y : Nat), x = (if gi S (P (2 * k)) then P (2 * k + 1) else P (2 * k)) → y = (if gi S (P (2 * k)) then P (2 * k) else P (2 * k + 1)) → ¬ (gi S (P (2 * k)) ↔ gi S (P (2 * k + 1))) → KindP (k + 1) S P ∧ PairP (k + 1) S lab P (upd LK k (nI (lab (P (2 * k))))) (upd FK k (nI x)) (upd TK k (nI y)) (upd (upd AK (P (2 * k)) (nI k)) (P (2 * k + 1)) (nI k)) := by
      intro x y hx hy hg
      refine ⟨fun e he => ?_, fun e he => ?_⟩
      · by_cases c1 : e = k
        · rw [c1]; exact hg
        · exact hK e (by omega)
      · by_cases c1 : e = k
        · rw [c1]
          unfold upd
          refine ⟨by rw [if_pos rfl, hx], by rw [if_pos rfl, hy], by rw [if_pos rfl], ?_, by rw [if_pos rfl]⟩
          split
          · rfl
          · rw [if_pos rfl]
        · obtain ⟨e1, e2, e3, e4, e5⟩ := hE e (by omega)
          have d1 : ∀ i j, i < 2 * k → j < 4 * n → 2 * k ≤ j → ¬ P i = P j := fun i j q1 q2 q3 z => by
            have := hS.2.1 i j (by omega) q2 z
            omega
          unfold upd
          refine ⟨by rw [if_neg c1, e1], by rw [if_neg c1, e2], by rw [if_neg c1, e3], ?_, ?_⟩
          · rw [if_neg (d1 _ _ (by omega) (by omega) (by omega)), if_neg (d1 _ _ (by omega) (by omega) (by omega)), e4]
          · rw [if_neg (d1 _ _ (by omega) (by omega) (by omega)), if_neg (d1 _ _ (by omega) (by omega) (by omega)), e5]
    refine zi_icmp_ne O 61 d_Edg_pairPlaces_56 (by decide) (fun c56 => ?_) (fun c56 => ?_)
    · have hg : ¬ (gi S (P (2 * k)) ↔ gi S (P (2 * k + 1))) := fun z => c56 (zb_iff.mpr z)
      by_cases hA : gi S (P (2 * k))
      · rw [zb_t hA]
        refine zi_aload_n O d_Edg_pairPlaces_61 rfl ?_
        refine zi_get O f_Edg_18 d_Edg_pairPlaces_62 rfl rfl ?_
        refine zi_iload_n O d_Edg_pairPlaces_65 rfl ?_
        refine zi_iload O d_Edg_pairPlaces_66 rfl ?_
        refine zi_if_eq O 76 d_Edg_pairPlaces_68 (by decide) (fun c68 => ?_) (fun c68 => ?_)
        · exact absurd c68 (by decide)
        · refine zi_iload O d_Edg_pairPlaces_71 rfl ?_
          refine zi_goto O 77 d_Edg_pairPlaces_73 (by decide) ?_
          refine zi_iast O d_Edg_pairPlaces_77 rfl rfl (by omega) (by decide) (by dsimp only [List.set]) ?_
          refine zi_aload_n O d_Edg_pairPlaces_78 rfl ?_
          refine zi_get O f_Edg_21 d_Edg_pairPlaces_79 rfl rfl ?_
          refine zi_iload_n O d_Edg_pairPlaces_82 rfl ?_
          refine zi_iload O d_Edg_pairPlaces_83 rfl ?_
          refine zi_if_eq O 92 d_Edg_pairPlaces_85 (by decide) (fun c85 => ?_) (fun c85 => ?_)
          · exact absurd c85 (by decide)
          · refine zi_iload_n O d_Edg_pairPlaces_88 rfl ?_
            refine zi_goto O 94 d_Edg_pairPlaces_89 (by decide) ?_
            refine zi_iast O d_Edg_pairPlaces_94 rfl rfl (by omega) (by decide) (by dsimp only [List.set]) ?_
            refine zi_aload_n O d_Edg_pairPlaces_95 rfl ?_
            refine zi_get O f_Edg_15 d_Edg_pairPlaces_96 rfl rfl ?_
            refine zi_iload_n O d_Edg_pairPlaces_99 rfl ?_
            refine zi_aload_n O d_Edg_pairPlaces_100 rfl ?_
            refine zi_get O f_Edg_44 d_Edg_pairPlaces_101 rfl rfl ?_
            refine zi_iload_n O d_Edg_pairPlaces_104 rfl ?_
            refine zi_iald O d_Edg_pairPlaces_105 rfl rfl (by omega) (by decide) ?_
            rw [(hL (P (2 * k)) (by omega)).1]
            refine zi_iast O d_Edg_pairPlaces_106 rfl rfl (by omega) (by decide) (by dsimp only [List.set]) ?_
            refine zi_aload_n O d_Edg_pairPlaces_107 rfl ?_
            refine zi_get O f_Edg_24 d_Edg_pairPlaces_108 rfl rfl ?_
            refine zi_iload_n O d_Edg_pairPlaces_111 rfl ?_
            refine zi_iload_n O d_Edg_pairPlaces_112 rfl ?_
            refine zi_iast O d_Edg_pairPlaces_113 rfl rfl (by omega) (by decide) (by dsimp only [List.set]) ?_
            refine zi_aload_n O d_Edg_pairPlaces_114 rfl ?_
            refine zi_get O f_Edg_24 d_Edg_pairPlaces_115 rfl rfl ?_
            refine zi_iload O d_Edg_pairPlaces_118 rfl ?_
            refine zi_iload_n O d_Edg_pairPlaces_120 rfl ?_
            refine zi_iast O d_Edg_pairPlaces_121 rfl rfl (by omega) (by decide) (by dsimp only [List.set]) ?_
            refine zi_iincN (ls' := _ :: _ :: some _ :: _) O 1 d_Edg_pairPlaces_122 rfl (by decide) rfl (by decide) rfl ?_
            refine zi_goto O 12 d_Edg_pairPlaces_125 (by decide) ?_
            refine zi_no 3 (ls' := _ :: _ :: _ :: none :: _) rfl ?_
            refine zi_no 4 (ls' := _ :: _ :: _ :: _ :: none :: _) rfl ?_
            refine zi_no 5 (ls' := _ :: _ :: _ :: _ :: _ :: none :: _) rfl ?_
            obtain ⟨q1, q2⟩ := fin (P (2 * k + 1)) (P (2 * k)) (by rw [if_pos hA]) (by rw [if_pos hA]) hg
            exact ih (k + 1, _, _, _, _) ⟨by dsimp only; omega, q1, q2⟩ (by dsimp only; omega)
      · rw [zb_f hA]
        refine zi_aload_n O d_Edg_pairPlaces_61 rfl ?_
        refine zi_get O f_Edg_18 d_Edg_pairPlaces_62 rfl rfl ?_
        refine zi_iload_n O d_Edg_pairPlaces_65 rfl ?_
        refine zi_iload O d_Edg_pairPlaces_66 rfl ?_
        refine zi_if_eq O 76 d_Edg_pairPlaces_68 (by decide) (fun c68 => ?_) (fun c68 => ?_)
        · refine zi_iload_n O d_Edg_pairPlaces_76 rfl ?_
          refine zi_iast O d_Edg_pairPlaces_77 rfl rfl (by omega) (by decide) (by dsimp only [List.set]) ?_
          refine zi_aload_n O d_Edg_pairPlaces_78 rfl ?_
          refine zi_get O f_Edg_21 d_Edg_pairPlaces_79 rfl rfl ?_
          refine zi_iload_n O d_Edg_pairPlaces_82 rfl ?_
          refine zi_iload O d_Edg_pairPlaces_83 rfl ?_
          refine zi_if_eq O 92 d_Edg_pairPlaces_85 (by decide) (fun c85 => ?_) (fun c85 => ?_)
          · refine zi_iload O d_Edg_pairPlaces_92 rfl ?_
            refine zi_iast O d_Edg_pairPlaces_94 rfl rfl (by omega) (by decide) (by dsimp only [List.set]) ?_
            refine zi_aload_n O d_Edg_pairPlaces_95 rfl ?_
            refine zi_get O f_Edg_15 d_Edg_pairPlaces_96 rfl rfl ?_
            refine zi_iload_n O d_Edg_pairPlaces_99 rfl ?_
            refine zi_aload_n O d_Edg_pairPlaces_100 rfl ?_
            refine zi_get O f_Edg_44 d_Edg_pairPlaces_101 rfl rfl ?_
            refine zi_iload_n O d_Edg_pairPlaces_104 rfl ?_
            refine zi_iald O d_Edg_pairPlaces_105 rfl rfl (by omega) (by decide) ?_
            rw [(hL (P (2 * k)) (by omega)).1]
            refine zi_iast O d_Edg_pairPlaces_106 rfl rfl (by omega) (by decide) (by dsimp only [List.set]) ?_
            refine zi_aload_n O d_Edg_pairPlaces_107 rfl ?_
            refine zi_get O f_Edg_24 d_Edg_pairPlaces_108 rfl rfl ?_
            refine zi_iload_n O d_Edg_pairPlaces_111 rfl ?_
            refine zi_iload_n O d_Edg_pairPlaces_112 rfl ?_
            refine zi_iast O d_Edg_pairPlaces_113 rfl rfl (by omega) (by decide) (by dsimp only [List.set]) ?_
            refine zi_aload_n O d_Edg_pairPlaces_114 rfl ?_
            refine zi_get O f_Edg_24 d_Edg_pairPlaces_115 rfl rfl ?_
            refine zi_iload O d_Edg_pairPlaces_118 rfl ?_
            refine zi_iload_n O d_Edg_pairPlaces_120 rfl ?_
            refine zi_iast O d_Edg_pairPlaces_121 rfl rfl (by omega) (by decide) (by dsimp only [List.set]) ?_
            refine zi_iincN (ls' := _ :: _ :: some _ :: _) O 1 d_Edg_pairPlaces_122 rfl (by decide) rfl (by decide) rfl ?_
            refine zi_goto O 12 d_Edg_pairPlaces_125 (by decide) ?_
            refine zi_no 3 (ls' := _ :: _ :: _ :: none :: _) rfl ?_
            refine zi_no 4 (ls' := _ :: _ :: _ :: _ :: none :: _) rfl ?_
            refine zi_no 5 (ls' := _ :: _ :: _ :: _ :: _ :: none :: _) rfl ?_
            obtain ⟨q1, q2⟩ := fin (P (2 * k)) (P (2 * k + 1)) (by rw [if_neg hA]) (by rw [if_neg hA]) hg
            exact ih (k + 1, _, _, _, _) ⟨by dsimp only; omega, q1, q2⟩ (by dsimp only; omega)
          · exact absurd rfl c85
        · exact absurd rfl c68
    · refine zi_iconstN O 0 d_Edg_pairPlaces_59 (by decide) ?_
      refine zi_zret O d_Edg_pairPlaces_60 rfl (Nat.le_of_ble_eq_true rfl) (Nat.le_of_ble_eq_true rfl) (Nat.le_of_ble_eq_true rfl) ?_
      exact ⟨LK, FK, TK, AK, rfl, Or.inr ⟨rfl, fun z => z k (by omega) (zb_iff.mp c56)⟩⟩
end
section
/-! what a row of crossings is: (1), (2), its edges; Edges.find -/
def C1 (n : Nat) (lab : Nat → Nat) : Prop := ∀ q, q < 4 * n → ∃ r, r < 4 * n ∧ r ≠ q ∧ lab r = lab q ∧ ∀ t, t < 4 * n → lab t = lab q → t = q ∨ t = r
def C2 (n : Nat) (lab : Nat → Nat) (S : Nat → Int32) : Prop := ∀ q r, q < 4 * n → r < 4 * n → q ≠ r → lab q = lab r → ¬ (gi S q ↔ gi S r)
def Ed (n : Nat) (lab : Nat → Nat) (S : Nat → Int32) (el fr to_ at_ : Nat → Nat) : Prop :=
  (∀ e, e < 2 * n → fr e < 4 * n ∧ to_ e < 4 * n ∧ lab (fr e) = el e ∧ lab (to_ e) = el e ∧ ¬ gi S (fr e) ∧ gi S (to_ e)) ∧ (∀ i j, i < j → j < 2 * n → el i < el j) ∧ ∀ q, q < 4 * n → at_ q < 2 * n ∧ (q = fr (at_ q) ∨ q = to_ (at_ q))
theorem sortP_mono {k : Nat} {lab P : Nat → Nat} (h : SortP k lab P) : ∀ d i, i + d < k → lab (P i) ≤ lab (P (i + d)) := by
  intro d
  induction d with
  | zero => intro i _; exact Nat.le_refl _
  | succ d ih => intro i hi; exact Nat.le_trans (ih i (by omega)) (h.2.2.1 (i + d) (by omega))
theorem sortP_le {k : Nat} {lab P : Nat → Nat} (h : SortP k lab P) {i j : Nat} (hij : i ≤ j) (hj : j < k) : lab (P i) ≤ lab (P j) := by
  have := sortP_mono h (j - i) i (by omega)
  rw [show i + (j - i) = j by omega] at this
  exact this
theorem twoP_lt {n : Nat} {lab P : Nat → Nat} (hS : SortP (4 * n) lab P) (hT : TwoP (2 * n) lab P) {i j : Nat} (hij : i < j) (hj : j < 2 * n) : lab (P (2 * i)) < lab (P (2 * j)) := by
  have h1 := (hT j hj).2 (by omega)
  have h2 := sortP_le hS (i := 2 * j - 2) (j := 2 * j) (by omega) (by omega)
  have h3 := sortP_le hS (i := 2 * i) (j := 2 * j - 2) (by omega) (by omega)
  omega
theorem twoP_iff {n : Nat} {lab P : Nat → Nat} (hS : SortP (4 * n) lab P) : TwoP (2 * n) lab P ↔ C1 n lab := by
  constructor
  · intro hT q hq
    obtain ⟨j, hj, rfl⟩ := hS.2.2.2 q hq
    obtain ⟨i, hi⟩ : ∃ i, j = 2 * i ∨ j = 2 * i + 1 := ⟨j / 2, by omega⟩
    have hin : i < 2 * n := by omega
    have hl : lab (P j) = lab (P (2 * i)) := by
      rcases hi with rfl | rfl
      · rfl
      · exact (hT i hin).1.symm
    refine ⟨P (2 * i + (if j = 2 * i then 1 else 0)), hS.1 _ (by split <;> omega), fun z => ?_, ?_, fun t ht hlt => ?_⟩
    · have := hS.2.1 _ _ (by split <;> omega) hj z
      split at this <;> omega
    · rw [hl]
      split
      · exact (hT i hin).1.symm
      · rfl
    · obtain ⟨j2, hj2, rfl⟩ := hS.2.2.2 t ht
      obtain ⟨i2, hi2⟩ : ∃ i2, j2 = 2 * i2 ∨ j2 = 2 * i2 + 1 := ⟨j2 / 2, by omega⟩
      have hl2 : lab (P j2) = lab (P (2 * i2)) := by
        rcases hi2 with rfl | rfl
        · rfl
        · exact (hT i2 (by omega)).1.symm
      have : i2 = i := by
        rcases Nat.lt_trichotomy i2 i with c | c | c
        · have := twoP_lt hS hT c hin; omega
        · exact c
        · have := twoP_lt hS hT c (by omega); omega
      subst this
      by_cases c : j2 = j
      · exact Or.inl (by rw [c])
      · refine Or.inr ?_
        congr 1
        split <;> omega
  · intro hC
    have key : ∀ i, i ≤ 2 * n → TwoP i lab P := by
      intro i
      induction i with
      | zero => intro _ e he; exact absurd he (Nat.not_lt_zero e)
      | succ i ih =>
        intro hi
        have hT := ih (by omega)
        have hne : 0 < i → ¬ lab (P (2 * i)) = lab (P (2 * i - 2)) := by
          intro h0 hz
          have h1 := (hT (i - 1) (by omega)).1
          rw [show 2 * (i - 1) = 2 * i - 2 by omega, show 2 * i - 2 + 1 = 2 * i - 1 by omega] at h1
          obtain ⟨r, r1, r2, r3, r4⟩ := hC (P (2 * i)) (hS.1 _ (by omega))
          have a1 := r4 (P (2 * i - 2)) (hS.1 _ (by omega)) hz.symm
          have a2 := r4 (P (2 * i - 1)) (hS.1 _ (by omega)) (by omega)
          have b1 : P (2 * i - 2) ≠ P (2 * i) := fun z => by have := hS.2.1 _ _ (by omega) (by omega) z; omega
          have b2 : P (2 * i - 1) ≠ P (2 * i) := fun z => by have := hS.2.1 _ _ (by omega) (by omega) z; omega
          have b3 : P (2 * i - 2) ≠ P (2 * i - 1) := fun z => by have := hS.2.1 _ _ (by omega) (by omega) z; omega
          rcases a1 with a1 | a1
          · exact b1 a1
          · rcases a2 with a2 | a2
            · exact b2 a2
            · exact b3 (a1.trans a2.symm)
        have heq : lab (P (2 * i)) = lab (P (2 * i + 1)) := by
          obtain ⟨r, r1, r2, r3, r4⟩ := hC (P (2 * i)) (hS.1 _ (by omega))
          obtain ⟨j, hj, rfl⟩ := hS.2.2.2 r r1
          have hji : j ≠ 2 * i := fun z => r2 (by rw [z])
          by_cases c : 2 * i < j
          · have a1 := sortP_le hS (i := 2 * i) (j := 2 * i + 1) (by omega) (by omega)
            have a2 := sortP_le hS (i := 2 * i + 1) (j := j) (by omega) hj
            omega
          · exfalso
            have h0 : 0 < i := by omega
            have h1 := (hT (i - 1) (by omega)).1
            rw [show 2 * (i - 1) = 2 * i - 2 by omega, show 2 * i - 2 + 1 = 2 * i - 1 by omega] at h1
            have a1 := sortP_le hS (i := j) (j := 2 * i - 1) (by omega) (by omega)
            have a2 := sortP_le hS (i := 2 * i - 1) (j := 2 * i) (by omega) (by omega)
            exact hne h0 (by omega)
        intro e he
        by_cases c : e = i
        · rw [c]; exact ⟨heq, hne⟩
        · exact hT e (by omega)
    exact key (2 * n) (Nat.le_refl _)
theorem kindP_iff {n : Nat} {lab P : Nat → Nat} {S : Nat → Int32} (hS : SortP (4 * n) lab P) (hT : TwoP (2 * n) lab P) : KindP (2 * n) S P ↔ C2 n lab S := by
  constructor
  · intro hK q r hq hr hne hl
    obtain ⟨j, hj, rfl⟩ := hS.2.2.2 q hq
    obtain ⟨j2, hj2, rfl⟩ := hS.2.2.2 r hr
    have hjj : j ≠ j2 := fun z => hne (by rw [z])
    obtain ⟨i, hi⟩ : ∃ i, j = 2 * i ∨ j = 2 * i + 1 := ⟨j / 2, by omega⟩
    obtain ⟨i2, hi2⟩ : ∃ i2, j2 = 2 * i2 ∨ j2 = 2 * i2 + 1 := ⟨j2 / 2, by omega⟩
    have hl1 : lab (P j) = lab (P (2 * i)) := by
      rcases hi with rfl | rfl
      · rfl
      · exact (hT i (by omega)).1.symm
    have hl2 : lab (P j2) = lab (P (2 * i2)) := by
      rcases hi2 with rfl | rfl
      · rfl
      · exact (hT i2 (by omega)).1.symm
    have : i2 = i := by
      rcases Nat.lt_trichotomy i2 i with c | c | c
      · have := twoP_lt hS hT c (by omega); omega
      · exact c
      · have := twoP_lt hS hT c (by omega); omega
    subst this
    have hk := hK i2 (by omega)
    rcases hi with rfl | rfl <;> rcases hi2 with rfl | rfl
    · exact absurd rfl hjj
    · exact hk
    · exact fun z => hk z.symm
    · exact absurd rfl hjj
  · intro hC e he
    exact hC _ _ (hS.1 _ (by omega)) (hS.1 _ (by omega)) (fun z => by have := hS.2.1 _ _ (by omega) (by omega) z; omega) (hT e he).1
theorem pairP_ed {n : Nat} {lab P : Nat → Nat} {S LB FR TO AT : Nat → Int32} (hn : n ≤ 20) (hS : SortP (4 * n) lab P) (hT : TwoP (2 * n) lab P) (hK : KindP (2 * n) S P) (hE : PairP (2 * n) S lab P LB FR TO AT) :
    ∃ el fr to_ at_ : Nat → Nat, Ed n lab S el fr to_ at_ ∧ (∀ e, e < 2 * n → LB e = nI (el e) ∧ FR e = nI (fr e) ∧ TO e = nI (to_ e)) ∧ ∀ q, q < 4 * n → AT q = nI (at_ q) := by
  have hat : ∀ q, q < 4 * n → ∃ e, e < 2 * n ∧ (q = P (2 * e) ∨ q = P (2 * e + 1)) := by
    intro q hq
    obtain ⟨j, hj, rfl⟩ := hS.2.2.2 q hq
    refine ⟨j / 2, by omega, ?_⟩
    by_cases c : j % 2 = 0
    · left; congr 1; omega
    · right; congr 1; omega
  obtain ⟨at_, hat⟩ : ∃ at_ : Nat → Nat, ∀ q, q < 4 * n → at_ q < 2 * n ∧ (q = P (2 * at_ q) ∨ q = P (2 * at_ q + 1)) := by
    refine ⟨fun q => if h : q < 4 * n then Classical.choose (hat q h) else 0, fun q hq => ?_⟩
    dsimp only
    rw [dif_pos hq]
    exact Classical.choose_spec (hat q hq)
  refine ⟨fun e => lab (P (2 * e)), fun e => if gi S (P (2 * e)) then P (2 * e + 1) else P (2 * e), fun e => if gi S (P (2 * e)) then P (2 * e) else P (2 * e + 1), at_, ⟨fun e he => ?_, fun i j hij hj => twoP_lt hS hT hij hj, fun q hq => ?_⟩, fun e he => ?_, fun q hq => ?_⟩
  · dsimp only
    have hk := hK e he
    have h1 := hS.1 (2 * e) (by omega)
    have h2 := hS.1 (2 * e + 1) (by omega)
    have h3 := (hT e he).1
    by_cases c : gi S (P (2 * e))
    · rw [if_pos c, if_pos c]
      exact ⟨h2, h1, h3.symm, rfl, fun z => hk ⟨fun _ => z, fun _ => c⟩, c⟩
    · rw [if_neg c, if_neg c]
      refine ⟨h1, h2, rfl, h3.symm, c, ?_⟩
      by_cases c2 : gi S (P (2 * e + 1))
      · exact c2
      · exact absurd ⟨fun z => absurd z c, fun z => absurd z c2⟩ hk
  · obtain ⟨a1, a2⟩ := hat q hq
    refine ⟨a1, ?_⟩
    dsimp only
    by_cases c : gi S (P (2 * at_ q))
    · rw [if_pos c, if_pos c]; exact a2.symm
    · rw [if_neg c, if_neg c]; exact a2
  · obtain ⟨e1, e2, e3, -, -⟩ := hE e he
    exact ⟨e3, e1, e2⟩
  · obtain ⟨a1, a2⟩ := hat q hq
    obtain ⟨-, -, -, e4, e5⟩ := hE (at_ q) a1
    rcases a2 with a2 | a2
    · rw [← a2] at e4; exact e4
    · rw [← a2] at e5; exact e5
/-- what the edges' arrays hold -/
def EdA (n : Nat) (el fr to_ at_ : Nat → Nat) (LB FR TO AT : Nat → Int32) : Prop := (∀ e, e < 2 * n → LB e = nI (el e) ∧ FR e = nI (fr e) ∧ TO e = nI (to_ e)) ∧ ∀ q, q < 4 * n → AT q = nI (at_ q)
theorem m_Edg_find (m : Nat) (PL LB FR TO AT : Nat → Int32) (n : Nat) (L S : Nat → Int32) (lab : Nat → Nat) (hR : RowOK n L lab) : zMet y_Edg_find b_Edg_find 2 (some .int) ⟨3, 0, 0, 80⟩ [.ref 0, .ref 6] (erH m PL LB FR TO AT n L S)
    (fun r h' => ∃ (m' : Nat) (PL' LB' FR' TO' AT' : Nat → Int32), h' = erH m' PL' LB' FR' TO' AT' n L S ∧ ((r = some (.int (nI 1)) ∧ ¬ C1 n lab) ∨ (r = some (.int (nI 2)) ∧ C1 n lab ∧ ¬ C2 n lab S) ∨ (r = some (.int (nI 0)) ∧ C1 n lab ∧ C2 n lab S ∧ m' = 2 * n ∧ ∃ el fr to_ at_ : Nat → Nat, Ed n lab S el fr to_ at_ ∧ EdA n el fr to_ at_ LB' FR' TO' AT'))) := by
  refine zMet_of (plainFor_of_name (by decide +kernel)) rfl (Nat.le_of_ble_eq_true rfl) (fun z1 z2 z3 z4 z5 z6 z7 z8 z9 z10 z11 z12 z13 z14 O hin => ?_)
  refine zi_ls (ls' := [some (.ref 0), some (.ref 6)]) rfl ?_
  refine zi_aload_n O d_Edg_find_0 rfl ?_
  refine zi_aload_n O d_Edg_find_1 rfl ?_
  refine zi_callV O [0, 1, 2, 3, 4, 5, 6, 7, 8] c_Edg_27 k_Edg_sortPlaces (m_Edg_sortPlaces m PL LB FR TO AT n L S lab hR) d_Edg_find_2 ⟨(Nat.le_of_ble_eq_true rfl), (Nat.le_of_ble_eq_true rfl)⟩ ⟨(Nat.le_of_ble_eq_true rfl), (Nat.le_of_ble_eq_true rfl)⟩ rfl rfl (Nat.le_of_ble_eq_true rfl) rfl rfl rfl rfl rfl (Nat.le_of_ble_eq_true rfl) rfl (fun r h' hq hl => ?_)
  obtain ⟨rfl, PL', P, rfl, hP, hS⟩ := hq
  refine zi_st (st' := []) rfl (zi_h (h' := erH m PL' LB FR TO AT n L S) rfl ?_)
  refine zi_aload_n O d_Edg_find_5 rfl ?_
  refine zi_aload_n O d_Edg_find_6 rfl ?_
  refine zi_callV O [0, 1, 2, 3, 4, 5, 6, 7, 8] c_Edg_31 k_Edg_everyLabelStandsTwice (m_Edg_everyLabelStandsTwice m PL' LB FR TO AT n L S lab P hR hP hS) d_Edg_find_7 ⟨(Nat.le_of_ble_eq_true rfl), (Nat.le_of_ble_eq_true rfl)⟩ ⟨(Nat.le_of_ble_eq_true rfl), (Nat.le_of_ble_eq_true rfl)⟩ rfl rfl (Nat.le_of_ble_eq_true rfl) rfl rfl rfl rfl rfl (Nat.le_of_ble_eq_true rfl) rfl (fun r h' hq hl => ?_)
  obtain ⟨rfl, hq⟩ := hq
  refine zi_h (h' := erH m PL' LB FR TO AT n L S) rfl ?_
  rcases hq with ⟨rfl, hT⟩ | ⟨rfl, hT⟩
  · refine zi_st (st' := [.int 1]) rfl ?_
    refine zi_if_ne O 15 d_Edg_find_10 (by decide) (fun c10 => ?_) (fun c10 => ?_)
    · refine zi_aload_n O d_Edg_find_15 rfl ?_
      refine zi_aload_n O d_Edg_find_16 rfl ?_
      refine zi_callV O [0, 1, 2, 3, 4, 5, 6, 7, 8] c_Edg_35 k_Edg_pairPlaces (m_Edg_pairPlaces m PL' LB FR TO AT n L S lab P hR hP hS) d_Edg_find_17 ⟨(Nat.le_of_ble_eq_true rfl), (Nat.le_of_ble_eq_true rfl)⟩ ⟨(Nat.le_of_ble_eq_true rfl), (Nat.le_of_ble_eq_true rfl)⟩ rfl rfl (Nat.le_of_ble_eq_true rfl) rfl rfl rfl rfl rfl (Nat.le_of_ble_eq_true rfl) rfl (fun r h' hq hl => ?_)
      obtain ⟨LB', FR', TO', AT', rfl, hq⟩ := hq
      refine zi_h (h' := erH (2 * n) PL' LB' FR' TO' AT' n L S) rfl ?_
      rcases hq with ⟨rfl, hK, hE⟩ | ⟨rfl, hK⟩
      · refine zi_st (st' := [.int 1]) rfl ?_
        refine zi_if_eq O 27 d_Edg_find_20 (by decide) (fun c20 => ?_) (fun c20 => ?_)
        · exact absurd c20 (by decide)
        · refine zi_iconstN O 0 d_Edg_find_23 (by decide) ?_
          refine zi_goto O 28 d_Edg_find_24 (by decide) ?_
          refine zi_iret O d_Edg_find_28 (Nat.le_of_ble_eq_true rfl) (Nat.le_of_ble_eq_true rfl) (Nat.le_of_ble_eq_true rfl) ?_
          obtain ⟨el, fr, to_, at_, q1, q2, q3⟩ := pairP_ed hR.1 hS hT hK hE
          exact ⟨2 * n, PL', LB', FR', TO', AT', rfl, Or.inr (Or.inr ⟨rfl, (twoP_iff hS).mp hT, (kindP_iff hS hT).mp hK, rfl, el, fr, to_, at_, q1, q2, q3⟩)⟩
      · refine zi_st (st' := [.int 0]) rfl ?_
        refine zi_if_eq O 27 d_Edg_find_20 (by decide) (fun c20 => ?_) (fun c20 => ?_)
        · refine zi_iconstN O 2 d_Edg_find_27 (by decide) ?_
          refine zi_iret O d_Edg_find_28 (Nat.le_of_ble_eq_true rfl) (Nat.le_of_ble_eq_true rfl) (Nat.le_of_ble_eq_true rfl) ?_
          exact ⟨2 * n, PL', LB', FR', TO', AT', rfl, Or.inr (Or.inl ⟨rfl, (twoP_iff hS).mp hT, fun z => hK ((kindP_iff hS hT).mpr z)⟩)⟩
        · exact absurd rfl c20
    · exact absurd c10 (by decide)
  · refine zi_st (st' := [.int 0]) rfl ?_
    refine zi_if_ne O 15 d_Edg_find_10 (by decide) (fun c10 => ?_) (fun c10 => ?_)
    · exact absurd rfl c10
    · refine zi_iconstN O 1 d_Edg_find_13 (by decide) ?_
      refine zi_iret O d_Edg_find_14 (Nat.le_of_ble_eq_true rfl) (Nat.le_of_ble_eq_true rfl) (Nat.le_of_ble_eq_true rfl) ?_
      exact ⟨m, PL', LB, FR, TO, AT, rfl, Or.inl ⟨rfl, fun z => hT ((twoP_iff hS).mpr z)⟩⟩
end
section
/-! rounds of a permutation: pure -/
def it (nx : Nat → Nat) : Nat → Nat → Nat
  | 0, d => d
  | i + 1, d => nx (it nx i d)
def Perm (N : Nat) (nx : Nat → Nat) : Prop := (∀ d, d < N → nx d < N) ∧ ∀ a b, a < N → b < N → nx a = nx b → a = b
theorem it_lt {N : Nat} {nx : Nat → Nat} (h : Perm N nx) {d : Nat} (hd : d < N) : ∀ i, it nx i d < N
  | 0 => hd
  | i + 1 => h.1 _ (it_lt h hd i)
/-- how many of the first N are set -/
def cs (f : Nat → Int32) : Nat → Nat
  | 0 => 0
  | N + 1 => cs f N + (if f N < 0 then 0 else 1)
theorem cs_le (f : Nat → Int32) : ∀ N, cs f N ≤ N
  | 0 => Nat.le_refl _
  | N + 1 => by have := cs_le f N; rw [cs]; split <;> omega
theorem cs_lt {f : Nat → Int32} : ∀ {N d : Nat}, d < N → f d < 0 → cs f N < N
  | 0, _, h, _ => absurd h (Nat.not_lt_zero _)
  | N + 1, d, h, hf => by
    rw [cs]
    by_cases c : d = N
    · subst c; rw [if_pos hf]; have := cs_le f d; omega
    · have := cs_lt (N := N) (d := d) (by omega) hf
      split <;> omega
theorem cs_out {f : Nat → Int32} {d : Nat} {v : Int32} : ∀ {N : Nat}, N ≤ d → cs (upd f d v) N = cs f N
  | 0, _ => rfl
  | N + 1, h => by
    rw [cs, cs, cs_out (N := N) (by omega)]
    have : upd f d v N = f N := pk_un (by omega)
    rw [this]
theorem cs_upd {f : Nat → Int32} {d : Nat} {v : Int32} (hf : f d < 0) (hv : ¬ v < 0) : ∀ {N : Nat}, d < N → cs (upd f d v) N = cs f N + 1
  | 0, h => absurd h (Nat.not_lt_zero _)
  | N + 1, h => by
    rw [cs, cs]
    by_cases c : d = N
    · subst c
      rw [cs_out (Nat.le_refl _), pk_us, if_neg hv, if_pos hf]
    · have h1 : upd f d v N = f N := pk_un (by omega)
      rw [cs_upd hf hv (N := N) (by omega), h1]
      omega
def wk (nx : Nat → Nat) (v : Int32) : Nat → (Nat → Int32) → Nat → (Nat → Int32)
  | 0, f, _ => f
  | t + 1, f, d => if f d < 0 then wk nx v t (upd f d v) (nx d) else f
/-- from d on, as long as nothing is set, v is set -/
def Wk (nx : Nat → Nat) (v : Int32) (N : Nat) (f : Nat → Int32) (d : Nat) : Nat → Int32 := wk nx v (N - cs f N + 1) f d
theorem Wk_step {nx : Nat → Nat} {v : Int32} {N : Nat} {f : Nat → Int32} {d : Nat} (hd : d < N) (hf : f d < 0) (hv : ¬ v < 0) : Wk nx v N f d = Wk nx v N (upd f d v) (nx d) := by
  unfold Wk
  rw [wk, if_pos hf, cs_upd hf hv hd]
  have := cs_lt hd hf
  rw [show N - cs f N = N - (cs f N + 1) + 1 by omega]
theorem Wk_stop {nx : Nat → Nat} {v : Int32} {N : Nat} {f : Nat → Int32} {d : Nat} (hf : ¬ f d < 0) : Wk nx v N f d = f := by
  unfold Wk
  rw [wk, if_neg hf]
/-- the rounds, numbered by their least members -/
def FF (nx : Nat → Nat) (N : Nat) : Nat → (Nat → Int32) × Nat
  | 0 => (fun _ => -1, 0)
  | d + 1 => if (FF nx N d).1 d < 0 then (Wk nx (nI (FF nx N d).2) N (FF nx N d).1 d, (FF nx N d).2 + 1) else FF nx N d
def gs (nx : Nat → Nat) (v : Int32) (f : Nat → Int32) (d : Nat) : Nat → (Nat → Int32)
  | 0 => f
  | i + 1 => upd (gs nx v f d i) (it nx i d) v
theorem gs_in {nx : Nat → Nat} {v : Int32} {f : Nat → Int32} {d : Nat} : ∀ {i a : Nat}, a < i → gs nx v f d i (it nx a d) = v
  | 0, _, h => absurd h (Nat.not_lt_zero _)
  | i + 1, a, h => by
    rw [gs]
    unfold upd
    split
    · rfl
    · rename_i c
      have : a ≠ i := fun z => c (by rw [z])
      exact gs_in (i := i) (by omega)
theorem gs_out {nx : Nat → Nat} {v : Int32} {f : Nat → Int32} {d x : Nat} : ∀ {i : Nat}, (∀ a, a < i → it nx a d ≠ x) → gs nx v f d i x = f x
  | 0, _ => rfl
  | i + 1, h => by
    rw [gs]
    unfold upd
    rw [if_neg (fun z => h i (by omega) z.symm)]
    exact gs_out (fun a ha => h a (by omega))
/-- a round is closed at its begin -/
def Cl (N : Nat) (nx : Nat → Nat) (f : Nat → Int32) : Prop := ∀ x, x < N → f (nx x) = f x
theorem cl_it {N : Nat} {nx : Nat → Nat} {f : Nat → Int32} (hp : Perm N nx) (h : Cl N nx f) {d : Nat} (hd : d < N) : ∀ i, f (it nx i d) = f d
  | 0 => rfl
  | i + 1 => by rw [it, h _ (it_lt hp hd i)]; exact cl_it hp h hd i
theorem walk_all {N : Nat} {nx : Nat → Nat} {f : Nat → Int32} {v : Int32} (hp : Perm N nx) {d : Nat} (hd : d < N) (hf : f d < 0) (hv : ¬ v < 0) :
    ∃ t, 0 < t ∧ (∀ a, a < t → gs nx v f d a (it nx a d) < 0) ∧ ¬ gs nx v f d t (it nx t d) < 0 ∧ cs (gs nx v f d t) N = cs f N + t ∧ Wk nx v N f d = gs nx v f d t := by
  have key : ∀ (k i : Nat), N - cs (gs nx v f d i) N ≤ k → (∀ a, a < i → gs nx v f d a (it nx a d) < 0) → cs (gs nx v f d i) N = cs f N + i → Wk nx v N f d = Wk nx v N (gs nx v f d i) (it nx i d) →
      ∃ t, i ≤ t ∧ (∀ a, a < t → gs nx v f d a (it nx a d) < 0) ∧ ¬ gs nx v f d t (it nx t d) < 0 ∧ cs (gs nx v f d t) N = cs f N + t ∧ Wk nx v N f d = gs nx v f d t := by
    intro k
    induction k with
    | zero =>
      intro i hk ha hc hw
      by_cases c : gs nx v f d i (it nx i d) < 0
      · have := cs_lt (it_lt hp hd i) c; omega
      · exact ⟨i, Nat.le_refl _, ha, c, hc, by rw [hw, Wk_stop c]⟩
    | succ k ih =>
      intro i hk ha hc hw
      by_cases c : gs nx v f d i (it nx i d) < 0
      · have h1 := cs_lt (it_lt hp hd i) c
        have h2 := cs_upd (v := v) c hv (it_lt hp hd i)
        obtain ⟨t, t1, t2⟩ := ih (i + 1) (by rw [gs, h2]; omega) (fun a h => by
          by_cases c2 : a = i
          · rw [c2]; exact c
          · exact ha a (by omega)) (by rw [gs, h2]; omega) (by rw [hw, Wk_step (it_lt hp hd i) c hv]; rfl)
        exact ⟨t, by omega, t2⟩
      · exact ⟨i, Nat.le_refl _, ha, c, hc, by rw [hw, Wk_stop c]⟩
  obtain ⟨t, t1, t2, t3, t4⟩ := key N 0 (by omega) (fun a h => absurd h (Nat.not_lt_zero a)) rfl rfl
  refine ⟨t, ?_, t2, t3, t4⟩
  rcases Nat.eq_zero_or_pos t with z | z
  · rw [z] at t3; exact absurd hf t3
  · exact z
/-- the walk from a free member: a whole round, no member twice -/
theorem walk_round {N : Nat} {nx : Nat → Nat} {f : Nat → Int32} {v : Int32} (hp : Perm N nx) (hcl : Cl N nx f) {d : Nat} (hd : d < N) (hf : f d < 0) (hv : ¬ v < 0) :
    ∃ t, 0 < t ∧ it nx t d = d ∧ (∀ a b, a < b → b < t → it nx a d ≠ it nx b d) ∧ (∀ a, a < t → gs nx v f d a (it nx a d) < 0) ∧ ¬ gs nx v f d t (it nx t d) < 0 ∧ cs (gs nx v f d t) N = cs f N + t ∧ Wk nx v N f d = gs nx v f d t ∧ Cl N nx (gs nx v f d t) := by
  obtain ⟨t, t0, t1, t2, t3, t4⟩ := walk_all hp hd hf hv
  have hdis : ∀ a b, a < b → b < t → it nx a d ≠ it nx b d := by
    intro a b hab hb hz
    have := t1 b hb
    rw [← hz, gs_in hab] at this
    exact hv this
  have hback : it nx t d = d := by
    have h1 : ∃ a, a < t ∧ it nx a d = it nx t d := by
      apply Classical.byContradiction
      intro hno
      apply t2
      rw [gs_out (fun a ha z => hno ⟨a, ha, z⟩), cl_it hp hcl hd]
      exact hf
    obtain ⟨a, ha, hz⟩ := h1
    cases a with
    | zero => exact hz.symm
    | succ a =>
      exfalso
      cases t with
      | zero => omega
      | succ t =>
        have := hp.2 _ _ (it_lt hp hd a) (it_lt hp hd t) hz
        exact hdis a t (by omega) (by omega) this
  refine ⟨t, t0, hback, hdis, t1, t2, t3, t4, fun x hx => ?_⟩
  by_cases c : ∃ a, a < t ∧ it nx a d = x
  · obtain ⟨a, ha, rfl⟩ := c
    rw [gs_in ha]
    by_cases c2 : a + 1 = t
    · rw [show nx (it nx a d) = it nx (a + 1) d from rfl, c2, hback]
      exact gs_in (a := 0) t0
    · exact gs_in (a := a + 1) (by omega)
  · rw [gs_out (fun a ha z => c ⟨a, ha, z⟩), gs_out (fun a ha z => ?_), hcl x hx]
    cases a with
    | zero =>
      have hz : nx x = nx (it nx (t - 1) d) := by
        rw [show nx (it nx (t - 1) d) = it nx (t - 1 + 1) d from rfl, show t - 1 + 1 = t by omega, hback]; exact z.symm
      exact c ⟨t - 1, by omega, (hp.2 _ _ hx (it_lt hp hd _) hz).symm⟩
    | succ a => exact c ⟨a, by omega, hp.2 _ _ (it_lt hp hd a) hx z⟩
theorem ff_cl {N : Nat} {nx : Nat → Nat} (hN : N < 2 ^ 31) (hp : Perm N nx) : ∀ d, d ≤ N → Cl N nx (FF nx N d).1 ∧ (FF nx N d).2 ≤ cs (FF nx N d).1 N ∧ (∀ x, x < d → ¬ (FF nx N d).1 x < 0) ∧ ∀ x, (FF nx N d).1 x = -1 ∨ ∃ k, k < (FF nx N d).2 ∧ (FF nx N d).1 x = nI k
  | 0, _ => ⟨fun _ _ => rfl, Nat.zero_le _, fun x h => absurd h (Nat.not_lt_zero x), fun x => Or.inl rfl⟩
  | d + 1, h => by
    obtain ⟨h1, h2, h3, h4⟩ := ff_cl hN hp d (by omega)
    rw [FF]
    by_cases c : (FF nx N d).1 d < 0
    · rw [if_pos c]
      have hle := cs_le (FF nx N d).1 N
      obtain ⟨t, t0, t1, t2, t3, t4, t5, t6, t7⟩ := walk_round (v := nI (FF nx N d).2) hp h1 (by omega) c (nI_pos (by omega))
      dsimp only
      rw [t6]
      refine ⟨t7, by omega, fun x hx => ?_, fun x => ?_⟩
      · by_cases c2 : ∃ a, a < t ∧ it nx a d = x
        · obtain ⟨a, ha, rfl⟩ := c2
          rw [gs_in ha]; exact nI_pos (by omega)
        · rw [gs_out (fun a ha z => c2 ⟨a, ha, z⟩)]
          exact h3 x (by
            have : x ≠ d := fun z => c2 ⟨0, t0, z.symm⟩
            omega)
      · by_cases c2 : ∃ a, a < t ∧ it nx a d = x
        · obtain ⟨a, ha, rfl⟩ := c2
          right; exact ⟨(FF nx N d).2, by omega, gs_in ha⟩
        · rw [gs_out (fun a ha z => c2 ⟨a, ha, z⟩)]
          rcases h4 x with q | ⟨k, q1, q2⟩
          · exact Or.inl q
          · exact Or.inr ⟨k, by omega, q2⟩
    · rw [if_neg c]
      refine ⟨h1, h2, fun x hx => ?_, h4⟩
      by_cases c2 : x = d
      · rw [c2]; exact c
      · exact h3 x (by omega)
theorem cs_gs {N : Nat} {nx : Nat → Nat} {f : Nat → Int32} {v : Int32} (hp : Perm N nx) {d t : Nat} (hd : d < N) (hv : ¬ v < 0) (h : ∀ a, a < t → gs nx v f d a (it nx a d) < 0) : ∀ i, i ≤ t → cs (gs nx v f d i) N = cs f N + i
  | 0, _ => rfl
  | i + 1, hi => by
    rw [gs, cs_upd (h i (by omega)) hv (it_lt hp hd i), cs_gs hp hd hv h i (by omega)]
    omega
end
section
/-! Arrays.fill; the darts' permutation; Faces -/
theorem m_Arr_fill (N : Nat) (f : Nat → Int32) (v : Int32) (hN : N ≤ 1000) : zMet y_Arr_fill b_Arr_fill 4 none ⟨0, 0, 0, 0⟩ [.ref 0, .int v] [za N f] (fun r h' => r = none ∧ h' = [za N (fun _ => v)]) := by
  refine zMet_of (by decide +kernel) rfl (Nat.le_of_ble_eq_true rfl) (fun z1 z2 z3 z4 z5 z6 z7 z8 z9 z10 z11 z12 z13 z14 O hin => ?_)
  refine zi_ls (ls' := [some (.ref 0), some (.int v), none, none]) rfl ?_
  refine zi_iconstN O 0 d_Arr_fill_0 (by decide) ?_
  refine zi_istore_n (ls' := _ :: _ :: some _ :: _) O d_Arr_fill_1 rfl (by decide) rfl ?_
  refine zi_aload_n O d_Arr_fill_2 rfl ?_
  refine zi_alen O d_Arr_fill_3 rfl ?_
  refine zi_istore_n (ls' := _ :: _ :: _ :: some _ :: _) O d_Arr_fill_4 rfl (by decide) rfl ?_
  refine zi_for (fun i => [some (.ref 0), some (.int v), some (.int (nI i)), some (.int (nI N))]) (fun i => [za N (fun j => if j < i then v else f j)]) 0 N (by omega) rfl (by simp) (fun i _ hi ih => ?_) ?_
  · refine zi_iload_n O d_Arr_fill_5 rfl ?_
    refine zi_iload_n O d_Arr_fill_6 rfl ?_
    refine zi_icmp_geN O 20 d_Arr_fill_7 (by decide) (by omega) (by omega) (fun c7 => ?_) (fun c7 => ?_)
    · omega
    · refine zi_aload_n O d_Arr_fill_10 rfl ?_
      refine zi_iload_n O d_Arr_fill_11 rfl ?_
      refine zi_iload_n O d_Arr_fill_12 rfl ?_
      refine zi_iast O d_Arr_fill_13 rfl rfl (by omega) (by omega) (by dsimp only [List.set]) ?_
      refine zi_iincN (ls' := _ :: _ :: some _ :: _) O 1 d_Arr_fill_14 rfl (by decide) rfl (by decide) rfl ?_
      refine zi_goto O 5 d_Arr_fill_17 (by decide) ?_
      have e : upd (fun j => if j < i then v else f j) i v = fun j => if j < i + 1 then v else f j := by
        funext j
        unfold upd
        by_cases c : j = i
        · rw [if_pos c, if_pos (by omega)]
        · rw [if_neg c]
          dsimp only
          by_cases c2 : j < i
          · rw [if_pos c2, if_pos (by omega)]
          · rw [if_neg c2, if_neg (by omega)]
      rw [e]
      exact ih
  · refine zi_iload_n O d_Arr_fill_5 rfl ?_
    refine zi_iload_n O d_Arr_fill_6 rfl ?_
    refine zi_icmp_geN O 20 d_Arr_fill_7 (by decide) (by omega) (by omega) (fun c7 => ?_) (fun c7 => ?_)
    · refine zi_arr 0 (fun _ => v) rfl (fun j hj => by rw [if_pos hj]) (by dsimp only [List.set]) ?_
      refine zi_vret O d_Arr_fill_20 (Nat.le_of_ble_eq_true rfl) (Nat.le_of_ble_eq_true rfl) (Nat.le_of_ble_eq_true rfl) ?_
      exact ⟨rfl, rfl⟩
    · omega
theorem rot_inj : ∀ a, a < 80 → ∀ b, b < 80 → 4 * (a / 4) + (a + 3) % 4 = 4 * (b / 4) + (b + 3) % 4 → a = b := by
  intro a _ b _ h
  omega
/-- where a dart arrives; the next dart of its face -/
def ar (fr to_ : Nat → Nat) (d : Nat) : Nat := if d % 2 = 0 then to_ (d / 2) else fr (d / 2)
def rot (q : Nat) : Nat := 4 * (q / 4) + (q + 3) % 4
def lv (fr at_ : Nat → Nat) (q : Nat) : Nat := if fr (at_ q) = q then 2 * at_ q else 2 * at_ q + 1
def nxD (fr to_ at_ : Nat → Nat) (d : Nat) : Nat := lv fr at_ (rot (ar fr to_ d))
theorem ed_inj {n : Nat} {lab : Nat → Nat} {S : Nat → Int32} {el fr to_ at_ : Nat → Nat} (h : Ed n lab S el fr to_ at_) {i j : Nat} (hi : i < 2 * n) (hj : j < 2 * n) (he : el i = el j) : i = j := by
  rcases Nat.lt_trichotomy i j with c | c | c
  · have := h.2.1 i j c hj; omega
  · exact c
  · have := h.2.1 j i c hi; omega
theorem ed_lab {n : Nat} {lab : Nat → Nat} {S : Nat → Int32} {el fr to_ at_ : Nat → Nat} (h : Ed n lab S el fr to_ at_) {q : Nat} (hq : q < 4 * n) : el (at_ q) = lab q := by
  obtain ⟨a1, a2⟩ := h.2.2 q hq
  obtain ⟨b1, b2, b3, b4, b5, b6⟩ := h.1 _ a1
  rcases a2 with a2 | a2
  · exact (congrArg lab a2).trans b3 |>.symm
  · exact (congrArg lab a2).trans b4 |>.symm
theorem ed_at_fr {n : Nat} {lab : Nat → Nat} {S : Nat → Int32} {el fr to_ at_ : Nat → Nat} (h : Ed n lab S el fr to_ at_) {e : Nat} (he : e < 2 * n) : at_ (fr e) = e := by
  obtain ⟨b1, b2, b3, b4, b5, b6⟩ := h.1 _ he
  exact ed_inj h (h.2.2 _ b1).1 he ((ed_lab h b1).trans b3)
theorem ed_at_to {n : Nat} {lab : Nat → Nat} {S : Nat → Int32} {el fr to_ at_ : Nat → Nat} (h : Ed n lab S el fr to_ at_) {e : Nat} (he : e < 2 * n) : at_ (to_ e) = e := by
  obtain ⟨b1, b2, b3, b4, b5, b6⟩ := h.1 _ he
  exact ed_inj h (h.2.2 _ b2).1 he ((ed_lab h b2).trans b4)
theorem ed_ne {n : Nat} {lab : Nat → Nat} {S : Nat → Int32} {el fr to_ at_ : Nat → Nat} (h : Ed n lab S el fr to_ at_) {i j : Nat} (hi : i < 2 * n) (hj : j < 2 * n) : fr i ≠ to_ j := by
  intro z
  exact (h.1 i hi).2.2.2.2.1 (by rw [z]; exact (h.1 j hj).2.2.2.2.2)
theorem ar_lt {n : Nat} {lab : Nat → Nat} {S : Nat → Int32} {el fr to_ at_ : Nat → Nat} (h : Ed n lab S el fr to_ at_) {d : Nat} (hd : d < 4 * n) : ar fr to_ d < 4 * n := by
  unfold ar
  split
  · exact (h.1 (d / 2) (by omega)).2.1
  · exact (h.1 (d / 2) (by omega)).1
theorem ar_inj {n : Nat} {lab : Nat → Nat} {S : Nat → Int32} {el fr to_ at_ : Nat → Nat} (h : Ed n lab S el fr to_ at_) {a b : Nat} (ha : a < 4 * n) (hb : b < 4 * n) (he : ar fr to_ a = ar fr to_ b) : a = b := by
  have h1 := ed_at_fr h (e := a / 2) (by omega)
  have h2 := ed_at_fr h (e := b / 2) (by omega)
  have h3 := ed_at_to h (e := a / 2) (by omega)
  have h4 := ed_at_to h (e := b / 2) (by omega)
  unfold ar at he
  split at he <;> split at he
  · rw [he] at h3; omega
  · exact absurd he.symm (ed_ne h (by omega) (by omega))
  · exact absurd he (ed_ne h (by omega) (by omega))
  · rw [he] at h1; omega
theorem lvd_lt {n : Nat} {lab : Nat → Nat} {S : Nat → Int32} {el fr to_ at_ : Nat → Nat} (h : Ed n lab S el fr to_ at_) {q : Nat} (hq : q < 4 * n) : lv fr at_ q < 4 * n := by
  have := (h.2.2 q hq).1
  unfold lv
  split <;> omega
theorem lvd_inj {n : Nat} {lab : Nat → Nat} {S : Nat → Int32} {el fr to_ at_ : Nat → Nat} (h : Ed n lab S el fr to_ at_) {a b : Nat} (ha : a < 4 * n) (hb : b < 4 * n) (he : lv fr at_ a = lv fr at_ b) : a = b := by
  obtain ⟨a1, a2⟩ := h.2.2 a ha
  obtain ⟨b1, b2⟩ := h.2.2 b hb
  unfold lv at he
  split at he <;> split at he
  · rename_i c1 c2
    rw [← c1, ← c2, show at_ a = at_ b by omega]
  · omega
  · omega
  · rename_i c1 c2
    rcases a2 with a2 | a2
    · exact absurd a2.symm c1
    · rcases b2 with b2 | b2
      · exact absurd b2.symm c2
      · rw [a2, b2, show at_ a = at_ b by omega]
theorem rot_lt {n q : Nat} (hq : q < 4 * n) : rot q < 4 * n := by unfold rot; omega
theorem perm_D {n : Nat} {lab : Nat → Nat} {S : Nat → Int32} {el fr to_ at_ : Nat → Nat} (h : Ed n lab S el fr to_ at_) : Perm (4 * n) (nxD fr to_ at_) := by
  refine ⟨fun d hd => lvd_lt h (rot_lt (ar_lt h hd)), fun a b ha hb he => ?_⟩
  have h1 := lvd_inj h (rot_lt (ar_lt h ha)) (rot_lt (ar_lt h hb)) he
  unfold rot at h1
  exact ar_inj h ha hb (by omega)
theorem m_next {n : Nat} {lab : Nat → Nat} {S : Nat → Int32} {el fr to_ at_ : Nat → Nat} {LB FR TO AT : Nat → Int32} (hn : n ≤ 20) (h : Ed n lab S el fr to_ at_) (hA : EdA n el fr to_ at_ LB FR TO AT) (PL : Nat → Int32) {d : Nat} (hd : d < 4 * n) : zPu y_Edg_nextDart b_Edg_nextDart 4 (some .int) ⟨1, 0, 0, 24⟩ [.ref 0, .int (nI d)] (edgH (2 * n) PL LB FR TO AT) (.int (nI (nxD fr to_ at_ d))) := by
  have h1 := ar_lt h hd
  have h2 := rot_lt h1
  have h3 := (h.2.2 _ h2).1
  have hq : (if d % 2 = 0 then TO (d / 2) else FR (d / 2)) = nI (ar fr to_ d) := by
    obtain ⟨-, q2, q3⟩ := hA.1 (d / 2) (by omega)
    unfold ar
    split
    · exact q3
    · exact q2
  have := m_Edg_nextDart (2 * n) PL LB FR TO AT d (ar fr to_ d) (at_ (rot (ar fr to_ d))) (by omega) (by omega) (by omega) hq (hA.2 _ h2)
  have e : (if FR (at_ (rot (ar fr to_ d))) = nI (4 * (ar fr to_ d / 4) + (ar fr to_ d + 3) % 4) then 2 * at_ (rot (ar fr to_ d)) else 2 * at_ (rot (ar fr to_ d)) + 1) = nxD fr to_ at_ d := by
    have h4 := (h.1 _ h3).1
    rw [(hA.1 _ h3).2.1]
    unfold nxD lv
    have : nI (fr (at_ (rot (ar fr to_ d)))) = nI (4 * (ar fr to_ d / 4) + (ar fr to_ d + 3) % 4) ↔ fr (at_ (rot (ar fr to_ d))) = rot (ar fr to_ d) := nI_eq (by omega) (by unfold rot at h2; omega)
    simp only [this]
  rw [e] at this
  exact this
/-! Faces -/
abbrev facH (F : Nat) (OF RD ST : Nat → Int32) : List zE := [zo 4 [.ref 1, .ref 2, .ref 3, .int (nI F)], za 80 OF, za 80 RD, za 81 ST]
abbrev feH (F : Nat) (OF RD ST : Nat → Int32) (m : Nat) (PL LB FR TO AT : Nat → Int32) : List zE := [zo 4 [.ref 1, .ref 2, .ref 3, .int (nI F)], za 80 OF, za 80 RD, za 81 ST, zo 3 [.ref 5, .ref 6, .ref 7, .ref 8, .ref 9, .int (nI m)], za 80 PL, za 40 LB, za 40 FR, za 40 TO, za 80 AT]
def rdw (nx : Nat → Nat) (RD : Nat → Int32) (b d : Nat) : Nat → (Nat → Int32)
  | 0 => RD
  | i + 1 => upd (rdw nx RD b d i) (b + i) (nI (it nx i d))
set_option maxHeartbeats 1000000 in
theorem m_Fac_addRound {n : Nat} {lab : Nat → Nat} {S : Nat → Int32} {el fr to_ at_ : Nat → Nat} {LB FR TO AT : Nat → Int32} (hn : n ≤ 20) (h : Ed n lab S el fr to_ at_) (hA : EdA n el fr to_ at_ LB FR TO AT) (PL : Nat → Int32) (F : Nat) (OF RD ST : Nat → Int32) (d t : Nat) (hF : F < 80) (hd : d < 4 * n)
    (hst : ST F = nI (cs OF (4 * n))) (t1 : ∀ a, a < t → gs (nxD fr to_ at_) (nI F) OF d a (it (nxD fr to_ at_) a d) < 0) (t2 : ¬ gs (nxD fr to_ at_) (nI F) OF d t (it (nxD fr to_ at_) t d) < 0) : zMet y_Fac_addRound b_Fac_addRound 5 none ⟨2, 0, 0, 50⟩ [.ref 0, .ref 4, .int (nI d)] (feH F OF RD ST (2 * n) PL LB FR TO AT)
    (fun r h' => r = none ∧ h' = feH (F + 1) (gs (nxD fr to_ at_) (nI F) OF d t) (rdw (nxD fr to_ at_) RD (cs OF (4 * n)) d t) (upd ST (F + 1) (nI (cs OF (4 * n) + t))) (2 * n) PL LB FR TO AT) := by
  have hp := perm_D h
  have hcs := cs_gs (v := nI F) hp hd (nI_pos (by omega)) t1
  have hlt := fun i => it_lt hp hd i
  refine zMet_of (plainFor_of_name (by decide +kernel)) rfl (Nat.le_of_ble_eq_true rfl) (fun z1 z2 z3 z4 z5 z6 z7 z8 z9 z10 z11 z12 z13 z14 O hin => ?_)
  refine zi_ls (ls' := [some (.ref 0), some (.ref 4), some (.int (nI d)), none, none]) rfl ?_
  refine zi_aload_n O d_Fac_addRound_0 rfl ?_
  refine zi_get O f_Fac_18 d_Fac_addRound_1 rfl rfl ?_
  refine zi_aload_n O d_Fac_addRound_4 rfl ?_
  refine zi_get O f_Fac_27 d_Fac_addRound_5 rfl rfl ?_
  refine zi_iald O d_Fac_addRound_8 rfl rfl (by omega) (by decide) ?_
  rw [hst]
  refine zi_istore_n (ls' := _ :: _ :: _ :: some _ :: _) O d_Fac_addRound_9 rfl (by decide) rfl ?_
  refine zi_iload_n O d_Fac_addRound_10 rfl ?_
  refine zi_istore (ls' := _ :: _ :: _ :: _ :: some _ :: _) O d_Fac_addRound_11 rfl (by decide) rfl ?_
  refine zi_for (fun i => [some (.ref 0), some (.ref 4), some (.int (nI d)), some (.int (nI (cs OF (4 * n) + i))), some (.int (nI (it (nxD fr to_ at_) i d)))]) (fun i => feH F (gs (nxD fr to_ at_) (nI F) OF d i) (rdw (nxD fr to_ at_) RD (cs OF (4 * n)) d i) ST (2 * n) PL LB FR TO AT) 0 t (by omega) rfl rfl (fun i _ hi ih => ?_) ?_
  · have e1 := hcs i (by omega)
    have e2 := cs_lt (hlt i) (t1 i hi)
    have e3 := hlt i
    refine zi_iload_n O d_Fac_addRound_13 rfl ?_
    refine zi_bipushN O 80 d_Fac_addRound_14 (by decide) ?_
    refine zi_icmp_geN O 62 d_Fac_addRound_16 (by decide) (by omega) (by omega) (fun c16 => ?_) (fun c16 => ?_)
    · omega
    · refine zi_aload_n O d_Fac_addRound_19 rfl ?_
      refine zi_get O f_Fac_9 d_Fac_addRound_20 rfl rfl ?_
      refine zi_iload O d_Fac_addRound_23 rfl ?_
      refine zi_iald O d_Fac_addRound_25 rfl rfl (by omega) (by decide) ?_
      refine zi_if_ge O 62 d_Fac_addRound_26 (by decide) (fun c26 => ?_) (fun c26 => ?_)
      · exact absurd (t1 i hi) (Int32.not_lt.mpr c26)
      · refine zi_aload_n O d_Fac_addRound_29 rfl ?_
        refine zi_get O f_Fac_9 d_Fac_addRound_30 rfl rfl ?_
        refine zi_iload O d_Fac_addRound_33 rfl ?_
        refine zi_aload_n O d_Fac_addRound_35 rfl ?_
        refine zi_get O f_Fac_27 d_Fac_addRound_36 rfl rfl ?_
        refine zi_iast O d_Fac_addRound_39 rfl rfl (by omega) (by decide) (by dsimp only [List.set]) ?_
        refine zi_aload_n O d_Fac_addRound_40 rfl ?_
        refine zi_get O f_Fac_15 d_Fac_addRound_41 rfl rfl ?_
        refine zi_iload_n O d_Fac_addRound_44 rfl ?_
        refine zi_iload O d_Fac_addRound_45 rfl ?_
        refine zi_iast O d_Fac_addRound_47 rfl rfl (by omega) (by decide) (by dsimp only [List.set]) ?_
        refine zi_aload_n O d_Fac_addRound_48 rfl ?_
        refine zi_iload O d_Fac_addRound_49 rfl ?_
        refine zi_pureV O [4, 5, 6, 7, 8, 9] c_Fac_38 k_Edg_nextDart (m_next hn h hA PL (hlt i)) d_Fac_addRound_51 ⟨(Nat.le_of_ble_eq_true rfl), (Nat.le_of_ble_eq_true rfl)⟩ ⟨(Nat.le_of_ble_eq_true rfl), (Nat.le_of_ble_eq_true rfl)⟩ rfl rfl (Nat.le_of_ble_eq_true rfl) rfl rfl rfl rfl rfl (Nat.le_of_ble_eq_true rfl) rfl ?_
        refine zi_istore (ls' := _ :: _ :: _ :: _ :: some _ :: _) O d_Fac_addRound_54 rfl (by decide) rfl ?_
        refine zi_iincN (ls' := _ :: _ :: _ :: some _ :: _) O 1 d_Fac_addRound_56 rfl (by decide) rfl (by decide) rfl ?_
        refine zi_goto O 13 d_Fac_addRound_59 (by decide) ?_
        exact ih
  · have e3 := hlt t
    have e4 := hcs t (Nat.le_refl _)
    have e5 := cs_le (gs (nxD fr to_ at_) (nI F) OF d t) (4 * n)
    refine zi_iload_n O d_Fac_addRound_13 rfl ?_
    refine zi_bipushN O 80 d_Fac_addRound_14 (by decide) ?_
    have fin : zG z1 z2 z3 z4 z5 z6 z7 z8 z9 z10 z11 z12 z13 z14 10 5 (fun r h' => r = none ∧ h' = feH (F + 1) (gs (nxD fr to_ at_) (nI F) OF d t) (rdw (nxD fr to_ at_) RD (cs OF (4 * n)) d t) (upd ST (F + 1) (nI (cs OF (4 * n) + t))) (2 * n) PL LB FR TO AT) 0 0 0 0 62 [some (.ref 0), some (.ref 4), some (.int (nI d)), some (.int (nI (cs OF (4 * n) + t))), some (.int (nI (it (nxD fr to_ at_) t d)))] [] (feH F (gs (nxD fr to_ at_) (nI F) OF d t) (rdw (nxD fr to_ at_) RD (cs OF (4 * n)) d t) ST (2 * n) PL LB FR TO AT) := by
      refine zi_aload_n O d_Fac_addRound_62 rfl ?_
      refine zi_dup O d_Fac_addRound_63 rfl ?_
      refine zi_get O f_Fac_27 d_Fac_addRound_64 rfl rfl ?_
      refine zi_iconstN O 1 d_Fac_addRound_67 (by decide) ?_
      first | refine zi_iaddN O d_Fac_addRound_68 ?_ | refine zi_iadd O d_Fac_addRound_68 ?_
      refine zi_put O f_Fac_27 d_Fac_addRound_69 rfl (Nat.le_of_ble_eq_true rfl) (fun _ => rfl) (fun _ => rfl) (by dsimp only [List.set]) ?_
      refine zi_aload_n O d_Fac_addRound_72 rfl ?_
      refine zi_get O f_Fac_18 d_Fac_addRound_73 rfl rfl ?_
      refine zi_aload_n O d_Fac_addRound_76 rfl ?_
      refine zi_get O f_Fac_27 d_Fac_addRound_77 rfl rfl ?_
      refine zi_iload_n O d_Fac_addRound_80 rfl ?_
      refine zi_iast O d_Fac_addRound_81 rfl rfl (by omega) (by decide) (by dsimp only [List.set]) ?_
      refine zi_vret O d_Fac_addRound_82 (Nat.le_of_ble_eq_true rfl) (Nat.le_of_ble_eq_true rfl) (Nat.le_of_ble_eq_true rfl) ?_
      exact ⟨rfl, rfl⟩
    refine zi_icmp_geN O 62 d_Fac_addRound_16 (by decide) (by omega) (by omega) (fun c16 => ?_) (fun c16 => ?_)
    · exact fin
    · refine zi_aload_n O d_Fac_addRound_19 rfl ?_
      refine zi_get O f_Fac_9 d_Fac_addRound_20 rfl rfl ?_
      refine zi_iload O d_Fac_addRound_23 rfl ?_
      refine zi_iald O d_Fac_addRound_25 rfl rfl (by omega) (by decide) ?_
      refine zi_if_ge O 62 d_Fac_addRound_26 (by decide) (fun c26 => ?_) (fun c26 => ?_)
      · exact fin
      · exact absurd (Int32.not_le.mp c26) t2
/-- what the faces' arrays hold, when the darts below d are through -/
def RdOK (N : Nat) (nx : Nat → Nat) (d : Nat) (RD ST : Nat → Int32) : Prop := ∃ st : Nat → Nat, (∀ k, k ≤ (FF nx N d).2 → ST k = nI (st k)) ∧ st 0 = 0 ∧ st (FF nx N d).2 = cs (FF nx N d).1 N ∧ ∀ k, k < (FF nx N d).2 → ∃ l t, l < d ∧ 0 < t ∧ st (k + 1) = st k + t ∧ st (k + 1) ≤ cs (FF nx N d).1 N ∧ (∀ i, i < t → RD (st k + i) = nI (it nx i l)) ∧ it nx t l = l ∧ (∀ i, 0 < i → i < t → it nx i l ≠ l) ∧ (FF nx N d).1 l = nI k ∧ ∀ j, j < l → (FF nx N d).1 j ≠ nI k
theorem rdw_lo {nx : Nat → Nat} {RD : Nat → Int32} {b d j : Nat} (h : j < b) : ∀ i, rdw nx RD b d i j = RD j
  | 0 => rfl
  | i + 1 => by rw [rdw, pk_un (by omega)]; exact rdw_lo h i
theorem rdw_in {nx : Nat → Nat} {RD : Nat → Int32} {b d : Nat} : ∀ {i a : Nat}, a < i → rdw nx RD b d i (b + a) = nI (it nx a d)
  | 0, _, h => absurd h (Nat.not_lt_zero _)
  | i + 1, a, h => by
    rw [rdw]
    by_cases c : a = i
    · rw [c, pk_us]
    · rw [pk_un (by omega)]; exact rdw_in (by omega)
theorem ff_le {N : Nat} {nx : Nat → Nat} (hN : N < 2 ^ 31) (hp : Perm N nx) {d : Nat} (hd : d ≤ N) : (FF nx N d).2 ≤ N := Nat.le_trans (ff_cl hN hp d hd).2.1 (cs_le _ _)
theorem rdOK_add {N : Nat} {nx : Nat → Nat} (hN : N < 2 ^ 31) (hp : Perm N nx) {d t : Nat} {RD ST : Nat → Int32} (hd : d < N) (h : RdOK N nx d RD ST) (hf : (FF nx N d).1 d < 0) (t0 : 0 < t) (tb : it nx t d = d) (td : ∀ a b, a < b → b < t → it nx a d ≠ it nx b d)
    (tc : cs (gs nx (nI (FF nx N d).2) (FF nx N d).1 d t) N = cs (FF nx N d).1 N + t) (tw : Wk nx (nI (FF nx N d).2) N (FF nx N d).1 d = gs nx (nI (FF nx N d).2) (FF nx N d).1 d t) : RdOK N nx (d + 1) (rdw nx RD (cs (FF nx N d).1 N) d t) (upd ST ((FF nx N d).2 + 1) (nI (cs (FF nx N d).1 N + t))) := by
  obtain ⟨st, h1, h2, h3, h4⟩ := h
  obtain ⟨g1, g2, g3, g4⟩ := ff_cl hN hp d (by omega)
  have hF := ff_le hN hp (d := d) (by omega)
  have e : FF nx N (d + 1) = (gs nx (nI (FF nx N d).2) (FF nx N d).1 d t, (FF nx N d).2 + 1) := by rw [FF, if_pos hf, tw]
  unfold RdOK
  rw [e]
  dsimp only
  have hset : ∀ x, ¬ (FF nx N d).1 x < 0 → gs nx (nI (FF nx N d).2) (FF nx N d).1 d t x = (FF nx N d).1 x := by
    intro x hx
    refine gs_out (fun a _ z => hx ?_)
    rw [← z, cl_it hp g1 hd]
    exact hf
  obtain ⟨s2, s3, s4⟩ : ∃ s2 : Nat → Nat, s2 ((FF nx N d).2 + 1) = cs (FF nx N d).1 N + t ∧ ∀ k, k ≠ (FF nx N d).2 + 1 → s2 k = st k := ⟨fun k => if k = (FF nx N d).2 + 1 then cs (FF nx N d).1 N + t else st k, if_pos rfl, fun k hk => if_neg hk⟩
  refine ⟨s2, fun k hk => ?_, by rw [s4 _ (by omega)]; exact h2, by rw [s3, tc], fun k hk => ?_⟩
  · by_cases c : k = (FF nx N d).2 + 1
    · rw [c, pk_us, s3]
    · rw [pk_un c, s4 _ c]; exact h1 k (by omega)
  · by_cases c : k = (FF nx N d).2
    · subst c
      refine ⟨d, t, by omega, t0, by rw [s3, s4 _ (by omega), h3], by rw [s3, tc]; omega, fun i hi => by rw [s4 _ (by omega), h3]; exact rdw_in hi, tb, fun i q1 q2 z => td 0 i q1 q2 z.symm, gs_in (a := 0) t0, fun j hj => ?_⟩
      rw [hset j (g3 j hj)]
      intro z
      rcases g4 j with q | ⟨k, q1, q2⟩
      · have := g3 j hj; rw [q] at this; exact this (by decide)
      · rw [q2] at z
        have := (nI_eq (by omega) (by omega)).mp z
        omega
    · obtain ⟨l, s, a1, a2, a3, a4, a5, a6, a7, a8, a9⟩ := h4 k (by omega)
      have hl : ¬ (FF nx N d).1 l < 0 := g3 l a1
      refine ⟨l, s, by omega, a2, by rw [s4 _ (by omega), s4 _ (by omega), a3], by rw [s4 _ (by omega), tc]; omega, fun i hi => ?_, a6, a7, by rw [hset l hl, a8], fun j hj => ?_⟩
      · rw [s4 _ (by omega), rdw_lo (by omega)]
        exact a5 i hi
      · rw [hset j (g3 j (by omega))]
        exact a9 j hj
set_option maxHeartbeats 1000000 in
theorem m_Fac_find {n : Nat} {lab : Nat → Nat} {S : Nat → Int32} {el fr to_ at_ : Nat → Nat} {LB FR TO AT : Nat → Int32} (hn : n ≤ 20) (h : Ed n lab S el fr to_ at_) (hA : EdA n el fr to_ at_ LB FR TO AT) (PL : Nat → Int32) (F : Nat) (OF RD ST : Nat → Int32) (hs0 : ST 0 = nI 0) : zMet y_Fac_find b_Fac_find 3 none ⟨3, 0, 0, 80⟩ [.ref 0, .ref 4] (feH F OF RD ST (2 * n) PL LB FR TO AT)
    (fun r h' => r = none ∧ ∃ RD' ST' : Nat → Int32, h' = feH (FF (nxD fr to_ at_) (4 * n) (4 * n)).2 (FF (nxD fr to_ at_) (4 * n) (4 * n)).1 RD' ST' (2 * n) PL LB FR TO AT ∧ RdOK (4 * n) (nxD fr to_ at_) (4 * n) RD' ST' ∧ ST' 0 = nI 0) := by
  have hp := perm_D h
  have hN : 4 * n < 2 ^ 31 := by omega
  generalize hnx : nxD fr to_ at_ = nx at hp
  refine zMet_of (plainFor_of_name (by decide +kernel)) rfl (Nat.le_of_ble_eq_true rfl) (fun z1 z2 z3 z4 z5 z6 z7 z8 z9 z10 z11 z12 z13 z14 O hin => ?_)
  refine zi_ls (ls' := [some (.ref 0), some (.ref 4), none]) rfl ?_
  refine zi_aload_n O d_Fac_find_0 rfl ?_
  refine zi_get O f_Fac_9 d_Fac_find_1 rfl rfl ?_
  refine zi_iconst (v := -1) O d_Fac_find_4 (by decide) ?_
  refine zi_callS O [1] c_Fac_21 k_Arr_fill (m_Arr_fill 80 OF (-1) (by omega)) d_Fac_find_5 ⟨(Nat.le_of_ble_eq_true rfl), (Nat.le_of_ble_eq_true rfl)⟩ ⟨(Nat.le_of_ble_eq_true rfl), (Nat.le_of_ble_eq_true rfl)⟩ rfl (Nat.le_of_ble_eq_true rfl) rfl rfl rfl rfl rfl (Nat.le_of_ble_eq_true rfl) rfl (fun r h' hq hl => ?_)
  obtain ⟨rfl, rfl⟩ := hq
  refine zi_st (st' := []) rfl (zi_h (h' := feH F (fun _ => -1) RD ST (2 * n) PL LB FR TO AT) rfl ?_)
  refine zi_aload_n O d_Fac_find_8 rfl ?_
  refine zi_iconstN O 0 d_Fac_find_9 (by decide) ?_
  refine zi_put O f_Fac_27 d_Fac_find_10 rfl (Nat.le_of_ble_eq_true rfl) (fun _ => rfl) (fun _ => rfl) (by dsimp only [List.set]) ?_
  refine zi_iconstN O 0 d_Fac_find_13 (by decide) ?_
  refine zi_istore_n (ls' := _ :: _ :: some _ :: _) O d_Fac_find_14 rfl (by decide) rfl ?_
  refine zi_loop (σ := Nat × (Nat → Int32) × (Nat → Int32)) (fun x => [some (.ref 0), some (.ref 4), some (.int (nI x.1))]) (fun x => feH (FF nx (4 * n) x.1).2 (FF nx (4 * n) x.1).1 x.2.1 x.2.2 (2 * n) PL LB FR TO AT) (fun x => x.1 ≤ 4 * n ∧ RdOK (4 * n) nx x.1 x.2.1 x.2.2 ∧ x.2.2 0 = nI 0) (fun x => 4 * n - x.1) (0, RD, ST) rfl rfl ⟨Nat.zero_le _, ⟨fun _ => 0, fun k hk => ?_, rfl, ?_, fun k hk => absurd hk (Nat.not_lt_zero k)⟩, hs0⟩ ?_
  · have : k = 0 := Nat.le_zero.mp hk
    rw [this]; exact hs0
  · show 0 = cs (fun _ => -1) (4 * n)
    have : ∀ N, cs (fun _ => (-1 : Int32)) N = 0 := by
      intro N
      induction N with
      | zero => rfl
      | succ N ih => rw [cs, ih, if_pos (by decide)]
    rw [this]
  rintro ⟨d, RK, SK⟩ ⟨hd, hR, hz⟩ ih
  dsimp only at hd hR hz ih ⊢
  obtain ⟨g1, g2, g3, g4⟩ := ff_cl hN hp d hd
  have hF := ff_le hN hp hd
  refine zi_iload_n O d_Fac_find_15 rfl ?_
  refine zi_iconstN O 2 d_Fac_find_16 (by decide) ?_
  refine zi_aload_n O d_Fac_find_17 rfl ?_
  refine zi_get O f_Fac_31 d_Fac_find_18 rfl rfl ?_
  first | refine zi_imulN O d_Fac_find_21 ?_ | refine zi_imul O d_Fac_find_21 ?_
  refine zi_icmp_geN O 46 d_Fac_find_22 (by decide) (by omega) (by omega) (fun c22 => ?_) (fun c22 => ?_)
  · refine zi_vret O d_Fac_find_46 (Nat.le_of_ble_eq_true rfl) (Nat.le_of_ble_eq_true rfl) (Nat.le_of_ble_eq_true rfl) ?_
    have : d = 4 * n := by omega
    subst this
    exact ⟨rfl, RK, SK, rfl, hR, hz⟩
  · refine zi_aload_n O d_Fac_find_25 rfl ?_
    refine zi_get O f_Fac_9 d_Fac_find_26 rfl rfl ?_
    refine zi_iload_n O d_Fac_find_29 rfl ?_
    refine zi_iald O d_Fac_find_30 rfl rfl (by omega) (by decide) ?_
    refine zi_if_ge O 40 d_Fac_find_31 (by decide) (fun c31 => ?_) (fun c31 => ?_)
    · refine zi_iincN (ls' := _ :: _ :: some _ :: _) O 1 d_Fac_find_40 rfl (by decide) rfl (by decide) rfl ?_
      refine zi_goto O 15 d_Fac_find_43 (by decide) ?_
      have e : FF nx (4 * n) (d + 1) = FF nx (4 * n) d := by rw [FF, if_neg (Int32.not_lt.mpr c31)]
      have := ih (d + 1, RK, SK) ⟨by dsimp only; omega, ?_, hz⟩ (by dsimp only; omega)
      · dsimp only at this
        rw [e] at this
        exact this
      · dsimp only
        unfold RdOK at hR ⊢
        rw [e]
        obtain ⟨st, h1, h2, h3, h4⟩ := hR
        refine ⟨st, h1, h2, h3, fun k hk => ?_⟩
        obtain ⟨l, t, q1, q2⟩ := h4 k hk
        exact ⟨l, t, by omega, q2⟩
    · have hf := Int32.not_le.mp c31
      have hlt := cs_lt (by omega : d < 4 * n) hf
      obtain ⟨t, t0, tb, td, t1, t2, tc, tw, tcl⟩ := walk_round (v := nI (FF nx (4 * n) d).2) hp g1 (by omega) hf (nI_pos (by omega))
      refine zi_aload_n O d_Fac_find_34 rfl ?_
      refine zi_aload_n O d_Fac_find_35 rfl ?_
      refine zi_iload_n O d_Fac_find_36 rfl ?_
      subst hnx
      refine zi_callV O [0, 1, 2, 3, 4, 5, 6, 7, 8, 9] c_Fac_34 k_Fac_addRound (m_Fac_addRound hn h hA PL (FF (nxD fr to_ at_) (4 * n) d).2 (FF (nxD fr to_ at_) (4 * n) d).1 RK SK d t (by omega) (by omega) (by obtain ⟨st, h1, h2, h3, h4⟩ := hR; rw [h1 _ (Nat.le_refl _), h3]) t1 t2) d_Fac_find_37 ⟨(Nat.le_of_ble_eq_true rfl), (Nat.le_of_ble_eq_true rfl)⟩ ⟨(Nat.le_of_ble_eq_true rfl), (Nat.le_of_ble_eq_true rfl)⟩ rfl rfl (Nat.le_of_ble_eq_true rfl) rfl rfl rfl rfl rfl (Nat.le_of_ble_eq_true rfl) rfl (fun r h' hq hl => ?_)
      obtain ⟨rfl, rfl⟩ := hq
      refine zi_st (st' := []) rfl (zi_h (h' := feH ((FF (nxD fr to_ at_) (4 * n) d).2 + 1) (gs (nxD fr to_ at_) (nI (FF (nxD fr to_ at_) (4 * n) d).2) (FF (nxD fr to_ at_) (4 * n) d).1 d t) (rdw (nxD fr to_ at_) RK (cs (FF (nxD fr to_ at_) (4 * n) d).1 (4 * n)) d t) (upd SK ((FF (nxD fr to_ at_) (4 * n) d).2 + 1) (nI (cs (FF (nxD fr to_ at_) (4 * n) d).1 (4 * n) + t))) (2 * n) PL LB FR TO AT) rfl ?_)
      refine zi_iincN (ls' := _ :: _ :: some _ :: _) O 1 d_Fac_find_40 rfl (by decide) rfl (by decide) rfl ?_
      refine zi_goto O 15 d_Fac_find_43 (by decide) ?_
      have e : FF (nxD fr to_ at_) (4 * n) (d + 1) = (gs (nxD fr to_ at_) (nI (FF (nxD fr to_ at_) (4 * n) d).2) (FF (nxD fr to_ at_) (4 * n) d).1 d t, (FF (nxD fr to_ at_) (4 * n) d).2 + 1) := by rw [FF, if_pos hf, tw]
      have hz2 : upd SK ((FF (nxD fr to_ at_) (4 * n) d).2 + 1) (nI (cs (FF (nxD fr to_ at_) (4 * n) d).1 (4 * n) + t)) 0 = nI 0 := by rw [pk_un (by omega)]; exact hz
      have := ih (d + 1, _, _) ⟨by dsimp only; omega, rdOK_add hN hp (by omega) hR hf t0 tb td tc tw, hz2⟩ (by dsimp only; omega)
      dsimp only at this
      rw [e] at this
      exact this
theorem m_Fac_has (F : Nat) (OF RD ST : Nat → Int32) (x : Int32) : zPu y_Fac_has b_Fac_has 2 (some .boolean) ⟨0, 0, 0, 0⟩ [.ref 0, .int x] (facH F OF RD ST) (.int (zb (0 ≤ x ∧ x < nI F))) := by
  refine zMet_of (plainFor_of_name (by decide +kernel)) rfl (Nat.le_of_ble_eq_true rfl) (fun z1 z2 z3 z4 z5 z6 z7 z8 z9 z10 z11 z12 z13 z14 O hin => ?_)
  refine zi_ls (ls' := [some (.ref 0), some (.int x)]) rfl ?_
  refine zi_iload_n O d_Fac_has_0 rfl ?_
  refine zi_if_lt O 16 d_Fac_has_1 (by decide) (fun c1 => ?_) (fun c1 => ?_)
  · refine zi_iconstN O 0 d_Fac_has_16 (by decide) ?_
    refine zi_zret O d_Fac_has_17 rfl (Nat.le_of_ble_eq_true rfl) (Nat.le_of_ble_eq_true rfl) (Nat.le_of_ble_eq_true rfl) ?_
    exact ⟨by rw [zb_f (fun z => Int32.not_lt.mpr z.1 c1)]; rfl, rfl⟩
  · refine zi_iload_n O d_Fac_has_4 rfl ?_
    refine zi_aload_n O d_Fac_has_5 rfl ?_
    refine zi_get O f_Fac_27 d_Fac_has_6 rfl rfl ?_
    refine zi_icmp_ge O 16 d_Fac_has_9 (by decide) (fun c9 => ?_) (fun c9 => ?_)
    · refine zi_iconstN O 0 d_Fac_has_16 (by decide) ?_
      refine zi_zret O d_Fac_has_17 rfl (Nat.le_of_ble_eq_true rfl) (Nat.le_of_ble_eq_true rfl) (Nat.le_of_ble_eq_true rfl) ?_
      exact ⟨by rw [zb_f (fun z => Int32.not_lt.mpr c9 z.2)]; rfl, rfl⟩
    · refine zi_iconstN O 1 d_Fac_has_12 (by decide) ?_
      refine zi_goto O 17 d_Fac_has_13 (by decide) ?_
      refine zi_zret O d_Fac_has_17 rfl (Nat.le_of_ble_eq_true rfl) (Nat.le_of_ble_eq_true rfl) (Nat.le_of_ble_eq_true rfl) ?_
      exact ⟨by rw [zb_t ⟨Int32.not_lt.mp c1, Int32.not_le.mp c9⟩]; rfl, rfl⟩
theorem m_Fac_size (F : Nat) (OF RD ST : Nat → Int32) (k a b : Nat) (hk : k < 80) (h1 : ST k = nI a) (h2 : ST (k + 1) = nI b) (hab : a ≤ b) : zPu y_Fac_size b_Fac_size 2 (some .int) ⟨0, 0, 0, 0⟩ [.ref 0, .int (nI k)] (facH F OF RD ST) (.int (nI (b - a))) := by
  refine zMet_of (plainFor_of_name (by decide +kernel)) rfl (Nat.le_of_ble_eq_true rfl) (fun z1 z2 z3 z4 z5 z6 z7 z8 z9 z10 z11 z12 z13 z14 O hin => ?_)
  refine zi_ls (ls' := [some (.ref 0), some (.int (nI k))]) rfl ?_
  refine zi_aload_n O d_Fac_size_0 rfl ?_
  refine zi_get O f_Fac_18 d_Fac_size_1 rfl rfl ?_
  refine zi_iload_n O d_Fac_size_4 rfl ?_
  refine zi_iconstN O 1 d_Fac_size_5 (by decide) ?_
  first | refine zi_iaddN O d_Fac_size_6 ?_ | refine zi_iadd O d_Fac_size_6 ?_
  refine zi_iald O d_Fac_size_7 rfl rfl (by omega) (by decide) ?_
  rw [h2]
  refine zi_aload_n O d_Fac_size_8 rfl ?_
  refine zi_get O f_Fac_18 d_Fac_size_9 rfl rfl ?_
  refine zi_iload_n O d_Fac_size_12 rfl ?_
  refine zi_iald O d_Fac_size_13 rfl rfl (by omega) (by decide) ?_
  rw [h1]
  first | refine zi_isubN O d_Fac_size_14 (by omega) ?_ | refine zi_isub O d_Fac_size_14 ?_
  refine zi_iret O d_Fac_size_15 (Nat.le_of_ble_eq_true rfl) (Nat.le_of_ble_eq_true rfl) (Nat.le_of_ble_eq_true rfl) ?_
  exact ⟨rfl, rfl⟩
theorem m_Fac_dart (F : Nat) (OF RD ST : Nat → Int32) (k i a d : Nat) (hk : k < 80) (h1 : ST k = nI a) (ha : a + i < 80) (h2 : RD (a + i) = nI d) : zPu y_Fac_dart b_Fac_dart 3 (some .int) ⟨0, 0, 0, 0⟩ [.ref 0, .int (nI k), .int (nI i)] (facH F OF RD ST) (.int (nI d)) := by
  refine zMet_of (plainFor_of_name (by decide +kernel)) rfl (Nat.le_of_ble_eq_true rfl) (fun z1 z2 z3 z4 z5 z6 z7 z8 z9 z10 z11 z12 z13 z14 O hin => ?_)
  refine zi_ls (ls' := [some (.ref 0), some (.int (nI k)), some (.int (nI i))]) rfl ?_
  refine zi_aload_n O d_Fac_dart_0 rfl ?_
  refine zi_get O f_Fac_15 d_Fac_dart_1 rfl rfl ?_
  refine zi_aload_n O d_Fac_dart_4 rfl ?_
  refine zi_get O f_Fac_18 d_Fac_dart_5 rfl rfl ?_
  refine zi_iload_n O d_Fac_dart_8 rfl ?_
  refine zi_iald O d_Fac_dart_9 rfl rfl (by omega) (by decide) ?_
  rw [h1]
  refine zi_iload_n O d_Fac_dart_10 rfl ?_
  first | refine zi_iaddN O d_Fac_dart_11 ?_ | refine zi_iadd O d_Fac_dart_11 ?_
  refine zi_iald O d_Fac_dart_12 rfl rfl (by omega) (by decide) ?_
  rw [h2]
  refine zi_iret O d_Fac_dart_13 (Nat.le_of_ble_eq_true rfl) (Nat.le_of_ble_eq_true rfl) (Nat.le_of_ble_eq_true rfl) ?_
  exact ⟨rfl, rfl⟩
end
section
/-! Pieces -/
abbrev pieH (pc co : Nat) (OC CE : Nat → Int32) : List zE := [zo 5 [.ref 1, .ref 2, .int (nI pc), .int (nI co)], za 20 OC, za 40 CE]
abbrev peH (pc co : Nat) (OC CE : Nat → Int32) (m : Nat) (PL LB FR TO AT : Nat → Int32) : List zE := [zo 5 [.ref 1, .ref 2, .int (nI pc), .int (nI co)], za 20 OC, za 40 CE, zo 3 [.ref 4, .ref 5, .ref 6, .ref 7, .ref 8, .int (nI m)], za 80 PL, za 40 LB, za 40 FR, za 40 TO, za 80 AT]
theorem jlo_N {a b : Nat} (ha : a < 2 ^ 31) (hb : b < 2 ^ 31) : jlo (nI a) (nI b) = nI (if b < a then b else a) := by
  unfold jlo
  by_cases c : b < a
  · rw [if_pos c, if_pos ((nI_ltI hb ha).mpr c)]
  · rw [if_neg c, if_neg (fun z => c ((nI_ltI hb ha).mp z))]
theorem jhi_N {a b : Nat} (ha : a < 2 ^ 31) (hb : b < 2 ^ 31) : jhi (nI a) (nI b) = nI (if a < b then b else a) := by
  unfold jhi
  by_cases c : a < b
  · rw [if_pos c, if_pos ((nI_ltI ha hb).mpr c)]
  · rw [if_neg c, if_neg (fun z => c ((nI_ltI ha hb).mp z))]
def un (oc : Nat → Nat) (lo hi : Nat) : Nat → Nat := fun c => if oc c = hi then lo else oc c
theorem m_Pie_unite (pc co : Nat) (OC CE : Nat → Int32) (oc : Nat → Nat) (n a b lo hi : Nat) (hn : n ≤ 20) (hO : ∀ c, c < n → OC c = nI (oc c) ∧ oc c ≤ c) (ha : a < n) (hb : b < n) (hab : a ≠ b) (hlo : (if b < a then b else a) = lo) (hhi : (if a < b then b else a) = hi) (hpc : 0 < pc) : zMet y_Pie_unite b_Pie_unite 7 none ⟨1, 0, 0, 24⟩ [.ref 0, .int (nI a), .int (nI b), .int (nI n)] (pieH pc co OC CE)
    (fun r h' => r = none ∧ ∃ OC' : Nat → Int32, h' = pieH (pc - 1) co OC' CE ∧ ∀ c, c < n → OC' c = nI (un oc lo hi c)) := by
  have hh : hi < n ∧ lo < hi := by rw [← hhi, ← hlo]; split <;> split <;> omega
  refine zMet_of (plainFor_of_name (by decide +kernel)) rfl (Nat.le_of_ble_eq_true rfl) (fun z1 z2 z3 z4 z5 z6 z7 z8 z9 z10 z11 z12 z13 z14 O hin => ?_)
  refine zi_ls (ls' := [some (.ref 0), some (.int (nI a)), some (.int (nI b)), some (.int (nI n)), none, none, none]) rfl ?_
  refine zi_iload_n O d_Pie_unite_0 rfl ?_
  refine zi_iload_n O d_Pie_unite_1 rfl ?_
  refine zi_icmp_neN O 6 d_Pie_unite_2 (by decide) (by omega) (by omega) (fun c2 => ?_) (fun c2 => ?_)
  · refine zi_iload_n O d_Pie_unite_6 rfl ?_
    refine zi_iload_n O d_Pie_unite_7 rfl ?_
    refine zi_pureS O [] c_Pie_43 k_Math_min (m_Math_min (nI a) (nI b)) d_Pie_unite_8 ⟨(Nat.le_of_ble_eq_true rfl), (Nat.le_of_ble_eq_true rfl)⟩ ⟨(Nat.le_of_ble_eq_true rfl), (Nat.le_of_ble_eq_true rfl)⟩ rfl (Nat.le_of_ble_eq_true rfl) rfl rfl rfl rfl rfl (Nat.le_of_ble_eq_true rfl) rfl ?_
    rw [jlo_N (by omega) (by omega), hlo]
    refine zi_istore (ls' := _ :: _ :: _ :: _ :: some _ :: _) O d_Pie_unite_11 rfl (by decide) rfl ?_
    refine zi_iload_n O d_Pie_unite_13 rfl ?_
    refine zi_iload_n O d_Pie_unite_14 rfl ?_
    refine zi_pureS O [] c_Pie_49 k_Math_max (m_Math_max (nI a) (nI b)) d_Pie_unite_15 ⟨(Nat.le_of_ble_eq_true rfl), (Nat.le_of_ble_eq_true rfl)⟩ ⟨(Nat.le_of_ble_eq_true rfl), (Nat.le_of_ble_eq_true rfl)⟩ rfl (Nat.le_of_ble_eq_true rfl) rfl rfl rfl rfl rfl (Nat.le_of_ble_eq_true rfl) rfl ?_
    rw [jhi_N (by omega) (by omega), hhi]
    refine zi_istore (ls' := _ :: _ :: _ :: _ :: _ :: some _ :: _) O d_Pie_unite_18 rfl (by decide) rfl ?_
    refine zi_iload O d_Pie_unite_20 rfl ?_
    refine zi_istore (ls' := _ :: _ :: _ :: _ :: _ :: _ :: some _ :: _) O d_Pie_unite_22 rfl (by decide) rfl ?_
    refine zi_loop (σ := Nat × (Nat → Int32)) (fun x => [some (.ref 0), some (.int (nI a)), some (.int (nI b)), some (.int (nI n)), some (.int (nI lo)), some (.int (nI hi)), some (.int (nI x.1))]) (fun x => pieH pc co x.2 CE) (fun x => hi ≤ x.1 ∧ x.1 ≤ n ∧ (∀ c, c < x.1 → c < n → x.2 c = nI (un oc lo hi c)) ∧ ∀ c, x.1 ≤ c → c < n → x.2 c = nI (oc c)) (fun x => n - x.1) (hi, OC) rfl rfl ⟨Nat.le_refl _, by dsimp only; omega, fun c h1 h2 => ?_, fun c h1 h2 => (hO c h2).1⟩ ?_
    · dsimp only at h1 ⊢
      have := hO c h2
      unfold un
      rw [if_neg (by omega)]
      exact this.1
    rintro ⟨k, OK⟩ ⟨k1, k2, k3, k4⟩ ih
    dsimp only at k1 k2 k3 k4 ih ⊢
    refine zi_iload O d_Pie_unite_24 rfl ?_
    refine zi_iload_n O d_Pie_unite_26 rfl ?_
    refine zi_icmp_geN O 57 d_Pie_unite_27 (by decide) (by omega) (by omega) (fun c27 => ?_) (fun c27 => ?_)
    · refine zi_aload_n O d_Pie_unite_57 rfl ?_
      refine zi_dup O d_Pie_unite_58 rfl ?_
      refine zi_get O f_Pie_26 d_Pie_unite_59 rfl rfl ?_
      refine zi_iconstN O 1 d_Pie_unite_62 (by decide) ?_
      first | refine zi_isubN O d_Pie_unite_63 (by omega) ?_ | refine zi_isub O d_Pie_unite_63 ?_
      refine zi_put O f_Pie_26 d_Pie_unite_64 rfl (Nat.le_of_ble_eq_true rfl) (fun _ => rfl) (fun _ => rfl) (by dsimp only [List.set]) ?_
      refine zi_vret O d_Pie_unite_67 (Nat.le_of_ble_eq_true rfl) (Nat.le_of_ble_eq_true rfl) (Nat.le_of_ble_eq_true rfl) ?_
      exact ⟨rfl, OK, rfl, fun c hc => k3 c (by omega) hc⟩
    · have h1 := k4 k (Nat.le_refl _) c27
      have h2 := hO k c27
      refine zi_aload_n O d_Pie_unite_30 rfl ?_
      refine zi_get O f_Pie_9 d_Pie_unite_31 rfl rfl ?_
      refine zi_iload O d_Pie_unite_34 rfl ?_
      refine zi_iald O d_Pie_unite_36 rfl rfl (by omega) (by decide) ?_
      rw [h1]
      refine zi_iload O d_Pie_unite_37 rfl ?_
      refine zi_icmp_neN O 51 d_Pie_unite_39 (by decide) (by omega) (by omega) (fun c39 => ?_) (fun c39 => ?_)
      · refine zi_iincN (ls' := _ :: _ :: _ :: _ :: _ :: _ :: some _ :: _) O 1 d_Pie_unite_51 rfl (by decide) rfl (by decide) rfl ?_
        refine zi_goto O 24 d_Pie_unite_54 (by decide) ?_
        refine ih (k + 1, OK) ⟨by dsimp only; omega, by dsimp only; omega, fun c q1 q2 => ?_, fun c q1 q2 => k4 c (by dsimp only at q1; omega) q2⟩ (by dsimp only; omega)
        dsimp only at q1 ⊢
        by_cases e : c = k
        · rw [e, h1]; unfold un; rw [if_neg c39]
        · exact k3 c (by omega) q2
      · refine zi_aload_n O d_Pie_unite_42 rfl ?_
        refine zi_get O f_Pie_9 d_Pie_unite_43 rfl rfl ?_
        refine zi_iload O d_Pie_unite_46 rfl ?_
        refine zi_iload O d_Pie_unite_48 rfl ?_
        refine zi_iast O d_Pie_unite_50 rfl rfl (by omega) (by decide) (by dsimp only [List.set]) ?_
        refine zi_iincN (ls' := _ :: _ :: _ :: _ :: _ :: _ :: some _ :: _) O 1 d_Pie_unite_51 rfl (by decide) rfl (by decide) rfl ?_
        refine zi_goto O 24 d_Pie_unite_54 (by decide) ?_
        refine ih (k + 1, upd OK k (nI lo)) ⟨by dsimp only; omega, by dsimp only; omega, fun c q1 q2 => ?_, fun c q1 q2 => ?_⟩ (by dsimp only; omega)
        · dsimp only at q1
          show upd OK k (nI lo) c = _
          by_cases e : c = k
          · rw [e, pk_us]; unfold un; rw [if_pos c39]
          · rw [pk_un e]; exact k3 c (by omega) q2
        · dsimp only at q1
          show upd OK k (nI lo) c = _
          rw [pk_un (by omega)]; exact k4 c (by omega) q2
  · omega
theorem m_Pie_unite_no (pc co : Nat) (OC CE : Nat → Int32) (n a : Nat) (hn : n ≤ 20) (ha : a < n) : zMet y_Pie_unite b_Pie_unite 7 none ⟨1, 0, 0, 24⟩ [.ref 0, .int (nI a), .int (nI a), .int (nI n)] (pieH pc co OC CE) (fun r h' => r = none ∧ h' = pieH pc co OC CE) := by
  refine zMet_of (plainFor_of_name (by decide +kernel)) rfl (Nat.le_of_ble_eq_true rfl) (fun z1 z2 z3 z4 z5 z6 z7 z8 z9 z10 z11 z12 z13 z14 O hin => ?_)
  refine zi_ls (ls' := [some (.ref 0), some (.int (nI a)), some (.int (nI a)), some (.int (nI n)), none, none, none]) rfl ?_
  refine zi_iload_n O d_Pie_unite_0 rfl ?_
  refine zi_iload_n O d_Pie_unite_1 rfl ?_
  refine zi_icmp_neN O 6 d_Pie_unite_2 (by decide) (by omega) (by omega) (fun c2 => ?_) (fun c2 => ?_)
  · exact absurd rfl c2
  · refine zi_vret O d_Pie_unite_5 (Nat.le_of_ble_eq_true rfl) (Nat.le_of_ble_eq_true rfl) (Nat.le_of_ble_eq_true rfl) ?_
    exact ⟨rfl, rfl⟩
/-- how many are their own piece's least -/
def rc (oc : Nat → Nat) : Nat → Nat
  | 0 => 0
  | n + 1 => rc oc n + (if oc n = n then 1 else 0)
theorem rc_id : ∀ n, rc (fun c => c) n = n
  | 0 => rfl
  | n + 1 => by rw [rc, rc_id n, if_pos rfl]
theorem rc_same {oc oc' : Nat → Nat} : ∀ {n : Nat}, (∀ c, c < n → (oc' c = c ↔ oc c = c)) → rc oc' n = rc oc n
  | 0, _ => rfl
  | n + 1, h => by
    rw [rc, rc, rc_same (n := n) (fun c hc => h c (by omega))]
    have := h n (by omega)
    by_cases c : oc n = n
    · rw [if_pos c, if_pos (this.mpr c)]
    · rw [if_neg c, if_neg (fun z => c (this.mp z))]
theorem rc_less {oc oc' : Nat → Nat} {hi : Nat} (hr : oc hi = hi) (hr' : ¬ oc' hi = hi) : ∀ {n : Nat}, hi < n → (∀ c, c < n → c ≠ hi → (oc' c = c ↔ oc c = c)) → rc oc' n + 1 = rc oc n
  | 0, h, _ => absurd h (Nat.not_lt_zero _)
  | n + 1, h, hh => by
    rw [rc, rc]
    by_cases c : hi = n
    · subst c
      rw [if_pos hr, if_neg hr', rc_same (oc := oc) (oc' := oc') (fun c hc => hh c (by omega) (by omega))]
    · have := rc_less hr hr' (n := n) (by omega) (fun c hc => hh c (by omega))
      have h2 := hh n (by omega) (fun z => c z.symm)
      by_cases c2 : oc n = n
      · rw [if_pos c2, if_pos (h2.mpr c2)]; omega
      · rw [if_neg c2, if_neg (fun z => c2 (h2.mp z))]; omega
/-- the least crossing of each piece -/
def PcE (k n : Nat) (fr to_ oc : Nat → Nat) : Prop := (∀ c, c < n → oc c ≤ c ∧ oc (oc c) = oc c) ∧ (∀ e, e < k → oc (fr e / 4) = oc (to_ e / 4)) ∧ ∀ g : Nat → Nat, (∀ e, e < 2 * n → g (fr e / 4) = g (to_ e / 4)) → ∀ c, c < n → g c = g (oc c)
theorem pcE_un {k n : Nat} {fr to_ oc : Nat → Nat} {a b lo hi : Nat} (hk : k < 2 * n) (hF : fr k < 4 * n) (hT : to_ k < 4 * n) (h : PcE k n fr to_ oc) (ha : a = oc (fr k / 4)) (hb : b = oc (to_ k / 4)) (hab : a ≠ b) (hlo : (if b < a then b else a) = lo) (hhi : (if a < b then b else a) = hi) : PcE (k + 1) n fr to_ (un oc lo hi) ∧ rc (un oc lo hi) n + 1 = rc oc n := by
  obtain ⟨h1, h2, h3⟩ := h
  have q1 := h1 (fr k / 4) (by omega)
  have q2 := h1 (to_ k / 4) (by omega)
  rw [← ha] at q1
  rw [← hb] at q2
  have hh : (lo = a ∧ hi = b) ∨ (lo = b ∧ hi = a) := by rw [← hhi, ← hlo]; split <;> split <;> omega
  have hlt : lo < hi := by rw [← hhi, ← hlo]; split <;> split <;> omega
  have hrl : oc lo = lo := by rcases hh with ⟨e, -⟩ | ⟨e, -⟩ <;> rw [e] <;> first | exact q1.2 | exact q2.2
  have hrh : oc hi = hi := by rcases hh with ⟨-, e⟩ | ⟨-, e⟩ <;> rw [e] <;> first | exact q1.2 | exact q2.2
  have hn : hi < n := by rcases hh with ⟨-, e⟩ | ⟨-, e⟩ <;> omega
  have uh : ∀ c, oc c = hi → un oc lo hi c = lo := fun c e => if_pos e
  have uo : ∀ c, oc c ≠ hi → un oc lo hi c = oc c := fun c e => if_neg e
  refine ⟨⟨fun c hc => ?_, fun e he => ?_, fun g hg c hc => ?_⟩, rc_less hrh (by rw [uh _ hrh]; omega) hn (fun c hc hne => ?_)⟩
  · have := h1 c hc
    by_cases e : oc c = hi
    · rw [uh c e]
      refine ⟨by omega, ?_⟩
      rw [uo lo (by rw [hrl]; omega), hrl]
    · rw [uo c e]
      refine ⟨this.1, ?_⟩
      rw [uo (oc c) (by rw [this.2]; exact e), this.2]
  · by_cases e2 : e = k
    · subst e2
      have x1 : oc (fr e / 4) = hi ∨ oc (fr e / 4) = lo := by rw [← ha]; rcases hh with ⟨u, v⟩ | ⟨u, v⟩ <;> omega
      have x2 : oc (to_ e / 4) = hi ∨ oc (to_ e / 4) = lo := by rw [← hb]; rcases hh with ⟨u, v⟩ | ⟨u, v⟩ <;> omega
      have y : ∀ c, oc c = hi ∨ oc c = lo → un oc lo hi c = lo := by
        intro c hc
        by_cases e3 : oc c = hi
        · exact uh c e3
        · rw [uo c e3]; rcases hc with hc | hc
          · exact absurd hc e3
          · exact hc
      rw [y _ x1, y _ x2]
    · have := h2 e (by omega)
      unfold un
      rw [this]
  · have gab : g a = g b := by
      have := hg k hk
      rw [h3 g hg (fr k / 4) (by omega), h3 g hg (to_ k / 4) (by omega), ← ha, ← hb] at this
      exact this
    have glh : g lo = g hi := by rcases hh with ⟨u, v⟩ | ⟨u, v⟩ <;> rw [u, v] <;> first | exact gab | exact gab.symm
    rw [h3 g hg c hc]
    by_cases e : oc c = hi
    · rw [uh c e, e, glh]
    · rw [uo c e]
  · by_cases e : oc c = hi
    · have := h1 c hc
      rw [uh c e, e]
      constructor <;> intro z <;> omega
    · rw [uo c e]
set_option maxHeartbeats 1000000 in
theorem m_Pie_findPieces {n : Nat} {lab : Nat → Nat} {S : Nat → Int32} {el fr to_ at_ : Nat → Nat} {LB FR TO AT : Nat → Int32} (hn : n ≤ 20) (h : Ed n lab S el fr to_ at_) (hA : EdA n el fr to_ at_ LB FR TO AT) (PL : Nat → Int32) (pc co : Nat) (OC CE : Nat → Int32) : zMet y_Pie_findPieces b_Pie_findPieces 4 none ⟨2, 0, 0, 60⟩ [.ref 0, .int (nI n), .ref 3] (peH pc co OC CE (2 * n) PL LB FR TO AT)
    (fun r h' => r = none ∧ ∃ (OC' : Nat → Int32) (oc : Nat → Nat), h' = peH (rc oc n) co OC' CE (2 * n) PL LB FR TO AT ∧ (∀ c, c < n → OC' c = nI (oc c)) ∧ PcE (2 * n) n fr to_ oc) := by
  refine zMet_of (plainFor_of_name (by decide +kernel)) rfl (Nat.le_of_ble_eq_true rfl) (fun z1 z2 z3 z4 z5 z6 z7 z8 z9 z10 z11 z12 z13 z14 O hin => ?_)
  refine zi_ls (ls' := [some (.ref 0), some (.int (nI n)), some (.ref 3), none]) rfl ?_
  refine zi_iconstN O 0 d_Pie_findPieces_0 (by decide) ?_
  refine zi_istore_n (ls' := _ :: _ :: _ :: some _ :: _) O d_Pie_findPieces_1 rfl (by decide) rfl ?_
  refine zi_loop (σ := Nat × (Nat → Int32)) (fun x => [some (.ref 0), some (.int (nI n)), some (.ref 3), some (.int (nI x.1))]) (fun x => peH pc co x.2 CE (2 * n) PL LB FR TO AT) (fun x => x.1 ≤ n ∧ ∀ c, c < x.1 → x.2 c = nI c) (fun x => n - x.1) (0, OC) rfl rfl ⟨Nat.zero_le _, fun c hc => absurd hc (Nat.not_lt_zero c)⟩ ?_
  rintro ⟨i, OK⟩ ⟨hi, hO⟩ ih
  dsimp only at hi hO ih ⊢
  refine zi_iload_n O d_Pie_findPieces_2 rfl ?_
  refine zi_iload_n O d_Pie_findPieces_3 rfl ?_
  refine zi_icmp_geN O 20 d_Pie_findPieces_4 (by decide) (by omega) (by omega) (fun c4 => ?_) (fun c4 => ?_)
  · refine zi_aload_n O d_Pie_findPieces_20 rfl ?_
    refine zi_iload_n O d_Pie_findPieces_21 rfl ?_
    refine zi_put O f_Pie_26 d_Pie_findPieces_22 rfl (Nat.le_of_ble_eq_true rfl) (fun _ => rfl) (fun _ => rfl) (by dsimp only [List.set]) ?_
    refine zi_iconstN O 0 d_Pie_findPieces_25 (by decide) ?_
    refine zi_istore_n (ls' := _ :: _ :: _ :: some _ :: _) O d_Pie_findPieces_26 rfl (by decide) rfl ?_
    refine zi_loop (σ := Nat × (Nat → Int32) × (Nat → Nat)) (fun x => [some (.ref 0), some (.int (nI n)), some (.ref 3), some (.int (nI x.1))]) (fun x => peH (rc x.2.2 n) co x.2.1 CE (2 * n) PL LB FR TO AT) (fun x => x.1 ≤ 2 * n ∧ (∀ c, c < n → x.2.1 c = nI (x.2.2 c)) ∧ PcE x.1 n fr to_ x.2.2) (fun x => 2 * n - x.1) (0, OK, fun c => c) rfl (by dsimp only; rw [rc_id]) ⟨Nat.zero_le _, fun c hc => hO c (by omega), ⟨fun c hc => ⟨Nat.le_refl _, rfl⟩, fun e he => absurd he (Nat.not_lt_zero e), fun g hg c hc => rfl⟩⟩ ?_
    rintro ⟨e, OE, oc⟩ ⟨he, hE, hP⟩ ih2
    dsimp only at he hE hP ih2 ⊢
    refine zi_iload_n O d_Pie_findPieces_27 rfl ?_
    refine zi_aload_n O d_Pie_findPieces_28 rfl ?_
    refine zi_get O f_Pie_30 d_Pie_findPieces_29 rfl rfl ?_
    refine zi_icmp_geN O 72 d_Pie_findPieces_32 (by decide) (by omega) (by omega) (fun c32 => ?_) (fun c32 => ?_)
    · refine zi_vret O d_Pie_findPieces_72 (Nat.le_of_ble_eq_true rfl) (Nat.le_of_ble_eq_true rfl) (Nat.le_of_ble_eq_true rfl) ?_
      have : e = 2 * n := by omega
      subst this
      exact ⟨rfl, OE, oc, rfl, hE, hP⟩
    · obtain ⟨b1, b2, -, -, -, -⟩ := h.1 e c32
      obtain ⟨-, a2, a3⟩ := hA.1 e c32
      have p1 := (hP.1 (fr e / 4) (by omega)).1
      have p2 := (hP.1 (to_ e / 4) (by omega)).1
      refine zi_aload_n O d_Pie_findPieces_35 rfl ?_
      refine zi_aload_n O d_Pie_findPieces_36 rfl ?_
      refine zi_get O f_Pie_9 d_Pie_findPieces_37 rfl rfl ?_
      refine zi_aload_n O d_Pie_findPieces_40 rfl ?_
      refine zi_get O f_Pie_33 d_Pie_findPieces_41 rfl rfl ?_
      refine zi_iload_n O d_Pie_findPieces_44 rfl ?_
      refine zi_iald O d_Pie_findPieces_45 rfl rfl (by omega) (by decide) ?_
      rw [a2]
      refine zi_iconstN O 2 d_Pie_findPieces_46 (by decide) ?_
      first | refine zi_ishrN O 2 2 d_Pie_findPieces_47 (by decide) (by omega) ?_ | refine zi_ishrN O 1 1 d_Pie_findPieces_47 (by decide) (by omega) ?_
      refine zi_iald O d_Pie_findPieces_48 rfl rfl (by omega) (by decide) ?_
      rw [hE _ (by omega)]
      refine zi_aload_n O d_Pie_findPieces_49 rfl ?_
      refine zi_get O f_Pie_9 d_Pie_findPieces_50 rfl rfl ?_
      refine zi_aload_n O d_Pie_findPieces_53 rfl ?_
      refine zi_get O f_Pie_36 d_Pie_findPieces_54 rfl rfl ?_
      refine zi_iload_n O d_Pie_findPieces_57 rfl ?_
      refine zi_iald O d_Pie_findPieces_58 rfl rfl (by omega) (by decide) ?_
      rw [a3]
      refine zi_iconstN O 2 d_Pie_findPieces_59 (by decide) ?_
      first | refine zi_ishrN O 2 2 d_Pie_findPieces_60 (by decide) (by omega) ?_ | refine zi_ishrN O 1 1 d_Pie_findPieces_60 (by decide) (by omega) ?_
      refine zi_iald O d_Pie_findPieces_61 rfl rfl (by omega) (by decide) ?_
      rw [hE _ (by omega)]
      refine zi_iload_n O d_Pie_findPieces_62 rfl ?_
      by_cases c : oc (fr e / 4) = oc (to_ e / 4)
      · rw [← c]
        refine zi_callV O [0, 1, 2] c_Pie_39 k_Pie_unite (m_Pie_unite_no (rc oc n) co OE CE n (oc (fr e / 4)) hn (by omega)) d_Pie_findPieces_63 ⟨(Nat.le_of_ble_eq_true rfl), (Nat.le_of_ble_eq_true rfl)⟩ ⟨(Nat.le_of_ble_eq_true rfl), (Nat.le_of_ble_eq_true rfl)⟩ rfl rfl (Nat.le_of_ble_eq_true rfl) rfl rfl rfl rfl rfl (Nat.le_of_ble_eq_true rfl) rfl (fun r h' hq hl => ?_)
        obtain ⟨rfl, rfl⟩ := hq
        refine zi_st (st' := []) rfl (zi_h (h' := peH (rc oc n) co OE CE (2 * n) PL LB FR TO AT) rfl ?_)
        refine zi_iincN (ls' := _ :: _ :: _ :: some _ :: _) O 1 d_Pie_findPieces_66 rfl (by decide) rfl (by decide) rfl ?_
        refine zi_goto O 27 d_Pie_findPieces_69 (by decide) ?_
        refine ih2 (e + 1, OE, oc) ⟨by dsimp only; omega, hE, hP.1, fun i hi => ?_, hP.2.2⟩ (by dsimp only; omega)
        by_cases e2 : i = e
        · rw [e2]; exact c
        · exact hP.2.1 i (by dsimp only at hi; omega)
      · obtain ⟨q1, q2⟩ := pcE_un c32 b1 b2 hP rfl rfl c rfl rfl
        refine zi_callV O [0, 1, 2] c_Pie_39 k_Pie_unite (m_Pie_unite (rc oc n) co OE CE oc n (oc (fr e / 4)) (oc (to_ e / 4)) _ _ hn (fun c hc => ⟨hE c hc, (hP.1 c hc).1⟩) (by omega) (by omega) c rfl rfl (by omega)) d_Pie_findPieces_63 ⟨(Nat.le_of_ble_eq_true rfl), (Nat.le_of_ble_eq_true rfl)⟩ ⟨(Nat.le_of_ble_eq_true rfl), (Nat.le_of_ble_eq_true rfl)⟩ rfl rfl (Nat.le_of_ble_eq_true rfl) rfl rfl rfl rfl rfl (Nat.le_of_ble_eq_true rfl) rfl (fun r h' hq hl => ?_)
        obtain ⟨rfl, OC', rfl, hO'⟩ := hq
        rw [show rc oc n - 1 = rc (un oc (if oc (to_ e / 4) < oc (fr e / 4) then oc (to_ e / 4) else oc (fr e / 4)) (if oc (fr e / 4) < oc (to_ e / 4) then oc (to_ e / 4) else oc (fr e / 4))) n by omega]
        refine zi_st (st' := []) rfl (zi_h (h' := peH (rc (un oc (if oc (to_ e / 4) < oc (fr e / 4) then oc (to_ e / 4) else oc (fr e / 4)) (if oc (fr e / 4) < oc (to_ e / 4) then oc (to_ e / 4) else oc (fr e / 4))) n) co OC' CE (2 * n) PL LB FR TO AT) rfl ?_)
        refine zi_iincN (ls' := _ :: _ :: _ :: some _ :: _) O 1 d_Pie_findPieces_66 rfl (by decide) rfl (by decide) rfl ?_
        refine zi_goto O 27 d_Pie_findPieces_69 (by decide) ?_
        exact ih2 (e + 1, OC', _) ⟨by dsimp only; omega, hO', q1⟩ (by dsimp only; omega)
  · refine zi_aload_n O d_Pie_findPieces_7 rfl ?_
    refine zi_get O f_Pie_9 d_Pie_findPieces_8 rfl rfl ?_
    refine zi_iload_n O d_Pie_findPieces_11 rfl ?_
    refine zi_iload_n O d_Pie_findPieces_12 rfl ?_
    refine zi_iast O d_Pie_findPieces_13 rfl rfl (by omega) (by decide) (by dsimp only [List.set]) ?_
    refine zi_iincN (ls' := _ :: _ :: _ :: some _ :: _) O 1 d_Pie_findPieces_14 rfl (by decide) rfl (by decide) rfl ?_
    refine zi_goto O 2 d_Pie_findPieces_17 (by decide) ?_
    refine ih (i + 1, upd OK i (nI i)) ⟨by dsimp only; omega, fun c hc => ?_⟩ (by dsimp only; omega)
    dsimp only at hc
    show upd OK i (nI i) c = _
    by_cases e : c = i
    · rw [e, pk_us]
    · rw [pk_un e]; exact hO c (by omega)
end
section
/-! the components; Pieces.find -/
def ac (q : Nat) : Nat := 4 * (q / 4) + (q + 2) % 4
theorem xor2 : ∀ q, q < 80 → nI q ^^^ nI 2 = nI (ac q) := by decide +kernel
theorem ac_lt {n q : Nat} (h : q < 4 * n) : ac q < 4 * n := by unfold ac; omega
theorem ac_ac (q : Nat) : ac (ac q) = q := by unfold ac; omega
theorem ac_div (q : Nat) : ac q / 4 = q / 4 := by unfold ac; omega
theorem gi_ac (S : Nat → Int32) (q : Nat) : gi S (ac q) ↔ ¬ gi S q := by
  have h1 : ac q / 4 = q / 4 := ac_div q
  have h2 : up S (q / 4) = 3 ∨ up S (q / 4) = 1 := by unfold up; split <;> simp
  unfold gi
  rw [h1]
  unfold ac
  rcases h2 with h2 | h2 <;> rw [h2] <;> omega
def nxE (to_ at_ : Nat → Nat) (e : Nat) : Nat := at_ (ac (to_ e))
theorem ed_fr_of {n : Nat} {lab : Nat → Nat} {S : Nat → Int32} {el fr to_ at_ : Nat → Nat} (h : Ed n lab S el fr to_ at_) {q : Nat} (hq : q < 4 * n) (hg : ¬ gi S q) : fr (at_ q) = q := by
  obtain ⟨a1, a2⟩ := h.2.2 q hq
  rcases a2 with a2 | a2
  · exact a2.symm
  · exact absurd (by rw [a2]; exact (h.1 _ a1).2.2.2.2.2) hg
theorem ed_to_of {n : Nat} {lab : Nat → Nat} {S : Nat → Int32} {el fr to_ at_ : Nat → Nat} (h : Ed n lab S el fr to_ at_) {q : Nat} (hq : q < 4 * n) (hg : gi S q) : to_ (at_ q) = q := by
  obtain ⟨a1, a2⟩ := h.2.2 q hq
  rcases a2 with a2 | a2
  · exact absurd hg (by rw [a2]; exact (h.1 _ a1).2.2.2.2.1)
  · exact a2.symm
theorem perm_E {n : Nat} {lab : Nat → Nat} {S : Nat → Int32} {el fr to_ at_ : Nat → Nat} (h : Ed n lab S el fr to_ at_) : Perm (2 * n) (nxE to_ at_) := by
  refine ⟨fun d hd => (h.2.2 _ (ac_lt (h.1 d hd).2.1)).1, fun a b ha hb he => ?_⟩
  have h1 := ed_fr_of h (ac_lt (h.1 a ha).2.1) (fun z => ((gi_ac S _).mp z) (h.1 a ha).2.2.2.2.2)
  have h2 := ed_fr_of h (ac_lt (h.1 b hb).2.1) (fun z => ((gi_ac S _).mp z) (h.1 b hb).2.2.2.2.2)
  unfold nxE at he
  rw [he, h2] at h1
  have h3 : to_ b = to_ a := by rw [← ac_ac (to_ b), h1, ac_ac]
  have h4 := ed_at_to h ha
  have h5 := ed_at_to h hb
  rw [h3, h4] at h5
  exact h5
set_option maxHeartbeats 1000000 in
theorem m_Pie_followComponent {n : Nat} {lab : Nat → Nat} {S : Nat → Int32} {el fr to_ at_ : Nat → Nat} {LB FR TO AT : Nat → Int32} (hn : n ≤ 20) (h : Ed n lab S el fr to_ at_) (hA : EdA n el fr to_ at_ LB FR TO AT) (PL : Nat → Int32) (pc co : Nat) (OC CE : Nat → Int32) (d t : Nat) (hF : co < 80) (hd : d < 2 * n)
    (t1 : ∀ a, a < t → gs (nxE to_ at_) (nI co) CE d a (it (nxE to_ at_) a d) < 0) (t2 : ¬ gs (nxE to_ at_) (nI co) CE d t (it (nxE to_ at_) t d) < 0) : zMet y_Pie_followComponent b_Pie_followComponent 5 none ⟨0, 0, 0, 0⟩ [.ref 0, .ref 3, .int (nI d)] (peH pc co OC CE (2 * n) PL LB FR TO AT)
    (fun r h' => r = none ∧ h' = peH pc co OC (gs (nxE to_ at_) (nI co) CE d t) (2 * n) PL LB FR TO AT) := by
  have hp := perm_E h
  have hcs := cs_gs (v := nI co) hp hd (nI_pos (by omega)) t1
  have hlt := fun i => it_lt hp hd i
  refine zMet_of (plainFor_of_name (by decide +kernel)) rfl (Nat.le_of_ble_eq_true rfl) (fun z1 z2 z3 z4 z5 z6 z7 z8 z9 z10 z11 z12 z13 z14 O hin => ?_)
  refine zi_ls (ls' := [some (.ref 0), some (.ref 3), some (.int (nI d)), none, none]) rfl ?_
  refine zi_iload_n O d_Pie_followComponent_0 rfl ?_
  refine zi_istore_n (ls' := _ :: _ :: _ :: some _ :: _) O d_Pie_followComponent_1 rfl (by decide) rfl ?_
  refine zi_iconstN O 0 d_Pie_followComponent_2 (by decide) ?_
  refine zi_istore (ls' := _ :: _ :: _ :: _ :: some _ :: _) O d_Pie_followComponent_3 rfl (by decide) rfl ?_
  refine zi_for (fun i => [some (.ref 0), some (.ref 3), some (.int (nI d)), some (.int (nI (it (nxE to_ at_) i d))), some (.int (nI i))]) (fun i => peH pc co OC (gs (nxE to_ at_) (nI co) CE d i) (2 * n) PL LB FR TO AT) 0 t (by omega) rfl rfl (fun i _ hi ih => ?_) ?_
  · have e1 := hcs i (by omega)
    have e2 := cs_lt (hlt i) (t1 i hi)
    have e3 := hlt i
    have e4 := (h.1 _ e3).2.1
    refine zi_iload O d_Pie_followComponent_5 rfl ?_
    refine zi_bipushN O 40 d_Pie_followComponent_7 (by decide) ?_
    refine zi_icmp_geN O 51 d_Pie_followComponent_9 (by decide) (by omega) (by omega) (fun c9 => ?_) (fun c9 => ?_)
    · omega
    · refine zi_aload_n O d_Pie_followComponent_12 rfl ?_
      refine zi_get O f_Pie_15 d_Pie_followComponent_13 rfl rfl ?_
      refine zi_iload_n O d_Pie_followComponent_16 rfl ?_
      refine zi_iald O d_Pie_followComponent_17 rfl rfl (by omega) (by decide) ?_
      refine zi_if_ge O 51 d_Pie_followComponent_18 (by decide) (fun c18 => ?_) (fun c18 => ?_)
      · exact absurd (t1 i hi) (Int32.not_lt.mpr c18)
      · refine zi_aload_n O d_Pie_followComponent_21 rfl ?_
        refine zi_get O f_Pie_15 d_Pie_followComponent_22 rfl rfl ?_
        refine zi_iload_n O d_Pie_followComponent_25 rfl ?_
        refine zi_aload_n O d_Pie_followComponent_26 rfl ?_
        refine zi_get O f_Pie_58 d_Pie_followComponent_27 rfl rfl ?_
        refine zi_iast O d_Pie_followComponent_30 rfl rfl (by omega) (by decide) (by dsimp only [List.set]) ?_
        refine zi_aload_n O d_Pie_followComponent_31 rfl ?_
        refine zi_get O f_Pie_65 d_Pie_followComponent_32 rfl rfl ?_
        refine zi_aload_n O d_Pie_followComponent_35 rfl ?_
        refine zi_get O f_Pie_36 d_Pie_followComponent_36 rfl rfl ?_
        refine zi_iload_n O d_Pie_followComponent_39 rfl ?_
        refine zi_iald O d_Pie_followComponent_40 rfl rfl (by omega) (by decide) ?_
        rw [(hA.1 _ e3).2.2]
        refine zi_iconstN O 2 d_Pie_followComponent_41 (by decide) ?_
        refine zi_ixor O d_Pie_followComponent_42 ?_
        have e5 := ac_lt e4
        rw [xor2 _ (by omega)]
        refine zi_iald O d_Pie_followComponent_43 rfl rfl (by omega) (by decide) ?_
        rw [hA.2 _ (ac_lt e4)]
        refine zi_istore_n (ls' := _ :: _ :: _ :: some _ :: _) O d_Pie_followComponent_44 rfl (by decide) rfl ?_
        refine zi_iincN (ls' := _ :: _ :: _ :: _ :: some _ :: _) O 1 d_Pie_followComponent_45 rfl (by decide) rfl (by decide) rfl ?_
        refine zi_goto O 5 d_Pie_followComponent_48 (by decide) ?_
        exact ih
  · have e3 := hlt t
    have e4 := hcs t (Nat.le_refl _)
    have e5 := cs_le (gs (nxE to_ at_) (nI co) CE d t) (2 * n)
    refine zi_iload O d_Pie_followComponent_5 rfl ?_
    refine zi_bipushN O 40 d_Pie_followComponent_7 (by decide) ?_
    refine zi_icmp_geN O 51 d_Pie_followComponent_9 (by decide) (by omega) (by omega) (fun c9 => ?_) (fun c9 => ?_)
    · refine zi_vret O d_Pie_followComponent_51 (Nat.le_of_ble_eq_true rfl) (Nat.le_of_ble_eq_true rfl) (Nat.le_of_ble_eq_true rfl) ?_
      exact ⟨rfl, rfl⟩
    · refine zi_aload_n O d_Pie_followComponent_12 rfl ?_
      refine zi_get O f_Pie_15 d_Pie_followComponent_13 rfl rfl ?_
      refine zi_iload_n O d_Pie_followComponent_16 rfl ?_
      refine zi_iald O d_Pie_followComponent_17 rfl rfl (by omega) (by decide) ?_
      refine zi_if_ge O 51 d_Pie_followComponent_18 (by decide) (fun c18 => ?_) (fun c18 => ?_)
      · refine zi_vret O d_Pie_followComponent_51 (Nat.le_of_ble_eq_true rfl) (Nat.le_of_ble_eq_true rfl) (Nat.le_of_ble_eq_true rfl) ?_
        exact ⟨rfl, rfl⟩
      · exact absurd (Int32.not_le.mp c18) t2
set_option maxHeartbeats 1000000 in
theorem m_Pie_countComponents {n : Nat} {lab : Nat → Nat} {S : Nat → Int32} {el fr to_ at_ : Nat → Nat} {LB FR TO AT : Nat → Int32} (hn : n ≤ 20) (h : Ed n lab S el fr to_ at_) (hA : EdA n el fr to_ at_ LB FR TO AT) (PL : Nat → Int32) (pc co : Nat) (OC CE : Nat → Int32) : zMet y_Pie_countComponents b_Pie_countComponents 3 none ⟨2, 0, 0, 60⟩ [.ref 0, .ref 3] (peH pc co OC CE (2 * n) PL LB FR TO AT)
    (fun r h' => r = none ∧ h' = peH pc (FF (nxE to_ at_) (2 * n) (2 * n)).2 OC (FF (nxE to_ at_) (2 * n) (2 * n)).1 (2 * n) PL LB FR TO AT) := by
  have hp := perm_E h
  have hN : 2 * n < 2 ^ 31 := by omega
  refine zMet_of (plainFor_of_name (by decide +kernel)) rfl (Nat.le_of_ble_eq_true rfl) (fun z1 z2 z3 z4 z5 z6 z7 z8 z9 z10 z11 z12 z13 z14 O hin => ?_)
  refine zi_ls (ls' := [some (.ref 0), some (.ref 3), none]) rfl ?_
  refine zi_aload_n O d_Pie_countComponents_0 rfl ?_
  refine zi_get O f_Pie_15 d_Pie_countComponents_1 rfl rfl ?_
  refine zi_iconst (v := -1) O d_Pie_countComponents_4 (by decide) ?_
  refine zi_callS O [2] c_Pie_52 k_Arr_fill (m_Arr_fill 40 CE (-1) (by omega)) d_Pie_countComponents_5 ⟨(Nat.le_of_ble_eq_true rfl), (Nat.le_of_ble_eq_true rfl)⟩ ⟨(Nat.le_of_ble_eq_true rfl), (Nat.le_of_ble_eq_true rfl)⟩ rfl (Nat.le_of_ble_eq_true rfl) rfl rfl rfl rfl rfl (Nat.le_of_ble_eq_true rfl) rfl (fun r h' hq hl => ?_)
  obtain ⟨rfl, rfl⟩ := hq
  refine zi_st (st' := []) rfl (zi_h (h' := peH pc co OC (fun _ => -1) (2 * n) PL LB FR TO AT) rfl ?_)
  refine zi_aload_n O d_Pie_countComponents_8 rfl ?_
  refine zi_iconstN O 0 d_Pie_countComponents_9 (by decide) ?_
  refine zi_put O f_Pie_58 d_Pie_countComponents_10 rfl (Nat.le_of_ble_eq_true rfl) (fun _ => rfl) (fun _ => rfl) (by dsimp only [List.set]) ?_
  refine zi_iconstN O 0 d_Pie_countComponents_13 (by decide) ?_
  refine zi_istore_n (ls' := _ :: _ :: some _ :: _) O d_Pie_countComponents_14 rfl (by decide) rfl ?_
  refine zi_for (fun d => [some (.ref 0), some (.ref 3), some (.int (nI d))]) (fun d => peH pc (FF (nxE to_ at_) (2 * n) d).2 OC (FF (nxE to_ at_) (2 * n) d).1 (2 * n) PL LB FR TO AT) 0 (2 * n) (by omega) rfl rfl (fun d _ hd ih => ?_) ?_
  · obtain ⟨g1, g2, g3, g4⟩ := ff_cl hN hp d (by omega)
    have hF := ff_le hN hp (d := d) (by omega)
    refine zi_iload_n O d_Pie_countComponents_15 rfl ?_
    refine zi_aload_n O d_Pie_countComponents_16 rfl ?_
    refine zi_get O f_Pie_30 d_Pie_countComponents_17 rfl rfl ?_
    refine zi_icmp_geN O 54 d_Pie_countComponents_20 (by decide) (by omega) (by omega) (fun c20 => ?_) (fun c20 => ?_)
    · omega
    · refine zi_aload_n O d_Pie_countComponents_23 rfl ?_
      refine zi_get O f_Pie_15 d_Pie_countComponents_24 rfl rfl ?_
      refine zi_iload_n O d_Pie_countComponents_27 rfl ?_
      refine zi_iald O d_Pie_countComponents_28 rfl rfl (by omega) (by decide) ?_
      refine zi_if_ge O 48 d_Pie_countComponents_29 (by decide) (fun c29 => ?_) (fun c29 => ?_)
      · refine zi_iincN (ls' := _ :: _ :: some _ :: _) O 1 d_Pie_countComponents_48 rfl (by decide) rfl (by decide) rfl ?_
        refine zi_goto O 15 d_Pie_countComponents_51 (by decide) ?_
        have e : FF (nxE to_ at_) (2 * n) (d + 1) = FF (nxE to_ at_) (2 * n) d := by rw [FF, if_neg (Int32.not_lt.mpr c29)]
        rw [e] at ih
        exact ih
      · have hf := Int32.not_le.mp c29
        obtain ⟨t, t0, tb, td, t1, t2, tc, tw, tcl⟩ := walk_round (v := nI (FF (nxE to_ at_) (2 * n) d).2) hp g1 (by omega) hf (nI_pos (by omega))
        have hlt := cs_lt (by omega : d < 2 * n) hf
        refine zi_aload_n O d_Pie_countComponents_32 rfl ?_
        refine zi_aload_n O d_Pie_countComponents_33 rfl ?_
        refine zi_iload_n O d_Pie_countComponents_34 rfl ?_
        refine zi_callV O [0, 1, 2, 3, 4, 5, 6, 7, 8] c_Pie_61 k_Pie_followComponent (m_Pie_followComponent hn h hA PL pc (FF (nxE to_ at_) (2 * n) d).2 OC (FF (nxE to_ at_) (2 * n) d).1 d t (by omega) (by omega) t1 t2) d_Pie_countComponents_35 ⟨(Nat.le_of_ble_eq_true rfl), (Nat.le_of_ble_eq_true rfl)⟩ ⟨(Nat.le_of_ble_eq_true rfl), (Nat.le_of_ble_eq_true rfl)⟩ rfl rfl (Nat.le_of_ble_eq_true rfl) rfl rfl rfl rfl rfl (Nat.le_of_ble_eq_true rfl) rfl (fun r h' hq hl => ?_)
        obtain ⟨rfl, rfl⟩ := hq
        refine zi_st (st' := []) rfl (zi_h (h' := peH pc (FF (nxE to_ at_) (2 * n) d).2 OC (gs (nxE to_ at_) (nI (FF (nxE to_ at_) (2 * n) d).2) (FF (nxE to_ at_) (2 * n) d).1 d t) (2 * n) PL LB FR TO AT) rfl ?_)
        refine zi_aload_n O d_Pie_countComponents_38 rfl ?_
        refine zi_dup O d_Pie_countComponents_39 rfl ?_
        refine zi_get O f_Pie_58 d_Pie_countComponents_40 rfl rfl ?_
        refine zi_iconstN O 1 d_Pie_countComponents_43 (by decide) ?_
        first | refine zi_iaddN O d_Pie_countComponents_44 ?_ | refine zi_iadd O d_Pie_countComponents_44 ?_
        refine zi_put O f_Pie_58 d_Pie_countComponents_45 rfl (Nat.le_of_ble_eq_true rfl) (fun _ => rfl) (fun _ => rfl) (by dsimp only [List.set]) ?_
        refine zi_iincN (ls' := _ :: _ :: some _ :: _) O 1 d_Pie_countComponents_48 rfl (by decide) rfl (by decide) rfl ?_
        refine zi_goto O 15 d_Pie_countComponents_51 (by decide) ?_
        have e : FF (nxE to_ at_) (2 * n) (d + 1) = (gs (nxE to_ at_) (nI (FF (nxE to_ at_) (2 * n) d).2) (FF (nxE to_ at_) (2 * n) d).1 d t, (FF (nxE to_ at_) (2 * n) d).2 + 1) := by rw [FF, if_pos hf, tw]
        rw [e] at ih
        exact ih
  · refine zi_iload_n O d_Pie_countComponents_15 rfl ?_
    refine zi_aload_n O d_Pie_countComponents_16 rfl ?_
    refine zi_get O f_Pie_30 d_Pie_countComponents_17 rfl rfl ?_
    refine zi_icmp_geN O 54 d_Pie_countComponents_20 (by decide) (by omega) (by omega) (fun c20 => ?_) (fun c20 => ?_)
    · refine zi_vret O d_Pie_countComponents_54 (Nat.le_of_ble_eq_true rfl) (Nat.le_of_ble_eq_true rfl) (Nat.le_of_ble_eq_true rfl) ?_
      exact ⟨rfl, rfl⟩
    · omega
theorem m_Pie_find {n : Nat} {lab : Nat → Nat} {S : Nat → Int32} {el fr to_ at_ : Nat → Nat} {LB FR TO AT : Nat → Int32} (hn : n ≤ 20) (h : Ed n lab S el fr to_ at_) (hA : EdA n el fr to_ at_ LB FR TO AT) (PL : Nat → Int32) (pc co : Nat) (OC CE : Nat → Int32) : zMet y_Pie_find b_Pie_find 3 none ⟨3, 0, 0, 84⟩ [.ref 0, .int (nI n), .ref 3] (peH pc co OC CE (2 * n) PL LB FR TO AT)
    (fun r h' => r = none ∧ ∃ (OC' : Nat → Int32) (oc : Nat → Nat), h' = peH (rc oc n) (FF (nxE to_ at_) (2 * n) (2 * n)).2 OC' (FF (nxE to_ at_) (2 * n) (2 * n)).1 (2 * n) PL LB FR TO AT ∧ (∀ c, c < n → OC' c = nI (oc c)) ∧ PcE (2 * n) n fr to_ oc) := by
  refine zMet_of (plainFor_of_name (by decide +kernel)) rfl (Nat.le_of_ble_eq_true rfl) (fun z1 z2 z3 z4 z5 z6 z7 z8 z9 z10 z11 z12 z13 z14 O hin => ?_)
  refine zi_ls (ls' := [some (.ref 0), some (.int (nI n)), some (.ref 3)]) rfl ?_
  refine zi_aload_n O d_Pie_find_0 rfl ?_
  refine zi_iload_n O d_Pie_find_1 rfl ?_
  refine zi_aload_n O d_Pie_find_2 rfl ?_
  refine zi_callV O [0, 1, 2, 3, 4, 5, 6, 7, 8] c_Pie_18 k_Pie_findPieces (m_Pie_findPieces hn h hA PL pc co OC CE) d_Pie_find_3 ⟨(Nat.le_of_ble_eq_true rfl), (Nat.le_of_ble_eq_true rfl)⟩ ⟨(Nat.le_of_ble_eq_true rfl), (Nat.le_of_ble_eq_true rfl)⟩ rfl rfl (Nat.le_of_ble_eq_true rfl) rfl rfl rfl rfl rfl (Nat.le_of_ble_eq_true rfl) rfl (fun r h' hq hl => ?_)
  obtain ⟨rfl, OC', oc, rfl, h1, h2⟩ := hq
  refine zi_st (st' := []) rfl (zi_h (h' := peH (rc oc n) co OC' CE (2 * n) PL LB FR TO AT) rfl ?_)
  refine zi_aload_n O d_Pie_find_6 rfl ?_
  refine zi_aload_n O d_Pie_find_7 rfl ?_
  refine zi_callV O [0, 1, 2, 3, 4, 5, 6, 7, 8] c_Pie_22 k_Pie_countComponents (m_Pie_countComponents hn h hA PL (rc oc n) co OC' CE) d_Pie_find_8 ⟨(Nat.le_of_ble_eq_true rfl), (Nat.le_of_ble_eq_true rfl)⟩ ⟨(Nat.le_of_ble_eq_true rfl), (Nat.le_of_ble_eq_true rfl)⟩ rfl rfl (Nat.le_of_ble_eq_true rfl) rfl rfl rfl rfl rfl (Nat.le_of_ble_eq_true rfl) rfl (fun r h' hq hl => ?_)
  obtain ⟨rfl, rfl⟩ := hq
  refine zi_st (st' := []) rfl (zi_h (h' := peH (rc oc n) (FF (nxE to_ at_) (2 * n) (2 * n)).2 OC' (FF (nxE to_ at_) (2 * n) (2 * n)).1 (2 * n) PL LB FR TO AT) rfl ?_)
  refine zi_vret O d_Pie_find_11 (Nat.le_of_ble_eq_true rfl) (Nat.le_of_ble_eq_true rfl) (Nat.le_of_ble_eq_true rfl) ?_
  exact ⟨rfl, OC', oc, rfl, h1, h2⟩
end
section
/-! Diagram: its cells; chart -/
abbrev diaH (ci : Int32) (n : Nat) (L S : Nat → Int32) (m : Nat) (PL LB FR TO AT : Nat → Int32) (F : Nat) (OF RD ST : Nat → Int32) (pc co : Nat) (OC CE SL : Nat → Int32) : List zE :=
  [zo 1 [.ref 1, .ref 4, .ref 10, .ref 14, .ref 17, .int ci], zo 2 [.ref 2, .ref 3, .int (nI n)], za 80 L, za 20 S, zo 3 [.ref 5, .ref 6, .ref 7, .ref 8, .ref 9, .int (nI m)], za 80 PL, za 40 LB, za 40 FR, za 40 TO, za 80 AT, zo 4 [.ref 11, .ref 12, .ref 13, .int (nI F)], za 80 OF, za 80 RD, za 81 ST, zo 5 [.ref 15, .ref 16, .int (nI pc), .int (nI co)], za 20 OC, za 40 CE, za 80 SL]
def Sg (n : Nat) (S : Nat → Int32) : Prop := ∀ c, c < n → S c = nI 1 ∨ S c = -1
/-- a row of crossings, whatever its chart is -/
def Dr (n : Nat) (lab : Nat → Nat) (S : Nat → Int32) (ci : Int32) (h : List zE) : Prop := ∃ (L : Nat → Int32) (m : Nat) (PL LB FR TO AT : Nat → Int32) (F : Nat) (OF RD ST : Nat → Int32) (pc co : Nat) (OC CE SL : Nat → Int32), h = diaH ci n L S m PL LB FR TO AT F OF RD ST pc co OC CE SL ∧ RowOK n L lab ∧ Sg n S ∧ ST 0 = nI 0
/-- a row of crossings with its chart -/
def Dia (n : Nat) (lab : Nat → Nat) (S : Nat → Int32) (ci : Int32) (el fr to_ at_ oc : Nat → Nat) (h : List zE) : Prop := ∃ (L PL LB FR TO AT RD ST OC SL : Nat → Int32), h = diaH ci n L S (2 * n) PL LB FR TO AT (FF (nxD fr to_ at_) (4 * n) (4 * n)).2 (FF (nxD fr to_ at_) (4 * n) (4 * n)).1 RD ST (rc oc n) (FF (nxE to_ at_) (2 * n) (2 * n)).2 OC (FF (nxE to_ at_) (2 * n) (2 * n)).1 SL ∧ RowOK n L lab ∧ Sg n S ∧ ST 0 = nI 0 ∧ Ed n lab S el fr to_ at_ ∧ EdA n el fr to_ at_ LB FR TO AT ∧ RdOK (4 * n) (nxD fr to_ at_) (4 * n) RD ST ∧ (∀ c, c < n → OC c = nI (oc c)) ∧ PcE (2 * n) n fr to_ oc
set_option maxHeartbeats 1000000 in
theorem m_Dia_chart {n : Nat} {lab : Nat → Nat} {S : Nat → Int32} {ci : Int32} {h : List zE} (hD : Dr n lab S ci h) : zMet y_Dia_chart b_Dia_chart 2 (some .int) ⟨4, 0, 0, 110⟩ [.ref 0] h
    (fun r h' => (r = some (.int (nI 1)) ∧ ¬ C1 n lab ∧ Dr n lab S ci h') ∨ (r = some (.int (nI 2)) ∧ C1 n lab ∧ ¬ C2 n lab S ∧ Dr n lab S ci h') ∨ (C1 n lab ∧ C2 n lab S ∧ ∃ el fr to_ at_ oc : Nat → Nat, Dia n lab S ci el fr to_ at_ oc h' ∧ r = some (.int (nI (if (FF (nxD fr to_ at_) (4 * n) (4 * n)).2 = n + 2 * rc oc n then 0 else 3))))) := by
  obtain ⟨L, m, PL, LB, FR, TO, AT, F, OF, RD, ST, pc, co, OC, CE, SL, rfl, hR, hG, hz⟩ := hD
  have hn := hR.1
  refine zMet_of (plainFor_of_name (by decide +kernel)) rfl (Nat.le_of_ble_eq_true rfl) (fun z1 z2 z3 z4 z5 z6 z7 z8 z9 z10 z11 z12 z13 z14 O hin => ?_)
  refine zi_ls (ls' := [some (.ref 0), none]) rfl ?_
  refine zi_aload_n O d_Dia_chart_0 rfl ?_
  refine zi_get O f_Dia_21 d_Dia_chart_1 rfl rfl ?_
  refine zi_aload_n O d_Dia_chart_4 rfl ?_
  refine zi_get O f_Dia_12 d_Dia_chart_5 rfl rfl ?_
  refine zi_callV O [4, 5, 6, 7, 8, 9, 1, 2, 3] c_Dia_43 k_Edg_find (m_Edg_find m PL LB FR TO AT n L S lab hR) d_Dia_chart_8 ⟨(Nat.le_of_ble_eq_true rfl), (Nat.le_of_ble_eq_true rfl)⟩ ⟨(Nat.le_of_ble_eq_true rfl), (Nat.le_of_ble_eq_true rfl)⟩ rfl rfl (Nat.le_of_ble_eq_true rfl) rfl rfl rfl rfl rfl (Nat.le_of_ble_eq_true rfl) rfl (fun r h' hq hl => ?_)
  obtain ⟨m', PL', LB', FR', TO', AT', rfl, hq⟩ := hq
  refine zi_h (h' := diaH ci n L S m' PL' LB' FR' TO' AT' F OF RD ST pc co OC CE SL) rfl ?_
  rcases hq with ⟨rfl, k1⟩ | ⟨rfl, k1, k2⟩ | ⟨rfl, k1, k2, rfl, el, fr, to_, at_, hE, hA⟩
  · refine zi_st (st' := [.int (nI 1)]) rfl ?_
    refine zi_istore_n (ls' := _ :: some _ :: _) O d_Dia_chart_11 rfl (by decide) rfl ?_
    refine zi_iload_n O d_Dia_chart_12 rfl ?_
    refine zi_if_eq O 18 d_Dia_chart_13 (by decide) (fun c13 => ?_) (fun c13 => ?_)
    · exact absurd c13 (by decide)
    · refine zi_iload_n O d_Dia_chart_16 rfl ?_
      refine zi_iret O d_Dia_chart_17 (Nat.le_of_ble_eq_true rfl) (Nat.le_of_ble_eq_true rfl) (Nat.le_of_ble_eq_true rfl) ?_
      exact Or.inl ⟨rfl, k1, L, m', PL', LB', FR', TO', AT', F, OF, RD, ST, pc, co, OC, CE, SL, rfl, hR, hG, hz⟩
  · refine zi_st (st' := [.int (nI 2)]) rfl ?_
    refine zi_istore_n (ls' := _ :: some _ :: _) O d_Dia_chart_11 rfl (by decide) rfl ?_
    refine zi_iload_n O d_Dia_chart_12 rfl ?_
    refine zi_if_eq O 18 d_Dia_chart_13 (by decide) (fun c13 => ?_) (fun c13 => ?_)
    · exact absurd c13 (by decide)
    · refine zi_iload_n O d_Dia_chart_16 rfl ?_
      refine zi_iret O d_Dia_chart_17 (Nat.le_of_ble_eq_true rfl) (Nat.le_of_ble_eq_true rfl) (Nat.le_of_ble_eq_true rfl) ?_
      exact Or.inr (Or.inl ⟨rfl, k1, k2, L, m', PL', LB', FR', TO', AT', F, OF, RD, ST, pc, co, OC, CE, SL, rfl, hR, hG, hz⟩)
  · refine zi_st (st' := [.int (nI 0)]) rfl ?_
    refine zi_istore_n (ls' := _ :: some _ :: _) O d_Dia_chart_11 rfl (by decide) rfl ?_
    refine zi_iload_n O d_Dia_chart_12 rfl ?_
    refine zi_if_eq O 18 d_Dia_chart_13 (by decide) (fun c13 => ?_) (fun c13 => ?_)
    · refine zi_aload_n O d_Dia_chart_18 rfl ?_
      refine zi_get O f_Dia_28 d_Dia_chart_19 rfl rfl ?_
      refine zi_aload_n O d_Dia_chart_22 rfl ?_
      refine zi_get O f_Dia_21 d_Dia_chart_23 rfl rfl ?_
      refine zi_callV O [10, 11, 12, 13, 4, 5, 6, 7, 8, 9] c_Dia_47 k_Fac_find (m_Fac_find hn hE hA PL' F OF RD ST hz) d_Dia_chart_26 ⟨(Nat.le_of_ble_eq_true rfl), (Nat.le_of_ble_eq_true rfl)⟩ ⟨(Nat.le_of_ble_eq_true rfl), (Nat.le_of_ble_eq_true rfl)⟩ rfl rfl (Nat.le_of_ble_eq_true rfl) rfl rfl rfl rfl rfl (Nat.le_of_ble_eq_true rfl) rfl (fun r h' hq hl => ?_)
      obtain ⟨rfl, RD', ST', rfl, hRd, hz'⟩ := hq
      refine zi_st (st' := []) rfl (zi_h (h' := diaH ci n L S (2 * n) PL' LB' FR' TO' AT' (FF (nxD fr to_ at_) (4 * n) (4 * n)).2 (FF (nxD fr to_ at_) (4 * n) (4 * n)).1 RD' ST' pc co OC CE SL) rfl ?_)
      refine zi_aload_n O d_Dia_chart_29 rfl ?_
      refine zi_get O f_Dia_35 d_Dia_chart_30 rfl rfl ?_
      refine zi_aload_n O d_Dia_chart_33 rfl ?_
      refine zi_get O f_Dia_12 d_Dia_chart_34 rfl rfl ?_
      refine zi_get O f_Dia_50 d_Dia_chart_37 rfl rfl ?_
      refine zi_aload_n O d_Dia_chart_40 rfl ?_
      refine zi_get O f_Dia_21 d_Dia_chart_41 rfl rfl ?_
      refine zi_callV O [14, 15, 16, 4, 5, 6, 7, 8, 9] c_Dia_54 k_Pie_find (m_Pie_find hn hE hA PL' pc co OC CE) d_Dia_chart_44 ⟨(Nat.le_of_ble_eq_true rfl), (Nat.le_of_ble_eq_true rfl)⟩ ⟨(Nat.le_of_ble_eq_true rfl), (Nat.le_of_ble_eq_true rfl)⟩ rfl rfl (Nat.le_of_ble_eq_true rfl) rfl rfl rfl rfl rfl (Nat.le_of_ble_eq_true rfl) rfl (fun r h' hq hl => ?_)
      obtain ⟨rfl, OC', oc, rfl, hO, hP⟩ := hq
      refine zi_st (st' := []) rfl (zi_h (h' := diaH ci n L S (2 * n) PL' LB' FR' TO' AT' (FF (nxD fr to_ at_) (4 * n) (4 * n)).2 (FF (nxD fr to_ at_) (4 * n) (4 * n)).1 RD' ST' (rc oc n) (FF (nxE to_ at_) (2 * n) (2 * n)).2 OC' (FF (nxE to_ at_) (2 * n) (2 * n)).1 SL) rfl ?_)
      have hF := ff_le (by omega) (perm_D hE) (Nat.le_refl (4 * n))
      have hrc : rc oc n ≤ n := by
        have : ∀ k, rc oc k ≤ k := by
          intro k
          induction k with
          | zero => exact Nat.le_refl _
          | succ k ih => rw [rc]; split <;> omega
        exact this n
      refine zi_aload_n O d_Dia_chart_47 rfl ?_
      refine zi_get O f_Dia_28 d_Dia_chart_48 rfl rfl ?_
      refine zi_get O f_Dia_57 d_Dia_chart_51 rfl rfl ?_
      refine zi_aload_n O d_Dia_chart_54 rfl ?_
      refine zi_get O f_Dia_12 d_Dia_chart_55 rfl rfl ?_
      refine zi_get O f_Dia_50 d_Dia_chart_58 rfl rfl ?_
      refine zi_iconstN O 2 d_Dia_chart_61 (by decide) ?_
      refine zi_aload_n O d_Dia_chart_62 rfl ?_
      refine zi_get O f_Dia_35 d_Dia_chart_63 rfl rfl ?_
      refine zi_get O f_Dia_58 d_Dia_chart_66 rfl rfl ?_
      first | refine zi_imulN O d_Dia_chart_69 ?_ | refine zi_imul O d_Dia_chart_69 ?_
      first | refine zi_iaddN O d_Dia_chart_70 ?_ | refine zi_iadd O d_Dia_chart_70 ?_
      refine zi_icmp_neN O 78 d_Dia_chart_71 (by decide) (by omega) (by omega) (fun c71 => ?_) (fun c71 => ?_)
      · refine zi_iconstN O 3 d_Dia_chart_78 (by decide) ?_
        refine zi_iret O d_Dia_chart_79 (Nat.le_of_ble_eq_true rfl) (Nat.le_of_ble_eq_true rfl) (Nat.le_of_ble_eq_true rfl) ?_
        refine Or.inr (Or.inr ⟨k1, k2, el, fr, to_, at_, oc, ⟨L, PL', LB', FR', TO', AT', RD', ST', OC', SL, rfl, hR, hG, hz', hE, hA, hRd, hO, hP⟩, ?_⟩)
        rw [if_neg c71]
      · refine zi_iconstN O 0 d_Dia_chart_74 (by decide) ?_
        refine zi_goto O 79 d_Dia_chart_75 (by decide) ?_
        refine zi_iret O d_Dia_chart_79 (Nat.le_of_ble_eq_true rfl) (Nat.le_of_ble_eq_true rfl) (Nat.le_of_ble_eq_true rfl) ?_
        refine Or.inr (Or.inr ⟨k1, k2, el, fr, to_, at_, oc, ⟨L, PL', LB', FR', TO', AT', RD', ST', OC', SL, rfl, hR, hG, hz', hE, hA, hRd, hO, hP⟩, ?_⟩)
        rw [if_pos c71]
    · exact absurd rfl c13
end
section
/-! patterns of faces -/
def us (x y : Int32) : Int32 := (x.toUInt32 >>> (y.toUInt32 &&& Int32.toUInt32 31)).toInt32
def bc1 (x : Int32) : Int32 := x - (us x (nI 1) &&& 1431655765)
def bc2 (x : Int32) : Int32 := (x &&& 858993459) + (us x (nI 2) &&& 858993459)
def bc3 (x : Int32) : Int32 := (x + us x (nI 4)) &&& 252645135
def bc4 (x : Int32) : Int32 := x + us x (nI 8)
def bc5 (x : Int32) : Int32 := x + us x (nI 16)
def bcF (x : Int32) : Int32 := bc5 (bc4 (bc3 (bc2 (bc1 x)))) &&& nI 63
theorem m_Int_bitCount (x : Int32) : zPu y_Int_bitCount b_Int_bitCount 1 (some .int) ⟨0, 0, 0, 0⟩ [.int x] [] (.int (bcF x)) := by
  refine zMet_of (by decide +kernel) rfl (Nat.le_of_ble_eq_true rfl) (fun z1 z2 z3 z4 z5 z6 z7 z8 z9 z10 z11 z12 z13 z14 O hin => ?_)
  refine zi_ls (ls' := [some (.int x)]) rfl ?_
  refine zi_iload_n O d_Int_bitCount_0 rfl ?_
  refine zi_iload_n O d_Int_bitCount_1 rfl ?_
  refine zi_iconstN O 1 d_Int_bitCount_2 (by decide) ?_
  refine zi_iushr O d_Int_bitCount_3 ?_
  refine zi_ldcw O z_k_265 d_Int_bitCount_4 ?_
  first | refine zi_iandN O 1 1 d_Int_bitCount_7 (by decide) (by omega) ?_ | refine zi_iandN O 3 2 d_Int_bitCount_7 (by decide) (by omega) ?_ | refine zi_iand O d_Int_bitCount_7 ?_
  first | refine zi_isubN O d_Int_bitCount_8 (by omega) ?_ | refine zi_isub O d_Int_bitCount_8 ?_
  refine zi_st (st' := [.int (bc1 x)]) rfl ?_
  generalize hx1 : bc1 x = x1
  refine zi_istore_n (ls' := some _ :: _) O d_Int_bitCount_9 rfl (by decide) rfl ?_
  refine zi_iload_n O d_Int_bitCount_10 rfl ?_
  refine zi_ldcw O z_k_266 d_Int_bitCount_11 ?_
  first | refine zi_iandN O 1 1 d_Int_bitCount_14 (by decide) (by omega) ?_ | refine zi_iandN O 3 2 d_Int_bitCount_14 (by decide) (by omega) ?_ | refine zi_iand O d_Int_bitCount_14 ?_
  refine zi_iload_n O d_Int_bitCount_15 rfl ?_
  refine zi_iconstN O 2 d_Int_bitCount_16 (by decide) ?_
  refine zi_iushr O d_Int_bitCount_17 ?_
  refine zi_ldcw O z_k_266 d_Int_bitCount_18 ?_
  first | refine zi_iandN O 1 1 d_Int_bitCount_21 (by decide) (by omega) ?_ | refine zi_iandN O 3 2 d_Int_bitCount_21 (by decide) (by omega) ?_ | refine zi_iand O d_Int_bitCount_21 ?_
  first | refine zi_iaddN O d_Int_bitCount_22 ?_ | refine zi_iadd O d_Int_bitCount_22 ?_
  refine zi_st (st' := [.int (bc2 x1)]) rfl ?_
  generalize hx2 : bc2 x1 = x2
  refine zi_istore_n (ls' := some _ :: _) O d_Int_bitCount_23 rfl (by decide) rfl ?_
  refine zi_iload_n O d_Int_bitCount_24 rfl ?_
  refine zi_iload_n O d_Int_bitCount_25 rfl ?_
  refine zi_iconstN O 4 d_Int_bitCount_26 (by decide) ?_
  refine zi_iushr O d_Int_bitCount_27 ?_
  first | refine zi_iaddN O d_Int_bitCount_28 ?_ | refine zi_iadd O d_Int_bitCount_28 ?_
  refine zi_ldcw O z_k_267 d_Int_bitCount_29 ?_
  first | refine zi_iandN O 1 1 d_Int_bitCount_32 (by decide) (by omega) ?_ | refine zi_iandN O 3 2 d_Int_bitCount_32 (by decide) (by omega) ?_ | refine zi_iand O d_Int_bitCount_32 ?_
  refine zi_st (st' := [.int (bc3 x2)]) rfl ?_
  generalize hx3 : bc3 x2 = x3
  refine zi_istore_n (ls' := some _ :: _) O d_Int_bitCount_33 rfl (by decide) rfl ?_
  refine zi_iload_n O d_Int_bitCount_34 rfl ?_
  refine zi_iload_n O d_Int_bitCount_35 rfl ?_
  refine zi_bipushN O 8 d_Int_bitCount_36 (by decide) ?_
  refine zi_iushr O d_Int_bitCount_38 ?_
  first | refine zi_iaddN O d_Int_bitCount_39 ?_ | refine zi_iadd O d_Int_bitCount_39 ?_
  refine zi_st (st' := [.int (bc4 x3)]) rfl ?_
  generalize hx4 : bc4 x3 = x4
  refine zi_istore_n (ls' := some _ :: _) O d_Int_bitCount_40 rfl (by decide) rfl ?_
  refine zi_iload_n O d_Int_bitCount_41 rfl ?_
  refine zi_iload_n O d_Int_bitCount_42 rfl ?_
  refine zi_bipushN O 16 d_Int_bitCount_43 (by decide) ?_
  refine zi_iushr O d_Int_bitCount_45 ?_
  first | refine zi_iaddN O d_Int_bitCount_46 ?_ | refine zi_iadd O d_Int_bitCount_46 ?_
  refine zi_st (st' := [.int (bc5 x4)]) rfl ?_
  generalize hx5 : bc5 x4 = x5
  refine zi_istore_n (ls' := some _ :: _) O d_Int_bitCount_47 rfl (by decide) rfl ?_
  refine zi_iload_n O d_Int_bitCount_48 rfl ?_
  refine zi_bipushN O 63 d_Int_bitCount_49 (by decide) ?_
  first | refine zi_iandN O 1 1 d_Int_bitCount_51 (by decide) (by omega) ?_ | refine zi_iandN O 3 2 d_Int_bitCount_51 (by decide) (by omega) ?_ | refine zi_iand O d_Int_bitCount_51 ?_
  refine zi_iret O d_Int_bitCount_52 (Nat.le_of_ble_eq_true rfl) (Nat.le_of_ble_eq_true rfl) (Nat.le_of_ble_eq_true rfl) ?_
  exact ⟨by rw [bcF, hx1, hx2, hx3, hx4, hx5], rfl⟩
def bit (c : Nat) : Int32 := nI 1 <<< (nI c &&& 31)
set_option maxRecDepth 100000 in
theorem bc_three : ∀ a, a < 20 → ∀ b, b < 20 → ∀ c, c < 20 → (bcF (((nI 0 ||| bit a) ||| bit b) ||| bit c) = nI 3 ↔ (a ≠ b ∧ b ≠ c ∧ a ≠ c)) := by decide +kernel
theorem ht_three : ∀ a, a < 3 → ∀ b, b < 3 → ∀ c, c < 3 → ((((nI 0 ||| bit a) ||| bit b) ||| bit c) = nI 7 ↔ (a ≠ b ∧ b ≠ c ∧ a ≠ c)) := by decide +kernel
end
section
/-! patterns of faces -/
/-- at how many ends an edge is upper; the crossing ahead of a dart -/
def ue (fr to_ : Nat → Nat) (e : Nat) : Nat := fr e % 2 + to_ e % 2
def ca (fr to_ : Nat → Nat) (d : Nat) : Nat := ar fr to_ d / 4
abbrev isFin (fr to_ : Nat → Nat) (a b : Nat) : Prop := ca fr to_ a ≠ ca fr to_ b ∧ ue fr to_ (a / 2) ≠ 1 ∧ ue fr to_ (b / 2) = 2 - ue fr to_ (a / 2)
abbrev isTri (fr to_ : Nat → Nat) (a b c : Nat) : Prop := (ca fr to_ a ≠ ca fr to_ b ∧ ca fr to_ b ≠ ca fr to_ c ∧ ca fr to_ a ≠ ca fr to_ c) ∧ ue fr to_ (a / 2) ≠ ue fr to_ (b / 2) ∧ ue fr to_ (b / 2) ≠ ue fr to_ (c / 2) ∧ ue fr to_ (a / 2) ≠ ue fr to_ (c / 2)
def pat (fr to_ : Nat → Nat) (nx : Nat → Nat) (l t : Nat) : Nat := if t = 1 then 1 else if t = 2 then (if isFin fr to_ l (nx l) then 2 else 0) else if t = 3 then (if isTri fr to_ l (nx l) (nx (nx l)) then 3 else 0) else 0
/-- face k begins with the dart l and has t darts -/
def FaceK (n : Nat) (nx : Nat → Nat) (k l t : Nat) : Prop := l < 4 * n ∧ 0 < t ∧ it nx t l = l ∧ (∀ i, 0 < i → i < t → it nx i l ≠ l) ∧ (FF nx (4 * n) (4 * n)).1 l = nI k ∧ ∀ j, j < l → (FF nx (4 * n) (4 * n)).1 j ≠ nI k
theorem faceK_uniq {n : Nat} {nx : Nat → Nat} {k l t l' t' : Nat} (h : FaceK n nx k l t) (h' : FaceK n nx k l' t') : l' = l ∧ t' = t := by
  obtain ⟨a1, a2, a3, a4, a5, a6⟩ := h
  obtain ⟨b1, b2, b3, b4, b5, b6⟩ := h'
  have : l' = l := by
    rcases Nat.lt_trichotomy l' l with c | c | c
    · exact absurd b5 (a6 l' c)
    · exact c
    · exact absurd a5 (b6 l c)
  subst this
  refine ⟨rfl, ?_⟩
  rcases Nat.lt_trichotomy t' t with c | c | c
  · exact absurd b3 (a4 t' b2 c)
  · exact c
  · exact absurd a3 (b4 t a2 c)
theorem rd_face {n : Nat} {nx : Nat → Nat} {RD ST : Nat → Int32} (h : RdOK (4 * n) nx (4 * n) RD ST) {k : Nat} (hk : k < (FF nx (4 * n) (4 * n)).2) : ∃ l t a, FaceK n nx k l t ∧ a + t ≤ 4 * n ∧ ST k = nI a ∧ ST (k + 1) = nI (a + t) ∧ ∀ i, i < t → RD (a + i) = nI (it nx i l) := by
  obtain ⟨st, h1, h2, h3, h4⟩ := h
  obtain ⟨l, t, a1, a2, a3, a4, a5, a6, a7, a8, a9⟩ := h4 k hk
  have := cs_le (FF nx (4 * n) (4 * n)).1 (4 * n)
  exact ⟨l, t, st k, ⟨a1, a2, a6, a7, a8, a9⟩, by omega, h1 k (by omega), by rw [h1 (k + 1) (by omega), a3], a5⟩
theorem ue_le (fr to_ : Nat → Nat) (e : Nat) : ue fr to_ e < 3 := by unfold ue; omega
section
variable {n : Nat} {lab : Nat → Nat} {S : Nat → Int32} {ci : Int32} {el fr to_ at_ oc : Nat → Nat} {h : List zE}
theorem m_Dia_crossingAhead (hD : Dia n lab S ci el fr to_ at_ oc h) (d : Nat) (hd : d < 4 * n) : zPu y_Dia_crossingAhead b_Dia_crossingAhead 2 (some .int) ⟨1, 0, 0, 24⟩ [.ref 0, .int (nI d)] h (.int (nI (ca fr to_ d))) := by
  obtain ⟨L, PL, LB, FR, TO, AT, RD, ST, OC, SL, rfl, hR, hG, hz, hE, hA, hRd, hO, hP⟩ := hD
  have hn := hR.1
  have h1 := ar_lt hE hd
  refine zMet_of (plainFor_of_name (by decide +kernel)) rfl (Nat.le_of_ble_eq_true rfl) (fun z1 z2 z3 z4 z5 z6 z7 z8 z9 z10 z11 z12 z13 z14 O hin => ?_)
  refine zi_ls (ls' := [some (.ref 0), some (.int (nI d))]) rfl ?_
  refine zi_aload_n O d_Dia_crossingAhead_0 rfl ?_
  refine zi_get O f_Dia_21 d_Dia_crossingAhead_1 rfl rfl ?_
  refine zi_iload_n O d_Dia_crossingAhead_4 rfl ?_
  refine zi_pureV O [4, 5, 6, 7, 8, 9] c_Dia_86 k_Edg_arrival (m_Edg_arrival (2 * n) PL LB FR TO AT d (by omega)) d_Dia_crossingAhead_5 ⟨(Nat.le_of_ble_eq_true rfl), (Nat.le_of_ble_eq_true rfl)⟩ ⟨(Nat.le_of_ble_eq_true rfl), (Nat.le_of_ble_eq_true rfl)⟩ rfl rfl (Nat.le_of_ble_eq_true rfl) rfl rfl rfl rfl rfl (Nat.le_of_ble_eq_true rfl) rfl ?_
  have e : (if d % 2 = 0 then TO (d / 2) else FR (d / 2)) = nI (ar fr to_ d) := by
    obtain ⟨-, q2, q3⟩ := hA.1 (d / 2) (by omega)
    unfold ar
    split
    · exact q3
    · exact q2
  rw [e]
  refine zi_iconstN O 2 d_Dia_crossingAhead_8 (by decide) ?_
  first | refine zi_ishrN O 2 2 d_Dia_crossingAhead_9 (by decide) (by omega) ?_ | refine zi_ishrN O 1 1 d_Dia_crossingAhead_9 (by decide) (by omega) ?_
  refine zi_iret O d_Dia_crossingAhead_10 (Nat.le_of_ble_eq_true rfl) (Nat.le_of_ble_eq_true rfl) (Nat.le_of_ble_eq_true rfl) ?_
  exact ⟨rfl, rfl⟩
theorem m_Dia_isFinger (hD : Dia n lab S ci el fr to_ at_ oc h) (a b : Nat) (ha : a < 4 * n) (hb : b < 4 * n) : zPu y_Dia_isFinger b_Dia_isFinger 4 (some .boolean) ⟨2, 0, 0, 60⟩ [.ref 0, .int (nI a), .int (nI b)] h (.int (zb (isFin fr to_ a b))) := by
  have hD' := hD
  obtain ⟨L, PL, LB, FR, TO, AT, RD, ST, OC, SL, rfl, hR, hG, hz, hE, hA, hRd, hO, hP⟩ := hD
  have hn := hR.1
  have h1 := hE.1 (a / 2) (by omega)
  have h2 := hE.1 (b / 2) (by omega)
  have h3 := hA.1 (a / 2) (by omega)
  have h4 := hA.1 (b / 2) (by omega)
  have h5 := ar_lt hE ha
  have h6 := ar_lt hE hb
  have h7 := ue_le fr to_ (a / 2)
  have h8 := ue_le fr to_ (b / 2)
  have c1 : ca fr to_ a < 20 := by unfold ca; omega
  have c2 : ca fr to_ b < 20 := by unfold ca; omega
  refine zMet_of (plainFor_of_name (by decide +kernel)) rfl (Nat.le_of_ble_eq_true rfl) (fun z1 z2 z3 z4 z5 z6 z7 z8 z9 z10 z11 z12 z13 z14 O hin => ?_)
  refine zi_ls (ls' := [some (.ref 0), some (.int (nI a)), some (.int (nI b)), none]) rfl ?_
  refine zi_aload_n O d_Dia_isFinger_0 rfl ?_
  refine zi_get O f_Dia_21 d_Dia_isFinger_1 rfl rfl ?_
  refine zi_iload_n O d_Dia_isFinger_4 rfl ?_
  refine zi_iconstN O 1 d_Dia_isFinger_5 (by decide) ?_
  first | refine zi_ishrN O 2 2 d_Dia_isFinger_6 (by decide) (by omega) ?_ | refine zi_ishrN O 1 1 d_Dia_isFinger_6 (by decide) (by omega) ?_
  refine zi_pureV O [4, 5, 6, 7, 8, 9] c_Dia_75 k_Edg_upperEnds (m_Edg_upperEnds (2 * n) PL LB FR TO AT (a / 2 ^ 1) (fr (a / 2)) (to_ (a / 2)) (by omega) h3.2.1 h3.2.2 (by omega) (by omega)) d_Dia_isFinger_7 ⟨(Nat.le_of_ble_eq_true rfl), (Nat.le_of_ble_eq_true rfl)⟩ ⟨(Nat.le_of_ble_eq_true rfl), (Nat.le_of_ble_eq_true rfl)⟩ rfl rfl (Nat.le_of_ble_eq_true rfl) rfl rfl rfl rfl rfl (Nat.le_of_ble_eq_true rfl) rfl ?_
  refine zi_st (st' := [.int (nI (ue fr to_ (a / 2)))]) rfl ?_
  refine zi_istore_n (ls' := _ :: _ :: _ :: some _ :: _) O d_Dia_isFinger_10 rfl (by decide) rfl ?_
  refine zi_aload_n O d_Dia_isFinger_11 rfl ?_
  refine zi_iload_n O d_Dia_isFinger_12 rfl ?_
  refine zi_selfP O c_Dia_78 k_Dia_crossingAhead (m_Dia_crossingAhead hD' a ha) d_Dia_isFinger_13 ⟨(Nat.le_of_ble_eq_true rfl), (Nat.le_of_ble_eq_true rfl)⟩ ⟨(Nat.le_of_ble_eq_true rfl), (Nat.le_of_ble_eq_true rfl)⟩ rfl rfl (Nat.le_of_ble_eq_true rfl) rfl rfl rfl (Nat.le_of_ble_eq_true rfl) rfl ?_
  refine zi_aload_n O d_Dia_isFinger_16 rfl ?_
  refine zi_iload_n O d_Dia_isFinger_17 rfl ?_
  refine zi_selfP O c_Dia_78 k_Dia_crossingAhead (m_Dia_crossingAhead hD' b hb) d_Dia_isFinger_18 ⟨(Nat.le_of_ble_eq_true rfl), (Nat.le_of_ble_eq_true rfl)⟩ ⟨(Nat.le_of_ble_eq_true rfl), (Nat.le_of_ble_eq_true rfl)⟩ rfl rfl (Nat.le_of_ble_eq_true rfl) rfl rfl rfl (Nat.le_of_ble_eq_true rfl) rfl ?_
  refine zi_icmp_eqN O 49 d_Dia_isFinger_21 (by decide) (by omega) (by omega) (fun c21 => ?_) (fun c21 => ?_)
  · refine zi_iconstN O 0 d_Dia_isFinger_49 (by decide) ?_
    refine zi_zret O d_Dia_isFinger_50 rfl (Nat.le_of_ble_eq_true rfl) (Nat.le_of_ble_eq_true rfl) (Nat.le_of_ble_eq_true rfl) ?_
    exact ⟨by rw [zb_f (fun z => z.1 c21)]; rfl, rfl⟩
  · refine zi_iload_n O d_Dia_isFinger_24 rfl ?_
    refine zi_iconstN O 1 d_Dia_isFinger_25 (by decide) ?_
    refine zi_icmp_eqN O 49 d_Dia_isFinger_26 (by decide) (by omega) (by omega) (fun c26 => ?_) (fun c26 => ?_)
    · refine zi_iconstN O 0 d_Dia_isFinger_49 (by decide) ?_
      refine zi_zret O d_Dia_isFinger_50 rfl (Nat.le_of_ble_eq_true rfl) (Nat.le_of_ble_eq_true rfl) (Nat.le_of_ble_eq_true rfl) ?_
      exact ⟨by rw [zb_f (fun z => z.2.1 c26)]; rfl, rfl⟩
    · refine zi_aload_n O d_Dia_isFinger_29 rfl ?_
      refine zi_get O f_Dia_21 d_Dia_isFinger_30 rfl rfl ?_
      refine zi_iload_n O d_Dia_isFinger_33 rfl ?_
      refine zi_iconstN O 1 d_Dia_isFinger_34 (by decide) ?_
      first | refine zi_ishrN O 2 2 d_Dia_isFinger_35 (by decide) (by omega) ?_ | refine zi_ishrN O 1 1 d_Dia_isFinger_35 (by decide) (by omega) ?_
      refine zi_pureV O [4, 5, 6, 7, 8, 9] c_Dia_75 k_Edg_upperEnds (m_Edg_upperEnds (2 * n) PL LB FR TO AT (b / 2 ^ 1) (fr (b / 2)) (to_ (b / 2)) (by omega) h4.2.1 h4.2.2 (by omega) (by omega)) d_Dia_isFinger_36 ⟨(Nat.le_of_ble_eq_true rfl), (Nat.le_of_ble_eq_true rfl)⟩ ⟨(Nat.le_of_ble_eq_true rfl), (Nat.le_of_ble_eq_true rfl)⟩ rfl rfl (Nat.le_of_ble_eq_true rfl) rfl rfl rfl rfl rfl (Nat.le_of_ble_eq_true rfl) rfl ?_
      refine zi_st (st' := [.int (nI (ue fr to_ (b / 2)))]) rfl ?_
      refine zi_iconstN O 2 d_Dia_isFinger_39 (by decide) ?_
      refine zi_iload_n O d_Dia_isFinger_40 rfl ?_
      first | refine zi_isubN O d_Dia_isFinger_41 (by omega) ?_ | refine zi_isub O d_Dia_isFinger_41 ?_
      refine zi_icmp_neN O 49 d_Dia_isFinger_42 (by decide) (by omega) (by omega) (fun c42 => ?_) (fun c42 => ?_)
      · refine zi_iconstN O 0 d_Dia_isFinger_49 (by decide) ?_
        refine zi_zret O d_Dia_isFinger_50 rfl (Nat.le_of_ble_eq_true rfl) (Nat.le_of_ble_eq_true rfl) (Nat.le_of_ble_eq_true rfl) ?_
        exact ⟨by rw [zb_f (fun z => c42 z.2.2)]; rfl, rfl⟩
      · refine zi_iconstN O 1 d_Dia_isFinger_45 (by decide) ?_
        refine zi_goto O 50 d_Dia_isFinger_46 (by decide) ?_
        refine zi_zret O d_Dia_isFinger_50 rfl (Nat.le_of_ble_eq_true rfl) (Nat.le_of_ble_eq_true rfl) (Nat.le_of_ble_eq_true rfl) ?_
        exact ⟨by rw [zb_t ⟨c21, c26, c42⟩]; rfl, rfl⟩
set_option maxHeartbeats 1000000 in
theorem m_Dia_isTriangle (hD : Dia n lab S ci el fr to_ at_ oc h) (k l : Nat) (hk : k < (FF (nxD fr to_ at_) (4 * n) (4 * n)).2) (hF : FaceK n (nxD fr to_ at_) k l 3) : zPu y_Dia_isTriangle b_Dia_isTriangle 6 (some .boolean) ⟨2, 0, 0, 60⟩ [.ref 0, .int (nI k)] h (.int (zb (isTri fr to_ l (nxD fr to_ at_ l) (nxD fr to_ at_ (nxD fr to_ at_ l))))) := by
  have hD' := hD
  obtain ⟨L, PL, LB, FR, TO, AT, RD, ST, OC, SL, rfl, hR, hG, hz, hE, hA, hRd, hO, hP⟩ := hD
  have hn := hR.1
  have hFF := ff_le (by omega) (perm_D hE) (Nat.le_refl (4 * n))
  obtain ⟨l', t', a, hF', ha, hs1, hs2, hr⟩ := rd_face hRd hk
  obtain ⟨rfl, rfl⟩ := faceK_uniq hF hF'
  have hl := fun i => it_lt (perm_D hE) hF.1 i
  have b0 : ∀ i, i < 3 → ∃ d, d < 4 * n ∧ RD (a + i) = nI d ∧ d = it (nxD fr to_ at_) i l' := fun i hi => ⟨_, hl i, hr i hi, rfl⟩
  obtain ⟨d0, d0l, d0r, d0e⟩ := b0 0 (by omega)
  obtain ⟨d1, d1l, d1r, d1e⟩ := b0 1 (by omega)
  obtain ⟨d2, d2l, d2r, d2e⟩ := b0 2 (by omega)
  rw [show nxD fr to_ at_ (nxD fr to_ at_ l') = d2 from d2e.symm, show nxD fr to_ at_ l' = d1 from d1e.symm, show l' = d0 from d0e.symm]
  have x0 := hE.1 (d0 / 2) (by omega)
  have x1 := hE.1 (d1 / 2) (by omega)
  have x2 := hE.1 (d2 / 2) (by omega)
  have y0 := hA.1 (d0 / 2) (by omega)
  have y1 := hA.1 (d1 / 2) (by omega)
  have y2 := hA.1 (d2 / 2) (by omega)
  have c0 : ca fr to_ d0 < 20 := by have := ar_lt hE d0l; unfold ca; omega
  have c1 : ca fr to_ d1 < 20 := by have := ar_lt hE d1l; unfold ca; omega
  have c2 : ca fr to_ d2 < 20 := by have := ar_lt hE d2l; unfold ca; omega
  refine zMet_of (plainFor_of_name (by decide +kernel)) rfl (Nat.le_of_ble_eq_true rfl) (fun z1 z2 z3 z4 z5 z6 z7 z8 z9 z10 z11 z12 z13 z14 O hin => ?_)
  refine zi_ls (ls' := [some (.ref 0), some (.int (nI k)), none, none, none, none]) rfl ?_
  refine zi_iconstN O 0 d_Dia_isTriangle_0 (by decide) ?_
  refine zi_istore_n (ls' := _ :: _ :: some _ :: _) O d_Dia_isTriangle_1 rfl (by decide) rfl ?_
  refine zi_iconstN O 0 d_Dia_isTriangle_2 (by decide) ?_
  refine zi_istore_n (ls' := _ :: _ :: _ :: some _ :: _) O d_Dia_isTriangle_3 rfl (by decide) rfl ?_
  refine zi_iconstN O 0 d_Dia_isTriangle_4 (by decide) ?_
  refine zi_istore (ls' := _ :: _ :: _ :: _ :: some _ :: _) O d_Dia_isTriangle_5 rfl (by decide) rfl ?_
  refine zi_iload O d_Dia_isTriangle_7 rfl ?_
  refine zi_iconstN O 3 d_Dia_isTriangle_9 (by decide) ?_
  refine zi_icmp_geN O 58 d_Dia_isTriangle_10 (by decide) (by omega) (by omega) (fun c10 => ?_) (fun c10 => ?_)
  · omega
  · refine zi_aload_n O d_Dia_isTriangle_13 rfl ?_
    refine zi_get O f_Dia_28 d_Dia_isTriangle_14 rfl rfl ?_
    refine zi_iload_n O d_Dia_isTriangle_17 rfl ?_
    refine zi_iload O d_Dia_isTriangle_18 rfl ?_
    refine zi_pureV O [10, 11, 12, 13] c_Dia_63 k_Fac_dart (m_Fac_dart (FF (nxD fr to_ at_) (4 * n) (4 * n)).2 (FF (nxD fr to_ at_) (4 * n) (4 * n)).1 RD ST k 0 a d0 (by omega) hs1 (by omega) d0r) d_Dia_isTriangle_20 ⟨(Nat.le_of_ble_eq_true rfl), (Nat.le_of_ble_eq_true rfl)⟩ ⟨(Nat.le_of_ble_eq_true rfl), (Nat.le_of_ble_eq_true rfl)⟩ rfl rfl (Nat.le_of_ble_eq_true rfl) rfl rfl rfl rfl rfl (Nat.le_of_ble_eq_true rfl) rfl ?_
    refine zi_istore (ls' := _ :: _ :: _ :: _ :: _ :: some _ :: _) O d_Dia_isTriangle_23 rfl (by decide) rfl ?_
    refine zi_iload_n O d_Dia_isTriangle_25 rfl ?_
    refine zi_iconstN O 1 d_Dia_isTriangle_26 (by decide) ?_
    refine zi_aload_n O d_Dia_isTriangle_27 rfl ?_
    refine zi_iload O d_Dia_isTriangle_28 rfl ?_
    refine zi_selfP O c_Dia_78 k_Dia_crossingAhead (m_Dia_crossingAhead hD' d0 d0l) d_Dia_isTriangle_30 ⟨(Nat.le_of_ble_eq_true rfl), (Nat.le_of_ble_eq_true rfl)⟩ ⟨(Nat.le_of_ble_eq_true rfl), (Nat.le_of_ble_eq_true rfl)⟩ rfl rfl (Nat.le_of_ble_eq_true rfl) rfl rfl rfl (Nat.le_of_ble_eq_true rfl) rfl ?_
    refine zi_ishl O d_Dia_isTriangle_33 ?_
    refine zi_ior O d_Dia_isTriangle_34 ?_
    refine zi_istore_n (ls' := _ :: _ :: some _ :: _) O d_Dia_isTriangle_35 rfl (by decide) rfl ?_
    refine zi_iload_n O d_Dia_isTriangle_36 rfl ?_
    refine zi_iconstN O 1 d_Dia_isTriangle_37 (by decide) ?_
    refine zi_aload_n O d_Dia_isTriangle_38 rfl ?_
    refine zi_get O f_Dia_21 d_Dia_isTriangle_39 rfl rfl ?_
    refine zi_iload O d_Dia_isTriangle_42 rfl ?_
    refine zi_iconstN O 1 d_Dia_isTriangle_44 (by decide) ?_
    first | refine zi_ishrN O 2 2 d_Dia_isTriangle_45 (by decide) (by omega) ?_ | refine zi_ishrN O 1 1 d_Dia_isTriangle_45 (by decide) (by omega) ?_
    refine zi_pureV O [4, 5, 6, 7, 8, 9] c_Dia_75 k_Edg_upperEnds (m_Edg_upperEnds (2 * n) PL LB FR TO AT (d0 / 2 ^ 1) (fr (d0 / 2)) (to_ (d0 / 2)) (by omega) y0.2.1 y0.2.2 (by omega) (by omega)) d_Dia_isTriangle_46 ⟨(Nat.le_of_ble_eq_true rfl), (Nat.le_of_ble_eq_true rfl)⟩ ⟨(Nat.le_of_ble_eq_true rfl), (Nat.le_of_ble_eq_true rfl)⟩ rfl rfl (Nat.le_of_ble_eq_true rfl) rfl rfl rfl rfl rfl (Nat.le_of_ble_eq_true rfl) rfl ?_
    refine zi_ishl O d_Dia_isTriangle_49 ?_
    refine zi_ior O d_Dia_isTriangle_50 ?_
    refine zi_istore_n (ls' := _ :: _ :: _ :: some _ :: _) O d_Dia_isTriangle_51 rfl (by decide) rfl ?_
    refine zi_iincN (ls' := _ :: _ :: _ :: _ :: some _ :: _) O 1 d_Dia_isTriangle_52 rfl (by decide) rfl (by decide) rfl ?_
    refine zi_goto O 7 d_Dia_isTriangle_55 (by decide) ?_
    refine zi_ls (ls' := [some (.ref 0), some (.int (nI k)), some (.int (nI 0 ||| bit (ca fr to_ d0))), some (.int (nI 0 ||| bit (ue fr to_ (d0 / 2)))), some (.int (nI 1)), some (.int (nI d0))]) rfl ?_
    refine zi_iload O d_Dia_isTriangle_7 rfl ?_
    refine zi_iconstN O 3 d_Dia_isTriangle_9 (by decide) ?_
    refine zi_icmp_geN O 58 d_Dia_isTriangle_10 (by decide) (by omega) (by omega) (fun c10 => ?_) (fun c10 => ?_)
    · omega
    · refine zi_aload_n O d_Dia_isTriangle_13 rfl ?_
      refine zi_get O f_Dia_28 d_Dia_isTriangle_14 rfl rfl ?_
      refine zi_iload_n O d_Dia_isTriangle_17 rfl ?_
      refine zi_iload O d_Dia_isTriangle_18 rfl ?_
      refine zi_pureV O [10, 11, 12, 13] c_Dia_63 k_Fac_dart (m_Fac_dart (FF (nxD fr to_ at_) (4 * n) (4 * n)).2 (FF (nxD fr to_ at_) (4 * n) (4 * n)).1 RD ST k 1 a d1 (by omega) hs1 (by omega) d1r) d_Dia_isTriangle_20 ⟨(Nat.le_of_ble_eq_true rfl), (Nat.le_of_ble_eq_true rfl)⟩ ⟨(Nat.le_of_ble_eq_true rfl), (Nat.le_of_ble_eq_true rfl)⟩ rfl rfl (Nat.le_of_ble_eq_true rfl) rfl rfl rfl rfl rfl (Nat.le_of_ble_eq_true rfl) rfl ?_
      refine zi_istore (ls' := _ :: _ :: _ :: _ :: _ :: some _ :: _) O d_Dia_isTriangle_23 rfl (by decide) rfl ?_
      refine zi_iload_n O d_Dia_isTriangle_25 rfl ?_
      refine zi_iconstN O 1 d_Dia_isTriangle_26 (by decide) ?_
      refine zi_aload_n O d_Dia_isTriangle_27 rfl ?_
      refine zi_iload O d_Dia_isTriangle_28 rfl ?_
      refine zi_selfP O c_Dia_78 k_Dia_crossingAhead (m_Dia_crossingAhead hD' d1 d1l) d_Dia_isTriangle_30 ⟨(Nat.le_of_ble_eq_true rfl), (Nat.le_of_ble_eq_true rfl)⟩ ⟨(Nat.le_of_ble_eq_true rfl), (Nat.le_of_ble_eq_true rfl)⟩ rfl rfl (Nat.le_of_ble_eq_true rfl) rfl rfl rfl (Nat.le_of_ble_eq_true rfl) rfl ?_
      refine zi_ishl O d_Dia_isTriangle_33 ?_
      refine zi_ior O d_Dia_isTriangle_34 ?_
      refine zi_istore_n (ls' := _ :: _ :: some _ :: _) O d_Dia_isTriangle_35 rfl (by decide) rfl ?_
      refine zi_iload_n O d_Dia_isTriangle_36 rfl ?_
      refine zi_iconstN O 1 d_Dia_isTriangle_37 (by decide) ?_
      refine zi_aload_n O d_Dia_isTriangle_38 rfl ?_
      refine zi_get O f_Dia_21 d_Dia_isTriangle_39 rfl rfl ?_
      refine zi_iload O d_Dia_isTriangle_42 rfl ?_
      refine zi_iconstN O 1 d_Dia_isTriangle_44 (by decide) ?_
      first | refine zi_ishrN O 2 2 d_Dia_isTriangle_45 (by decide) (by omega) ?_ | refine zi_ishrN O 1 1 d_Dia_isTriangle_45 (by decide) (by omega) ?_
      refine zi_pureV O [4, 5, 6, 7, 8, 9] c_Dia_75 k_Edg_upperEnds (m_Edg_upperEnds (2 * n) PL LB FR TO AT (d1 / 2 ^ 1) (fr (d1 / 2)) (to_ (d1 / 2)) (by omega) y1.2.1 y1.2.2 (by omega) (by omega)) d_Dia_isTriangle_46 ⟨(Nat.le_of_ble_eq_true rfl), (Nat.le_of_ble_eq_true rfl)⟩ ⟨(Nat.le_of_ble_eq_true rfl), (Nat.le_of_ble_eq_true rfl)⟩ rfl rfl (Nat.le_of_ble_eq_true rfl) rfl rfl rfl rfl rfl (Nat.le_of_ble_eq_true rfl) rfl ?_
      refine zi_ishl O d_Dia_isTriangle_49 ?_
      refine zi_ior O d_Dia_isTriangle_50 ?_
      refine zi_istore_n (ls' := _ :: _ :: _ :: some _ :: _) O d_Dia_isTriangle_51 rfl (by decide) rfl ?_
      refine zi_iincN (ls' := _ :: _ :: _ :: _ :: some _ :: _) O 1 d_Dia_isTriangle_52 rfl (by decide) rfl (by decide) rfl ?_
      refine zi_goto O 7 d_Dia_isTriangle_55 (by decide) ?_
      refine zi_ls (ls' := [some (.ref 0), some (.int (nI k)), some (.int ((nI 0 ||| bit (ca fr to_ d0)) ||| bit (ca fr to_ d1))), some (.int ((nI 0 ||| bit (ue fr to_ (d0 / 2))) ||| bit (ue fr to_ (d1 / 2)))), some (.int (nI 2)), some (.int (nI d1))]) rfl ?_
      refine zi_iload O d_Dia_isTriangle_7 rfl ?_
      refine zi_iconstN O 3 d_Dia_isTriangle_9 (by decide) ?_
      refine zi_icmp_geN O 58 d_Dia_isTriangle_10 (by decide) (by omega) (by omega) (fun c10 => ?_) (fun c10 => ?_)
      · omega
      · refine zi_aload_n O d_Dia_isTriangle_13 rfl ?_
        refine zi_get O f_Dia_28 d_Dia_isTriangle_14 rfl rfl ?_
        refine zi_iload_n O d_Dia_isTriangle_17 rfl ?_
        refine zi_iload O d_Dia_isTriangle_18 rfl ?_
        refine zi_pureV O [10, 11, 12, 13] c_Dia_63 k_Fac_dart (m_Fac_dart (FF (nxD fr to_ at_) (4 * n) (4 * n)).2 (FF (nxD fr to_ at_) (4 * n) (4 * n)).1 RD ST k 2 a d2 (by omega) hs1 (by omega) d2r) d_Dia_isTriangle_20 ⟨(Nat.le_of_ble_eq_true rfl), (Nat.le_of_ble_eq_true rfl)⟩ ⟨(Nat.le_of_ble_eq_true rfl), (Nat.le_of_ble_eq_true rfl)⟩ rfl rfl (Nat.le_of_ble_eq_true rfl) rfl rfl rfl rfl rfl (Nat.le_of_ble_eq_true rfl) rfl ?_
        refine zi_istore (ls' := _ :: _ :: _ :: _ :: _ :: some _ :: _) O d_Dia_isTriangle_23 rfl (by decide) rfl ?_
        refine zi_iload_n O d_Dia_isTriangle_25 rfl ?_
        refine zi_iconstN O 1 d_Dia_isTriangle_26 (by decide) ?_
        refine zi_aload_n O d_Dia_isTriangle_27 rfl ?_
        refine zi_iload O d_Dia_isTriangle_28 rfl ?_
        refine zi_selfP O c_Dia_78 k_Dia_crossingAhead (m_Dia_crossingAhead hD' d2 d2l) d_Dia_isTriangle_30 ⟨(Nat.le_of_ble_eq_true rfl), (Nat.le_of_ble_eq_true rfl)⟩ ⟨(Nat.le_of_ble_eq_true rfl), (Nat.le_of_ble_eq_true rfl)⟩ rfl rfl (Nat.le_of_ble_eq_true rfl) rfl rfl rfl (Nat.le_of_ble_eq_true rfl) rfl ?_
        refine zi_ishl O d_Dia_isTriangle_33 ?_
        refine zi_ior O d_Dia_isTriangle_34 ?_
        refine zi_istore_n (ls' := _ :: _ :: some _ :: _) O d_Dia_isTriangle_35 rfl (by decide) rfl ?_
        refine zi_iload_n O d_Dia_isTriangle_36 rfl ?_
        refine zi_iconstN O 1 d_Dia_isTriangle_37 (by decide) ?_
        refine zi_aload_n O d_Dia_isTriangle_38 rfl ?_
        refine zi_get O f_Dia_21 d_Dia_isTriangle_39 rfl rfl ?_
        refine zi_iload O d_Dia_isTriangle_42 rfl ?_
        refine zi_iconstN O 1 d_Dia_isTriangle_44 (by decide) ?_
        first | refine zi_ishrN O 2 2 d_Dia_isTriangle_45 (by decide) (by omega) ?_ | refine zi_ishrN O 1 1 d_Dia_isTriangle_45 (by decide) (by omega) ?_
        refine zi_pureV O [4, 5, 6, 7, 8, 9] c_Dia_75 k_Edg_upperEnds (m_Edg_upperEnds (2 * n) PL LB FR TO AT (d2 / 2 ^ 1) (fr (d2 / 2)) (to_ (d2 / 2)) (by omega) y2.2.1 y2.2.2 (by omega) (by omega)) d_Dia_isTriangle_46 ⟨(Nat.le_of_ble_eq_true rfl), (Nat.le_of_ble_eq_true rfl)⟩ ⟨(Nat.le_of_ble_eq_true rfl), (Nat.le_of_ble_eq_true rfl)⟩ rfl rfl (Nat.le_of_ble_eq_true rfl) rfl rfl rfl rfl rfl (Nat.le_of_ble_eq_true rfl) rfl ?_
        refine zi_ishl O d_Dia_isTriangle_49 ?_
        refine zi_ior O d_Dia_isTriangle_50 ?_
        refine zi_istore_n (ls' := _ :: _ :: _ :: some _ :: _) O d_Dia_isTriangle_51 rfl (by decide) rfl ?_
        refine zi_iincN (ls' := _ :: _ :: _ :: _ :: some _ :: _) O 1 d_Dia_isTriangle_52 rfl (by decide) rfl (by decide) rfl ?_
        refine zi_goto O 7 d_Dia_isTriangle_55 (by decide) ?_
        refine zi_ls (ls' := [some (.ref 0), some (.int (nI k)), some (.int (((nI 0 ||| bit (ca fr to_ d0)) ||| bit (ca fr to_ d1)) ||| bit (ca fr to_ d2))), some (.int (((nI 0 ||| bit (ue fr to_ (d0 / 2))) ||| bit (ue fr to_ (d1 / 2))) ||| bit (ue fr to_ (d2 / 2)))), some (.int (nI 3)), some (.int (nI d2))]) rfl ?_
        refine zi_iload O d_Dia_isTriangle_7 rfl ?_
        refine zi_iconstN O 3 d_Dia_isTriangle_9 (by decide) ?_
        refine zi_icmp_geN O 58 d_Dia_isTriangle_10 (by decide) (by omega) (by omega) (fun c10 => ?_) (fun c10 => ?_)
        · refine zi_iload_n O d_Dia_isTriangle_58 rfl ?_
          refine zi_pureS O [] c_Dia_81 k_Int_bitCount (m_Int_bitCount (((nI 0 ||| bit (ca fr to_ d0)) ||| bit (ca fr to_ d1)) ||| bit (ca fr to_ d2))) d_Dia_isTriangle_59 ⟨(Nat.le_of_ble_eq_true rfl), (Nat.le_of_ble_eq_true rfl)⟩ ⟨(Nat.le_of_ble_eq_true rfl), (Nat.le_of_ble_eq_true rfl)⟩ rfl (Nat.le_of_ble_eq_true rfl) rfl rfl rfl rfl rfl (Nat.le_of_ble_eq_true rfl) rfl ?_
          refine zi_iconstN O 3 d_Dia_isTriangle_62 (by decide) ?_
          have q1 := bc_three _ c0 _ c1 _ c2
          have q2 := ht_three _ (ue_le fr to_ (d0 / 2)) _ (ue_le fr to_ (d1 / 2)) _ (ue_le fr to_ (d2 / 2))
          refine zi_icmp_ne O 76 d_Dia_isTriangle_63 (by decide) (fun c63 => ?_) (fun c63 => ?_)
          · refine zi_iconstN O 0 d_Dia_isTriangle_76 (by decide) ?_
            refine zi_zret O d_Dia_isTriangle_77 rfl (Nat.le_of_ble_eq_true rfl) (Nat.le_of_ble_eq_true rfl) (Nat.le_of_ble_eq_true rfl) ?_
            exact ⟨by rw [zb_f (fun z => c63 (q1.mpr z.1))]; rfl, rfl⟩
          · refine zi_iload_n O d_Dia_isTriangle_66 rfl ?_
            refine zi_bipushN O 7 d_Dia_isTriangle_67 (by decide) ?_
            refine zi_icmp_ne O 76 d_Dia_isTriangle_69 (by decide) (fun c69 => ?_) (fun c69 => ?_)
            · refine zi_iconstN O 0 d_Dia_isTriangle_76 (by decide) ?_
              refine zi_zret O d_Dia_isTriangle_77 rfl (Nat.le_of_ble_eq_true rfl) (Nat.le_of_ble_eq_true rfl) (Nat.le_of_ble_eq_true rfl) ?_
              exact ⟨by rw [zb_f (fun z => c69 (q2.mpr z.2))]; rfl, rfl⟩
            · refine zi_iconstN O 1 d_Dia_isTriangle_72 (by decide) ?_
              refine zi_goto O 77 d_Dia_isTriangle_73 (by decide) ?_
              refine zi_zret O d_Dia_isTriangle_77 rfl (Nat.le_of_ble_eq_true rfl) (Nat.le_of_ble_eq_true rfl) (Nat.le_of_ble_eq_true rfl) ?_
              exact ⟨by rw [zb_t ⟨q1.mp c63, q2.mp c69⟩]; rfl, rfl⟩
        · omega
end
end
section
/-! Diagram.patternAt, leastFaceToUndo -/
section
variable {n : Nat} {lab : Nat → Nat} {S : Nat → Int32} {ci : Int32} {el fr to_ at_ oc : Nat → Nat} {h : List zE}
set_option maxHeartbeats 1000000 in
theorem m_Dia_patternAt (hD : Dia n lab S ci el fr to_ at_ oc h) (k l t : Nat) (hk : k < (FF (nxD fr to_ at_) (4 * n) (4 * n)).2) (hF : FaceK n (nxD fr to_ at_) k l t) : zPu y_Dia_patternAt b_Dia_patternAt 2 (some .int) ⟨3, 0, 0, 90⟩ [.ref 0, .int (nI k)] h (.int (nI (pat fr to_ (nxD fr to_ at_) l t))) := by
  have hD' := hD
  obtain ⟨L, PL, LB, FR, TO, AT, RD, ST, OC, SL, rfl, hR, hG, hz, hE, hA, hRd, hO, hP⟩ := hD
  have hn := hR.1
  have hFF := ff_le (by omega) (perm_D hE) (Nat.le_refl (4 * n))
  obtain ⟨l', t', a, hF', ha, hs1, hs2, hr⟩ := rd_face hRd hk
  obtain ⟨rfl, rfl⟩ := faceK_uniq hF hF'
  have hl := fun i => it_lt (perm_D hE) hF.1 i
  have ht := hF.2.1
  refine zMet_of (plainFor_of_name (by decide +kernel)) rfl (Nat.le_of_ble_eq_true rfl) (fun z1 z2 z3 z4 z5 z6 z7 z8 z9 z10 z11 z12 z13 z14 O hin => ?_)
  refine zi_ls (ls' := [some (.ref 0), some (.int (nI k))]) rfl ?_
  refine zi_aload_n O d_Dia_patternAt_0 rfl ?_
  refine zi_get O f_Dia_28 d_Dia_patternAt_1 rfl rfl ?_
  refine zi_iload_n O d_Dia_patternAt_4 rfl ?_
  refine zi_pureV O [10, 11, 12, 13] c_Dia_59 k_Fac_size (m_Fac_size (FF (nxD fr to_ at_) (4 * n) (4 * n)).2 (FF (nxD fr to_ at_) (4 * n) (4 * n)).1 RD ST k a (a + t') (by omega) hs1 hs2 (by omega)) d_Dia_patternAt_5 ⟨(Nat.le_of_ble_eq_true rfl), (Nat.le_of_ble_eq_true rfl)⟩ ⟨(Nat.le_of_ble_eq_true rfl), (Nat.le_of_ble_eq_true rfl)⟩ rfl rfl (Nat.le_of_ble_eq_true rfl) rfl rfl rfl rfl rfl (Nat.le_of_ble_eq_true rfl) rfl ?_
  rw [show a + t' - a = t' by omega]
  by_cases c1 : t' = 1
  · subst c1
    refine zi_tableIn O 36 d_Dia_patternAt_8 (by decide) (by decide) rfl (by decide) ?_
    refine zi_iconstN O 1 d_Dia_patternAt_36 (by decide) ?_
    refine zi_iret O d_Dia_patternAt_37 (Nat.le_of_ble_eq_true rfl) (Nat.le_of_ble_eq_true rfl) (Nat.le_of_ble_eq_true rfl) ?_
    exact ⟨by rw [pat, if_pos rfl], rfl⟩
  · by_cases c2 : t' = 2
    · subst c2
      refine zi_tableIn O 38 d_Dia_patternAt_8 (by decide) (by decide) rfl (by decide) ?_
      refine zi_aload_n O d_Dia_patternAt_38 rfl ?_
      refine zi_aload_n O d_Dia_patternAt_39 rfl ?_
      refine zi_get O f_Dia_28 d_Dia_patternAt_40 rfl rfl ?_
      refine zi_iload_n O d_Dia_patternAt_43 rfl ?_
      refine zi_iconstN O 0 d_Dia_patternAt_44 (by decide) ?_
      refine zi_pureV O [10, 11, 12, 13] c_Dia_63 k_Fac_dart (m_Fac_dart (FF (nxD fr to_ at_) (4 * n) (4 * n)).2 (FF (nxD fr to_ at_) (4 * n) (4 * n)).1 RD ST k 0 a l' (by omega) hs1 (by omega) (hr 0 (by omega))) d_Dia_patternAt_45 ⟨(Nat.le_of_ble_eq_true rfl), (Nat.le_of_ble_eq_true rfl)⟩ ⟨(Nat.le_of_ble_eq_true rfl), (Nat.le_of_ble_eq_true rfl)⟩ rfl rfl (Nat.le_of_ble_eq_true rfl) rfl rfl rfl rfl rfl (Nat.le_of_ble_eq_true rfl) rfl ?_
      refine zi_aload_n O d_Dia_patternAt_48 rfl ?_
      refine zi_get O f_Dia_28 d_Dia_patternAt_49 rfl rfl ?_
      refine zi_iload_n O d_Dia_patternAt_52 rfl ?_
      refine zi_iconstN O 1 d_Dia_patternAt_53 (by decide) ?_
      refine zi_pureV O [10, 11, 12, 13] c_Dia_63 k_Fac_dart (m_Fac_dart (FF (nxD fr to_ at_) (4 * n) (4 * n)).2 (FF (nxD fr to_ at_) (4 * n) (4 * n)).1 RD ST k 1 a (nxD fr to_ at_ l') (by omega) hs1 (by omega) (hr 1 (by omega))) d_Dia_patternAt_54 ⟨(Nat.le_of_ble_eq_true rfl), (Nat.le_of_ble_eq_true rfl)⟩ ⟨(Nat.le_of_ble_eq_true rfl), (Nat.le_of_ble_eq_true rfl)⟩ rfl rfl (Nat.le_of_ble_eq_true rfl) rfl rfl rfl rfl rfl (Nat.le_of_ble_eq_true rfl) rfl ?_
      refine zi_selfP O c_Dia_67 k_Dia_isFinger (m_Dia_isFinger hD' l' (nxD fr to_ at_ l') (hl 0) (hl 1)) d_Dia_patternAt_57 ⟨(Nat.le_of_ble_eq_true rfl), (Nat.le_of_ble_eq_true rfl)⟩ ⟨(Nat.le_of_ble_eq_true rfl), (Nat.le_of_ble_eq_true rfl)⟩ rfl rfl (Nat.le_of_ble_eq_true rfl) rfl rfl rfl (Nat.le_of_ble_eq_true rfl) rfl ?_
      by_cases c : isFin fr to_ l' (nxD fr to_ at_ l')
      · rw [zb_t c]
        refine zi_if_eq O 67 d_Dia_patternAt_60 (by decide) (fun c60 => ?_) (fun c60 => ?_)
        · exact absurd c60 (by decide)
        · refine zi_iconstN O 2 d_Dia_patternAt_63 (by decide) ?_
          refine zi_goto O 68 d_Dia_patternAt_64 (by decide) ?_
          refine zi_iret O d_Dia_patternAt_68 (Nat.le_of_ble_eq_true rfl) (Nat.le_of_ble_eq_true rfl) (Nat.le_of_ble_eq_true rfl) ?_
          exact ⟨by rw [pat, if_neg c1, if_pos rfl, if_pos c], rfl⟩
      · rw [zb_f c]
        refine zi_if_eq O 67 d_Dia_patternAt_60 (by decide) (fun c60 => ?_) (fun c60 => ?_)
        · refine zi_iconstN O 0 d_Dia_patternAt_67 (by decide) ?_
          refine zi_iret O d_Dia_patternAt_68 (Nat.le_of_ble_eq_true rfl) (Nat.le_of_ble_eq_true rfl) (Nat.le_of_ble_eq_true rfl) ?_
          exact ⟨by rw [pat, if_neg c1, if_pos rfl, if_neg c], rfl⟩
        · exact absurd rfl c60
    · by_cases c3 : t' = 3
      · subst c3
        refine zi_tableIn O 69 d_Dia_patternAt_8 (by decide) (by decide) rfl (by decide) ?_
        refine zi_aload_n O d_Dia_patternAt_69 rfl ?_
        refine zi_iload_n O d_Dia_patternAt_70 rfl ?_
        refine zi_selfP O c_Dia_71 k_Dia_isTriangle (m_Dia_isTriangle hD' k l' hk hF) d_Dia_patternAt_71 ⟨(Nat.le_of_ble_eq_true rfl), (Nat.le_of_ble_eq_true rfl)⟩ ⟨(Nat.le_of_ble_eq_true rfl), (Nat.le_of_ble_eq_true rfl)⟩ rfl rfl (Nat.le_of_ble_eq_true rfl) rfl rfl rfl (Nat.le_of_ble_eq_true rfl) rfl ?_
        by_cases c : isTri fr to_ l' (nxD fr to_ at_ l') (nxD fr to_ at_ (nxD fr to_ at_ l'))
        · rw [zb_t c]
          refine zi_if_eq O 81 d_Dia_patternAt_74 (by decide) (fun c74 => ?_) (fun c74 => ?_)
          · exact absurd c74 (by decide)
          · refine zi_iconstN O 3 d_Dia_patternAt_77 (by decide) ?_
            refine zi_goto O 82 d_Dia_patternAt_78 (by decide) ?_
            refine zi_iret O d_Dia_patternAt_82 (Nat.le_of_ble_eq_true rfl) (Nat.le_of_ble_eq_true rfl) (Nat.le_of_ble_eq_true rfl) ?_
            exact ⟨by rw [pat, if_neg c1, if_neg c2, if_pos rfl, if_pos c], rfl⟩
        · rw [zb_f c]
          refine zi_if_eq O 81 d_Dia_patternAt_74 (by decide) (fun c74 => ?_) (fun c74 => ?_)
          · refine zi_iconstN O 0 d_Dia_patternAt_81 (by decide) ?_
            refine zi_iret O d_Dia_patternAt_82 (Nat.le_of_ble_eq_true rfl) (Nat.le_of_ble_eq_true rfl) (Nat.le_of_ble_eq_true rfl) ?_
            exact ⟨by rw [pat, if_neg c1, if_neg c2, if_pos rfl, if_neg c], rfl⟩
          · exact absurd rfl c74
      · refine zi_tableOut O 83 d_Dia_patternAt_8 (Or.inr ?_) (by decide) ?_
        · rw [nI_toInt (by omega)]; omega
        · refine zi_iconstN O 0 d_Dia_patternAt_83 (by decide) ?_
          refine zi_iret O d_Dia_patternAt_84 (Nat.le_of_ble_eq_true rfl) (Nat.le_of_ble_eq_true rfl) (Nat.le_of_ble_eq_true rfl) ?_
          exact ⟨by rw [pat, if_neg c1, if_neg c2, if_neg c3], rfl⟩
theorem pat_le (nx : Nat → Nat) (l t : Nat) : pat fr to_ nx l t ≤ 3 := by unfold pat; split <;> (try split) <;> (try split) <;> (try split) <;> omega
/-- every face below the count is a face -/
theorem dia_face (hD : Dia n lab S ci el fr to_ at_ oc h) {k : Nat} (hk : k < (FF (nxD fr to_ at_) (4 * n) (4 * n)).2) : ∃ l t, FaceK n (nxD fr to_ at_) k l t := by
  obtain ⟨L, PL, LB, FR, TO, AT, RD, ST, OC, SL, rfl, hR, hG, hz, hE, hA, hRd, hO, hP⟩ := hD
  obtain ⟨l, t, a, hF, -⟩ := rd_face hRd hk
  exact ⟨l, t, hF⟩
abbrev Und (n : Nat) (fr to_ at_ : Nat → Nat) (k : Nat) : Prop := ∀ l t, FaceK n (nxD fr to_ at_) k l t → pat fr to_ (nxD fr to_ at_) l t = 1 ∨ pat fr to_ (nxD fr to_ at_) l t = 2
theorem m_Dia_leastFaceToUndo (hD : Dia n lab S ci el fr to_ at_ oc h) (k : Nat) (hk : k < (FF (nxD fr to_ at_) (4 * n) (4 * n)).2) (hu : Und n fr to_ at_ k) (hb : ∀ j, j < k → ¬ Und n fr to_ at_ j) : zPu y_Dia_leastFaceToUndo b_Dia_leastFaceToUndo 3 (some .int) ⟨4, 0, 0, 115⟩ [.ref 0] h (.int (nI k)) := by
  have hD' := hD
  have hF0 := fun j (hj : j < (FF (nxD fr to_ at_) (4 * n) (4 * n)).2) => dia_face hD' hj
  obtain ⟨L, PL, LB, FR, TO, AT, RD, ST, OC, SL, rfl, hR, hG, hz, hE, hA, hRd, hO, hP⟩ := hD
  have hn := hR.1
  have hFF := ff_le (by omega) (perm_D hE) (Nat.le_refl (4 * n))
  refine zMet_of (plainFor_of_name (by decide +kernel)) rfl (Nat.le_of_ble_eq_true rfl) (fun z1 z2 z3 z4 z5 z6 z7 z8 z9 z10 z11 z12 z13 z14 O hin => ?_)
  refine zi_ls (ls' := [some (.ref 0), none, none]) rfl ?_
  refine zi_iconstN O 0 d_Dia_leastFaceToUndo_0 (by decide) ?_
  refine zi_istore_n (ls' := _ :: some _ :: _) O d_Dia_leastFaceToUndo_1 rfl (by decide) rfl ?_
  refine zi_for (fun i => [some (.ref 0), some (.int (nI i)), none]) (fun _ => diaH ci n L S (2 * n) PL LB FR TO AT (FF (nxD fr to_ at_) (4 * n) (4 * n)).2 (FF (nxD fr to_ at_) (4 * n) (4 * n)).1 RD ST (rc oc n) (FF (nxE to_ at_) (2 * n) (2 * n)).2 OC (FF (nxE to_ at_) (2 * n) (2 * n)).1 SL) 0 k (by omega) rfl rfl (fun i _ hi ih => ?_) ?_
  · obtain ⟨l, t, hF⟩ := hF0 i (by omega)
    have hp := pat_le (fr := fr) (to_ := to_) (nxD fr to_ at_) l t
    have hno : ¬ (pat fr to_ (nxD fr to_ at_) l t = 1 ∨ pat fr to_ (nxD fr to_ at_) l t = 2) := fun z => hb i hi (fun l' t' hF' => by
      obtain ⟨rfl, rfl⟩ := faceK_uniq hF hF'
      exact z)
    refine zi_iload_n O d_Dia_leastFaceToUndo_2 rfl ?_
    refine zi_aload_n O d_Dia_leastFaceToUndo_3 rfl ?_
    refine zi_get O f_Dia_28 d_Dia_leastFaceToUndo_4 rfl rfl ?_
    refine zi_get O f_Dia_57 d_Dia_leastFaceToUndo_7 rfl rfl ?_
    refine zi_icmp_geN O 37 d_Dia_leastFaceToUndo_10 (by decide) (by omega) (by omega) (fun c10 => ?_) (fun c10 => ?_)
    · omega
    · refine zi_aload_n O d_Dia_leastFaceToUndo_13 rfl ?_
      refine zi_iload_n O d_Dia_leastFaceToUndo_14 rfl ?_
      refine zi_selfP O c_Dia_89 k_Dia_patternAt (m_Dia_patternAt hD' i l t (by omega) hF) d_Dia_leastFaceToUndo_15 ⟨(Nat.le_of_ble_eq_true rfl), (Nat.le_of_ble_eq_true rfl)⟩ ⟨(Nat.le_of_ble_eq_true rfl), (Nat.le_of_ble_eq_true rfl)⟩ rfl rfl (Nat.le_of_ble_eq_true rfl) rfl rfl rfl (Nat.le_of_ble_eq_true rfl) rfl ?_
      refine zi_istore_n (ls' := _ :: _ :: some _ :: _) O d_Dia_leastFaceToUndo_18 rfl (by decide) rfl ?_
      refine zi_iload_n O d_Dia_leastFaceToUndo_19 rfl ?_
      refine zi_iconstN O 1 d_Dia_leastFaceToUndo_20 (by decide) ?_
      refine zi_icmp_eqN O 29 d_Dia_leastFaceToUndo_21 (by decide) (by omega) (by omega) (fun c21 => ?_) (fun c21 => ?_)
      · exact absurd (Or.inl c21) hno
      · refine zi_iload_n O d_Dia_leastFaceToUndo_24 rfl ?_
        refine zi_iconstN O 2 d_Dia_leastFaceToUndo_25 (by decide) ?_
        refine zi_icmp_neN O 31 d_Dia_leastFaceToUndo_26 (by decide) (by omega) (by omega) (fun c26 => ?_) (fun c26 => ?_)
        · refine zi_iincN (ls' := _ :: some _ :: _) O 1 d_Dia_leastFaceToUndo_31 rfl (by decide) rfl (by decide) rfl ?_
          refine zi_goto O 2 d_Dia_leastFaceToUndo_34 (by decide) ?_
          refine zi_no 2 (ls' := _ :: _ :: none :: _) rfl ?_
          exact ih
        · exact absurd (Or.inr c26) hno
  · obtain ⟨l, t, hF⟩ := hF0 k hk
    have hp := pat_le (fr := fr) (to_ := to_) (nxD fr to_ at_) l t
    have hyes := hu l t hF
    refine zi_iload_n O d_Dia_leastFaceToUndo_2 rfl ?_
    refine zi_aload_n O d_Dia_leastFaceToUndo_3 rfl ?_
    refine zi_get O f_Dia_28 d_Dia_leastFaceToUndo_4 rfl rfl ?_
    refine zi_get O f_Dia_57 d_Dia_leastFaceToUndo_7 rfl rfl ?_
    refine zi_icmp_geN O 37 d_Dia_leastFaceToUndo_10 (by decide) (by omega) (by omega) (fun c10 => ?_) (fun c10 => ?_)
    · omega
    · refine zi_aload_n O d_Dia_leastFaceToUndo_13 rfl ?_
      refine zi_iload_n O d_Dia_leastFaceToUndo_14 rfl ?_
      refine zi_selfP O c_Dia_89 k_Dia_patternAt (m_Dia_patternAt hD' k l t hk hF) d_Dia_leastFaceToUndo_15 ⟨(Nat.le_of_ble_eq_true rfl), (Nat.le_of_ble_eq_true rfl)⟩ ⟨(Nat.le_of_ble_eq_true rfl), (Nat.le_of_ble_eq_true rfl)⟩ rfl rfl (Nat.le_of_ble_eq_true rfl) rfl rfl rfl (Nat.le_of_ble_eq_true rfl) rfl ?_
      refine zi_istore_n (ls' := _ :: _ :: some _ :: _) O d_Dia_leastFaceToUndo_18 rfl (by decide) rfl ?_
      refine zi_iload_n O d_Dia_leastFaceToUndo_19 rfl ?_
      refine zi_iconstN O 1 d_Dia_leastFaceToUndo_20 (by decide) ?_
      refine zi_icmp_eqN O 29 d_Dia_leastFaceToUndo_21 (by decide) (by omega) (by omega) (fun c21 => ?_) (fun c21 => ?_)
      · refine zi_iload_n O d_Dia_leastFaceToUndo_29 rfl ?_
        refine zi_iret O d_Dia_leastFaceToUndo_30 (Nat.le_of_ble_eq_true rfl) (Nat.le_of_ble_eq_true rfl) (Nat.le_of_ble_eq_true rfl) ?_
        exact ⟨rfl, rfl⟩
      · refine zi_iload_n O d_Dia_leastFaceToUndo_24 rfl ?_
        refine zi_iconstN O 2 d_Dia_leastFaceToUndo_25 (by decide) ?_
        refine zi_icmp_neN O 31 d_Dia_leastFaceToUndo_26 (by decide) (by omega) (by omega) (fun c26 => ?_) (fun c26 => ?_)
        · omega
        · refine zi_iload_n O d_Dia_leastFaceToUndo_29 rfl ?_
          refine zi_iret O d_Dia_leastFaceToUndo_30 (Nat.le_of_ble_eq_true rfl) (Nat.le_of_ble_eq_true rfl) (Nat.le_of_ble_eq_true rfl) ?_
          exact ⟨rfl, rfl⟩
theorem m_Dia_leastFaceToUndo_no (hD : Dia n lab S ci el fr to_ at_ oc h) (hb : ∀ j, j < (FF (nxD fr to_ at_) (4 * n) (4 * n)).2 → ¬ Und n fr to_ at_ j) : zPu y_Dia_leastFaceToUndo b_Dia_leastFaceToUndo 3 (some .int) ⟨4, 0, 0, 115⟩ [.ref 0] h (.int (-1)) := by
  have hD' := hD
  have hF0 := fun j (hj : j < (FF (nxD fr to_ at_) (4 * n) (4 * n)).2) => dia_face hD' hj
  obtain ⟨L, PL, LB, FR, TO, AT, RD, ST, OC, SL, rfl, hR, hG, hz, hE, hA, hRd, hO, hP⟩ := hD
  have hn := hR.1
  have hFF := ff_le (by omega) (perm_D hE) (Nat.le_refl (4 * n))
  refine zMet_of (plainFor_of_name (by decide +kernel)) rfl (Nat.le_of_ble_eq_true rfl) (fun z1 z2 z3 z4 z5 z6 z7 z8 z9 z10 z11 z12 z13 z14 O hin => ?_)
  refine zi_ls (ls' := [some (.ref 0), none, none]) rfl ?_
  refine zi_iconstN O 0 d_Dia_leastFaceToUndo_0 (by decide) ?_
  refine zi_istore_n (ls' := _ :: some _ :: _) O d_Dia_leastFaceToUndo_1 rfl (by decide) rfl ?_
  refine zi_for (fun i => [some (.ref 0), some (.int (nI i)), none]) (fun _ => diaH ci n L S (2 * n) PL LB FR TO AT (FF (nxD fr to_ at_) (4 * n) (4 * n)).2 (FF (nxD fr to_ at_) (4 * n) (4 * n)).1 RD ST (rc oc n) (FF (nxE to_ at_) (2 * n) (2 * n)).2 OC (FF (nxE to_ at_) (2 * n) (2 * n)).1 SL) 0 (FF (nxD fr to_ at_) (4 * n) (4 * n)).2 (by omega) rfl rfl (fun i _ hi ih => ?_) ?_
  · obtain ⟨l, t, hF⟩ := hF0 i (by omega)
    have hp := pat_le (fr := fr) (to_ := to_) (nxD fr to_ at_) l t
    have hno : ¬ (pat fr to_ (nxD fr to_ at_) l t = 1 ∨ pat fr to_ (nxD fr to_ at_) l t = 2) := fun z => hb i hi (fun l' t' hF' => by
      obtain ⟨rfl, rfl⟩ := faceK_uniq hF hF'
      exact z)
    refine zi_iload_n O d_Dia_leastFaceToUndo_2 rfl ?_
    refine zi_aload_n O d_Dia_leastFaceToUndo_3 rfl ?_
    refine zi_get O f_Dia_28 d_Dia_leastFaceToUndo_4 rfl rfl ?_
    refine zi_get O f_Dia_57 d_Dia_leastFaceToUndo_7 rfl rfl ?_
    refine zi_icmp_geN O 37 d_Dia_leastFaceToUndo_10 (by decide) (by omega) (by omega) (fun c10 => ?_) (fun c10 => ?_)
    · omega
    · refine zi_aload_n O d_Dia_leastFaceToUndo_13 rfl ?_
      refine zi_iload_n O d_Dia_leastFaceToUndo_14 rfl ?_
      refine zi_selfP O c_Dia_89 k_Dia_patternAt (m_Dia_patternAt hD' i l t (by omega) hF) d_Dia_leastFaceToUndo_15 ⟨(Nat.le_of_ble_eq_true rfl), (Nat.le_of_ble_eq_true rfl)⟩ ⟨(Nat.le_of_ble_eq_true rfl), (Nat.le_of_ble_eq_true rfl)⟩ rfl rfl (Nat.le_of_ble_eq_true rfl) rfl rfl rfl (Nat.le_of_ble_eq_true rfl) rfl ?_
      refine zi_istore_n (ls' := _ :: _ :: some _ :: _) O d_Dia_leastFaceToUndo_18 rfl (by decide) rfl ?_
      refine zi_iload_n O d_Dia_leastFaceToUndo_19 rfl ?_
      refine zi_iconstN O 1 d_Dia_leastFaceToUndo_20 (by decide) ?_
      refine zi_icmp_eqN O 29 d_Dia_leastFaceToUndo_21 (by decide) (by omega) (by omega) (fun c21 => ?_) (fun c21 => ?_)
      · exact absurd (Or.inl c21) hno
      · refine zi_iload_n O d_Dia_leastFaceToUndo_24 rfl ?_
        refine zi_iconstN O 2 d_Dia_leastFaceToUndo_25 (by decide) ?_
        refine zi_icmp_neN O 31 d_Dia_leastFaceToUndo_26 (by decide) (by omega) (by omega) (fun c26 => ?_) (fun c26 => ?_)
        · refine zi_iincN (ls' := _ :: some _ :: _) O 1 d_Dia_leastFaceToUndo_31 rfl (by decide) rfl (by decide) rfl ?_
          refine zi_goto O 2 d_Dia_leastFaceToUndo_34 (by decide) ?_
          refine zi_no 2 (ls' := _ :: _ :: none :: _) rfl ?_
          exact ih
        · exact absurd (Or.inr c26) hno
  · refine zi_iload_n O d_Dia_leastFaceToUndo_2 rfl ?_
    refine zi_aload_n O d_Dia_leastFaceToUndo_3 rfl ?_
    refine zi_get O f_Dia_28 d_Dia_leastFaceToUndo_4 rfl rfl ?_
    refine zi_get O f_Dia_57 d_Dia_leastFaceToUndo_7 rfl rfl ?_
    refine zi_icmp_geN O 37 d_Dia_leastFaceToUndo_10 (by decide) (by omega) (by omega) (fun c10 => ?_) (fun c10 => ?_)
    · refine zi_iconst (v := -1) O d_Dia_leastFaceToUndo_37 (by decide) ?_
      refine zi_iret O d_Dia_leastFaceToUndo_38 (Nat.le_of_ble_eq_true rfl) (Nat.le_of_ble_eq_true rfl) (Nat.le_of_ble_eq_true rfl) ?_
      exact ⟨rfl, rfl⟩
    · omega
end
end
section
/-! Diagram.joinEdges, lift, undoAt -/
def mn (a b : Nat) : Nat := if b < a then b else a
def mx (a b : Nat) : Nat := if a < b then b else a
def jl (lab : Nat → Nat) (a b : Nat) : Nat → Nat := fun q => if lab q = mx (lab a) (lab b) then mn (lab a) (lab b) else lab q
def jc (lab : Nat → Nat) (a b : Nat) (ci : Int32) : Int32 := if lab a = lab b then ci + nI 1 else ci
theorem rowOK_jl {n : Nat} {L : Nat → Int32} {lab : Nat → Nat} (h : RowOK n L lab) {a b : Nat} (ha : a < 4 * n) (hb : b < 4 * n) : RowOK n (if jlo (L a) (L b) = jhi (L a) (L b) then L else jn L (jlo (L a) (L b)) (jhi (L a) (L b)) (4 * n)) (jl lab a b) ∧ (jlo (L a) (L b) = jhi (L a) (L b) ↔ lab a = lab b) := by
  obtain ⟨hn, hL⟩ := h
  obtain ⟨a1, a2, a3⟩ := hL a ha
  obtain ⟨b1, b2, b3⟩ := hL b hb
  have e1 : jlo (L a) (L b) = nI (mn (lab a) (lab b)) := by rw [a1, b1, jlo_N (by omega) (by omega)]; rfl
  have e2 : jhi (L a) (L b) = nI (mx (lab a) (lab b)) := by rw [a1, b1, jhi_N (by omega) (by omega)]; rfl
  have m1 : mn (lab a) (lab b) < 2 ^ 31 ∧ 1 ≤ mn (lab a) (lab b) ∧ mn (lab a) (lab b) ≤ 9999 := by unfold mn; split <;> omega
  have m2 : mx (lab a) (lab b) < 2 ^ 31 := by unfold mx; split <;> omega
  have e3 : mn (lab a) (lab b) = mx (lab a) (lab b) ↔ lab a = lab b := by unfold mn mx; split <;> split <;> omega
  rw [e1, e2]
  have e4 : (nI (mn (lab a) (lab b)) = nI (mx (lab a) (lab b))) ↔ lab a = lab b := (nI_eq m1.1 m2).trans e3
  refine ⟨⟨hn, fun q hq => ?_⟩, e4⟩
  obtain ⟨q1, q2, q3⟩ := hL q hq
  by_cases c : lab a = lab b
  · rw [if_pos (e4.mpr c)]
    have : jl lab a b q = lab q := by
      unfold jl
      split
      · rename_i z; rw [z]; exact e3.mpr c
      · rfl
    rw [this]
    exact ⟨q1, q2, q3⟩
  · rw [if_neg (fun z => c (e4.mp z))]
    unfold jn jl
    by_cases c2 : lab q = mx (lab a) (lab b)
    · rw [if_pos ⟨hq, by rw [q1, c2]⟩, if_pos c2]
      exact ⟨rfl, m1.2⟩
    · rw [if_neg (fun z => c2 ((nI_eq (by omega) m2).mp (by rw [← q1]; exact z.2))), if_neg c2]
      exact ⟨q1, q2, q3⟩
section
variable {n : Nat} {lab : Nat → Nat} {S : Nat → Int32} {ci : Int32} {el fr to_ at_ oc : Nat → Nat} {h : List zE}
theorem m_Dia_joinEdges (hD : Dr n lab S ci h) (a b : Nat) (ha : a < 4 * n) (hb : b < 4 * n) : zMet y_Dia_joinEdges b_Dia_joinEdges 3 none ⟨2, 0, 0, 50⟩ [.ref 0, .int (nI a), .int (nI b)] h (fun r h' => r = none ∧ Dr n (jl lab a b) S (jc lab a b ci) h') := by
  obtain ⟨L, m, PL, LB, FR, TO, AT, F, OF, RD, ST, pc, co, OC, CE, SL, rfl, hR, hG, hz⟩ := hD
  obtain ⟨hR', hiff⟩ := rowOK_jl hR ha hb
  have hn := hR.1
  refine zMet_of (plainFor_of_name (by decide +kernel)) rfl (Nat.le_of_ble_eq_true rfl) (fun z1 z2 z3 z4 z5 z6 z7 z8 z9 z10 z11 z12 z13 z14 O hin => ?_)
  refine zi_ls (ls' := [some (.ref 0), some (.int (nI a)), some (.int (nI b))]) rfl ?_
  refine zi_aload_n O d_Dia_joinEdges_0 rfl ?_
  refine zi_get O f_Dia_12 d_Dia_joinEdges_1 rfl rfl ?_
  refine zi_iload_n O d_Dia_joinEdges_4 rfl ?_
  refine zi_iload_n O d_Dia_joinEdges_5 rfl ?_
  refine zi_callV O [1, 2, 3] c_Dia_118 k_Row_joinLabels (m_Row_joinLabels n L S a b hn (by omega) (by omega)) d_Dia_joinEdges_6 ⟨(Nat.le_of_ble_eq_true rfl), (Nat.le_of_ble_eq_true rfl)⟩ ⟨(Nat.le_of_ble_eq_true rfl), (Nat.le_of_ble_eq_true rfl)⟩ rfl rfl (Nat.le_of_ble_eq_true rfl) rfl rfl rfl rfl rfl (Nat.le_of_ble_eq_true rfl) rfl (fun r h' hq hl => ?_)
  obtain ⟨rfl, rfl⟩ := hq
  refine zi_h (h' := diaH ci n (if jlo (L a) (L b) = jhi (L a) (L b) then L else jn L (jlo (L a) (L b)) (jhi (L a) (L b)) (4 * n)) S m PL LB FR TO AT F OF RD ST pc co OC CE SL) rfl ?_
  by_cases c : lab a = lab b
  · refine zi_st (st' := [.int (nI 0)]) (by rw [zb_f (fun z => z (hiff.mpr c))]; rfl) ?_
    refine zi_if_ne O 22 d_Dia_joinEdges_9 (by decide) (fun c9 => ?_) (fun c9 => ?_)
    · exact absurd rfl c9
    · refine zi_aload_n O d_Dia_joinEdges_12 rfl ?_
      refine zi_dup O d_Dia_joinEdges_13 rfl ?_
      refine zi_get O f_Dia_121 d_Dia_joinEdges_14 rfl rfl ?_
      refine zi_iconstN O 1 d_Dia_joinEdges_17 (by decide) ?_
      first | refine zi_iaddN O d_Dia_joinEdges_18 ?_ | refine zi_iadd O d_Dia_joinEdges_18 ?_
      refine zi_put O f_Dia_121 d_Dia_joinEdges_19 rfl (Nat.le_of_ble_eq_true rfl) (fun _ => rfl) (fun _ => rfl) (by dsimp only [List.set]) ?_
      refine zi_vret O d_Dia_joinEdges_22 (Nat.le_of_ble_eq_true rfl) (Nat.le_of_ble_eq_true rfl) (Nat.le_of_ble_eq_true rfl) ?_
      exact ⟨rfl, _, m, PL, LB, FR, TO, AT, F, OF, RD, ST, pc, co, OC, CE, SL, by rw [jc, if_pos c], hR', hG, hz⟩
  · refine zi_st (st' := [.int (nI 1)]) (by rw [zb_t (q := ¬ jlo (L a) (L b) = jhi (L a) (L b)) (fun z => c (hiff.mp z))]; rfl) ?_
    refine zi_if_ne O 22 d_Dia_joinEdges_9 (by decide) (fun c9 => ?_) (fun c9 => ?_)
    · refine zi_vret O d_Dia_joinEdges_22 (Nat.le_of_ble_eq_true rfl) (Nat.le_of_ble_eq_true rfl) (Nat.le_of_ble_eq_true rfl) ?_
      exact ⟨rfl, _, m, PL, LB, FR, TO, AT, F, OF, RD, ST, pc, co, OC, CE, SL, by rw [jc, if_neg c], hR', hG, hz⟩
    · exact absurd c9 (by decide)
/-- a crossing goes: labels, signs, circles -/
def rmL (lab : Nat → Nat) (c : Nat) : Nat → Nat := fun q => if q < 4 * c then lab q else lab (q + 4)
def rmS (S : Nat → Int32) (n c : Nat) : Nat → Int32 := va_cpy S S (c + 1) c (n - c - 1)
def uq (S : Nat → Int32) (c : Nat) : Nat := 4 * c + up S c
def lfL (lab : Nat → Nat) (S : Nat → Int32) (c : Nat) : Nat → Nat := rmL (jl (jl lab (4 * c) (4 * c + 2)) (uq S c) (ac (uq S c))) c
def lfC (lab : Nat → Nat) (S : Nat → Int32) (c : Nat) (ci : Int32) : Int32 := jc (jl lab (4 * c) (4 * c + 2)) (uq S c) (ac (uq S c)) (jc lab (4 * c) (4 * c + 2) ci)
theorem uq_lt (S : Nat → Int32) {n c : Nat} (hc : c < n) : uq S c < 4 * n := by have := up_le S c; unfold uq; omega
theorem sg_rm {n : Nat} {S : Nat → Int32} (h : Sg n S) {c : Nat} (hc : c < n) : Sg (n - 1) (rmS S n c) := by
  intro k hk
  unfold rmS va_cpy
  split
  · exact h _ (by omega)
  · exact h _ (by omega)
theorem rowOK_rm {n : Nat} {L : Nat → Int32} {lab : Nat → Nat} (h : RowOK n L lab) {c : Nat} (hc : c < n) : RowOK (n - 1) (va_cpy L L (4 * (c + 1)) (4 * c) (4 * (n - c - 1))) (rmL lab c) := by
  obtain ⟨hn, hL⟩ := h
  refine ⟨by omega, fun q hq => ?_⟩
  unfold va_cpy rmL
  by_cases c1 : q < 4 * c
  · rw [if_neg (by omega), if_pos c1]; exact hL q (by omega)
  · rw [if_pos (by omega), if_neg c1, show 4 * (c + 1) + (q - 4 * c) = q + 4 by omega]; exact hL (q + 4) (by omega)
set_option maxHeartbeats 1000000 in
theorem m_Dia_lift (hD : Dr n lab S ci h) (a : Nat) (ha : a < n) : zMet y_Dia_lift b_Dia_lift 3 none ⟨3, 0, 0, 90⟩ [.ref 0, .int (nI a)] h (fun r h' => r = none ∧ Dr (n - 1) (lfL lab S a) (rmS S n a) (lfC lab S a ci) h') := by
  have hD0 := hD
  have hu := uq_lt S ha
  have hu2 := ac_lt hu
  have hn : n ≤ 20 := by obtain ⟨L, m, PL, LB, FR, TO, AT, F, OF, RD, ST, pc, co, OC, CE, SL, rfl, hR, hG, hz⟩ := hD; exact hR.1
  obtain ⟨L, m, PL, LB, FR, TO, AT, F, OF, RD, ST, pc, co, OC, CE, SL, rfl, hR, hG, hz⟩ := hD
  refine zMet_of (plainFor_of_name (by decide +kernel)) rfl (Nat.le_of_ble_eq_true rfl) (fun z1 z2 z3 z4 z5 z6 z7 z8 z9 z10 z11 z12 z13 z14 O hin => ?_)
  refine zi_ls (ls' := [some (.ref 0), some (.int (nI a)), none]) rfl ?_
  refine zi_aload_n O d_Dia_lift_0 rfl ?_
  refine zi_get O f_Dia_12 d_Dia_lift_1 rfl rfl ?_
  refine zi_iload_n O d_Dia_lift_4 rfl ?_
  refine zi_pureV O [1, 2, 3] c_Dia_108 k_Row_upperIn (m_Row_upperIn n L S a (by omega)) d_Dia_lift_5 ⟨(Nat.le_of_ble_eq_true rfl), (Nat.le_of_ble_eq_true rfl)⟩ ⟨(Nat.le_of_ble_eq_true rfl), (Nat.le_of_ble_eq_true rfl)⟩ rfl rfl (Nat.le_of_ble_eq_true rfl) rfl rfl rfl rfl rfl (Nat.le_of_ble_eq_true rfl) rfl ?_
  refine zi_st (st' := [.int (nI (uq S a))]) rfl ?_
  refine zi_istore_n (ls' := _ :: _ :: some _ :: _) O d_Dia_lift_8 rfl (by decide) rfl ?_
  refine zi_aload_n O d_Dia_lift_9 rfl ?_
  refine zi_iconstN O 4 d_Dia_lift_10 (by decide) ?_
  refine zi_iload_n O d_Dia_lift_11 rfl ?_
  first | refine zi_imulN O d_Dia_lift_12 ?_ | refine zi_imul O d_Dia_lift_12 ?_
  refine zi_iconstN O 4 d_Dia_lift_13 (by decide) ?_
  refine zi_iload_n O d_Dia_lift_14 rfl ?_
  first | refine zi_imulN O d_Dia_lift_15 ?_ | refine zi_imul O d_Dia_lift_15 ?_
  refine zi_iconstN O 2 d_Dia_lift_16 (by decide) ?_
  first | refine zi_iaddN O d_Dia_lift_17 ?_ | refine zi_iadd O d_Dia_lift_17 ?_
  refine zi_selfV O c_Dia_111 k_Dia_joinEdges (m_Dia_joinEdges hD0 (4 * a) (4 * a + 2) (by omega) (by omega)) d_Dia_lift_18 ⟨(Nat.le_of_ble_eq_true rfl), (Nat.le_of_ble_eq_true rfl)⟩ ⟨(Nat.le_of_ble_eq_true rfl), (Nat.le_of_ble_eq_true rfl)⟩ rfl rfl (Nat.le_of_ble_eq_true rfl) rfl rfl rfl (Nat.le_of_ble_eq_true rfl) rfl (fun r h' hq hl => ?_)
  obtain ⟨rfl, hD1⟩ := hq
  have hD1' := hD1
  obtain ⟨L, m, PL, LB, FR, TO, AT, F, OF, RD, ST, pc, co, OC, CE, SL, rfl, hR, hG, hz⟩ := hD1
  refine zi_st (st' := []) rfl ?_
  refine zi_aload_n O d_Dia_lift_21 rfl ?_
  refine zi_iload_n O d_Dia_lift_22 rfl ?_
  refine zi_iload_n O d_Dia_lift_23 rfl ?_
  refine zi_iconstN O 2 d_Dia_lift_24 (by decide) ?_
  refine zi_ixor O d_Dia_lift_25 ?_
  refine zi_st (st' := [.int (nI (ac (uq S a))), .int (nI (uq S a)), .ref 0]) (by rw [xor2 _ (by omega)]) ?_
  refine zi_selfV O c_Dia_111 k_Dia_joinEdges (m_Dia_joinEdges hD1' (uq S a) (ac (uq S a)) hu hu2) d_Dia_lift_26 ⟨(Nat.le_of_ble_eq_true rfl), (Nat.le_of_ble_eq_true rfl)⟩ ⟨(Nat.le_of_ble_eq_true rfl), (Nat.le_of_ble_eq_true rfl)⟩ rfl rfl (Nat.le_of_ble_eq_true rfl) rfl rfl rfl (Nat.le_of_ble_eq_true rfl) rfl (fun r h' hq hl => ?_)
  obtain ⟨rfl, hD2⟩ := hq
  obtain ⟨L, m, PL, LB, FR, TO, AT, F, OF, RD, ST, pc, co, OC, CE, SL, rfl, hR, hG, hz⟩ := hD2
  refine zi_st (st' := []) rfl ?_
  refine zi_aload_n O d_Dia_lift_29 rfl ?_
  refine zi_get O f_Dia_12 d_Dia_lift_30 rfl rfl ?_
  refine zi_iload_n O d_Dia_lift_33 rfl ?_
  refine zi_callV O [1, 2, 3] c_Dia_115 k_Row_remove (m_Row_remove n L S a hn ha) d_Dia_lift_34 ⟨(Nat.le_of_ble_eq_true rfl), (Nat.le_of_ble_eq_true rfl)⟩ ⟨(Nat.le_of_ble_eq_true rfl), (Nat.le_of_ble_eq_true rfl)⟩ rfl rfl (Nat.le_of_ble_eq_true rfl) rfl rfl rfl rfl rfl (Nat.le_of_ble_eq_true rfl) rfl (fun r h' hq hl => ?_)
  obtain ⟨rfl, rfl⟩ := hq
  refine zi_st (st' := []) rfl (zi_h (h' := diaH (lfC lab S a ci) (n - 1) (va_cpy L L (4 * (a + 1)) (4 * a) (4 * (n - a - 1))) (rmS S n a) m PL LB FR TO AT F OF RD ST pc co OC CE SL) rfl ?_)
  refine zi_vret O d_Dia_lift_37 (Nat.le_of_ble_eq_true rfl) (Nat.le_of_ble_eq_true rfl) (Nat.le_of_ble_eq_true rfl) ?_
  exact ⟨rfl, _, m, PL, LB, FR, TO, AT, F, OF, RD, ST, pc, co, OC, CE, SL, rfl, rowOK_rm hR ha, sg_rm hG ha, hz⟩
/-- behind chart -/
def ChQ (n : Nat) (lab : Nat → Nat) (S : Nat → Int32) (ci : Int32) (h : List zE) : Prop := (¬ (C1 n lab ∧ C2 n lab S) ∧ Dr n lab S ci h) ∨ (C1 n lab ∧ C2 n lab S ∧ ∃ el fr to_ at_ oc : Nat → Nat, Dia n lab S ci el fr to_ at_ oc h)
theorem dia_dr (hD : Dia n lab S ci el fr to_ at_ oc h) : Dr n lab S ci h := by
  obtain ⟨L, PL, LB, FR, TO, AT, RD, ST, OC, SL, rfl, hR, hG, hz, hE, hA, hRd, hO, hP⟩ := hD
  exact ⟨L, _, PL, LB, FR, TO, AT, _, _, RD, ST, _, _, OC, _, SL, rfl, hR, hG, hz⟩
theorem m_Dia_chart2 (hD : Dr n lab S ci h) : zMet y_Dia_chart b_Dia_chart 2 (some .int) ⟨4, 0, 0, 110⟩ [.ref 0] h (fun r h' => (∃ x, r = some (.int x)) ∧ ChQ n lab S ci h') := by
  refine (m_Dia_chart hD).mono (fun r h' hq => ?_)
  rcases hq with ⟨rfl, k1, k2⟩ | ⟨rfl, k1, k2, k3⟩ | ⟨k1, k2, el, fr, to_, at_, oc, k3, rfl⟩
  · exact ⟨⟨_, rfl⟩, Or.inl ⟨fun z => k1 z.1, k2⟩⟩
  · exact ⟨⟨_, rfl⟩, Or.inl ⟨fun z => k2 z.2, k3⟩⟩
  · exact ⟨⟨_, rfl⟩, Or.inr ⟨k1, k2, el, fr, to_, at_, oc, k3⟩⟩
theorem m_Dia_undoAt_no (hD : Dia n lab S ci el fr to_ at_ oc h) (k l t : Nat) (hk : k < (FF (nxD fr to_ at_) (4 * n) (4 * n)).2) (hF : FaceK n (nxD fr to_ at_) k l t) (hp : ¬ (pat fr to_ (nxD fr to_ at_) l t = 1 ∨ pat fr to_ (nxD fr to_ at_) l t = 2)) : zPu y_Dia_undoAt b_Dia_undoAt 5 (some .int) ⟨5, 0, 0, 140⟩ [.ref 0, .int (nI k)] h (.int (nI 0)) := by
  have hD' := hD
  obtain ⟨L, PL, LB, FR, TO, AT, RD, ST, OC, SL, rfl, hR, hG, hz, hE, hA, hRd, hO, hP⟩ := hD
  have hpl := pat_le (fr := fr) (to_ := to_) (nxD fr to_ at_) l t
  refine zMet_of (plainFor_of_name (by decide +kernel)) rfl (Nat.le_of_ble_eq_true rfl) (fun z1 z2 z3 z4 z5 z6 z7 z8 z9 z10 z11 z12 z13 z14 O hin => ?_)
  refine zi_ls (ls' := [some (.ref 0), some (.int (nI k)), none, none, none]) rfl ?_
  refine zi_aload_n O d_Dia_undoAt_0 rfl ?_
  refine zi_iload_n O d_Dia_undoAt_1 rfl ?_
  refine zi_selfP O c_Dia_89 k_Dia_patternAt (m_Dia_patternAt hD' k l t hk hF) d_Dia_undoAt_2 ⟨(Nat.le_of_ble_eq_true rfl), (Nat.le_of_ble_eq_true rfl)⟩ ⟨(Nat.le_of_ble_eq_true rfl), (Nat.le_of_ble_eq_true rfl)⟩ rfl rfl (Nat.le_of_ble_eq_true rfl) rfl rfl rfl (Nat.le_of_ble_eq_true rfl) rfl ?_
  refine zi_istore_n (ls' := _ :: _ :: some _ :: _) O d_Dia_undoAt_5 rfl (by decide) rfl ?_
  refine zi_iload_n O d_Dia_undoAt_6 rfl ?_
  refine zi_iconstN O 1 d_Dia_undoAt_7 (by decide) ?_
  refine zi_icmp_eqN O 18 d_Dia_undoAt_8 (by decide) (by omega) (by omega) (fun c8 => ?_) (fun c8 => ?_)
  · omega
  · refine zi_iload_n O d_Dia_undoAt_11 rfl ?_
    refine zi_iconstN O 2 d_Dia_undoAt_12 (by decide) ?_
    refine zi_icmp_eqN O 18 d_Dia_undoAt_13 (by decide) (by omega) (by omega) (fun c13 => ?_) (fun c13 => ?_)
    · omega
    · refine zi_iconstN O 0 d_Dia_undoAt_16 (by decide) ?_
      refine zi_iret O d_Dia_undoAt_17 (Nat.le_of_ble_eq_true rfl) (Nat.le_of_ble_eq_true rfl) (Nat.le_of_ble_eq_true rfl) ?_
      exact ⟨rfl, rfl⟩
theorem m_Dia_undoAt_1 (hD : Dia n lab S ci el fr to_ at_ oc h) (k l t : Nat) (hk : k < (FF (nxD fr to_ at_) (4 * n) (4 * n)).2) (hF : FaceK n (nxD fr to_ at_) k l t) (hp : pat fr to_ (nxD fr to_ at_) l t = 1) : zMet y_Dia_undoAt b_Dia_undoAt 5 (some .int) ⟨5, 0, 0, 140⟩ [.ref 0, .int (nI k)] h (fun r h' => r = some (.int (nI 1)) ∧ ChQ (n - 1) (lfL lab S (ca fr to_ l)) (rmS S n (ca fr to_ l)) (lfC lab S (ca fr to_ l) ci) h') := by
  have hD' := hD
  obtain ⟨L, PL, LB, FR, TO, AT, RD, ST, OC, SL, rfl, hR, hG, hz, hE, hA, hRd, hO, hP⟩ := hD
  have hn := hR.1
  have hFF := ff_le (by omega) (perm_D hE) (Nat.le_refl (4 * n))
  obtain ⟨l', t', a, hF', ha, hs1, hs2, hr⟩ := rd_face hRd hk
  obtain ⟨rfl, rfl⟩ := faceK_uniq hF hF'
  have ht := hF.2.1
  have hl := hF.1
  have hca : ca fr to_ l' < n := by have := ar_lt hE hl; unfold ca; omega
  refine zMet_of (plainFor_of_name (by decide +kernel)) rfl (Nat.le_of_ble_eq_true rfl) (fun z1 z2 z3 z4 z5 z6 z7 z8 z9 z10 z11 z12 z13 z14 O hin => ?_)
  refine zi_ls (ls' := [some (.ref 0), some (.int (nI k)), none, none, none]) rfl ?_
  refine zi_aload_n O d_Dia_undoAt_0 rfl ?_
  refine zi_iload_n O d_Dia_undoAt_1 rfl ?_
  refine zi_selfP O c_Dia_89 k_Dia_patternAt (m_Dia_patternAt hD' k l' t' hk hF) d_Dia_undoAt_2 ⟨(Nat.le_of_ble_eq_true rfl), (Nat.le_of_ble_eq_true rfl)⟩ ⟨(Nat.le_of_ble_eq_true rfl), (Nat.le_of_ble_eq_true rfl)⟩ rfl rfl (Nat.le_of_ble_eq_true rfl) rfl rfl rfl (Nat.le_of_ble_eq_true rfl) rfl ?_
  rw [hp]
  refine zi_istore_n (ls' := _ :: _ :: some _ :: _) O d_Dia_undoAt_5 rfl (by decide) rfl ?_
  refine zi_iload_n O d_Dia_undoAt_6 rfl ?_
  refine zi_iconstN O 1 d_Dia_undoAt_7 (by decide) ?_
  refine zi_icmp_eqN O 18 d_Dia_undoAt_8 (by decide) (by omega) (by omega) (fun c8 => ?_) (fun c8 => ?_)
  · refine zi_aload_n O d_Dia_undoAt_18 rfl ?_
    refine zi_aload_n O d_Dia_undoAt_19 rfl ?_
    refine zi_get O f_Dia_28 d_Dia_undoAt_20 rfl rfl ?_
    refine zi_iload_n O d_Dia_undoAt_23 rfl ?_
    refine zi_iconstN O 0 d_Dia_undoAt_24 (by decide) ?_
    refine zi_pureV O [10, 11, 12, 13] c_Dia_63 k_Fac_dart (m_Fac_dart (FF (nxD fr to_ at_) (4 * n) (4 * n)).2 (FF (nxD fr to_ at_) (4 * n) (4 * n)).1 RD ST k 0 a l' (by omega) hs1 (by omega) (hr 0 (by omega))) d_Dia_undoAt_25 ⟨(Nat.le_of_ble_eq_true rfl), (Nat.le_of_ble_eq_true rfl)⟩ ⟨(Nat.le_of_ble_eq_true rfl), (Nat.le_of_ble_eq_true rfl)⟩ rfl rfl (Nat.le_of_ble_eq_true rfl) rfl rfl rfl rfl rfl (Nat.le_of_ble_eq_true rfl) rfl ?_
    refine zi_selfP O c_Dia_78 k_Dia_crossingAhead (m_Dia_crossingAhead hD' l' hl) d_Dia_undoAt_28 ⟨(Nat.le_of_ble_eq_true rfl), (Nat.le_of_ble_eq_true rfl)⟩ ⟨(Nat.le_of_ble_eq_true rfl), (Nat.le_of_ble_eq_true rfl)⟩ rfl rfl (Nat.le_of_ble_eq_true rfl) rfl rfl rfl (Nat.le_of_ble_eq_true rfl) rfl ?_
    refine zi_istore_n (ls' := _ :: _ :: _ :: some _ :: _) O d_Dia_undoAt_31 rfl (by decide) rfl ?_
    refine zi_iload_n O d_Dia_undoAt_32 rfl ?_
    refine zi_iconstN O 1 d_Dia_undoAt_33 (by decide) ?_
    refine zi_icmp_neN O 45 d_Dia_undoAt_34 (by decide) (by omega) (by omega) (fun c34 => ?_) (fun c34 => ?_)
    · omega
    · refine zi_aload_n O d_Dia_undoAt_37 rfl ?_
      refine zi_iload_n O d_Dia_undoAt_38 rfl ?_
      refine zi_selfV O c_Dia_92 k_Dia_lift (m_Dia_lift (dia_dr hD') (ca fr to_ l') hca) d_Dia_undoAt_39 ⟨(Nat.le_of_ble_eq_true rfl), (Nat.le_of_ble_eq_true rfl)⟩ ⟨(Nat.le_of_ble_eq_true rfl), (Nat.le_of_ble_eq_true rfl)⟩ rfl rfl (Nat.le_of_ble_eq_true rfl) rfl rfl rfl (Nat.le_of_ble_eq_true rfl) rfl (fun r h' hq hl => ?_)
      obtain ⟨rfl, hD1⟩ := hq
      have hD1' := hD1
      obtain ⟨L, m, PL, LB, FR, TO, AT, F, OF, RD, ST, pc, co, OC, CE, SL, rfl, hR, hG, hz⟩ := hD1
      refine zi_st (st' := []) rfl ?_
      refine zi_goto O 82 d_Dia_undoAt_42 (by decide) ?_
      refine zi_aload_n O d_Dia_undoAt_82 rfl ?_
      refine zi_selfV O c_Dia_104 k_Dia_chart (m_Dia_chart2 hD1') d_Dia_undoAt_83 ⟨(Nat.le_of_ble_eq_true rfl), (Nat.le_of_ble_eq_true rfl)⟩ ⟨(Nat.le_of_ble_eq_true rfl), (Nat.le_of_ble_eq_true rfl)⟩ rfl rfl (Nat.le_of_ble_eq_true rfl) rfl rfl rfl (Nat.le_of_ble_eq_true rfl) rfl (fun r h' hq hl => ?_)
      obtain ⟨⟨x, rfl⟩, hC⟩ := hq
      have hx : ∃ (m : Nat) (PL LB FR TO AT : Nat → Int32) (F : Nat) (OF RD ST : Nat → Int32) (pc co : Nat) (OC CE SL L : Nat → Int32), h' = diaH (lfC lab S (ca fr to_ l') ci) (n - 1) L (rmS S n (ca fr to_ l')) m PL LB FR TO AT F OF RD ST pc co OC CE SL := by
        rcases hC with ⟨-, z⟩ | ⟨-, -, _, _, _, _, _, z⟩
        · obtain ⟨L, m, PL, LB, FR, TO, AT, F, OF, RD, ST, pc, co, OC, CE, SL, rfl, -⟩ := z; exact ⟨m, PL, LB, FR, TO, AT, F, OF, RD, ST, pc, co, OC, CE, SL, L, rfl⟩
        · obtain ⟨L, m, PL, LB, FR, TO, AT, F, OF, RD, ST, pc, co, OC, CE, SL, rfl, -⟩ := dia_dr z; exact ⟨m, PL, LB, FR, TO, AT, F, OF, RD, ST, pc, co, OC, CE, SL, L, rfl⟩
      obtain ⟨m, PL, LB, FR, TO, AT, F, OF, RD, ST, pc, co, OC, CE, SL, L, rfl⟩ := hx
      refine zi_st (st' := [.int x]) rfl ?_
      refine zi_pop O d_Dia_undoAt_86 rfl ?_
      refine zi_iload_n O d_Dia_undoAt_87 rfl ?_
      refine zi_iret O d_Dia_undoAt_88 (Nat.le_of_ble_eq_true rfl) (Nat.le_of_ble_eq_true rfl) (Nat.le_of_ble_eq_true rfl) ?_
      exact ⟨rfl, hC⟩
  · omega
end
end
section
/-! Diagram.undoAt (two crossings); slideEdge, slideAt -/
section
variable {n : Nat} {lab : Nat → Nat} {S : Nat → Int32} {ci : Int32} {el fr to_ at_ oc : Nat → Nat} {h : List zE}
theorem dr_form (hD : Dr n lab S ci h) : ∃ (L : Nat → Int32) (m : Nat) (PL LB FR TO AT : Nat → Int32) (F : Nat) (OF RD ST : Nat → Int32) (pc co : Nat) (OC CE SL : Nat → Int32), h = diaH ci n L S m PL LB FR TO AT F OF RD ST pc co OC CE SL := by
  obtain ⟨L, m, PL, LB, FR, TO, AT, F, OF, RD, ST, pc, co, OC, CE, SL, rfl, -⟩ := hD
  exact ⟨L, m, PL, LB, FR, TO, AT, F, OF, RD, ST, pc, co, OC, CE, SL, rfl⟩
theorem chq_dr (hC : ChQ n lab S ci h) : Dr n lab S ci h := by
  rcases hC with ⟨-, z⟩ | ⟨-, -, _, _, _, _, _, z⟩
  · exact z
  · exact dia_dr z
set_option maxHeartbeats 1000000 in
theorem m_Dia_undoAt_2 (hD : Dia n lab S ci el fr to_ at_ oc h) (k l t a b : Nat) (hk : k < (FF (nxD fr to_ at_) (4 * n) (4 * n)).2) (hF : FaceK n (nxD fr to_ at_) k l t) (hp : pat fr to_ (nxD fr to_ at_) l t = 2) (ha : a = mn (ca fr to_ l) (ca fr to_ (nxD fr to_ at_ l))) (hb : b = mx (ca fr to_ l) (ca fr to_ (nxD fr to_ at_ l)) - 1) : zMet y_Dia_undoAt b_Dia_undoAt 5 (some .int) ⟨5, 0, 0, 140⟩ [.ref 0, .int (nI k)] h
    (fun r h' => r = some (.int (nI 2)) ∧ a < n ∧ b < n - 1 ∧ ChQ (n - 1 - 1) (lfL (lfL lab S a) (rmS S n a) b) (rmS (rmS S n a) (n - 1) b) (lfC (lfL lab S a) (rmS S n a) b (lfC lab S a ci)) h') := by
  have hD' := hD
  obtain ⟨L, PL, LB, FR, TO, AT, RD, ST, OC, SL, rfl, hR, hG, hz, hE, hA, hRd, hO, hP⟩ := hD
  have hn := hR.1
  have hFF := ff_le (by omega) (perm_D hE) (Nat.le_refl (4 * n))
  obtain ⟨l', t', s, hF', hs, hs1, hs2, hr⟩ := rd_face hRd hk
  obtain ⟨rfl, rfl⟩ := faceK_uniq hF hF'
  have ht := hF.2.1
  have hl := fun i => it_lt (perm_D hE) hF.1 i
  have hl0 : l' < 4 * n := hl 0
  have hl1 : nxD fr to_ at_ l' < 4 * n := hl 1
  have h2 : t' = 2 ∧ isFin fr to_ l' (nxD fr to_ at_ l') := by
    unfold pat at hp
    split at hp
    · omega
    · split at hp
      · split at hp
        · rename_i q1 q2 q3; exact ⟨q2, q3⟩
        · omega
      · split at hp
        · split at hp <;> omega
        · omega
  obtain ⟨rfl, hfin⟩ := h2
  have c0 : ca fr to_ l' < n := by have := ar_lt hE hl0; unfold ca; omega
  have c1 : ca fr to_ (nxD fr to_ at_ l') < n := by have := ar_lt hE hl1; unfold ca; omega
  have han : a < n := by rw [ha]; unfold mn; split <;> omega
  have hbn : b < n - 1 := by
    have := hfin.1
    rw [hb]; unfold mx; split <;> omega
  refine zMet_of (plainFor_of_name (by decide +kernel)) rfl (Nat.le_of_ble_eq_true rfl) (fun z1 z2 z3 z4 z5 z6 z7 z8 z9 z10 z11 z12 z13 z14 O hin => ?_)
  refine zi_ls (ls' := [some (.ref 0), some (.int (nI k)), none, none, none]) rfl ?_
  refine zi_aload_n O d_Dia_undoAt_0 rfl ?_
  refine zi_iload_n O d_Dia_undoAt_1 rfl ?_
  refine zi_selfP O c_Dia_89 k_Dia_patternAt (m_Dia_patternAt hD' k l' 2 hk hF) d_Dia_undoAt_2 ⟨(Nat.le_of_ble_eq_true rfl), (Nat.le_of_ble_eq_true rfl)⟩ ⟨(Nat.le_of_ble_eq_true rfl), (Nat.le_of_ble_eq_true rfl)⟩ rfl rfl (Nat.le_of_ble_eq_true rfl) rfl rfl rfl (Nat.le_of_ble_eq_true rfl) rfl ?_
  rw [hp]
  refine zi_istore_n (ls' := _ :: _ :: some _ :: _) O d_Dia_undoAt_5 rfl (by decide) rfl ?_
  refine zi_iload_n O d_Dia_undoAt_6 rfl ?_
  refine zi_iconstN O 1 d_Dia_undoAt_7 (by decide) ?_
  refine zi_icmp_eqN O 18 d_Dia_undoAt_8 (by decide) (by omega) (by omega) (fun c8 => ?_) (fun c8 => ?_)
  · omega
  · refine zi_iload_n O d_Dia_undoAt_11 rfl ?_
    refine zi_iconstN O 2 d_Dia_undoAt_12 (by decide) ?_
    refine zi_icmp_eqN O 18 d_Dia_undoAt_13 (by decide) (by omega) (by omega) (fun c13 => ?_) (fun c13 => ?_)
    · refine zi_aload_n O d_Dia_undoAt_18 rfl ?_
      refine zi_aload_n O d_Dia_undoAt_19 rfl ?_
      refine zi_get O f_Dia_28 d_Dia_undoAt_20 rfl rfl ?_
      refine zi_iload_n O d_Dia_undoAt_23 rfl ?_
      refine zi_iconstN O 0 d_Dia_undoAt_24 (by decide) ?_
      refine zi_pureV O [10, 11, 12, 13] c_Dia_63 k_Fac_dart (m_Fac_dart (FF (nxD fr to_ at_) (4 * n) (4 * n)).2 (FF (nxD fr to_ at_) (4 * n) (4 * n)).1 RD ST k 0 s l' (by omega) hs1 (by omega) (hr 0 (by omega))) d_Dia_undoAt_25 ⟨(Nat.le_of_ble_eq_true rfl), (Nat.le_of_ble_eq_true rfl)⟩ ⟨(Nat.le_of_ble_eq_true rfl), (Nat.le_of_ble_eq_true rfl)⟩ rfl rfl (Nat.le_of_ble_eq_true rfl) rfl rfl rfl rfl rfl (Nat.le_of_ble_eq_true rfl) rfl ?_
      refine zi_selfP O c_Dia_78 k_Dia_crossingAhead (m_Dia_crossingAhead hD' l' hl0) d_Dia_undoAt_28 ⟨(Nat.le_of_ble_eq_true rfl), (Nat.le_of_ble_eq_true rfl)⟩ ⟨(Nat.le_of_ble_eq_true rfl), (Nat.le_of_ble_eq_true rfl)⟩ rfl rfl (Nat.le_of_ble_eq_true rfl) rfl rfl rfl (Nat.le_of_ble_eq_true rfl) rfl ?_
      refine zi_istore_n (ls' := _ :: _ :: _ :: some _ :: _) O d_Dia_undoAt_31 rfl (by decide) rfl ?_
      refine zi_iload_n O d_Dia_undoAt_32 rfl ?_
      refine zi_iconstN O 1 d_Dia_undoAt_33 (by decide) ?_
      refine zi_icmp_neN O 45 d_Dia_undoAt_34 (by decide) (by omega) (by omega) (fun c34 => ?_) (fun c34 => ?_)
      · refine zi_aload_n O d_Dia_undoAt_45 rfl ?_
        refine zi_aload_n O d_Dia_undoAt_46 rfl ?_
        refine zi_get O f_Dia_28 d_Dia_undoAt_47 rfl rfl ?_
        refine zi_iload_n O d_Dia_undoAt_50 rfl ?_
        refine zi_iconstN O 1 d_Dia_undoAt_51 (by decide) ?_
        refine zi_pureV O [10, 11, 12, 13] c_Dia_63 k_Fac_dart (m_Fac_dart (FF (nxD fr to_ at_) (4 * n) (4 * n)).2 (FF (nxD fr to_ at_) (4 * n) (4 * n)).1 RD ST k 1 s (nxD fr to_ at_ l') (by omega) hs1 (by omega) (hr 1 (by omega))) d_Dia_undoAt_52 ⟨(Nat.le_of_ble_eq_true rfl), (Nat.le_of_ble_eq_true rfl)⟩ ⟨(Nat.le_of_ble_eq_true rfl), (Nat.le_of_ble_eq_true rfl)⟩ rfl rfl (Nat.le_of_ble_eq_true rfl) rfl rfl rfl rfl rfl (Nat.le_of_ble_eq_true rfl) rfl ?_
        refine zi_selfP O c_Dia_78 k_Dia_crossingAhead (m_Dia_crossingAhead hD' (nxD fr to_ at_ l') hl1) d_Dia_undoAt_55 ⟨(Nat.le_of_ble_eq_true rfl), (Nat.le_of_ble_eq_true rfl)⟩ ⟨(Nat.le_of_ble_eq_true rfl), (Nat.le_of_ble_eq_true rfl)⟩ rfl rfl (Nat.le_of_ble_eq_true rfl) rfl rfl rfl (Nat.le_of_ble_eq_true rfl) rfl ?_
        refine zi_istore (ls' := _ :: _ :: _ :: _ :: some _ :: _) O d_Dia_undoAt_58 rfl (by decide) rfl ?_
        refine zi_aload_n O d_Dia_undoAt_60 rfl ?_
        refine zi_iload_n O d_Dia_undoAt_61 rfl ?_
        refine zi_iload O d_Dia_undoAt_62 rfl ?_
        refine zi_pureS O [] c_Dia_96 k_Math_min (m_Math_min (nI (ca fr to_ l')) (nI (ca fr to_ (nxD fr to_ at_ l')))) d_Dia_undoAt_64 ⟨(Nat.le_of_ble_eq_true rfl), (Nat.le_of_ble_eq_true rfl)⟩ ⟨(Nat.le_of_ble_eq_true rfl), (Nat.le_of_ble_eq_true rfl)⟩ rfl (Nat.le_of_ble_eq_true rfl) rfl rfl rfl rfl rfl (Nat.le_of_ble_eq_true rfl) rfl ?_
        refine zi_st (st' := [.int (nI a), .ref 0]) (by rw [jlo_N (by omega) (by omega), ha]; rfl) ?_
        refine zi_selfV O c_Dia_92 k_Dia_lift (m_Dia_lift (dia_dr hD') a han) d_Dia_undoAt_67 ⟨(Nat.le_of_ble_eq_true rfl), (Nat.le_of_ble_eq_true rfl)⟩ ⟨(Nat.le_of_ble_eq_true rfl), (Nat.le_of_ble_eq_true rfl)⟩ rfl rfl (Nat.le_of_ble_eq_true rfl) rfl rfl rfl (Nat.le_of_ble_eq_true rfl) rfl (fun r h' hq hl => ?_)
        obtain ⟨rfl, hD1⟩ := hq
        obtain ⟨L, m, PL, LB, FR, TO, AT, F, OF, RD, ST, pc, co, OC, CE, SL, rfl⟩ := dr_form hD1
        refine zi_st (st' := []) rfl ?_
        refine zi_aload_n O d_Dia_undoAt_70 rfl ?_
        refine zi_iload_n O d_Dia_undoAt_71 rfl ?_
        refine zi_iload O d_Dia_undoAt_72 rfl ?_
        refine zi_pureS O [] c_Dia_101 k_Math_max (m_Math_max (nI (ca fr to_ l')) (nI (ca fr to_ (nxD fr to_ at_ l')))) d_Dia_undoAt_74 ⟨(Nat.le_of_ble_eq_true rfl), (Nat.le_of_ble_eq_true rfl)⟩ ⟨(Nat.le_of_ble_eq_true rfl), (Nat.le_of_ble_eq_true rfl)⟩ rfl (Nat.le_of_ble_eq_true rfl) rfl rfl rfl rfl rfl (Nat.le_of_ble_eq_true rfl) rfl ?_
        refine zi_st (st' := [.int (nI (mx (ca fr to_ l') (ca fr to_ (nxD fr to_ at_ l')))), .ref 0]) (by rw [jhi_N (by omega) (by omega)]; rfl) ?_
        have hmx : 1 ≤ mx (ca fr to_ l') (ca fr to_ (nxD fr to_ at_ l')) := by
          have := hfin.1
          unfold mx; split <;> omega
        refine zi_iconstN O 1 d_Dia_undoAt_77 (by decide) ?_
        first | refine zi_isubN O d_Dia_undoAt_78 (by omega) ?_ | refine zi_isub O d_Dia_undoAt_78 ?_
        refine zi_st (st' := [.int (nI b), .ref 0]) (by rw [hb]) ?_
        refine zi_selfV O c_Dia_92 k_Dia_lift (m_Dia_lift hD1 b hbn) d_Dia_undoAt_79 ⟨(Nat.le_of_ble_eq_true rfl), (Nat.le_of_ble_eq_true rfl)⟩ ⟨(Nat.le_of_ble_eq_true rfl), (Nat.le_of_ble_eq_true rfl)⟩ rfl rfl (Nat.le_of_ble_eq_true rfl) rfl rfl rfl (Nat.le_of_ble_eq_true rfl) rfl (fun r h' hq hl => ?_)
        obtain ⟨rfl, hD2⟩ := hq
        obtain ⟨L, m, PL, LB, FR, TO, AT, F, OF, RD, ST, pc, co, OC, CE, SL, rfl⟩ := dr_form hD2
        refine zi_st (st' := []) rfl ?_
        refine zi_aload_n O d_Dia_undoAt_82 rfl ?_
        refine zi_selfV O c_Dia_104 k_Dia_chart (m_Dia_chart2 hD2) d_Dia_undoAt_83 ⟨(Nat.le_of_ble_eq_true rfl), (Nat.le_of_ble_eq_true rfl)⟩ ⟨(Nat.le_of_ble_eq_true rfl), (Nat.le_of_ble_eq_true rfl)⟩ rfl rfl (Nat.le_of_ble_eq_true rfl) rfl rfl rfl (Nat.le_of_ble_eq_true rfl) rfl (fun r h' hq hl => ?_)
        obtain ⟨⟨x, rfl⟩, hC⟩ := hq
        obtain ⟨L, m, PL, LB, FR, TO, AT, F, OF, RD, ST, pc, co, OC, CE, SL, rfl⟩ := dr_form (chq_dr hC)
        refine zi_st (st' := [.int x]) rfl ?_
        refine zi_pop O d_Dia_undoAt_86 rfl ?_
        refine zi_iload_n O d_Dia_undoAt_87 rfl ?_
        refine zi_iret O d_Dia_undoAt_88 (Nat.le_of_ble_eq_true rfl) (Nat.le_of_ble_eq_true rfl) (Nat.le_of_ble_eq_true rfl) ?_
        exact ⟨rfl, han, hbn, hC⟩
      · omega
    · omega
/-- one edge of a slide -/
def sE (el fr to_ lab X : Nat → Nat) (e : Nat) : Nat → Nat := va_up (va_up (va_up (va_up X (ac (fr e)) (el e)) (fr e) (lab (ac (to_ e)))) (to_ e) (lab (ac (fr e)))) (ac (to_ e)) (el e)
theorem hold_up {N : Nat} {SL : Nat → Int32} {X : Nat → Nat} (h : ∀ q, q < N → SL q = nI (X q)) (k v : Nat) : ∀ q, q < N → upd SL k (nI v) q = nI (va_up X k v q) := by
  intro q hq
  unfold upd va_up
  split
  · rfl
  · exact h q hq
set_option maxHeartbeats 1000000 in
theorem m_Dia_slideEdge {L PL LB FR TO AT OF RD ST OC CE SL : Nat → Int32} {F pc co : Nat} {X : Nat → Nat} (hR : RowOK n L lab) (hE : Ed n lab S el fr to_ at_) (hA : EdA n el fr to_ at_ LB FR TO AT) (hX : ∀ q, q < 4 * n → SL q = nI (X q)) (e : Nat) (he : e < 2 * n) : zMet y_Dia_slideEdge b_Dia_slideEdge 6 none ⟨0, 0, 0, 0⟩ [.ref 0, .int (nI e)] (diaH ci n L S (2 * n) PL LB FR TO AT F OF RD ST pc co OC CE SL)
    (fun r h' => r = none ∧ ∃ SL' : Nat → Int32, h' = diaH ci n L S (2 * n) PL LB FR TO AT F OF RD ST pc co OC CE SL' ∧ ∀ q, q < 4 * n → SL' q = nI (sE el fr to_ lab X e q)) := by
  have hn := hR.1
  obtain ⟨b1, b2, b3, b4, b5, b6⟩ := hE.1 e he
  obtain ⟨a1, a2, a3⟩ := hA.1 e he
  have d1 := ac_lt b1
  have d2 := ac_lt b2
  refine zMet_of (plainFor_of_name (by decide +kernel)) rfl (Nat.le_of_ble_eq_true rfl) (fun z1 z2 z3 z4 z5 z6 z7 z8 z9 z10 z11 z12 z13 z14 O hin => ?_)
  refine zi_ls (ls' := [some (.ref 0), some (.int (nI e)), none, none, none, none]) rfl ?_
  refine zi_aload_n O d_Dia_slideEdge_0 rfl ?_
  refine zi_get O f_Dia_21 d_Dia_slideEdge_1 rfl rfl ?_
  refine zi_get O f_Dia_136 d_Dia_slideEdge_4 rfl rfl ?_
  refine zi_iload_n O d_Dia_slideEdge_7 rfl ?_
  refine zi_iald O d_Dia_slideEdge_8 rfl rfl (by omega) (by decide) ?_
  rw [a2]
  refine zi_istore_n (ls' := _ :: _ :: some _ :: _) O d_Dia_slideEdge_9 rfl (by decide) rfl ?_
  refine zi_aload_n O d_Dia_slideEdge_10 rfl ?_
  refine zi_get O f_Dia_21 d_Dia_slideEdge_11 rfl rfl ?_
  refine zi_get O f_Dia_139 d_Dia_slideEdge_14 rfl rfl ?_
  refine zi_iload_n O d_Dia_slideEdge_17 rfl ?_
  refine zi_iald O d_Dia_slideEdge_18 rfl rfl (by omega) (by decide) ?_
  rw [a3]
  refine zi_istore_n (ls' := _ :: _ :: _ :: some _ :: _) O d_Dia_slideEdge_19 rfl (by decide) rfl ?_
  refine zi_aload_n O d_Dia_slideEdge_20 rfl ?_
  refine zi_get O f_Dia_12 d_Dia_slideEdge_21 rfl rfl ?_
  refine zi_get O f_Dia_124 d_Dia_slideEdge_24 rfl rfl ?_
  refine zi_iload_n O d_Dia_slideEdge_27 rfl ?_
  refine zi_iconstN O 2 d_Dia_slideEdge_28 (by decide) ?_
  refine zi_ixor O d_Dia_slideEdge_29 ?_
  rw [xor2 _ (by omega)]
  refine zi_iald O d_Dia_slideEdge_30 rfl rfl (by omega) (by decide) ?_
  rw [(hR.2 _ d1).1]
  refine zi_istore (ls' := _ :: _ :: _ :: _ :: some _ :: _) O d_Dia_slideEdge_31 rfl (by decide) rfl ?_
  refine zi_aload_n O d_Dia_slideEdge_33 rfl ?_
  refine zi_get O f_Dia_12 d_Dia_slideEdge_34 rfl rfl ?_
  refine zi_get O f_Dia_124 d_Dia_slideEdge_37 rfl rfl ?_
  refine zi_iload_n O d_Dia_slideEdge_40 rfl ?_
  refine zi_iconstN O 2 d_Dia_slideEdge_41 (by decide) ?_
  refine zi_ixor O d_Dia_slideEdge_42 ?_
  rw [xor2 _ (by omega)]
  refine zi_iald O d_Dia_slideEdge_43 rfl rfl (by omega) (by decide) ?_
  rw [(hR.2 _ d2).1]
  refine zi_istore (ls' := _ :: _ :: _ :: _ :: _ :: some _ :: _) O d_Dia_slideEdge_44 rfl (by decide) rfl ?_
  refine zi_aload_n O d_Dia_slideEdge_46 rfl ?_
  refine zi_get O f_Dia_39 d_Dia_slideEdge_47 rfl rfl ?_
  refine zi_iload_n O d_Dia_slideEdge_50 rfl ?_
  refine zi_iconstN O 2 d_Dia_slideEdge_51 (by decide) ?_
  refine zi_ixor O d_Dia_slideEdge_52 ?_
  rw [xor2 _ (by omega)]
  refine zi_aload_n O d_Dia_slideEdge_53 rfl ?_
  refine zi_get O f_Dia_21 d_Dia_slideEdge_54 rfl rfl ?_
  refine zi_get O f_Dia_142 d_Dia_slideEdge_57 rfl rfl ?_
  refine zi_iload_n O d_Dia_slideEdge_60 rfl ?_
  refine zi_iald O d_Dia_slideEdge_61 rfl rfl (by omega) (by decide) ?_
  rw [a1]
  refine zi_iast O d_Dia_slideEdge_62 rfl rfl (by omega) (by decide) (by dsimp only [List.set]) ?_
  refine zi_aload_n O d_Dia_slideEdge_63 rfl ?_
  refine zi_get O f_Dia_39 d_Dia_slideEdge_64 rfl rfl ?_
  refine zi_iload_n O d_Dia_slideEdge_67 rfl ?_
  refine zi_iload O d_Dia_slideEdge_68 rfl ?_
  refine zi_iast O d_Dia_slideEdge_70 rfl rfl (by omega) (by decide) (by dsimp only [List.set]) ?_
  refine zi_aload_n O d_Dia_slideEdge_71 rfl ?_
  refine zi_get O f_Dia_39 d_Dia_slideEdge_72 rfl rfl ?_
  refine zi_iload_n O d_Dia_slideEdge_75 rfl ?_
  refine zi_iload O d_Dia_slideEdge_76 rfl ?_
  refine zi_iast O d_Dia_slideEdge_78 rfl rfl (by omega) (by decide) (by dsimp only [List.set]) ?_
  refine zi_aload_n O d_Dia_slideEdge_79 rfl ?_
  refine zi_get O f_Dia_39 d_Dia_slideEdge_80 rfl rfl ?_
  refine zi_iload_n O d_Dia_slideEdge_83 rfl ?_
  refine zi_iconstN O 2 d_Dia_slideEdge_84 (by decide) ?_
  refine zi_ixor O d_Dia_slideEdge_85 ?_
  rw [xor2 _ (by omega)]
  refine zi_aload_n O d_Dia_slideEdge_86 rfl ?_
  refine zi_get O f_Dia_21 d_Dia_slideEdge_87 rfl rfl ?_
  refine zi_get O f_Dia_142 d_Dia_slideEdge_90 rfl rfl ?_
  refine zi_iload_n O d_Dia_slideEdge_93 rfl ?_
  refine zi_iald O d_Dia_slideEdge_94 rfl rfl (by omega) (by decide) ?_
  rw [a1]
  refine zi_iast O d_Dia_slideEdge_95 rfl rfl (by omega) (by decide) (by dsimp only [List.set]) ?_
  refine zi_vret O d_Dia_slideEdge_96 (Nat.le_of_ble_eq_true rfl) (Nat.le_of_ble_eq_true rfl) (Nat.le_of_ble_eq_true rfl) ?_
  exact ⟨rfl, _, rfl, hold_up (hold_up (hold_up (hold_up hX _ _) _ _) _ _) _ _⟩
def sl3 (el fr to_ lab : Nat → Nat) (a b c : Nat) : Nat → Nat := sE el fr to_ lab (sE el fr to_ lab (sE el fr to_ lab lab a) b) c
theorem sE_in {n : Nat} (hE : Ed n lab S el fr to_ at_) {X : Nat → Nat} {L : Nat → Int32} (hR : RowOK n L lab) (hX : ∀ q, q < 4 * n → 1 ≤ X q ∧ X q ≤ 9999) {e : Nat} (he : e < 2 * n) : ∀ q, q < 4 * n → 1 ≤ sE el fr to_ lab X e q ∧ sE el fr to_ lab X e q ≤ 9999 := by
  intro q hq
  obtain ⟨b1, b2, b3, b4, b5, b6⟩ := hE.1 e he
  have c1 := (hR.2 _ b1).2
  have c2 := (hR.2 _ (ac_lt b1)).2
  have c3 := (hR.2 _ (ac_lt b2)).2
  rw [b3] at c1
  unfold sE va_up
  split
  · exact c1
  · split
    · exact c2
    · split
      · exact c3
      · split
        · exact c1
        · exact hX q hq
theorem m_Dia_slideAt_no (hD : Dia n lab S ci el fr to_ at_ oc h) (k l t : Nat) (hk : k < (FF (nxD fr to_ at_) (4 * n) (4 * n)).2) (hF : FaceK n (nxD fr to_ at_) k l t) (hp : pat fr to_ (nxD fr to_ at_) l t ≠ 3) : zPu y_Dia_slideAt b_Dia_slideAt 3 (some .boolean) ⟨5, 0, 0, 140⟩ [.ref 0, .int (nI k)] h (.int (nI 0)) := by
  have hD' := hD
  obtain ⟨L, PL, LB, FR, TO, AT, RD, ST, OC, SL, rfl, hR, hG, hz, hE, hA, hRd, hO, hP⟩ := hD
  have hpl := pat_le (fr := fr) (to_ := to_) (nxD fr to_ at_) l t
  refine zMet_of (plainFor_of_name (by decide +kernel)) rfl (Nat.le_of_ble_eq_true rfl) (fun z1 z2 z3 z4 z5 z6 z7 z8 z9 z10 z11 z12 z13 z14 O hin => ?_)
  refine zi_ls (ls' := [some (.ref 0), some (.int (nI k)), none]) rfl ?_
  refine zi_aload_n O d_Dia_slideAt_0 rfl ?_
  refine zi_iload_n O d_Dia_slideAt_1 rfl ?_
  refine zi_selfP O c_Dia_89 k_Dia_patternAt (m_Dia_patternAt hD' k l t hk hF) d_Dia_slideAt_2 ⟨(Nat.le_of_ble_eq_true rfl), (Nat.le_of_ble_eq_true rfl)⟩ ⟨(Nat.le_of_ble_eq_true rfl), (Nat.le_of_ble_eq_true rfl)⟩ rfl rfl (Nat.le_of_ble_eq_true rfl) rfl rfl rfl (Nat.le_of_ble_eq_true rfl) rfl ?_
  refine zi_iconstN O 3 d_Dia_slideAt_5 (by decide) ?_
  refine zi_icmp_eqN O 11 d_Dia_slideAt_6 (by decide) (by omega) (by omega) (fun c6 => ?_) (fun c6 => ?_)
  · omega
  · refine zi_iconstN O 0 d_Dia_slideAt_9 (by decide) ?_
    refine zi_zret O d_Dia_slideAt_10 rfl (Nat.le_of_ble_eq_true rfl) (Nat.le_of_ble_eq_true rfl) (Nat.le_of_ble_eq_true rfl) ?_
    exact ⟨rfl, rfl⟩
set_option maxHeartbeats 1000000 in
theorem m_Dia_slideAt (hD : Dia n lab S ci el fr to_ at_ oc h) (k l t : Nat) (hk : k < (FF (nxD fr to_ at_) (4 * n) (4 * n)).2) (hF : FaceK n (nxD fr to_ at_) k l t) (hp : pat fr to_ (nxD fr to_ at_) l t = 3) : zMet y_Dia_slideAt b_Dia_slideAt 3 (some .boolean) ⟨5, 0, 0, 140⟩ [.ref 0, .int (nI k)] h
    (fun r h' => r = some (.int (nI 1)) ∧ t = 3 ∧ ChQ n (sl3 el fr to_ lab (l / 2) (nxD fr to_ at_ l / 2) (nxD fr to_ at_ (nxD fr to_ at_ l) / 2)) S ci h') := by
  have hD' := hD
  obtain ⟨L, PL, LB, FR, TO, AT, RD, ST, OC, SL, rfl, hR, hG, hz, hE, hA, hRd, hO, hP⟩ := hD
  have hn := hR.1
  have hFF := ff_le (by omega) (perm_D hE) (Nat.le_refl (4 * n))
  obtain ⟨l', t', s, hF', hs, hs1, hs2, hr⟩ := rd_face hRd hk
  obtain ⟨rfl, rfl⟩ := faceK_uniq hF hF'
  have hl := fun i => it_lt (perm_D hE) hF.1 i
  have hl0 : l' < 4 * n := hl 0
  have hl1 : nxD fr to_ at_ l' < 4 * n := hl 1
  have hl2 : nxD fr to_ at_ (nxD fr to_ at_ l') < 4 * n := hl 2
  have h2 : t' = 3 := by
    unfold pat at hp
    split at hp
    · omega
    · split at hp
      · split at hp <;> omega
      · split at hp
        · assumption
        · omega
  subst h2
  refine zMet_of (plainFor_of_name (by decide +kernel)) rfl (Nat.le_of_ble_eq_true rfl) (fun z1 z2 z3 z4 z5 z6 z7 z8 z9 z10 z11 z12 z13 z14 O hin => ?_)
  refine zi_ls (ls' := [some (.ref 0), some (.int (nI k)), none]) rfl ?_
  refine zi_aload_n O d_Dia_slideAt_0 rfl ?_
  refine zi_iload_n O d_Dia_slideAt_1 rfl ?_
  refine zi_selfP O c_Dia_89 k_Dia_patternAt (m_Dia_patternAt hD' k l' 3 hk hF) d_Dia_slideAt_2 ⟨(Nat.le_of_ble_eq_true rfl), (Nat.le_of_ble_eq_true rfl)⟩ ⟨(Nat.le_of_ble_eq_true rfl), (Nat.le_of_ble_eq_true rfl)⟩ rfl rfl (Nat.le_of_ble_eq_true rfl) rfl rfl rfl (Nat.le_of_ble_eq_true rfl) rfl ?_
  rw [hp]
  refine zi_iconstN O 3 d_Dia_slideAt_5 (by decide) ?_
  refine zi_icmp_eqN O 11 d_Dia_slideAt_6 (by decide) (by omega) (by omega) (fun c6 => ?_) (fun c6 => ?_)
  · refine zi_aload_n O d_Dia_slideAt_11 rfl ?_
    refine zi_get O f_Dia_12 d_Dia_slideAt_12 rfl rfl ?_
    refine zi_get O f_Dia_124 d_Dia_slideAt_15 rfl rfl ?_
    refine zi_iconstN O 0 d_Dia_slideAt_18 (by decide) ?_
    refine zi_aload_n O d_Dia_slideAt_19 rfl ?_
    refine zi_get O f_Dia_39 d_Dia_slideAt_20 rfl rfl ?_
    refine zi_iconstN O 0 d_Dia_slideAt_23 (by decide) ?_
    refine zi_bipushN O 80 d_Dia_slideAt_24 (by decide) ?_
    refine zi_copy O d_Dia_slideAt_26 z_ac_Dia z_ac1 z_ac2 z_ac3 rfl rfl rfl rfl rfl (by omega) (by omega) (by decide) (by decide) (Nat.le_of_ble_eq_true rfl) (Nat.le_of_ble_eq_true rfl) (by dsimp only [List.set]) ?_
    generalize hSL : va_cpy L SL 0 0 80 = SL0
    have hX0 : ∀ q, q < 4 * n → SL0 q = nI (lab q) := by
      intro q hq
      rw [← hSL, sb_cpy0 (by omega)]
      exact (hR.2 q hq).1
    refine zi_iconstN O 0 d_Dia_slideAt_29 (by decide) ?_
    refine zi_istore_n (ls' := _ :: _ :: some _ :: _) O d_Dia_slideAt_30 rfl (by decide) rfl ?_
    refine zi_iload_n O d_Dia_slideAt_31 rfl ?_
    refine zi_iconstN O 3 d_Dia_slideAt_32 (by decide) ?_
    refine zi_icmp_geN O 57 d_Dia_slideAt_33 (by decide) (by omega) (by omega) (fun c33 => ?_) (fun c33 => ?_)
    · omega
    · refine zi_aload_n O d_Dia_slideAt_36 rfl ?_
      refine zi_aload_n O d_Dia_slideAt_37 rfl ?_
      refine zi_get O f_Dia_28 d_Dia_slideAt_38 rfl rfl ?_
      refine zi_iload_n O d_Dia_slideAt_41 rfl ?_
      refine zi_iload_n O d_Dia_slideAt_42 rfl ?_
      refine zi_pureV O [10, 11, 12, 13] c_Dia_63 k_Fac_dart (m_Fac_dart (FF (nxD fr to_ at_) (4 * n) (4 * n)).2 (FF (nxD fr to_ at_) (4 * n) (4 * n)).1 RD ST k 0 s l' (by omega) hs1 (by omega) (hr 0 (by omega))) d_Dia_slideAt_43 ⟨(Nat.le_of_ble_eq_true rfl), (Nat.le_of_ble_eq_true rfl)⟩ ⟨(Nat.le_of_ble_eq_true rfl), (Nat.le_of_ble_eq_true rfl)⟩ rfl rfl (Nat.le_of_ble_eq_true rfl) rfl rfl rfl rfl rfl (Nat.le_of_ble_eq_true rfl) rfl ?_
      refine zi_iconstN O 1 d_Dia_slideAt_46 (by decide) ?_
      first | refine zi_ishrN O 2 2 d_Dia_slideAt_47 (by decide) (by omega) ?_ | refine zi_ishrN O 1 1 d_Dia_slideAt_47 (by decide) (by omega) ?_
      refine zi_selfV O c_Dia_133 k_Dia_slideEdge (m_Dia_slideEdge hR hE hA hX0 (l' / 2 ^ 1) (by omega)) d_Dia_slideAt_48 ⟨(Nat.le_of_ble_eq_true rfl), (Nat.le_of_ble_eq_true rfl)⟩ ⟨(Nat.le_of_ble_eq_true rfl), (Nat.le_of_ble_eq_true rfl)⟩ rfl rfl (Nat.le_of_ble_eq_true rfl) rfl rfl rfl (Nat.le_of_ble_eq_true rfl) rfl (fun r h' hq hl => ?_)
      obtain ⟨rfl, SL1, rfl, hX1⟩ := hq
      refine zi_st (st' := []) rfl ?_
      refine zi_iincN (ls' := _ :: _ :: some _ :: _) O 1 d_Dia_slideAt_51 rfl (by decide) rfl (by decide) rfl ?_
      refine zi_goto O 31 d_Dia_slideAt_54 (by decide) ?_
      refine zi_iload_n O d_Dia_slideAt_31 rfl ?_
      refine zi_iconstN O 3 d_Dia_slideAt_32 (by decide) ?_
      refine zi_icmp_geN O 57 d_Dia_slideAt_33 (by decide) (by omega) (by omega) (fun c33 => ?_) (fun c33 => ?_)
      · omega
      · refine zi_aload_n O d_Dia_slideAt_36 rfl ?_
        refine zi_aload_n O d_Dia_slideAt_37 rfl ?_
        refine zi_get O f_Dia_28 d_Dia_slideAt_38 rfl rfl ?_
        refine zi_iload_n O d_Dia_slideAt_41 rfl ?_
        refine zi_iload_n O d_Dia_slideAt_42 rfl ?_
        refine zi_pureV O [10, 11, 12, 13] c_Dia_63 k_Fac_dart (m_Fac_dart (FF (nxD fr to_ at_) (4 * n) (4 * n)).2 (FF (nxD fr to_ at_) (4 * n) (4 * n)).1 RD ST k 1 s (nxD fr to_ at_ l') (by omega) hs1 (by omega) (hr 1 (by omega))) d_Dia_slideAt_43 ⟨(Nat.le_of_ble_eq_true rfl), (Nat.le_of_ble_eq_true rfl)⟩ ⟨(Nat.le_of_ble_eq_true rfl), (Nat.le_of_ble_eq_true rfl)⟩ rfl rfl (Nat.le_of_ble_eq_true rfl) rfl rfl rfl rfl rfl (Nat.le_of_ble_eq_true rfl) rfl ?_
        refine zi_iconstN O 1 d_Dia_slideAt_46 (by decide) ?_
        first | refine zi_ishrN O 2 2 d_Dia_slideAt_47 (by decide) (by omega) ?_ | refine zi_ishrN O 1 1 d_Dia_slideAt_47 (by decide) (by omega) ?_
        refine zi_selfV O c_Dia_133 k_Dia_slideEdge (m_Dia_slideEdge hR hE hA hX1 (nxD fr to_ at_ l' / 2 ^ 1) (by omega)) d_Dia_slideAt_48 ⟨(Nat.le_of_ble_eq_true rfl), (Nat.le_of_ble_eq_true rfl)⟩ ⟨(Nat.le_of_ble_eq_true rfl), (Nat.le_of_ble_eq_true rfl)⟩ rfl rfl (Nat.le_of_ble_eq_true rfl) rfl rfl rfl (Nat.le_of_ble_eq_true rfl) rfl (fun r h' hq hl => ?_)
        obtain ⟨rfl, SL2, rfl, hX2⟩ := hq
        refine zi_st (st' := []) rfl ?_
        refine zi_iincN (ls' := _ :: _ :: some _ :: _) O 1 d_Dia_slideAt_51 rfl (by decide) rfl (by decide) rfl ?_
        refine zi_goto O 31 d_Dia_slideAt_54 (by decide) ?_
        refine zi_iload_n O d_Dia_slideAt_31 rfl ?_
        refine zi_iconstN O 3 d_Dia_slideAt_32 (by decide) ?_
        refine zi_icmp_geN O 57 d_Dia_slideAt_33 (by decide) (by omega) (by omega) (fun c33 => ?_) (fun c33 => ?_)
        · omega
        · refine zi_aload_n O d_Dia_slideAt_36 rfl ?_
          refine zi_aload_n O d_Dia_slideAt_37 rfl ?_
          refine zi_get O f_Dia_28 d_Dia_slideAt_38 rfl rfl ?_
          refine zi_iload_n O d_Dia_slideAt_41 rfl ?_
          refine zi_iload_n O d_Dia_slideAt_42 rfl ?_
          refine zi_pureV O [10, 11, 12, 13] c_Dia_63 k_Fac_dart (m_Fac_dart (FF (nxD fr to_ at_) (4 * n) (4 * n)).2 (FF (nxD fr to_ at_) (4 * n) (4 * n)).1 RD ST k 2 s (nxD fr to_ at_ (nxD fr to_ at_ l')) (by omega) hs1 (by omega) (hr 2 (by omega))) d_Dia_slideAt_43 ⟨(Nat.le_of_ble_eq_true rfl), (Nat.le_of_ble_eq_true rfl)⟩ ⟨(Nat.le_of_ble_eq_true rfl), (Nat.le_of_ble_eq_true rfl)⟩ rfl rfl (Nat.le_of_ble_eq_true rfl) rfl rfl rfl rfl rfl (Nat.le_of_ble_eq_true rfl) rfl ?_
          refine zi_iconstN O 1 d_Dia_slideAt_46 (by decide) ?_
          first | refine zi_ishrN O 2 2 d_Dia_slideAt_47 (by decide) (by omega) ?_ | refine zi_ishrN O 1 1 d_Dia_slideAt_47 (by decide) (by omega) ?_
          refine zi_selfV O c_Dia_133 k_Dia_slideEdge (m_Dia_slideEdge hR hE hA hX2 (nxD fr to_ at_ (nxD fr to_ at_ l') / 2 ^ 1) (by omega)) d_Dia_slideAt_48 ⟨(Nat.le_of_ble_eq_true rfl), (Nat.le_of_ble_eq_true rfl)⟩ ⟨(Nat.le_of_ble_eq_true rfl), (Nat.le_of_ble_eq_true rfl)⟩ rfl rfl (Nat.le_of_ble_eq_true rfl) rfl rfl rfl (Nat.le_of_ble_eq_true rfl) rfl (fun r h' hq hl => ?_)
          obtain ⟨rfl, SL3, rfl, hX3⟩ := hq
          refine zi_st (st' := []) rfl ?_
          refine zi_iincN (ls' := _ :: _ :: some _ :: _) O 1 d_Dia_slideAt_51 rfl (by decide) rfl (by decide) rfl ?_
          refine zi_goto O 31 d_Dia_slideAt_54 (by decide) ?_
          refine zi_iload_n O d_Dia_slideAt_31 rfl ?_
          refine zi_iconstN O 3 d_Dia_slideAt_32 (by decide) ?_
          refine zi_icmp_geN O 57 d_Dia_slideAt_33 (by decide) (by omega) (by omega) (fun c33 => ?_) (fun c33 => ?_)
          · refine zi_aload_n O d_Dia_slideAt_57 rfl ?_
            refine zi_get O f_Dia_39 d_Dia_slideAt_58 rfl rfl ?_
            refine zi_iconstN O 0 d_Dia_slideAt_61 (by decide) ?_
            refine zi_aload_n O d_Dia_slideAt_62 rfl ?_
            refine zi_get O f_Dia_12 d_Dia_slideAt_63 rfl rfl ?_
            refine zi_get O f_Dia_124 d_Dia_slideAt_66 rfl rfl ?_
            refine zi_iconstN O 0 d_Dia_slideAt_69 (by decide) ?_
            refine zi_bipushN O 80 d_Dia_slideAt_70 (by decide) ?_
            refine zi_copy O d_Dia_slideAt_72 z_ac_Dia z_ac1 z_ac2 z_ac3 rfl rfl rfl rfl rfl (by omega) (by omega) (by decide) (by decide) (Nat.le_of_ble_eq_true rfl) (Nat.le_of_ble_eq_true rfl) (by dsimp only [List.set]) ?_
            generalize hL3 : va_cpy SL3 L 0 0 80 = L3
            have hRow : RowOK n L3 (sl3 el fr to_ lab (l' / 2) (nxD fr to_ at_ l' / 2) (nxD fr to_ at_ (nxD fr to_ at_ l') / 2)) := by
              refine ⟨hn, fun q hq => ⟨?_, ?_⟩⟩
              · rw [← hL3, sb_cpy0 (by omega)]
                exact hX3 q hq
              · exact sE_in hE hR (sE_in hE hR (sE_in hE hR (fun q hq => (hR.2 q hq).2) (by omega)) (by omega)) (by omega) q hq
            refine zi_aload_n O d_Dia_slideAt_75 rfl ?_
            refine zi_selfV O c_Dia_104 k_Dia_chart (m_Dia_chart2 (n := n) (lab := sl3 el fr to_ lab (l' / 2) (nxD fr to_ at_ l' / 2) (nxD fr to_ at_ (nxD fr to_ at_ l') / 2)) (S := S) (ci := ci) ⟨L3, _, PL, LB, FR, TO, AT, _, _, RD, ST, _, _, OC, _, SL3, rfl, hRow, hG, hz⟩) d_Dia_slideAt_76 ⟨(Nat.le_of_ble_eq_true rfl), (Nat.le_of_ble_eq_true rfl)⟩ ⟨(Nat.le_of_ble_eq_true rfl), (Nat.le_of_ble_eq_true rfl)⟩ rfl rfl (Nat.le_of_ble_eq_true rfl) rfl rfl rfl (Nat.le_of_ble_eq_true rfl) rfl (fun r h' hq hl => ?_)
            obtain ⟨⟨x, rfl⟩, hC⟩ := hq
            obtain ⟨L, m, PL, LB, FR, TO, AT, F, OF, RD, ST, pc, co, OC, CE, SL, rfl⟩ := dr_form (chq_dr hC)
            refine zi_st (st' := [.int x]) rfl ?_
            refine zi_pop O d_Dia_slideAt_79 rfl ?_
            refine zi_iconstN O 1 d_Dia_slideAt_80 (by decide) ?_
            refine zi_zret O d_Dia_slideAt_81 rfl (Nat.le_of_ble_eq_true rfl) (Nat.le_of_ble_eq_true rfl) (Nat.le_of_ble_eq_true rfl) ?_
            exact ⟨rfl, rfl, hC⟩
          · omega
  · omega
end
end
section
/-! Cut; cutEdge, addCrossing -/
abbrev cutC (a b c : Int32) : zE := zo 6 [.int a, .int b, .int c]
theorem m_Cut_init (a b c : Int32) : zMet y_Cut_init b_Cut_init 4 none ⟨1, 0, 0, 20⟩ [.ref 0, .int a, .int b, .int c] [cutC 0 0 0] (fun r h' => r = none ∧ h' = [cutC a b c]) := by
  refine zMet_of (plainFor_of_name (by decide +kernel)) rfl (Nat.le_of_ble_eq_true rfl) (fun z1 z2 z3 z4 z5 z6 z7 z8 z9 z10 z11 z12 z13 z14 O hin => ?_)
  refine zi_ls (ls' := [some (.ref 0), some (.int a), some (.int b), some (.int c)]) rfl ?_
  refine zi_aload_n O d_Cut_init_0 rfl ?_
  refine zi_objInit O d_Cut_init_1 z_o_Cut z_oI z_oC (Nat.le_of_ble_eq_true rfl) (Nat.le_of_ble_eq_true rfl) ?_
  refine zi_aload_n O d_Cut_init_4 rfl ?_
  refine zi_iload_n O d_Cut_init_5 rfl ?_
  refine zi_putF O hin f_Cut_7 d_Cut_init_6 rfl rfl (Nat.le_of_ble_eq_true rfl) (fun _ => rfl) (fun _ => rfl) (by dsimp only [List.set]) ?_
  refine zi_aload_n O d_Cut_init_9 rfl ?_
  refine zi_iload_n O d_Cut_init_10 rfl ?_
  refine zi_putF O hin f_Cut_13 d_Cut_init_11 rfl rfl (Nat.le_of_ble_eq_true rfl) (fun _ => rfl) (fun _ => rfl) (by dsimp only [List.set]) ?_
  refine zi_aload_n O d_Cut_init_14 rfl ?_
  refine zi_iload_n O d_Cut_init_15 rfl ?_
  refine zi_putF O hin f_Cut_16 d_Cut_init_16 rfl rfl (Nat.le_of_ble_eq_true rfl) (fun _ => rfl) (fun _ => rfl) (by dsimp only [List.set]) ?_
  refine zi_vret O d_Cut_init_19 (Nat.le_of_ble_eq_true rfl) (Nat.le_of_ble_eq_true rfl) (Nat.le_of_ble_eq_true rfl) ?_
  exact ⟨rfl, rfl⟩
theorem m_Cut_in (a b c x : Int32) : zPu y_Cut_in b_Cut_in 2 (some .int) ⟨0, 0, 0, 0⟩ [.ref 0, .int x] [cutC a b c] (.int (if x = 0 then b else a)) := by
  refine zMet_of (plainFor_of_name (by decide +kernel)) rfl (Nat.le_of_ble_eq_true rfl) (fun z1 z2 z3 z4 z5 z6 z7 z8 z9 z10 z11 z12 z13 z14 O hin => ?_)
  refine zi_ls (ls' := [some (.ref 0), some (.int x)]) rfl ?_
  refine zi_iload_n O d_Cut_in_0 rfl ?_
  refine zi_if_eq O 11 d_Cut_in_1 (by decide) (fun c1 => ?_) (fun c1 => ?_)
  · refine zi_aload_n O d_Cut_in_11 rfl ?_
    refine zi_get O f_Cut_13 d_Cut_in_12 rfl rfl ?_
    refine zi_iret O d_Cut_in_15 (Nat.le_of_ble_eq_true rfl) (Nat.le_of_ble_eq_true rfl) (Nat.le_of_ble_eq_true rfl) ?_
    exact ⟨by rw [if_pos c1], rfl⟩
  · refine zi_aload_n O d_Cut_in_4 rfl ?_
    refine zi_get O f_Cut_7 d_Cut_in_5 rfl rfl ?_
    refine zi_goto O 15 d_Cut_in_8 (by decide) ?_
    refine zi_iret O d_Cut_in_15 (Nat.le_of_ble_eq_true rfl) (Nat.le_of_ble_eq_true rfl) (Nat.le_of_ble_eq_true rfl) ?_
    exact ⟨by rw [if_neg c1], rfl⟩
theorem m_Cut_out (a b c x : Int32) : zPu y_Cut_out b_Cut_out 2 (some .int) ⟨0, 0, 0, 0⟩ [.ref 0, .int x] [cutC a b c] (.int (if x = 0 then c else b)) := by
  refine zMet_of (plainFor_of_name (by decide +kernel)) rfl (Nat.le_of_ble_eq_true rfl) (fun z1 z2 z3 z4 z5 z6 z7 z8 z9 z10 z11 z12 z13 z14 O hin => ?_)
  refine zi_ls (ls' := [some (.ref 0), some (.int x)]) rfl ?_
  refine zi_iload_n O d_Cut_out_0 rfl ?_
  refine zi_if_eq O 11 d_Cut_out_1 (by decide) (fun c1 => ?_) (fun c1 => ?_)
  · refine zi_aload_n O d_Cut_out_11 rfl ?_
    refine zi_get O f_Cut_16 d_Cut_out_12 rfl rfl ?_
    refine zi_iret O d_Cut_out_15 (Nat.le_of_ble_eq_true rfl) (Nat.le_of_ble_eq_true rfl) (Nat.le_of_ble_eq_true rfl) ?_
    exact ⟨by rw [if_pos c1], rfl⟩
  · refine zi_aload_n O d_Cut_out_4 rfl ?_
    refine zi_get O f_Cut_13 d_Cut_out_5 rfl rfl ?_
    refine zi_goto O 15 d_Cut_out_8 (by decide) ?_
    refine zi_iret O d_Cut_out_15 (Nat.le_of_ble_eq_true rfl) (Nat.le_of_ble_eq_true rfl) (Nat.le_of_ble_eq_true rfl) ?_
    exact ⟨by rw [if_neg c1], rfl⟩
/-- the row with one crossing more -/
def up4 (L : Nat → Int32) (n : Nat) (l0 l1 l2 l3 : Int32) : Nat → Int32 := upd (upd (upd (upd L (4 * n) l0) (4 * n + 1) l1) (4 * n + 2) l2) (4 * n + 3) l3
def if1 (sg a b : Int32) : Int32 := if sg = nI 1 then a else b
def if0 (x a b : Int32) : Int32 := if x = 0 then a else b
section
variable {n : Nat} {lab : Nat → Nat} {S : Nat → Int32} {ci : Int32} {el fr to_ at_ oc : Nat → Nat} {h : List zE}
set_option maxHeartbeats 1000000 in
theorem m_Dia_addCrossing_0 {L PL LB FR TO AT OF RD ST OC CE SL : Nat → Int32} {m F pc co : Nat} (hn : n < 20) (sg uf lf a1 a2 a3 b1 b2 b3 : Int32) : zMet y_Dia_addCrossing b_Dia_addCrossing 10 none ⟨2, 0, 0, 50⟩ [.ref 0, .int sg, .ref 18, .int uf, .ref 18, .int lf] (diaH ci n L S m PL LB FR TO AT F OF RD ST pc co OC CE SL ++ [cutC a1 a2 a3])
    (fun r h' => r = none ∧ h' = diaH ci (n + 1) (up4 L n (if0 lf a2 a1) (if1 sg (if0 uf a3 a2) (if0 uf a2 a1)) (if0 lf a3 a2) (if1 sg (if0 uf a2 a1) (if0 uf a3 a2))) (upd S n sg) m PL LB FR TO AT F OF RD ST pc co OC CE SL ++ [cutC a1 a2 a3]) := by
  refine zMet_of (plainFor_of_name (by decide +kernel)) rfl (Nat.le_of_ble_eq_true rfl) (fun z1 z2 z3 z4 z5 z6 z7 z8 z9 z10 z11 z12 z13 z14 O hin => ?_)
  refine zi_ls (ls' := [some (.ref 0), some (.int sg), some (.ref 18), some (.int uf), some (.ref 18), some (.int lf), none, none, none, none]) rfl ?_
  refine zi_aload_n O d_Dia_addCrossing_0 rfl ?_
  refine zi_iload_n O d_Dia_addCrossing_1 rfl ?_
  refine zi_pureV O [18] c_Dia_166 k_Cut_in (m_Cut_in a1 a2 a3 uf) d_Dia_addCrossing_2 ⟨(Nat.le_of_ble_eq_true rfl), (Nat.le_of_ble_eq_true rfl)⟩ ⟨(Nat.le_of_ble_eq_true rfl), (Nat.le_of_ble_eq_true rfl)⟩ rfl rfl (Nat.le_of_ble_eq_true rfl) rfl rfl rfl rfl rfl (Nat.le_of_ble_eq_true rfl) rfl ?_
  refine zi_istore (ls' := _ :: _ :: _ :: _ :: _ :: _ :: some _ :: _) O d_Dia_addCrossing_5 rfl (by decide) rfl ?_
  refine zi_aload_n O d_Dia_addCrossing_7 rfl ?_
  refine zi_iload_n O d_Dia_addCrossing_8 rfl ?_
  refine zi_pureV O [18] c_Dia_170 k_Cut_out (m_Cut_out a1 a2 a3 uf) d_Dia_addCrossing_9 ⟨(Nat.le_of_ble_eq_true rfl), (Nat.le_of_ble_eq_true rfl)⟩ ⟨(Nat.le_of_ble_eq_true rfl), (Nat.le_of_ble_eq_true rfl)⟩ rfl rfl (Nat.le_of_ble_eq_true rfl) rfl rfl rfl rfl rfl (Nat.le_of_ble_eq_true rfl) rfl ?_
  refine zi_istore (ls' := _ :: _ :: _ :: _ :: _ :: _ :: _ :: some _ :: _) O d_Dia_addCrossing_12 rfl (by decide) rfl ?_
  refine zi_iload_n O d_Dia_addCrossing_14 rfl ?_
  refine zi_iconstN O 1 d_Dia_addCrossing_15 (by decide) ?_
  have fin : ∀ x y : Int32, x = if1 sg (if0 uf a3 a2) (if0 uf a2 a1) → y = if1 sg (if0 uf a2 a1) (if0 uf a3 a2) → zG z1 z2 z3 z4 z5 z6 z7 z8 z9 z10 z11 z12 z13 z14 19 10 (fun r h' => r = none ∧ h' = diaH ci (n + 1) (up4 L n (if0 lf a2 a1) (if1 sg (if0 uf a3 a2) (if0 uf a2 a1)) (if0 lf a3 a2) (if1 sg (if0 uf a2 a1) (if0 uf a3 a2))) (upd S n sg) m PL LB FR TO AT F OF RD ST pc co OC CE SL ++ [cutC a1 a2 a3]) 0 0 0 0 42 [some (.ref 0), some (.int sg), some (.ref 18), some (.int uf), some (.ref 18), some (.int lf), some (.int (if uf = 0 then a2 else a1)), some (.int (if uf = 0 then a3 else a2)), some (.int x), some (.int y)] [] (diaH ci n L S m PL LB FR TO AT F OF RD ST pc co OC CE SL ++ [cutC a1 a2 a3]) := by
    intro x y hx hy
    refine zi_aload_n O d_Dia_addCrossing_42 rfl ?_
    refine zi_get O f_Dia_12 d_Dia_addCrossing_43 rfl rfl ?_
    refine zi_iload_n O d_Dia_addCrossing_46 rfl ?_
    refine zi_aload O d_Dia_addCrossing_47 rfl ?_
    refine zi_iload O d_Dia_addCrossing_49 rfl ?_
    refine zi_pureV O [18] c_Dia_166 k_Cut_in (m_Cut_in a1 a2 a3 lf) d_Dia_addCrossing_51 ⟨(Nat.le_of_ble_eq_true rfl), (Nat.le_of_ble_eq_true rfl)⟩ ⟨(Nat.le_of_ble_eq_true rfl), (Nat.le_of_ble_eq_true rfl)⟩ rfl rfl (Nat.le_of_ble_eq_true rfl) rfl rfl rfl rfl rfl (Nat.le_of_ble_eq_true rfl) rfl ?_
    refine zi_iload O d_Dia_addCrossing_54 rfl ?_
    refine zi_aload O d_Dia_addCrossing_56 rfl ?_
    refine zi_iload O d_Dia_addCrossing_58 rfl ?_
    refine zi_pureV O [18] c_Dia_170 k_Cut_out (m_Cut_out a1 a2 a3 lf) d_Dia_addCrossing_60 ⟨(Nat.le_of_ble_eq_true rfl), (Nat.le_of_ble_eq_true rfl)⟩ ⟨(Nat.le_of_ble_eq_true rfl), (Nat.le_of_ble_eq_true rfl)⟩ rfl rfl (Nat.le_of_ble_eq_true rfl) rfl rfl rfl rfl rfl (Nat.le_of_ble_eq_true rfl) rfl ?_
    refine zi_iload O d_Dia_addCrossing_63 rfl ?_
    refine zi_callV O [1, 2, 3] c_Dia_173 k_Row_add (m_Row_add n L S sg (if lf = 0 then a2 else a1) x (if lf = 0 then a3 else a2) y hn) d_Dia_addCrossing_65 ⟨(Nat.le_of_ble_eq_true rfl), (Nat.le_of_ble_eq_true rfl)⟩ ⟨(Nat.le_of_ble_eq_true rfl), (Nat.le_of_ble_eq_true rfl)⟩ rfl rfl (Nat.le_of_ble_eq_true rfl) rfl rfl rfl rfl rfl (Nat.le_of_ble_eq_true rfl) rfl (fun r h' hq hl => ?_)
    obtain ⟨rfl, rfl⟩ := hq
    refine zi_st (st' := []) rfl (zi_h (h' := diaH ci (n + 1) (up4 L n (if lf = 0 then a2 else a1) x (if lf = 0 then a3 else a2) y) (upd S n sg) m PL LB FR TO AT F OF RD ST pc co OC CE SL ++ [cutC a1 a2 a3]) rfl ?_)
    refine zi_vret O d_Dia_addCrossing_68 (Nat.le_of_ble_eq_true rfl) (Nat.le_of_ble_eq_true rfl) (Nat.le_of_ble_eq_true rfl) ?_
    exact ⟨rfl, by rw [hx, hy]; rfl⟩
  refine zi_icmp_ne O 24 d_Dia_addCrossing_16 (by decide) (fun c16 => ?_) (fun c16 => ?_)
  · refine zi_iload O d_Dia_addCrossing_24 rfl ?_
    refine zi_istore (ls' := _ :: _ :: _ :: _ :: _ :: _ :: _ :: _ :: some _ :: _) O d_Dia_addCrossing_26 rfl (by decide) rfl ?_
    refine zi_iload_n O d_Dia_addCrossing_28 rfl ?_
    refine zi_iconstN O 1 d_Dia_addCrossing_29 (by decide) ?_
    refine zi_icmp_ne O 38 d_Dia_addCrossing_30 (by decide) (fun c30 => ?_) (fun c30 => ?_)
    · refine zi_iload O d_Dia_addCrossing_38 rfl ?_
      refine zi_istore (ls' := _ :: _ :: _ :: _ :: _ :: _ :: _ :: _ :: _ :: some _ :: _) O d_Dia_addCrossing_40 rfl (by decide) rfl ?_
      exact fin _ _ (by unfold if1 if0; rw [if_neg c16]) (by unfold if1 if0; rw [if_neg c16])
    · exact absurd c30 c16
  · refine zi_iload O d_Dia_addCrossing_19 rfl ?_
    refine zi_goto O 26 d_Dia_addCrossing_21 (by decide) ?_
    refine zi_istore (ls' := _ :: _ :: _ :: _ :: _ :: _ :: _ :: _ :: some _ :: _) O d_Dia_addCrossing_26 rfl (by decide) rfl ?_
    refine zi_iload_n O d_Dia_addCrossing_28 rfl ?_
    refine zi_iconstN O 1 d_Dia_addCrossing_29 (by decide) ?_
    refine zi_icmp_ne O 38 d_Dia_addCrossing_30 (by decide) (fun c30 => ?_) (fun c30 => ?_)
    · exact absurd c16 c30
    · refine zi_iload O d_Dia_addCrossing_33 rfl ?_
      refine zi_goto O 40 d_Dia_addCrossing_35 (by decide) ?_
      refine zi_istore (ls' := _ :: _ :: _ :: _ :: _ :: _ :: _ :: _ :: _ :: some _ :: _) O d_Dia_addCrossing_40 rfl (by decide) rfl ?_
      exact fin _ _ (by unfold if1 if0; rw [if_pos c16]) (by unfold if1 if0; rw [if_pos c16])
set_option maxHeartbeats 1000000 in
theorem m_Dia_addCrossing_1 {L PL LB FR TO AT OF RD ST OC CE SL : Nat → Int32} {m F pc co : Nat} (hn : n < 20) (sg uf lf a1 a2 a3 b1 b2 b3 : Int32) : zMet y_Dia_addCrossing b_Dia_addCrossing 10 none ⟨2, 0, 0, 50⟩ [.ref 0, .int sg, .ref 18, .int uf, .ref 19, .int lf] (diaH ci n L S m PL LB FR TO AT F OF RD ST pc co OC CE SL ++ [cutC a1 a2 a3, cutC b1 b2 b3])
    (fun r h' => r = none ∧ h' = diaH ci (n + 1) (up4 L n (if0 lf b2 b1) (if1 sg (if0 uf a3 a2) (if0 uf a2 a1)) (if0 lf b3 b2) (if1 sg (if0 uf a2 a1) (if0 uf a3 a2))) (upd S n sg) m PL LB FR TO AT F OF RD ST pc co OC CE SL ++ [cutC a1 a2 a3, cutC b1 b2 b3]) := by
  refine zMet_of (plainFor_of_name (by decide +kernel)) rfl (Nat.le_of_ble_eq_true rfl) (fun z1 z2 z3 z4 z5 z6 z7 z8 z9 z10 z11 z12 z13 z14 O hin => ?_)
  refine zi_ls (ls' := [some (.ref 0), some (.int sg), some (.ref 18), some (.int uf), some (.ref 19), some (.int lf), none, none, none, none]) rfl ?_
  refine zi_aload_n O d_Dia_addCrossing_0 rfl ?_
  refine zi_iload_n O d_Dia_addCrossing_1 rfl ?_
  refine zi_pureV O [18] c_Dia_166 k_Cut_in (m_Cut_in a1 a2 a3 uf) d_Dia_addCrossing_2 ⟨(Nat.le_of_ble_eq_true rfl), (Nat.le_of_ble_eq_true rfl)⟩ ⟨(Nat.le_of_ble_eq_true rfl), (Nat.le_of_ble_eq_true rfl)⟩ rfl rfl (Nat.le_of_ble_eq_true rfl) rfl rfl rfl rfl rfl (Nat.le_of_ble_eq_true rfl) rfl ?_
  refine zi_istore (ls' := _ :: _ :: _ :: _ :: _ :: _ :: some _ :: _) O d_Dia_addCrossing_5 rfl (by decide) rfl ?_
  refine zi_aload_n O d_Dia_addCrossing_7 rfl ?_
  refine zi_iload_n O d_Dia_addCrossing_8 rfl ?_
  refine zi_pureV O [18] c_Dia_170 k_Cut_out (m_Cut_out a1 a2 a3 uf) d_Dia_addCrossing_9 ⟨(Nat.le_of_ble_eq_true rfl), (Nat.le_of_ble_eq_true rfl)⟩ ⟨(Nat.le_of_ble_eq_true rfl), (Nat.le_of_ble_eq_true rfl)⟩ rfl rfl (Nat.le_of_ble_eq_true rfl) rfl rfl rfl rfl rfl (Nat.le_of_ble_eq_true rfl) rfl ?_
  refine zi_istore (ls' := _ :: _ :: _ :: _ :: _ :: _ :: _ :: some _ :: _) O d_Dia_addCrossing_12 rfl (by decide) rfl ?_
  refine zi_iload_n O d_Dia_addCrossing_14 rfl ?_
  refine zi_iconstN O 1 d_Dia_addCrossing_15 (by decide) ?_
  have fin : ∀ x y : Int32, x = if1 sg (if0 uf a3 a2) (if0 uf a2 a1) → y = if1 sg (if0 uf a2 a1) (if0 uf a3 a2) → zG z1 z2 z3 z4 z5 z6 z7 z8 z9 z10 z11 z12 z13 z14 20 10 (fun r h' => r = none ∧ h' = diaH ci (n + 1) (up4 L n (if0 lf b2 b1) (if1 sg (if0 uf a3 a2) (if0 uf a2 a1)) (if0 lf b3 b2) (if1 sg (if0 uf a2 a1) (if0 uf a3 a2))) (upd S n sg) m PL LB FR TO AT F OF RD ST pc co OC CE SL ++ [cutC a1 a2 a3, cutC b1 b2 b3]) 0 0 0 0 42 [some (.ref 0), some (.int sg), some (.ref 18), some (.int uf), some (.ref 19), some (.int lf), some (.int (if uf = 0 then a2 else a1)), some (.int (if uf = 0 then a3 else a2)), some (.int x), some (.int y)] [] (diaH ci n L S m PL LB FR TO AT F OF RD ST pc co OC CE SL ++ [cutC a1 a2 a3, cutC b1 b2 b3]) := by
    intro x y hx hy
    refine zi_aload_n O d_Dia_addCrossing_42 rfl ?_
    refine zi_get O f_Dia_12 d_Dia_addCrossing_43 rfl rfl ?_
    refine zi_iload_n O d_Dia_addCrossing_46 rfl ?_
    refine zi_aload O d_Dia_addCrossing_47 rfl ?_
    refine zi_iload O d_Dia_addCrossing_49 rfl ?_
    refine zi_pureV O [19] c_Dia_166 k_Cut_in (m_Cut_in b1 b2 b3 lf) d_Dia_addCrossing_51 ⟨(Nat.le_of_ble_eq_true rfl), (Nat.le_of_ble_eq_true rfl)⟩ ⟨(Nat.le_of_ble_eq_true rfl), (Nat.le_of_ble_eq_true rfl)⟩ rfl rfl (Nat.le_of_ble_eq_true rfl) rfl rfl rfl rfl rfl (Nat.le_of_ble_eq_true rfl) rfl ?_
    refine zi_iload O d_Dia_addCrossing_54 rfl ?_
    refine zi_aload O d_Dia_addCrossing_56 rfl ?_
    refine zi_iload O d_Dia_addCrossing_58 rfl ?_
    refine zi_pureV O [19] c_Dia_170 k_Cut_out (m_Cut_out b1 b2 b3 lf) d_Dia_addCrossing_60 ⟨(Nat.le_of_ble_eq_true rfl), (Nat.le_of_ble_eq_true rfl)⟩ ⟨(Nat.le_of_ble_eq_true rfl), (Nat.le_of_ble_eq_true rfl)⟩ rfl rfl (Nat.le_of_ble_eq_true rfl) rfl rfl rfl rfl rfl (Nat.le_of_ble_eq_true rfl) rfl ?_
    refine zi_iload O d_Dia_addCrossing_63 rfl ?_
    refine zi_callV O [1, 2, 3] c_Dia_173 k_Row_add (m_Row_add n L S sg (if lf = 0 then b2 else b1) x (if lf = 0 then b3 else b2) y hn) d_Dia_addCrossing_65 ⟨(Nat.le_of_ble_eq_true rfl), (Nat.le_of_ble_eq_true rfl)⟩ ⟨(Nat.le_of_ble_eq_true rfl), (Nat.le_of_ble_eq_true rfl)⟩ rfl rfl (Nat.le_of_ble_eq_true rfl) rfl rfl rfl rfl rfl (Nat.le_of_ble_eq_true rfl) rfl (fun r h' hq hl => ?_)
    obtain ⟨rfl, rfl⟩ := hq
    refine zi_st (st' := []) rfl (zi_h (h' := diaH ci (n + 1) (up4 L n (if lf = 0 then b2 else b1) x (if lf = 0 then b3 else b2) y) (upd S n sg) m PL LB FR TO AT F OF RD ST pc co OC CE SL ++ [cutC a1 a2 a3, cutC b1 b2 b3]) rfl ?_)
    refine zi_vret O d_Dia_addCrossing_68 (Nat.le_of_ble_eq_true rfl) (Nat.le_of_ble_eq_true rfl) (Nat.le_of_ble_eq_true rfl) ?_
    exact ⟨rfl, by rw [hx, hy]; rfl⟩
  refine zi_icmp_ne O 24 d_Dia_addCrossing_16 (by decide) (fun c16 => ?_) (fun c16 => ?_)
  · refine zi_iload O d_Dia_addCrossing_24 rfl ?_
    refine zi_istore (ls' := _ :: _ :: _ :: _ :: _ :: _ :: _ :: _ :: some _ :: _) O d_Dia_addCrossing_26 rfl (by decide) rfl ?_
    refine zi_iload_n O d_Dia_addCrossing_28 rfl ?_
    refine zi_iconstN O 1 d_Dia_addCrossing_29 (by decide) ?_
    refine zi_icmp_ne O 38 d_Dia_addCrossing_30 (by decide) (fun c30 => ?_) (fun c30 => ?_)
    · refine zi_iload O d_Dia_addCrossing_38 rfl ?_
      refine zi_istore (ls' := _ :: _ :: _ :: _ :: _ :: _ :: _ :: _ :: _ :: some _ :: _) O d_Dia_addCrossing_40 rfl (by decide) rfl ?_
      exact fin _ _ (by unfold if1 if0; rw [if_neg c16]) (by unfold if1 if0; rw [if_neg c16])
    · exact absurd c30 c16
  · refine zi_iload O d_Dia_addCrossing_19 rfl ?_
    refine zi_goto O 26 d_Dia_addCrossing_21 (by decide) ?_
    refine zi_istore (ls' := _ :: _ :: _ :: _ :: _ :: _ :: _ :: _ :: some _ :: _) O d_Dia_addCrossing_26 rfl (by decide) rfl ?_
    refine zi_iload_n O d_Dia_addCrossing_28 rfl ?_
    refine zi_iconstN O 1 d_Dia_addCrossing_29 (by decide) ?_
    refine zi_icmp_ne O 38 d_Dia_addCrossing_30 (by decide) (fun c30 => ?_) (fun c30 => ?_)
    · exact absurd c16 c30
    · refine zi_iload O d_Dia_addCrossing_33 rfl ?_
      refine zi_goto O 40 d_Dia_addCrossing_35 (by decide) ?_
      refine zi_istore (ls' := _ :: _ :: _ :: _ :: _ :: _ :: _ :: _ :: _ :: some _ :: _) O d_Dia_addCrossing_40 rfl (by decide) rfl ?_
      exact fin _ _ (by unfold if1 if0; rw [if_pos c16]) (by unfold if1 if0; rw [if_pos c16])
set_option maxHeartbeats 1000000 in
theorem m_Dia_addCrossing_2 {L PL LB FR TO AT OF RD ST OC CE SL : Nat → Int32} {m F pc co : Nat} (hn : n < 20) (sg uf lf a1 a2 a3 b1 b2 b3 : Int32) : zMet y_Dia_addCrossing b_Dia_addCrossing 10 none ⟨2, 0, 0, 50⟩ [.ref 0, .int sg, .ref 19, .int uf, .ref 18, .int lf] (diaH ci n L S m PL LB FR TO AT F OF RD ST pc co OC CE SL ++ [cutC b1 b2 b3, cutC a1 a2 a3])
    (fun r h' => r = none ∧ h' = diaH ci (n + 1) (up4 L n (if0 lf b2 b1) (if1 sg (if0 uf a3 a2) (if0 uf a2 a1)) (if0 lf b3 b2) (if1 sg (if0 uf a2 a1) (if0 uf a3 a2))) (upd S n sg) m PL LB FR TO AT F OF RD ST pc co OC CE SL ++ [cutC b1 b2 b3, cutC a1 a2 a3]) := by
  refine zMet_of (plainFor_of_name (by decide +kernel)) rfl (Nat.le_of_ble_eq_true rfl) (fun z1 z2 z3 z4 z5 z6 z7 z8 z9 z10 z11 z12 z13 z14 O hin => ?_)
  refine zi_ls (ls' := [some (.ref 0), some (.int sg), some (.ref 19), some (.int uf), some (.ref 18), some (.int lf), none, none, none, none]) rfl ?_
  refine zi_aload_n O d_Dia_addCrossing_0 rfl ?_
  refine zi_iload_n O d_Dia_addCrossing_1 rfl ?_
  refine zi_pureV O [19] c_Dia_166 k_Cut_in (m_Cut_in a1 a2 a3 uf) d_Dia_addCrossing_2 ⟨(Nat.le_of_ble_eq_true rfl), (Nat.le_of_ble_eq_true rfl)⟩ ⟨(Nat.le_of_ble_eq_true rfl), (Nat.le_of_ble_eq_true rfl)⟩ rfl rfl (Nat.le_of_ble_eq_true rfl) rfl rfl rfl rfl rfl (Nat.le_of_ble_eq_true rfl) rfl ?_
  refine zi_istore (ls' := _ :: _ :: _ :: _ :: _ :: _ :: some _ :: _) O d_Dia_addCrossing_5 rfl (by decide) rfl ?_
  refine zi_aload_n O d_Dia_addCrossing_7 rfl ?_
  refine zi_iload_n O d_Dia_addCrossing_8 rfl ?_
  refine zi_pureV O [19] c_Dia_170 k_Cut_out (m_Cut_out a1 a2 a3 uf) d_Dia_addCrossing_9 ⟨(Nat.le_of_ble_eq_true rfl), (Nat.le_of_ble_eq_true rfl)⟩ ⟨(Nat.le_of_ble_eq_true rfl), (Nat.le_of_ble_eq_true rfl)⟩ rfl rfl (Nat.le_of_ble_eq_true rfl) rfl rfl rfl rfl rfl (Nat.le_of_ble_eq_true rfl) rfl ?_
  refine zi_istore (ls' := _ :: _ :: _ :: _ :: _ :: _ :: _ :: some _ :: _) O d_Dia_addCrossing_12 rfl (by decide) rfl ?_
  refine zi_iload_n O d_Dia_addCrossing_14 rfl ?_
  refine zi_iconstN O 1 d_Dia_addCrossing_15 (by decide) ?_
  have fin : ∀ x y : Int32, x = if1 sg (if0 uf a3 a2) (if0 uf a2 a1) → y = if1 sg (if0 uf a2 a1) (if0 uf a3 a2) → zG z1 z2 z3 z4 z5 z6 z7 z8 z9 z10 z11 z12 z13 z14 20 10 (fun r h' => r = none ∧ h' = diaH ci (n + 1) (up4 L n (if0 lf b2 b1) (if1 sg (if0 uf a3 a2) (if0 uf a2 a1)) (if0 lf b3 b2) (if1 sg (if0 uf a2 a1) (if0 uf a3 a2))) (upd S n sg) m PL LB FR TO AT F OF RD ST pc co OC CE SL ++ [cutC b1 b2 b3, cutC a1 a2 a3]) 0 0 0 0 42 [some (.ref 0), some (.int sg), some (.ref 19), some (.int uf), some (.ref 18), some (.int lf), some (.int (if uf = 0 then a2 else a1)), some (.int (if uf = 0 then a3 else a2)), some (.int x), some (.int y)] [] (diaH ci n L S m PL LB FR TO AT F OF RD ST pc co OC CE SL ++ [cutC b1 b2 b3, cutC a1 a2 a3]) := by
    intro x y hx hy
    refine zi_aload_n O d_Dia_addCrossing_42 rfl ?_
    refine zi_get O f_Dia_12 d_Dia_addCrossing_43 rfl rfl ?_
    refine zi_iload_n O d_Dia_addCrossing_46 rfl ?_
    refine zi_aload O d_Dia_addCrossing_47 rfl ?_
    refine zi_iload O d_Dia_addCrossing_49 rfl ?_
    refine zi_pureV O [18] c_Dia_166 k_Cut_in (m_Cut_in b1 b2 b3 lf) d_Dia_addCrossing_51 ⟨(Nat.le_of_ble_eq_true rfl), (Nat.le_of_ble_eq_true rfl)⟩ ⟨(Nat.le_of_ble_eq_true rfl), (Nat.le_of_ble_eq_true rfl)⟩ rfl rfl (Nat.le_of_ble_eq_true rfl) rfl rfl rfl rfl rfl (Nat.le_of_ble_eq_true rfl) rfl ?_
    refine zi_iload O d_Dia_addCrossing_54 rfl ?_
    refine zi_aload O d_Dia_addCrossing_56 rfl ?_
    refine zi_iload O d_Dia_addCrossing_58 rfl ?_
    refine zi_pureV O [18] c_Dia_170 k_Cut_out (m_Cut_out b1 b2 b3 lf) d_Dia_addCrossing_60 ⟨(Nat.le_of_ble_eq_true rfl), (Nat.le_of_ble_eq_true rfl)⟩ ⟨(Nat.le_of_ble_eq_true rfl), (Nat.le_of_ble_eq_true rfl)⟩ rfl rfl (Nat.le_of_ble_eq_true rfl) rfl rfl rfl rfl rfl (Nat.le_of_ble_eq_true rfl) rfl ?_
    refine zi_iload O d_Dia_addCrossing_63 rfl ?_
    refine zi_callV O [1, 2, 3] c_Dia_173 k_Row_add (m_Row_add n L S sg (if lf = 0 then b2 else b1) x (if lf = 0 then b3 else b2) y hn) d_Dia_addCrossing_65 ⟨(Nat.le_of_ble_eq_true rfl), (Nat.le_of_ble_eq_true rfl)⟩ ⟨(Nat.le_of_ble_eq_true rfl), (Nat.le_of_ble_eq_true rfl)⟩ rfl rfl (Nat.le_of_ble_eq_true rfl) rfl rfl rfl rfl rfl (Nat.le_of_ble_eq_true rfl) rfl (fun r h' hq hl => ?_)
    obtain ⟨rfl, rfl⟩ := hq
    refine zi_st (st' := []) rfl (zi_h (h' := diaH ci (n + 1) (up4 L n (if lf = 0 then b2 else b1) x (if lf = 0 then b3 else b2) y) (upd S n sg) m PL LB FR TO AT F OF RD ST pc co OC CE SL ++ [cutC b1 b2 b3, cutC a1 a2 a3]) rfl ?_)
    refine zi_vret O d_Dia_addCrossing_68 (Nat.le_of_ble_eq_true rfl) (Nat.le_of_ble_eq_true rfl) (Nat.le_of_ble_eq_true rfl) ?_
    exact ⟨rfl, by rw [hx, hy]; rfl⟩
  refine zi_icmp_ne O 24 d_Dia_addCrossing_16 (by decide) (fun c16 => ?_) (fun c16 => ?_)
  · refine zi_iload O d_Dia_addCrossing_24 rfl ?_
    refine zi_istore (ls' := _ :: _ :: _ :: _ :: _ :: _ :: _ :: _ :: some _ :: _) O d_Dia_addCrossing_26 rfl (by decide) rfl ?_
    refine zi_iload_n O d_Dia_addCrossing_28 rfl ?_
    refine zi_iconstN O 1 d_Dia_addCrossing_29 (by decide) ?_
    refine zi_icmp_ne O 38 d_Dia_addCrossing_30 (by decide) (fun c30 => ?_) (fun c30 => ?_)
    · refine zi_iload O d_Dia_addCrossing_38 rfl ?_
      refine zi_istore (ls' := _ :: _ :: _ :: _ :: _ :: _ :: _ :: _ :: _ :: some _ :: _) O d_Dia_addCrossing_40 rfl (by decide) rfl ?_
      exact fin _ _ (by unfold if1 if0; rw [if_neg c16]) (by unfold if1 if0; rw [if_neg c16])
    · exact absurd c30 c16
  · refine zi_iload O d_Dia_addCrossing_19 rfl ?_
    refine zi_goto O 26 d_Dia_addCrossing_21 (by decide) ?_
    refine zi_istore (ls' := _ :: _ :: _ :: _ :: _ :: _ :: _ :: _ :: some _ :: _) O d_Dia_addCrossing_26 rfl (by decide) rfl ?_
    refine zi_iload_n O d_Dia_addCrossing_28 rfl ?_
    refine zi_iconstN O 1 d_Dia_addCrossing_29 (by decide) ?_
    refine zi_icmp_ne O 38 d_Dia_addCrossing_30 (by decide) (fun c30 => ?_) (fun c30 => ?_)
    · exact absurd c16 c30
    · refine zi_iload O d_Dia_addCrossing_33 rfl ?_
      refine zi_goto O 40 d_Dia_addCrossing_35 (by decide) ?_
      refine zi_istore (ls' := _ :: _ :: _ :: _ :: _ :: _ :: _ :: _ :: _ :: some _ :: _) O d_Dia_addCrossing_40 rfl (by decide) rfl ?_
      exact fin _ _ (by unfold if1 if0; rw [if_pos c16]) (by unfold if1 if0; rw [if_pos c16])
theorem fa_le (LB : Nat → Int32) (a : Nat) : ∀ i, a + 1 ≤ fa LB a i ∧ fa LB a i ≤ a + 1 + i
  | 0 => ⟨Nat.le_refl _, Nat.le_refl _⟩
  | i + 1 => by
    have := fa_le LB a i
    rw [fa]
    split <;> omega
set_option maxHeartbeats 1000000 in
theorem m_Dia_cutEdge {L PL LB FR TO AT OF RD ST OC CE SL : Nat → Int32} {F pc co : Nat} (hn : n ≤ 20) (hE : Ed n lab S el fr to_ at_) (hA : EdA n el fr to_ at_ LB FR TO AT) (e a : Nat) (he : e < 2 * n) {S' : Nat → Int32} : zMet y_Dia_cutEdge b_Dia_cutEdge 5 (some (.object "DiagramMoves$Cut")) ⟨2, 1, 3, 50⟩ [.ref 0, .int (nI e), .int (nI a)] (diaH ci n L S' (2 * n) PL LB FR TO AT F OF RD ST pc co OC CE SL)
    (fun r h' => r = some (.ref 18) ∧ h' = diaH ci n (upd L (to_ e) (nI (fa LB (fa LB a (2 * n)) (2 * n)))) S' (2 * n) PL LB FR TO AT F OF RD ST pc co OC CE SL ++ [cutC (nI (el e)) (nI (fa LB a (2 * n))) (nI (fa LB (fa LB a (2 * n)) (2 * n)))]) := by
  obtain ⟨b1, b2, b3, b4, b5, b6⟩ := hE.1 e he
  obtain ⟨a1, a2, a3⟩ := hA.1 e he
  refine zMet_of (plainFor_of_name (by decide +kernel)) rfl (Nat.le_of_ble_eq_true rfl) (fun z1 z2 z3 z4 z5 z6 z7 z8 z9 z10 z11 z12 z13 z14 O hin => ?_)
  refine zi_ls (ls' := [some (.ref 0), some (.int (nI e)), some (.int (nI a)), none, none]) rfl ?_
  refine zi_aload_n O d_Dia_cutEdge_0 rfl ?_
  refine zi_get O f_Dia_21 d_Dia_cutEdge_1 rfl rfl ?_
  refine zi_iload_n O d_Dia_cutEdge_4 rfl ?_
  refine zi_pureV O [4, 5, 6, 7, 8, 9] c_Dia_143 k_Edg_freeAfter (m_Edg_freeAfter (2 * n) PL LB FR TO AT a (by omega)) d_Dia_cutEdge_5 ⟨(Nat.le_of_ble_eq_true rfl), (Nat.le_of_ble_eq_true rfl)⟩ ⟨(Nat.le_of_ble_eq_true rfl), (Nat.le_of_ble_eq_true rfl)⟩ rfl rfl (Nat.le_of_ble_eq_true rfl) rfl rfl rfl rfl rfl (Nat.le_of_ble_eq_true rfl) rfl ?_
  refine zi_istore_n (ls' := _ :: _ :: _ :: some _ :: _) O d_Dia_cutEdge_8 rfl (by decide) rfl ?_
  refine zi_aload_n O d_Dia_cutEdge_9 rfl ?_
  refine zi_get O f_Dia_21 d_Dia_cutEdge_10 rfl rfl ?_
  refine zi_iload_n O d_Dia_cutEdge_13 rfl ?_
  refine zi_pureV O [4, 5, 6, 7, 8, 9] c_Dia_143 k_Edg_freeAfter (m_Edg_freeAfter (2 * n) PL LB FR TO AT (fa LB a (2 * n)) (by omega)) d_Dia_cutEdge_14 ⟨(Nat.le_of_ble_eq_true rfl), (Nat.le_of_ble_eq_true rfl)⟩ ⟨(Nat.le_of_ble_eq_true rfl), (Nat.le_of_ble_eq_true rfl)⟩ rfl rfl (Nat.le_of_ble_eq_true rfl) rfl rfl rfl rfl rfl (Nat.le_of_ble_eq_true rfl) rfl ?_
  refine zi_istore (ls' := _ :: _ :: _ :: _ :: some _ :: _) O d_Dia_cutEdge_17 rfl (by decide) rfl ?_
  refine zi_aload_n O d_Dia_cutEdge_19 rfl ?_
  refine zi_get O f_Dia_12 d_Dia_cutEdge_20 rfl rfl ?_
  refine zi_get O f_Dia_124 d_Dia_cutEdge_23 rfl rfl ?_
  refine zi_aload_n O d_Dia_cutEdge_26 rfl ?_
  refine zi_get O f_Dia_21 d_Dia_cutEdge_27 rfl rfl ?_
  refine zi_get O f_Dia_139 d_Dia_cutEdge_30 rfl rfl ?_
  refine zi_iload_n O d_Dia_cutEdge_33 rfl ?_
  refine zi_iald O d_Dia_cutEdge_34 rfl rfl (by omega) (by decide) ?_
  rw [a3]
  refine zi_iload O d_Dia_cutEdge_35 rfl ?_
  refine zi_iast O d_Dia_cutEdge_37 rfl rfl (by omega) (by decide) (by dsimp only [List.set]) ?_
  refine zi_new (ci := 6) (fs := [.int 0, .int 0, .int 0]) (ty := t_Cut) O d_Dia_cutEdge_38 rfl i_Cut t_Cut_ok z_cl_Dia_146 z_in_Cut z_ini_Cut (by decide) rfl (Nat.le_of_ble_eq_true rfl) (Nat.le_of_ble_eq_true rfl) rfl rfl rfl (Nat.le_of_ble_eq_true rfl) ?_
  refine zi_dup O d_Dia_cutEdge_41 rfl ?_
  refine zi_aload_n O d_Dia_cutEdge_42 rfl ?_
  refine zi_get O f_Dia_21 d_Dia_cutEdge_43 rfl rfl ?_
  refine zi_get O f_Dia_142 d_Dia_cutEdge_46 rfl rfl ?_
  refine zi_iload_n O d_Dia_cutEdge_49 rfl ?_
  refine zi_iald O d_Dia_cutEdge_50 rfl rfl (by omega) (by decide) ?_
  rw [a1]
  refine zi_iload_n O d_Dia_cutEdge_51 rfl ?_
  refine zi_iload O d_Dia_cutEdge_52 rfl ?_
  refine zi_callI O [18] c_Dia_148 k_Cut_init (m_Cut_init (nI (el e)) (nI (fa LB a (2 * n))) (nI (fa LB (fa LB a (2 * n)) (2 * n)))) d_Dia_cutEdge_54 ⟨(Nat.le_of_ble_eq_true rfl), (Nat.le_of_ble_eq_true rfl)⟩ ⟨(Nat.le_of_ble_eq_true rfl), (Nat.le_of_ble_eq_true rfl)⟩ rfl (Nat.le_of_ble_eq_true rfl) rfl rfl rfl rfl rfl (Nat.le_of_ble_eq_true rfl) rfl (fun r h' hq hl => ?_)
  obtain ⟨rfl, rfl⟩ := hq
  refine zi_st (st' := [.ref 18]) rfl (zi_h (h' := diaH ci n (upd L (to_ e) (nI (fa LB (fa LB a (2 * n)) (2 * n)))) S' (2 * n) PL LB FR TO AT F OF RD ST pc co OC CE SL ++ [cutC (nI (el e)) (nI (fa LB a (2 * n))) (nI (fa LB (fa LB a (2 * n)) (2 * n)))]) rfl ?_)
  refine zi_aret O d_Dia_cutEdge_57 (Or.inl ⟨_, rfl⟩) (Nat.le_of_ble_eq_true rfl) (Nat.le_of_ble_eq_true rfl) (Nat.le_of_ble_eq_true rfl) ?_
  exact ⟨rfl, rfl⟩
end
end
section
/-! addKink, twistCircle, twistEdge, canMeet -/
def bI (b : Bool) : Int32 := if b then nI 1 else nI 0
def ifS (sg : Int32) (a b : Nat) : Nat := if sg = nI 1 then a else b
def ad4 (lab : Nat → Nat) (n l0 l1 l2 l3 : Nat) : Nat → Nat := va_up (va_up (va_up (va_up lab (4 * n) l0) (4 * n + 1) l1) (4 * n + 2) l2) (4 * n + 3) l3
/-- one crossing more: by its sign, which pass the upper strand's and the lower strand's is, and the parts of both -/
def cr (lab : Nat → Nat) (n : Nat) (sg : Int32) (pu pl : Bool) (u1 u2 u3 l1 l2 l3 : Nat) : Nat → Nat := ad4 lab n (if pl then l1 else l2) (ifS sg (if pu then u2 else u3) (if pu then u1 else u2)) (if pl then l2 else l3) (ifS sg (if pu then u1 else u2) (if pu then u2 else u3))
theorem rowOK_ad {n : Nat} {L : Nat → Int32} {lab : Nat → Nat} (h : RowOK n L lab) (hn : n < 20) {l0 l1 l2 l3 : Nat} (h0 : 1 ≤ l0 ∧ l0 ≤ 9999) (h1 : 1 ≤ l1 ∧ l1 ≤ 9999) (h2 : 1 ≤ l2 ∧ l2 ≤ 9999) (h3 : 1 ≤ l3 ∧ l3 ≤ 9999) : RowOK (n + 1) (up4 L n (nI l0) (nI l1) (nI l2) (nI l3)) (ad4 lab n l0 l1 l2 l3) := by
  refine ⟨by omega, fun q hq => ?_⟩
  unfold up4 ad4 upd va_up
  by_cases c3 : q = 4 * n + 3
  · rw [if_pos c3, if_pos c3]; exact ⟨rfl, h3⟩
  · rw [if_neg c3, if_neg c3]
    by_cases c2 : q = 4 * n + 2
    · rw [if_pos c2, if_pos c2]; exact ⟨rfl, h2⟩
    · rw [if_neg c2, if_neg c2]
      by_cases c1 : q = 4 * n + 1
      · rw [if_pos c1, if_pos c1]; exact ⟨rfl, h1⟩
      · rw [if_neg c1, if_neg c1]
        by_cases c0 : q = 4 * n
        · rw [if_pos c0, if_pos c0]; exact ⟨rfl, h0⟩
        · rw [if_neg c0, if_neg c0]; exact h.2 q (by omega)
theorem if0_b (b : Bool) (x y : Nat) : if0 (bI b) (nI x) (nI y) = nI (if b then y else x) := by
  cases b
  · rfl
  · show (if nI 1 = 0 then _ else _) = _
    rw [if_neg (by decide)]; rfl
theorem if1_n (sg : Int32) (x y : Nat) : if1 sg (nI x) (nI y) = nI (ifS sg x y) := by
  unfold if1 ifS
  split <;> rfl
theorem rowOK_cr {n : Nat} {L : Nat → Int32} {lab : Nat → Nat} (h : RowOK n L lab) (hn : n < 20) (sg : Int32) (pu pl : Bool) {u1 u2 u3 l1 l2 l3 : Nat} (hu1 : 1 ≤ u1 ∧ u1 ≤ 9999) (hu2 : 1 ≤ u2 ∧ u2 ≤ 9999) (hu3 : 1 ≤ u3 ∧ u3 ≤ 9999) (hl1 : 1 ≤ l1 ∧ l1 ≤ 9999) (hl2 : 1 ≤ l2 ∧ l2 ≤ 9999) (hl3 : 1 ≤ l3 ∧ l3 ≤ 9999) :
    RowOK (n + 1) (up4 L n (if0 (bI pl) (nI l2) (nI l1)) (if1 sg (if0 (bI pu) (nI u3) (nI u2)) (if0 (bI pu) (nI u2) (nI u1))) (if0 (bI pl) (nI l3) (nI l2)) (if1 sg (if0 (bI pu) (nI u2) (nI u1)) (if0 (bI pu) (nI u3) (nI u2)))) (cr lab n sg pu pl u1 u2 u3 l1 l2 l3) := by
  rw [if0_b, if0_b, if0_b, if0_b, if1_n, if1_n]
  refine rowOK_ad h hn ?_ ?_ ?_ ?_
  · split <;> assumption
  · unfold ifS; split <;> split <;> assumption
  · split <;> assumption
  · unfold ifS; split <;> split <;> assumption
theorem sg_add {n : Nat} {S : Nat → Int32} (h : Sg n S) {sg : Int32} (hs : sg = nI 1 ∨ sg = -1) : Sg (n + 1) (upd S n sg) := by
  intro c hc
  by_cases e : c = n
  · rw [e, pk_us]; exact hs
  · rw [pk_un e]; exact h c (by omega)
/-- the free labels, by the edges' labels -/
def fN (el : Nat → Nat) (a : Nat) : Nat → Nat
  | 0 => a + 1
  | i + 1 => if el i = fN el a i then fN el a i + 1 else fN el a i
theorem fN_le (el : Nat → Nat) (a : Nat) : ∀ i, a + 1 ≤ fN el a i ∧ fN el a i ≤ a + 1 + i
  | 0 => ⟨Nat.le_refl _, Nat.le_refl _⟩
  | i + 1 => by
    have := fN_le el a i
    rw [fN]
    split <;> omega
theorem fa_fN {LB : Nat → Int32} {el : Nat → Nat} {m a : Nat} (h : ∀ e, e < m → LB e = nI (el e) ∧ el e < 2 ^ 31) (hm : m ≤ 100) (ha : a < 2 ^ 30) : ∀ i, i ≤ m → fa LB a i = fN el a i
  | 0, _ => rfl
  | i + 1, hi => by
    have h1 := fa_fN h hm ha i (by omega)
    have h2 := fN_le el a i
    rw [fa, fN, h1, (h i (by omega)).1]
    have : nI (el i) = nI (fN el a i) ↔ el i = fN el a i := nI_eq (h i (by omega)).2 (by omega)
    simp only [this]
section
variable {n : Nat} {lab : Nat → Nat} {S : Nat → Int32} {ci : Int32} {el fr to_ at_ oc : Nat → Nat} {h : List zE}
theorem el_ok {L : Nat → Int32} (hR : RowOK n L lab) (hE : Ed n lab S el fr to_ at_) {e : Nat} (he : e < 2 * n) : 1 ≤ el e ∧ el e ≤ 9999 := by
  obtain ⟨b1, b2, b3, b4, b5, b6⟩ := hE.1 e he
  have := (hR.2 _ b1).2
  rw [b3] at this
  exact this
theorem fa_el {L LB FR TO AT : Nat → Int32} (hR : RowOK n L lab) (hE : Ed n lab S el fr to_ at_) (hA : EdA n el fr to_ at_ LB FR TO AT) {a : Nat} (ha : a < 2 ^ 30) : fa LB a (2 * n) = fN el a (2 * n) := by
  have := hR.1
  exact fa_fN (fun e he => ⟨(hA.1 e he).1, by have := el_ok hR hE he; omega⟩) (by omega) ha _ (Nat.le_refl _)
set_option maxHeartbeats 1000000 in
theorem m_Dia_addKink_0 {L PL LB FR TO AT OF RD ST OC CE SL : Nat → Int32} {m F pc co : Nat} (hR : RowOK n L lab) (hG : Sg n S) (hz : ST 0 = nI 0) (hn : n < 20) (sg : Int32) (hs : sg = nI 1 ∨ sg = -1) (f u v : Nat) (hf : 1 ≤ f ∧ f ≤ 9999) (hu : 1 ≤ u ∧ u ≤ 9999) (hv : 1 ≤ v ∧ v ≤ 9999) : zMet y_Dia_addKink b_Dia_addKink 4 none ⟨5, 0, 0, 140⟩ [.ref 0, .ref 18, .int sg, .int (bI false)] (diaH ci n L S m PL LB FR TO AT F OF RD ST pc co OC CE SL ++ [cutC (nI f) (nI u) (nI v)])
    (fun r h' => r = none ∧ ∃ h1, h' = h1 ++ [cutC (nI f) (nI u) (nI v)] ∧ ChQ (n + 1) (cr lab n sg false (!false) f u v f u v) (upd S n sg) ci h1) := by
  refine zMet_of (plainFor_of_name (by decide +kernel)) rfl (Nat.le_of_ble_eq_true rfl) (fun z1 z2 z3 z4 z5 z6 z7 z8 z9 z10 z11 z12 z13 z14 O hin => ?_)
  refine zi_ls (ls' := [some (.ref 0), some (.ref 18), some (.int sg), some (.int (bI false))]) rfl ?_
  refine zi_aload_n O d_Dia_addKink_0 rfl ?_
  refine zi_iload_n O d_Dia_addKink_1 rfl ?_
  refine zi_aload_n O d_Dia_addKink_2 rfl ?_
  refine zi_iload_n O d_Dia_addKink_3 rfl ?_
  refine zi_aload_n O d_Dia_addKink_4 rfl ?_
  refine zi_iload_n O d_Dia_addKink_5 rfl ?_
  refine zi_if_ne O 13 d_Dia_addKink_6 (by decide) (fun c6 => ?_) (fun c6 => ?_)
  · exact absurd rfl c6
  · refine zi_iconstN O 1 d_Dia_addKink_9 (by decide) ?_
    refine zi_goto O 14 d_Dia_addKink_10 (by decide) ?_
    refine zi_selfV O c_Dia_162 k_Dia_addCrossing (m_Dia_addCrossing_0 hn sg (bI false) (bI (!false)) (nI f) (nI u) (nI v) (nI f) (nI u) (nI v)) d_Dia_addKink_14 ⟨(Nat.le_of_ble_eq_true rfl), (Nat.le_of_ble_eq_true rfl)⟩ ⟨(Nat.le_of_ble_eq_true rfl), (Nat.le_of_ble_eq_true rfl)⟩ rfl rfl (Nat.le_of_ble_eq_true rfl) rfl rfl rfl (Nat.le_of_ble_eq_true rfl) rfl (fun r h' hq hl => ?_)
    obtain ⟨rfl, rfl⟩ := hq
    refine zi_st (st' := []) rfl ?_
    refine zi_aload_n O d_Dia_addKink_17 rfl ?_
    refine zi_preV O (diaH ci (n + 1) (up4 L n (if0 (bI (!false)) (nI u) (nI f)) (if1 sg (if0 (bI false) (nI v) (nI u)) (if0 (bI false) (nI u) (nI f))) (if0 (bI (!false)) (nI v) (nI u)) (if1 sg (if0 (bI false) (nI u) (nI f)) (if0 (bI false) (nI v) (nI u)))) (upd S n sg) m PL LB FR TO AT F OF RD ST pc co OC CE SL) [cutC (nI f) (nI u) (nI v)] rfl c_Dia_104 k_Dia_chart (m_Dia_chart2 (n := n + 1) (lab := cr lab n sg false (!false) f u v f u v) (S := upd S n sg) (ci := ci) ⟨_, _, _, _, _, _, _, _, _, _, _, _, _, _, _, _, rfl, rowOK_cr hR hn sg false (!false) hf hu hv hf hu hv, sg_add hG hs, hz⟩) d_Dia_addKink_18 ⟨(Nat.le_of_ble_eq_true rfl), (Nat.le_of_ble_eq_true rfl)⟩ ⟨(Nat.le_of_ble_eq_true rfl), (Nat.le_of_ble_eq_true rfl)⟩ rfl rfl (Nat.le_of_ble_eq_true rfl) rfl rfl rfl (Nat.le_of_ble_eq_true rfl) rfl rfl (fun r h' hq => ?_) rfl (fun r h' hq hl => ?_)
    · obtain ⟨L, m, PL, LB, FR, TO, AT, F, OF, RD, ST, pc, co, OC, CE, SL, rfl⟩ := dr_form (chq_dr hq.2)
      exact ⟨rfl, rfl⟩
    · obtain ⟨⟨x, rfl⟩, hC⟩ := hq
      obtain ⟨L, m, PL, LB, FR, TO, AT, F, OF, RD, ST, pc, co, OC, CE, SL, rfl⟩ := dr_form (chq_dr hC)
      refine zi_st (st' := [.int x]) rfl (zi_h (h' := diaH ci (n + 1) L (upd S n sg) m PL LB FR TO AT F OF RD ST pc co OC CE SL ++ [cutC (nI f) (nI u) (nI v)]) rfl ?_)
      refine zi_pop O d_Dia_addKink_21 rfl ?_
      refine zi_vret O d_Dia_addKink_22 (Nat.le_of_ble_eq_true rfl) (Nat.le_of_ble_eq_true rfl) (Nat.le_of_ble_eq_true rfl) ?_
      exact ⟨rfl, _, rfl, hC⟩
set_option maxHeartbeats 1000000 in
theorem m_Dia_addKink_1 {L PL LB FR TO AT OF RD ST OC CE SL : Nat → Int32} {m F pc co : Nat} (hR : RowOK n L lab) (hG : Sg n S) (hz : ST 0 = nI 0) (hn : n < 20) (sg : Int32) (hs : sg = nI 1 ∨ sg = -1) (f u v : Nat) (hf : 1 ≤ f ∧ f ≤ 9999) (hu : 1 ≤ u ∧ u ≤ 9999) (hv : 1 ≤ v ∧ v ≤ 9999) : zMet y_Dia_addKink b_Dia_addKink 4 none ⟨5, 0, 0, 140⟩ [.ref 0, .ref 18, .int sg, .int (bI true)] (diaH ci n L S m PL LB FR TO AT F OF RD ST pc co OC CE SL ++ [cutC (nI f) (nI u) (nI v)])
    (fun r h' => r = none ∧ ∃ h1, h' = h1 ++ [cutC (nI f) (nI u) (nI v)] ∧ ChQ (n + 1) (cr lab n sg true (!true) f u v f u v) (upd S n sg) ci h1) := by
  refine zMet_of (plainFor_of_name (by decide +kernel)) rfl (Nat.le_of_ble_eq_true rfl) (fun z1 z2 z3 z4 z5 z6 z7 z8 z9 z10 z11 z12 z13 z14 O hin => ?_)
  refine zi_ls (ls' := [some (.ref 0), some (.ref 18), some (.int sg), some (.int (bI true))]) rfl ?_
  refine zi_aload_n O d_Dia_addKink_0 rfl ?_
  refine zi_iload_n O d_Dia_addKink_1 rfl ?_
  refine zi_aload_n O d_Dia_addKink_2 rfl ?_
  refine zi_iload_n O d_Dia_addKink_3 rfl ?_
  refine zi_aload_n O d_Dia_addKink_4 rfl ?_
  refine zi_iload_n O d_Dia_addKink_5 rfl ?_
  refine zi_if_ne O 13 d_Dia_addKink_6 (by decide) (fun c6 => ?_) (fun c6 => ?_)
  · refine zi_iconstN O 0 d_Dia_addKink_13 (by decide) ?_
    refine zi_selfV O c_Dia_162 k_Dia_addCrossing (m_Dia_addCrossing_0 hn sg (bI true) (bI (!true)) (nI f) (nI u) (nI v) (nI f) (nI u) (nI v)) d_Dia_addKink_14 ⟨(Nat.le_of_ble_eq_true rfl), (Nat.le_of_ble_eq_true rfl)⟩ ⟨(Nat.le_of_ble_eq_true rfl), (Nat.le_of_ble_eq_true rfl)⟩ rfl rfl (Nat.le_of_ble_eq_true rfl) rfl rfl rfl (Nat.le_of_ble_eq_true rfl) rfl (fun r h' hq hl => ?_)
    obtain ⟨rfl, rfl⟩ := hq
    refine zi_st (st' := []) rfl ?_
    refine zi_aload_n O d_Dia_addKink_17 rfl ?_
    refine zi_preV O (diaH ci (n + 1) (up4 L n (if0 (bI (!true)) (nI u) (nI f)) (if1 sg (if0 (bI true) (nI v) (nI u)) (if0 (bI true) (nI u) (nI f))) (if0 (bI (!true)) (nI v) (nI u)) (if1 sg (if0 (bI true) (nI u) (nI f)) (if0 (bI true) (nI v) (nI u)))) (upd S n sg) m PL LB FR TO AT F OF RD ST pc co OC CE SL) [cutC (nI f) (nI u) (nI v)] rfl c_Dia_104 k_Dia_chart (m_Dia_chart2 (n := n + 1) (lab := cr lab n sg true (!true) f u v f u v) (S := upd S n sg) (ci := ci) ⟨_, _, _, _, _, _, _, _, _, _, _, _, _, _, _, _, rfl, rowOK_cr hR hn sg true (!true) hf hu hv hf hu hv, sg_add hG hs, hz⟩) d_Dia_addKink_18 ⟨(Nat.le_of_ble_eq_true rfl), (Nat.le_of_ble_eq_true rfl)⟩ ⟨(Nat.le_of_ble_eq_true rfl), (Nat.le_of_ble_eq_true rfl)⟩ rfl rfl (Nat.le_of_ble_eq_true rfl) rfl rfl rfl (Nat.le_of_ble_eq_true rfl) rfl rfl (fun r h' hq => ?_) rfl (fun r h' hq hl => ?_)
    · obtain ⟨L, m, PL, LB, FR, TO, AT, F, OF, RD, ST, pc, co, OC, CE, SL, rfl⟩ := dr_form (chq_dr hq.2)
      exact ⟨rfl, rfl⟩
    · obtain ⟨⟨x, rfl⟩, hC⟩ := hq
      obtain ⟨L, m, PL, LB, FR, TO, AT, F, OF, RD, ST, pc, co, OC, CE, SL, rfl⟩ := dr_form (chq_dr hC)
      refine zi_st (st' := [.int x]) rfl (zi_h (h' := diaH ci (n + 1) L (upd S n sg) m PL LB FR TO AT F OF RD ST pc co OC CE SL ++ [cutC (nI f) (nI u) (nI v)]) rfl ?_)
      refine zi_pop O d_Dia_addKink_21 rfl ?_
      refine zi_vret O d_Dia_addKink_22 (Nat.le_of_ble_eq_true rfl) (Nat.le_of_ble_eq_true rfl) (Nat.le_of_ble_eq_true rfl) ?_
      exact ⟨rfl, _, rfl, hC⟩
  · exact absurd c6 (by decide)
theorem m_Dia_addKink (ab : Bool) {L PL LB FR TO AT OF RD ST OC CE SL : Nat → Int32} {m F pc co : Nat} (hR : RowOK n L lab) (hG : Sg n S) (hz : ST 0 = nI 0) (hn : n < 20) (sg : Int32) (hs : sg = nI 1 ∨ sg = -1) (f u v : Nat) (hf : 1 ≤ f ∧ f ≤ 9999) (hu : 1 ≤ u ∧ u ≤ 9999) (hv : 1 ≤ v ∧ v ≤ 9999) : zMet y_Dia_addKink b_Dia_addKink 4 none ⟨5, 0, 0, 140⟩ [.ref 0, .ref 18, .int sg, .int (bI ab)] (diaH ci n L S m PL LB FR TO AT F OF RD ST pc co OC CE SL ++ [cutC (nI f) (nI u) (nI v)])
    (fun r h' => r = none ∧ ∃ h1, h' = h1 ++ [cutC (nI f) (nI u) (nI v)] ∧ ChQ (n + 1) (cr lab n sg ab (!ab) f u v f u v) (upd S n sg) ci h1) := by
  cases ab
  · exact m_Dia_addKink_0 hR hG hz hn sg hs f u v hf hu hv
  · exact m_Dia_addKink_1 hR hG hz hn sg hs f u v hf hu hv
theorem m_Dia_twistCircle_no (hD : Dr n lab S ci h) (sg : Int32) (x : Int32) (hc : ¬ 0 < ci) : zPu y_Dia_twistCircle b_Dia_twistCircle 5 (some .boolean) ⟨6, 0, 0, 170⟩ [.ref 0, .int sg, .int x] h (.int (nI 0)) := by
  obtain ⟨L, m, PL, LB, FR, TO, AT, F, OF, RD, ST, pc, co, OC, CE, SL, rfl⟩ := dr_form hD
  refine zMet_of (plainFor_of_name (by decide +kernel)) rfl (Nat.le_of_ble_eq_true rfl) (fun z1 z2 z3 z4 z5 z6 z7 z8 z9 z10 z11 z12 z13 z14 O hin => ?_)
  refine zi_ls (ls' := [some (.ref 0), some (.int sg), some (.int x), none, none]) rfl ?_
  refine zi_aload_n O d_Dia_twistCircle_0 rfl ?_
  refine zi_get O f_Dia_121 d_Dia_twistCircle_1 rfl rfl ?_
  refine zi_if_gt O 9 d_Dia_twistCircle_4 (by decide) (fun c4 => ?_) (fun c4 => ?_)
  · exact absurd c4 hc
  · refine zi_iconstN O 0 d_Dia_twistCircle_7 (by decide) ?_
    refine zi_zret O d_Dia_twistCircle_8 rfl (Nat.le_of_ble_eq_true rfl) (Nat.le_of_ble_eq_true rfl) (Nat.le_of_ble_eq_true rfl) ?_
    exact ⟨rfl, rfl⟩
set_option maxHeartbeats 1000000 in
theorem m_Dia_twistCircle (hD : Dia n lab S ci el fr to_ at_ oc h) (ab : Bool) (sg : Int32) (hs : sg = nI 1 ∨ sg = -1) (hn : n < 20) (hc : 0 < ci) : zMet y_Dia_twistCircle b_Dia_twistCircle 5 (some .boolean) ⟨6, 1, 3, 170⟩ [.ref 0, .int sg, .int (bI ab)] h
    (fun r h' => r = some (.int (nI 1)) ∧ ChQ (n + 1) (cr lab n sg ab (!ab) (fN el (fN el 0 (2 * n)) (2 * n)) (fN el 0 (2 * n)) (fN el (fN el 0 (2 * n)) (2 * n)) (fN el (fN el 0 (2 * n)) (2 * n)) (fN el 0 (2 * n)) (fN el (fN el 0 (2 * n)) (2 * n))) (upd S n sg) (ci - nI 1) h') := by
  obtain ⟨L, PL, LB, FR, TO, AT, RD, ST, OC, SL, rfl, hR, hG, hz, hE, hA, hRd, hO, hP⟩ := hD
  have b1 := fN_le el 0 (2 * n)
  have b2 := fN_le el (fN el 0 (2 * n)) (2 * n)
  have e1 := fa_el hR hE hA (a := 0) (by omega)
  have e2 := fa_el hR hE hA (a := fN el 0 (2 * n)) (by omega)
  generalize fN el 0 (2 * n) = u at b1 b2 e1 e2 ⊢
  generalize fN el u (2 * n) = v at b2 e2 ⊢
  refine zMet_of (plainFor_of_name (by decide +kernel)) rfl (Nat.le_of_ble_eq_true rfl) (fun z1 z2 z3 z4 z5 z6 z7 z8 z9 z10 z11 z12 z13 z14 O hin => ?_)
  refine zi_ls (ls' := [some (.ref 0), some (.int sg), some (.int (bI ab)), none, none]) rfl ?_
  refine zi_aload_n O d_Dia_twistCircle_0 rfl ?_
  refine zi_get O f_Dia_121 d_Dia_twistCircle_1 rfl rfl ?_
  refine zi_if_gt O 9 d_Dia_twistCircle_4 (by decide) (fun c4 => ?_) (fun c4 => ?_)
  · refine zi_aload_n O d_Dia_twistCircle_9 rfl ?_
    refine zi_dup O d_Dia_twistCircle_10 rfl ?_
    refine zi_get O f_Dia_121 d_Dia_twistCircle_11 rfl rfl ?_
    refine zi_iconstN O 1 d_Dia_twistCircle_14 (by decide) ?_
    first | refine zi_isubN O d_Dia_twistCircle_15 (by omega) ?_ | refine zi_isub O d_Dia_twistCircle_15 ?_
    refine zi_put O f_Dia_121 d_Dia_twistCircle_16 rfl (Nat.le_of_ble_eq_true rfl) (fun _ => rfl) (fun _ => rfl) (by dsimp only [List.set]) ?_
    refine zi_aload_n O d_Dia_twistCircle_19 rfl ?_
    refine zi_get O f_Dia_21 d_Dia_twistCircle_20 rfl rfl ?_
    refine zi_iconstN O 0 d_Dia_twistCircle_23 (by decide) ?_
    refine zi_pureV O [4, 5, 6, 7, 8, 9] c_Dia_143 k_Edg_freeAfter (m_Edg_freeAfter (2 * n) PL LB FR TO AT 0 (by omega)) d_Dia_twistCircle_24 ⟨(Nat.le_of_ble_eq_true rfl), (Nat.le_of_ble_eq_true rfl)⟩ ⟨(Nat.le_of_ble_eq_true rfl), (Nat.le_of_ble_eq_true rfl)⟩ rfl rfl (Nat.le_of_ble_eq_true rfl) rfl rfl rfl rfl rfl (Nat.le_of_ble_eq_true rfl) rfl ?_
    rw [e1]
    refine zi_istore_n (ls' := _ :: _ :: _ :: some _ :: _) O d_Dia_twistCircle_27 rfl (by decide) rfl ?_
    refine zi_aload_n O d_Dia_twistCircle_28 rfl ?_
    refine zi_get O f_Dia_21 d_Dia_twistCircle_29 rfl rfl ?_
    refine zi_iload_n O d_Dia_twistCircle_32 rfl ?_
    refine zi_pureV O [4, 5, 6, 7, 8, 9] c_Dia_143 k_Edg_freeAfter (m_Edg_freeAfter (2 * n) PL LB FR TO AT u (by omega)) d_Dia_twistCircle_33 ⟨(Nat.le_of_ble_eq_true rfl), (Nat.le_of_ble_eq_true rfl)⟩ ⟨(Nat.le_of_ble_eq_true rfl), (Nat.le_of_ble_eq_true rfl)⟩ rfl rfl (Nat.le_of_ble_eq_true rfl) rfl rfl rfl rfl rfl (Nat.le_of_ble_eq_true rfl) rfl ?_
    rw [e2]
    refine zi_istore (ls' := _ :: _ :: _ :: _ :: some _ :: _) O d_Dia_twistCircle_36 rfl (by decide) rfl ?_
    refine zi_aload_n O d_Dia_twistCircle_38 rfl ?_
    refine zi_new (ci := 6) (fs := [.int 0, .int 0, .int 0]) (ty := t_Cut) O d_Dia_twistCircle_39 rfl i_Cut t_Cut_ok z_cl_Dia_146 z_in_Cut z_ini_Cut (by decide) rfl (Nat.le_of_ble_eq_true rfl) (Nat.le_of_ble_eq_true rfl) rfl rfl rfl (Nat.le_of_ble_eq_true rfl) ?_
    refine zi_dup O d_Dia_twistCircle_42 rfl ?_
    refine zi_iload O d_Dia_twistCircle_43 rfl ?_
    refine zi_iload_n O d_Dia_twistCircle_45 rfl ?_
    refine zi_iload O d_Dia_twistCircle_46 rfl ?_
    refine zi_callI O [18] c_Dia_148 k_Cut_init (m_Cut_init (nI v) (nI u) (nI v)) d_Dia_twistCircle_48 ⟨(Nat.le_of_ble_eq_true rfl), (Nat.le_of_ble_eq_true rfl)⟩ ⟨(Nat.le_of_ble_eq_true rfl), (Nat.le_of_ble_eq_true rfl)⟩ rfl (Nat.le_of_ble_eq_true rfl) rfl rfl rfl rfl rfl (Nat.le_of_ble_eq_true rfl) rfl (fun r h' hq hl => ?_)
    obtain ⟨rfl, rfl⟩ := hq
    refine zi_st (st' := [.ref 18, .ref 0]) rfl (zi_h (h' := diaH (ci - nI 1) n L S (2 * n) PL LB FR TO AT (FF (nxD fr to_ at_) (4 * n) (4 * n)).2 (FF (nxD fr to_ at_) (4 * n) (4 * n)).1 RD ST (rc oc n) (FF (nxE to_ at_) (2 * n) (2 * n)).2 OC (FF (nxE to_ at_) (2 * n) (2 * n)).1 SL ++ [cutC (nI v) (nI u) (nI v)]) rfl ?_)
    refine zi_iload_n O d_Dia_twistCircle_51 rfl ?_
    refine zi_iload_n O d_Dia_twistCircle_52 rfl ?_
    refine zi_selfV O c_Dia_151 k_Dia_addKink (m_Dia_addKink ab hR hG hz hn sg hs v u v (by omega) (by omega) (by omega)) d_Dia_twistCircle_53 ⟨(Nat.le_of_ble_eq_true rfl), (Nat.le_of_ble_eq_true rfl)⟩ ⟨(Nat.le_of_ble_eq_true rfl), (Nat.le_of_ble_eq_true rfl)⟩ rfl rfl (Nat.le_of_ble_eq_true rfl) rfl rfl rfl (Nat.le_of_ble_eq_true rfl) rfl (fun r h' hq hl => ?_)
    obtain ⟨rfl, h1, rfl, hC⟩ := hq
    obtain ⟨L, m, PL, LB, FR, TO, AT, F, OF, RD, ST, pc, co, OC, CE, SL, rfl⟩ := dr_form (chq_dr hC)
    refine zi_drop 18 (zi_st (st' := []) rfl (zi_h (h' := diaH (ci - nI 1) (n + 1) L (upd S n sg) m PL LB FR TO AT F OF RD ST pc co OC CE SL) rfl ?_))
    refine zi_iconstN O 1 d_Dia_twistCircle_56 (by decide) ?_
    refine zi_zret O d_Dia_twistCircle_57 rfl (Nat.le_of_ble_eq_true rfl) (Nat.le_of_ble_eq_true rfl) (Nat.le_of_ble_eq_true rfl) ?_
    exact ⟨rfl, hC⟩
  · exact absurd hc c4
theorem m_Dia_twistEdge_no (hD : Dia n lab S ci el fr to_ at_ oc h) (x sg y : Int32) (hx : ∀ e, e < 2 * n → ¬ nI (el e) = x) : zPu y_Dia_twistEdge b_Dia_twistEdge 5 (some .boolean) ⟨6, 0, 0, 170⟩ [.ref 0, .int x, .int sg, .int y] h (.int (nI 0)) := by
  obtain ⟨L, PL, LB, FR, TO, AT, RD, ST, OC, SL, rfl, hR, hG, hz, hE, hA, hRd, hO, hP⟩ := hD
  have hn := hR.1
  refine zMet_of (plainFor_of_name (by decide +kernel)) rfl (Nat.le_of_ble_eq_true rfl) (fun z1 z2 z3 z4 z5 z6 z7 z8 z9 z10 z11 z12 z13 z14 O hin => ?_)
  refine zi_ls (ls' := [some (.ref 0), some (.int x), some (.int sg), some (.int y), none]) rfl ?_
  refine zi_aload_n O d_Dia_twistEdge_0 rfl ?_
  refine zi_get O f_Dia_21 d_Dia_twistEdge_1 rfl rfl ?_
  refine zi_iload_n O d_Dia_twistEdge_4 rfl ?_
  refine zi_pureV O [4, 5, 6, 7, 8, 9] c_Dia_155 k_Edg_withLabel (m_Edg_withLabel_no (2 * n) PL LB FR TO AT x (by omega) (fun j hj => by rw [(hA.1 j hj).1]; exact hx j hj)) d_Dia_twistEdge_5 ⟨(Nat.le_of_ble_eq_true rfl), (Nat.le_of_ble_eq_true rfl)⟩ ⟨(Nat.le_of_ble_eq_true rfl), (Nat.le_of_ble_eq_true rfl)⟩ rfl rfl (Nat.le_of_ble_eq_true rfl) rfl rfl rfl rfl rfl (Nat.le_of_ble_eq_true rfl) rfl ?_
  refine zi_istore (ls' := _ :: _ :: _ :: _ :: some _ :: _) O d_Dia_twistEdge_8 rfl (by decide) rfl ?_
  refine zi_iload O d_Dia_twistEdge_10 rfl ?_
  refine zi_if_ge O 17 d_Dia_twistEdge_12 (by decide) (fun c12 => ?_) (fun c12 => ?_)
  · exact absurd c12 (by decide)
  · refine zi_iconstN O 0 d_Dia_twistEdge_15 (by decide) ?_
    refine zi_zret O d_Dia_twistEdge_16 rfl (Nat.le_of_ble_eq_true rfl) (Nat.le_of_ble_eq_true rfl) (Nat.le_of_ble_eq_true rfl) ?_
    exact ⟨rfl, rfl⟩
theorem rowOK_up {L : Nat → Int32} (hR : RowOK n L lab) (q v : Nat) (hv : 1 ≤ v ∧ v ≤ 9999) : RowOK n (upd L q (nI v)) (va_up lab q v) := by
  refine ⟨hR.1, fun r hr => ?_⟩
  unfold upd va_up
  split
  · exact ⟨rfl, hv⟩
  · exact hR.2 r hr
set_option maxHeartbeats 1000000 in
theorem m_Dia_twistEdge (hD : Dia n lab S ci el fr to_ at_ oc h) (ab : Bool) (sg : Int32) (hs : sg = nI 1 ∨ sg = -1) (hn : n < 20) (e : Nat) (he : e < 2 * n) : zMet y_Dia_twistEdge b_Dia_twistEdge 5 (some .boolean) ⟨6, 1, 3, 170⟩ [.ref 0, .int (nI (el e)), .int sg, .int (bI ab)] h
    (fun r h' => r = some (.int (nI 1)) ∧ ChQ (n + 1) (cr (va_up lab (to_ e) (fN el (fN el 0 (2 * n)) (2 * n))) n sg ab (!ab) (el e) (fN el 0 (2 * n)) (fN el (fN el 0 (2 * n)) (2 * n)) (el e) (fN el 0 (2 * n)) (fN el (fN el 0 (2 * n)) (2 * n))) (upd S n sg) ci h') := by
  obtain ⟨L, PL, LB, FR, TO, AT, RD, ST, OC, SL, rfl, hR, hG, hz, hE, hA, hRd, hO, hP⟩ := hD
  have b1 := fN_le el 0 (2 * n)
  have b2 := fN_le el (fN el 0 (2 * n)) (2 * n)
  have e1 := fa_el hR hE hA (a := 0) (by omega)
  have e2 := fa_el hR hE hA (a := fN el 0 (2 * n)) (by omega)
  have b3 := el_ok hR hE he
  generalize fN el 0 (2 * n) = u at b1 b2 e1 e2 ⊢
  generalize fN el u (2 * n) = v at b2 e2 ⊢
  refine zMet_of (plainFor_of_name (by decide +kernel)) rfl (Nat.le_of_ble_eq_true rfl) (fun z1 z2 z3 z4 z5 z6 z7 z8 z9 z10 z11 z12 z13 z14 O hin => ?_)
  refine zi_ls (ls' := [some (.ref 0), some (.int (nI (el e))), some (.int sg), some (.int (bI ab)), none]) rfl ?_
  refine zi_aload_n O d_Dia_twistEdge_0 rfl ?_
  refine zi_get O f_Dia_21 d_Dia_twistEdge_1 rfl rfl ?_
  refine zi_iload_n O d_Dia_twistEdge_4 rfl ?_
  refine zi_pureV O [4, 5, 6, 7, 8, 9] c_Dia_155 k_Edg_withLabel (m_Edg_withLabel (2 * n) PL LB FR TO AT (nI (el e)) (by omega) e he (hA.1 e he).1 (fun j hj z => by rw [(hA.1 j (by omega)).1] at z; have := (nI_eq (by have := el_ok hR hE (e := j) (by omega); omega) (by omega)).mp z; have := hE.2.1 j e hj he; omega)) d_Dia_twistEdge_5 ⟨(Nat.le_of_ble_eq_true rfl), (Nat.le_of_ble_eq_true rfl)⟩ ⟨(Nat.le_of_ble_eq_true rfl), (Nat.le_of_ble_eq_true rfl)⟩ rfl rfl (Nat.le_of_ble_eq_true rfl) rfl rfl rfl rfl rfl (Nat.le_of_ble_eq_true rfl) rfl ?_
  refine zi_istore (ls' := _ :: _ :: _ :: _ :: some _ :: _) O d_Dia_twistEdge_8 rfl (by decide) rfl ?_
  refine zi_iload O d_Dia_twistEdge_10 rfl ?_
  refine zi_if_ge O 17 d_Dia_twistEdge_12 (by decide) (fun c12 => ?_) (fun c12 => ?_)
  · refine zi_aload_n O d_Dia_twistEdge_17 rfl ?_
    refine zi_aload_n O d_Dia_twistEdge_18 rfl ?_
    refine zi_iload O d_Dia_twistEdge_19 rfl ?_
    refine zi_iconstN O 0 d_Dia_twistEdge_21 (by decide) ?_
    refine zi_selfV O c_Dia_158 k_Dia_cutEdge (m_Dia_cutEdge (by omega) hE hA e 0 he) d_Dia_twistEdge_22 ⟨(Nat.le_of_ble_eq_true rfl), (Nat.le_of_ble_eq_true rfl)⟩ ⟨(Nat.le_of_ble_eq_true rfl), (Nat.le_of_ble_eq_true rfl)⟩ rfl rfl (Nat.le_of_ble_eq_true rfl) rfl rfl rfl (Nat.le_of_ble_eq_true rfl) rfl (fun r h' hq hl => ?_)
    obtain ⟨rfl, rfl⟩ := hq
    rw [e1, e2]
    refine zi_st (st' := [.ref 18, .ref 0]) rfl ?_
    refine zi_iload_n O d_Dia_twistEdge_25 rfl ?_
    refine zi_iload_n O d_Dia_twistEdge_26 rfl ?_
    refine zi_selfV O c_Dia_151 k_Dia_addKink (m_Dia_addKink (ci := ci) ab (rowOK_up hR (to_ e) v (by omega)) hG hz hn sg hs (el e) u v b3 (by omega) (by omega)) d_Dia_twistEdge_27 ⟨(Nat.le_of_ble_eq_true rfl), (Nat.le_of_ble_eq_true rfl)⟩ ⟨(Nat.le_of_ble_eq_true rfl), (Nat.le_of_ble_eq_true rfl)⟩ rfl rfl (Nat.le_of_ble_eq_true rfl) rfl rfl rfl (Nat.le_of_ble_eq_true rfl) rfl (fun r h' hq hl => ?_)
    obtain ⟨rfl, h1, rfl, hC⟩ := hq
    obtain ⟨L, m, PL, LB, FR, TO, AT, F, OF, RD, ST, pc, co, OC, CE, SL, rfl⟩ := dr_form (chq_dr hC)
    refine zi_drop 18 (zi_st (st' := []) rfl (zi_h (h' := diaH ci (n + 1) L (upd S n sg) m PL LB FR TO AT F OF RD ST pc co OC CE SL) rfl ?_))
    refine zi_iconstN O 1 d_Dia_twistEdge_30 (by decide) ?_
    refine zi_zret O d_Dia_twistEdge_31 rfl (Nat.le_of_ble_eq_true rfl) (Nat.le_of_ble_eq_true rfl) (Nat.le_of_ble_eq_true rfl) ?_
    exact ⟨rfl, hC⟩
  · exact absurd (nI_pos' (by omega)) c12
theorem m_Dia_canMeet (hD : Dia n lab S ci el fr to_ at_ oc h) (a b : Nat) (ha : a < 4 * n) (hb : b < 4 * n) : zPu y_Dia_canMeet b_Dia_canMeet 5 (some .boolean) ⟨2, 0, 0, 60⟩ [.ref 0, .int (nI a), .int (nI b)] h (.int (zb (oc (ca fr to_ a) ≠ oc (ca fr to_ b) ∨ (FF (nxD fr to_ at_) (4 * n) (4 * n)).1 a = (FF (nxD fr to_ at_) (4 * n) (4 * n)).1 b))) := by
  have hD' := hD
  obtain ⟨L, PL, LB, FR, TO, AT, RD, ST, OC, SL, rfl, hR, hG, hz, hE, hA, hRd, hO, hP⟩ := hD
  have hn := hR.1
  have c0 : ca fr to_ a < n := by have := ar_lt hE ha; unfold ca; omega
  have c1 : ca fr to_ b < n := by have := ar_lt hE hb; unfold ca; omega
  have p0 := (hP.1 _ c0).1
  have p1 := (hP.1 _ c1).1
  refine zMet_of (plainFor_of_name (by decide +kernel)) rfl (Nat.le_of_ble_eq_true rfl) (fun z1 z2 z3 z4 z5 z6 z7 z8 z9 z10 z11 z12 z13 z14 O hin => ?_)
  refine zi_ls (ls' := [some (.ref 0), some (.int (nI a)), some (.int (nI b)), none, none]) rfl ?_
  refine zi_aload_n O d_Dia_canMeet_0 rfl ?_
  refine zi_get O f_Dia_35 d_Dia_canMeet_1 rfl rfl ?_
  refine zi_get O f_Dia_183 d_Dia_canMeet_4 rfl rfl ?_
  refine zi_aload_n O d_Dia_canMeet_7 rfl ?_
  refine zi_iload_n O d_Dia_canMeet_8 rfl ?_
  refine zi_selfP O c_Dia_78 k_Dia_crossingAhead (m_Dia_crossingAhead hD' a ha) d_Dia_canMeet_9 ⟨(Nat.le_of_ble_eq_true rfl), (Nat.le_of_ble_eq_true rfl)⟩ ⟨(Nat.le_of_ble_eq_true rfl), (Nat.le_of_ble_eq_true rfl)⟩ rfl rfl (Nat.le_of_ble_eq_true rfl) rfl rfl rfl (Nat.le_of_ble_eq_true rfl) rfl ?_
  refine zi_iald O d_Dia_canMeet_12 rfl rfl (by omega) (by decide) ?_
  rw [hO _ c0]
  refine zi_istore_n (ls' := _ :: _ :: _ :: some _ :: _) O d_Dia_canMeet_13 rfl (by decide) rfl ?_
  refine zi_aload_n O d_Dia_canMeet_14 rfl ?_
  refine zi_get O f_Dia_35 d_Dia_canMeet_15 rfl rfl ?_
  refine zi_get O f_Dia_183 d_Dia_canMeet_18 rfl rfl ?_
  refine zi_aload_n O d_Dia_canMeet_21 rfl ?_
  refine zi_iload_n O d_Dia_canMeet_22 rfl ?_
  refine zi_selfP O c_Dia_78 k_Dia_crossingAhead (m_Dia_crossingAhead hD' b hb) d_Dia_canMeet_23 ⟨(Nat.le_of_ble_eq_true rfl), (Nat.le_of_ble_eq_true rfl)⟩ ⟨(Nat.le_of_ble_eq_true rfl), (Nat.le_of_ble_eq_true rfl)⟩ rfl rfl (Nat.le_of_ble_eq_true rfl) rfl rfl rfl (Nat.le_of_ble_eq_true rfl) rfl ?_
  refine zi_iald O d_Dia_canMeet_26 rfl rfl (by omega) (by decide) ?_
  rw [hO _ c1]
  refine zi_istore (ls' := _ :: _ :: _ :: _ :: some _ :: _) O d_Dia_canMeet_27 rfl (by decide) rfl ?_
  refine zi_iload_n O d_Dia_canMeet_29 rfl ?_
  refine zi_iload O d_Dia_canMeet_30 rfl ?_
  refine zi_icmp_neN O 56 d_Dia_canMeet_32 (by decide) (by omega) (by omega) (fun c32 => ?_) (fun c32 => ?_)
  · refine zi_iconstN O 1 d_Dia_canMeet_56 (by decide) ?_
    refine zi_goto O 61 d_Dia_canMeet_57 (by decide) ?_
    refine zi_zret O d_Dia_canMeet_61 rfl (Nat.le_of_ble_eq_true rfl) (Nat.le_of_ble_eq_true rfl) (Nat.le_of_ble_eq_true rfl) ?_
    exact ⟨by rw [zb_t (Or.inl c32)]; rfl, rfl⟩
  · refine zi_aload_n O d_Dia_canMeet_35 rfl ?_
    refine zi_get O f_Dia_28 d_Dia_canMeet_36 rfl rfl ?_
    refine zi_get O f_Dia_186 d_Dia_canMeet_39 rfl rfl ?_
    refine zi_iload_n O d_Dia_canMeet_42 rfl ?_
    refine zi_iald O d_Dia_canMeet_43 rfl rfl (by omega) (by decide) ?_
    refine zi_aload_n O d_Dia_canMeet_44 rfl ?_
    refine zi_get O f_Dia_28 d_Dia_canMeet_45 rfl rfl ?_
    refine zi_get O f_Dia_186 d_Dia_canMeet_48 rfl rfl ?_
    refine zi_iload_n O d_Dia_canMeet_51 rfl ?_
    refine zi_iald O d_Dia_canMeet_52 rfl rfl (by omega) (by decide) ?_
    refine zi_icmp_ne O 60 d_Dia_canMeet_53 (by decide) (fun c53 => ?_) (fun c53 => ?_)
    · refine zi_iconstN O 0 d_Dia_canMeet_60 (by decide) ?_
      refine zi_zret O d_Dia_canMeet_61 rfl (Nat.le_of_ble_eq_true rfl) (Nat.le_of_ble_eq_true rfl) (Nat.le_of_ble_eq_true rfl) ?_
      exact ⟨by rw [zb_f (fun z => z.elim (fun q => q c32) c53)]; rfl, rfl⟩
    · refine zi_iconstN O 1 d_Dia_canMeet_56 (by decide) ?_
      refine zi_goto O 61 d_Dia_canMeet_57 (by decide) ?_
      refine zi_zret O d_Dia_canMeet_61 rfl (Nat.le_of_ble_eq_true rfl) (Nat.le_of_ble_eq_true rfl) (Nat.le_of_ble_eq_true rfl) ?_
      exact ⟨by rw [zb_t (Or.inr c53)]; rfl, rfl⟩
end
end
