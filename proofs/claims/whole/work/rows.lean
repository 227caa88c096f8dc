section
-- ===== PART A: goes FIRST, ahead of the names: the tables' words, and 'selects' of the private methods out of them =====
/-- a private method of a class that the tables say can be made, by its rows of tables_1 -/
def lw_okq (q : MethodName × Nat) : Prop := (q.1.cls ≠ "java/lang/invoke/MethodHandle" ∧ q.1.cls ≠ "java/lang/invoke/VarHandle") ∧ Cond.instantiable q.1.cls q.2 ∈ tables_1 ∧ Cond.privateMethod q.1 ∈ tables_1 ∧ Cond.instanceMethod q.1 ∈ tables_1
theorem lw_p0 : lw_okq (⟨"DiagramMoves$Edges", "sortPlaces", "(LDiagramMoves$Row;)V"⟩, 6) := ⟨⟨by decide +kernel, by decide +kernel⟩, List.mem_of_getElem? (i := 52) (by decide +kernel), List.mem_of_getElem? (i := 192) (by decide +kernel), List.mem_of_getElem? (i := 193) (by decide +kernel)⟩
theorem lw_p1 : lw_okq (⟨"DiagramMoves$Edges", "everyLabelStandsTwice", "(LDiagramMoves$Row;)Z"⟩, 6) := ⟨⟨by decide +kernel, by decide +kernel⟩, List.mem_of_getElem? (i := 52) (by decide +kernel), List.mem_of_getElem? (i := 196) (by decide +kernel), List.mem_of_getElem? (i := 197) (by decide +kernel)⟩
theorem lw_p2 : lw_okq (⟨"DiagramMoves$Edges", "pairPlaces", "(LDiagramMoves$Row;)Z"⟩, 6) := ⟨⟨by decide +kernel, by decide +kernel⟩, List.mem_of_getElem? (i := 52) (by decide +kernel), List.mem_of_getElem? (i := 200) (by decide +kernel), List.mem_of_getElem? (i := 201) (by decide +kernel)⟩
theorem lw_p3 : lw_okq (⟨"DiagramMoves$Faces", "addRound", "(LDiagramMoves$Edges;I)V"⟩, 4) := ⟨⟨by decide +kernel, by decide +kernel⟩, List.mem_of_getElem? (i := 85) (by decide +kernel), List.mem_of_getElem? (i := 219) (by decide +kernel), List.mem_of_getElem? (i := 220) (by decide +kernel)⟩
theorem lw_p4 : lw_okq (⟨"DiagramMoves$Pieces", "findPieces", "(ILDiagramMoves$Edges;)V"⟩, 4) := ⟨⟨by decide +kernel, by decide +kernel⟩, List.mem_of_getElem? (i := 107) (by decide +kernel), List.mem_of_getElem? (i := 239) (by decide +kernel), List.mem_of_getElem? (i := 240) (by decide +kernel)⟩
theorem lw_p5 : lw_okq (⟨"DiagramMoves$Pieces", "unite", "(III)V"⟩, 4) := ⟨⟨by decide +kernel, by decide +kernel⟩, List.mem_of_getElem? (i := 107) (by decide +kernel), List.mem_of_getElem? (i := 243) (by decide +kernel), List.mem_of_getElem? (i := 244) (by decide +kernel)⟩
theorem lw_p6 : lw_okq (⟨"DiagramMoves$Pieces", "countComponents", "(LDiagramMoves$Edges;)V"⟩, 4) := ⟨⟨by decide +kernel, by decide +kernel⟩, List.mem_of_getElem? (i := 107) (by decide +kernel), List.mem_of_getElem? (i := 253) (by decide +kernel), List.mem_of_getElem? (i := 254) (by decide +kernel)⟩
theorem lw_p7 : lw_okq (⟨"DiagramMoves$Pieces", "followComponent", "(LDiagramMoves$Edges;I)V"⟩, 4) := ⟨⟨by decide +kernel, by decide +kernel⟩, List.mem_of_getElem? (i := 107) (by decide +kernel), List.mem_of_getElem? (i := 258) (by decide +kernel), List.mem_of_getElem? (i := 259) (by decide +kernel)⟩
theorem lw_p8 : lw_okq (⟨"DiagramMoves$Diagram", "isFinger", "(II)Z"⟩, 6) := ⟨⟨by decide +kernel, by decide +kernel⟩, List.mem_of_getElem? (i := 22) (by decide +kernel), List.mem_of_getElem? (i := 308) (by decide +kernel), List.mem_of_getElem? (i := 309) (by decide +kernel)⟩
theorem lw_p9 : lw_okq (⟨"DiagramMoves$Diagram", "crossingAhead", "(I)I"⟩, 6) := ⟨⟨by decide +kernel, by decide +kernel⟩, List.mem_of_getElem? (i := 22) (by decide +kernel), List.mem_of_getElem? (i := 316) (by decide +kernel), List.mem_of_getElem? (i := 317) (by decide +kernel)⟩
theorem lw_p10 : lw_okq (⟨"DiagramMoves$Diagram", "isTriangle", "(I)Z"⟩, 6) := ⟨⟨by decide +kernel, by decide +kernel⟩, List.mem_of_getElem? (i := 22) (by decide +kernel), List.mem_of_getElem? (i := 321) (by decide +kernel), List.mem_of_getElem? (i := 322) (by decide +kernel)⟩
theorem lw_p11 : lw_okq (⟨"DiagramMoves$Diagram", "lift", "(I)V"⟩, 6) := ⟨⟨by decide +kernel, by decide +kernel⟩, List.mem_of_getElem? (i := 22) (by decide +kernel), List.mem_of_getElem? (i := 340) (by decide +kernel), List.mem_of_getElem? (i := 341) (by decide +kernel)⟩
theorem lw_p12 : lw_okq (⟨"DiagramMoves$Diagram", "joinEdges", "(II)V"⟩, 6) := ⟨⟨by decide +kernel, by decide +kernel⟩, List.mem_of_getElem? (i := 22) (by decide +kernel), List.mem_of_getElem? (i := 345) (by decide +kernel), List.mem_of_getElem? (i := 346) (by decide +kernel)⟩
theorem lw_p13 : lw_okq (⟨"DiagramMoves$Diagram", "slideEdge", "(I)V"⟩, 6) := ⟨⟨by decide +kernel, by decide +kernel⟩, List.mem_of_getElem? (i := 22) (by decide +kernel), List.mem_of_getElem? (i := 374) (by decide +kernel), List.mem_of_getElem? (i := 375) (by decide +kernel)⟩
theorem lw_p14 : lw_okq (⟨"DiagramMoves$Diagram", "addKink", "(LDiagramMoves$Cut;IZ)V"⟩, 6) := ⟨⟨by decide +kernel, by decide +kernel⟩, List.mem_of_getElem? (i := 22) (by decide +kernel), List.mem_of_getElem? (i := 404) (by decide +kernel), List.mem_of_getElem? (i := 405) (by decide +kernel)⟩
theorem lw_p15 : lw_okq (⟨"DiagramMoves$Diagram", "addCrossing", "(ILDiagramMoves$Cut;ZLDiagramMoves$Cut;Z)V"⟩, 6) := ⟨⟨by decide +kernel, by decide +kernel⟩, List.mem_of_getElem? (i := 22) (by decide +kernel), List.mem_of_getElem? (i := 408) (by decide +kernel), List.mem_of_getElem? (i := 409) (by decide +kernel)⟩
def lw_privs_1 : List (MethodName × Nat) := [(⟨"DiagramMoves$Edges", "sortPlaces", "(LDiagramMoves$Row;)V"⟩, 6), (⟨"DiagramMoves$Edges", "everyLabelStandsTwice", "(LDiagramMoves$Row;)Z"⟩, 6), (⟨"DiagramMoves$Edges", "pairPlaces", "(LDiagramMoves$Row;)Z"⟩, 6), (⟨"DiagramMoves$Faces", "addRound", "(LDiagramMoves$Edges;I)V"⟩, 4), (⟨"DiagramMoves$Pieces", "findPieces", "(ILDiagramMoves$Edges;)V"⟩, 4), (⟨"DiagramMoves$Pieces", "unite", "(III)V"⟩, 4), (⟨"DiagramMoves$Pieces", "countComponents", "(LDiagramMoves$Edges;)V"⟩, 4), (⟨"DiagramMoves$Pieces", "followComponent", "(LDiagramMoves$Edges;I)V"⟩, 4), (⟨"DiagramMoves$Diagram", "isFinger", "(II)Z"⟩, 6), (⟨"DiagramMoves$Diagram", "crossingAhead", "(I)I"⟩, 6), (⟨"DiagramMoves$Diagram", "isTriangle", "(I)Z"⟩, 6), (⟨"DiagramMoves$Diagram", "lift", "(I)V"⟩, 6), (⟨"DiagramMoves$Diagram", "joinEdges", "(II)V"⟩, 6), (⟨"DiagramMoves$Diagram", "slideEdge", "(I)V"⟩, 6), (⟨"DiagramMoves$Diagram", "addKink", "(LDiagramMoves$Cut;IZ)V"⟩, 6), (⟨"DiagramMoves$Diagram", "addCrossing", "(ILDiagramMoves$Cut;ZLDiagramMoves$Cut;Z)V"⟩, 6)]
theorem lw_r1 : ∀ q ∈ lw_privs_1, lw_okq q := List.forall_mem_cons.mpr ⟨lw_p0, List.forall_mem_cons.mpr ⟨lw_p1, List.forall_mem_cons.mpr ⟨lw_p2, List.forall_mem_cons.mpr ⟨lw_p3, List.forall_mem_cons.mpr ⟨lw_p4, List.forall_mem_cons.mpr ⟨lw_p5, List.forall_mem_cons.mpr ⟨lw_p6, List.forall_mem_cons.mpr ⟨lw_p7, List.forall_mem_cons.mpr ⟨lw_p8, List.forall_mem_cons.mpr ⟨lw_p9, List.forall_mem_cons.mpr ⟨lw_p10, List.forall_mem_cons.mpr ⟨lw_p11, List.forall_mem_cons.mpr ⟨lw_p12, List.forall_mem_cons.mpr ⟨lw_p13, List.forall_mem_cons.mpr ⟨lw_p14, List.forall_mem_cons.mpr ⟨lw_p15, fun _ h => absurd h List.not_mem_nil⟩⟩⟩⟩⟩⟩⟩⟩⟩⟩⟩⟩⟩⟩⟩⟩
theorem lw_p16 : lw_okq (⟨"DiagramMoves$Diagram", "cutEdge", "(II)LDiagramMoves$Cut;"⟩, 6) := ⟨⟨by decide +kernel, by decide +kernel⟩, List.mem_of_getElem? (i := 22) (by decide +kernel), List.mem_of_getElem? (i := 429) (by decide +kernel), List.mem_of_getElem? (i := 430) (by decide +kernel)⟩
theorem lw_p17 : lw_okq (⟨"DiagramMoves$Diagram", "canMeet", "(II)Z"⟩, 6) := ⟨⟨by decide +kernel, by decide +kernel⟩, List.mem_of_getElem? (i := 22) (by decide +kernel), List.mem_of_getElem? (i := 442) (by decide +kernel), List.mem_of_getElem? (i := 443) (by decide +kernel)⟩
theorem lw_p18 : lw_okq (⟨"DiagramMovesModel", "take", "()V"⟩, 25) := ⟨⟨by decide +kernel, by decide +kernel⟩, List.mem_of_getElem? (i := 454) (by decide +kernel), List.mem_of_getElem? (i := 543) (by decide +kernel), List.mem_of_getElem? (i := 544) (by decide +kernel)⟩
theorem lw_p19 : lw_okq (⟨"DiagramMovesModel", "fault", "()I"⟩, 25) := ⟨⟨by decide +kernel, by decide +kernel⟩, List.mem_of_getElem? (i := 454) (by decide +kernel), List.mem_of_getElem? (i := 547) (by decide +kernel), List.mem_of_getElem? (i := 548) (by decide +kernel)⟩
theorem lw_p20 : lw_okq (⟨"DiagramMovesModel", "badLabel", "(Z)I"⟩, 25) := ⟨⟨by decide +kernel, by decide +kernel⟩, List.mem_of_getElem? (i := 454) (by decide +kernel), List.mem_of_getElem? (i := 551) (by decide +kernel), List.mem_of_getElem? (i := 552) (by decide +kernel)⟩
theorem lw_p21 : lw_okq (⟨"DiagramMovesModel", "sort", "()V"⟩, 25) := ⟨⟨by decide +kernel, by decide +kernel⟩, List.mem_of_getElem? (i := 454) (by decide +kernel), List.mem_of_getElem? (i := 555) (by decide +kernel), List.mem_of_getElem? (i := 556) (by decide +kernel)⟩
theorem lw_p22 : lw_okq (⟨"DiagramMovesModel", "placeOf", "(IZ)I"⟩, 25) := ⟨⟨by decide +kernel, by decide +kernel⟩, List.mem_of_getElem? (i := 454) (by decide +kernel), List.mem_of_getElem? (i := 559) (by decide +kernel), List.mem_of_getElem? (i := 560) (by decide +kernel)⟩
theorem lw_p23 : lw_okq (⟨"DiagramMovesModel", "isOut", "(I)Z"⟩, 25) := ⟨⟨by decide +kernel, by decide +kernel⟩, List.mem_of_getElem? (i := 454) (by decide +kernel), List.mem_of_getElem? (i := 563) (by decide +kernel), List.mem_of_getElem? (i := 564) (by decide +kernel)⟩
theorem lw_p24 : lw_okq (⟨"DiagramMovesModel", "badPiece", "()I"⟩, 25) := ⟨⟨by decide +kernel, by decide +kernel⟩, List.mem_of_getElem? (i := 454) (by decide +kernel), List.mem_of_getElem? (i := 567) (by decide +kernel), List.mem_of_getElem? (i := 568) (by decide +kernel)⟩
theorem lw_p25 : lw_okq (⟨"DiagramMovesModel", "hang", "()V"⟩, 25) := ⟨⟨by decide +kernel, by decide +kernel⟩, List.mem_of_getElem? (i := 454) (by decide +kernel), List.mem_of_getElem? (i := 571) (by decide +kernel), List.mem_of_getElem? (i := 572) (by decide +kernel)⟩
theorem lw_p26 : lw_okq (⟨"DiagramMovesModel", "findFaces", "()V"⟩, 25) := ⟨⟨by decide +kernel, by decide +kernel⟩, List.mem_of_getElem? (i := 454) (by decide +kernel), List.mem_of_getElem? (i := 575) (by decide +kernel), List.mem_of_getElem? (i := 576) (by decide +kernel)⟩
theorem lw_p27 : lw_okq (⟨"DiagramMovesModel", "rowOf", "(I)I"⟩, 25) := ⟨⟨by decide +kernel, by decide +kernel⟩, List.mem_of_getElem? (i := 454) (by decide +kernel), List.mem_of_getElem? (i := 579) (by decide +kernel), List.mem_of_getElem? (i := 580) (by decide +kernel)⟩
theorem lw_p28 : lw_okq (⟨"DiagramMovesModel", "turn", "(I)I"⟩, 25) := ⟨⟨by decide +kernel, by decide +kernel⟩, List.mem_of_getElem? (i := 454) (by decide +kernel), List.mem_of_getElem? (i := 583) (by decide +kernel), List.mem_of_getElem? (i := 584) (by decide +kernel)⟩
theorem lw_p29 : lw_okq (⟨"DiagramMovesModel", "facesAt", "(I)I"⟩, 25) := ⟨⟨by decide +kernel, by decide +kernel⟩, List.mem_of_getElem? (i := 454) (by decide +kernel), List.mem_of_getElem? (i := 587) (by decide +kernel), List.mem_of_getElem? (i := 588) (by decide +kernel)⟩
theorem lw_p30 : lw_okq (⟨"DiagramMovesModel", "back", "()V"⟩, 25) := ⟨⟨by decide +kernel, by decide +kernel⟩, List.mem_of_getElem? (i := 454) (by decide +kernel), List.mem_of_getElem? (i := 591) (by decide +kernel), List.mem_of_getElem? (i := 592) (by decide +kernel)⟩
theorem lw_p31 : lw_okq (⟨"DiagramMovesModel", "signs", "()I"⟩, 25) := ⟨⟨by decide +kernel, by decide +kernel⟩, List.mem_of_getElem? (i := 454) (by decide +kernel), List.mem_of_getElem? (i := 599) (by decide +kernel), List.mem_of_getElem? (i := 600) (by decide +kernel)⟩
def lw_privs_2 : List (MethodName × Nat) := [(⟨"DiagramMoves$Diagram", "cutEdge", "(II)LDiagramMoves$Cut;"⟩, 6), (⟨"DiagramMoves$Diagram", "canMeet", "(II)Z"⟩, 6), (⟨"DiagramMovesModel", "take", "()V"⟩, 25), (⟨"DiagramMovesModel", "fault", "()I"⟩, 25), (⟨"DiagramMovesModel", "badLabel", "(Z)I"⟩, 25), (⟨"DiagramMovesModel", "sort", "()V"⟩, 25), (⟨"DiagramMovesModel", "placeOf", "(IZ)I"⟩, 25), (⟨"DiagramMovesModel", "isOut", "(I)Z"⟩, 25), (⟨"DiagramMovesModel", "badPiece", "()I"⟩, 25), (⟨"DiagramMovesModel", "hang", "()V"⟩, 25), (⟨"DiagramMovesModel", "findFaces", "()V"⟩, 25), (⟨"DiagramMovesModel", "rowOf", "(I)I"⟩, 25), (⟨"DiagramMovesModel", "turn", "(I)I"⟩, 25), (⟨"DiagramMovesModel", "facesAt", "(I)I"⟩, 25), (⟨"DiagramMovesModel", "back", "()V"⟩, 25), (⟨"DiagramMovesModel", "signs", "()I"⟩, 25)]
theorem lw_r2 : ∀ q ∈ lw_privs_2, lw_okq q := List.forall_mem_cons.mpr ⟨lw_p16, List.forall_mem_cons.mpr ⟨lw_p17, List.forall_mem_cons.mpr ⟨lw_p18, List.forall_mem_cons.mpr ⟨lw_p19, List.forall_mem_cons.mpr ⟨lw_p20, List.forall_mem_cons.mpr ⟨lw_p21, List.forall_mem_cons.mpr ⟨lw_p22, List.forall_mem_cons.mpr ⟨lw_p23, List.forall_mem_cons.mpr ⟨lw_p24, List.forall_mem_cons.mpr ⟨lw_p25, List.forall_mem_cons.mpr ⟨lw_p26, List.forall_mem_cons.mpr ⟨lw_p27, List.forall_mem_cons.mpr ⟨lw_p28, List.forall_mem_cons.mpr ⟨lw_p29, List.forall_mem_cons.mpr ⟨lw_p30, List.forall_mem_cons.mpr ⟨lw_p31, fun _ h => absurd h List.not_mem_nil⟩⟩⟩⟩⟩⟩⟩⟩⟩⟩⟩⟩⟩⟩⟩⟩
theorem lw_p32 : lw_okq (⟨"DiagramMovesModel", "allFaces", "()I"⟩, 25) := ⟨⟨by decide +kernel, by decide +kernel⟩, List.mem_of_getElem? (i := 454) (by decide +kernel), List.mem_of_getElem? (i := 603) (by decide +kernel), List.mem_of_getElem? (i := 604) (by decide +kernel)⟩
theorem lw_p33 : lw_okq (⟨"DiagramMovesModel", "allComponents", "()I"⟩, 25) := ⟨⟨by decide +kernel, by decide +kernel⟩, List.mem_of_getElem? (i := 454) (by decide +kernel), List.mem_of_getElem? (i := 607) (by decide +kernel), List.mem_of_getElem? (i := 608) (by decide +kernel)⟩
theorem lw_p34 : lw_okq (⟨"DiagramMovesModel", "components", "()V"⟩, 25) := ⟨⟨by decide +kernel, by decide +kernel⟩, List.mem_of_getElem? (i := 454) (by decide +kernel), List.mem_of_getElem? (i := 611) (by decide +kernel), List.mem_of_getElem? (i := 612) (by decide +kernel)⟩
theorem lw_p35 : lw_okq (⟨"DiagramMovesModel", "next", "(I)I"⟩, 25) := ⟨⟨by decide +kernel, by decide +kernel⟩, List.mem_of_getElem? (i := 454) (by decide +kernel), List.mem_of_getElem? (i := 615) (by decide +kernel), List.mem_of_getElem? (i := 616) (by decide +kernel)⟩
theorem lw_p36 : lw_okq (⟨"DiagramMovesModel", "pieces", "()I"⟩, 25) := ⟨⟨by decide +kernel, by decide +kernel⟩, List.mem_of_getElem? (i := 454) (by decide +kernel), List.mem_of_getElem? (i := 622) (by decide +kernel), List.mem_of_getElem? (i := 623) (by decide +kernel)⟩
theorem lw_p37 : lw_okq (⟨"DiagramMovesModel", "leastFree", "()I"⟩, 25) := ⟨⟨by decide +kernel, by decide +kernel⟩, List.mem_of_getElem? (i := 454) (by decide +kernel), List.mem_of_getElem? (i := 626) (by decide +kernel), List.mem_of_getElem? (i := 627) (by decide +kernel)⟩
theorem lw_p38 : lw_okq (⟨"DiagramMovesModel", "findFree", "()V"⟩, 25) := ⟨⟨by decide +kernel, by decide +kernel⟩, List.mem_of_getElem? (i := 454) (by decide +kernel), List.mem_of_getElem? (i := 630) (by decide +kernel), List.mem_of_getElem? (i := 631) (by decide +kernel)⟩
theorem lw_p39 : lw_okq (⟨"DiagramMovesModel", "findSides", "(I)Z"⟩, 25) := ⟨⟨by decide +kernel, by decide +kernel⟩, List.mem_of_getElem? (i := 454) (by decide +kernel), List.mem_of_getElem? (i := 642) (by decide +kernel), List.mem_of_getElem? (i := 643) (by decide +kernel)⟩
theorem lw_p40 : lw_okq (⟨"DiagramMovesModel", "corner", "(I)I"⟩, 25) := ⟨⟨by decide +kernel, by decide +kernel⟩, List.mem_of_getElem? (i := 454) (by decide +kernel), List.mem_of_getElem? (i := 650) (by decide +kernel), List.mem_of_getElem? (i := 651) (by decide +kernel)⟩
theorem lw_p41 : lw_okq (⟨"DiagramMovesModel", "uppers", "(I)I"⟩, 25) := ⟨⟨by decide +kernel, by decide +kernel⟩, List.mem_of_getElem? (i := 454) (by decide +kernel), List.mem_of_getElem? (i := 654) (by decide +kernel), List.mem_of_getElem? (i := 655) (by decide +kernel)⟩
theorem lw_p42 : lw_okq (⟨"DiagramMovesModel", "lift", "(I)V"⟩, 25) := ⟨⟨by decide +kernel, by decide +kernel⟩, List.mem_of_getElem? (i := 454) (by decide +kernel), List.mem_of_getElem? (i := 666) (by decide +kernel), List.mem_of_getElem? (i := 667) (by decide +kernel)⟩
theorem lw_p43 : lw_okq (⟨"DiagramMovesModel", "join", "(II)V"⟩, 25) := ⟨⟨by decide +kernel, by decide +kernel⟩, List.mem_of_getElem? (i := 454) (by decide +kernel), List.mem_of_getElem? (i := 670) (by decide +kernel), List.mem_of_getElem? (i := 671) (by decide +kernel)⟩
theorem lw_p44 : lw_okq (⟨"DiagramMovesModel", "rename", "(II)V"⟩, 25) := ⟨⟨by decide +kernel, by decide +kernel⟩, List.mem_of_getElem? (i := 454) (by decide +kernel), List.mem_of_getElem? (i := 674) (by decide +kernel), List.mem_of_getElem? (i := 675) (by decide +kernel)⟩
theorem lw_p45 : lw_okq (⟨"DiagramMovesModel", "add", "(IIIII)V"⟩, 25) := ⟨⟨by decide +kernel, by decide +kernel⟩, List.mem_of_getElem? (i := 454) (by decide +kernel), List.mem_of_getElem? (i := 691) (by decide +kernel), List.mem_of_getElem? (i := 692) (by decide +kernel)⟩
theorem lw_p46 : lw_okq (⟨"DiagramMovesModel", "areOne", "(IIII)Z"⟩, 25) := ⟨⟨by decide +kernel, by decide +kernel⟩, List.mem_of_getElem? (i := 454) (by decide +kernel), List.mem_of_getElem? (i := 699) (by decide +kernel), List.mem_of_getElem? (i := 700) (by decide +kernel)⟩
theorem lw_p47 : lw_okq (⟨"DiagramMovesModel", "cross", "(II)V"⟩, 25) := ⟨⟨by decide +kernel, by decide +kernel⟩, List.mem_of_getElem? (i := 454) (by decide +kernel), List.mem_of_getElem? (i := 703) (by decide +kernel), List.mem_of_getElem? (i := 704) (by decide +kernel)⟩
def lw_privs_3 : List (MethodName × Nat) := [(⟨"DiagramMovesModel", "allFaces", "()I"⟩, 25), (⟨"DiagramMovesModel", "allComponents", "()I"⟩, 25), (⟨"DiagramMovesModel", "components", "()V"⟩, 25), (⟨"DiagramMovesModel", "next", "(I)I"⟩, 25), (⟨"DiagramMovesModel", "pieces", "()I"⟩, 25), (⟨"DiagramMovesModel", "leastFree", "()I"⟩, 25), (⟨"DiagramMovesModel", "findFree", "()V"⟩, 25), (⟨"DiagramMovesModel", "findSides", "(I)Z"⟩, 25), (⟨"DiagramMovesModel", "corner", "(I)I"⟩, 25), (⟨"DiagramMovesModel", "uppers", "(I)I"⟩, 25), (⟨"DiagramMovesModel", "lift", "(I)V"⟩, 25), (⟨"DiagramMovesModel", "join", "(II)V"⟩, 25), (⟨"DiagramMovesModel", "rename", "(II)V"⟩, 25), (⟨"DiagramMovesModel", "add", "(IIIII)V"⟩, 25), (⟨"DiagramMovesModel", "areOne", "(IIII)Z"⟩, 25), (⟨"DiagramMovesModel", "cross", "(II)V"⟩, 25)]
theorem lw_r3 : ∀ q ∈ lw_privs_3, lw_okq q := List.forall_mem_cons.mpr ⟨lw_p32, List.forall_mem_cons.mpr ⟨lw_p33, List.forall_mem_cons.mpr ⟨lw_p34, List.forall_mem_cons.mpr ⟨lw_p35, List.forall_mem_cons.mpr ⟨lw_p36, List.forall_mem_cons.mpr ⟨lw_p37, List.forall_mem_cons.mpr ⟨lw_p38, List.forall_mem_cons.mpr ⟨lw_p39, List.forall_mem_cons.mpr ⟨lw_p40, List.forall_mem_cons.mpr ⟨lw_p41, List.forall_mem_cons.mpr ⟨lw_p42, List.forall_mem_cons.mpr ⟨lw_p43, List.forall_mem_cons.mpr ⟨lw_p44, List.forall_mem_cons.mpr ⟨lw_p45, List.forall_mem_cons.mpr ⟨lw_p46, List.forall_mem_cons.mpr ⟨lw_p47, fun _ h => absurd h List.not_mem_nil⟩⟩⟩⟩⟩⟩⟩⟩⟩⟩⟩⟩⟩⟩⟩⟩
def lw_privs : List (MethodName × Nat) := lw_privs_1 ++ (lw_privs_2 ++ (lw_privs_3))
def lw_tbl : List Cond := k2_sels lw_privs ++ tables_1
theorem lw_privs_ok : ∀ q ∈ lw_privs, lw_okq q := by
  show ∀ q ∈ lw_privs_1 ++ (lw_privs_2 ++ (lw_privs_3)), lw_okq q
  exact List.forall_mem_append.mpr ⟨lw_r1, List.forall_mem_append.mpr ⟨lw_r2, lw_r3⟩⟩
end
section
def zt : List Cond := lw_tbl.filter goodWord
theorem zt_of {w : Cond} (h : w ∈ tables_1) (g : goodWord w = true) : w ∈ zt := List.mem_filter.mpr ⟨List.mem_append_right _ h, g⟩
theorem zt_ps {w : Cond} (h : w ∈ k2_sels lw_privs) (g : goodWord w = true) : w ∈ zt := List.mem_filter.mpr ⟨List.mem_append_left _ h, g⟩
theorem zt_in {w : Cond} (h : w ∈ zt) : w ∈ lw_tbl := (List.mem_filter.mp h).1
theorem zt_good {w : Cond} (h : w ∈ zt) : goodWord w = true := (List.mem_filter.mp h).2
def R_Mov : String := "DiagramMoves"
def R_Dia : String := "DiagramMoves$Diagram"
def R_Row : String := "DiagramMoves$Row"
def R_Edg : String := "DiagramMoves$Edges"
def R_Fac : String := "DiagramMoves$Faces"
def R_Pie : String := "DiagramMoves$Pieces"
def R_Cut : String := "DiagramMoves$Cut"
def R_Mod : String := "DiagramMovesModel"
def R_Law : String := "DiagramMovesLaw"
def R_Math : String := "java/lang/Math"
def R_Arr : String := "java/util/Arrays"
def R_Int : String := "java/lang/Integer"
def F_Mov : u_T := fun k => match k with
  | 0 => ("DiagramMoves", "diagram", "LDiagramMoves$Diagram;", false)
  | _ => ("DiagramMoves", "draft", "LDiagramMoves$Diagram;", false)
def t_Mov : Nat → FieldType := fun k => match k with
  | 0 => (.object "DiagramMoves$Diagram")
  | _ => (.object "DiagramMoves$Diagram")
theorem n_Mov : ∀ a, a < 2 → ∀ b, b < 2 → a ≠ b → (F_Mov a).2.1 ≠ (F_Mov b).2.1 := by decide +kernel
theorem t_Mov_ok : ∀ k, k < 2 → parseFieldDescriptor (F_Mov k).2.2.1 = some (t_Mov k) := by decide +kernel
theorem i_Mov : ∀ w ∈ u_ws R_Mov F_Mov 2, w ∈ zt := by decide +kernel
def F_Dia : u_T := fun k => match k with
  | 0 => ("DiagramMoves$Diagram", "row", "LDiagramMoves$Row;", true)
  | 1 => ("DiagramMoves$Diagram", "edges", "LDiagramMoves$Edges;", true)
  | 2 => ("DiagramMoves$Diagram", "faces", "LDiagramMoves$Faces;", true)
  | 3 => ("DiagramMoves$Diagram", "pieces", "LDiagramMoves$Pieces;", true)
  | 4 => ("DiagramMoves$Diagram", "slidLabels", "[I", true)
  | _ => ("DiagramMoves$Diagram", "circles", "I", false)
def t_Dia : Nat → FieldType := fun k => match k with
  | 0 => (.object "DiagramMoves$Row")
  | 1 => (.object "DiagramMoves$Edges")
  | 2 => (.object "DiagramMoves$Faces")
  | 3 => (.object "DiagramMoves$Pieces")
  | 4 => (.array .int)
  | _ => .int
theorem n_Dia : ∀ a, a < 6 → ∀ b, b < 6 → a ≠ b → (F_Dia a).2.1 ≠ (F_Dia b).2.1 := by decide +kernel
theorem t_Dia_ok : ∀ k, k < 6 → parseFieldDescriptor (F_Dia k).2.2.1 = some (t_Dia k) := by decide +kernel
theorem i_Dia : ∀ w ∈ u_ws R_Dia F_Dia 6, w ∈ zt := by decide +kernel
def F_Row : u_T := fun k => match k with
  | 0 => ("DiagramMoves$Row", "labels", "[I", true)
  | 1 => ("DiagramMoves$Row", "signs", "[I", true)
  | _ => ("DiagramMoves$Row", "count", "I", false)
def t_Row : Nat → FieldType := fun k => match k with
  | 0 => (.array .int)
  | 1 => (.array .int)
  | _ => .int
theorem n_Row : ∀ a, a < 3 → ∀ b, b < 3 → a ≠ b → (F_Row a).2.1 ≠ (F_Row b).2.1 := by decide +kernel
theorem t_Row_ok : ∀ k, k < 3 → parseFieldDescriptor (F_Row k).2.2.1 = some (t_Row k) := by decide +kernel
theorem i_Row : ∀ w ∈ u_ws R_Row F_Row 3, w ∈ zt := by decide +kernel
def F_Edg : u_T := fun k => match k with
  | 0 => ("DiagramMoves$Edges", "placesByLabel", "[I", true)
  | 1 => ("DiagramMoves$Edges", "labels", "[I", true)
  | 2 => ("DiagramMoves$Edges", "from", "[I", true)
  | 3 => ("DiagramMoves$Edges", "to", "[I", true)
  | 4 => ("DiagramMoves$Edges", "atPlace", "[I", true)
  | _ => ("DiagramMoves$Edges", "count", "I", false)
def t_Edg : Nat → FieldType := fun k => match k with
  | 0 => (.array .int)
  | 1 => (.array .int)
  | 2 => (.array .int)
  | 3 => (.array .int)
  | 4 => (.array .int)
  | _ => .int
theorem n_Edg : ∀ a, a < 6 → ∀ b, b < 6 → a ≠ b → (F_Edg a).2.1 ≠ (F_Edg b).2.1 := by decide +kernel
theorem t_Edg_ok : ∀ k, k < 6 → parseFieldDescriptor (F_Edg k).2.2.1 = some (t_Edg k) := by decide +kernel
theorem i_Edg : ∀ w ∈ u_ws R_Edg F_Edg 6, w ∈ zt := by decide +kernel
def F_Fac : u_T := fun k => match k with
  | 0 => ("DiagramMoves$Faces", "ofDart", "[I", true)
  | 1 => ("DiagramMoves$Faces", "rounds", "[I", true)
  | 2 => ("DiagramMoves$Faces", "start", "[I", true)
  | _ => ("DiagramMoves$Faces", "count", "I", false)
def t_Fac : Nat → FieldType := fun k => match k with
  | 0 => (.array .int)
  | 1 => (.array .int)
  | 2 => (.array .int)
  | _ => .int
theorem n_Fac : ∀ a, a < 4 → ∀ b, b < 4 → a ≠ b → (F_Fac a).2.1 ≠ (F_Fac b).2.1 := by decide +kernel
theorem t_Fac_ok : ∀ k, k < 4 → parseFieldDescriptor (F_Fac k).2.2.1 = some (t_Fac k) := by decide +kernel
theorem i_Fac : ∀ w ∈ u_ws R_Fac F_Fac 4, w ∈ zt := by decide +kernel
def F_Pie : u_T := fun k => match k with
  | 0 => ("DiagramMoves$Pieces", "ofCrossing", "[I", true)
  | 1 => ("DiagramMoves$Pieces", "componentOfEdge", "[I", true)
  | 2 => ("DiagramMoves$Pieces", "count", "I", false)
  | _ => ("DiagramMoves$Pieces", "components", "I", false)
def t_Pie : Nat → FieldType := fun k => match k with
  | 0 => (.array .int)
  | 1 => (.array .int)
  | 2 => .int
  | _ => .int
theorem n_Pie : ∀ a, a < 4 → ∀ b, b < 4 → a ≠ b → (F_Pie a).2.1 ≠ (F_Pie b).2.1 := by decide +kernel
theorem t_Pie_ok : ∀ k, k < 4 → parseFieldDescriptor (F_Pie k).2.2.1 = some (t_Pie k) := by decide +kernel
theorem i_Pie : ∀ w ∈ u_ws R_Pie F_Pie 4, w ∈ zt := by decide +kernel
def F_Cut : u_T := fun k => match k with
  | 0 => ("DiagramMoves$Cut", "first", "I", true)
  | 1 => ("DiagramMoves$Cut", "middle", "I", true)
  | _ => ("DiagramMoves$Cut", "last", "I", true)
def t_Cut : Nat → FieldType := fun k => match k with
  | 0 => .int
  | 1 => .int
  | _ => .int
theorem n_Cut : ∀ a, a < 3 → ∀ b, b < 3 → a ≠ b → (F_Cut a).2.1 ≠ (F_Cut b).2.1 := by decide +kernel
theorem t_Cut_ok : ∀ k, k < 3 → parseFieldDescriptor (F_Cut k).2.2.1 = some (t_Cut k) := by decide +kernel
theorem i_Cut : ∀ w ∈ u_ws R_Cut F_Cut 3, w ∈ zt := by decide +kernel
def F_Mod : u_T := fun k => match k with
  | 0 => ("DiagramMovesModel", "thrown", "I", false)
  | 1 => ("DiagramMovesModel", "put", "I", false)
  | 2 => ("DiagramMovesModel", "wrong", "I", false)
  | 3 => ("DiagramMovesModel", "putSign", "[I", true)
  | 4 => ("DiagramMovesModel", "putLabel", "[I", true)
  | 5 => ("DiagramMovesModel", "n", "I", false)
  | 6 => ("DiagramMovesModel", "circles", "I", false)
  | 7 => ("DiagramMovesModel", "oldN", "I", false)
  | 8 => ("DiagramMovesModel", "oldCircles", "I", false)
  | 9 => ("DiagramMovesModel", "sign", "[I", true)
  | 10 => ("DiagramMovesModel", "label", "[I", true)
  | 11 => ("DiagramMovesModel", "oldSign", "[I", true)
  | 12 => ("DiagramMovesModel", "oldLabel", "[I", true)
  | 13 => ("DiagramMovesModel", "labels", "I", false)
  | 14 => ("DiagramMovesModel", "row", "[I", true)
  | 15 => ("DiagramMovesModel", "fresh", "[I", true)
  | 16 => ("DiagramMovesModel", "piece", "[I", true)
  | 17 => ("DiagramMovesModel", "closed", "I", false)
  | 18 => ("DiagramMovesModel", "faces", "I", false)
  | 19 => ("DiagramMovesModel", "component", "[I", true)
  | 20 => ("DiagramMovesModel", "faceOf", "[I", true)
  | 21 => ("DiagramMovesModel", "sides", "I", false)
  | 22 => ("DiagramMovesModel", "side", "[I", true)
  | 23 => ("DiagramMovesModel", "free", "[I", true)
  | _ => ("DiagramMovesModel", "around", "[I", true)
def t_Mod : Nat → FieldType := fun k => match k with
  | 0 => .int
  | 1 => .int
  | 2 => .int
  | 3 => (.array .int)
  | 4 => (.array .int)
  | 5 => .int
  | 6 => .int
  | 7 => .int
  | 8 => .int
  | 9 => (.array .int)
  | 10 => (.array .int)
  | 11 => (.array .int)
  | 12 => (.array .int)
  | 13 => .int
  | 14 => (.array .int)
  | 15 => (.array .int)
  | 16 => (.array .int)
  | 17 => .int
  | 18 => .int
  | 19 => (.array .int)
  | 20 => (.array .int)
  | 21 => .int
  | 22 => (.array .int)
  | 23 => (.array .int)
  | _ => (.array .int)
theorem n_Mod : ∀ a, a < 25 → ∀ b, b < 25 → a ≠ b → (F_Mod a).2.1 ≠ (F_Mod b).2.1 := by decide +kernel
theorem t_Mod_ok : ∀ k, k < 25 → parseFieldDescriptor (F_Mod k).2.2.1 = some (t_Mod k) := by decide +kernel
theorem i_Mod : ∀ w ∈ u_ws R_Mod F_Mod 25, w ∈ zt := by decide +kernel
abbrev vwCl : List vw_C := [(R_Mov, F_Mov, 2), (R_Dia, F_Dia, 6), (R_Row, F_Row, 3), (R_Edg, F_Edg, 6), (R_Fac, F_Fac, 4), (R_Pie, F_Pie, 4), (R_Cut, F_Cut, 3), (R_Mod, F_Mod, 25)]
def zNs : List (String × Nat × MethodName × String) := [("DiagramMoves", 11, ⟨"DiagramMoves$Diagram", "<init>", "()V"⟩, "DiagramMoves"), ("DiagramMoves$Diagram", 11, ⟨"DiagramMoves$Row", "<init>", "()V"⟩, "DiagramMoves"), ("DiagramMoves$Diagram", 20, ⟨"DiagramMoves$Edges", "<init>", "()V"⟩, "DiagramMoves"), ("DiagramMoves$Diagram", 27, ⟨"DiagramMoves$Faces", "<init>", "()V"⟩, "DiagramMoves"), ("DiagramMoves$Diagram", 34, ⟨"DiagramMoves$Pieces", "<init>", "()V"⟩, "DiagramMoves")]
theorem zNs_in : ∀ q ∈ zNs, Cond.methodLinkNest q.1 q.2.1 q.2.2.1 q.2.2.2 ∈ lw_tbl := by decide +kernel
def zNst (U : State) : Prop := ∀ q ∈ zNs, va_Nw (.methodLinkNest q.1 q.2.1 q.2.2.1 q.2.2.2) U
theorem zNst.warm {s U : State} (hW : s.WarmedH U.vm) (h : zNst s) : zNst U := fun q hq => va_Nw.warmM hW (h q hq)
abbrev b_Mov_init : ByteArray := prog_1_method_1_code
def y_Mov_init : MethodName := ⟨R_Mov, "<init>", "()V"⟩
theorem k_Mov_init : Cond.code y_Mov_init b_Mov_init 1 none ∈ zt := zt_of (List.mem_append_left _ (List.mem_of_getElem? (i := 17) rfl)) rfl
abbrev b_Mov_crossing : ByteArray := prog_1_method_2_code
def y_Mov_crossing : MethodName := ⟨R_Mov, "crossing", "(IIIII)I"⟩
theorem k_Mov_crossing : Cond.code y_Mov_crossing b_Mov_crossing 7 (some .int) ∈ zt := zt_of (List.mem_append_left _ (List.mem_of_getElem? (i := 163) rfl)) rfl
abbrev b_Mov_check : ByteArray := prog_1_method_3_code
def y_Mov_check : MethodName := ⟨R_Mov, "check", "(I)I"⟩
theorem k_Mov_check : Cond.code y_Mov_check b_Mov_check 4 (some .int) ∈ zt := zt_of (List.mem_append_left _ (List.mem_of_getElem? (i := 182) rfl)) rfl
abbrev b_Mov_many : ByteArray := prog_1_method_4_code
def y_Mov_many : MethodName := ⟨R_Mov, "many", "(I)I"⟩
theorem k_Mov_many : Cond.code y_Mov_many b_Mov_many 2 (some .int) ∈ zt := zt_of (List.mem_append_right _ (List.mem_append_left _ (List.mem_of_getElem? (i := 24) rfl))) rfl
abbrev b_Mov_look : ByteArray := prog_1_method_5_code
def y_Mov_look : MethodName := ⟨R_Mov, "look", "(II)I"⟩
theorem k_Mov_look : Cond.code y_Mov_look b_Mov_look 3 (some .int) ∈ zt := zt_of (List.mem_append_right _ (List.mem_append_left _ (List.mem_of_getElem? (i := 36) rfl))) rfl
abbrev b_Mov_face : ByteArray := prog_1_method_6_code
def y_Mov_face : MethodName := ⟨R_Mov, "face", "(II)I"⟩
theorem k_Mov_face : Cond.code y_Mov_face b_Mov_face 4 (some .int) ∈ zt := zt_of (List.mem_append_right _ (List.mem_append_left _ (List.mem_of_getElem? (i := 40) rfl))) rfl
abbrev b_Mov_pattern : ByteArray := prog_1_method_7_code
def y_Mov_pattern : MethodName := ⟨R_Mov, "pattern", "(I)I"⟩
theorem k_Mov_pattern : Cond.code y_Mov_pattern b_Mov_pattern 2 (some .int) ∈ zt := zt_of (List.mem_append_right _ (List.mem_append_left _ (List.mem_of_getElem? (i := 60) rfl))) rfl
abbrev b_Mov_undo : ByteArray := prog_1_method_8_code
def y_Mov_undo : MethodName := ⟨R_Mov, "undo", "(I)I"⟩
theorem k_Mov_undo : Cond.code y_Mov_undo b_Mov_undo 2 (some .int) ∈ zt := zt_of (List.mem_append_right _ (List.mem_append_left _ (List.mem_of_getElem? (i := 93) rfl))) rfl
abbrev b_Mov_slide : ByteArray := prog_1_method_9_code
def y_Mov_slide : MethodName := ⟨R_Mov, "slide", "(I)Z"⟩
theorem k_Mov_slide : Cond.code y_Mov_slide b_Mov_slide 2 (some .boolean) ∈ zt := zt_of (List.mem_append_right _ (List.mem_append_left _ (List.mem_of_getElem? (i := 127) rfl))) rfl
abbrev b_Mov_twist : ByteArray := prog_1_method_10_code
def y_Mov_twist : MethodName := ⟨R_Mov, "twist", "(IIZ)Z"⟩
theorem k_Mov_twist : Cond.code y_Mov_twist b_Mov_twist 4 (some .boolean) ∈ zt := zt_of (List.mem_append_right _ (List.mem_append_left _ (List.mem_of_getElem? (i := 140) rfl))) rfl
abbrev b_Mov_push : ByteArray := prog_1_method_11_code
def y_Mov_push : MethodName := ⟨R_Mov, "push", "(IZIZZ)Z"⟩
theorem k_Mov_push : Cond.code y_Mov_push b_Mov_push 8 (some .boolean) ∈ zt := zt_of (List.mem_append_right _ (List.mem_append_left _ (List.mem_of_getElem? (i := 195) rfl))) rfl
abbrev b_Mov_simplify : ByteArray := prog_1_method_12_code
def y_Mov_simplify : MethodName := ⟨R_Mov, "simplify", "()I"⟩
theorem k_Mov_simplify : Cond.code y_Mov_simplify b_Mov_simplify 4 (some .int) ∈ zt := zt_of (List.mem_append_right _ (List.mem_append_left _ (List.mem_of_getElem? (i := 208) rfl))) rfl
abbrev b_Mov_isSign : ByteArray := prog_1_method_13_code
def y_Mov_isSign : MethodName := ⟨R_Mov, "isSign", "(I)Z"⟩
theorem k_Mov_isSign : Cond.code y_Mov_isSign b_Mov_isSign 1 (some .boolean) ∈ zt := zt_of (List.mem_append_left _ (List.mem_of_getElem? (i := 169) rfl)) rfl
abbrev b_Mov_isLabel : ByteArray := prog_1_method_14_code
def y_Mov_isLabel : MethodName := ⟨R_Mov, "isLabel", "(I)Z"⟩
theorem k_Mov_isLabel : Cond.code y_Mov_isLabel b_Mov_isLabel 1 (some .boolean) ∈ zt := zt_of (List.mem_append_left _ (List.mem_of_getElem? (i := 166) rfl)) rfl
abbrev b_Mod_init : ByteArray := prog_9_method_1_code
def y_Mod_init : MethodName := ⟨R_Mod, "<init>", "()V"⟩
theorem k_Mod_init : Cond.code y_Mod_init b_Mod_init 1 none ∈ zt := zt_of (List.mem_append_right _ (List.mem_append_left _ (List.mem_of_getElem? (i := 217) rfl))) rfl
abbrev b_Mod_isOut : ByteArray := prog_9_method_3_code
def y_Mod_isOut : MethodName := ⟨R_Mod, "isOut", "(I)Z"⟩
theorem k_Mod_isOut : Cond.code y_Mod_isOut b_Mod_isOut 3 (some .boolean) ∈ zt := zt_of (List.mem_append_right _ (List.mem_append_right _ (List.mem_of_getElem? (i := 85) rfl))) rfl
abbrev b_Mod_isUpper : ByteArray := prog_9_method_4_code
def y_Mod_isUpper : MethodName := ⟨R_Mod, "isUpper", "(I)Z"⟩
theorem k_Mod_isUpper : Cond.code y_Mod_isUpper b_Mod_isUpper 1 (some .boolean) ∈ zt := zt_of (List.mem_append_right _ (List.mem_append_right _ (List.mem_of_getElem? (i := 179) rfl))) rfl
abbrev b_Mod_placeOf : ByteArray := prog_9_method_5_code
def y_Mod_placeOf : MethodName := ⟨R_Mod, "placeOf", "(IZ)I"⟩
theorem k_Mod_placeOf : Cond.code y_Mod_placeOf b_Mod_placeOf 5 (some .int) ∈ zt := zt_of (List.mem_append_right _ (List.mem_append_right _ (List.mem_of_getElem? (i := 81) rfl))) rfl
abbrev b_Mod_across : ByteArray := prog_9_method_6_code
def y_Mod_across : MethodName := ⟨R_Mod, "across", "(I)I"⟩
theorem k_Mod_across : Cond.code y_Mod_across b_Mod_across 1 (some .int) ∈ zt := zt_of (List.mem_append_right _ (List.mem_append_right _ (List.mem_of_getElem? (i := 140) rfl))) rfl
abbrev b_Mod_next : ByteArray := prog_9_method_7_code
def y_Mod_next : MethodName := ⟨R_Mod, "next", "(I)I"⟩
theorem k_Mod_next : Cond.code y_Mod_next b_Mod_next 2 (some .int) ∈ zt := zt_of (List.mem_append_right _ (List.mem_append_right _ (List.mem_of_getElem? (i := 137) rfl))) rfl
abbrev b_Mod_sort : ByteArray := prog_9_method_8_code
def y_Mod_sort : MethodName := ⟨R_Mod, "sort", "()V"⟩
theorem k_Mod_sort : Cond.code y_Mod_sort b_Mod_sort 4 none ∈ zt := zt_of (List.mem_append_right _ (List.mem_append_right _ (List.mem_of_getElem? (i := 77) rfl))) rfl
abbrev b_Mod_components : ByteArray := prog_9_method_9_code
def y_Mod_components : MethodName := ⟨R_Mod, "components", "()V"⟩
theorem k_Mod_components : Cond.code y_Mod_components b_Mod_components 4 none ∈ zt := zt_of (List.mem_append_right _ (List.mem_append_right _ (List.mem_of_getElem? (i := 133) rfl))) rfl
abbrev b_Mod_hang : ByteArray := prog_9_method_10_code
def y_Mod_hang : MethodName := ⟨R_Mod, "hang", "()V"⟩
theorem k_Mod_hang : Cond.code y_Mod_hang b_Mod_hang 4 none ∈ zt := zt_of (List.mem_append_right _ (List.mem_append_right _ (List.mem_of_getElem? (i := 93) rfl))) rfl
abbrev b_Mod_pieces : ByteArray := prog_9_method_11_code
def y_Mod_pieces : MethodName := ⟨R_Mod, "pieces", "()I"⟩
theorem k_Mod_pieces : Cond.code y_Mod_pieces b_Mod_pieces 3 (some .int) ∈ zt := zt_of (List.mem_append_right _ (List.mem_append_right _ (List.mem_of_getElem? (i := 144) rfl))) rfl
abbrev b_Mod_turn : ByteArray := prog_9_method_12_code
def y_Mod_turn : MethodName := ⟨R_Mod, "turn", "(I)I"⟩
theorem k_Mod_turn : Cond.code y_Mod_turn b_Mod_turn 4 (some .int) ∈ zt := zt_of (List.mem_append_right _ (List.mem_append_right _ (List.mem_of_getElem? (i := 105) rfl))) rfl
abbrev b_Mod_rowOf : ByteArray := prog_9_method_13_code
def y_Mod_rowOf : MethodName := ⟨R_Mod, "rowOf", "(I)I"⟩
theorem k_Mod_rowOf : Cond.code y_Mod_rowOf b_Mod_rowOf 3 (some .int) ∈ zt := zt_of (List.mem_append_right _ (List.mem_append_right _ (List.mem_of_getElem? (i := 101) rfl))) rfl
abbrev b_Mod_findFaces : ByteArray := prog_9_method_14_code
def y_Mod_findFaces : MethodName := ⟨R_Mod, "findFaces", "()V"⟩
theorem k_Mod_findFaces : Cond.code y_Mod_findFaces b_Mod_findFaces 4 none ∈ zt := zt_of (List.mem_append_right _ (List.mem_append_right _ (List.mem_of_getElem? (i := 97) rfl))) rfl
abbrev b_Mod_facesAt : ByteArray := prog_9_method_15_code
def y_Mod_facesAt : MethodName := ⟨R_Mod, "facesAt", "(I)I"⟩
theorem k_Mod_facesAt : Cond.code y_Mod_facesAt b_Mod_facesAt 6 (some .int) ∈ zt := zt_of (List.mem_append_right _ (List.mem_append_right _ (List.mem_of_getElem? (i := 109) rfl))) rfl
abbrev b_Mod_crossing : ByteArray := prog_9_method_16_code
def y_Mod_crossing : MethodName := ⟨R_Mod, "crossing", "(IIIII)I"⟩
theorem k_Mod_crossing : Cond.code y_Mod_crossing b_Mod_crossing 7 (some .int) ∈ zt := zt_of (List.mem_append_right _ (List.mem_append_right _ (List.mem_of_getElem? (i := 57) rfl))) rfl
abbrev b_Mod_take : ByteArray := prog_9_method_17_code
def y_Mod_take : MethodName := ⟨R_Mod, "take", "()V"⟩
theorem k_Mod_take : Cond.code y_Mod_take b_Mod_take 2 none ∈ zt := zt_of (List.mem_append_right _ (List.mem_append_right _ (List.mem_of_getElem? (i := 65) rfl))) rfl
abbrev b_Mod_back : ByteArray := prog_9_method_18_code
def y_Mod_back : MethodName := ⟨R_Mod, "back", "()V"⟩
theorem k_Mod_back : Cond.code y_Mod_back b_Mod_back 2 none ∈ zt := zt_of (List.mem_append_right _ (List.mem_append_right _ (List.mem_of_getElem? (i := 113) rfl))) rfl
abbrev b_Mod_badLabel : ByteArray := prog_9_method_19_code
def y_Mod_badLabel : MethodName := ⟨R_Mod, "badLabel", "(Z)I"⟩
theorem k_Mod_badLabel : Cond.code y_Mod_badLabel b_Mod_badLabel 5 (some .int) ∈ zt := zt_of (List.mem_append_right _ (List.mem_append_right _ (List.mem_of_getElem? (i := 73) rfl))) rfl
abbrev b_Mod_badPiece : ByteArray := prog_9_method_20_code
def y_Mod_badPiece : MethodName := ⟨R_Mod, "badPiece", "()I"⟩
theorem k_Mod_badPiece : Cond.code y_Mod_badPiece b_Mod_badPiece 5 (some .int) ∈ zt := zt_of (List.mem_append_right _ (List.mem_append_right _ (List.mem_of_getElem? (i := 89) rfl))) rfl
abbrev b_Mod_fault : ByteArray := prog_9_method_21_code
def y_Mod_fault : MethodName := ⟨R_Mod, "fault", "()I"⟩
theorem k_Mod_fault : Cond.code y_Mod_fault b_Mod_fault 1 (some .int) ∈ zt := zt_of (List.mem_append_right _ (List.mem_append_right _ (List.mem_of_getElem? (i := 69) rfl))) rfl
abbrev b_Mod_check : ByteArray := prog_9_method_22_code
def y_Mod_check : MethodName := ⟨R_Mod, "check", "(I)I"⟩
theorem k_Mod_check : Cond.code y_Mod_check b_Mod_check 3 (some .int) ∈ zt := zt_of (List.mem_append_right _ (List.mem_append_right _ (List.mem_of_getElem? (i := 61) rfl))) rfl
abbrev b_Mod_signs : ByteArray := prog_9_method_23_code
def y_Mod_signs : MethodName := ⟨R_Mod, "signs", "()I"⟩
theorem k_Mod_signs : Cond.code y_Mod_signs b_Mod_signs 3 (some .int) ∈ zt := zt_of (List.mem_append_right _ (List.mem_append_right _ (List.mem_of_getElem? (i := 121) rfl))) rfl
abbrev b_Mod_allFaces : ByteArray := prog_9_method_24_code
def y_Mod_allFaces : MethodName := ⟨R_Mod, "allFaces", "()I"⟩
theorem k_Mod_allFaces : Cond.code y_Mod_allFaces b_Mod_allFaces 1 (some .int) ∈ zt := zt_of (List.mem_append_right _ (List.mem_append_right _ (List.mem_of_getElem? (i := 125) rfl))) rfl
abbrev b_Mod_allComponents : ByteArray := prog_9_method_25_code
def y_Mod_allComponents : MethodName := ⟨R_Mod, "allComponents", "()I"⟩
theorem k_Mod_allComponents : Cond.code y_Mod_allComponents b_Mod_allComponents 1 (some .int) ∈ zt := zt_of (List.mem_append_right _ (List.mem_append_right _ (List.mem_of_getElem? (i := 129) rfl))) rfl
abbrev b_Mod_findFree : ByteArray := prog_9_method_26_code
def y_Mod_findFree : MethodName := ⟨R_Mod, "findFree", "()V"⟩
theorem k_Mod_findFree : Cond.code y_Mod_findFree b_Mod_findFree 5 none ∈ zt := zt_of (List.mem_append_right _ (List.mem_append_right _ (List.mem_of_getElem? (i := 152) rfl))) rfl
abbrev b_Mod_leastFree : ByteArray := prog_9_method_27_code
def y_Mod_leastFree : MethodName := ⟨R_Mod, "leastFree", "()I"⟩
theorem k_Mod_leastFree : Cond.code y_Mod_leastFree b_Mod_leastFree 1 (some .int) ∈ zt := zt_of (List.mem_append_right _ (List.mem_append_right _ (List.mem_of_getElem? (i := 148) rfl))) rfl
abbrev b_Mod_many : ByteArray := prog_9_method_28_code
def y_Mod_many : MethodName := ⟨R_Mod, "many", "(I)I"⟩
theorem k_Mod_many : Cond.code y_Mod_many b_Mod_many 2 (some .int) ∈ zt := zt_of (List.mem_append_right _ (List.mem_append_right _ (List.mem_of_getElem? (i := 117) rfl))) rfl
abbrev b_Mod_look : ByteArray := prog_9_method_29_code
def y_Mod_look : MethodName := ⟨R_Mod, "look", "(II)I"⟩
theorem k_Mod_look : Cond.code y_Mod_look b_Mod_look 3 (some .int) ∈ zt := zt_of (List.mem_append_right _ (List.mem_append_right _ (List.mem_of_getElem? (i := 156) rfl))) rfl
abbrev b_Mod_findSides : ByteArray := prog_9_method_30_code
def y_Mod_findSides : MethodName := ⟨R_Mod, "findSides", "(I)Z"⟩
theorem k_Mod_findSides : Cond.code y_Mod_findSides b_Mod_findSides 5 (some .boolean) ∈ zt := zt_of (List.mem_append_right _ (List.mem_append_right _ (List.mem_of_getElem? (i := 164) rfl))) rfl
abbrev b_Mod_face : ByteArray := prog_9_method_31_code
def y_Mod_face : MethodName := ⟨R_Mod, "face", "(II)I"⟩
theorem k_Mod_face : Cond.code y_Mod_face b_Mod_face 3 (some .int) ∈ zt := zt_of (List.mem_append_right _ (List.mem_append_right _ (List.mem_of_getElem? (i := 160) rfl))) rfl
abbrev b_Mod_uppers : ByteArray := prog_9_method_32_code
def y_Mod_uppers : MethodName := ⟨R_Mod, "uppers", "(I)I"⟩
theorem k_Mod_uppers : Cond.code y_Mod_uppers b_Mod_uppers 2 (some .int) ∈ zt := zt_of (List.mem_append_right _ (List.mem_append_right _ (List.mem_of_getElem? (i := 176) rfl))) rfl
abbrev b_Mod_corner : ByteArray := prog_9_method_33_code
def y_Mod_corner : MethodName := ⟨R_Mod, "corner", "(I)I"⟩
theorem k_Mod_corner : Cond.code y_Mod_corner b_Mod_corner 2 (some .int) ∈ zt := zt_of (List.mem_append_right _ (List.mem_append_right _ (List.mem_of_getElem? (i := 172) rfl))) rfl
abbrev b_Mod_pattern : ByteArray := prog_9_method_34_code
def y_Mod_pattern : MethodName := ⟨R_Mod, "pattern", "(I)I"⟩
theorem k_Mod_pattern : Cond.code y_Mod_pattern b_Mod_pattern 7 (some .int) ∈ zt := zt_of (List.mem_append_right _ (List.mem_append_right _ (List.mem_of_getElem? (i := 168) rfl))) rfl
abbrev b_Mod_rename : ByteArray := prog_9_method_35_code
def y_Mod_rename : MethodName := ⟨R_Mod, "rename", "(II)V"⟩
theorem k_Mod_rename : Cond.code y_Mod_rename b_Mod_rename 4 none ∈ zt := zt_of (List.mem_append_right _ (List.mem_append_right _ (List.mem_of_getElem? (i := 196) rfl))) rfl
abbrev b_Mod_join : ByteArray := prog_9_method_36_code
def y_Mod_join : MethodName := ⟨R_Mod, "join", "(II)V"⟩
theorem k_Mod_join : Cond.code y_Mod_join b_Mod_join 3 none ∈ zt := zt_of (List.mem_append_right _ (List.mem_append_right _ (List.mem_of_getElem? (i := 192) rfl))) rfl
abbrev b_Mod_lift : ByteArray := prog_9_method_37_code
def y_Mod_lift : MethodName := ⟨R_Mod, "lift", "(I)V"⟩
theorem k_Mod_lift : Cond.code y_Mod_lift b_Mod_lift 4 none ∈ zt := zt_of (List.mem_append_right _ (List.mem_append_right _ (List.mem_of_getElem? (i := 188) rfl))) rfl
abbrev b_Mod_undo : ByteArray := prog_9_method_38_code
def y_Mod_undo : MethodName := ⟨R_Mod, "undo", "(I)I"⟩
theorem k_Mod_undo : Cond.code y_Mod_undo b_Mod_undo 5 (some .int) ∈ zt := zt_of (List.mem_append_right _ (List.mem_append_right _ (List.mem_of_getElem? (i := 183) rfl))) rfl
abbrev b_Mod_simplify : ByteArray := prog_9_method_39_code
def y_Mod_simplify : MethodName := ⟨R_Mod, "simplify", "()I"⟩
theorem k_Mod_simplify : Cond.code y_Mod_simplify b_Mod_simplify 4 (some .int) ∈ zt := zt_of (List.mem_append_right _ (List.mem_append_right _ (List.mem_of_getElem? (i := 200) rfl))) rfl
abbrev b_Mod_slide : ByteArray := prog_9_method_40_code
def y_Mod_slide : MethodName := ⟨R_Mod, "slide", "(I)Z"⟩
theorem k_Mod_slide : Cond.code y_Mod_slide b_Mod_slide 8 (some .boolean) ∈ zt := zt_of (List.mem_append_right _ (List.mem_append_right _ (List.mem_of_getElem? (i := 205) rfl))) rfl
abbrev b_Mod_add : ByteArray := prog_9_method_41_code
def y_Mod_add : MethodName := ⟨R_Mod, "add", "(IIIII)V"⟩
theorem k_Mod_add : Cond.code y_Mod_add b_Mod_add 6 none ∈ zt := zt_of (List.mem_append_right _ (List.mem_append_right _ (List.mem_of_getElem? (i := 213) rfl))) rfl
abbrev b_Mod_twist : ByteArray := prog_9_method_42_code
def y_Mod_twist : MethodName := ⟨R_Mod, "twist", "(IIZ)Z"⟩
theorem k_Mod_twist : Cond.code y_Mod_twist b_Mod_twist 8 (some .boolean) ∈ zt := zt_of (List.mem_append_right _ (List.mem_append_right _ (List.mem_of_getElem? (i := 209) rfl))) rfl
abbrev b_Mod_cross : ByteArray := prog_9_method_43_code
def y_Mod_cross : MethodName := ⟨R_Mod, "cross", "(II)V"⟩
theorem k_Mod_cross : Cond.code y_Mod_cross b_Mod_cross 3 none ∈ zt := zt_of (List.mem_append_right _ (List.mem_append_right _ (List.mem_of_getElem? (i := 225) rfl))) rfl
abbrev b_Mod_areOne : ByteArray := prog_9_method_44_code
def y_Mod_areOne : MethodName := ⟨R_Mod, "areOne", "(IIII)Z"⟩
theorem k_Mod_areOne : Cond.code y_Mod_areOne b_Mod_areOne 7 (some .boolean) ∈ zt := zt_of (List.mem_append_right _ (List.mem_append_right _ (List.mem_of_getElem? (i := 221) rfl))) rfl
abbrev b_Mod_push : ByteArray := prog_9_method_45_code
def y_Mod_push : MethodName := ⟨R_Mod, "push", "(IZIZZ)Z"⟩
theorem k_Mod_push : Cond.code y_Mod_push b_Mod_push 11 (some .boolean) ∈ zt := zt_of (List.mem_append_right _ (List.mem_append_right _ (List.mem_of_getElem? (i := 217) rfl))) rfl
abbrev b_Cut_init : ByteArray := prog_2_method_1_code
def y_Cut_init : MethodName := ⟨R_Cut, "<init>", "(III)V"⟩
theorem k_Cut_init : Cond.code y_Cut_init b_Cut_init 4 none ∈ zt := zt_of (List.mem_append_right _ (List.mem_append_left _ (List.mem_of_getElem? (i := 150) rfl))) rfl
abbrev b_Cut_in : ByteArray := prog_2_method_2_code
def y_Cut_in : MethodName := ⟨R_Cut, "in", "(Z)I"⟩
theorem k_Cut_in : Cond.code y_Cut_in b_Cut_in 2 (some .int) ∈ zt := zt_of (List.mem_append_right _ (List.mem_append_left _ (List.mem_of_getElem? (i := 174) rfl))) rfl
abbrev b_Cut_out : ByteArray := prog_2_method_3_code
def y_Cut_out : MethodName := ⟨R_Cut, "out", "(Z)I"⟩
theorem k_Cut_out : Cond.code y_Cut_out b_Cut_out 2 (some .int) ∈ zt := zt_of (List.mem_append_right _ (List.mem_append_left _ (List.mem_of_getElem? (i := 178) rfl))) rfl
abbrev b_Dia_init : ByteArray := prog_3_method_1_code
def y_Dia_init : MethodName := ⟨R_Dia, "<init>", "()V"⟩
theorem k_Dia_init : Cond.code y_Dia_init b_Dia_init 1 none ∈ zt := zt_of (List.mem_append_left _ (List.mem_of_getElem? (i := 25) rfl)) rfl
abbrev b_Dia_chart : ByteArray := prog_3_method_2_code
def y_Dia_chart : MethodName := ⟨R_Dia, "chart", "()I"⟩
theorem k_Dia_chart : Cond.code y_Dia_chart b_Dia_chart 2 (some .int) ∈ zt := zt_of (List.mem_append_left _ (List.mem_of_getElem? (i := 186) rfl)) rfl
abbrev b_Dia_patternAt : ByteArray := prog_3_method_3_code
def y_Dia_patternAt : MethodName := ⟨R_Dia, "patternAt", "(I)I"⟩
theorem k_Dia_patternAt : Cond.code y_Dia_patternAt b_Dia_patternAt 2 (some .int) ∈ zt := zt_of (List.mem_append_right _ (List.mem_append_left _ (List.mem_of_getElem? (i := 64) rfl))) rfl
abbrev b_Dia_isFinger : ByteArray := prog_3_method_4_code
def y_Dia_isFinger : MethodName := ⟨R_Dia, "isFinger", "(II)Z"⟩
theorem k_Dia_isFinger : Cond.code y_Dia_isFinger b_Dia_isFinger 4 (some .boolean) ∈ zt := zt_of (List.mem_append_right _ (List.mem_append_left _ (List.mem_of_getElem? (i := 70) rfl))) rfl
abbrev b_Dia_isTriangle : ByteArray := prog_3_method_5_code
def y_Dia_isTriangle : MethodName := ⟨R_Dia, "isTriangle", "(I)Z"⟩
theorem k_Dia_isTriangle : Cond.code y_Dia_isTriangle b_Dia_isTriangle 6 (some .boolean) ∈ zt := zt_of (List.mem_append_right _ (List.mem_append_left _ (List.mem_of_getElem? (i := 83) rfl))) rfl
abbrev b_Dia_crossingAhead : ByteArray := prog_3_method_6_code
def y_Dia_crossingAhead : MethodName := ⟨R_Dia, "crossingAhead", "(I)I"⟩
theorem k_Dia_crossingAhead : Cond.code y_Dia_crossingAhead b_Dia_crossingAhead 2 (some .int) ∈ zt := zt_of (List.mem_append_right _ (List.mem_append_left _ (List.mem_of_getElem? (i := 78) rfl))) rfl
abbrev b_Dia_leastFaceToUndo : ByteArray := prog_3_method_7_code
def y_Dia_leastFaceToUndo : MethodName := ⟨R_Dia, "leastFaceToUndo", "()I"⟩
theorem k_Dia_leastFaceToUndo : Cond.code y_Dia_leastFaceToUndo b_Dia_leastFaceToUndo 3 (some .int) ∈ zt := zt_of (List.mem_append_right _ (List.mem_append_left _ (List.mem_of_getElem? (i := 212) rfl))) rfl
abbrev b_Dia_undoAt : ByteArray := prog_3_method_8_code
def y_Dia_undoAt : MethodName := ⟨R_Dia, "undoAt", "(I)I"⟩
theorem k_Dia_undoAt : Cond.code y_Dia_undoAt b_Dia_undoAt 5 (some .int) ∈ zt := zt_of (List.mem_append_right _ (List.mem_append_left _ (List.mem_of_getElem? (i := 97) rfl))) rfl
abbrev b_Dia_lift : ByteArray := prog_3_method_9_code
def y_Dia_lift : MethodName := ⟨R_Dia, "lift", "(I)V"⟩
theorem k_Dia_lift : Cond.code y_Dia_lift b_Dia_lift 3 none ∈ zt := zt_of (List.mem_append_right _ (List.mem_append_left _ (List.mem_of_getElem? (i := 102) rfl))) rfl
abbrev b_Dia_joinEdges : ByteArray := prog_3_method_10_code
def y_Dia_joinEdges : MethodName := ⟨R_Dia, "joinEdges", "(II)V"⟩
theorem k_Dia_joinEdges : Cond.code y_Dia_joinEdges b_Dia_joinEdges 3 none ∈ zt := zt_of (List.mem_append_right _ (List.mem_append_left _ (List.mem_of_getElem? (i := 107) rfl))) rfl
abbrev b_Dia_slideAt : ByteArray := prog_3_method_11_code
def y_Dia_slideAt : MethodName := ⟨R_Dia, "slideAt", "(I)Z"⟩
theorem k_Dia_slideAt : Cond.code y_Dia_slideAt b_Dia_slideAt 3 (some .boolean) ∈ zt := zt_of (List.mem_append_right _ (List.mem_append_left _ (List.mem_of_getElem? (i := 131) rfl))) rfl
abbrev b_Dia_slideEdge : ByteArray := prog_3_method_12_code
def y_Dia_slideEdge : MethodName := ⟨R_Dia, "slideEdge", "(I)V"⟩
theorem k_Dia_slideEdge : Cond.code y_Dia_slideEdge b_Dia_slideEdge 6 none ∈ zt := zt_of (List.mem_append_right _ (List.mem_append_left _ (List.mem_of_getElem? (i := 136) rfl))) rfl
abbrev b_Dia_twistCircle : ByteArray := prog_3_method_13_code
def y_Dia_twistCircle : MethodName := ⟨R_Dia, "twistCircle", "(IZ)Z"⟩
theorem k_Dia_twistCircle : Cond.code y_Dia_twistCircle b_Dia_twistCircle 5 (some .boolean) ∈ zt := zt_of (List.mem_append_right _ (List.mem_append_left _ (List.mem_of_getElem? (i := 144) rfl))) rfl
abbrev b_Dia_twistEdge : ByteArray := prog_3_method_14_code
def y_Dia_twistEdge : MethodName := ⟨R_Dia, "twistEdge", "(IIZ)Z"⟩
theorem k_Dia_twistEdge : Cond.code y_Dia_twistEdge b_Dia_twistEdge 5 (some .boolean) ∈ zt := zt_of (List.mem_append_right _ (List.mem_append_left _ (List.mem_of_getElem? (i := 183) rfl))) rfl
abbrev b_Dia_addKink : ByteArray := prog_3_method_15_code
def y_Dia_addKink : MethodName := ⟨R_Dia, "addKink", "(LDiagramMoves$Cut;IZ)V"⟩
theorem k_Dia_addKink : Cond.code y_Dia_addKink b_Dia_addKink 4 none ∈ zt := zt_of (List.mem_append_right _ (List.mem_append_left _ (List.mem_of_getElem? (i := 166) rfl))) rfl
abbrev b_Dia_cutEdge : ByteArray := prog_3_method_16_code
def y_Dia_cutEdge : MethodName := ⟨R_Dia, "cutEdge", "(II)LDiagramMoves$Cut;"⟩
theorem k_Dia_cutEdge : Cond.code y_Dia_cutEdge b_Dia_cutEdge 5 (some (.object "DiagramMoves$Cut")) ∈ zt := zt_of (List.mem_append_right _ (List.mem_append_left _ (List.mem_of_getElem? (i := 191) rfl))) rfl
abbrev b_Dia_addCrossing : ByteArray := prog_3_method_17_code
def y_Dia_addCrossing : MethodName := ⟨R_Dia, "addCrossing", "(ILDiagramMoves$Cut;ZLDiagramMoves$Cut;Z)V"⟩
theorem k_Dia_addCrossing : Cond.code y_Dia_addCrossing b_Dia_addCrossing 10 none ∈ zt := zt_of (List.mem_append_right _ (List.mem_append_left _ (List.mem_of_getElem? (i := 170) rfl))) rfl
abbrev b_Dia_pushDart : ByteArray := prog_3_method_18_code
def y_Dia_pushDart : MethodName := ⟨R_Dia, "pushDart", "(IIZ)Z"⟩
theorem k_Dia_pushDart : Cond.code y_Dia_pushDart b_Dia_pushDart 9 (some .boolean) ∈ zt := zt_of (List.mem_append_right _ (List.mem_append_left _ (List.mem_of_getElem? (i := 200) rfl))) rfl
abbrev b_Dia_canMeet : ByteArray := prog_3_method_19_code
def y_Dia_canMeet : MethodName := ⟨R_Dia, "canMeet", "(II)Z"⟩
theorem k_Dia_canMeet : Cond.code y_Dia_canMeet b_Dia_canMeet 5 (some .boolean) ∈ zt := zt_of (List.mem_append_right _ (List.mem_append_left _ (List.mem_of_getElem? (i := 204) rfl))) rfl
abbrev b_Edg_init : ByteArray := prog_4_method_1_code
def y_Edg_init : MethodName := ⟨R_Edg, "<init>", "()V"⟩
theorem k_Edg_init : Cond.code y_Edg_init b_Edg_init 1 none ∈ zt := zt_of (List.mem_append_left _ (List.mem_of_getElem? (i := 55) rfl)) rfl
abbrev b_Edg_find : ByteArray := prog_4_method_2_code
def y_Edg_find : MethodName := ⟨R_Edg, "find", "(LDiagramMoves$Row;)I"⟩
theorem k_Edg_find : Cond.code y_Edg_find b_Edg_find 2 (some .int) ∈ zt := zt_of (List.mem_append_left _ (List.mem_of_getElem? (i := 190) rfl)) rfl
abbrev b_Edg_sortPlaces : ByteArray := prog_4_method_3_code
def y_Edg_sortPlaces : MethodName := ⟨R_Edg, "sortPlaces", "(LDiagramMoves$Row;)V"⟩
theorem k_Edg_sortPlaces : Cond.code y_Edg_sortPlaces b_Edg_sortPlaces 5 none ∈ zt := zt_of (List.mem_append_left _ (List.mem_of_getElem? (i := 194) rfl)) rfl
abbrev b_Edg_everyLabelStandsTwice : ByteArray := prog_4_method_4_code
def y_Edg_everyLabelStandsTwice : MethodName := ⟨R_Edg, "everyLabelStandsTwice", "(LDiagramMoves$Row;)Z"⟩
theorem k_Edg_everyLabelStandsTwice : Cond.code y_Edg_everyLabelStandsTwice b_Edg_everyLabelStandsTwice 5 (some .boolean) ∈ zt := zt_of (List.mem_append_left _ (List.mem_of_getElem? (i := 198) rfl)) rfl
abbrev b_Edg_pairPlaces : ByteArray := prog_4_method_5_code
def y_Edg_pairPlaces : MethodName := ⟨R_Edg, "pairPlaces", "(LDiagramMoves$Row;)Z"⟩
theorem k_Edg_pairPlaces : Cond.code y_Edg_pairPlaces b_Edg_pairPlaces 6 (some .boolean) ∈ zt := zt_of (List.mem_append_left _ (List.mem_of_getElem? (i := 202) rfl)) rfl
abbrev b_Edg_withLabel : ByteArray := prog_4_method_6_code
def y_Edg_withLabel : MethodName := ⟨R_Edg, "withLabel", "(I)I"⟩
theorem k_Edg_withLabel : Cond.code y_Edg_withLabel b_Edg_withLabel 3 (some .int) ∈ zt := zt_of (List.mem_append_right _ (List.mem_append_left _ (List.mem_of_getElem? (i := 187) rfl))) rfl
abbrev b_Edg_freeAfter : ByteArray := prog_4_method_7_code
def y_Edg_freeAfter : MethodName := ⟨R_Edg, "freeAfter", "(I)I"⟩
theorem k_Edg_freeAfter : Cond.code y_Edg_freeAfter b_Edg_freeAfter 4 (some .int) ∈ zt := zt_of (List.mem_append_right _ (List.mem_append_left _ (List.mem_of_getElem? (i := 32) rfl))) rfl
abbrev b_Edg_signedLabel : ByteArray := prog_4_method_8_code
def y_Edg_signedLabel : MethodName := ⟨R_Edg, "signedLabel", "(I)I"⟩
theorem k_Edg_signedLabel : Cond.code y_Edg_signedLabel b_Edg_signedLabel 3 (some .int) ∈ zt := zt_of (List.mem_append_right _ (List.mem_append_left _ (List.mem_of_getElem? (i := 56) rfl))) rfl
abbrev b_Edg_arrival : ByteArray := prog_4_method_9_code
def y_Edg_arrival : MethodName := ⟨R_Edg, "arrival", "(I)I"⟩
theorem k_Edg_arrival : Cond.code y_Edg_arrival b_Edg_arrival 2 (some .int) ∈ zt := zt_of (List.mem_append_left _ (List.mem_of_getElem? (i := 229) rfl)) rfl
abbrev b_Edg_dartLeaving : ByteArray := prog_4_method_10_code
def y_Edg_dartLeaving : MethodName := ⟨R_Edg, "dartLeaving", "(I)I"⟩
theorem k_Edg_dartLeaving : Cond.code y_Edg_dartLeaving b_Edg_dartLeaving 3 (some .int) ∈ zt := zt_of (List.mem_append_left _ (List.mem_of_getElem? (i := 233) rfl)) rfl
abbrev b_Edg_nextDart : ByteArray := prog_4_method_11_code
def y_Edg_nextDart : MethodName := ⟨R_Edg, "nextDart", "(I)I"⟩
theorem k_Edg_nextDart : Cond.code y_Edg_nextDart b_Edg_nextDart 4 (some .int) ∈ zt := zt_of (List.mem_append_left _ (List.mem_of_getElem? (i := 225) rfl)) rfl
abbrev b_Edg_upperEnds : ByteArray := prog_4_method_12_code
def y_Edg_upperEnds : MethodName := ⟨R_Edg, "upperEnds", "(I)I"⟩
theorem k_Edg_upperEnds : Cond.code y_Edg_upperEnds b_Edg_upperEnds 2 (some .int) ∈ zt := zt_of (List.mem_append_right _ (List.mem_append_left _ (List.mem_of_getElem? (i := 74) rfl))) rfl
abbrev b_Fac_init : ByteArray := prog_5_method_1_code
def y_Fac_init : MethodName := ⟨R_Fac, "<init>", "()V"⟩
theorem k_Fac_init : Cond.code y_Fac_init b_Fac_init 1 none ∈ zt := zt_of (List.mem_append_left _ (List.mem_of_getElem? (i := 88) rfl)) rfl
abbrev b_Fac_find : ByteArray := prog_5_method_2_code
def y_Fac_find : MethodName := ⟨R_Fac, "find", "(LDiagramMoves$Edges;)V"⟩
theorem k_Fac_find : Cond.code y_Fac_find b_Fac_find 3 none ∈ zt := zt_of (List.mem_append_left _ (List.mem_of_getElem? (i := 214) rfl)) rfl
abbrev b_Fac_addRound : ByteArray := prog_5_method_3_code
def y_Fac_addRound : MethodName := ⟨R_Fac, "addRound", "(LDiagramMoves$Edges;I)V"⟩
theorem k_Fac_addRound : Cond.code y_Fac_addRound b_Fac_addRound 5 none ∈ zt := zt_of (List.mem_append_left _ (List.mem_of_getElem? (i := 221) rfl)) rfl
abbrev b_Fac_has : ByteArray := prog_5_method_4_code
def y_Fac_has : MethodName := ⟨R_Fac, "has", "(I)Z"⟩
theorem k_Fac_has : Cond.code y_Fac_has b_Fac_has 2 (some .boolean) ∈ zt := zt_of (List.mem_append_right _ (List.mem_append_left _ (List.mem_of_getElem? (i := 44) rfl))) rfl
abbrev b_Fac_size : ByteArray := prog_5_method_5_code
def y_Fac_size : MethodName := ⟨R_Fac, "size", "(I)I"⟩
theorem k_Fac_size : Cond.code y_Fac_size b_Fac_size 2 (some .int) ∈ zt := zt_of (List.mem_append_right _ (List.mem_append_left _ (List.mem_of_getElem? (i := 48) rfl))) rfl
abbrev b_Fac_dart : ByteArray := prog_5_method_6_code
def y_Fac_dart : MethodName := ⟨R_Fac, "dart", "(II)I"⟩
theorem k_Fac_dart : Cond.code y_Fac_dart b_Fac_dart 3 (some .int) ∈ zt := zt_of (List.mem_append_right _ (List.mem_append_left _ (List.mem_of_getElem? (i := 52) rfl))) rfl
abbrev b_Pie_init : ByteArray := prog_6_method_1_code
def y_Pie_init : MethodName := ⟨R_Pie, "<init>", "()V"⟩
theorem k_Pie_init : Cond.code y_Pie_init b_Pie_init 1 none ∈ zt := zt_of (List.mem_append_left _ (List.mem_of_getElem? (i := 110) rfl)) rfl
abbrev b_Pie_find : ByteArray := prog_6_method_2_code
def y_Pie_find : MethodName := ⟨R_Pie, "find", "(ILDiagramMoves$Edges;)V"⟩
theorem k_Pie_find : Cond.code y_Pie_find b_Pie_find 3 none ∈ zt := zt_of (List.mem_append_left _ (List.mem_of_getElem? (i := 237) rfl)) rfl
abbrev b_Pie_findPieces : ByteArray := prog_6_method_3_code
def y_Pie_findPieces : MethodName := ⟨R_Pie, "findPieces", "(ILDiagramMoves$Edges;)V"⟩
theorem k_Pie_findPieces : Cond.code y_Pie_findPieces b_Pie_findPieces 4 none ∈ zt := zt_of (List.mem_append_right _ (List.mem_append_left _ (List.mem_of_getElem? (i := 1) rfl))) rfl
abbrev b_Pie_unite : ByteArray := prog_6_method_4_code
def y_Pie_unite : MethodName := ⟨R_Pie, "unite", "(III)V"⟩
theorem k_Pie_unite : Cond.code y_Pie_unite b_Pie_unite 7 none ∈ zt := zt_of (List.mem_append_right _ (List.mem_append_left _ (List.mem_of_getElem? (i := 5) rfl))) rfl
abbrev b_Pie_countComponents : ByteArray := prog_6_method_5_code
def y_Pie_countComponents : MethodName := ⟨R_Pie, "countComponents", "(LDiagramMoves$Edges;)V"⟩
theorem k_Pie_countComponents : Cond.code y_Pie_countComponents b_Pie_countComponents 3 none ∈ zt := zt_of (List.mem_append_right _ (List.mem_append_left _ (List.mem_of_getElem? (i := 15) rfl))) rfl
abbrev b_Pie_followComponent : ByteArray := prog_6_method_6_code
def y_Pie_followComponent : MethodName := ⟨R_Pie, "followComponent", "(LDiagramMoves$Edges;I)V"⟩
theorem k_Pie_followComponent : Cond.code y_Pie_followComponent b_Pie_followComponent 5 none ∈ zt := zt_of (List.mem_append_right _ (List.mem_append_left _ (List.mem_of_getElem? (i := 20) rfl))) rfl
abbrev b_Row_init : ByteArray := prog_7_method_1_code
def y_Row_init : MethodName := ⟨R_Row, "<init>", "()V"⟩
theorem k_Row_init : Cond.code y_Row_init b_Row_init 1 none ∈ zt := zt_of (List.mem_append_left _ (List.mem_of_getElem? (i := 31) rfl)) rfl
abbrev b_Row_isFull : ByteArray := prog_7_method_2_code
def y_Row_isFull : MethodName := ⟨R_Row, "isFull", "()Z"⟩
theorem k_Row_isFull : Cond.code y_Row_isFull b_Row_isFull 1 (some .boolean) ∈ zt := zt_of (List.mem_append_left _ (List.mem_of_getElem? (i := 173) rfl)) rfl
abbrev b_Row_add : ByteArray := prog_7_method_3_code
def y_Row_add : MethodName := ⟨R_Row, "add", "(IIIII)V"⟩
theorem k_Row_add : Cond.code y_Row_add b_Row_add 7 none ∈ zt := zt_of (List.mem_append_left _ (List.mem_of_getElem? (i := 177) rfl)) rfl
abbrev b_Row_sumOfSigns : ByteArray := prog_7_method_4_code
def y_Row_sumOfSigns : MethodName := ⟨R_Row, "sumOfSigns", "()I"⟩
theorem k_Row_sumOfSigns : Cond.code y_Row_sumOfSigns b_Row_sumOfSigns 3 (some .int) ∈ zt := zt_of (List.mem_append_right _ (List.mem_append_left _ (List.mem_of_getElem? (i := 28) rfl))) rfl
abbrev b_Row_upperIn : ByteArray := prog_7_method_5_code
def y_Row_upperIn : MethodName := ⟨R_Row, "upperIn", "(I)I"⟩
theorem k_Row_upperIn : Cond.code y_Row_upperIn b_Row_upperIn 2 (some .int) ∈ zt := zt_of (List.mem_append_left _ (List.mem_of_getElem? (i := 210) rfl)) rfl
abbrev b_Row_strandGoesIn : ByteArray := prog_7_method_6_code
def y_Row_strandGoesIn : MethodName := ⟨R_Row, "strandGoesIn", "(I)Z"⟩
theorem k_Row_strandGoesIn : Cond.code y_Row_strandGoesIn b_Row_strandGoesIn 3 (some .boolean) ∈ zt := zt_of (List.mem_append_left _ (List.mem_of_getElem? (i := 206) rfl)) rfl
abbrev b_Row_joinLabels : ByteArray := prog_7_method_7_code
def y_Row_joinLabels : MethodName := ⟨R_Row, "joinLabels", "(II)Z"⟩
theorem k_Row_joinLabels : Cond.code y_Row_joinLabels b_Row_joinLabels 6 (some .boolean) ∈ zt := zt_of (List.mem_append_right _ (List.mem_append_left _ (List.mem_of_getElem? (i := 111) rfl))) rfl
abbrev b_Row_remove : ByteArray := prog_7_method_8_code
def y_Row_remove : MethodName := ⟨R_Row, "remove", "(I)V"⟩
theorem k_Row_remove : Cond.code y_Row_remove b_Row_remove 3 none ∈ zt := zt_of (List.mem_append_right _ (List.mem_append_left _ (List.mem_of_getElem? (i := 117) rfl))) rfl
abbrev b_Math_max : ByteArray := prog_11_method_65_code
def y_Math_max : MethodName := ⟨R_Math, "max", "(II)I"⟩
theorem k_Math_max : Cond.code y_Math_max b_Math_max 2 (some .int) ∈ zt := zt_of (List.mem_append_right _ (List.mem_append_left _ (List.mem_of_getElem? (i := 11) rfl))) rfl
abbrev b_Math_min : ByteArray := prog_11_method_69_code
def y_Math_min : MethodName := ⟨R_Math, "min", "(II)I"⟩
theorem k_Math_min : Cond.code y_Math_min b_Math_min 2 (some .int) ∈ zt := zt_of (List.mem_append_right _ (List.mem_append_left _ (List.mem_of_getElem? (i := 8) rfl))) rfl
abbrev b_Arr_fill : ByteArray := prog_13_method_103_code
def y_Arr_fill : MethodName := ⟨R_Arr, "fill", "([II)V"⟩
theorem k_Arr_fill : Cond.code y_Arr_fill b_Arr_fill 4 none ∈ zt := zt_of (List.mem_append_left _ (List.mem_of_getElem? (i := 217) rfl)) rfl
abbrev b_Int_bitCount : ByteArray := prog_10_method_49_code
def y_Int_bitCount : MethodName := ⟨R_Int, "bitCount", "(I)I"⟩
theorem k_Int_bitCount : Cond.code y_Int_bitCount b_Int_bitCount 1 (some .int) ∈ zt := zt_of (List.mem_append_right _ (List.mem_append_left _ (List.mem_of_getElem? (i := 86) rfl))) rfl
end
section
/-! MY LAYER OVER THE KIT: a method's world is a LIST of cells, a reference in it is a PLACE in that list. -/
abbrev zE : Type := (Nat × vp_A) ⊕ (Nat × List Value)
def zv (f : Nat → Nat) : Value → Value
  | .ref k => .ref (f k)
  | v => v
def zA (f : Nat → Nat) (a : vp_A) : vp_A := (a.1, match a.2 with
  | .inr (.inr (.inr (.inr g))) => .inr (.inr (.inr (.inr (fun j => (g j).map f))))
  | x => x)
def zc (f : Nat → Nat) : zE → zE
  | .inl (t, a) => .inl (t, zA f a)
  | .inr (ci, fs) => .inr (ci, fs.map (zv f))
def zD (dA : Nat → ClassId) : zE → va_E
  | .inl (t, a) => .inl (dA t, a)
  | .inr o => .inr o
def zw (dA : Nat → ClassId) (ad : Nat → Nat) (h : List zE) : va_W := h.mapIdx (fun k e => (ad k, zD dA (zc ad e)))
/-- places in range -/
def zvok (N : Nat) : Value → Bool
  | .ref k => decide (k < N)
  | _ => true
def zok (N : Nat) : zE → Bool
  | .inr (_, fs) => fs.all (zvok N)
  | .inl (_, _, .inr (.inr (.inr (.inr _)))) => false
  | _ => true
def zlok (N : Nat) : Option Value → Bool
  | some v => zvok N v
  | none => true
/-- of one slot -/
def zc1 : Option Value → Bool
  | some (.long _) => false
  | some (.double _) => false
  | _ => true
theorem zv_comp (f g : Nat → Nat) (v : Value) : zv f (zv g v) = zv (fun i => f (g i)) v := by cases v <;> rfl
theorem zv_eq {f g : Nat → Nat} {N : Nat} (h : ∀ i, i < N → f i = g i) {v : Value} (hv : zvok N v = true) : zv f v = zv g v := by
  cases v with
  | ref k => simp only [zvok, decide_eq_true_eq] at hv; simp only [zv, h k hv]
  | _ => rfl
theorem zv_cat (f : Nat → Nat) (v : Value) : (zv f v).category = v.category := by cases v <;> rfl
theorem zA_comp (f g : Nat → Nat) (a : vp_A) : zA f (zA g a) = zA (fun i => f (g i)) a := by
  obtain ⟨n, x⟩ := a
  rcases x with x | x | x | x | x
  · rfl
  · rfl
  · rfl
  · rfl
  · simp only [zA, Option.map_map]; rfl
theorem zc_comp (f g : Nat → Nat) (e : zE) : zc f (zc g e) = zc (fun i => f (g i)) e := by
  rcases e with ⟨t, a⟩ | ⟨ci, fs⟩
  · simp only [zc, zA_comp]
  · simp only [zc, List.map_map]
    congr 2
    apply List.map_congr_left
    intro v _
    exact zv_comp f g v
theorem zc_eq {f g : Nat → Nat} {N : Nat} (h : ∀ i, i < N → f i = g i) {e : zE} (he : zok N e = true) : zc f e = zc g e := by
  rcases e with ⟨t, n, x⟩ | ⟨ci, fs⟩
  · rcases x with x | x | x | x | x
    · rfl
    · rfl
    · rfl
    · rfl
    · cases he
  · simp only [zc]
    congr 2
    apply List.map_congr_left
    intro v hv
    exact zv_eq h (List.all_eq_true.mp he v hv)
theorem zw_at {dA : Nat → ClassId} {ad : Nat → Nat} {h : List zE} (k : Nat) {e : zE} (h1 : h[k]? = some e) : (zw dA ad h)[k]? = some (ad k, zD dA (zc ad e)) := by
  rw [zw, List.getElem?_mapIdx, h1]; rfl
theorem zw_inv {dA : Nat → ClassId} {ad : Nat → Nat} {h : List zE} {k : Nat} {q : Nat × va_E} (h1 : (zw dA ad h)[k]? = some q) : ∃ e, h[k]? = some e ∧ q = (ad k, zD dA (zc ad e)) := by
  rw [zw, List.getElem?_mapIdx] at h1
  cases h2 : h[k]? with
  | none => rw [h2] at h1; cases h1
  | some e => rw [h2] at h1; exact ⟨e, rfl, (Option.some.inj h1).symm⟩
theorem zw_set {dA : Nat → ClassId} {ad : Nat → Nat} {h : List zE} (k : Nat) (e : zE) : zw dA ad (h.set k e) = (zw dA ad h).set k (ad k, zD dA (zc ad e)) := by
  apply List.ext_getElem?
  intro i
  rw [zw, List.getElem?_mapIdx]
  by_cases hi : i = k
  · subst hi
    by_cases hl : i < h.length
    · rw [List.getElem?_set_self hl, List.getElem?_set_self (by simpa [zw] using hl)]; rfl
    · rw [List.getElem?_eq_none (by simpa using hl), List.getElem?_eq_none (by simpa [zw] using hl)]; rfl
  · rw [List.getElem?_set_ne (Ne.symm hi), List.getElem?_set_ne (Ne.symm hi), zw, List.getElem?_mapIdx]
theorem zw_ext {dA : Nat → ClassId} {f g : Nat → Nat} {h : List zE} {N : Nat} (hN : h.length ≤ N) (hfg : ∀ i, i < N → f i = g i) (hok : h.all (zok N) = true) : zw dA f h = zw dA g h := by
  apply List.ext_getElem?
  intro i
  rw [zw, zw, List.getElem?_mapIdx, List.getElem?_mapIdx]
  cases hi : h[i]? with
  | none => rfl
  | some e =>
    have hl : i < h.length := (List.getElem?_eq_some_iff.mp hi).1
    show some (f i, zD dA (zc f e)) = some (g i, zD dA (zc g e))
    rw [hfg i (by omega), zc_eq hfg (List.all_eq_true.mp hok e (List.mem_of_getElem? hi))]
theorem zw_take {dA : Nat → ClassId} {ad : Nat → Nat} {h : List zE} (j : Nat) : zw dA ad (h.take j) = (zw dA ad h).take j := by
  apply List.ext_getElem?
  intro i
  rw [zw, List.getElem?_mapIdx, List.getElem?_take, List.getElem?_take, zw, List.getElem?_mapIdx]
  by_cases hi : i < j
  · rw [if_pos hi, if_pos hi]
  · rw [if_neg hi, if_neg hi]; rfl
theorem zw_push {dA : Nat → ClassId} {ad : Nat → Nat} {h : List zE} (e : zE) : zw dA ad (h ++ [e]) = zw dA ad h ++ [(ad h.length, zD dA (zc ad e))] := by
  rw [zw, List.mapIdx_append]; simp [zw]
/-! locals by place -/
def zl (ad : Nat → Nat) (ls : List (Option Value)) : List (Nat × Value) := (ls.mapIdx (fun i o => o.map (fun v => (i, zv ad v)))).filterMap id
theorem zl_mem {ad : Nat → Nat} {ls : List (Option Value)} {q : Nat × Value} : q ∈ zl ad ls ↔ ∃ v, ls[q.1]? = some (some v) ∧ q.2 = zv ad v := by
  rw [zl, List.mem_filterMap]
  constructor
  · rintro ⟨o, ho, h2⟩
    obtain ⟨i, hi⟩ := List.getElem?_of_mem ho
    rw [List.getElem?_mapIdx] at hi
    cases hx : ls[i]? with
    | none => rw [hx] at hi; cases hi
    | some x =>
      rw [hx] at hi
      cases x with
      | none => cases hi; cases h2
      | some v => cases hi; cases h2; exact ⟨v, hx, rfl⟩
  · rintro ⟨v, h1, h2⟩
    refine ⟨some q, ?_, rfl⟩
    refine List.mem_of_getElem? (i := q.1) ?_
    rw [List.getElem?_mapIdx, h1]
    show some (some (q.1, zv ad v)) = some (some q)
    rw [← h2]
theorem zl_has {L : Array Slot} {nL : Nat} {ad : Nat → Nat} {ls : List (Option Value)} (h : lv_has L nL (zl ad ls)) {i : Nat} {v : Value} (hi : ls[i]? = some (some v)) : L[i]? = some (.val (zv ad v)) := h.2.2 (i, zv ad v) (zl_mem.mpr ⟨v, hi, rfl⟩)
theorem zl_set {L : Array Slot} {nL : Nat} {ad : Nat → Nat} {ls : List (Option Value)} {i : Nat} {v : Value} (hc : ls.all zc1 = true)
    (h : lv_has L nL ((i, zv ad v) :: (zl ad ls).filter (fun q => !(q.1 == i) && !(q.1 + 1 == i && q.2.category == 2)))) : lv_has L nL (zl ad (ls.set i (some v))) := by
  refine ⟨h.1, h.2.1, fun q hq => ?_⟩
  obtain ⟨w, h1, h2⟩ := zl_mem.mp hq
  refine h.2.2 q ?_
  by_cases hi : q.1 = i
  · have hl : i < ls.length := by
      have := (List.getElem?_eq_some_iff.mp h1).1
      rw [List.length_set] at this
      omega
    rw [hi, List.getElem?_set_self hl] at h1
    cases h1
    obtain ⟨a, b⟩ := q
    dsimp only at hi h2
    subst hi; subst h2
    exact List.mem_cons_self
  · rw [List.getElem?_set_ne (Ne.symm hi)] at h1
    refine List.mem_cons_of_mem _ (List.mem_filter.mpr ⟨zl_mem.mpr ⟨w, h1, h2⟩, ?_⟩)
    have h3 := List.all_eq_true.mp hc (some w) (List.mem_of_getElem? h1)
    have h4 : w.category = 1 := by cases w <;> first | rfl | cases h3
    rw [h2, zv_cat, h4]
    simp [hi]
theorem zl_ext {L : Array Slot} {nL : Nat} {f g : Nat → Nat} {ls : List (Option Value)} {N : Nat} (hfg : ∀ i, i < N → f i = g i) (hok : ls.all (zlok N) = true) (h : lv_has L nL (zl f ls)) : lv_has L nL (zl g ls) := by
  refine ⟨h.1, h.2.1, fun q hq => ?_⟩
  obtain ⟨w, h1, h2⟩ := zl_mem.mp hq
  refine h.2.2 q (zl_mem.mpr ⟨w, h1, ?_⟩)
  have h3 := List.all_eq_true.mp hok (some w) (List.mem_of_getElem? h1)
  rw [h2]; exact (zv_eq hfg h3).symm
theorem zs_ext {f g : Nat → Nat} {st : List Value} {N : Nat} (hfg : ∀ i, i < N → f i = g i) (hok : st.all (zvok N) = true) : st.map (zv f) = st.map (zv g) := by
  apply List.map_congr_left
  intro v hv
  exact zv_eq hfg (List.all_eq_true.mp hok v hv)
end
section
/-! THE JUDGEMENT zG: the method, now at pc with locals ls, stack st and cells h, comes to an end with Q -/
def ztys (dA : Nat → ClassId) : List (ClassId × FieldType) := [(dA 0, .int)]
def zOK (own : String) (cc : ByteArray) (nL : Nat) (ret : Option FieldType) (rm : Room) (p : Program) (R : Room) (s : State) (m : MethodId) (args : Array Value) (meth : Method) (c : Code) (D : va_G) (dA : Nat → ClassId) (A : Nat → Prop) : Prop :=
  R = rm ∧ p.tables.exec = Jvm.exec ∧ c.code = cc ∧ c.maxLocals = nL ∧ s.vm.findClass own = some m.cls ∧ (∀ w ∈ zt, w.before args s = true) ∧ meth.sig.returnType = ret ∧ meth.locks = false ∧ va_K D vwCl (ztys dA) s ∧ (∀ q, s.heap.size ≤ q → A q) ∧ zNst s
/-- a method's end: the answer and the cells by Q; the first n0 cells are where they were -/
def zQc (D : va_G) (dA : Nat → ClassId) (A : Nat → Prop) (ad0 : Nat → Nat) (n0 : Nat) (Q : Option Value → List zE → Prop) : Array Value → State → Outcome → State → Prop := fun _ st oc t =>
  (∃ (r : Option Value) (h' : List zE) (ad' : Nat → Nat), oc = .returned (r.map (zv ad')) ∧ Q r h' ∧ (∀ i, i < n0 → ad' i = ad0 i) ∧ n0 ≤ h'.length ∧ va_P D vwCl (zw dA ad' h') t.heap ∧ va_K D vwCl (ztys dA) t ∧ va_D A (zw dA ad' h')) ∧ va_F A st t
def zG (p : Program) (l : Launch) (e : Env) (R : Room) (s : State) (m : MethodId) (args : Array Value) (below : List Frame) (meth : Method) (c : Code) (D : va_G) (dA : Nat → ClassId) (A : Nat → Prop) (ad0 : Nat → Nat) (n0 nL : Nat) (Q : Option Value → List zE → Prop) (mc ms : Nat) (k n pc : Nat) (ls : List (Option Value)) (st : List Value) (h : List zE) : Prop :=
  ∀ (ad : Nat → Nat) (H : Heap) (locs : List Loc) (L : Array Slot), (∀ i, i < n0 → ad i = ad0 i) → lv_has L nL (zl ad ls) → va_P D vwCl (zw dA ad h) H → va_D A (zw dA ad h) → va_S A s.heap H locs →
    W p l e R s m args below meth c H locs k n (MQ below (zQc D dA A ad0 n0 Q) args s mc ms A) (F0 m pc L (st.map (zv ad)))
/-- a method's contract -/
def zMet (y : MethodName) (cc : ByteArray) (nL : Nat) (ret : Option FieldType) (rm : Room) (av : List Value) (h : List zE) (Q : Option Value → List zE → Prop) : Prop :=
  ∀ (l : Launch) (D : va_G) (dA : Nat → ClassId) (ad : Nat → Nat) (sz : Nat), Met l y (.code y cc nL ret :: zt) rm
    (va_Pc (av.map (zv ad)) (fun U => U.heap.size = sz ∧ va_P D vwCl (zw dA ad h) U.heap ∧ va_K D vwCl (ztys dA) U ∧ va_D (fun _ => True) (zw dA ad h) ∧ zNst U))
    (zQc D dA (va_A (zw dA ad h) sz) ad h.length Q) rm.cells rm.slots (va_A (zw dA ad h) sz)
theorem zMet.mono {y : MethodName} {cc : ByteArray} {nL : Nat} {ret : Option FieldType} {rm : Room} {av : List Value} {h : List zE} {Q Q' : Option Value → List zE → Prop} (H : zMet y cc nL ret rm av h Q) (hq : ∀ r h', Q r h' → Q' r h') : zMet y cc nL ret rm av h Q' := by
  intro l D dA ad sz p e a1 a2 a3 s m args below b1 b2 b3 b4
  obtain ⟨t, o, c1, c2, c3, ⟨⟨⟨r, h', ad', e1, e2, e3⟩, d2⟩, d3⟩⟩ := H l D dA ad sz p e a1 a2 a3 s m args below b1 b2 b3 b4
  exact ⟨t, o, c1, c2, c3, ⟨⟨⟨r, h', ad', e1, hq _ _ e2, e3⟩, d2⟩, d3⟩⟩
/-- the locals at a method's entry -/
def zen (av : List Value) (nL : Nat) : List (Option Value) := av.map some ++ List.replicate (nL - av.length) none
theorem zen_args (ad : Nat → Nat) : ∀ (av : List Value) (i : Nat), av.all (fun v => zc1 (some v)) = true → ∀ (j : Nat) (v : Value), av[j]? = some v → (i + j, zv ad v) ∈ lv_args i (av.map (zv ad))
  | [], _, _, j, v, h => by simp at h
  | a :: av, i, hc, j, v, h => by
    have hc1 : (zv ad a).category = 1 := by
      have := List.all_eq_true.mp hc a List.mem_cons_self
      rw [zv_cat]
      cases a <;> first | rfl | cases this
    have hc2 : av.all (fun v => zc1 (some v)) = true := by
      rw [List.all_cons, Bool.and_eq_true] at hc
      exact hc.2
    rw [List.map_cons, lv_args, hc1, if_neg (by decide)]
    cases j with
    | zero => rw [List.getElem?_cons_zero] at h; cases h; exact List.mem_cons_self
    | succ j =>
      rw [List.getElem?_cons_succ] at h
      have h2 := zen_args ad av (i + 1) hc2 j v h
      rw [show i + 1 + j = i + (j + 1) by omega] at h2
      exact List.mem_cons_of_mem _ h2
theorem zen_sl (ad : Nat → Nat) : ∀ (av : List Value), av.all (fun v => zc1 (some v)) = true → (lg_sl (av.map (zv ad))).length = av.length
  | [], _ => rfl
  | a :: av, hc => by
    have hc1 : (zv ad a).category = 1 := by
      have := List.all_eq_true.mp hc a List.mem_cons_self
      rw [zv_cat]
      cases a <;> first | rfl | cases this
    have hc2 : av.all (fun v => zc1 (some v)) = true := by
      rw [List.all_cons, Bool.and_eq_true] at hc
      exact hc.2
    have ih := zen_sl ad av hc2
    simp only [lg_sl, List.map_cons, List.flatMap_cons, List.length_append, List.length_cons] at ih ⊢
    rw [ih, hc1]
    simp
    omega
set_option maxHeartbeats 1000000 in
theorem zMet_of {y : MethodName} {cc : ByteArray} {nL : Nat} {ret : Option FieldType} {rm : Room} {av : List Value} {h : List zE} {Q : Option Value → List zE → Prop} (hy : plainName y.cls = true) (hc : av.all (fun v => zc1 (some v)) = true) (hn : av.length ≤ nL)
    (K : ∀ (p : Program) (l : Launch) (e : Env) (R : Room) (s : State) (m : MethodId) (args : Array Value) (below : List Frame) (meth : Method) (c : Code) (D : va_G) (dA : Nat → ClassId) (A : Nat → Prop) (ad0 : Nat → Nat), zOK y.cls cc nL ret rm p R s m args meth c D dA A → meth.name = y.name →
      zG p l e R s m args below meth c D dA A ad0 h.length nL Q rm.cells rm.slots 0 0 0 (zen av nL) [] h) : zMet y cc nL ret rm av h Q := by
  intro l D dA ad sz
  refine Met.ofW (cc := cc) (maxL := nL) (ret := ret) hy rfl ?_
  intro p e s m args below meth c s₁ B hml hv
  obtain ⟨rfl, hsz, hP, hK, hD0, hN⟩ := hv
  have hts := atoms_spec (ws := .code y cc nL ret :: zt) B.pre
  have hown : s.vm.findClass y.cls = some m.cls := findClass_of_methodNamed B.named
  have hin : meth.name = y.name := (name_of_methodNamed B.named B.method).1
  subst hsz
  have hD := hD0.self (sz := s.heap.size)
  have hA : ∀ q : Nat, s.heap.size ≤ q → va_A (zw dA ad h) s.heap.size q := fun q h => Or.inr h
  have hl := lv_entry (av.map (zv ad)) (n := nL) (by rw [zen_sl ad av hc]; exact hn)
  rw [lg_entry_eq]
  refine K p l e _ s m _ below meth c D dA _ ad ⟨rfl, B.exec, B.bytes, hml, hown, fun w hw => hts w (List.mem_cons_of_mem _ hw), B.returns, B.notSynchronized, hK, hA, hN⟩ hin ad s.heap [] _ (fun _ _ => rfl) ⟨hl.1, hl.2.1, fun q hq => ?_⟩ hP hD va_S.rf
  obtain ⟨w, h1, h2⟩ := zl_mem.mp hq
  refine hl.2.2 q ?_
  have h3 : av[q.1]? = some w := by
    rw [zen] at h1
    by_cases hi : q.1 < av.length
    · rw [List.getElem?_append_left (by simpa using hi), List.getElem?_map] at h1
      cases hx : av[q.1]? with
      | none => rw [hx] at h1; cases h1
      | some x => rw [hx] at h1; cases h1; rfl
    · rw [List.getElem?_append_right (by simpa using hi)] at h1
      have := List.eq_of_mem_replicate (List.mem_of_getElem? h1)
      cases this
  have h4 := zen_args ad av 0 hc q.1 w h3
  rw [Nat.zero_add, ← h2] at h4
  exact h4
/-! the instructions -/
section ZI
variable {own : String} {cc : ByteArray} {nL : Nat} {ret : Option FieldType} {rm : Room} {p : Program} {l : Launch} {e : Env} {R : Room} {s : State} {m : MethodId} {args : Array Value} {below : List Frame} {meth : Method} {c : Code} {D : va_G} {dA : Nat → ClassId} {A : Nat → Prop} {ad0 : Nat → Nat} {n0 : Nat} {Q : Option Value → List zE → Prop} {mc ms k n pc : Nat} {ls : List (Option Value)} {st : List Value} {h : List zE}
theorem zi_iconst (O : zOK own cc nL ret rm p R s m args meth c D dA A) {x : Int} {v : Int32} (d : decode cc pc = .ok (.iconst x, 1)) (hv : Int32.ofInt x = v) (K : zG p l e R s m args below meth c D dA A ad0 n0 nL Q mc ms k n (pc + 1) ls (.int v :: st) h) : zG p l e R s m args below meth c D dA A ad0 n0 nL Q mc ms k n pc ls st h :=
  fun ad H locs L h1 h2 h3 h4 h5 => lv_iconst O.2.1 O.2.2.1 d hv (K ad H locs L h1 h2 h3 h4 h5)
theorem zi_bipush (O : zOK own cc nL ret rm p R s m args meth c D dA A) {x : Int} {v : Int32} (d : decode cc pc = .ok (.bipush x, 2)) (hv : (Int8.ofInt x).toInt32 = v) (K : zG p l e R s m args below meth c D dA A ad0 n0 nL Q mc ms k n (pc + 2) ls (.int v :: st) h) : zG p l e R s m args below meth c D dA A ad0 n0 nL Q mc ms k n pc ls st h :=
  fun ad H locs L h1 h2 h3 h4 h5 => lv_bipush O.2.1 O.2.2.1 d hv (K ad H locs L h1 h2 h3 h4 h5)
theorem zi_sipush (O : zOK own cc nL ret rm p R s m args meth c D dA A) {x : Int} {v : Int32} (d : decode cc pc = .ok (.sipush x, 3)) (hv : (Int16.ofInt x).toInt32 = v) (K : zG p l e R s m args below meth c D dA A ad0 n0 nL Q mc ms k n (pc + 3) ls (.int v :: st) h) : zG p l e R s m args below meth c D dA A ad0 n0 nL Q mc ms k n pc ls st h :=
  fun ad H locs L h1 h2 h3 h4 h5 => lv_sipush O.2.1 O.2.2.1 d hv (K ad H locs L h1 h2 h3 h4 h5)
theorem zi_iload_n (O : zOK own cc nL ret rm p R s m args meth c D dA A) {i : Fin 4} {x : Int32} (d : decode cc pc = .ok (.iload_n i, 1)) (hl : ls[i.val]? = some (some (.int x))) (K : zG p l e R s m args below meth c D dA A ad0 n0 nL Q mc ms k n (pc + 1) ls (.int x :: st) h) : zG p l e R s m args below meth c D dA A ad0 n0 nL Q mc ms k n pc ls st h :=
  fun ad H locs L h1 h2 h3 h4 h5 => lv_iload_n O.2.1 O.2.2.1 d rfl (zl_has h2 hl) (K ad H locs L h1 h2 h3 h4 h5)
theorem zi_iload (O : zOK own cc nL ret rm p R s m args meth c D dA A) {i : Nat} {x : Int32} (d : decode cc pc = .ok (.iload i, 2)) (hl : ls[i]? = some (some (.int x))) (K : zG p l e R s m args below meth c D dA A ad0 n0 nL Q mc ms k n (pc + 2) ls (.int x :: st) h) : zG p l e R s m args below meth c D dA A ad0 n0 nL Q mc ms k n pc ls st h :=
  fun ad H locs L h1 h2 h3 h4 h5 => lv_iload O.2.1 O.2.2.1 d (zl_has h2 hl) (K ad H locs L h1 h2 h3 h4 h5)
theorem zi_aload_n (O : zOK own cc nL ret rm p R s m args meth c D dA A) {i : Fin 4} {x : Nat} (d : decode cc pc = .ok (.aload_n i, 1)) (hl : ls[i.val]? = some (some (.ref x))) (K : zG p l e R s m args below meth c D dA A ad0 n0 nL Q mc ms k n (pc + 1) ls (.ref x :: st) h) : zG p l e R s m args below meth c D dA A ad0 n0 nL Q mc ms k n pc ls st h :=
  fun ad H locs L h1 h2 h3 h4 h5 => lv_aload_n O.2.1 O.2.2.1 d rfl (zl_has h2 hl) (K ad H locs L h1 h2 h3 h4 h5)
theorem zi_aload (O : zOK own cc nL ret rm p R s m args meth c D dA A) {i : Nat} {x : Nat} (d : decode cc pc = .ok (.aload i, 2)) (hl : ls[i]? = some (some (.ref x))) (K : zG p l e R s m args below meth c D dA A ad0 n0 nL Q mc ms k n (pc + 2) ls (.ref x :: st) h) : zG p l e R s m args below meth c D dA A ad0 n0 nL Q mc ms k n pc ls st h :=
  fun ad H locs L h1 h2 h3 h4 h5 => lv_aload O.2.1 O.2.2.1 d (zl_has h2 hl) (K ad H locs L h1 h2 h3 h4 h5)
theorem zi_istore_n (O : zOK own cc nL ret rm p R s m args meth c D dA A) {i : Fin 4} {x : Int32} {ls' : List (Option Value)} (d : decode cc pc = .ok (.istore_n i, 1)) (hc : ls.all zc1 = true) (hn : i.val < nL) (hs : ls.set i.val (some (.int x)) = ls') (K : zG p l e R s m args below meth c D dA A ad0 n0 nL Q mc ms k n (pc + 1) ls' st h) : zG p l e R s m args below meth c D dA A ad0 n0 nL Q mc ms k n pc ls (.int x :: st) h := by
  subst hs
  exact fun ad H locs L h1 h2 h3 h4 h5 => lv_istore_n O.2.1 O.2.2.1 d rfl h2 hn rfl (fun L' h2' => K ad H locs L' h1 (zl_set (v := .int x) hc h2') h3 h4 h5)
theorem zi_istore (O : zOK own cc nL ret rm p R s m args meth c D dA A) {i : Nat} {x : Int32} {ls' : List (Option Value)} (d : decode cc pc = .ok (.istore i, 2)) (hc : ls.all zc1 = true) (hn : i < nL) (hs : ls.set i (some (.int x)) = ls') (K : zG p l e R s m args below meth c D dA A ad0 n0 nL Q mc ms k n (pc + 2) ls' st h) : zG p l e R s m args below meth c D dA A ad0 n0 nL Q mc ms k n pc ls (.int x :: st) h := by
  subst hs
  exact fun ad H locs L h1 h2 h3 h4 h5 => lv_istore O.2.1 O.2.2.1 d h2 hn rfl (fun L' h2' => K ad H locs L' h1 (zl_set (v := .int x) hc h2') h3 h4 h5)
theorem zi_astore_n (O : zOK own cc nL ret rm p R s m args meth c D dA A) {i : Fin 4} {x : Nat} {ls' : List (Option Value)} (d : decode cc pc = .ok (.astore_n i, 1)) (hc : ls.all zc1 = true) (hn : i.val < nL) (hs : ls.set i.val (some (.ref x)) = ls') (K : zG p l e R s m args below meth c D dA A ad0 n0 nL Q mc ms k n (pc + 1) ls' st h) : zG p l e R s m args below meth c D dA A ad0 n0 nL Q mc ms k n pc ls (.ref x :: st) h := by
  subst hs
  exact fun ad H locs L h1 h2 h3 h4 h5 => lv_astore_n O.2.1 O.2.2.1 d rfl h2 hn rfl (fun L' h2' => K ad H locs L' h1 (zl_set (v := .ref x) hc h2') h3 h4 h5)
theorem zi_astore (O : zOK own cc nL ret rm p R s m args meth c D dA A) {i : Nat} {x : Nat} {ls' : List (Option Value)} (d : decode cc pc = .ok (.astore i, 2)) (hc : ls.all zc1 = true) (hn : i < nL) (hs : ls.set i (some (.ref x)) = ls') (K : zG p l e R s m args below meth c D dA A ad0 n0 nL Q mc ms k n (pc + 2) ls' st h) : zG p l e R s m args below meth c D dA A ad0 n0 nL Q mc ms k n pc ls (.ref x :: st) h := by
  subst hs
  exact fun ad H locs L h1 h2 h3 h4 h5 => lv_astore O.2.1 O.2.2.1 d h2 hn rfl (fun L' h2' => K ad H locs L' h1 (zl_set (v := .ref x) hc h2') h3 h4 h5)
theorem zi_iinc (O : zOK own cc nL ret rm p R s m args meth c D dA A) {i : Nat} {z : Int} {x v : Int32} {ls' : List (Option Value)} (d : decode cc pc = .ok (.iinc i z, 3)) (hc : ls.all zc1 = true) (hn : i < nL) (hx : ls[i]? = some (some (.int x))) (hv : x + Int32.ofInt z = v) (hs : ls.set i (some (.int v)) = ls') (K : zG p l e R s m args below meth c D dA A ad0 n0 nL Q mc ms k n (pc + 3) ls' st h) : zG p l e R s m args below meth c D dA A ad0 n0 nL Q mc ms k n pc ls st h := by
  subst hs
  intro ad H locs L h1 h2 h3 h4 h5
  obtain ⟨j, hj⟩ := List.getElem?_of_mem (zl_mem.mpr ⟨.int x, hx, rfl⟩ : (i, Value.int x) ∈ zl ad ls)
  exact lv_iinc O.2.1 O.2.2.1 d h2 hj hv hn rfl (fun L' h2' => K ad H locs L' h1 (zl_set (v := .int v) hc h2') h3 h4 h5)
theorem zi_iadd (O : zOK own cc nL ret rm p R s m args meth c D dA A) {x y : Int32} (d : decode cc pc = .ok (.iadd, 1)) (K : zG p l e R s m args below meth c D dA A ad0 n0 nL Q mc ms k n (pc + 1) ls (.int (x + y) :: st) h) : zG p l e R s m args below meth c D dA A ad0 n0 nL Q mc ms k n pc ls (.int y :: .int x :: st) h :=
  fun ad H locs L h1 h2 h3 h4 h5 => lv_iadd O.2.1 O.2.2.1 d (K ad H locs L h1 h2 h3 h4 h5)
theorem zi_isub (O : zOK own cc nL ret rm p R s m args meth c D dA A) {x y : Int32} (d : decode cc pc = .ok (.isub, 1)) (K : zG p l e R s m args below meth c D dA A ad0 n0 nL Q mc ms k n (pc + 1) ls (.int (x - y) :: st) h) : zG p l e R s m args below meth c D dA A ad0 n0 nL Q mc ms k n pc ls (.int y :: .int x :: st) h :=
  fun ad H locs L h1 h2 h3 h4 h5 => lv_isub O.2.1 O.2.2.1 d (K ad H locs L h1 h2 h3 h4 h5)
theorem zi_imul (O : zOK own cc nL ret rm p R s m args meth c D dA A) {x y : Int32} (d : decode cc pc = .ok (.imul, 1)) (K : zG p l e R s m args below meth c D dA A ad0 n0 nL Q mc ms k n (pc + 1) ls (.int (x * y) :: st) h) : zG p l e R s m args below meth c D dA A ad0 n0 nL Q mc ms k n pc ls (.int y :: .int x :: st) h :=
  fun ad H locs L h1 h2 h3 h4 h5 => lv_imul O.2.1 O.2.2.1 d (K ad H locs L h1 h2 h3 h4 h5)
theorem zi_iand (O : zOK own cc nL ret rm p R s m args meth c D dA A) {x y : Int32} (d : decode cc pc = .ok (.iand, 1)) (K : zG p l e R s m args below meth c D dA A ad0 n0 nL Q mc ms k n (pc + 1) ls (.int (x &&& y) :: st) h) : zG p l e R s m args below meth c D dA A ad0 n0 nL Q mc ms k n pc ls (.int y :: .int x :: st) h :=
  fun ad H locs L h1 h2 h3 h4 h5 => lv_iand O.2.1 O.2.2.1 d (K ad H locs L h1 h2 h3 h4 h5)
theorem zi_ior (O : zOK own cc nL ret rm p R s m args meth c D dA A) {x y : Int32} (d : decode cc pc = .ok (.ior, 1)) (K : zG p l e R s m args below meth c D dA A ad0 n0 nL Q mc ms k n (pc + 1) ls (.int (x ||| y) :: st) h) : zG p l e R s m args below meth c D dA A ad0 n0 nL Q mc ms k n pc ls (.int y :: .int x :: st) h :=
  fun ad H locs L h1 h2 h3 h4 h5 => lv_ior O.2.1 O.2.2.1 d (K ad H locs L h1 h2 h3 h4 h5)
theorem zi_ixor (O : zOK own cc nL ret rm p R s m args meth c D dA A) {x y : Int32} (d : decode cc pc = .ok (.ixor, 1)) (K : zG p l e R s m args below meth c D dA A ad0 n0 nL Q mc ms k n (pc + 1) ls (.int (x ^^^ y) :: st) h) : zG p l e R s m args below meth c D dA A ad0 n0 nL Q mc ms k n pc ls (.int y :: .int x :: st) h :=
  fun ad H locs L h1 h2 h3 h4 h5 => lv_ixor O.2.1 O.2.2.1 d (K ad H locs L h1 h2 h3 h4 h5)
theorem zi_ishl (O : zOK own cc nL ret rm p R s m args meth c D dA A) {x y : Int32} (d : decode cc pc = .ok (.ishl, 1)) (K : zG p l e R s m args below meth c D dA A ad0 n0 nL Q mc ms k n (pc + 1) ls (.int (x <<< (y &&& 31)) :: st) h) : zG p l e R s m args below meth c D dA A ad0 n0 nL Q mc ms k n pc ls (.int y :: .int x :: st) h :=
  fun ad H locs L h1 h2 h3 h4 h5 => lv_ishl O.2.1 O.2.2.1 d (K ad H locs L h1 h2 h3 h4 h5)
theorem zi_ishr (O : zOK own cc nL ret rm p R s m args meth c D dA A) {x y : Int32} (d : decode cc pc = .ok (.ishr, 1)) (K : zG p l e R s m args below meth c D dA A ad0 n0 nL Q mc ms k n (pc + 1) ls (.int (x >>> (y &&& 31)) :: st) h) : zG p l e R s m args below meth c D dA A ad0 n0 nL Q mc ms k n pc ls (.int y :: .int x :: st) h :=
  fun ad H locs L h1 h2 h3 h4 h5 => lv_ishr O.2.1 O.2.2.1 d (K ad H locs L h1 h2 h3 h4 h5)
theorem zi_ineg (O : zOK own cc nL ret rm p R s m args meth c D dA A) {x : Int32} (d : decode cc pc = .ok (.ineg, 1)) (K : zG p l e R s m args below meth c D dA A ad0 n0 nL Q mc ms k n (pc + 1) ls (.int (-x) :: st) h) : zG p l e R s m args below meth c D dA A ad0 n0 nL Q mc ms k n pc ls (.int x :: st) h :=
  fun ad H locs L h1 h2 h3 h4 h5 => lv_ineg O.2.1 O.2.2.1 d (K ad H locs L h1 h2 h3 h4 h5)
/-- the number on top by another name -/
theorem zi_top {x y : Int32} (hxy : x = y) (K : zG p l e R s m args below meth c D dA A ad0 n0 nL Q mc ms k n pc ls (.int y :: st) h) : zG p l e R s m args below meth c D dA A ad0 n0 nL Q mc ms k n pc ls (.int x :: st) h := hxy ▸ K
theorem zi_dup (O : zOK own cc nL ret rm p R s m args meth c D dA A) {v : Value} (d : decode cc pc = .ok (.dup, 1)) (hv : v.category = 1) (K : zG p l e R s m args below meth c D dA A ad0 n0 nL Q mc ms k n (pc + 1) ls (v :: v :: st) h) : zG p l e R s m args below meth c D dA A ad0 n0 nL Q mc ms k n pc ls (v :: st) h :=
  fun ad H locs L h1 h2 h3 h4 h5 => lv_dup O.2.1 O.2.2.1 d (by rw [zv_cat]; exact hv) (K ad H locs L h1 h2 h3 h4 h5)
theorem zi_dup_x1 (O : zOK own cc nL ret rm p R s m args meth c D dA A) {v w : Value} (d : decode cc pc = .ok (.dup_x1, 1)) (hv : v.category = 1) (hw : w.category = 1) (K : zG p l e R s m args below meth c D dA A ad0 n0 nL Q mc ms k n (pc + 1) ls (v :: w :: v :: st) h) : zG p l e R s m args below meth c D dA A ad0 n0 nL Q mc ms k n pc ls (v :: w :: st) h :=
  fun ad H locs L h1 h2 h3 h4 h5 => lv_dup_x1 O.2.1 O.2.2.1 d (by rw [zv_cat]; exact hv) (by rw [zv_cat]; exact hw) (K ad H locs L h1 h2 h3 h4 h5)
theorem zi_pop (O : zOK own cc nL ret rm p R s m args meth c D dA A) {v : Value} (d : decode cc pc = .ok (.pop, 1)) (hv : v.category = 1) (K : zG p l e R s m args below meth c D dA A ad0 n0 nL Q mc ms k n (pc + 1) ls st h) : zG p l e R s m args below meth c D dA A ad0 n0 nL Q mc ms k n pc ls (v :: st) h :=
  fun ad H locs L h1 h2 h3 h4 h5 => lv_pop O.2.1 O.2.2.1 d (by rw [zv_cat]; exact hv) (K ad H locs L h1 h2 h3 h4 h5)
theorem zi_goto (O : zOK own cc nL ret rm p R s m args meth c D dA A) {off : Int} (tgt : Nat) (d : decode cc pc = .ok (.goto off, 3)) (ht : (pc : Int) + off = (tgt : Int)) (K : zG p l e R s m args below meth c D dA A ad0 n0 nL Q mc ms k n tgt ls st h) : zG p l e R s m args below meth c D dA A ad0 n0 nL Q mc ms k n pc ls st h :=
  fun ad H locs L h1 h2 h3 h4 h5 => lv_goto O.2.1 O.2.2.1 d ht (K ad H locs L h1 h2 h3 h4 h5)
theorem zi_icmp_eq (O : zOK own cc nL ret rm p R s m args meth c D dA A) {x y : Int32} {off : Int} (tgt : Nat) (d : decode cc pc = .ok (.if_icmp .eq off, 3)) (ht : (pc : Int) + off = (tgt : Int)) (kt : x = y → zG p l e R s m args below meth c D dA A ad0 n0 nL Q mc ms k n tgt ls st h) (kf : ¬ x = y → zG p l e R s m args below meth c D dA A ad0 n0 nL Q mc ms k n (pc + 3) ls st h) : zG p l e R s m args below meth c D dA A ad0 n0 nL Q mc ms k n pc ls (.int y :: .int x :: st) h :=
  fun ad H locs L h1 h2 h3 h4 h5 => lv_icmp_eq O.2.1 O.2.2.1 d ht (fun z => kt z ad H locs L h1 h2 h3 h4 h5) (fun z => kf z ad H locs L h1 h2 h3 h4 h5)
theorem zi_if_eq (O : zOK own cc nL ret rm p R s m args meth c D dA A) {x : Int32} {off : Int} (tgt : Nat) (d : decode cc pc = .ok (.ifCond .eq off, 3)) (ht : (pc : Int) + off = (tgt : Int)) (kt : x = 0 → zG p l e R s m args below meth c D dA A ad0 n0 nL Q mc ms k n tgt ls st h) (kf : ¬ x = 0 → zG p l e R s m args below meth c D dA A ad0 n0 nL Q mc ms k n (pc + 3) ls st h) : zG p l e R s m args below meth c D dA A ad0 n0 nL Q mc ms k n pc ls (.int x :: st) h :=
  fun ad H locs L h1 h2 h3 h4 h5 => lv_if_eq O.2.1 O.2.2.1 d ht (fun z => kt z ad H locs L h1 h2 h3 h4 h5) (fun z => kf z ad H locs L h1 h2 h3 h4 h5)
theorem zi_icmp_ne (O : zOK own cc nL ret rm p R s m args meth c D dA A) {x y : Int32} {off : Int} (tgt : Nat) (d : decode cc pc = .ok (.if_icmp .ne off, 3)) (ht : (pc : Int) + off = (tgt : Int)) (kt : ¬ x = y → zG p l e R s m args below meth c D dA A ad0 n0 nL Q mc ms k n tgt ls st h) (kf : x = y → zG p l e R s m args below meth c D dA A ad0 n0 nL Q mc ms k n (pc + 3) ls st h) : zG p l e R s m args below meth c D dA A ad0 n0 nL Q mc ms k n pc ls (.int y :: .int x :: st) h :=
  fun ad H locs L h1 h2 h3 h4 h5 => lv_icmp_ne O.2.1 O.2.2.1 d ht (fun z => kt z ad H locs L h1 h2 h3 h4 h5) (fun z => kf z ad H locs L h1 h2 h3 h4 h5)
theorem zi_if_ne (O : zOK own cc nL ret rm p R s m args meth c D dA A) {x : Int32} {off : Int} (tgt : Nat) (d : decode cc pc = .ok (.ifCond .ne off, 3)) (ht : (pc : Int) + off = (tgt : Int)) (kt : ¬ x = 0 → zG p l e R s m args below meth c D dA A ad0 n0 nL Q mc ms k n tgt ls st h) (kf : x = 0 → zG p l e R s m args below meth c D dA A ad0 n0 nL Q mc ms k n (pc + 3) ls st h) : zG p l e R s m args below meth c D dA A ad0 n0 nL Q mc ms k n pc ls (.int x :: st) h :=
  fun ad H locs L h1 h2 h3 h4 h5 => lv_if_ne O.2.1 O.2.2.1 d ht (fun z => kt z ad H locs L h1 h2 h3 h4 h5) (fun z => kf z ad H locs L h1 h2 h3 h4 h5)
theorem zi_icmp_lt (O : zOK own cc nL ret rm p R s m args meth c D dA A) {x y : Int32} {off : Int} (tgt : Nat) (d : decode cc pc = .ok (.if_icmp .lt off, 3)) (ht : (pc : Int) + off = (tgt : Int)) (kt : x < y → zG p l e R s m args below meth c D dA A ad0 n0 nL Q mc ms k n tgt ls st h) (kf : ¬ x < y → zG p l e R s m args below meth c D dA A ad0 n0 nL Q mc ms k n (pc + 3) ls st h) : zG p l e R s m args below meth c D dA A ad0 n0 nL Q mc ms k n pc ls (.int y :: .int x :: st) h :=
  fun ad H locs L h1 h2 h3 h4 h5 => lv_icmp_lt O.2.1 O.2.2.1 d ht (fun z => kt z ad H locs L h1 h2 h3 h4 h5) (fun z => kf z ad H locs L h1 h2 h3 h4 h5)
theorem zi_if_lt (O : zOK own cc nL ret rm p R s m args meth c D dA A) {x : Int32} {off : Int} (tgt : Nat) (d : decode cc pc = .ok (.ifCond .lt off, 3)) (ht : (pc : Int) + off = (tgt : Int)) (kt : x < 0 → zG p l e R s m args below meth c D dA A ad0 n0 nL Q mc ms k n tgt ls st h) (kf : ¬ x < 0 → zG p l e R s m args below meth c D dA A ad0 n0 nL Q mc ms k n (pc + 3) ls st h) : zG p l e R s m args below meth c D dA A ad0 n0 nL Q mc ms k n pc ls (.int x :: st) h :=
  fun ad H locs L h1 h2 h3 h4 h5 => lv_if_lt O.2.1 O.2.2.1 d ht (fun z => kt z ad H locs L h1 h2 h3 h4 h5) (fun z => kf z ad H locs L h1 h2 h3 h4 h5)
theorem zi_icmp_ge (O : zOK own cc nL ret rm p R s m args meth c D dA A) {x y : Int32} {off : Int} (tgt : Nat) (d : decode cc pc = .ok (.if_icmp .ge off, 3)) (ht : (pc : Int) + off = (tgt : Int)) (kt : y ≤ x → zG p l e R s m args below meth c D dA A ad0 n0 nL Q mc ms k n tgt ls st h) (kf : ¬ y ≤ x → zG p l e R s m args below meth c D dA A ad0 n0 nL Q mc ms k n (pc + 3) ls st h) : zG p l e R s m args below meth c D dA A ad0 n0 nL Q mc ms k n pc ls (.int y :: .int x :: st) h :=
  fun ad H locs L h1 h2 h3 h4 h5 => lv_icmp_ge O.2.1 O.2.2.1 d ht (fun z => kt z ad H locs L h1 h2 h3 h4 h5) (fun z => kf z ad H locs L h1 h2 h3 h4 h5)
theorem zi_if_ge (O : zOK own cc nL ret rm p R s m args meth c D dA A) {x : Int32} {off : Int} (tgt : Nat) (d : decode cc pc = .ok (.ifCond .ge off, 3)) (ht : (pc : Int) + off = (tgt : Int)) (kt : 0 ≤ x → zG p l e R s m args below meth c D dA A ad0 n0 nL Q mc ms k n tgt ls st h) (kf : ¬ 0 ≤ x → zG p l e R s m args below meth c D dA A ad0 n0 nL Q mc ms k n (pc + 3) ls st h) : zG p l e R s m args below meth c D dA A ad0 n0 nL Q mc ms k n pc ls (.int x :: st) h :=
  fun ad H locs L h1 h2 h3 h4 h5 => lv_if_ge O.2.1 O.2.2.1 d ht (fun z => kt z ad H locs L h1 h2 h3 h4 h5) (fun z => kf z ad H locs L h1 h2 h3 h4 h5)
theorem zi_icmp_gt (O : zOK own cc nL ret rm p R s m args meth c D dA A) {x y : Int32} {off : Int} (tgt : Nat) (d : decode cc pc = .ok (.if_icmp .gt off, 3)) (ht : (pc : Int) + off = (tgt : Int)) (kt : y < x → zG p l e R s m args below meth c D dA A ad0 n0 nL Q mc ms k n tgt ls st h) (kf : ¬ y < x → zG p l e R s m args below meth c D dA A ad0 n0 nL Q mc ms k n (pc + 3) ls st h) : zG p l e R s m args below meth c D dA A ad0 n0 nL Q mc ms k n pc ls (.int y :: .int x :: st) h :=
  fun ad H locs L h1 h2 h3 h4 h5 => lv_icmp_gt O.2.1 O.2.2.1 d ht (fun z => kt z ad H locs L h1 h2 h3 h4 h5) (fun z => kf z ad H locs L h1 h2 h3 h4 h5)
theorem zi_if_gt (O : zOK own cc nL ret rm p R s m args meth c D dA A) {x : Int32} {off : Int} (tgt : Nat) (d : decode cc pc = .ok (.ifCond .gt off, 3)) (ht : (pc : Int) + off = (tgt : Int)) (kt : 0 < x → zG p l e R s m args below meth c D dA A ad0 n0 nL Q mc ms k n tgt ls st h) (kf : ¬ 0 < x → zG p l e R s m args below meth c D dA A ad0 n0 nL Q mc ms k n (pc + 3) ls st h) : zG p l e R s m args below meth c D dA A ad0 n0 nL Q mc ms k n pc ls (.int x :: st) h :=
  fun ad H locs L h1 h2 h3 h4 h5 => lv_if_gt O.2.1 O.2.2.1 d ht (fun z => kt z ad H locs L h1 h2 h3 h4 h5) (fun z => kf z ad H locs L h1 h2 h3 h4 h5)
theorem zi_icmp_le (O : zOK own cc nL ret rm p R s m args meth c D dA A) {x y : Int32} {off : Int} (tgt : Nat) (d : decode cc pc = .ok (.if_icmp .le off, 3)) (ht : (pc : Int) + off = (tgt : Int)) (kt : x ≤ y → zG p l e R s m args below meth c D dA A ad0 n0 nL Q mc ms k n tgt ls st h) (kf : ¬ x ≤ y → zG p l e R s m args below meth c D dA A ad0 n0 nL Q mc ms k n (pc + 3) ls st h) : zG p l e R s m args below meth c D dA A ad0 n0 nL Q mc ms k n pc ls (.int y :: .int x :: st) h :=
  fun ad H locs L h1 h2 h3 h4 h5 => lv_icmp_le O.2.1 O.2.2.1 d ht (fun z => kt z ad H locs L h1 h2 h3 h4 h5) (fun z => kf z ad H locs L h1 h2 h3 h4 h5)
theorem zi_if_le (O : zOK own cc nL ret rm p R s m args meth c D dA A) {x : Int32} {off : Int} (tgt : Nat) (d : decode cc pc = .ok (.ifCond .le off, 3)) (ht : (pc : Int) + off = (tgt : Int)) (kt : x ≤ 0 → zG p l e R s m args below meth c D dA A ad0 n0 nL Q mc ms k n tgt ls st h) (kf : ¬ x ≤ 0 → zG p l e R s m args below meth c D dA A ad0 n0 nL Q mc ms k n (pc + 3) ls st h) : zG p l e R s m args below meth c D dA A ad0 n0 nL Q mc ms k n pc ls (.int x :: st) h :=
  fun ad H locs L h1 h2 h3 h4 h5 => lv_if_le O.2.1 O.2.2.1 d ht (fun z => kt z ad H locs L h1 h2 h3 h4 h5) (fun z => kf z ad H locs L h1 h2 h3 h4 h5)
theorem zi_tableOut (O : zOK own cc nL ret rm p R s m args meth c D dA A) {dflt lo hi : Int} {offs : Array Int} {len : Nat} {x : Int32} (tgt : Nat) (d : decode cc pc = .ok (.tableswitch dflt lo hi offs, len)) (hx : x.toInt < lo ∨ hi < x.toInt) (ht : (pc : Int) + dflt = (tgt : Int)) (K : zG p l e R s m args below meth c D dA A ad0 n0 nL Q mc ms k n tgt ls st h) : zG p l e R s m args below meth c D dA A ad0 n0 nL Q mc ms k n pc ls (.int x :: st) h :=
  fun ad H locs L h1 h2 h3 h4 h5 => lv_tableOut O.2.1 O.2.2.1 d hx ht (K ad H locs L h1 h2 h3 h4 h5)
theorem zi_tableIn (O : zOK own cc nL ret rm p R s m args meth c D dA A) {dflt lo hi : Int} {offs : Array Int} {len : Nat} {x : Int32} {off : Int} (tgt : Nat) (d : decode cc pc = .ok (.tableswitch dflt lo hi offs, len)) (hx1 : ¬ x.toInt < lo) (hx2 : ¬ hi < x.toInt) (ho : offs[(x.toInt - lo).toNat]? = some off) (ht : (pc : Int) + off = (tgt : Int)) (K : zG p l e R s m args below meth c D dA A ad0 n0 nL Q mc ms k n tgt ls st h) : zG p l e R s m args below meth c D dA A ad0 n0 nL Q mc ms k n pc ls (.int x :: st) h :=
  fun ad H locs L h1 h2 h3 h4 h5 => lv_tableIn O.2.1 O.2.2.1 d hx1 hx2 ho ht (K ad H locs L h1 h2 h3 h4 h5)
theorem zi_iret (O : zOK own cc nL (some .int) rm p R s m args meth c D dA A) {v : Int32} (d : decode cc pc = .ok (.ireturn, 1)) (hk : k ≤ mc) (hn : n ≤ ms) (h0 : n0 ≤ h.length) (hq : Q (some (.int v)) h) : zG p l e R s m args below meth c D dA A ad0 n0 nL Q mc ms k n pc ls [.int v] h :=
  fun ad H locs L h1 h2 h3 h4 h5 => W.widen hk hn (W.iret (v := v) O.2.1 O.2.2.1 O.2.2.2.2.2.2.1 (fun t ht hW => ⟨⟨some (.int v), h, ad, rfl, hq, h1, h0, by rw [ht]; exact h3, va_K.moved hW.alike O.2.2.2.2.2.2.2.2.1, h4⟩, h5.F ht⟩) h5.2.2 d O.2.2.2.2.2.2.2.1)
theorem zi_zret (O : zOK own cc nL (some .boolean) rm p R s m args meth c D dA A) {v : Int32} (d : decode cc pc = .ok (.ireturn, 1)) (hv : narrow .boolean (.int v) = .int v) (hk : k ≤ mc) (hn : n ≤ ms) (h0 : n0 ≤ h.length) (hq : Q (some (.int v)) h) : zG p l e R s m args below meth c D dA A ad0 n0 nL Q mc ms k n pc ls [.int v] h :=
  fun ad H locs L h1 h2 h3 h4 h5 => W.widen hk hn (W.zret (v := v) O.2.1 O.2.2.1 O.2.2.2.2.2.2.1 hv (fun t ht hW => ⟨⟨some (.int v), h, ad, rfl, hq, h1, h0, by rw [ht]; exact h3, va_K.moved hW.alike O.2.2.2.2.2.2.2.2.1, h4⟩, h5.F ht⟩) h5.2.2 d O.2.2.2.2.2.2.2.1)
theorem zi_vret (O : zOK own cc nL none rm p R s m args meth c D dA A) (d : decode cc pc = .ok (.return_, 1)) (hk : k ≤ mc) (hn : n ≤ ms) (h0 : n0 ≤ h.length) (hq : Q none h) : zG p l e R s m args below meth c D dA A ad0 n0 nL Q mc ms k n pc ls [] h :=
  fun ad H locs L h1 h2 h3 h4 h5 => W.widen hk hn (W.vret O.2.1 O.2.2.1 O.2.2.2.2.2.2.1 (fun t ht hW => ⟨⟨none, h, ad, rfl, hq, h1, h0, by rw [ht]; exact h3, va_K.moved hW.alike O.2.2.2.2.2.2.2.2.1, h4⟩, h5.F ht⟩) h5.2.2 d O.2.2.2.2.2.2.2.1)
theorem zi_aret {rt : FieldType} (O : zOK own cc nL (some rt) rm p R s m args meth c D dA A) {v : Nat} (d : decode cc pc = .ok (.areturn, 1)) (hrt : (∃ n, rt = .object n) ∨ ∃ t, rt = .array t) (hk : k ≤ mc) (hn : n ≤ ms) (h0 : n0 ≤ h.length) (hq : Q (some (.ref v)) h) : zG p l e R s m args below meth c D dA A ad0 n0 nL Q mc ms k n pc ls [.ref v] h :=
  fun ad H locs L h1 h2 h3 h4 h5 => W.widen hk hn (W.aret (v := .ref (ad v)) O.2.1 O.2.2.1 O.2.2.2.2.2.2.1 hrt (Or.inr ⟨_, rfl⟩) (fun t ht hW => ⟨⟨some (.ref v), h, ad, rfl, hq, h1, h0, by rw [ht]; exact h3, va_K.moved hW.alike O.2.2.2.2.2.2.2.2.1, h4⟩, h5.F ht⟩) h5.2.2 d O.2.2.2.2.2.2.2.1)
/-- cells behind are forgotten -/
theorem zi_drop (j : Nat) (K : zG p l e R s m args below meth c D dA A ad0 n0 nL Q mc ms k n pc ls st (h.take j)) : zG p l e R s m args below meth c D dA A ad0 n0 nL Q mc ms k n pc ls st h := by
  intro ad H locs L h1 h2 h3 h4 h5
  have key : ∀ (i : Nat) (q : Nat × va_E), (zw dA ad (h.take j))[i]? = some q → (zw dA ad h)[i]? = some q := by
    intro i q hi
    rw [zw_take, List.getElem?_take] at hi
    by_cases hj : i < j
    · rw [if_pos hj] at hi; exact hi
    · rw [if_neg hj] at hi; cases hi
  exact K ad H locs L h1 h2 (fun i q hi => h3 i q (key i q hi)) ⟨fun i j x y hi hj => h4.1 i j x y (key i x hi) (key j y hj), fun i q hi => h4.2 i q (key i q hi)⟩ h5
theorem zi_widen {k' n' : Nat} (hk : k ≤ k') (hn : n ≤ n') (K : zG p l e R s m args below meth c D dA A ad0 n0 nL Q mc ms k' n' pc ls st h) : zG p l e R s m args below meth c D dA A ad0 n0 nL Q mc ms k n pc ls st h :=
  fun ad H locs L h1 h2 h3 h4 h5 => W.widen hk hn (K ad H locs L h1 h2 h3 h4 h5)
/-! fields and arrays -/
def zF (own : String) (index ci j : Nat) (ty : FieldType) (fin : Bool) : Prop := ∃ (C : String) (T : u_T) (N : Nat) (ty0 : Nat → FieldType), vwCl[ci]? = some (C, T, N) ∧ j < N ∧ Cond.fieldLink own index C (T j).2.1 (T j).2.2.1 ∈ zt ∧ (T j).1 = C ∧ (∀ w ∈ u_ws C T N, w ∈ zt) ∧ (∀ k, k < N → parseFieldDescriptor (T k).2.2.1 = some (ty0 k)) ∧ (∀ a, a < N → ∀ b, b < N → a ≠ b → (T a).2.1 ≠ (T b).2.1) ∧ ty0 j = ty ∧ (T j).2.2.2 = fin
theorem zi_get (O : zOK own cc nL ret rm p R s m args meth c D dA A) {index ci j q : Nat} {ty : FieldType} {fin : Bool} {fs : List Value} {v : Value} (F : zF own index ci j ty fin) (d : decode cc pc = .ok (.getfield index, 3)) (he : h[q]? = some (.inr (ci, fs))) (hv : fs[j]? = some v) (K : zG p l e R s m args below meth c D dA A ad0 n0 nL Q mc ms k n (pc + 3) ls (v :: st) h) : zG p l e R s m args below meth c D dA A ad0 n0 nL Q mc ms k n pc ls (.ref q :: st) h := by
  obtain ⟨C, T, N, ty0, F1, F2, F3, F4, F5, F6, F7, F8, F9⟩ := F
  obtain ⟨-, o1, o2, o3, o4, o5, o6, o7, o8, o9, o10⟩ := O
  exact fun ad H locs L h1 h2 h3 h4 h5 => va_get (D := D) (ci := ci) (v := zv ad v) (C := C) (T := T) (N := N) (fs := fs.map (zv ad)) (ref := C) o1 o2 o5 F5 o4 o8 h3 q (zw_at q he) F1 j F2 (o5 _ F3) (fun x hx => by rw [F4] at hx; exact hx) (by rw [List.getElem?_map, hv]; rfl) d (K ad H locs L h1 h2 h3 h4 h5)
theorem zi_put (O : zOK own cc nL ret rm p R s m args meth c D dA A) {index ci j q : Nat} {ty : FieldType} {fs : List Value} {v : Value} {h' : List zE} (F : zF own index ci j ty false) (d : decode cc pc = .ok (.putfield index, 3)) (he : h[q]? = some (.inr (ci, fs))) (hj : j < fs.length) (hn : ∀ ad, narrow ty (zv ad v) = zv ad v) (hf : ∀ ad, fits ty (zv ad v) = true) (hh : h.set q (.inr (ci, fs.set j v)) = h') (K : zG p l e R s m args below meth c D dA A ad0 n0 nL Q mc ms k n (pc + 3) ls st h') : zG p l e R s m args below meth c D dA A ad0 n0 nL Q mc ms k n pc ls (v :: .ref q :: st) h := by
  subst hh
  obtain ⟨C, T, N, ty0, F1, F2, F3, F4, F5, F6, F7, F8, F9⟩ := F
  obtain ⟨-, o1, o2, o3, o4, o5, o6, o7, o8, o9, o10⟩ := O
  intro ad H locs L h1 h2 h3 h4 h5
  have e1 : zw dA ad (h.set q (.inr (ci, fs.set j v))) = (zw dA ad h).set q (ad q, .inr (ci, (fs.map (zv ad)).set j (zv ad v))) := by
    rw [zw_set, ← List.map_set]; rfl
  exact va_put (D := D) (ci := ci) (v := zv ad v) (ty := ty) (C := C) (T := T) (N := N) (fs := fs.map (zv ad)) (ref := C) o1 o2 o5 F5 ty0 F6 F7 o4 o8 h3 h4 h5 q (zw_at q he) F1 j F2 (o5 _ F3) (fun x hx => by rw [F4] at hx; exact hx) F9 (by rw [F6 j F2, F8]) (hn ad) (hf ad) (by simpa using hj) d
    (fun H1 locs1 a1 a2 a3 => K ad H1 locs1 L h1 h2 (by rw [e1]; exact a1) (by rw [e1]; exact a2) a3)
theorem zi_putF (O : zOK own cc nL ret rm p R s m args meth c D dA A) (hin : meth.name = "<init>") {index ci j q : Nat} {ty : FieldType} {fs : List Value} {v : Value} {h' : List zE} (F : zF own index ci j ty true) (d : decode cc pc = .ok (.putfield index, 3)) (hC : (vwCl[ci]?).map (fun x => x.1) = some own) (he : h[q]? = some (.inr (ci, fs))) (hj : j < fs.length) (hn : ∀ ad, narrow ty (zv ad v) = zv ad v) (hf : ∀ ad, fits ty (zv ad v) = true) (hh : h.set q (.inr (ci, fs.set j v)) = h') (K : zG p l e R s m args below meth c D dA A ad0 n0 nL Q mc ms k n (pc + 3) ls st h') : zG p l e R s m args below meth c D dA A ad0 n0 nL Q mc ms k n pc ls (v :: .ref q :: st) h := by
  subst hh
  obtain ⟨C, T, N, ty0, F1, F2, F3, F4, F5, F6, F7, F8, F9⟩ := F
  obtain ⟨-, o1, o2, o3, o4, o5, o6, o7, o8, o9, o10⟩ := O
  intro ad H locs L h1 h2 h3 h4 h5
  have e1 : zw dA ad (h.set q (.inr (ci, fs.set j v))) = (zw dA ad h).set q (ad q, .inr (ci, (fs.map (zv ad)).set j (zv ad v))) := by
    rw [zw_set, ← List.map_set]; rfl
  have e2 : C = own := by rw [F1] at hC; exact Option.some.inj hC
  exact va_putF (D := D) (ci := ci) (v := zv ad v) (ty := ty) (C := C) (T := T) (N := N) (fs := fs.map (zv ad)) (ref := C) o1 o2 o5 F5 ty0 F6 F7 o4 o8 h3 h4 h5 q (zw_at q he) F1 j F2 (o5 _ F3) (fun x hx => by rw [F4] at hx; exact hx) F9 hin (F4.trans e2) (by rw [F6 j F2, F8]) (hn ad) (hf ad) (by simpa using hj) d
    (fun H1 locs1 a1 a2 a3 => K ad H1 locs1 L h1 h2 (by rw [e1]; exact a1) (by rw [e1]; exact a2) a3)
theorem zi_iald (O : zOK own cc nL ret rm p R s m args meth c D dA A) {q N a : Nat} {f : Nat → Int32} {i : Int32} (d : decode cc pc = .ok (.iaload, 1)) (he : h[q]? = some (.inl (0, N, .inl f))) (hi : i = nI a) (ha : a < N) (hN : N < 2 ^ 31) (K : zG p l e R s m args below meth c D dA A ad0 n0 nL Q mc ms k n (pc + 1) ls (.int (f a) :: st) h) : zG p l e R s m args below meth c D dA A ad0 n0 nL Q mc ms k n pc ls (.int i :: .ref q :: st) h := by
  subst hi
  obtain ⟨-, o1, o2, o3, o4, o5, o6, o7, o8, o9, o10⟩ := O
  intro ad H locs L h1 h2 h3 h4 h5
  refine va_iald o1 o2 o8 h3 q 0 (zw_at q he) rfl (vp_in_nI ha hN) d ?_
  rw [nI_clamp (by omega)]
  exact K ad H locs L h1 h2 h3 h4 h5
theorem zi_iast (O : zOK own cc nL ret rm p R s m args meth c D dA A) {q N a : Nat} {f : Nat → Int32} {i x : Int32} {h' : List zE} (d : decode cc pc = .ok (.iastore, 1)) (he : h[q]? = some (.inl (0, N, .inl f))) (hi : i = nI a) (ha : a < N) (hN : N < 2 ^ 31) (hh : h.set q (.inl (0, N, .inl (upd f a x))) = h') (K : zG p l e R s m args below meth c D dA A ad0 n0 nL Q mc ms k n (pc + 1) ls st h') : zG p l e R s m args below meth c D dA A ad0 n0 nL Q mc ms k n pc ls (.int x :: .int i :: .ref q :: st) h := by
  subst hi
  subst hh
  obtain ⟨-, o1, o2, o3, o4, o5, o6, o7, o8, o9, o10⟩ := O
  intro ad H locs L h1 h2 h3 h4 h5
  refine va_iast o1 o2 o8 h3 h4 h5 q 0 (zw_at q he) rfl (vp_in_nI ha hN) d ?_
  rw [nI_clamp (by omega)]
  exact fun H1 locs1 a1 a2 a3 => K ad H1 locs1 L h1 h2 (by rw [zw_set]; exact a1) (by rw [zw_set]; exact a2) a3
theorem zi_alen (O : zOK own cc nL ret rm p R s m args meth c D dA A) {q N : Nat} {f : Nat → Int32} (d : decode cc pc = .ok (.arraylength, 1)) (he : h[q]? = some (.inl (0, N, .inl f))) (K : zG p l e R s m args below meth c D dA A ad0 n0 nL Q mc ms k n (pc + 1) ls (.int (nI N) :: st) h) : zG p l e R s m args below meth c D dA A ad0 n0 nL Q mc ms k n pc ls (.ref q :: st) h := by
  obtain ⟨-, o1, o2, o3, o4, o5, o6, o7, o8, o9, o10⟩ := O
  exact fun ad H locs L h1 h2 h3 h4 h5 => va_alen o1 o2 o8 h3 q 0 (zw_at q he) rfl rfl d (K ad H locs L h1 h2 h3 h4 h5)
end ZI
end
section
/-! CALLS: the callee's cells are those at the places ρ of the caller's; what it makes comes behind the caller's -/
def zr (ρ : List Nat) (N i : Nat) : Nat := (ρ[i]?).getD (N + (i - ρ.length))
def zset : List Nat → List zE → List zE → List zE
  | i :: ρ, e :: es, h => zset ρ es (h.set i e)
  | [], _, h => h
  | _ :: _, [], h => h
def zput (ρ : List Nat) (h h' : List zE) : List zE := zset ρ (h'.map (zc (zr ρ h.length))) h ++ (h'.drop ρ.length).map (zc (zr ρ h.length))
theorem zset_len : ∀ (ρ : List Nat) (es h : List zE), (zset ρ es h).length = h.length
  | i :: ρ, e :: es, h => by rw [zset, zset_len, List.length_set]
  | [], _, _ => by rw [zset]
  | _ :: _, [], _ => by rw [zset]
theorem zset_out : ∀ (ρ : List Nat) (es h : List zE) (j : Nat), j ∉ ρ → (zset ρ es h)[j]? = h[j]?
  | i :: ρ, e :: es, h, j, hj => by
    rw [zset, zset_out ρ es _ j (fun z => hj (List.mem_cons_of_mem _ z)), List.getElem?_set_ne (fun z => hj (by rw [z]; exact List.mem_cons_self))]
  | [], _, _, _, _ => by rw [zset]
  | _ :: _, [], _, _, _ => by rw [zset]
theorem zset_in : ∀ (ρ : List Nat) (es h : List zE) (i j : Nat) (e : zE), va_nd ρ = true → ρ[i]? = some j → es[i]? = some e → j < h.length → (zset ρ es h)[j]? = some e
  | [], _, _, i, j, e, _, h1, _, _ => by simp at h1
  | _ :: _, [], _, i, j, e, _, _, h2, _ => by simp at h2
  | a :: ρ, b :: es, h, i, j, e, hn, h1, h2, h3 => by
    simp only [va_nd, Bool.and_eq_true, decide_eq_true_eq] at hn
    rw [zset]
    cases i with
    | zero =>
      rw [List.getElem?_cons_zero] at h1 h2
      cases h1; cases h2
      rw [zset_out ρ es _ a hn.1, List.getElem?_set_self h3]
    | succ i =>
      rw [List.getElem?_cons_succ] at h1 h2
      exact zset_in ρ es _ i j e hn.2 h1 h2 (by rw [List.length_set]; exact h3)
section ZC
variable {own : String} {cc : ByteArray} {nL : Nat} {ret : Option FieldType} {rm : Room} {p : Program} {l : Launch} {e : Env} {R : Room} {s : State} {m : MethodId} {args : Array Value} {below : List Frame} {meth : Method} {c : Code} {D : va_G} {dA : Nat → ClassId} {A : Nat → Prop} {ad0 : Nat → Nat} {n0 : Nat} {Q : Option Value → List zE → Prop} {mc ms k n pc : Nat} {ls : List (Option Value)} {st : List Value} {h : List zE}
theorem z_sub {ρ : List Nat} {hC : List zE} (hh : ρ.map (fun i => h[i]?) = hC.map (fun x => some (zc (zr ρ h.length) x))) (ad : Nat → Nat) : ρ.map (fun i => (zw dA ad h)[i]?) = (zw dA (fun i => ad (zr ρ h.length i)) hC).map some := by
  apply List.ext_getElem?
  intro i
  have hi := congrArg (fun l => l[i]?) hh
  simp only [List.getElem?_map] at hi ⊢
  cases hρ : ρ[i]? with
  | none =>
    rw [hρ] at hi
    cases hx : hC[i]? with
    | none =>
      have hz : (zw dA (fun i => ad (zr ρ h.length i)) hC)[i]? = none := by rw [zw, List.getElem?_mapIdx, hx]; rfl
      rw [hz]; rfl
    | some x => rw [hx] at hi; cases hi
  | some j =>
    rw [hρ] at hi
    cases hx : hC[i]? with
    | none => rw [hx] at hi; cases hi
    | some x =>
      rw [hx] at hi
      have h1 : h[j]? = some (zc (zr ρ h.length) x) := Option.some.inj hi
      rw [zw_at i hx]
      show some ((zw dA ad h)[j]?) = some (some _)
      rw [zw_at j h1, zc_comp]
      have h2 : zr ρ h.length i = j := by rw [zr, hρ]; rfl
      rw [h2]
set_option maxHeartbeats 1000000 in
theorem zi_after (hA : ∀ q, s.heap.size ≤ q → A q) {ρ : List Nat} {hC : List zE} {Q' : Option Value → List zE → Prop} {st0 rest : List Value} {mc' ms' : Nat} {a : (Nat → Nat) → Array Value} (hnd : va_nd ρ = true) (hh : ρ.map (fun i => h[i]?) = hC.map (fun x => some (zc (zr ρ h.length) x))) (hok : h.all (zok h.length) = true) (hls : ls.all (zlok h.length) = true) (hst : rest.all (zvok h.length) = true) (hn0 : n0 ≤ h.length)
    (run : ∀ (ad : Nat → Nat) (H : Heap) (locs : List Loc) (L : Array Slot), lv_has L nL (zl ad ls) → va_P D vwCl (zw dA ad h) H → va_P D vwCl (zw dA (fun i => ad (zr ρ h.length i)) hC) H → va_D (fun _ => True) (zw dA (fun i => ad (zr ρ h.length i)) hC) →
      va_Run p l e R s m args below meth c H locs k n mc' ms' (F0 m pc L (st0.map (zv ad))) (rest.map (zv ad)) (zQc D dA (va_A (zw dA (fun i => ad (zr ρ h.length i)) hC) H.size) (fun i => ad (zr ρ h.length i)) hC.length Q' (a ad)) (va_A (zw dA (fun i => ad (zr ρ h.length i)) hC) H.size))
    (K : ∀ (r : Option Value) (h' : List zE), Q' r h' → hC.length ≤ h'.length → zG p l e R s m args below meth c D dA A ad0 n0 nL Q mc ms (k + mc') (n + ms') (pc + 3) ls ((r.map (zv (zr ρ h.length))).toList ++ rest) (zput ρ h h')) : zG p l e R s m args below meth c D dA A ad0 n0 nL Q mc ms k n pc ls st0 h := by
  intro ad H locs L h1 h2 h3 h4 h5
  have hlen : ρ.length = hC.length := by simpa using congrArg List.length hh
  have hsub := z_sub (dA := dA) hh ad
  have hρlt : ∀ i j : Nat, ρ[i]? = some j → j < h.length := by
    intro i j hi
    have h6 := congrArg (fun l => l[i]?) hh
    simp only [List.getElem?_map, hi] at h6
    cases hx : hC[i]? with
    | none => rw [hx] at h6; cases h6
    | some x => rw [hx] at h6; exact (List.getElem?_eq_some_iff.mp (Option.some.inj h6)).1
  generalize hadC : (fun i => ad (zr ρ h.length i)) = adC at hsub
  have at' : ∀ (i : Nat) (q : Nat × va_E), (zw dA adC hC)[i]? = some q → ∃ j, ρ[i]? = some j ∧ (zw dA ad h)[j]? = some q := by
    intro i q hq
    have h6 : (ρ.map (fun i => (zw dA ad h)[i]?))[i]? = some (some q) := by rw [hsub, List.getElem?_map, hq]; rfl
    rw [List.getElem?_map] at h6
    cases hi : ρ[i]? with
    | none => rw [hi] at h6; cases h6
    | some j => rw [hi] at h6; exact ⟨j, rfl, Option.some.inj h6⟩
  have hPc : va_P D vwCl (zw dA adC hC) H := by
    intro i q hq
    obtain ⟨j, -, hj⟩ := at' i q hq
    exact h3 j q hj
  have hDc : va_D A (zw dA adC hC) := h4.sub ρ hnd hsub
  have hFc : ∀ q, va_A (zw dA adC hC) H.size q → A q := va_free h4 h5 hA ρ hsub
  have run := run ad H locs L h2 h3 (by rw [hadC]; exact hPc) (by rw [hadC]; exact hDc.weaken (fun _ _ _ _ => trivial))
  rw [hadC] at run
  intro T hT X
  obtain ⟨v, st₀, t, T', L', e0, X', hL, e1, e2, ⟨⟨r, h', ad', hv, hq, had, hlen', hP', hK', hD'⟩, hz, hk⟩, stp⟩ := run T hT X
  cases hv
  rw [e0] at hz hk
  obtain ⟨ad2, had2⟩ : ∃ ad2 : Nat → Nat, ad2 = fun j => if j < h.length then ad j else ad' (ρ.length + (j - h.length)) := ⟨_, rfl⟩
  have hfg : ∀ i, i < h.length → ad i = ad2 i := fun i hi => by rw [had2]; exact (if_pos hi).symm
  have hcomp : ∀ i, ad2 (zr ρ h.length i) = ad' i := by
    intro i
    by_cases hi : i < ρ.length
    · have hj : ρ[i]? = some ρ[i] := List.getElem?_eq_getElem hi
      have hz1 : zr ρ h.length i = ρ[i] := by rw [zr, hj]; rfl
      rw [had i (by omega), ← hadC]
      show ad2 (zr ρ h.length i) = ad (zr ρ h.length i)
      rw [hz1, hfg _ (hρlt i _ hj)]
    · have hj : ρ[i]? = none := List.getElem?_eq_none (by omega)
      have hz1 : zr ρ h.length i = h.length + (i - ρ.length) := by rw [zr, hj]; rfl
      rw [hz1, had2]
      show (if h.length + (i - ρ.length) < h.length then _ else _) = _
      rw [if_neg (by omega)]
      congr 1
      omega
  have hzc : ∀ x, zc ad2 (zc (zr ρ h.length) x) = zc ad' x := by
    intro x
    rw [zc_comp]
    congr 1
    funext i
    exact hcomp i
  have key : ∀ (j : Nat) (q : Nat × va_E), (zw dA ad2 (zput ρ h h'))[j]? = some q → (∃ (i : Nat) (x : zE), h'[i]? = some x ∧ q = (ad' i, zD dA (zc ad' x)) ∧ zr ρ h.length i = j) ∨ (j < h.length ∧ j ∉ ρ ∧ (zw dA ad h)[j]? = some q) := by
    intro j q hj
    obtain ⟨x, hx, rfl⟩ := zw_inv hj
    rw [zput] at hx
    by_cases hl : j < h.length
    · rw [List.getElem?_append_left (by rw [zset_len]; exact hl)] at hx
      by_cases hm : j ∈ ρ
      · obtain ⟨i, hi⟩ := List.getElem?_of_mem hm
        have hil : i < ρ.length := (List.getElem?_eq_some_iff.mp hi).1
        have hy : h'[i]? = some h'[i] := List.getElem?_eq_getElem (by omega)
        rw [zset_in ρ _ h i j _ hnd hi (by rw [List.getElem?_map, hy]; rfl) hl] at hx
        cases hx
        have hzi : zr ρ h.length i = j := by rw [zr, hi]; rfl
        refine Or.inl ⟨i, _, hy, ?_, hzi⟩
        rw [hzc, ← hcomp i, hzi]
      · rw [zset_out _ _ _ _ hm] at hx
        refine Or.inr ⟨hl, hm, ?_⟩
        rw [zw_at j hx, hfg j hl, zc_eq hfg (List.all_eq_true.mp hok x (List.mem_of_getElem? hx))]
    · rw [List.getElem?_append_right (by rw [zset_len]; omega), zset_len, List.getElem?_map, List.getElem?_drop] at hx
      cases hy : h'[ρ.length + (j - h.length)]? with
      | none => rw [hy] at hx; cases hx
      | some y =>
        rw [hy] at hx
        cases hx
        have hzi : zr ρ h.length (ρ.length + (j - h.length)) = j := by
          rw [zr, List.getElem?_eq_none (by omega)]
          show h.length + _ = j
          omega
        refine Or.inl ⟨_, y, hy, ?_, hzi⟩
        rw [hzc, ← hcomp, hzi]
  have apart : ∀ (j : Nat) (q : Nat × va_E), j ∉ ρ → (zw dA ad h)[j]? = some q → q.1 < H.size ∧ ¬ va_A (zw dA adC hC) H.size q.1 := by
    intro j q hm hq2
    have hl := (h3 j q hq2).lt
    refine ⟨hl, fun hz2 => ?_⟩
    rcases hz2 with ⟨k2, x, hx⟩ | hx
    · obtain ⟨j2, hj2, hj3⟩ := at' k2 (q.1, x) hx
      have := h4.1 j j2 q (q.1, x) hq2 hj3 rfl
      subst this
      exact hm (List.mem_of_getElem? hj2)
    · omega
  have hP2 : va_P D vwCl (zw dA ad2 (zput ρ h h')) T'.heap := by
    intro j q hj
    rw [e1]
    rcases key j q hj with ⟨i, x, hx, rfl, -⟩ | ⟨hl, hm, hq2⟩
    · exact hP' i _ (zw_at i hx)
    · obtain ⟨a1, a2⟩ := apart j q hm hq2
      exact (h3 j q hq2).kept (hk q.1 a1 a2)
  have hD2 : va_D A (zw dA ad2 (zput ρ h h')) := by
    refine ⟨fun i j x y hi hj hxy => ?_, fun j q hj => ?_⟩
    · rcases key i x hi with ⟨i1, x1, a1, rfl, a3⟩ | ⟨a1, a2, a3⟩ <;> rcases key j y hj with ⟨i2, x2, b1, rfl, b3⟩ | ⟨b1, b2, b3⟩
      · have := hD'.1 i1 i2 _ _ (zw_at i1 a1) (zw_at i2 b1) hxy
        rw [← a3, ← b3, this]
      · exact absurd (by rw [← hxy]; exact hD'.2 i1 _ (zw_at i1 a1)) (apart j y b2 b3).2
      · exact absurd (by rw [hxy]; exact hD'.2 i2 _ (zw_at i2 b1)) (apart i x a2 a3).2
      · exact h4.1 i j x y a3 b3 hxy
    · rcases key j q hj with ⟨i1, x1, a1, rfl, a3⟩ | ⟨a1, a2, a3⟩
      · exact hFc _ (hD'.2 i1 _ (zw_at i1 a1))
      · exact h4.2 j q a3
  have hS2 : va_S A s.heap T'.heap (locs ++ L') := by
    refine ⟨Nat.le_trans h5.1 (by rw [e1]; exact hz), fun q a1 a2 => ?_, fun q hq => ?_⟩
    · rw [e1, hk q (Nat.lt_of_lt_of_le a1 h5.1) (fun z => a2 (hFc q z))]
      exact h5.2.1 q a1 a2
    · rcases List.mem_append.mp hq with h | h
      · exact h5.2.2 q h
      · exact hFc _ (hL q h)
  obtain ⟨t2, s1, s2⟩ := K r h' hq hlen' ad2 T'.heap (locs ++ L') L (fun i hi => by rw [← hfg i (by omega)]; exact h1 i hi) (zl_ext hfg hls h2) hP2 hD2 hS2 T' rfl X'
  refine ⟨t2, stp t2 ?_, s2⟩
  have e3 : ((r.map (zv (zr ρ h.length))).toList ++ rest).map (zv ad2) = (r.map (zv ad')).toList ++ rest.map (zv ad) := by
    rw [List.map_append, ← zs_ext hfg hst]
    congr 1
    cases r with
    | none => rfl
    | some v =>
      show [zv ad2 (zv _ v)] = [zv ad' v]
      rw [zv_comp]
      congr 2
      funext i
      exact hcomp i
  rw [e3] at s1
  exact s1

theorem zt_goodIn {w : Cond} (h : w ∈ zt) : GoodIn zt (w :: zt) := by
  intro v hv
  rcases List.mem_cons.mp hv with rfl | hv
  · exact ⟨h, good_of_word (zt_good h)⟩
  · exact ⟨hv, good_of_word (zt_good hv)⟩
/-- what a call at an entry of the pool says: the method, its class's number, how many arguments -/
def zCB (y : MethodName) (np : Nat) : Prop := Cond.initialized y.cls ∈ zt ∧ y.cls ≠ "java/lang/invoke/MethodHandle" ∧ y.cls ≠ "java/lang/invoke/VarHandle" ∧ (parseMethodDescriptor y.desc).map (fun d => d.parameters.length) = some np
def zCV (own : String) (index : Nat) (y : MethodName) (ci np : Nat) : Prop := zCB y np ∧ Cond.methodLink own index y ∈ zt ∧ Cond.instanceMethod y ∈ zt ∧ Cond.selects y.cls y y ∈ zt ∧ (vwCl[ci]?).map (fun x => x.1) = some y.cls
def zCS (own : String) (index : Nat) (y : MethodName) (np : Nat) : Prop := zCB y np ∧ Cond.methodLink own index y ∈ zt ∧ Cond.static y ∈ zt
def zCI (own : String) (index : Nat) (y : MethodName) (np : Nat) : Prop := zCB y np ∧ (Cond.methodLink own index y ∈ zt ∨ ∃ host, (own, index, y, host) ∈ zNs) ∧ Cond.instanceMethod y ∈ zt ∧ y.name = "<init>"
theorem z_blind {av : List Value} {D : va_G} {dA : Nat → ClassId} {sz : Nat} {w : va_W} : FrameBlind (va_Pc av (fun U => U.heap.size = sz ∧ va_P D vwCl w U.heap ∧ va_K D vwCl (ztys dA) U ∧ va_D (fun _ => True) w ∧ zNst U)) := by
  intro a U g mk q
  obtain ⟨q0, q1, qP, qK, qD, qN⟩ := q
  exact ⟨q0, q1, qP, va_K.moved (u := U) (U := U.calling g mk a) (Vm.Alike.refl U.vm) qK, qD, fun x hx => va_Nw.same rfl (u := U) (U := U.calling g mk a) rfl (qN x hx)⟩
theorem z_stk (f g : Nat → Nat) (As : List Value) : (As.map (zv (fun i => f (g i)))).reverse = ((As.map (zv g)).reverse).map (zv f) := by
  rw [List.map_reverse, List.map_map]
  congr 1
  apply List.map_congr_left
  intro v _
  exact (zv_comp f g v).symm
theorem z_cat (f : Nat → Nat) (st : List Value) : (st.map (zv f)).map (fun v => v.category) = st.map (fun v => v.category) := by
  rw [List.map_map]
  apply List.map_congr_left
  intro v _
  exact zv_cat f v
set_option maxHeartbeats 1000000 in
theorem zi_callV (O : zOK own cc nL ret rm p R s m args meth c D dA A) {index ci np : Nat} {y : MethodName} {cc' : ByteArray} {nL' : Nat} {ret' : Option FieldType} {rm' : Room} {a0 : Nat} {As : List Value} {hC : List zE} {Q' : Option Value → List zE → Prop} {rest : List Value} {fs : List Value} (ρ : List Nat)
    (C : zCV own index y ci np) (cm : Cond.code y cc' nL' ret' ∈ zt) (hM : zMet y cc' nL' ret' rm' (.ref a0 :: As) hC Q') (d : decode cc pc = .ok (.invokevirtual index, 3)) (hR : rm'.frames + 1 ≤ rm.frames ∧ 8 + (nL' + 11) + rm'.locals ≤ rm.locals) (hf : k + rm'.cells ≤ rm.cells ∧ n + rm'.slots ≤ rm.slots) (hnA : As.length = np) (hrec : hC[a0]? = some (.inr (ci, fs))) (hrs : (rest.map fun v => v.category).sum ≤ 8)
    (hnd : va_nd ρ = true) (hh : ρ.map (fun i => h[i]?) = hC.map (fun x => some (zc (zr ρ h.length) x))) (hok : h.all (zok h.length) = true) (hls : ls.all (zlok h.length) = true) (hst : rest.all (zvok h.length) = true) (hn0 : n0 ≤ h.length) (hstk : st = (As.map (zv (zr ρ h.length))).reverse ++ .ref (zr ρ h.length a0) :: rest)
    (K : ∀ (r : Option Value) (h' : List zE), Q' r h' → hC.length ≤ h'.length → zG p l e R s m args below meth c D dA A ad0 n0 nL Q mc ms (k + rm'.cells) (n + rm'.slots) (pc + 3) ls ((r.map (zv (zr ρ h.length))).toList ++ rest) (zput ρ h h')) : zG p l e R s m args below meth c D dA A ad0 n0 nL Q mc ms k n pc ls st h := by
  obtain ⟨rfl, o1, o2, o3, o4, o5, o6, o7, o8, o9, o10⟩ := O
  obtain ⟨⟨c1, c2, c3, c4⟩, c5, c6, c7, c8⟩ := C
  subst hstk
  refine zi_after o9 hnd hh hok hls hst hn0 (a := fun ad => (Value.ref (ad (zr ρ h.length a0)) :: As.map (zv (fun i => ad (zr ρ h.length i)))).toArray) ?_ K
  intro ad H locs L hL h3 hPc hDc
  obtain ⟨q, hq⟩ : ∃ q, vwCl[ci]? = some q := by
    cases hx : vwCl[ci]? with
    | none => rw [hx] at c8; cases c8
    | some q => exact ⟨q, rfl⟩
  have hq1 : q.1 = y.cls := by rw [hq] at c8; exact Option.some.inj c8
  have hcw : CallW R s args own y.cls index y cc' nL' ret' (.code y cc' nL' ret' :: zt) rm' rm'.cells rm'.slots np := ⟨callB_of np o5 (zt_goodIn cm) rfl rfl rfl (o5 _ c1) (o5 _ c5) ⟨c2, c3, c4⟩ hR, o5 _ c6, o5 _ c7⟩
  refine va_runV (As := As.map (zv (fun i => ad (zr ρ h.length i)))) (b := ad (zr ρ h.length a0)) ⟨o1, o2, o3, o4, o5⟩ (hM l D dA (fun i => ad (zr ρ h.length i)) H.size) hcw ⟨z_blind, ?_, fun U hU hW => ⟨rfl, by rw [hU], by rw [hU]; exact hPc, va_K.moved hW.alike o8, hDc, zNst.warm hW o10⟩⟩ rfl (by rw [List.length_map]; exact hnA) hL.1 ?_ (lv_room (by rw [z_cat]; exact hrs)) d hf
  · have := va_recv o8 hPc hq (zw_at a0 hrec)
    rw [hq1] at this
    exact this
  · show List.map (zv ad) _ = _
    rw [List.map_append, z_stk ad (zr ρ h.length) As]
    rfl
set_option maxHeartbeats 1000000 in
theorem zi_callS (O : zOK own cc nL ret rm p R s m args meth c D dA A) {index np : Nat} {y : MethodName} {cc' : ByteArray} {nL' : Nat} {ret' : Option FieldType} {rm' : Room} {As : List Value} {hC : List zE} {Q' : Option Value → List zE → Prop} {rest : List Value} (ρ : List Nat)
    (C : zCS own index y np) (cm : Cond.code y cc' nL' ret' ∈ zt) (hM : zMet y cc' nL' ret' rm' As hC Q') (d : decode cc pc = .ok (.invokestatic index, 3)) (hR : rm'.frames + 1 ≤ rm.frames ∧ 8 + (nL' + 11) + rm'.locals ≤ rm.locals) (hf : k + rm'.cells ≤ rm.cells ∧ n + rm'.slots ≤ rm.slots) (hnA : As.length = np) (hrs : (rest.map fun v => v.category).sum ≤ 8)
    (hnd : va_nd ρ = true) (hh : ρ.map (fun i => h[i]?) = hC.map (fun x => some (zc (zr ρ h.length) x))) (hok : h.all (zok h.length) = true) (hls : ls.all (zlok h.length) = true) (hst : rest.all (zvok h.length) = true) (hn0 : n0 ≤ h.length) (hstk : st = (As.map (zv (zr ρ h.length))).reverse ++ rest)
    (K : ∀ (r : Option Value) (h' : List zE), Q' r h' → hC.length ≤ h'.length → zG p l e R s m args below meth c D dA A ad0 n0 nL Q mc ms (k + rm'.cells) (n + rm'.slots) (pc + 3) ls ((r.map (zv (zr ρ h.length))).toList ++ rest) (zput ρ h h')) : zG p l e R s m args below meth c D dA A ad0 n0 nL Q mc ms k n pc ls st h := by
  obtain ⟨rfl, o1, o2, o3, o4, o5, o6, o7, o8, o9, o10⟩ := O
  obtain ⟨⟨c1, c2, c3, c4⟩, c5, c6⟩ := C
  subst hstk
  refine zi_after o9 hnd hh hok hls hst hn0 (a := fun ad => (As.map (zv (fun i => ad (zr ρ h.length i)))).toArray) ?_ K
  intro ad H locs L hL h3 hPc hDc
  have hcw : CallB R s args own index y cc' nL' ret' (.code y cc' nL' ret' :: zt) rm' rm'.cells rm'.slots np := callB_of np o5 (zt_goodIn cm) rfl rfl rfl (o5 _ c1) (o5 _ c5) ⟨c2, c3, c4⟩ hR
  refine va_runS (As := As.map (zv (fun i => ad (zr ρ h.length i)))) ⟨o1, o2, o3, o4, o5⟩ (hM l D dA (fun i => ad (zr ρ h.length i)) H.size) ⟨hcw, o5 _ c6⟩ ⟨z_blind, fun U hU hW => ⟨rfl, by rw [hU], by rw [hU]; exact hPc, va_K.moved hW.alike o8, hDc, zNst.warm hW o10⟩⟩ rfl (by rw [List.length_map]; exact hnA) hL.1 ?_ (lv_room (by rw [z_cat]; exact hrs)) d hf
  show List.map (zv ad) _ = _
  rw [List.map_append, z_stk ad (zr ρ h.length) As]
set_option maxHeartbeats 1000000 in
theorem zi_callI (O : zOK own cc nL ret rm p R s m args meth c D dA A) {index np : Nat} {y : MethodName} {cc' : ByteArray} {nL' : Nat} {rm' : Room} {a0 : Nat} {As : List Value} {hC : List zE} {Q' : Option Value → List zE → Prop} {rest : List Value} (ρ : List Nat)
    (C : zCI own index y np) (cm : Cond.code y cc' nL' none ∈ zt) (hM : zMet y cc' nL' none rm' (.ref a0 :: As) hC Q') (d : decode cc pc = .ok (.invokespecial index, 3)) (hR : rm'.frames + 1 ≤ rm.frames ∧ 8 + (nL' + 11) + rm'.locals ≤ rm.locals) (hf : k + rm'.cells ≤ rm.cells ∧ n + rm'.slots ≤ rm.slots) (hnA : As.length = np) (hrs : (rest.map fun v => v.category).sum ≤ 8)
    (hnd : va_nd ρ = true) (hh : ρ.map (fun i => h[i]?) = hC.map (fun x => some (zc (zr ρ h.length) x))) (hok : h.all (zok h.length) = true) (hls : ls.all (zlok h.length) = true) (hst : rest.all (zvok h.length) = true) (hn0 : n0 ≤ h.length) (hstk : st = (As.map (zv (zr ρ h.length))).reverse ++ .ref (zr ρ h.length a0) :: rest)
    (K : ∀ (r : Option Value) (h' : List zE), Q' r h' → hC.length ≤ h'.length → zG p l e R s m args below meth c D dA A ad0 n0 nL Q mc ms (k + rm'.cells) (n + rm'.slots) (pc + 3) ls ((r.map (zv (zr ρ h.length))).toList ++ rest) (zput ρ h h')) : zG p l e R s m args below meth c D dA A ad0 n0 nL Q mc ms k n pc ls st h := by
  obtain ⟨rfl, o1, o2, o3, o4, o5, o6, o7, o8, o9, o10⟩ := O
  obtain ⟨⟨c1, c2, c3, c4⟩, c5, c6, c7⟩ := C
  subst hstk
  refine zi_after o9 hnd hh hok hls hst hn0 (a := fun ad => (Value.ref (ad (zr ρ h.length a0)) :: As.map (zv (fun i => ad (zr ρ h.length i)))).toArray) ?_ K
  intro ad H locs L hL h3 hPc hDc
  rcases c5 with c5 | ⟨host, c5⟩
  · have hcw : CallB R s args own index y cc' nL' none (.code y cc' nL' none :: zt) rm' rm'.cells rm'.slots np := callB_of np o5 (zt_goodIn cm) rfl rfl rfl (o5 _ c1) (o5 _ c5) ⟨c2, c3, c4⟩ hR
    refine va_runI (As := As.map (zv (fun i => ad (zr ρ h.length i)))) (b := ad (zr ρ h.length a0)) ⟨o1, o2, o3, o4, o5⟩ (hM l D dA (fun i => ad (zr ρ h.length i)) H.size) ⟨hcw, c7, o5 _ c6⟩ ⟨z_blind, fun U hU hW => ⟨rfl, by rw [hU], by rw [hU]; exact hPc, va_K.moved hW.alike o8, hDc, zNst.warm hW o10⟩⟩ rfl (by rw [List.length_map]; exact hnA) hL.1 ?_ (lv_room (by rw [z_cat]; exact hrs)) d hf
    show List.map (zv ad) _ = _
    rw [List.map_append, z_stk ad (zr ρ h.length) As]
    rfl
  · have hcw : va_CN R s args own index y host cc' nL' none (.code y cc' nL' none :: zt) rm' rm'.cells rm'.slots np := va_cnB np o5 (zt_goodIn cm) rfl rfl rfl (o10 _ c5) (o5 _ c1) ⟨c2, c3, c4⟩ hR
    refine va_runIN (As := As.map (zv (fun i => ad (zr ρ h.length i)))) (b := ad (zr ρ h.length a0)) ⟨o1, o2, o3, o4, o5⟩ (hM l D dA (fun i => ad (zr ρ h.length i)) H.size) ⟨hcw, c7, o5 _ c6⟩ ⟨z_blind, fun U hU hW => ⟨rfl, by rw [hU], by rw [hU]; exact hPc, va_K.moved hW.alike o8, hDc, zNst.warm hW o10⟩⟩ rfl (by rw [List.length_map]; exact hnA) hL.1 ?_ (lv_room (by rw [z_cat]; exact hrs)) d hf
    show List.map (zv ad) _ = _
    rw [List.map_append, z_stk ad (zr ρ h.length) As]
    rfl
end ZC
end
section
/-! more instructions: making cells, division, constants, copying; and numbers as naturals -/
section ZM
variable {own : String} {cc : ByteArray} {nL : Nat} {ret : Option FieldType} {rm : Room} {p : Program} {l : Launch} {e : Env} {R : Room} {s : State} {m : MethodId} {args : Array Value} {below : List Frame} {meth : Method} {c : Code} {D : va_G} {dA : Nat → ClassId} {A : Nat → Prop} {ad0 : Nat → Nat} {n0 : Nat} {Q : Option Value → List zE → Prop} {mc ms k n pc : Nat} {ls : List (Option Value)} {st : List Value} {h : List zE}
theorem z_newcell {ad : Nat → Nat} {H1 : Heap} {q : Nat} {x : zE} (hok : h.all (zok h.length) = true) (hx : zok 0 x = true) : zw dA (fun j => if j = h.length then q else ad j) (h ++ [x]) = zw dA ad h ++ [(q, zD dA (zc ad x))] := by
  have hfg : ∀ i, i < h.length → (fun j => if j = h.length then q else ad j) i = ad i := fun i hi => by
    show (if i = h.length then q else ad i) = ad i
    rw [if_neg (by omega)]
  rw [zw_push, zw_ext (Nat.le_refl _) hfg hok, zc_eq (f := fun j => if j = h.length then q else ad j) (g := ad) (N := 0) (fun i hi => absurd hi (Nat.not_lt_zero i)) hx]
  show _ ++ [((if h.length = h.length then q else ad h.length), _)] = _
  rw [if_pos rfl]
theorem zi_new (O : zOK own cc nL ret rm p R s m args meth c D dA A) {index ci N : Nat} {C : String} {T : u_T} {ty : Nat → FieldType} {fs : List Value} (d : decode cc pc = .ok (.new index, 3)) (hc : vwCl[ci]? = some (C, T, N)) (hin : ∀ w ∈ u_ws C T N, w ∈ zt) (hty : ∀ k, k < N → parseFieldDescriptor (T k).2.2.1 = some (ty k)) (w1 : Cond.classLink own index C ∈ zt) (w2 : Cond.instantiable C N ∈ zt) (w3 : Cond.initialized C ∈ zt) (hfs : ∀ j, j < N → defaultValue (ty j) = vp_V fs j) (hfo : zok 0 (.inr (ci, fs)) = true) (hk : k + 1 ≤ rm.cells) (hn : n + N ≤ rm.slots)
    (hok : h.all (zok h.length) = true) (hls : ls.all (zlok h.length) = true) (hst : st.all (zvok h.length) = true) (hn0 : n0 ≤ h.length) (K : zG p l e R s m args below meth c D dA A ad0 n0 nL Q mc ms (k + 1) (n + N) (pc + 3) ls (.ref h.length :: st) (h ++ [.inr (ci, fs)])) : zG p l e R s m args below meth c D dA A ad0 n0 nL Q mc ms k n pc ls st h := by
  obtain ⟨rfl, o1, o2, o3, o4, o5, o6, o7, o8, o9, o10⟩ := O
  intro ad H locs L h1 h2 h3 h4 h5
  refine va_new (ci := ci) (fs := fs) (C := C) (T := T) (N := N) o1 o2 o5 hin ty hty o4 (o5 _ w1) (o5 _ w2) (o5 _ w3) o8 h3 h4 h5 o9 hc hfs hk hn d (fun q H1 hP hD hS => ?_)
  have hfg : ∀ i, i < h.length → ad i = (fun j => if j = h.length then q else ad j) i := fun i hi => by
    show ad i = (if i = h.length then q else ad i)
    rw [if_neg (by omega)]
  have he : zD dA (zc ad (.inr (ci, fs))) = .inr (ci, fs) := by
    have : fs.map (zv ad) = fs := by
      conv => rhs; rw [← List.map_id fs]
      apply List.map_congr_left
      intro v hv
      have h6 := List.all_eq_true.mp hfo v hv
      cases v with
      | ref a => simp [zvok] at h6
      | _ => rfl
    show Sum.inr (ci, fs.map (zv ad)) = _
    rw [this]
  have hw := z_newcell (dA := dA) (ad := ad) (H1 := H1) (q := q) hok hfo
  rw [he] at hw
  have := K (fun j => if j = h.length then q else ad j) H1 locs L (fun i hi => (hfg i (by omega)).symm.trans (h1 i hi)) (zl_ext hfg hls h2) (by rw [hw]; exact hP) (by rw [hw]; exact hD) hS
  rw [List.map_cons, ← zs_ext hfg hst] at this
  rw [show zv (fun j => if j = h.length then q else ad j) (.ref h.length) = .ref q by show Value.ref (if h.length = h.length then q else _) = _; rw [if_pos rfl]] at this
  exact this
theorem z_dA {D : va_G} {cA : ClassId} (h1 : va_K D vwCl (ztys dA) s) (h2 : va_K D vwCl (ztys dA ++ [(cA, .int)]) s) : cA = dA 0 := by
  have a := (h1.2 0 _ rfl).2
  have b := (h2.2 1 _ rfl).2
  exact Option.some.inj (b.symm.trans a)
theorem zi_newa (O : zOK own cc nL ret rm p R s m args meth c D dA A) {x : Int32} {N : Nat} (d : decode cc pc = .ok (.newarray .int, 2)) (w1 : Cond.arrayClass .int ∈ zt) (hx : x = nI N) (hN : N ≤ 1000) (hk : k + 1 ≤ rm.cells) (hn : n + N ≤ rm.slots)
    (hok : h.all (zok h.length) = true) (hls : ls.all (zlok h.length) = true) (hst : st.all (zvok h.length) = true) (hn0 : n0 ≤ h.length) (K : zG p l e R s m args below meth c D dA A ad0 n0 nL Q mc ms (k + 1) (n + N) (pc + 2) ls (.ref h.length :: st) (h ++ [.inl (0, N, .inl (fun _ => 0))])) : zG p l e R s m args below meth c D dA A ad0 n0 nL Q mc ms k n pc ls (.int x :: st) h := by
  obtain ⟨rfl, o1, o2, o3, o4, o5, o6, o7, o8, o9, o10⟩ := O
  subst hx
  intro ad H locs L h1 h2 h3 h4 h5
  refine va_newa (atype := .int) (ty := .int) (a0 := (N, .inl (fun _ => 0))) (N' := N) o1 o2 (o5 _ w1) rfl o8 h3 h4 h5 o9 (fun cA => rfl) (nI_pos (by omega)) (nI_clamp (by omega)) (by show N * 4 ≤ _; omega) hk hn d (fun q cA H1 hK hP hD hS => ?_)
  have hcA := z_dA o8 hK
  subst hcA
  have hfg : ∀ i, i < h.length → ad i = (fun j => if j = h.length then q else ad j) i := fun i hi => by
    show ad i = (if i = h.length then q else ad i)
    rw [if_neg (by omega)]
  have hw := z_newcell (dA := dA) (ad := ad) (H1 := H1) (q := q) (x := .inl (0, N, .inl (fun _ => 0))) hok rfl
  have := K (fun j => if j = h.length then q else ad j) H1 locs L (fun i hi => (hfg i (by omega)).symm.trans (h1 i hi)) (zl_ext hfg hls h2) (by rw [hw]; exact hP) (by rw [hw]; exact hD) hS
  rw [List.map_cons, ← zs_ext hfg hst] at this
  rw [show zv (fun j => if j = h.length then q else ad j) (.ref h.length) = .ref q by show Value.ref (if h.length = h.length then q else _) = _; rw [if_pos rfl]] at this
  exact this
theorem zi_objInit (O : zOK own cc nL ret rm p R s m args meth c D dA A) {idx a : Nat} (d : decode cc pc = .ok (.invokespecial idx, 3)) (w1 : Cond.methodLink own idx objectInit ∈ zt) (w2 : Cond.instanceMethod objectInit ∈ zt) (w3 : Cond.code objectInit ⟨#[0xb1]⟩ 1 none ∈ zt) (hf : 1 ≤ rm.frames) (hl : (st.map fun v => v.category).sum + 12 ≤ rm.locals) (K : zG p l e R s m args below meth c D dA A ad0 n0 nL Q mc ms k n (pc + 3) ls st h) : zG p l e R s m args below meth c D dA A ad0 n0 nL Q mc ms k n pc ls (.ref a :: st) h := by
  obtain ⟨rfl, o1, o2, o3, o4, o5, o6, o7, o8, o9, o10⟩ := O
  intro ad H locs L h1 h2 h3 h4 h5
  refine W.objInit o1 o2 o4 (o5 _ w1) (o5 _ w2) (o5 _ w3) rfl (by rw [o3]; exact h2.1) rfl d hf ?_ (K ad H locs L h1 h2 h3 h4 h5)
  show 0 + _ + 12 ≤ _
  rw [z_cat, Nat.zero_add]
  exact hl
theorem zi_copy (O : zOK own cc nL ret rm p R s m args meth c D dA A) {index q1 q2 N1 N2 a1 a2 b : Nat} {f g : Nat → Int32} {x1 x2 y : Int32} {h' : List zE} (d : decode cc pc = .ok (.invokestatic index, 3)) (w1 : Cond.methodLink own index arraycopyName ∈ zt) (w2 : Cond.native arraycopyName ∈ zt) (w3 : Cond.static arraycopyName ∈ zt) (w4 : Cond.initialized "java/lang/System" ∈ zt) (he1 : h[q1]? = some (.inl (0, N1, .inl f))) (he2 : h[q2]? = some (.inl (0, N2, .inl g))) (hx1 : x1 = nI a1) (hx2 : x2 = nI a2) (hy : y = nI b) (hb1 : a1 + b ≤ N1) (hb2 : a2 + b ≤ N2) (hN1 : N1 ≤ 1000) (hN2 : N2 ≤ 1000) (hf : 1 ≤ rm.frames) (hl : (st.map fun v => v.category).sum + (nativeFrameWords "java/lang/System" "arraycopy" 5 + 11) ≤ rm.locals)
    (hh : h.set q2 (.inl (0, N2, .inl (va_cpy f g a1 a2 b))) = h') (K : zG p l e R s m args below meth c D dA A ad0 n0 nL Q mc ms k n (pc + 3) ls st h') : zG p l e R s m args below meth c D dA A ad0 n0 nL Q mc ms k n pc ls (.int y :: .int x2 :: .ref q2 :: .int x1 :: .ref q1 :: st) h := by
  obtain ⟨rfl, o1, o2, o3, o4, o5, o6, o7, o8, o9, o10⟩ := O
  subst hx1; subst hx2; subst hy; subst hh
  intro ad H locs L h1 h2 h3 h4 h5
  have e1 : (nI a1).toNatClampNeg = a1 := nI_clamp (by omega)
  have e2 : (nI a2).toNatClampNeg = a2 := nI_clamp (by omega)
  have e3 : (nI b).toNatClampNeg = b := nI_clamp (by omega)
  refine va_copyi (rest := st.map (zv ad)) o1 o2 (by rw [o3]; exact h2.1.symm) o4 (o5 _ w1) (o5 _ w2) (o5 _ w3) (o5 _ w4) o8 h3 h4 h5 q1 q2 0 0 (zw_at q1 he1) (zw_at q2 he2) rfl rfl rfl (nI_pos (by omega)) (nI_pos (by omega)) (nI_pos (by omega)) (by rw [e1, e3]; exact hb1) (by rw [e2, e3]; exact hb2) (fun i _ => rfl) hf (by rw [z_cat]; exact hl) d ?_
  rw [e1, e2, e3]
  exact fun H1 locs1 a1 a2 a3 => K ad H1 locs1 L h1 h2 (by rw [zw_set]; exact a1) (by rw [zw_set]; exact a2) a3
theorem zi_iconstN (O : zOK own cc nL ret rm p R s m args meth c D dA A) {x : Int} (v : Nat) (d : decode cc pc = .ok (.iconst x, 1)) (hv : Int32.ofInt x = nI v) (K : zG p l e R s m args below meth c D dA A ad0 n0 nL Q mc ms k n (pc + 1) ls (.int (nI v) :: st) h) : zG p l e R s m args below meth c D dA A ad0 n0 nL Q mc ms k n pc ls st h := zi_iconst O d hv K
theorem zi_bipushN (O : zOK own cc nL ret rm p R s m args meth c D dA A) {x : Int} (v : Nat) (d : decode cc pc = .ok (.bipush x, 2)) (hv : (Int8.ofInt x).toInt32 = nI v) (K : zG p l e R s m args below meth c D dA A ad0 n0 nL Q mc ms k n (pc + 2) ls (.int (nI v) :: st) h) : zG p l e R s m args below meth c D dA A ad0 n0 nL Q mc ms k n pc ls st h := zi_bipush O d hv K
theorem zi_sipushN (O : zOK own cc nL ret rm p R s m args meth c D dA A) {x : Int} (v : Nat) (d : decode cc pc = .ok (.sipush x, 3)) (hv : (Int16.ofInt x).toInt32 = nI v) (K : zG p l e R s m args below meth c D dA A ad0 n0 nL Q mc ms k n (pc + 3) ls (.int (nI v) :: st) h) : zG p l e R s m args below meth c D dA A ad0 n0 nL Q mc ms k n pc ls st h := zi_sipush O d hv K
theorem zi_iaddN (O : zOK own cc nL ret rm p R s m args meth c D dA A) {a b : Nat} (d : decode cc pc = .ok (.iadd, 1)) (K : zG p l e R s m args below meth c D dA A ad0 n0 nL Q mc ms k n (pc + 1) ls (.int (nI (a + b)) :: st) h) : zG p l e R s m args below meth c D dA A ad0 n0 nL Q mc ms k n pc ls (.int (nI b) :: .int (nI a) :: st) h := zi_iadd O d (zi_top (nI_add a b) K)
theorem zi_isubN (O : zOK own cc nL ret rm p R s m args meth c D dA A) {a b : Nat} (d : decode cc pc = .ok (.isub, 1)) (hb : b ≤ a) (K : zG p l e R s m args below meth c D dA A ad0 n0 nL Q mc ms k n (pc + 1) ls (.int (nI (a - b)) :: st) h) : zG p l e R s m args below meth c D dA A ad0 n0 nL Q mc ms k n pc ls (.int (nI b) :: .int (nI a) :: st) h := zi_isub O d (zi_top (pk_sub hb) K)
theorem zi_imulN (O : zOK own cc nL ret rm p R s m args meth c D dA A) {a b : Nat} (d : decode cc pc = .ok (.imul, 1)) (K : zG p l e R s m args below meth c D dA A ad0 n0 nL Q mc ms k n (pc + 1) ls (.int (nI (a * b)) :: st) h) : zG p l e R s m args below meth c D dA A ad0 n0 nL Q mc ms k n pc ls (.int (nI b) :: .int (nI a) :: st) h := zi_imul O d (zi_top (pk_mul a b) K)
theorem zi_idivN (O : zOK own cc nL ret rm p R s m args meth c D dA A) {a b : Nat} (d : decode cc pc = .ok (.idiv, 1)) (ha : a < 2 ^ 31) (hb : 0 < b) (hb2 : b < 2 ^ 31) (K : zG p l e R s m args below meth c D dA A ad0 n0 nL Q mc ms k n (pc + 1) ls (.int (nI (a / b)) :: st) h) : zG p l e R s m args below meth c D dA A ad0 n0 nL Q mc ms k n pc ls (.int (nI b) :: .int (nI a) :: st) h :=
  fun ad H locs L h1 h2 h3 h4 h5 => lv_idiv O.2.1 O.2.2.1 d (nI_ne0 hb hb2) (by rw [pk_div ha hb hb2]; exact K ad H locs L h1 h2 h3 h4 h5)
theorem zi_iremN (O : zOK own cc nL ret rm p R s m args meth c D dA A) {a b : Nat} (d : decode cc pc = .ok (.irem, 1)) (ha : a < 2 ^ 31) (hb : 0 < b) (hb2 : b < 2 ^ 31) (K : zG p l e R s m args below meth c D dA A ad0 n0 nL Q mc ms k n (pc + 1) ls (.int (nI (a % b)) :: st) h) : zG p l e R s m args below meth c D dA A ad0 n0 nL Q mc ms k n pc ls (.int (nI b) :: .int (nI a) :: st) h :=
  fun ad H locs L h1 h2 h3 h4 h5 => lv_irem O.2.1 O.2.2.1 d (nI_ne0 hb hb2) (by rw [pk_rem ha hb hb2]; exact K ad H locs L h1 h2 h3 h4 h5)
theorem zi_ishrN (O : zOK own cc nL ret rm p R s m args meth c D dA A) {a : Nat} (v w : Nat) (d : decode cc pc = .ok (.ishr, 1)) (hv : ((nI v &&& 31).toBitVec.smod 32).toNat = w) (ha : a < 2 ^ 31) (K : zG p l e R s m args below meth c D dA A ad0 n0 nL Q mc ms k n (pc + 1) ls (.int (nI (a / 2 ^ w)) :: st) h) : zG p l e R s m args below meth c D dA A ad0 n0 nL Q mc ms k n pc ls (.int (nI v) :: .int (nI a) :: st) h := zi_ishr O d (zi_top (pk_shrN ha _ w hv) K)
theorem zi_iandN (O : zOK own cc nL ret rm p R s m args meth c D dA A) {a : Nat} (v w : Nat) (d : decode cc pc = .ok (.iand, 1)) (hv : (nI v).toBitVec.toNat = 2 ^ w - 1) (ha : a < 2 ^ 32) (K : zG p l e R s m args below meth c D dA A ad0 n0 nL Q mc ms k n (pc + 1) ls (.int (nI (a % 2 ^ w)) :: st) h) : zG p l e R s m args below meth c D dA A ad0 n0 nL Q mc ms k n pc ls (.int (nI v) :: .int (nI a) :: st) h := zi_iand O d (zi_top (pk_andN ha w hv) K)
theorem zi_icmp_eqN (O : zOK own cc nL ret rm p R s m args meth c D dA A) {a b : Nat} {off : Int} (tgt : Nat) (d : decode cc pc = .ok (.if_icmp .eq off, 3)) (ht : (pc : Int) + off = (tgt : Int)) (ha : a < 2 ^ 31) (hb : b < 2 ^ 31) (kt : a = b → zG p l e R s m args below meth c D dA A ad0 n0 nL Q mc ms k n tgt ls st h) (kf : a ≠ b → zG p l e R s m args below meth c D dA A ad0 n0 nL Q mc ms k n (pc + 3) ls st h) : zG p l e R s m args below meth c D dA A ad0 n0 nL Q mc ms k n pc ls (.int (nI b) :: .int (nI a) :: st) h := zi_icmp_eq O tgt d ht (fun z => kt ((nI_eq ha hb).mp z)) (fun z => kf (fun q => z ((nI_eq ha hb).mpr q)))
theorem zi_icmp_neN (O : zOK own cc nL ret rm p R s m args meth c D dA A) {a b : Nat} {off : Int} (tgt : Nat) (d : decode cc pc = .ok (.if_icmp .ne off, 3)) (ht : (pc : Int) + off = (tgt : Int)) (ha : a < 2 ^ 31) (hb : b < 2 ^ 31) (kt : a ≠ b → zG p l e R s m args below meth c D dA A ad0 n0 nL Q mc ms k n tgt ls st h) (kf : a = b → zG p l e R s m args below meth c D dA A ad0 n0 nL Q mc ms k n (pc + 3) ls st h) : zG p l e R s m args below meth c D dA A ad0 n0 nL Q mc ms k n pc ls (.int (nI b) :: .int (nI a) :: st) h := zi_icmp_ne O tgt d ht (fun z => kt (fun q => z ((nI_eq ha hb).mpr q))) (fun z => kf ((nI_eq ha hb).mp z))
theorem zi_icmp_ltN (O : zOK own cc nL ret rm p R s m args meth c D dA A) {a b : Nat} {off : Int} (tgt : Nat) (d : decode cc pc = .ok (.if_icmp .lt off, 3)) (ht : (pc : Int) + off = (tgt : Int)) (ha : a < 2 ^ 31) (hb : b < 2 ^ 31) (kt : a < b → zG p l e R s m args below meth c D dA A ad0 n0 nL Q mc ms k n tgt ls st h) (kf : b ≤ a → zG p l e R s m args below meth c D dA A ad0 n0 nL Q mc ms k n (pc + 3) ls st h) : zG p l e R s m args below meth c D dA A ad0 n0 nL Q mc ms k n pc ls (.int (nI b) :: .int (nI a) :: st) h := zi_icmp_lt O tgt d ht (fun z => kt ((nI_ltI ha hb).mp z)) (fun z => kf (Nat.not_lt.mp (fun q => z ((nI_ltI ha hb).mpr q))))
theorem zi_icmp_geN (O : zOK own cc nL ret rm p R s m args meth c D dA A) {a b : Nat} {off : Int} (tgt : Nat) (d : decode cc pc = .ok (.if_icmp .ge off, 3)) (ht : (pc : Int) + off = (tgt : Int)) (ha : a < 2 ^ 31) (hb : b < 2 ^ 31) (kt : b ≤ a → zG p l e R s m args below meth c D dA A ad0 n0 nL Q mc ms k n tgt ls st h) (kf : a < b → zG p l e R s m args below meth c D dA A ad0 n0 nL Q mc ms k n (pc + 3) ls st h) : zG p l e R s m args below meth c D dA A ad0 n0 nL Q mc ms k n pc ls (.int (nI b) :: .int (nI a) :: st) h := zi_icmp_ge O tgt d ht (fun z => kt ((nI_leI hb ha).mp z)) (fun z => kf (Nat.not_le.mp (fun q => z ((nI_leI hb ha).mpr q))))
theorem zi_icmp_gtN (O : zOK own cc nL ret rm p R s m args meth c D dA A) {a b : Nat} {off : Int} (tgt : Nat) (d : decode cc pc = .ok (.if_icmp .gt off, 3)) (ht : (pc : Int) + off = (tgt : Int)) (ha : a < 2 ^ 31) (hb : b < 2 ^ 31) (kt : b < a → zG p l e R s m args below meth c D dA A ad0 n0 nL Q mc ms k n tgt ls st h) (kf : a ≤ b → zG p l e R s m args below meth c D dA A ad0 n0 nL Q mc ms k n (pc + 3) ls st h) : zG p l e R s m args below meth c D dA A ad0 n0 nL Q mc ms k n pc ls (.int (nI b) :: .int (nI a) :: st) h := zi_icmp_gt O tgt d ht (fun z => kt ((nI_ltI hb ha).mp z)) (fun z => kf (Nat.not_lt.mp (fun q => z ((nI_ltI hb ha).mpr q))))
theorem zi_icmp_leN (O : zOK own cc nL ret rm p R s m args meth c D dA A) {a b : Nat} {off : Int} (tgt : Nat) (d : decode cc pc = .ok (.if_icmp .le off, 3)) (ht : (pc : Int) + off = (tgt : Int)) (ha : a < 2 ^ 31) (hb : b < 2 ^ 31) (kt : a ≤ b → zG p l e R s m args below meth c D dA A ad0 n0 nL Q mc ms k n tgt ls st h) (kf : b < a → zG p l e R s m args below meth c D dA A ad0 n0 nL Q mc ms k n (pc + 3) ls st h) : zG p l e R s m args below meth c D dA A ad0 n0 nL Q mc ms k n pc ls (.int (nI b) :: .int (nI a) :: st) h := zi_icmp_le O tgt d ht (fun z => kt ((nI_leI ha hb).mp z)) (fun z => kf (Nat.not_le.mp (fun q => z ((nI_leI ha hb).mpr q))))
theorem zi_iincN (O : zOK own cc nL ret rm p R s m args meth c D dA A) {i : Nat} {z : Int} {a : Nat} {ls' : List (Option Value)} (v : Nat) (d : decode cc pc = .ok (.iinc i z, 3)) (hc : ls.all zc1 = true) (hn : i < nL) (hx : ls[i]? = some (some (.int (nI a)))) (hz : Int32.ofInt z = nI v) (hs : ls.set i (some (.int (nI (a + v)))) = ls') (K : zG p l e R s m args below meth c D dA A ad0 n0 nL Q mc ms k n (pc + 3) ls' st h) : zG p l e R s m args below meth c D dA A ad0 n0 nL Q mc ms k n pc ls st h := zi_iinc O d hc hn hx (by rw [hz, nI_add]) hs K
end ZM
end
