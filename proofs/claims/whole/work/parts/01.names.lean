def zt : List Cond := lw_tbl.filter goodWord
theorem zt_of {w : Cond} (h : w ∈ tables_1) (g : goodWord w = true) : w ∈ zt := List.mem_filter.mpr ⟨List.mem_append_right _ h, g⟩
theorem zt_ps {w : Cond} (h : w ∈ k2_sels lw_privs) (g : goodWord w = true) : w ∈ zt := List.mem_filter.mpr ⟨List.mem_append_left _ h, g⟩
theorem zt_in {w : Cond} (h : w ∈ zt) : w ∈ lw_tbl := (List.mem_filter.mp h).1
theorem zt_good {w : Cond} (h : w ∈ zt) : goodWord w = true := (List.mem_filter.mp h).2
def R_Mov : String := "DiagramMoves"
def R_Dia : String := "DiagramMoves$Diagram"
def R_Row : String := "DiagramMoves$Row"
def R_Edg : String := "DiagramMoves$Edges"
def R_Fac : String := "DiagramMoves$Faces"
def R_Pie : String := "DiagramMoves$Pieces"
def R_Cut : String := "DiagramMoves$Cut"
def R_Mod : String := "DiagramMovesModel"
def R_Law : String := "DiagramMovesLaw"
def R_Math : String := "java/lang/Math"
def R_Arr : String := "java/util/Arrays"
def R_Int : String := "java/lang/Integer"
def F_Mov : u_T := fun k => match k with
  | 0 => ("DiagramMoves", "diagram", "LDiagramMoves$Diagram;", false)
  | _ => ("DiagramMoves", "draft", "LDiagramMoves$Diagram;", false)
def t_Mov : Nat → FieldType := fun k => match k with
  | 0 => (.object "DiagramMoves$Diagram")
  | _ => (.object "DiagramMoves$Diagram")
theorem n_Mov : ∀ a, a < 2 → ∀ b, b < 2 → a ≠ b → (F_Mov a).2.1 ≠ (F_Mov b).2.1 := by decide +kernel
theorem t_Mov_ok : ∀ k, k < 2 → parseFieldDescriptor (F_Mov k).2.2.1 = some (t_Mov k) := by decide +kernel
theorem i_Mov : ∀ w ∈ u_ws R_Mov F_Mov 2, w ∈ zt := by decide +kernel
def F_Dia : u_T := fun k => match k with
  | 0 => ("DiagramMoves$Diagram", "row", "LDiagramMoves$Row;", true)
  | 1 => ("DiagramMoves$Diagram", "edges", "LDiagramMoves$Edges;", true)
  | 2 => ("DiagramMoves$Diagram", "faces", "LDiagramMoves$Faces;", true)
  | 3 => ("DiagramMoves$Diagram", "pieces", "LDiagramMoves$Pieces;", true)
  | 4 => ("DiagramMoves$Diagram", "slidLabels", "[I", true)
  | _ => ("DiagramMoves$Diagram", "circles", "I", false)
def t_Dia : Nat → FieldType := fun k => match k with
  | 0 => (.object "DiagramMoves$Row")
  | 1 => (.object "DiagramMoves$Edges")
  | 2 => (.object "DiagramMoves$Faces")
  | 3 => (.object "DiagramMoves$Pieces")
  | 4 => (.array .int)
  | _ => .int
theorem n_Dia : ∀ a, a < 6 → ∀ b, b < 6 → a ≠ b → (F_Dia a).2.1 ≠ (F_Dia b).2.1 := by decide +kernel
theorem t_Dia_ok : ∀ k, k < 6 → parseFieldDescriptor (F_Dia k).2.2.1 = some (t_Dia k) := by decide +kernel
theorem i_Dia : ∀ w ∈ u_ws R_Dia F_Dia 6, w ∈ zt := by decide +kernel
def F_Row : u_T := fun k => match k with
  | 0 => ("DiagramMoves$Row", "labels", "[I", true)
  | 1 => ("DiagramMoves$Row", "signs", "[I", true)
  | _ => ("DiagramMoves$Row", "count", "I", false)
def t_Row : Nat → FieldType := fun k => match k with
  | 0 => (.array .int)
  | 1 => (.array .int)
  | _ => .int
theorem n_Row : ∀ a, a < 3 → ∀ b, b < 3 → a ≠ b → (F_Row a).2.1 ≠ (F_Row b).2.1 := by decide +kernel
theorem t_Row_ok : ∀ k, k < 3 → parseFieldDescriptor (F_Row k).2.2.1 = some (t_Row k) := by decide +kernel
theorem i_Row : ∀ w ∈ u_ws R_Row F_Row 3, w ∈ zt := by decide +kernel
def F_Edg : u_T := fun k => match k with
  | 0 => ("DiagramMoves$Edges", "placesByLabel", "[I", true)
  | 1 => ("DiagramMoves$Edges", "labels", "[I", true)
  | 2 => ("DiagramMoves$Edges", "from", "[I", true)
  | 3 => ("DiagramMoves$Edges", "to", "[I", true)
  | 4 => ("DiagramMoves$Edges", "atPlace", "[I", true)
  | _ => ("DiagramMoves$Edges", "count", "I", false)
def t_Edg : Nat → FieldType := fun k => match k with
  | 0 => (.array .int)
  | 1 => (.array .int)
  | 2 => (.array .int)
  | 3 => (.array .int)
  | 4 => (.array .int)
  | _ => .int
theorem n_Edg : ∀ a, a < 6 → ∀ b, b < 6 → a ≠ b → (F_Edg a).2.1 ≠ (F_Edg b).2.1 := by decide +kernel
theorem t_Edg_ok : ∀ k, k < 6 → parseFieldDescriptor (F_Edg k).2.2.1 = some (t_Edg k) := by decide +kernel
theorem i_Edg : ∀ w ∈ u_ws R_Edg F_Edg 6, w ∈ zt := by decide +kernel
def F_Fac : u_T := fun k => match k with
  | 0 => ("DiagramMoves$Faces", "ofDart", "[I", true)
  | 1 => ("DiagramMoves$Faces", "rounds", "[I", true)
  | 2 => ("DiagramMoves$Faces", "start", "[I", true)
  | _ => ("DiagramMoves$Faces", "count", "I", false)
def t_Fac : Nat → FieldType := fun k => match k with
  | 0 => (.array .int)
  | 1 => (.array .int)
  | 2 => (.array .int)
  | _ => .int
theorem n_Fac : ∀ a, a < 4 → ∀ b, b < 4 → a ≠ b → (F_Fac a).2.1 ≠ (F_Fac b).2.1 := by decide +kernel
theorem t_Fac_ok : ∀ k, k < 4 → parseFieldDescriptor (F_Fac k).2.2.1 = some (t_Fac k) := by decide +kernel
theorem i_Fac : ∀ w ∈ u_ws R_Fac F_Fac 4, w ∈ zt := by decide +kernel
def F_Pie : u_T := fun k => match k with
  | 0 => ("DiagramMoves$Pieces", "ofCrossing", "[I", true)
  | 1 => ("DiagramMoves$Pieces", "componentOfEdge", "[I", true)
  | 2 => ("DiagramMoves$Pieces", "count", "I", false)
  | _ => ("DiagramMoves$Pieces", "components", "I", false)
def t_Pie : Nat → FieldType := fun k => match k with
  | 0 => (.array .int)
  | 1 => (.array .int)
  | 2 => .int
  | _ => .int
theorem n_Pie : ∀ a, a < 4 → ∀ b, b < 4 → a ≠ b → (F_Pie a).2.1 ≠ (F_Pie b).2.1 := by decide +kernel
theorem t_Pie_ok : ∀ k, k < 4 → parseFieldDescriptor (F_Pie k).2.2.1 = some (t_Pie k) := by decide +kernel
theorem i_Pie : ∀ w ∈ u_ws R_Pie F_Pie 4, w ∈ zt := by decide +kernel
def F_Cut : u_T := fun k => match k with
  | 0 => ("DiagramMoves$Cut", "first", "I", true)
  | 1 => ("DiagramMoves$Cut", "middle", "I", true)
  | _ => ("DiagramMoves$Cut", "last", "I", true)
def t_Cut : Nat → FieldType := fun k => match k with
  | 0 => .int
  | 1 => .int
  | _ => .int
theorem n_Cut : ∀ a, a < 3 → ∀ b, b < 3 → a ≠ b → (F_Cut a).2.1 ≠ (F_Cut b).2.1 := by decide +kernel
theorem t_Cut_ok : ∀ k, k < 3 → parseFieldDescriptor (F_Cut k).2.2.1 = some (t_Cut k) := by decide +kernel
theorem i_Cut : ∀ w ∈ u_ws R_Cut F_Cut 3, w ∈ zt := by decide +kernel
def F_Mod : u_T := fun k => match k with
  | 0 => ("DiagramMovesModel", "thrown", "I", false)
  | 1 => ("DiagramMovesModel", "put", "I", false)
  | 2 => ("DiagramMovesModel", "wrong", "I", false)
  | 3 => ("DiagramMovesModel", "putSign", "[I", true)
  | 4 => ("DiagramMovesModel", "putLabel", "[I", true)
  | 5 => ("DiagramMovesModel", "n", "I", false)
  | 6 => ("DiagramMovesModel", "circles", "I", false)
  | 7 => ("DiagramMovesModel", "oldN", "I", false)
  | 8 => ("DiagramMovesModel", "oldCircles", "I", false)
  | 9 => ("DiagramMovesModel", "sign", "[I", true)
  | 10 => ("DiagramMovesModel", "label", "[I", true)
  | 11 => ("DiagramMovesModel", "oldSign", "[I", true)
  | 12 => ("DiagramMovesModel", "oldLabel", "[I", true)
  | 13 => ("DiagramMovesModel", "labels", "I", false)
  | 14 => ("DiagramMovesModel", "row", "[I", true)
  | 15 => ("DiagramMovesModel", "fresh", "[I", true)
  | 16 => ("DiagramMovesModel", "piece", "[I", true)
  | 17 => ("DiagramMovesModel", "closed", "I", false)
  | 18 => ("DiagramMovesModel", "faces", "I", false)
  | 19 => ("DiagramMovesModel", "component", "[I", true)
  | 20 => ("DiagramMovesModel", "faceOf", "[I", true)
  | 21 => ("DiagramMovesModel", "sides", "I", false)
  | 22 => ("DiagramMovesModel", "side", "[I", true)
  | 23 => ("DiagramMovesModel", "free", "[I", true)
  | _ => ("DiagramMovesModel", "around", "[I", true)
def t_Mod : Nat → FieldType := fun k => match k with
  | 0 => .int
  | 1 => .int
  | 2 => .int
  | 3 => (.array .int)
  | 4 => (.array .int)
  | 5 => .int
  | 6 => .int
  | 7 => .int
  | 8 => .int
  | 9 => (.array .int)
  | 10 => (.array .int)
  | 11 => (.array .int)
  | 12 => (.array .int)
  | 13 => .int
  | 14 => (.array .int)
  | 15 => (.array .int)
  | 16 => (.array .int)
  | 17 => .int
  | 18 => .int
  | 19 => (.array .int)
  | 20 => (.array .int)
  | 21 => .int
  | 22 => (.array .int)
  | 23 => (.array .int)
  | _ => (.array .int)
theorem n_Mod : ∀ a, a < 25 → ∀ b, b < 25 → a ≠ b → (F_Mod a).2.1 ≠ (F_Mod b).2.1 := by decide +kernel
theorem t_Mod_ok : ∀ k, k < 25 → parseFieldDescriptor (F_Mod k).2.2.1 = some (t_Mod k) := by decide +kernel
theorem i_Mod : ∀ w ∈ u_ws R_Mod F_Mod 25, w ∈ zt := by decide +kernel
abbrev vwCl : List vw_C := [(R_Mov, F_Mov, 2), (R_Dia, F_Dia, 6), (R_Row, F_Row, 3), (R_Edg, F_Edg, 6), (R_Fac, F_Fac, 4), (R_Pie, F_Pie, 4), (R_Cut, F_Cut, 3), (R_Mod, F_Mod, 25)]
def zNs : List (String × Nat × MethodName × String) := [("DiagramMoves", 11, ⟨"DiagramMoves$Diagram", "<init>", "()V"⟩, "DiagramMoves"), ("DiagramMoves$Diagram", 11, ⟨"DiagramMoves$Row", "<init>", "()V"⟩, "DiagramMoves"), ("DiagramMoves$Diagram", 20, ⟨"DiagramMoves$Edges", "<init>", "()V"⟩, "DiagramMoves"), ("DiagramMoves$Diagram", 27, ⟨"DiagramMoves$Faces", "<init>", "()V"⟩, "DiagramMoves"), ("DiagramMoves$Diagram", 34, ⟨"DiagramMoves$Pieces", "<init>", "()V"⟩, "DiagramMoves")]
theorem zNs_in : ∀ q ∈ zNs, Cond.methodLinkNest q.1 q.2.1 q.2.2.1 q.2.2.2 ∈ lw_tbl := by decide +kernel
def zNst (U : State) : Prop := ∀ q ∈ zNs, va_Nw (.methodLinkNest q.1 q.2.1 q.2.2.1 q.2.2.2) U
theorem zNst.warm {s U : State} (hW : s.WarmedH U.vm) (h : zNst s) : zNst U := fun q hq => va_Nw.warmM hW (h q hq)
abbrev b_Mov_init : ByteArray := prog_1_method_1_code
def y_Mov_init : MethodName := ⟨R_Mov, "<init>", "()V"⟩
theorem k_Mov_init : Cond.code y_Mov_init b_Mov_init 1 none ∈ zt := zt_of (List.mem_append_left _ (List.mem_of_getElem? (i := 17) rfl)) rfl
abbrev b_Mov_crossing : ByteArray := prog_1_method_2_code
def y_Mov_crossing : MethodName := ⟨R_Mov, "crossing", "(IIIII)I"⟩
theorem k_Mov_crossing : Cond.code y_Mov_crossing b_Mov_crossing 7 (some .int) ∈ zt := zt_of (List.mem_append_left _ (List.mem_of_getElem? (i := 163) rfl)) rfl
abbrev b_Mov_check : ByteArray := prog_1_method_3_code
def y_Mov_check : MethodName := ⟨R_Mov, "check", "(I)I"⟩
theorem k_Mov_check : Cond.code y_Mov_check b_Mov_check 4 (some .int) ∈ zt := zt_of (List.mem_append_left _ (List.mem_of_getElem? (i := 182) rfl)) rfl
abbrev b_Mov_many : ByteArray := prog_1_method_4_code
def y_Mov_many : MethodName := ⟨R_Mov, "many", "(I)I"⟩
theorem k_Mov_many : Cond.code y_Mov_many b_Mov_many 2 (some .int) ∈ zt := zt_of (List.mem_append_right _ (List.mem_append_left _ (List.mem_of_getElem? (i := 24) rfl))) rfl
abbrev b_Mov_look : ByteArray := prog_1_method_5_code
def y_Mov_look : MethodName := ⟨R_Mov, "look", "(II)I"⟩
theorem k_Mov_look : Cond.code y_Mov_look b_Mov_look 3 (some .int) ∈ zt := zt_of (List.mem_append_right _ (List.mem_append_left _ (List.mem_of_getElem? (i := 36) rfl))) rfl
abbrev b_Mov_face : ByteArray := prog_1_method_6_code
def y_Mov_face : MethodName := ⟨R_Mov, "face", "(II)I"⟩
theorem k_Mov_face : Cond.code y_Mov_face b_Mov_face 4 (some .int) ∈ zt := zt_of (List.mem_append_right _ (List.mem_append_left _ (List.mem_of_getElem? (i := 40) rfl))) rfl
abbrev b_Mov_pattern : ByteArray := prog_1_method_7_code
def y_Mov_pattern : MethodName := ⟨R_Mov, "pattern", "(I)I"⟩
theorem k_Mov_pattern : Cond.code y_Mov_pattern b_Mov_pattern 2 (some .int) ∈ zt := zt_of (List.mem_append_right _ (List.mem_append_left _ (List.mem_of_getElem? (i := 60) rfl))) rfl
abbrev b_Mov_undo : ByteArray := prog_1_method_8_code
def y_Mov_undo : MethodName := ⟨R_Mov, "undo", "(I)I"⟩
theorem k_Mov_undo : Cond.code y_Mov_undo b_Mov_undo 2 (some .int) ∈ zt := zt_of (List.mem_append_right _ (List.mem_append_left _ (List.mem_of_getElem? (i := 93) rfl))) rfl
abbrev b_Mov_slide : ByteArray := prog_1_method_9_code
def y_Mov_slide : MethodName := ⟨R_Mov, "slide", "(I)Z"⟩
theorem k_Mov_slide : Cond.code y_Mov_slide b_Mov_slide 2 (some .boolean) ∈ zt := zt_of (List.mem_append_right _ (List.mem_append_left _ (List.mem_of_getElem? (i := 127) rfl))) rfl
abbrev b_Mov_twist : ByteArray := prog_1_method_10_code
def y_Mov_twist : MethodName := ⟨R_Mov, "twist", "(IIZ)Z"⟩
theorem k_Mov_twist : Cond.code y_Mov_twist b_Mov_twist 4 (some .boolean) ∈ zt := zt_of (List.mem_append_right _ (List.mem_append_left _ (List.mem_of_getElem? (i := 140) rfl))) rfl
abbrev b_Mov_push : ByteArray := prog_1_method_11_code
def y_Mov_push : MethodName := ⟨R_Mov, "push", "(IZIZZ)Z"⟩
theorem k_Mov_push : Cond.code y_Mov_push b_Mov_push 8 (some .boolean) ∈ zt := zt_of (List.mem_append_right _ (List.mem_append_left _ (List.mem_of_getElem? (i := 195) rfl))) rfl
abbrev b_Mov_simplify : ByteArray := prog_1_method_12_code
def y_Mov_simplify : MethodName := ⟨R_Mov, "simplify", "()I"⟩
theorem k_Mov_simplify : Cond.code y_Mov_simplify b_Mov_simplify 4 (some .int) ∈ zt := zt_of (List.mem_append_right _ (List.mem_append_left _ (List.mem_of_getElem? (i := 208) rfl))) rfl
abbrev b_Mov_isSign : ByteArray := prog_1_method_13_code
def y_Mov_isSign : MethodName := ⟨R_Mov, "isSign", "(I)Z"⟩
theorem k_Mov_isSign : Cond.code y_Mov_isSign b_Mov_isSign 1 (some .boolean) ∈ zt := zt_of (List.mem_append_left _ (List.mem_of_getElem? (i := 169) rfl)) rfl
abbrev b_Mov_isLabel : ByteArray := prog_1_method_14_code
def y_Mov_isLabel : MethodName := ⟨R_Mov, "isLabel", "(I)Z"⟩
theorem k_Mov_isLabel : Cond.code y_Mov_isLabel b_Mov_isLabel 1 (some .boolean) ∈ zt := zt_of (List.mem_append_left _ (List.mem_of_getElem? (i := 166) rfl)) rfl
abbrev b_Mod_init : ByteArray := prog_9_method_1_code
def y_Mod_init : MethodName := ⟨R_Mod, "<init>", "()V"⟩
theorem k_Mod_init : Cond.code y_Mod_init b_Mod_init 1 none ∈ zt := zt_of (List.mem_append_right _ (List.mem_append_left _ (List.mem_of_getElem? (i := 217) rfl))) rfl
abbrev b_Mod_isOut : ByteArray := prog_9_method_3_code
def y_Mod_isOut : MethodName := ⟨R_Mod, "isOut", "(I)Z"⟩
theorem k_Mod_isOut : Cond.code y_Mod_isOut b_Mod_isOut 3 (some .boolean) ∈ zt := zt_of (List.mem_append_right _ (List.mem_append_right _ (List.mem_of_getElem? (i := 85) rfl))) rfl
abbrev b_Mod_isUpper : ByteArray := prog_9_method_4_code
def y_Mod_isUpper : MethodName := ⟨R_Mod, "isUpper", "(I)Z"⟩
theorem k_Mod_isUpper : Cond.code y_Mod_isUpper b_Mod_isUpper 1 (some .boolean) ∈ zt := zt_of (List.mem_append_right _ (List.mem_append_right _ (List.mem_of_getElem? (i := 179) rfl))) rfl
abbrev b_Mod_placeOf : ByteArray := prog_9_method_5_code
def y_Mod_placeOf : MethodName := ⟨R_Mod, "placeOf", "(IZ)I"⟩
theorem k_Mod_placeOf : Cond.code y_Mod_placeOf b_Mod_placeOf 5 (some .int) ∈ zt := zt_of (List.mem_append_right _ (List.mem_append_right _ (List.mem_of_getElem? (i := 81) rfl))) rfl
abbrev b_Mod_across : ByteArray := prog_9_method_6_code
def y_Mod_across : MethodName := ⟨R_Mod, "across", "(I)I"⟩
theorem k_Mod_across : Cond.code y_Mod_across b_Mod_across 1 (some .int) ∈ zt := zt_of (List.mem_append_right _ (List.mem_append_right _ (List.mem_of_getElem? (i := 140) rfl))) rfl
abbrev b_Mod_next : ByteArray := prog_9_method_7_code
def y_Mod_next : MethodName := ⟨R_Mod, "next", "(I)I"⟩
theorem k_Mod_next : Cond.code y_Mod_next b_Mod_next 2 (some .int) ∈ zt := zt_of (List.mem_append_right _ (List.mem_append_right _ (List.mem_of_getElem? (i := 137) rfl))) rfl
abbrev b_Mod_sort : ByteArray := prog_9_method_8_code
def y_Mod_sort : MethodName := ⟨R_Mod, "sort", "()V"⟩
theorem k_Mod_sort : Cond.code y_Mod_sort b_Mod_sort 4 none ∈ zt := zt_of (List.mem_append_right _ (List.mem_append_right _ (List.mem_of_getElem? (i := 77) rfl))) rfl
abbrev b_Mod_components : ByteArray := prog_9_method_9_code
def y_Mod_components : MethodName := ⟨R_Mod, "components", "()V"⟩
theorem k_Mod_components : Cond.code y_Mod_components b_Mod_components 4 none ∈ zt := zt_of (List.mem_append_right _ (List.mem_append_right _ (List.mem_of_getElem? (i := 133) rfl))) rfl
abbrev b_Mod_hang : ByteArray := prog_9_method_10_code
def y_Mod_hang : MethodName := ⟨R_Mod, "hang", "()V"⟩
theorem k_Mod_hang : Cond.code y_Mod_hang b_Mod_hang 4 none ∈ zt := zt_of (List.mem_append_right _ (List.mem_append_right _ (List.mem_of_getElem? (i := 93) rfl))) rfl
abbrev b_Mod_pieces : ByteArray := prog_9_method_11_code
def y_Mod_pieces : MethodName := ⟨R_Mod, "pieces", "()I"⟩
theorem k_Mod_pieces : Cond.code y_Mod_pieces b_Mod_pieces 3 (some .int) ∈ zt := zt_of (List.mem_append_right _ (List.mem_append_right _ (List.mem_of_getElem? (i := 144) rfl))) rfl
abbrev b_Mod_turn : ByteArray := prog_9_method_12_code
def y_Mod_turn : MethodName := ⟨R_Mod, "turn", "(I)I"⟩
theorem k_Mod_turn : Cond.code y_Mod_turn b_Mod_turn 4 (some .int) ∈ zt := zt_of (List.mem_append_right _ (List.mem_append_right _ (List.mem_of_getElem? (i := 105) rfl))) rfl
abbrev b_Mod_rowOf : ByteArray := prog_9_method_13_code
def y_Mod_rowOf : MethodName := ⟨R_Mod, "rowOf", "(I)I"⟩
theorem k_Mod_rowOf : Cond.code y_Mod_rowOf b_Mod_rowOf 3 (some .int) ∈ zt := zt_of (List.mem_append_right _ (List.mem_append_right _ (List.mem_of_getElem? (i := 101) rfl))) rfl
abbrev b_Mod_findFaces : ByteArray := prog_9_method_14_code
def y_Mod_findFaces : MethodName := ⟨R_Mod, "findFaces", "()V"⟩
theorem k_Mod_findFaces : Cond.code y_Mod_findFaces b_Mod_findFaces 4 none ∈ zt := zt_of (List.mem_append_right _ (List.mem_append_right _ (List.mem_of_getElem? (i := 97) rfl))) rfl
abbrev b_Mod_facesAt : ByteArray := prog_9_method_15_code
def y_Mod_facesAt : MethodName := ⟨R_Mod, "facesAt", "(I)I"⟩
theorem k_Mod_facesAt : Cond.code y_Mod_facesAt b_Mod_facesAt 6 (some .int) ∈ zt := zt_of (List.mem_append_right _ (List.mem_append_right _ (List.mem_of_getElem? (i := 109) rfl))) rfl
abbrev b_Mod_crossing : ByteArray := prog_9_method_16_code
def y_Mod_crossing : MethodName := ⟨R_Mod, "crossing", "(IIIII)I"⟩
theorem k_Mod_crossing : Cond.code y_Mod_crossing b_Mod_crossing 7 (some .int) ∈ zt := zt_of (List.mem_append_right _ (List.mem_append_right _ (List.mem_of_getElem? (i := 57) rfl))) rfl
abbrev b_Mod_take : ByteArray := prog_9_method_17_code
def y_Mod_take : MethodName := ⟨R_Mod, "take", "()V"⟩
theorem k_Mod_take : Cond.code y_Mod_take b_Mod_take 2 none ∈ zt := zt_of (List.mem_append_right _ (List.mem_append_right _ (List.mem_of_getElem? (i := 65) rfl))) rfl
abbrev b_Mod_back : ByteArray := prog_9_method_18_code
def y_Mod_back : MethodName := ⟨R_Mod, "back", "()V"⟩
theorem k_Mod_back : Cond.code y_Mod_back b_Mod_back 2 none ∈ zt := zt_of (List.mem_append_right _ (List.mem_append_right _ (List.mem_of_getElem? (i := 113) rfl))) rfl
abbrev b_Mod_badLabel : ByteArray := prog_9_method_19_code
def y_Mod_badLabel : MethodName := ⟨R_Mod, "badLabel", "(Z)I"⟩
theorem k_Mod_badLabel : Cond.code y_Mod_badLabel b_Mod_badLabel 5 (some .int) ∈ zt := zt_of (List.mem_append_right _ (List.mem_append_right _ (List.mem_of_getElem? (i := 73) rfl))) rfl
abbrev b_Mod_badPiece : ByteArray := prog_9_method_20_code
def y_Mod_badPiece : MethodName := ⟨R_Mod, "badPiece", "()I"⟩
theorem k_Mod_badPiece : Cond.code y_Mod_badPiece b_Mod_badPiece 5 (some .int) ∈ zt := zt_of (List.mem_append_right _ (List.mem_append_right _ (List.mem_of_getElem? (i := 89) rfl))) rfl
abbrev b_Mod_fault : ByteArray := prog_9_method_21_code
def y_Mod_fault : MethodName := ⟨R_Mod, "fault", "()I"⟩
theorem k_Mod_fault : Cond.code y_Mod_fault b_Mod_fault 1 (some .int) ∈ zt := zt_of (List.mem_append_right _ (List.mem_append_right _ (List.mem_of_getElem? (i := 69) rfl))) rfl
abbrev b_Mod_check : ByteArray := prog_9_method_22_code
def y_Mod_check : MethodName := ⟨R_Mod, "check", "(I)I"⟩
theorem k_Mod_check : Cond.code y_Mod_check b_Mod_check 3 (some .int) ∈ zt := zt_of (List.mem_append_right _ (List.mem_append_right _ (List.mem_of_getElem? (i := 61) rfl))) rfl
abbrev b_Mod_signs : ByteArray := prog_9_method_23_code
def y_Mod_signs : MethodName := ⟨R_Mod, "signs", "()I"⟩
theorem k_Mod_signs : Cond.code y_Mod_signs b_Mod_signs 3 (some .int) ∈ zt := zt_of (List.mem_append_right _ (List.mem_append_right _ (List.mem_of_getElem? (i := 121) rfl))) rfl
abbrev b_Mod_allFaces : ByteArray := prog_9_method_24_code
def y_Mod_allFaces : MethodName := ⟨R_Mod, "allFaces", "()I"⟩
theorem k_Mod_allFaces : Cond.code y_Mod_allFaces b_Mod_allFaces 1 (some .int) ∈ zt := zt_of (List.mem_append_right _ (List.mem_append_right _ (List.mem_of_getElem? (i := 125) rfl))) rfl
abbrev b_Mod_allComponents : ByteArray := prog_9_method_25_code
def y_Mod_allComponents : MethodName := ⟨R_Mod, "allComponents", "()I"⟩
theorem k_Mod_allComponents : Cond.code y_Mod_allComponents b_Mod_allComponents 1 (some .int) ∈ zt := zt_of (List.mem_append_right _ (List.mem_append_right _ (List.mem_of_getElem? (i := 129) rfl))) rfl
abbrev b_Mod_findFree : ByteArray := prog_9_method_26_code
def y_Mod_findFree : MethodName := ⟨R_Mod, "findFree", "()V"⟩
theorem k_Mod_findFree : Cond.code y_Mod_findFree b_Mod_findFree 5 none ∈ zt := zt_of (List.mem_append_right _ (List.mem_append_right _ (List.mem_of_getElem? (i := 152) rfl))) rfl
abbrev b_Mod_leastFree : ByteArray := prog_9_method_27_code
def y_Mod_leastFree : MethodName := ⟨R_Mod, "leastFree", "()I"⟩
theorem k_Mod_leastFree : Cond.code y_Mod_leastFree b_Mod_leastFree 1 (some .int) ∈ zt := zt_of (List.mem_append_right _ (List.mem_append_right _ (List.mem_of_getElem? (i := 148) rfl))) rfl
abbrev b_Mod_many : ByteArray := prog_9_method_28_code
def y_Mod_many : MethodName := ⟨R_Mod, "many", "(I)I"⟩
theorem k_Mod_many : Cond.code y_Mod_many b_Mod_many 2 (some .int) ∈ zt := zt_of (List.mem_append_right _ (List.mem_append_right _ (List.mem_of_getElem? (i := 117) rfl))) rfl
abbrev b_Mod_look : ByteArray := prog_9_method_29_code
def y_Mod_look : MethodName := ⟨R_Mod, "look", "(II)I"⟩
theorem k_Mod_look : Cond.code y_Mod_look b_Mod_look 3 (some .int) ∈ zt := zt_of (List.mem_append_right _ (List.mem_append_right _ (List.mem_of_getElem? (i := 156) rfl))) rfl
abbrev b_Mod_findSides : ByteArray := prog_9_method_30_code
def y_Mod_findSides : MethodName := ⟨R_Mod, "findSides", "(I)Z"⟩
theorem k_Mod_findSides : Cond.code y_Mod_findSides b_Mod_findSides 5 (some .boolean) ∈ zt := zt_of (List.mem_append_right _ (List.mem_append_right _ (List.mem_of_getElem? (i := 164) rfl))) rfl
abbrev b_Mod_face : ByteArray := prog_9_method_31_code
def y_Mod_face : MethodName := ⟨R_Mod, "face", "(II)I"⟩
theorem k_Mod_face : Cond.code y_Mod_face b_Mod_face 3 (some .int) ∈ zt := zt_of (List.mem_append_right _ (List.mem_append_right _ (List.mem_of_getElem? (i := 160) rfl))) rfl
abbrev b_Mod_uppers : ByteArray := prog_9_method_32_code
def y_Mod_uppers : MethodName := ⟨R_Mod, "uppers", "(I)I"⟩
theorem k_Mod_uppers : Cond.code y_Mod_uppers b_Mod_uppers 2 (some .int) ∈ zt := zt_of (List.mem_append_right _ (List.mem_append_right _ (List.mem_of_getElem? (i := 176) rfl))) rfl
abbrev b_Mod_corner : ByteArray := prog_9_method_33_code
def y_Mod_corner : MethodName := ⟨R_Mod, "corner", "(I)I"⟩
theorem k_Mod_corner : Cond.code y_Mod_corner b_Mod_corner 2 (some .int) ∈ zt := zt_of (List.mem_append_right _ (List.mem_append_right _ (List.mem_of_getElem? (i := 172) rfl))) rfl
abbrev b_Mod_pattern : ByteArray := prog_9_method_34_code
def y_Mod_pattern : MethodName := ⟨R_Mod, "pattern", "(I)I"⟩
theorem k_Mod_pattern : Cond.code y_Mod_pattern b_Mod_pattern 7 (some .int) ∈ zt := zt_of (List.mem_append_right _ (List.mem_append_right _ (List.mem_of_getElem? (i := 168) rfl))) rfl
abbrev b_Mod_rename : ByteArray := prog_9_method_35_code
def y_Mod_rename : MethodName := ⟨R_Mod, "rename", "(II)V"⟩
theorem k_Mod_rename : Cond.code y_Mod_rename b_Mod_rename 4 none ∈ zt := zt_of (List.mem_append_right _ (List.mem_append_right _ (List.mem_of_getElem? (i := 196) rfl))) rfl
abbrev b_Mod_join : ByteArray := prog_9_method_36_code
def y_Mod_join : MethodName := ⟨R_Mod, "join", "(II)V"⟩
theorem k_Mod_join : Cond.code y_Mod_join b_Mod_join 3 none ∈ zt := zt_of (List.mem_append_right _ (List.mem_append_right _ (List.mem_of_getElem? (i := 192) rfl))) rfl
abbrev b_Mod_lift : ByteArray := prog_9_method_37_code
def y_Mod_lift : MethodName := ⟨R_Mod, "lift", "(I)V"⟩
theorem k_Mod_lift : Cond.code y_Mod_lift b_Mod_lift 4 none ∈ zt := zt_of (List.mem_append_right _ (List.mem_append_right _ (List.mem_of_getElem? (i := 188) rfl))) rfl
abbrev b_Mod_undo : ByteArray := prog_9_method_38_code
def y_Mod_undo : MethodName := ⟨R_Mod, "undo", "(I)I"⟩
theorem k_Mod_undo : Cond.code y_Mod_undo b_Mod_undo 5 (some .int) ∈ zt := zt_of (List.mem_append_right _ (List.mem_append_right _ (List.mem_of_getElem? (i := 183) rfl))) rfl
abbrev b_Mod_simplify : ByteArray := prog_9_method_39_code
def y_Mod_simplify : MethodName := ⟨R_Mod, "simplify", "()I"⟩
theorem k_Mod_simplify : Cond.code y_Mod_simplify b_Mod_simplify 4 (some .int) ∈ zt := zt_of (List.mem_append_right _ (List.mem_append_right _ (List.mem_of_getElem? (i := 200) rfl))) rfl
abbrev b_Mod_slide : ByteArray := prog_9_method_40_code
def y_Mod_slide : MethodName := ⟨R_Mod, "slide", "(I)Z"⟩
theorem k_Mod_slide : Cond.code y_Mod_slide b_Mod_slide 8 (some .boolean) ∈ zt := zt_of (List.mem_append_right _ (List.mem_append_right _ (List.mem_of_getElem? (i := 205) rfl))) rfl
abbrev b_Mod_add : ByteArray := prog_9_method_41_code
def y_Mod_add : MethodName := ⟨R_Mod, "add", "(IIIII)V"⟩
theorem k_Mod_add : Cond.code y_Mod_add b_Mod_add 6 none ∈ zt := zt_of (List.mem_append_right _ (List.mem_append_right _ (List.mem_of_getElem? (i := 213) rfl))) rfl
abbrev b_Mod_twist : ByteArray := prog_9_method_42_code
def y_Mod_twist : MethodName := ⟨R_Mod, "twist", "(IIZ)Z"⟩
theorem k_Mod_twist : Cond.code y_Mod_twist b_Mod_twist 8 (some .boolean) ∈ zt := zt_of (List.mem_append_right _ (List.mem_append_right _ (List.mem_of_getElem? (i := 209) rfl))) rfl
abbrev b_Mod_cross : ByteArray := prog_9_method_43_code
def y_Mod_cross : MethodName := ⟨R_Mod, "cross", "(II)V"⟩
theorem k_Mod_cross : Cond.code y_Mod_cross b_Mod_cross 3 none ∈ zt := zt_of (List.mem_append_right _ (List.mem_append_right _ (List.mem_of_getElem? (i := 225) rfl))) rfl
abbrev b_Mod_areOne : ByteArray := prog_9_method_44_code
def y_Mod_areOne : MethodName := ⟨R_Mod, "areOne", "(IIII)Z"⟩
theorem k_Mod_areOne : Cond.code y_Mod_areOne b_Mod_areOne 7 (some .boolean) ∈ zt := zt_of (List.mem_append_right _ (List.mem_append_right _ (List.mem_of_getElem? (i := 221) rfl))) rfl
abbrev b_Mod_push : ByteArray := prog_9_method_45_code
def y_Mod_push : MethodName := ⟨R_Mod, "push", "(IZIZZ)Z"⟩
theorem k_Mod_push : Cond.code y_Mod_push b_Mod_push 11 (some .boolean) ∈ zt := zt_of (List.mem_append_right _ (List.mem_append_right _ (List.mem_of_getElem? (i := 217) rfl))) rfl
abbrev b_Cut_init : ByteArray := prog_2_method_1_code
def y_Cut_init : MethodName := ⟨R_Cut, "<init>", "(III)V"⟩
theorem k_Cut_init : Cond.code y_Cut_init b_Cut_init 4 none ∈ zt := zt_of (List.mem_append_right _ (List.mem_append_left _ (List.mem_of_getElem? (i := 150) rfl))) rfl
abbrev b_Cut_in : ByteArray := prog_2_method_2_code
def y_Cut_in : MethodName := ⟨R_Cut, "in", "(Z)I"⟩
theorem k_Cut_in : Cond.code y_Cut_in b_Cut_in 2 (some .int) ∈ zt := zt_of (List.mem_append_right _ (List.mem_append_left _ (List.mem_of_getElem? (i := 174) rfl))) rfl
abbrev b_Cut_out : ByteArray := prog_2_method_3_code
def y_Cut_out : MethodName := ⟨R_Cut, "out", "(Z)I"⟩
theorem k_Cut_out : Cond.code y_Cut_out b_Cut_out 2 (some .int) ∈ zt := zt_of (List.mem_append_right _ (List.mem_append_left _ (List.mem_of_getElem? (i := 178) rfl))) rfl
abbrev b_Dia_init : ByteArray := prog_3_method_1_code
def y_Dia_init : MethodName := ⟨R_Dia, "<init>", "()V"⟩
theorem k_Dia_init : Cond.code y_Dia_init b_Dia_init 1 none ∈ zt := zt_of (List.mem_append_left _ (List.mem_of_getElem? (i := 25) rfl)) rfl
abbrev b_Dia_chart : ByteArray := prog_3_method_2_code
def y_Dia_chart : MethodName := ⟨R_Dia, "chart", "()I"⟩
theorem k_Dia_chart : Cond.code y_Dia_chart b_Dia_chart 2 (some .int) ∈ zt := zt_of (List.mem_append_left _ (List.mem_of_getElem? (i := 186) rfl)) rfl
abbrev b_Dia_patternAt : ByteArray := prog_3_method_3_code
def y_Dia_patternAt : MethodName := ⟨R_Dia, "patternAt", "(I)I"⟩
theorem k_Dia_patternAt : Cond.code y_Dia_patternAt b_Dia_patternAt 2 (some .int) ∈ zt := zt_of (List.mem_append_right _ (List.mem_append_left _ (List.mem_of_getElem? (i := 64) rfl))) rfl
abbrev b_Dia_isFinger : ByteArray := prog_3_method_4_code
def y_Dia_isFinger : MethodName := ⟨R_Dia, "isFinger", "(II)Z"⟩
theorem k_Dia_isFinger : Cond.code y_Dia_isFinger b_Dia_isFinger 4 (some .boolean) ∈ zt := zt_of (List.mem_append_right _ (List.mem_append_left _ (List.mem_of_getElem? (i := 70) rfl))) rfl
abbrev b_Dia_isTriangle : ByteArray := prog_3_method_5_code
def y_Dia_isTriangle : MethodName := ⟨R_Dia, "isTriangle", "(I)Z"⟩
theorem k_Dia_isTriangle : Cond.code y_Dia_isTriangle b_Dia_isTriangle 6 (some .boolean) ∈ zt := zt_of (List.mem_append_right _ (List.mem_append_left _ (List.mem_of_getElem? (i := 83) rfl))) rfl
abbrev b_Dia_crossingAhead : ByteArray := prog_3_method_6_code
def y_Dia_crossingAhead : MethodName := ⟨R_Dia, "crossingAhead", "(I)I"⟩
theorem k_Dia_crossingAhead : Cond.code y_Dia_crossingAhead b_Dia_crossingAhead 2 (some .int) ∈ zt := zt_of (List.mem_append_right _ (List.mem_append_left _ (List.mem_of_getElem? (i := 78) rfl))) rfl
abbrev b_Dia_leastFaceToUndo : ByteArray := prog_3_method_7_code
def y_Dia_leastFaceToUndo : MethodName := ⟨R_Dia, "leastFaceToUndo", "()I"⟩
theorem k_Dia_leastFaceToUndo : Cond.code y_Dia_leastFaceToUndo b_Dia_leastFaceToUndo 3 (some .int) ∈ zt := zt_of (List.mem_append_right _ (List.mem_append_left _ (List.mem_of_getElem? (i := 212) rfl))) rfl
abbrev b_Dia_undoAt : ByteArray := prog_3_method_8_code
def y_Dia_undoAt : MethodName := ⟨R_Dia, "undoAt", "(I)I"⟩
theorem k_Dia_undoAt : Cond.code y_Dia_undoAt b_Dia_undoAt 5 (some .int) ∈ zt := zt_of (List.mem_append_right _ (List.mem_append_left _ (List.mem_of_getElem? (i := 97) rfl))) rfl
abbrev b_Dia_lift : ByteArray := prog_3_method_9_code
def y_Dia_lift : MethodName := ⟨R_Dia, "lift", "(I)V"⟩
theorem k_Dia_lift : Cond.code y_Dia_lift b_Dia_lift 3 none ∈ zt := zt_of (List.mem_append_right _ (List.mem_append_left _ (List.mem_of_getElem? (i := 102) rfl))) rfl
abbrev b_Dia_joinEdges : ByteArray := prog_3_method_10_code
def y_Dia_joinEdges : MethodName := ⟨R_Dia, "joinEdges", "(II)V"⟩
theorem k_Dia_joinEdges : Cond.code y_Dia_joinEdges b_Dia_joinEdges 3 none ∈ zt := zt_of (List.mem_append_right _ (List.mem_append_left _ (List.mem_of_getElem? (i := 107) rfl))) rfl
abbrev b_Dia_slideAt : ByteArray := prog_3_method_11_code
def y_Dia_slideAt : MethodName := ⟨R_Dia, "slideAt", "(I)Z"⟩
theorem k_Dia_slideAt : Cond.code y_Dia_slideAt b_Dia_slideAt 3 (some .boolean) ∈ zt := zt_of (List.mem_append_right _ (List.mem_append_left _ (List.mem_of_getElem? (i := 131) rfl))) rfl
abbrev b_Dia_slideEdge : ByteArray := prog_3_method_12_code
def y_Dia_slideEdge : MethodName := ⟨R_Dia, "slideEdge", "(I)V"⟩
theorem k_Dia_slideEdge : Cond.code y_Dia_slideEdge b_Dia_slideEdge 6 none ∈ zt := zt_of (List.mem_append_right _ (List.mem_append_left _ (List.mem_of_getElem? (i := 136) rfl))) rfl
abbrev b_Dia_twistCircle : ByteArray := prog_3_method_13_code
def y_Dia_twistCircle : MethodName := ⟨R_Dia, "twistCircle", "(IZ)Z"⟩
theorem k_Dia_twistCircle : Cond.code y_Dia_twistCircle b_Dia_twistCircle 5 (some .boolean) ∈ zt := zt_of (List.mem_append_right _ (List.mem_append_left _ (List.mem_of_getElem? (i := 144) rfl))) rfl
abbrev b_Dia_twistEdge : ByteArray := prog_3_method_14_code
def y_Dia_twistEdge : MethodName := ⟨R_Dia, "twistEdge", "(IIZ)Z"⟩
theorem k_Dia_twistEdge : Cond.code y_Dia_twistEdge b_Dia_twistEdge 5 (some .boolean) ∈ zt := zt_of (List.mem_append_right _ (List.mem_append_left _ (List.mem_of_getElem? (i := 183) rfl))) rfl
abbrev b_Dia_addKink : ByteArray := prog_3_method_15_code
def y_Dia_addKink : MethodName := ⟨R_Dia, "addKink", "(LDiagramMoves$Cut;IZ)V"⟩
theorem k_Dia_addKink : Cond.code y_Dia_addKink b_Dia_addKink 4 none ∈ zt := zt_of (List.mem_append_right _ (List.mem_append_left _ (List.mem_of_getElem? (i := 166) rfl))) rfl
abbrev b_Dia_cutEdge : ByteArray := prog_3_method_16_code
def y_Dia_cutEdge : MethodName := ⟨R_Dia, "cutEdge", "(II)LDiagramMoves$Cut;"⟩
theorem k_Dia_cutEdge : Cond.code y_Dia_cutEdge b_Dia_cutEdge 5 (some (.object "DiagramMoves$Cut")) ∈ zt := zt_of (List.mem_append_right _ (List.mem_append_left _ (List.mem_of_getElem? (i := 191) rfl))) rfl
abbrev b_Dia_addCrossing : ByteArray := prog_3_method_17_code
def y_Dia_addCrossing : MethodName := ⟨R_Dia, "addCrossing", "(ILDiagramMoves$Cut;ZLDiagramMoves$Cut;Z)V"⟩
theorem k_Dia_addCrossing : Cond.code y_Dia_addCrossing b_Dia_addCrossing 10 none ∈ zt := zt_of (List.mem_append_right _ (List.mem_append_left _ (List.mem_of_getElem? (i := 170) rfl))) rfl
abbrev b_Dia_pushDart : ByteArray := prog_3_method_18_code
def y_Dia_pushDart : MethodName := ⟨R_Dia, "pushDart", "(IIZ)Z"⟩
theorem k_Dia_pushDart : Cond.code y_Dia_pushDart b_Dia_pushDart 9 (some .boolean) ∈ zt := zt_of (List.mem_append_right _ (List.mem_append_left _ (List.mem_of_getElem? (i := 200) rfl))) rfl
abbrev b_Dia_canMeet : ByteArray := prog_3_method_19_code
def y_Dia_canMeet : MethodName := ⟨R_Dia, "canMeet", "(II)Z"⟩
theorem k_Dia_canMeet : Cond.code y_Dia_canMeet b_Dia_canMeet 5 (some .boolean) ∈ zt := zt_of (List.mem_append_right _ (List.mem_append_left _ (List.mem_of_getElem? (i := 204) rfl))) rfl
abbrev b_Edg_init : ByteArray := prog_4_method_1_code
def y_Edg_init : MethodName := ⟨R_Edg, "<init>", "()V"⟩
theorem k_Edg_init : Cond.code y_Edg_init b_Edg_init 1 none ∈ zt := zt_of (List.mem_append_left _ (List.mem_of_getElem? (i := 55) rfl)) rfl
abbrev b_Edg_find : ByteArray := prog_4_method_2_code
def y_Edg_find : MethodName := ⟨R_Edg, "find", "(LDiagramMoves$Row;)I"⟩
theorem k_Edg_find : Cond.code y_Edg_find b_Edg_find 2 (some .int) ∈ zt := zt_of (List.mem_append_left _ (List.mem_of_getElem? (i := 190) rfl)) rfl
abbrev b_Edg_sortPlaces : ByteArray := prog_4_method_3_code
def y_Edg_sortPlaces : MethodName := ⟨R_Edg, "sortPlaces", "(LDiagramMoves$Row;)V"⟩
theorem k_Edg_sortPlaces : Cond.code y_Edg_sortPlaces b_Edg_sortPlaces 5 none ∈ zt := zt_of (List.mem_append_left _ (List.mem_of_getElem? (i := 194) rfl)) rfl
abbrev b_Edg_everyLabelStandsTwice : ByteArray := prog_4_method_4_code
def y_Edg_everyLabelStandsTwice : MethodName := ⟨R_Edg, "everyLabelStandsTwice", "(LDiagramMoves$Row;)Z"⟩
theorem k_Edg_everyLabelStandsTwice : Cond.code y_Edg_everyLabelStandsTwice b_Edg_everyLabelStandsTwice 5 (some .boolean) ∈ zt := zt_of (List.mem_append_left _ (List.mem_of_getElem? (i := 198) rfl)) rfl
abbrev b_Edg_pairPlaces : ByteArray := prog_4_method_5_code
def y_Edg_pairPlaces : MethodName := ⟨R_Edg, "pairPlaces", "(LDiagramMoves$Row;)Z"⟩
theorem k_Edg_pairPlaces : Cond.code y_Edg_pairPlaces b_Edg_pairPlaces 6 (some .boolean) ∈ zt := zt_of (List.mem_append_left _ (List.mem_of_getElem? (i := 202) rfl)) rfl
abbrev b_Edg_withLabel : ByteArray := prog_4_method_6_code
def y_Edg_withLabel : MethodName := ⟨R_Edg, "withLabel", "(I)I"⟩
theorem k_Edg_withLabel : Cond.code y_Edg_withLabel b_Edg_withLabel 3 (some .int) ∈ zt := zt_of (List.mem_append_right _ (List.mem_append_left _ (List.mem_of_getElem? (i := 187) rfl))) rfl
abbrev b_Edg_freeAfter : ByteArray := prog_4_method_7_code
def y_Edg_freeAfter : MethodName := ⟨R_Edg, "freeAfter", "(I)I"⟩
theorem k_Edg_freeAfter : Cond.code y_Edg_freeAfter b_Edg_freeAfter 4 (some .int) ∈ zt := zt_of (List.mem_append_right _ (List.mem_append_left _ (List.mem_of_getElem? (i := 32) rfl))) rfl
abbrev b_Edg_signedLabel : ByteArray := prog_4_method_8_code
def y_Edg_signedLabel : MethodName := ⟨R_Edg, "signedLabel", "(I)I"⟩
theorem k_Edg_signedLabel : Cond.code y_Edg_signedLabel b_Edg_signedLabel 3 (some .int) ∈ zt := zt_of (List.mem_append_right _ (List.mem_append_left _ (List.mem_of_getElem? (i := 56) rfl))) rfl
abbrev b_Edg_arrival : ByteArray := prog_4_method_9_code
def y_Edg_arrival : MethodName := ⟨R_Edg, "arrival", "(I)I"⟩
theorem k_Edg_arrival : Cond.code y_Edg_arrival b_Edg_arrival 2 (some .int) ∈ zt := zt_of (List.mem_append_left _ (List.mem_of_getElem? (i := 229) rfl)) rfl
abbrev b_Edg_dartLeaving : ByteArray := prog_4_method_10_code
def y_Edg_dartLeaving : MethodName := ⟨R_Edg, "dartLeaving", "(I)I"⟩
theorem k_Edg_dartLeaving : Cond.code y_Edg_dartLeaving b_Edg_dartLeaving 3 (some .int) ∈ zt := zt_of (List.mem_append_left _ (List.mem_of_getElem? (i := 233) rfl)) rfl
abbrev b_Edg_nextDart : ByteArray := prog_4_method_11_code
def y_Edg_nextDart : MethodName := ⟨R_Edg, "nextDart", "(I)I"⟩
theorem k_Edg_nextDart : Cond.code y_Edg_nextDart b_Edg_nextDart 4 (some .int) ∈ zt := zt_of (List.mem_append_left _ (List.mem_of_getElem? (i := 225) rfl)) rfl
abbrev b_Edg_upperEnds : ByteArray := prog_4_method_12_code
def y_Edg_upperEnds : MethodName := ⟨R_Edg, "upperEnds", "(I)I"⟩
theorem k_Edg_upperEnds : Cond.code y_Edg_upperEnds b_Edg_upperEnds 2 (some .int) ∈ zt := zt_of (List.mem_append_right _ (List.mem_append_left _ (List.mem_of_getElem? (i := 74) rfl))) rfl
abbrev b_Fac_init : ByteArray := prog_5_method_1_code
def y_Fac_init : MethodName := ⟨R_Fac, "<init>", "()V"⟩
theorem k_Fac_init : Cond.code y_Fac_init b_Fac_init 1 none ∈ zt := zt_of (List.mem_append_left _ (List.mem_of_getElem? (i := 88) rfl)) rfl
abbrev b_Fac_find : ByteArray := prog_5_method_2_code
def y_Fac_find : MethodName := ⟨R_Fac, "find", "(LDiagramMoves$Edges;)V"⟩
theorem k_Fac_find : Cond.code y_Fac_find b_Fac_find 3 none ∈ zt := zt_of (List.mem_append_left _ (List.mem_of_getElem? (i := 214) rfl)) rfl
abbrev b_Fac_addRound : ByteArray := prog_5_method_3_code
def y_Fac_addRound : MethodName := ⟨R_Fac, "addRound", "(LDiagramMoves$Edges;I)V"⟩
theorem k_Fac_addRound : Cond.code y_Fac_addRound b_Fac_addRound 5 none ∈ zt := zt_of (List.mem_append_left _ (List.mem_of_getElem? (i := 221) rfl)) rfl
abbrev b_Fac_has : ByteArray := prog_5_method_4_code
def y_Fac_has : MethodName := ⟨R_Fac, "has", "(I)Z"⟩
theorem k_Fac_has : Cond.code y_Fac_has b_Fac_has 2 (some .boolean) ∈ zt := zt_of (List.mem_append_right _ (List.mem_append_left _ (List.mem_of_getElem? (i := 44) rfl))) rfl
abbrev b_Fac_size : ByteArray := prog_5_method_5_code
def y_Fac_size : MethodName := ⟨R_Fac, "size", "(I)I"⟩
theorem k_Fac_size : Cond.code y_Fac_size b_Fac_size 2 (some .int) ∈ zt := zt_of (List.mem_append_right _ (List.mem_append_left _ (List.mem_of_getElem? (i := 48) rfl))) rfl
abbrev b_Fac_dart : ByteArray := prog_5_method_6_code
def y_Fac_dart : MethodName := ⟨R_Fac, "dart", "(II)I"⟩
theorem k_Fac_dart : Cond.code y_Fac_dart b_Fac_dart 3 (some .int) ∈ zt := zt_of (List.mem_append_right _ (List.mem_append_left _ (List.mem_of_getElem? (i := 52) rfl))) rfl
abbrev b_Pie_init : ByteArray := prog_6_method_1_code
def y_Pie_init : MethodName := ⟨R_Pie, "<init>", "()V"⟩
theorem k_Pie_init : Cond.code y_Pie_init b_Pie_init 1 none ∈ zt := zt_of (List.mem_append_left _ (List.mem_of_getElem? (i := 110) rfl)) rfl
abbrev b_Pie_find : ByteArray := prog_6_method_2_code
def y_Pie_find : MethodName := ⟨R_Pie, "find", "(ILDiagramMoves$Edges;)V"⟩
theorem k_Pie_find : Cond.code y_Pie_find b_Pie_find 3 none ∈ zt := zt_of (List.mem_append_left _ (List.mem_of_getElem? (i := 237) rfl)) rfl
abbrev b_Pie_findPieces : ByteArray := prog_6_method_3_code
def y_Pie_findPieces : MethodName := ⟨R_Pie, "findPieces", "(ILDiagramMoves$Edges;)V"⟩
theorem k_Pie_findPieces : Cond.code y_Pie_findPieces b_Pie_findPieces 4 none ∈ zt := zt_of (List.mem_append_right _ (List.mem_append_left _ (List.mem_of_getElem? (i := 1) rfl))) rfl
abbrev b_Pie_unite : ByteArray := prog_6_method_4_code
def y_Pie_unite : MethodName := ⟨R_Pie, "unite", "(III)V"⟩
theorem k_Pie_unite : Cond.code y_Pie_unite b_Pie_unite 7 none ∈ zt := zt_of (List.mem_append_right _ (List.mem_append_left _ (List.mem_of_getElem? (i := 5) rfl))) rfl
abbrev b_Pie_countComponents : ByteArray := prog_6_method_5_code
def y_Pie_countComponents : MethodName := ⟨R_Pie, "countComponents", "(LDiagramMoves$Edges;)V"⟩
theorem k_Pie_countComponents : Cond.code y_Pie_countComponents b_Pie_countComponents 3 none ∈ zt := zt_of (List.mem_append_right _ (List.mem_append_left _ (List.mem_of_getElem? (i := 15) rfl))) rfl
abbrev b_Pie_followComponent : ByteArray := prog_6_method_6_code
def y_Pie_followComponent : MethodName := ⟨R_Pie, "followComponent", "(LDiagramMoves$Edges;I)V"⟩
theorem k_Pie_followComponent : Cond.code y_Pie_followComponent b_Pie_followComponent 5 none ∈ zt := zt_of (List.mem_append_right _ (List.mem_append_left _ (List.mem_of_getElem? (i := 20) rfl))) rfl
abbrev b_Row_init : ByteArray := prog_7_method_1_code
def y_Row_init : MethodName := ⟨R_Row, "<init>", "()V"⟩
theorem k_Row_init : Cond.code y_Row_init b_Row_init 1 none ∈ zt := zt_of (List.mem_append_left _ (List.mem_of_getElem? (i := 31) rfl)) rfl
abbrev b_Row_isFull : ByteArray := prog_7_method_2_code
def y_Row_isFull : MethodName := ⟨R_Row, "isFull", "()Z"⟩
theorem k_Row_isFull : Cond.code y_Row_isFull b_Row_isFull 1 (some .boolean) ∈ zt := zt_of (List.mem_append_left _ (List.mem_of_getElem? (i := 173) rfl)) rfl
abbrev b_Row_add : ByteArray := prog_7_method_3_code
def y_Row_add : MethodName := ⟨R_Row, "add", "(IIIII)V"⟩
theorem k_Row_add : Cond.code y_Row_add b_Row_add 7 none ∈ zt := zt_of (List.mem_append_left _ (List.mem_of_getElem? (i := 177) rfl)) rfl
abbrev b_Row_sumOfSigns : ByteArray := prog_7_method_4_code
def y_Row_sumOfSigns : MethodName := ⟨R_Row, "sumOfSigns", "()I"⟩
theorem k_Row_sumOfSigns : Cond.code y_Row_sumOfSigns b_Row_sumOfSigns 3 (some .int) ∈ zt := zt_of (List.mem_append_right _ (List.mem_append_left _ (List.mem_of_getElem? (i := 28) rfl))) rfl
abbrev b_Row_upperIn : ByteArray := prog_7_method_5_code
def y_Row_upperIn : MethodName := ⟨R_Row, "upperIn", "(I)I"⟩
theorem k_Row_upperIn : Cond.code y_Row_upperIn b_Row_upperIn 2 (some .int) ∈ zt := zt_of (List.mem_append_left _ (List.mem_of_getElem? (i := 210) rfl)) rfl
abbrev b_Row_strandGoesIn : ByteArray := prog_7_method_6_code
def y_Row_strandGoesIn : MethodName := ⟨R_Row, "strandGoesIn", "(I)Z"⟩
theorem k_Row_strandGoesIn : Cond.code y_Row_strandGoesIn b_Row_strandGoesIn 3 (some .boolean) ∈ zt := zt_of (List.mem_append_left _ (List.mem_of_getElem? (i := 206) rfl)) rfl
abbrev b_Row_joinLabels : ByteArray := prog_7_method_7_code
def y_Row_joinLabels : MethodName := ⟨R_Row, "joinLabels", "(II)Z"⟩
theorem k_Row_joinLabels : Cond.code y_Row_joinLabels b_Row_joinLabels 6 (some .boolean) ∈ zt := zt_of (List.mem_append_right _ (List.mem_append_left _ (List.mem_of_getElem? (i := 111) rfl))) rfl
abbrev b_Row_remove : ByteArray := prog_7_method_8_code
def y_Row_remove : MethodName := ⟨R_Row, "remove", "(I)V"⟩
theorem k_Row_remove : Cond.code y_Row_remove b_Row_remove 3 none ∈ zt := zt_of (List.mem_append_right _ (List.mem_append_left _ (List.mem_of_getElem? (i := 117) rfl))) rfl
abbrev b_Math_max : ByteArray := prog_11_method_65_code
def y_Math_max : MethodName := ⟨R_Math, "max", "(II)I"⟩
theorem k_Math_max : Cond.code y_Math_max b_Math_max 2 (some .int) ∈ zt := zt_of (List.mem_append_right _ (List.mem_append_left _ (List.mem_of_getElem? (i := 11) rfl))) rfl
abbrev b_Math_min : ByteArray := prog_11_method_69_code
def y_Math_min : MethodName := ⟨R_Math, "min", "(II)I"⟩
theorem k_Math_min : Cond.code y_Math_min b_Math_min 2 (some .int) ∈ zt := zt_of (List.mem_append_right _ (List.mem_append_left _ (List.mem_of_getElem? (i := 8) rfl))) rfl
abbrev b_Arr_fill : ByteArray := prog_13_method_103_code
def y_Arr_fill : MethodName := ⟨R_Arr, "fill", "([II)V"⟩
theorem k_Arr_fill : Cond.code y_Arr_fill b_Arr_fill 4 none ∈ zt := zt_of (List.mem_append_left _ (List.mem_of_getElem? (i := 217) rfl)) rfl
abbrev b_Int_bitCount : ByteArray := prog_10_method_49_code
def y_Int_bitCount : MethodName := ⟨R_Int, "bitCount", "(I)I"⟩
theorem k_Int_bitCount : Cond.code y_Int_bitCount b_Int_bitCount 1 (some .int) ∈ zt := zt_of (List.mem_append_right _ (List.mem_append_left _ (List.mem_of_getElem? (i := 86) rfl))) rfl
