abbrev zM : Type := MethodName × ByteArray × Nat × Option FieldType × Room
def T_R : u_T := fun k => match k with
  | 0 => ("LinkDiagram$ArcMatrix", "leastEdge", "[I", true)
  | 1 => ("LinkDiagram$ArcMatrix", "numberOf", "[I", true)
  | 2 => ("LinkDiagram$ArcMatrix", "constants", "[I", true)
  | 3 => ("LinkDiagram$ArcMatrix", "linears", "[I", true)
  | _ => ("LinkDiagram$ArcMatrix", "minors", "[J", true)
def t_R : Nat → FieldType := fun k => match k with
  | 0 => .array .int
  | 1 => .array .int
  | 2 => .array .int
  | 3 => .array .int
  | _ => .array .long
theorem nm_R : ∀ a, a < 5 → ∀ b, b < 5 → a ≠ b → (T_R a).2.1 ≠ (T_R b).2.1 := by decide +kernel
theorem ty_R : ∀ k, k < 5 → parseFieldDescriptor (T_R k).2.2.1 = some (t_R k) := by decide +kernel
def T_B : u_T := fun k => match k with
  | 0 => ("LinkDiagram$Bracket", "otherEnds", "[I", true)
  | 1 => ("LinkDiagram$Bracket", "states", "[I", true)
  | _ => ("LinkDiagram$Bracket", "sum", "[J", true)
def t_B : Nat → FieldType := fun k => match k with
  | 0 => .array .int
  | 1 => .array .int
  | _ => .array .long
theorem nm_B : ∀ a, a < 3 → ∀ b, b < 3 → a ≠ b → (T_B a).2.1 ≠ (T_B b).2.1 := by decide +kernel
theorem ty_B : ∀ k, k < 3 → parseFieldDescriptor (T_B k).2.2.1 = some (t_B k) := by decide +kernel
def T_C : u_T := fun k => match k with
  | 0 => ("LinkDiagram$Crossings", "edges", "[I", true)
  | 1 => ("LinkDiagram$Crossings", "signs", "[I", true)
  | _ => ("LinkDiagram$Crossings", "size", "I", false)
def t_C : Nat → FieldType := fun k => match k with
  | 0 => .array .int
  | 1 => .array .int
  | _ => .int
theorem nm_C : ∀ a, a < 3 → ∀ b, b < 3 → a ≠ b → (T_C a).2.1 ≠ (T_C b).2.1 := by decide +kernel
theorem ty_C : ∀ k, k < 3 → parseFieldDescriptor (T_C k).2.2.1 = some (t_C k) := by decide +kernel
def T_S : u_T := fun k => match k with
  | 0 => ("LinkDiagram$Shape", "seen", "[I", true)
  | _ => ("LinkDiagram$Shape", "pieceOf", "[I", true)
def t_S : Nat → FieldType := fun k => match k with
  | 0 => .array .int
  | _ => .array .int
theorem nm_S : ∀ a, a < 2 → ∀ b, b < 2 → a ≠ b → (T_S a).2.1 ≠ (T_S b).2.1 := by decide +kernel
theorem ty_S : ∀ k, k < 2 → parseFieldDescriptor (T_S k).2.2.1 = some (t_S k) := by decide +kernel
def T_A : u_T := fun k => match k with
  | 0 => ("LinkDiagram", "draft", "LLinkDiagram$Crossings;", true)
  | 1 => ("LinkDiagram", "diagram", "LLinkDiagram$Crossings;", true)
  | 2 => ("LinkDiagram", "former", "LLinkDiagram$Crossings;", true)
  | 3 => ("LinkDiagram", "shape", "LLinkDiagram$Shape;", true)
  | 4 => ("LinkDiagram", "bracket", "LLinkDiagram$Bracket;", true)
  | 5 => ("LinkDiagram", "arcMatrix", "LLinkDiagram$ArcMatrix;", true)
  | 6 => ("LinkDiagram", "word", "[I", true)
  | 7 => ("LinkDiagram", "places", "[I", true)
  | 8 => ("LinkDiagram", "letters", "I", false)
  | _ => ("LinkDiagram", "circles", "I", false)
def t_A : Nat → FieldType := fun k => match k with
  | 0 => .object "LinkDiagram$Crossings"
  | 1 => .object "LinkDiagram$Crossings"
  | 2 => .object "LinkDiagram$Crossings"
  | 3 => .object "LinkDiagram$Shape"
  | 4 => .object "LinkDiagram$Bracket"
  | 5 => .object "LinkDiagram$ArcMatrix"
  | 6 => .array .int
  | 7 => .array .int
  | 8 => .int
  | _ => .int
theorem nm_A : ∀ a, a < 10 → ∀ b, b < 10 → a ≠ b → (T_A a).2.1 ≠ (T_A b).2.1 := by decide +kernel
theorem ty_A : ∀ k, k < 10 → parseFieldDescriptor (T_A k).2.2.1 = some (t_A k) := by decide +kernel
def T_M : u_T := fun k => match k with
  | 0 => ("LinkDiagramModel", "edge", "[I", true)
  | 1 => ("LinkDiagramModel", "plus", "[Z", true)
  | 2 => ("LinkDiagramModel", "crossings", "I", false)
  | 3 => ("LinkDiagramModel", "drafted", "I", false)
  | 4 => ("LinkDiagramModel", "circles", "I", false)
  | 5 => ("LinkDiagramModel", "word", "[I", true)
  | 6 => ("LinkDiagramModel", "letters", "I", false)
  | 7 => ("LinkDiagramModel", "view", "I", false)
  | 8 => ("LinkDiagramModel", "many", "I", false)
  | 9 => ("LinkDiagramModel", "met", "[Z", true)
  | 10 => ("LinkDiagramModel", "sum", "[J", true)
  | 11 => ("LinkDiagramModel", "power", "[J", true)
  | 12 => ("LinkDiagramModel", "shifted", "[J", true)
  | 13 => ("LinkDiagramModel", "arc", "[I", true)
  | 14 => ("LinkDiagramModel", "arcs", "I", false)
  | 15 => ("LinkDiagramModel", "constant", "[I", true)
  | 16 => ("LinkDiagramModel", "linear", "[I", true)
  | 17 => ("LinkDiagramModel", "minor", "[J", true)
  | _ => ("LinkDiagramModel", "next", "[I", true)
def t_M : Nat → FieldType := fun k => match k with
  | 0 => .array .int
  | 1 => .array .boolean
  | 2 => .int
  | 3 => .int
  | 4 => .int
  | 5 => .array .int
  | 6 => .int
  | 7 => .int
  | 8 => .int
  | 9 => .array .boolean
  | 10 => .array .long
  | 11 => .array .long
  | 12 => .array .long
  | 13 => .array .int
  | 14 => .int
  | 15 => .array .int
  | 16 => .array .int
  | 17 => .array .long
  | _ => .array .int
theorem nm_M : ∀ a, a < 19 → ∀ b, b < 19 → a ≠ b → (T_M a).2.1 ≠ (T_M b).2.1 := by decide +kernel
theorem ty_M : ∀ k, k < 19 → parseFieldDescriptor (T_M k).2.2.1 = some (t_M k) := by decide +kernel
abbrev vwCl : List vw_C := [("LinkDiagram$ArcMatrix", T_R, 5), ("LinkDiagram$Bracket", T_B, 3), ("LinkDiagram$Crossings", T_C, 3), ("LinkDiagram$Shape", T_S, 2), ("LinkDiagram", T_A, 10), ("LinkDiagramModel", T_M, 19)]
def zNl : List (String × Nat × MethodName × String) := [("LinkDiagram", 9, ⟨"LinkDiagram$Crossings", "<init>", "()V"⟩, "LinkDiagram"), ("LinkDiagram", 24, ⟨"LinkDiagram$Shape", "<init>", "()V"⟩, "LinkDiagram"), ("LinkDiagram", 31, ⟨"LinkDiagram$Bracket", "<init>", "()V"⟩, "LinkDiagram"), ("LinkDiagram", 38, ⟨"LinkDiagram$ArcMatrix", "<init>", "()V"⟩, "LinkDiagram"), ("LinkDiagram$Crossings", 36, ⟨"LinkDiagram", "isUpper", "(I)Z"⟩, "LinkDiagram"), ("LinkDiagram$Crossings", 39, ⟨"LinkDiagram", "crossingOf", "(I)I"⟩, "LinkDiagram"), ("LinkDiagram$Crossings", 53, ⟨"LinkDiagram", "turned", "(II)I"⟩, "LinkDiagram"), ("LinkDiagram$Shape", 59, ⟨"LinkDiagram", "crossingOf", "(I)I"⟩, "LinkDiagram"), ("LinkDiagram$Shape", 72, ⟨"LinkDiagram", "opposite", "(I)I"⟩, "LinkDiagram"), ("LinkDiagram$Bracket", 72, ⟨"LinkDiagram", "crossingOf", "(I)I"⟩, "LinkDiagram"), ("LinkDiagram$ArcMatrix", 84, ⟨"LinkDiagram", "crossingOf", "(I)I"⟩, "LinkDiagram"), ("LinkDiagram$ArcMatrix", 81, ⟨"LinkDiagram", "opposite", "(I)I"⟩, "LinkDiagram"), ("LinkDiagram$Crossings", 63, ⟨"LinkDiagram", "opposite", "(I)I"⟩, "LinkDiagram")]
def zN : List Cond := zNl.map (fun q => Cond.methodLinkNest q.1 q.2.1 q.2.2.1 q.2.2.2)
theorem zN_on : ∀ u ∈ zN, u.onTables = true := by
  intro u hu
  obtain ⟨q, -, rfl⟩ := List.mem_map.mp hu
  rfl
theorem zN_warm {s U : State} (hW : s.WarmedH U.vm) : ∀ u ∈ zN, va_Nw u s → va_Nw u U := by
  intro u hu h
  obtain ⟨q, -, rfl⟩ := List.mem_map.mp hu
  exact va_Nw.warmM hW h

theorem zN_tbl0 : ∀ q ∈ zNl, Cond.methodLinkNest q.1 q.2.1 q.2.2.1 q.2.2.2 ∈ lw_tbl := List.forall_mem_cons.mpr ⟨(List.mem_append_right _ (List.mem_of_getElem? (i := 21) (by decide +kernel))), List.forall_mem_cons.mpr ⟨(List.mem_append_right _ (List.mem_of_getElem? (i := 38) (by decide +kernel))), List.forall_mem_cons.mpr ⟨(List.mem_append_right _ (List.mem_of_getElem? (i := 51) (by decide +kernel))), List.forall_mem_cons.mpr ⟨(List.mem_append_right _ (List.mem_of_getElem? (i := 68) (by decide +kernel))), List.forall_mem_cons.mpr ⟨(List.mem_append_right _ (List.mem_of_getElem? (i := 178) (by decide +kernel))), List.forall_mem_cons.mpr ⟨(List.mem_append_right _ (List.mem_of_getElem? (i := 181) (by decide +kernel))), List.forall_mem_cons.mpr ⟨(List.mem_append_right _ (List.mem_of_getElem? (i := 212) (by decide +kernel))), List.forall_mem_cons.mpr ⟨(List.mem_append_right _ (List.mem_of_getElem? (i := 220) (by decide +kernel))), List.forall_mem_cons.mpr ⟨(List.mem_append_right _ (List.mem_of_getElem? (i := 273) (by decide +kernel))), List.forall_mem_cons.mpr ⟨(List.mem_append_right _ (List.mem_of_getElem? (i := 316) (by decide +kernel))), List.forall_mem_cons.mpr ⟨(List.mem_append_right _ (List.mem_of_getElem? (i := 370) (by decide +kernel))), List.forall_mem_cons.mpr ⟨(List.mem_append_right _ (List.mem_of_getElem? (i := 371) (by decide +kernel))), List.forall_mem_cons.mpr ⟨(List.mem_append_right _ (List.mem_of_getElem? (i := 455) (by decide +kernel))), fun _ h => absurd h List.not_mem_nil⟩⟩⟩⟩⟩⟩⟩⟩⟩⟩⟩⟩⟩
theorem zN_tbl : ∀ u ∈ zN, u ∈ lw_tbl := by
  intro u hu
  obtain ⟨q, hq, rfl⟩ := List.mem_map.mp hu
  exact zN_tbl0 q hq
abbrev M_A_appendTwist : zM := (⟨"LinkDiagram", "appendTwist", "(IIII)V"⟩, prog_1_method_16_code, 5, none, { frames := 2, cells := 0, slots := 0, locals := 46 })
abbrev M_A_braid : zM := (⟨"LinkDiagram", "braid", "(I)Z"⟩, prog_1_method_7_code, 3, some .boolean, { frames := 3, cells := 0, slots := 0, locals := 72 })
abbrev M_A_closePlace : zM := (⟨"LinkDiagram", "closePlace", "(I)V"⟩, prog_1_method_10_code, 2, none, { frames := 2, cells := 0, slots := 0, locals := 43 })
abbrev M_A_count : zM := (⟨"LinkDiagram", "count", "(I)I"⟩, prog_1_method_11_code, 2, some .int, { frames := 5, cells := 0, slots := 0, locals := 110 })
abbrev M_A_cross : zM := (⟨"LinkDiagram", "cross", "(IIIIZ)Z"⟩, prog_1_method_2_code, 6, some .boolean, { frames := 2, cells := 0, slots := 0, locals := 46 })
abbrev M_A_crossingOf : zM := (⟨"LinkDiagram", "crossingOf", "(I)I"⟩, prog_1_method_30_code, 1, some .int, { frames := 0, cells := 0, slots := 0, locals := 0 })
abbrev M_A_drop : zM := (⟨"LinkDiagram", "drop", "()I"⟩, prog_1_method_3_code, 1, some .int, { frames := 2, cells := 0, slots := 0, locals := 52 })
abbrev M_A_end : zM := (⟨"LinkDiagram", "end", "(II)I"⟩, prog_1_method_12_code, 3, some .int, { frames := 1, cells := 0, slots := 0, locals := 21 })
abbrev M_A_first : zM := (⟨"LinkDiagram", "first", "(I)J"⟩, prog_1_method_13_code, 6, some .long, { frames := 5, cells := 0, slots := 0, locals := 122 })
abbrev M_A_freeEdge : zM := (⟨"LinkDiagram", "freeEdge", "(I)I"⟩, prog_1_method_29_code, 4, some .int, { frames := 2, cells := 0, slots := 0, locals := 42 })
abbrev M_A_init : zM := (⟨"LinkDiagram", "<init>", "()V"⟩, prog_1_method_1_code, 1, none, { frames := 2, cells := 24, slots := 3108, locals := 40 })
abbrev M_A_isEdge : zM := (⟨"LinkDiagram", "isEdge", "(I)Z"⟩, prog_1_method_5_code, 1, some .boolean, { frames := 0, cells := 0, slots := 0, locals := 0 })
abbrev M_A_isPokedFace : zM := (⟨"LinkDiagram", "isPokedFace", "(II)Z"⟩, prog_1_method_21_code, 4, some .boolean, { frames := 3, cells := 0, slots := 0, locals := 63 })
abbrev M_A_isSlidingFace : zM := (⟨"LinkDiagram", "isSlidingFace", "(III)Z"⟩, prog_1_method_24_code, 8, some .boolean, { frames := 3, cells := 0, slots := 0, locals := 63 })
abbrev M_A_isUpper : zM := (⟨"LinkDiagram", "isUpper", "(I)Z"⟩, prog_1_method_31_code, 1, some .boolean, { frames := 0, cells := 0, slots := 0, locals := 0 })
abbrev M_A_isUpperEdge : zM := (⟨"LinkDiagram", "isUpperEdge", "(I)Z"⟩, prog_1_method_25_code, 2, some .boolean, { frames := 2, cells := 0, slots := 0, locals := 42 })
abbrev M_A_join : zM := (⟨"LinkDiagram", "join", "(II)V"⟩, prog_1_method_28_code, 3, none, { frames := 4, cells := 0, slots := 0, locals := 89 })
abbrev M_A_letter : zM := (⟨"LinkDiagram", "letter", "(I)Z"⟩, prog_1_method_6_code, 3, some .boolean, { frames := 0, cells := 0, slots := 0, locals := 0 })
abbrev M_A_loopEnd : zM := (⟨"LinkDiagram", "loopEnd", "(I)I"⟩, prog_1_method_18_code, 3, some .int, { frames := 1, cells := 0, slots := 0, locals := 21 })
abbrev M_A_opposite : zM := (⟨"LinkDiagram", "opposite", "(I)I"⟩, prog_1_method_32_code, 1, some .int, { frames := 0, cells := 0, slots := 0, locals := 0 })
abbrev M_A_poke : zM := (⟨"LinkDiagram", "poke", "(IZIZ)Z"⟩, prog_1_method_19_code, 9, some .boolean, { frames := 5, cells := 0, slots := 0, locals := 110 })
abbrev M_A_pullApart : zM := (⟨"LinkDiagram", "pullApart", "(II)V"⟩, prog_1_method_22_code, 9, none, { frames := 5, cells := 0, slots := 0, locals := 111 })
abbrev M_A_second : zM := (⟨"LinkDiagram", "second", "(I)J"⟩, prog_1_method_14_code, 2, some .long, { frames := 4, cells := 0, slots := 0, locals := 99 })
abbrev M_A_slide : zM := (⟨"LinkDiagram", "slide", "(III)Z"⟩, prog_1_method_23_code, 5, some .boolean, { frames := 6, cells := 0, slots := 0, locals := 133 })
abbrev M_A_slideEdge : zM := (⟨"LinkDiagram", "slideEdge", "(I)V"⟩, prog_1_method_27_code, 7, none, { frames := 4, cells := 0, slots := 0, locals := 85 })
abbrev M_A_slideFace : zM := (⟨"LinkDiagram", "slideFace", "(I)V"⟩, prog_1_method_26_code, 3, none, { frames := 5, cells := 0, slots := 0, locals := 111 })
abbrev M_A_take : zM := (⟨"LinkDiagram", "take", "(I)I"⟩, prog_1_method_4_code, 2, some .int, { frames := 6, cells := 0, slots := 0, locals := 131 })
abbrev M_A_turned : zM := (⟨"LinkDiagram", "turned", "(II)I"⟩, prog_1_method_33_code, 2, some .int, { frames := 0, cells := 0, slots := 0, locals := 0 })
abbrev M_A_twist : zM := (⟨"LinkDiagram", "twist", "(II)Z"⟩, prog_1_method_15_code, 5, some .boolean, { frames := 4, cells := 0, slots := 0, locals := 89 })
abbrev M_A_unpoke : zM := (⟨"LinkDiagram", "unpoke", "(II)Z"⟩, prog_1_method_20_code, 4, some .boolean, { frames := 6, cells := 0, slots := 0, locals := 139 })
abbrev M_A_untwist : zM := (⟨"LinkDiagram", "untwist", "(I)Z"⟩, prog_1_method_17_code, 8, some .boolean, { frames := 5, cells := 0, slots := 0, locals := 111 })
abbrev M_A_weave : zM := (⟨"LinkDiagram", "weave", "(II)V"⟩, prog_1_method_9_code, 7, none, { frames := 2, cells := 0, slots := 0, locals := 46 })
abbrev M_A_wordIsBelow : zM := (⟨"LinkDiagram", "wordIsBelow", "(I)Z"⟩, prog_1_method_8_code, 3, some .boolean, { frames := 1, cells := 0, slots := 0, locals := 21 })
abbrev M_B_addStates : zM := (⟨"LinkDiagram$Bracket", "addStates", "(II)V"⟩, prog_3_method_7_code, 4, none, { frames := 0, cells := 0, slots := 0, locals := 0 })
abbrev M_B_coefficient : zM := (⟨"LinkDiagram$Bracket", "coefficient", "(LLinkDiagram$Crossings;IJ)J"⟩, prog_3_method_2_code, 6, some .long, { frames := 4, cells := 0, slots := 0, locals := 97 })
abbrev M_B_curvesOf : zM := (⟨"LinkDiagram$Bracket", "curvesOf", "(II)I"⟩, prog_3_method_4_code, 6, some .int, { frames := 2, cells := 0, slots := 0, locals := 48 })
abbrev M_B_init : zM := (⟨"LinkDiagram$Bracket", "<init>", "()V"⟩, prog_3_method_1_code, 1, none, { frames := 1, cells := 3, slots := 418, locals := 20 })
abbrev M_B_multiplyByCurve : zM := (⟨"LinkDiagram$Bracket", "multiplyByCurve", "()V"⟩, prog_3_method_6_code, 10, none, { frames := 0, cells := 0, slots := 0, locals := 0 })
abbrev M_B_seenWithCurve : zM := (⟨"LinkDiagram$Bracket", "seenWithCurve", "(III)I"⟩, prog_3_method_5_code, 9, some .int, { frames := 1, cells := 0, slots := 0, locals := 20 })
abbrev M_B_tallyStates : zM := (⟨"LinkDiagram$Bracket", "tallyStates", "(LLinkDiagram$Crossings;I)V"⟩, prog_3_method_3_code, 5, none, { frames := 3, cells := 0, slots := 0, locals := 73 })
abbrev M_C_append : zM := (⟨"LinkDiagram$Crossings", "append", "(IIIIZ)V"⟩, prog_4_method_9_code, 7, none, { frames := 1, cells := 0, slots := 0, locals := 20 })
abbrev M_C_bringIn : zM := (⟨"LinkDiagram$Crossings", "bringIn", "(II)V"⟩, prog_4_method_23_code, 4, none, { frames := 3, cells := 0, slots := 0, locals := 66 })
abbrev M_C_clear : zM := (⟨"LinkDiagram$Crossings", "clear", "()V"⟩, prog_4_method_11_code, 1, none, { frames := 0, cells := 0, slots := 0, locals := 0 })
abbrev M_C_comesIn : zM := (⟨"LinkDiagram$Crossings", "comesIn", "(I)Z"⟩, prog_4_method_14_code, 3, some .boolean, { frames := 1, cells := 0, slots := 0, locals := 21 })
abbrev M_C_copyFrom : zM := (⟨"LinkDiagram$Crossings", "copyFrom", "(LLinkDiagram$Crossings;)V"⟩, prog_4_method_12_code, 2, none, { frames := 1, cells := 0, slots := 0, locals := 30 })
abbrev M_C_edgeAt : zM := (⟨"LinkDiagram$Crossings", "edgeAt", "(I)I"⟩, prog_4_method_6_code, 2, some .int, { frames := 0, cells := 0, slots := 0, locals := 0 })
abbrev M_C_edgeBefore : zM := (⟨"LinkDiagram$Crossings", "edgeBefore", "(I)I"⟩, prog_4_method_20_code, 2, some .int, { frames := 3, cells := 0, slots := 0, locals := 64 })
abbrev M_C_edgeBehind : zM := (⟨"LinkDiagram$Crossings", "edgeBehind", "(I)I"⟩, prog_4_method_21_code, 2, some .int, { frames := 3, cells := 0, slots := 0, locals := 64 })
abbrev M_C_endOn : zM := (⟨"LinkDiagram$Crossings", "endOn", "(IZ)I"⟩, prog_4_method_22_code, 4, some .int, { frames := 2, cells := 0, slots := 0, locals := 43 })
abbrev M_C_ends : zM := (⟨"LinkDiagram$Crossings", "ends", "()I"⟩, prog_4_method_3_code, 1, some .int, { frames := 0, cells := 0, slots := 0, locals := 0 })
abbrev M_C_follow : zM := (⟨"LinkDiagram$Crossings", "follow", "(I)I"⟩, prog_4_method_17_code, 2, some .int, { frames := 2, cells := 0, slots := 0, locals := 42 })
abbrev M_C_has : zM := (⟨"LinkDiagram$Crossings", "has", "(I)Z"⟩, prog_4_method_5_code, 2, some .boolean, { frames := 0, cells := 0, slots := 0, locals := 0 })
abbrev M_C_incoming : zM := (⟨"LinkDiagram$Crossings", "incoming", "(I)I"⟩, prog_4_method_18_code, 2, some .int, { frames := 2, cells := 0, slots := 0, locals := 43 })
abbrev M_C_init : zM := (⟨"LinkDiagram$Crossings", "<init>", "()V"⟩, prog_4_method_1_code, 1, none, { frames := 1, cells := 2, slots := 40, locals := 20 })
abbrev M_C_isFull : zM := (⟨"LinkDiagram$Crossings", "isFull", "()Z"⟩, prog_4_method_4_code, 1, some .boolean, { frames := 0, cells := 0, slots := 0, locals := 0 })
abbrev M_C_isPositive : zM := (⟨"LinkDiagram$Crossings", "isPositive", "(I)Z"⟩, prog_4_method_8_code, 2, some .boolean, { frames := 0, cells := 0, slots := 0, locals := 0 })
abbrev M_C_occurs : zM := (⟨"LinkDiagram$Crossings", "occurs", "(I)Z"⟩, prog_4_method_15_code, 3, some .boolean, { frames := 1, cells := 0, slots := 0, locals := 20 })
abbrev M_C_otherEnd : zM := (⟨"LinkDiagram$Crossings", "otherEnd", "(I)I"⟩, prog_4_method_16_code, 3, some .int, { frames := 1, cells := 0, slots := 0, locals := 20 })
abbrev M_C_outgoing : zM := (⟨"LinkDiagram$Crossings", "outgoing", "(I)I"⟩, prog_4_method_19_code, 2, some .int, { frames := 2, cells := 0, slots := 0, locals := 43 })
abbrev M_C_remove : zM := (⟨"LinkDiagram$Crossings", "remove", "(I)V"⟩, prog_4_method_10_code, 3, none, { frames := 1, cells := 0, slots := 0, locals := 30 })
abbrev M_C_rename : zM := (⟨"LinkDiagram$Crossings", "rename", "(II)V"⟩, prog_4_method_24_code, 4, none, { frames := 1, cells := 0, slots := 0, locals := 20 })
abbrev M_C_setEdge : zM := (⟨"LinkDiagram$Crossings", "setEdge", "(II)V"⟩, prog_4_method_7_code, 3, none, { frames := 0, cells := 0, slots := 0, locals := 0 })
abbrev M_C_size : zM := (⟨"LinkDiagram$Crossings", "size", "()I"⟩, prog_4_method_2_code, 1, some .int, { frames := 0, cells := 0, slots := 0, locals := 0 })
abbrev M_C_writhe : zM := (⟨"LinkDiagram$Crossings", "writhe", "()I"⟩, prog_4_method_13_code, 3, some .int, { frames := 0, cells := 0, slots := 0, locals := 0 })
abbrev M_F_fillI : zM := (⟨"java/util/Arrays", "fill", "([II)V"⟩, prog_11_method_103_code, 4, none, { frames := 0, cells := 0, slots := 0, locals := 0 })
abbrev M_F_fillL : zM := (⟨"java/util/Arrays", "fill", "([JJ)V"⟩, prog_11_method_101_code, 5, none, { frames := 0, cells := 0, slots := 0, locals := 0 })
abbrev M_I_bitCount : zM := (⟨"java/lang/Integer", "bitCount", "(I)I"⟩, prog_8_method_49_code, 1, some .int, { frames := 0, cells := 0, slots := 0, locals := 0 })
abbrev M_L_law : zM := (⟨"LinkDiagramLaw", "law", "([I)Z"⟩, code, 4, some .boolean, room_1)
abbrev M_M_addState : zM := (⟨"LinkDiagramModel", "addState", "(I)V"⟩, prog_7_method_27_code, 5, none, { frames := 2, cells := 0, slots := 0, locals := 49 })
abbrev M_M_beyond : zM := (⟨"LinkDiagramModel", "beyond", "(IZ)I"⟩, prog_7_method_48_code, 5, some .int, { frames := 1, cells := 0, slots := 0, locals := 24 })
abbrev M_M_braid : zM := (⟨"LinkDiagramModel", "braid", "(I)Z"⟩, prog_7_method_20_code, 8, some .boolean, { frames := 1, cells := 0, slots := 0, locals := 26 })
abbrev M_M_clear : zM := (⟨"LinkDiagramModel", "clear", "()V"⟩, prog_7_method_15_code, 2, none, { frames := 0, cells := 0, slots := 0, locals := 0 })
abbrev M_M_count : zM := (⟨"LinkDiagramModel", "count", "(I)I"⟩, prog_7_method_24_code, 2, some .int, { frames := 4, cells := 0, slots := 0, locals := 91 })
abbrev M_M_cross : zM := (⟨"LinkDiagramModel", "cross", "(IIIIZ)Z"⟩, prog_7_method_3_code, 6, some .boolean, { frames := 1, cells := 0, slots := 0, locals := 26 })
abbrev M_M_doubleLoop : zM := (⟨"LinkDiagramModel", "doubleLoop", "()V"⟩, prog_7_method_26_code, 6, none, { frames := 0, cells := 0, slots := 0, locals := 0 })
abbrev M_M_drop : zM := (⟨"LinkDiagramModel", "drop", "()I"⟩, prog_7_method_5_code, 1, some .int, { frames := 0, cells := 0, slots := 0, locals := 0 })
abbrev M_M_end : zM := (⟨"LinkDiagramModel", "end", "(II)I"⟩, prog_7_method_25_code, 3, some .int, { frames := 0, cells := 0, slots := 0, locals := 0 })
abbrev M_M_endOf : zM := (⟨"LinkDiagramModel", "endOf", "(IZ)I"⟩, prog_7_method_37_code, 4, some .int, { frames := 1, cells := 0, slots := 0, locals := 22 })
abbrev M_M_entries : zM := (⟨"LinkDiagramModel", "entries", "(I)V"⟩, prog_7_method_32_code, 6, none, { frames := 0, cells := 0, slots := 0, locals := 0 })
abbrev M_M_expand : zM := (⟨"LinkDiagramModel", "expand", "(III)V"⟩, prog_7_method_33_code, 11, none, { frames := 0, cells := 0, slots := 0, locals := 0 })
abbrev M_M_face : zM := (⟨"LinkDiagramModel", "face", "(I)I"⟩, prog_7_method_11_code, 4, some .int, { frames := 2, cells := 0, slots := 0, locals := 46 })
abbrev M_M_faces : zM := (⟨"LinkDiagramModel", "faces", "()I"⟩, prog_7_method_13_code, 3, some .int, { frames := 3, cells := 0, slots := 0, locals := 69 })
abbrev M_M_first : zM := (⟨"LinkDiagramModel", "first", "(I)J"⟩, prog_7_method_28_code, 6, some .long, { frames := 3, cells := 0, slots := 0, locals := 73 })
abbrev M_M_fit : zM := (⟨"LinkDiagramModel", "fit", "()Z"⟩, prog_7_method_9_code, 3, some .boolean, { frames := 1, cells := 0, slots := 0, locals := 24 })
abbrev M_M_follow : zM := (⟨"LinkDiagramModel", "follow", "(I)I"⟩, prog_7_method_10_code, 3, some .int, { frames := 1, cells := 0, slots := 0, locals := 24 })
abbrev M_M_free : zM := (⟨"LinkDiagramModel", "free", "(I)I"⟩, prog_7_method_36_code, 5, some .int, { frames := 1, cells := 0, slots := 0, locals := 22 })
abbrev M_M_in : zM := (⟨"LinkDiagramModel", "in", "(I)Z"⟩, prog_7_method_7_code, 3, some .boolean, { frames := 0, cells := 0, slots := 0, locals := 0 })
abbrev M_M_init : zM := (⟨"LinkDiagramModel", "<init>", "()V"⟩, prog_7_method_1_code, 1, none, { frames := 1, cells := 12, slots := 3676, locals := 20 })
abbrev M_M_instead : zM := (⟨"LinkDiagramModel", "instead", "(II)V"⟩, prog_7_method_38_code, 4, none, { frames := 2, cells := 0, slots := 0, locals := 45 })
abbrev M_M_isCrossing : zM := (⟨"LinkDiagramModel", "isCrossing", "(I)Z"⟩, prog_7_method_43_code, 2, some .boolean, { frames := 0, cells := 0, slots := 0, locals := 0 })
abbrev M_M_isEdge : zM := (⟨"LinkDiagramModel", "isEdge", "(I)Z"⟩, prog_7_method_2_code, 1, some .boolean, { frames := 0, cells := 0, slots := 0, locals := 0 })
abbrev M_M_join : zM := (⟨"LinkDiagramModel", "join", "(II)V"⟩, prog_7_method_39_code, 3, none, { frames := 3, cells := 0, slots := 0, locals := 68 })
abbrev M_M_kink : zM := (⟨"LinkDiagramModel", "kink", "(IIII)V"⟩, prog_7_method_41_code, 6, none, { frames := 1, cells := 0, slots := 0, locals := 26 })
abbrev M_M_letter : zM := (⟨"LinkDiagramModel", "letter", "(I)Z"⟩, prog_7_method_18_code, 2, some .boolean, { frames := 0, cells := 0, slots := 0, locals := 0 })
abbrev M_M_level : zM := (⟨"LinkDiagramModel", "level", "(IZ)Z"⟩, prog_7_method_47_code, 5, some .boolean, { frames := 1, cells := 0, slots := 0, locals := 24 })
abbrev M_M_look : zM := (⟨"LinkDiagramModel", "look", "(Z)V"⟩, prog_7_method_6_code, 2, none, { frames := 0, cells := 0, slots := 0, locals := 0 })
abbrev M_M_merge : zM := (⟨"LinkDiagramModel", "merge", "(II)V"⟩, prog_7_method_29_code, 6, none, { frames := 0, cells := 0, slots := 0, locals := 0 })
abbrev M_M_number : zM := (⟨"LinkDiagramModel", "number", "()V"⟩, prog_7_method_31_code, 3, none, { frames := 1, cells := 0, slots := 0, locals := 25 })
abbrev M_M_occurs : zM := (⟨"LinkDiagramModel", "occurs", "(I)Z"⟩, prog_7_method_30_code, 3, some .boolean, { frames := 0, cells := 0, slots := 0, locals := 0 })
abbrev M_M_ones : zM := (⟨"LinkDiagramModel", "ones", "(I)I"⟩, prog_7_method_34_code, 3, some .int, { frames := 0, cells := 0, slots := 0, locals := 0 })
abbrev M_M_opposite : zM := (⟨"LinkDiagramModel", "opposite", "(I)I"⟩, prog_7_method_46_code, 1, some .int, { frames := 0, cells := 0, slots := 0, locals := 0 })
abbrev M_M_other : zM := (⟨"LinkDiagramModel", "other", "(I)I"⟩, prog_7_method_8_code, 5, some .int, { frames := 0, cells := 0, slots := 0, locals := 0 })
abbrev M_M_pieces : zM := (⟨"LinkDiagramModel", "pieces", "()I"⟩, prog_7_method_16_code, 3, some .int, { frames := 2, cells := 0, slots := 0, locals := 49 })
abbrev M_M_poke : zM := (⟨"LinkDiagramModel", "poke", "(IZIZ)Z"⟩, prog_7_method_45_code, 10, some .boolean, { frames := 3, cells := 0, slots := 0, locals := 69 })
abbrev M_M_pull : zM := (⟨"LinkDiagramModel", "pull", "(IIII)V"⟩, prog_7_method_50_code, 9, none, { frames := 4, cells := 0, slots := 0, locals := 90 })
abbrev M_M_put : zM := (⟨"LinkDiagramModel", "put", "(IIIIIZ)V"⟩, prog_7_method_4_code, 7, none, { frames := 0, cells := 0, slots := 0, locals := 0 })
abbrev M_M_rounds : zM := (⟨"LinkDiagramModel", "rounds", "(I)I"⟩, prog_7_method_21_code, 6, some .int, { frames := 1, cells := 0, slots := 0, locals := 24 })
abbrev M_M_second : zM := (⟨"LinkDiagramModel", "second", "(I)J"⟩, prog_7_method_35_code, 7, some .long, { frames := 2, cells := 0, slots := 0, locals := 47 })
abbrev M_M_size : zM := (⟨"LinkDiagramModel", "size", "(I)I"⟩, prog_7_method_19_code, 1, some .int, { frames := 0, cells := 0, slots := 0, locals := 0 })
abbrev M_M_slide : zM := (⟨"LinkDiagramModel", "slide", "(III)Z"⟩, prog_7_method_52_code, 9, some .boolean, { frames := 2, cells := 0, slots := 0, locals := 48 })
abbrev M_M_slideEdge : zM := (⟨"LinkDiagramModel", "slideEdge", "(I)V"⟩, prog_7_method_51_code, 5, none, { frames := 1, cells := 0, slots := 0, locals := 24 })
abbrev M_M_spread : zM := (⟨"LinkDiagramModel", "spread", "(I)V"⟩, prog_7_method_14_code, 6, none, { frames := 1, cells := 0, slots := 0, locals := 24 })
abbrev M_M_take : zM := (⟨"LinkDiagramModel", "take", "(I)I"⟩, prog_7_method_17_code, 5, some .int, { frames := 4, cells := 0, slots := 0, locals := 91 })
abbrev M_M_takeOut : zM := (⟨"LinkDiagramModel", "takeOut", "(I)V"⟩, prog_7_method_40_code, 3, none, { frames := 0, cells := 0, slots := 0, locals := 0 })
abbrev M_M_through : zM := (⟨"LinkDiagramModel", "through", "(II)I"⟩, prog_7_method_22_code, 4, some .int, { frames := 0, cells := 0, slots := 0, locals := 0 })
abbrev M_M_twist : zM := (⟨"LinkDiagramModel", "twist", "(II)Z"⟩, prog_7_method_42_code, 5, some .boolean, { frames := 3, cells := 0, slots := 0, locals := 68 })
abbrev M_M_unpoke : zM := (⟨"LinkDiagramModel", "unpoke", "(II)Z"⟩, prog_7_method_49_code, 6, some .boolean, { frames := 5, cells := 0, slots := 0, locals := 118 })
abbrev M_M_untwist : zM := (⟨"LinkDiagramModel", "untwist", "(I)Z"⟩, prog_7_method_44_code, 7, some .boolean, { frames := 4, cells := 0, slots := 0, locals := 90 })
abbrev M_M_writhe : zM := (⟨"LinkDiagramModel", "writhe", "()I"⟩, prog_7_method_23_code, 3, some .int, { frames := 0, cells := 0, slots := 0, locals := 0 })
abbrev M_R_addEntry : zM := (⟨"LinkDiagram$ArcMatrix", "addEntry", "(LLinkDiagram$Crossings;IIII)V"⟩, prog_2_method_6_code, 8, none, { frames := 1, cells := 0, slots := 0, locals := 21 })
abbrev M_R_addProduct : zM := (⟨"LinkDiagram$ArcMatrix", "addProduct", "(III)V"⟩, prog_2_method_8_code, 12, none, { frames := 1, cells := 0, slots := 0, locals := 20 })
abbrev M_R_coefficient : zM := (⟨"LinkDiagram$ArcMatrix", "coefficient", "(LLinkDiagram$Crossings;II)J"⟩, prog_2_method_2_code, 5, some .long, { frames := 3, cells := 0, slots := 0, locals := 75 })
abbrev M_R_expandMinors : zM := (⟨"LinkDiagram$ArcMatrix", "expandMinors", "(I)V"⟩, prog_2_method_7_code, 5, none, { frames := 2, cells := 0, slots := 0, locals := 51 })
abbrev M_R_fillMatrix : zM := (⟨"LinkDiagram$ArcMatrix", "fillMatrix", "(LLinkDiagram$Crossings;I)V"⟩, prog_2_method_5_code, 5, none, { frames := 2, cells := 0, slots := 0, locals := 48 })
abbrev M_R_init : zM := (⟨"LinkDiagram$ArcMatrix", "<init>", "()V"⟩, prog_2_method_1_code, 1, none, { frames := 1, cells := 5, slots := 2498, locals := 20 })
abbrev M_R_mergeArcs : zM := (⟨"LinkDiagram$ArcMatrix", "mergeArcs", "(II)V"⟩, prog_2_method_4_code, 5, none, { frames := 1, cells := 0, slots := 0, locals := 21 })
abbrev M_R_normalCoefficient : zM := (⟨"LinkDiagram$ArcMatrix", "normalCoefficient", "(II)J"⟩, prog_2_method_9_code, 7, some .long, { frames := 0, cells := 0, slots := 0, locals := 0 })
abbrev M_R_numberArcs : zM := (⟨"LinkDiagram$ArcMatrix", "numberArcs", "(LLinkDiagram$Crossings;)I"⟩, prog_2_method_3_code, 4, some .int, { frames := 2, cells := 0, slots := 0, locals := 45 })
abbrev M_S_faces : zM := (⟨"LinkDiagram$Shape", "faces", "(LLinkDiagram$Crossings;)I"⟩, prog_5_method_5_code, 4, some .int, { frames := 4, cells := 0, slots := 0, locals := 87 })
abbrev M_S_fits : zM := (⟨"LinkDiagram$Shape", "fits", "(LLinkDiagram$Crossings;)Z"⟩, prog_5_method_2_code, 3, some .boolean, { frames := 3, cells := 0, slots := 0, locals := 68 })
abbrev M_S_fitsAt : zM := (⟨"LinkDiagram$Shape", "fitsAt", "(LLinkDiagram$Crossings;I)Z"⟩, prog_5_method_3_code, 6, some .boolean, { frames := 2, cells := 0, slots := 0, locals := 43 })
abbrev M_S_init : zM := (⟨"LinkDiagram$Shape", "<init>", "()V"⟩, prog_5_method_1_code, 1, none, { frames := 1, cells := 2, slots := 40, locals := 20 })
abbrev M_S_isFlat : zM := (⟨"LinkDiagram$Shape", "isFlat", "(LLinkDiagram$Crossings;)Z"⟩, prog_5_method_4_code, 2, some .boolean, { frames := 5, cells := 0, slots := 0, locals := 110 })
abbrev M_S_markFace : zM := (⟨"LinkDiagram$Shape", "markFace", "(LLinkDiagram$Crossings;I)V"⟩, prog_5_method_6_code, 5, none, { frames := 3, cells := 0, slots := 0, locals := 63 })
abbrev M_S_markStrand : zM := (⟨"LinkDiagram$Shape", "markStrand", "(LLinkDiagram$Crossings;I)V"⟩, prog_5_method_11_code, 5, none, { frames := 2, cells := 0, slots := 0, locals := 42 })
abbrev M_S_mergePieces : zM := (⟨"LinkDiagram$Shape", "mergePieces", "(II)V"⟩, prog_5_method_9_code, 4, none, { frames := 0, cells := 0, slots := 0, locals := 0 })
abbrev M_S_pieces : zM := (⟨"LinkDiagram$Shape", "pieces", "(LLinkDiagram$Crossings;)I"⟩, prog_5_method_8_code, 6, some .int, { frames := 2, cells := 0, slots := 0, locals := 42 })
abbrev M_S_sameFace : zM := (⟨"LinkDiagram$Shape", "sameFace", "(LLinkDiagram$Crossings;II)Z"⟩, prog_5_method_7_code, 4, some .boolean, { frames := 4, cells := 0, slots := 0, locals := 87 })
abbrev M_S_strands : zM := (⟨"LinkDiagram$Shape", "strands", "(LLinkDiagram$Crossings;)I"⟩, prog_5_method_10_code, 4, some .int, { frames := 3, cells := 0, slots := 0, locals := 66 })
