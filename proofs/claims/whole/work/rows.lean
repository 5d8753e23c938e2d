section
-- ===== PART A: goes FIRST, ahead of the names: the tables' words, and 'selects' of the private methods out of them =====
/-- a private method of a class that the tables say can be made, by its rows of tables_1 -/
def lw_okq (q : MethodName × Nat) : Prop := (q.1.cls ≠ "java/lang/invoke/MethodHandle" ∧ q.1.cls ≠ "java/lang/invoke/VarHandle") ∧ Cond.instantiable q.1.cls q.2 ∈ tables_1 ∧ Cond.privateMethod q.1 ∈ tables_1 ∧ Cond.instanceMethod q.1 ∈ tables_1
theorem lw_p0 : lw_okq (⟨"LinkDiagram$Shape", "fitsAt", "(LLinkDiagram$Crossings;I)Z"⟩, 2) := ⟨⟨by decide +kernel, by decide +kernel⟩, List.mem_of_getElem? (i := 37) (by decide +kernel), List.mem_of_getElem? (i := 167) (by decide +kernel), List.mem_of_getElem? (i := 168) (by decide +kernel)⟩
theorem lw_p1 : lw_okq (⟨"LinkDiagram$Shape", "markFace", "(LLinkDiagram$Crossings;I)V"⟩, 2) := ⟨⟨by decide +kernel, by decide +kernel⟩, List.mem_of_getElem? (i := 37) (by decide +kernel), List.mem_of_getElem? (i := 200) (by decide +kernel), List.mem_of_getElem? (i := 201) (by decide +kernel)⟩
theorem lw_p2 : lw_okq (⟨"LinkDiagram$Shape", "mergePieces", "(II)V"⟩, 2) := ⟨⟨by decide +kernel, by decide +kernel⟩, List.mem_of_getElem? (i := 37) (by decide +kernel), List.mem_of_getElem? (i := 223) (by decide +kernel), List.mem_of_getElem? (i := 224) (by decide +kernel)⟩
theorem lw_p3 : lw_okq (⟨"LinkDiagram", "wordIsBelow", "(I)Z"⟩, 10) := ⟨⟨by decide +kernel, by decide +kernel⟩, List.mem_of_getElem? (i := 12) (by decide +kernel), List.mem_of_getElem? (i := 243) (by decide +kernel), List.mem_of_getElem? (i := 244) (by decide +kernel)⟩
theorem lw_p4 : lw_okq (⟨"LinkDiagram", "weave", "(II)V"⟩, 10) := ⟨⟨by decide +kernel, by decide +kernel⟩, List.mem_of_getElem? (i := 12) (by decide +kernel), List.mem_of_getElem? (i := 250) (by decide +kernel), List.mem_of_getElem? (i := 251) (by decide +kernel)⟩
theorem lw_p5 : lw_okq (⟨"LinkDiagram", "closePlace", "(I)V"⟩, 10) := ⟨⟨by decide +kernel, by decide +kernel⟩, List.mem_of_getElem? (i := 12) (by decide +kernel), List.mem_of_getElem? (i := 254) (by decide +kernel), List.mem_of_getElem? (i := 255) (by decide +kernel)⟩
theorem lw_p6 : lw_okq (⟨"LinkDiagram$Shape", "markStrand", "(LLinkDiagram$Crossings;I)V"⟩, 2) := ⟨⟨by decide +kernel, by decide +kernel⟩, List.mem_of_getElem? (i := 37) (by decide +kernel), List.mem_of_getElem? (i := 270) (by decide +kernel), List.mem_of_getElem? (i := 271) (by decide +kernel)⟩
theorem lw_p7 : lw_okq (⟨"LinkDiagram$Bracket", "tallyStates", "(LLinkDiagram$Crossings;I)V"⟩, 3) := ⟨⟨by decide +kernel, by decide +kernel⟩, List.mem_of_getElem? (i := 50) (by decide +kernel), List.mem_of_getElem? (i := 301) (by decide +kernel), List.mem_of_getElem? (i := 302) (by decide +kernel)⟩
theorem lw_p8 : lw_okq (⟨"LinkDiagram$Bracket", "curvesOf", "(II)I"⟩, 3) := ⟨⟨by decide +kernel, by decide +kernel⟩, List.mem_of_getElem? (i := 50) (by decide +kernel), List.mem_of_getElem? (i := 309) (by decide +kernel), List.mem_of_getElem? (i := 310) (by decide +kernel)⟩
theorem lw_p9 : lw_okq (⟨"LinkDiagram$Bracket", "seenWithCurve", "(III)I"⟩, 3) := ⟨⟨by decide +kernel, by decide +kernel⟩, List.mem_of_getElem? (i := 50) (by decide +kernel), List.mem_of_getElem? (i := 313) (by decide +kernel), List.mem_of_getElem? (i := 314) (by decide +kernel)⟩
theorem lw_p10 : lw_okq (⟨"LinkDiagram$Bracket", "multiplyByCurve", "()V"⟩, 3) := ⟨⟨by decide +kernel, by decide +kernel⟩, List.mem_of_getElem? (i := 50) (by decide +kernel), List.mem_of_getElem? (i := 327) (by decide +kernel), List.mem_of_getElem? (i := 328) (by decide +kernel)⟩
theorem lw_p11 : lw_okq (⟨"LinkDiagram$Bracket", "addStates", "(II)V"⟩, 3) := ⟨⟨by decide +kernel, by decide +kernel⟩, List.mem_of_getElem? (i := 50) (by decide +kernel), List.mem_of_getElem? (i := 331) (by decide +kernel), List.mem_of_getElem? (i := 332) (by decide +kernel)⟩
theorem lw_p12 : lw_okq (⟨"LinkDiagram$ArcMatrix", "numberArcs", "(LLinkDiagram$Crossings;)I"⟩, 5) := ⟨⟨by decide +kernel, by decide +kernel⟩, List.mem_of_getElem? (i := 67) (by decide +kernel), List.mem_of_getElem? (i := 344) (by decide +kernel), List.mem_of_getElem? (i := 345) (by decide +kernel)⟩
theorem lw_p13 : lw_okq (⟨"LinkDiagram$ArcMatrix", "mergeArcs", "(II)V"⟩, 5) := ⟨⟨by decide +kernel, by decide +kernel⟩, List.mem_of_getElem? (i := 67) (by decide +kernel), List.mem_of_getElem? (i := 350) (by decide +kernel), List.mem_of_getElem? (i := 351) (by decide +kernel)⟩
theorem lw_p14 : lw_okq (⟨"LinkDiagram$ArcMatrix", "fillMatrix", "(LLinkDiagram$Crossings;I)V"⟩, 5) := ⟨⟨by decide +kernel, by decide +kernel⟩, List.mem_of_getElem? (i := 67) (by decide +kernel), List.mem_of_getElem? (i := 361) (by decide +kernel), List.mem_of_getElem? (i := 362) (by decide +kernel)⟩
theorem lw_p15 : lw_okq (⟨"LinkDiagram$ArcMatrix", "addEntry", "(LLinkDiagram$Crossings;IIII)V"⟩, 5) := ⟨⟨by decide +kernel, by decide +kernel⟩, List.mem_of_getElem? (i := 67) (by decide +kernel), List.mem_of_getElem? (i := 367) (by decide +kernel), List.mem_of_getElem? (i := 368) (by decide +kernel)⟩
def lw_privs_1 : List (MethodName × Nat) := [(⟨"LinkDiagram$Shape", "fitsAt", "(LLinkDiagram$Crossings;I)Z"⟩, 2), (⟨"LinkDiagram$Shape", "markFace", "(LLinkDiagram$Crossings;I)V"⟩, 2), (⟨"LinkDiagram$Shape", "mergePieces", "(II)V"⟩, 2), (⟨"LinkDiagram", "wordIsBelow", "(I)Z"⟩, 10), (⟨"LinkDiagram", "weave", "(II)V"⟩, 10), (⟨"LinkDiagram", "closePlace", "(I)V"⟩, 10), (⟨"LinkDiagram$Shape", "markStrand", "(LLinkDiagram$Crossings;I)V"⟩, 2), (⟨"LinkDiagram$Bracket", "tallyStates", "(LLinkDiagram$Crossings;I)V"⟩, 3), (⟨"LinkDiagram$Bracket", "curvesOf", "(II)I"⟩, 3), (⟨"LinkDiagram$Bracket", "seenWithCurve", "(III)I"⟩, 3), (⟨"LinkDiagram$Bracket", "multiplyByCurve", "()V"⟩, 3), (⟨"LinkDiagram$Bracket", "addStates", "(II)V"⟩, 3), (⟨"LinkDiagram$ArcMatrix", "numberArcs", "(LLinkDiagram$Crossings;)I"⟩, 5), (⟨"LinkDiagram$ArcMatrix", "mergeArcs", "(II)V"⟩, 5), (⟨"LinkDiagram$ArcMatrix", "fillMatrix", "(LLinkDiagram$Crossings;I)V"⟩, 5), (⟨"LinkDiagram$ArcMatrix", "addEntry", "(LLinkDiagram$Crossings;IIII)V"⟩, 5)]
theorem lw_r1 : ∀ q ∈ lw_privs_1, lw_okq q := List.forall_mem_cons.mpr ⟨lw_p0, List.forall_mem_cons.mpr ⟨lw_p1, List.forall_mem_cons.mpr ⟨lw_p2, List.forall_mem_cons.mpr ⟨lw_p3, List.forall_mem_cons.mpr ⟨lw_p4, List.forall_mem_cons.mpr ⟨lw_p5, List.forall_mem_cons.mpr ⟨lw_p6, List.forall_mem_cons.mpr ⟨lw_p7, List.forall_mem_cons.mpr ⟨lw_p8, List.forall_mem_cons.mpr ⟨lw_p9, List.forall_mem_cons.mpr ⟨lw_p10, List.forall_mem_cons.mpr ⟨lw_p11, List.forall_mem_cons.mpr ⟨lw_p12, List.forall_mem_cons.mpr ⟨lw_p13, List.forall_mem_cons.mpr ⟨lw_p14, List.forall_mem_cons.mpr ⟨lw_p15, fun _ h => absurd h List.not_mem_nil⟩⟩⟩⟩⟩⟩⟩⟩⟩⟩⟩⟩⟩⟩⟩⟩
theorem lw_p16 : lw_okq (⟨"LinkDiagram$ArcMatrix", "expandMinors", "(I)V"⟩, 5) := ⟨⟨by decide +kernel, by decide +kernel⟩, List.mem_of_getElem? (i := 67) (by decide +kernel), List.mem_of_getElem? (i := 373) (by decide +kernel), List.mem_of_getElem? (i := 374) (by decide +kernel)⟩
theorem lw_p17 : lw_okq (⟨"LinkDiagram$ArcMatrix", "addProduct", "(III)V"⟩, 5) := ⟨⟨by decide +kernel, by decide +kernel⟩, List.mem_of_getElem? (i := 67) (by decide +kernel), List.mem_of_getElem? (i := 379) (by decide +kernel), List.mem_of_getElem? (i := 380) (by decide +kernel)⟩
theorem lw_p18 : lw_okq (⟨"LinkDiagram$ArcMatrix", "normalCoefficient", "(II)J"⟩, 5) := ⟨⟨by decide +kernel, by decide +kernel⟩, List.mem_of_getElem? (i := 67) (by decide +kernel), List.mem_of_getElem? (i := 383) (by decide +kernel), List.mem_of_getElem? (i := 384) (by decide +kernel)⟩
theorem lw_p19 : lw_okq (⟨"LinkDiagram", "freeEdge", "(I)I"⟩, 10) := ⟨⟨by decide +kernel, by decide +kernel⟩, List.mem_of_getElem? (i := 12) (by decide +kernel), List.mem_of_getElem? (i := 391) (by decide +kernel), List.mem_of_getElem? (i := 392) (by decide +kernel)⟩
theorem lw_p20 : lw_okq (⟨"LinkDiagram", "appendTwist", "(IIII)V"⟩, 10) := ⟨⟨by decide +kernel, by decide +kernel⟩, List.mem_of_getElem? (i := 12) (by decide +kernel), List.mem_of_getElem? (i := 396) (by decide +kernel), List.mem_of_getElem? (i := 397) (by decide +kernel)⟩
theorem lw_p21 : lw_okq (⟨"LinkDiagram", "loopEnd", "(I)I"⟩, 10) := ⟨⟨by decide +kernel, by decide +kernel⟩, List.mem_of_getElem? (i := 12) (by decide +kernel), List.mem_of_getElem? (i := 413) (by decide +kernel), List.mem_of_getElem? (i := 414) (by decide +kernel)⟩
theorem lw_p22 : lw_okq (⟨"LinkDiagram", "join", "(II)V"⟩, 10) := ⟨⟨by decide +kernel, by decide +kernel⟩, List.mem_of_getElem? (i := 12) (by decide +kernel), List.mem_of_getElem? (i := 419) (by decide +kernel), List.mem_of_getElem? (i := 420) (by decide +kernel)⟩
theorem lw_p23 : lw_okq (⟨"LinkDiagram", "isPokedFace", "(II)Z"⟩, 10) := ⟨⟨by decide +kernel, by decide +kernel⟩, List.mem_of_getElem? (i := 12) (by decide +kernel), List.mem_of_getElem? (i := 436) (by decide +kernel), List.mem_of_getElem? (i := 437) (by decide +kernel)⟩
theorem lw_p24 : lw_okq (⟨"LinkDiagram", "pullApart", "(II)V"⟩, 10) := ⟨⟨by decide +kernel, by decide +kernel⟩, List.mem_of_getElem? (i := 12) (by decide +kernel), List.mem_of_getElem? (i := 444) (by decide +kernel), List.mem_of_getElem? (i := 445) (by decide +kernel)⟩
theorem lw_p25 : lw_okq (⟨"LinkDiagram", "isSlidingFace", "(III)Z"⟩, 10) := ⟨⟨by decide +kernel, by decide +kernel⟩, List.mem_of_getElem? (i := 12) (by decide +kernel), List.mem_of_getElem? (i := 473) (by decide +kernel), List.mem_of_getElem? (i := 474) (by decide +kernel)⟩
theorem lw_p26 : lw_okq (⟨"LinkDiagram", "isUpperEdge", "(I)Z"⟩, 10) := ⟨⟨by decide +kernel, by decide +kernel⟩, List.mem_of_getElem? (i := 12) (by decide +kernel), List.mem_of_getElem? (i := 477) (by decide +kernel), List.mem_of_getElem? (i := 478) (by decide +kernel)⟩
theorem lw_p27 : lw_okq (⟨"LinkDiagram", "slideFace", "(I)V"⟩, 10) := ⟨⟨by decide +kernel, by decide +kernel⟩, List.mem_of_getElem? (i := 12) (by decide +kernel), List.mem_of_getElem? (i := 481) (by decide +kernel), List.mem_of_getElem? (i := 482) (by decide +kernel)⟩
theorem lw_p28 : lw_okq (⟨"LinkDiagram", "slideEdge", "(I)V"⟩, 10) := ⟨⟨by decide +kernel, by decide +kernel⟩, List.mem_of_getElem? (i := 12) (by decide +kernel), List.mem_of_getElem? (i := 485) (by decide +kernel), List.mem_of_getElem? (i := 486) (by decide +kernel)⟩
theorem lw_p29 : lw_okq (⟨"LinkDiagramModel", "put", "(IIIIIZ)V"⟩, 19) := ⟨⟨by decide +kernel, by decide +kernel⟩, List.mem_of_getElem? (i := 496) (by decide +kernel), List.mem_of_getElem? (i := 568) (by decide +kernel), List.mem_of_getElem? (i := 569) (by decide +kernel)⟩
theorem lw_p30 : lw_okq (⟨"LinkDiagramModel", "look", "(Z)V"⟩, 19) := ⟨⟨by decide +kernel, by decide +kernel⟩, List.mem_of_getElem? (i := 496) (by decide +kernel), List.mem_of_getElem? (i := 580) (by decide +kernel), List.mem_of_getElem? (i := 581) (by decide +kernel)⟩
theorem lw_p31 : lw_okq (⟨"LinkDiagramModel", "fit", "()Z"⟩, 19) := ⟨⟨by decide +kernel, by decide +kernel⟩, List.mem_of_getElem? (i := 496) (by decide +kernel), List.mem_of_getElem? (i := 584) (by decide +kernel), List.mem_of_getElem? (i := 585) (by decide +kernel)⟩
def lw_privs_2 : List (MethodName × Nat) := [(⟨"LinkDiagram$ArcMatrix", "expandMinors", "(I)V"⟩, 5), (⟨"LinkDiagram$ArcMatrix", "addProduct", "(III)V"⟩, 5), (⟨"LinkDiagram$ArcMatrix", "normalCoefficient", "(II)J"⟩, 5), (⟨"LinkDiagram", "freeEdge", "(I)I"⟩, 10), (⟨"LinkDiagram", "appendTwist", "(IIII)V"⟩, 10), (⟨"LinkDiagram", "loopEnd", "(I)I"⟩, 10), (⟨"LinkDiagram", "join", "(II)V"⟩, 10), (⟨"LinkDiagram", "isPokedFace", "(II)Z"⟩, 10), (⟨"LinkDiagram", "pullApart", "(II)V"⟩, 10), (⟨"LinkDiagram", "isSlidingFace", "(III)Z"⟩, 10), (⟨"LinkDiagram", "isUpperEdge", "(I)Z"⟩, 10), (⟨"LinkDiagram", "slideFace", "(I)V"⟩, 10), (⟨"LinkDiagram", "slideEdge", "(I)V"⟩, 10), (⟨"LinkDiagramModel", "put", "(IIIIIZ)V"⟩, 19), (⟨"LinkDiagramModel", "look", "(Z)V"⟩, 19), (⟨"LinkDiagramModel", "fit", "()Z"⟩, 19)]
theorem lw_r2 : ∀ q ∈ lw_privs_2, lw_okq q := List.forall_mem_cons.mpr ⟨lw_p16, List.forall_mem_cons.mpr ⟨lw_p17, List.forall_mem_cons.mpr ⟨lw_p18, List.forall_mem_cons.mpr ⟨lw_p19, List.forall_mem_cons.mpr ⟨lw_p20, List.forall_mem_cons.mpr ⟨lw_p21, List.forall_mem_cons.mpr ⟨lw_p22, List.forall_mem_cons.mpr ⟨lw_p23, List.forall_mem_cons.mpr ⟨lw_p24, List.forall_mem_cons.mpr ⟨lw_p25, List.forall_mem_cons.mpr ⟨lw_p26, List.forall_mem_cons.mpr ⟨lw_p27, List.forall_mem_cons.mpr ⟨lw_p28, List.forall_mem_cons.mpr ⟨lw_p29, List.forall_mem_cons.mpr ⟨lw_p30, List.forall_mem_cons.mpr ⟨lw_p31, fun _ h => absurd h List.not_mem_nil⟩⟩⟩⟩⟩⟩⟩⟩⟩⟩⟩⟩⟩⟩⟩⟩
theorem lw_p32 : lw_okq (⟨"LinkDiagramModel", "other", "(I)I"⟩, 19) := ⟨⟨by decide +kernel, by decide +kernel⟩, List.mem_of_getElem? (i := 496) (by decide +kernel), List.mem_of_getElem? (i := 588) (by decide +kernel), List.mem_of_getElem? (i := 589) (by decide +kernel)⟩
theorem lw_p33 : lw_okq (⟨"LinkDiagramModel", "in", "(I)Z"⟩, 19) := ⟨⟨by decide +kernel, by decide +kernel⟩, List.mem_of_getElem? (i := 496) (by decide +kernel), List.mem_of_getElem? (i := 592) (by decide +kernel), List.mem_of_getElem? (i := 593) (by decide +kernel)⟩
theorem lw_p34 : lw_okq (⟨"LinkDiagramModel", "faces", "()I"⟩, 19) := ⟨⟨by decide +kernel, by decide +kernel⟩, List.mem_of_getElem? (i := 496) (by decide +kernel), List.mem_of_getElem? (i := 596) (by decide +kernel), List.mem_of_getElem? (i := 597) (by decide +kernel)⟩
theorem lw_p35 : lw_okq (⟨"LinkDiagramModel", "face", "(I)I"⟩, 19) := ⟨⟨by decide +kernel, by decide +kernel⟩, List.mem_of_getElem? (i := 496) (by decide +kernel), List.mem_of_getElem? (i := 600) (by decide +kernel), List.mem_of_getElem? (i := 601) (by decide +kernel)⟩
theorem lw_p36 : lw_okq (⟨"LinkDiagramModel", "follow", "(I)I"⟩, 19) := ⟨⟨by decide +kernel, by decide +kernel⟩, List.mem_of_getElem? (i := 496) (by decide +kernel), List.mem_of_getElem? (i := 604) (by decide +kernel), List.mem_of_getElem? (i := 605) (by decide +kernel)⟩
theorem lw_p37 : lw_okq (⟨"LinkDiagramModel", "pieces", "()I"⟩, 19) := ⟨⟨by decide +kernel, by decide +kernel⟩, List.mem_of_getElem? (i := 496) (by decide +kernel), List.mem_of_getElem? (i := 608) (by decide +kernel), List.mem_of_getElem? (i := 609) (by decide +kernel)⟩
theorem lw_p38 : lw_okq (⟨"LinkDiagramModel", "clear", "()V"⟩, 19) := ⟨⟨by decide +kernel, by decide +kernel⟩, List.mem_of_getElem? (i := 496) (by decide +kernel), List.mem_of_getElem? (i := 612) (by decide +kernel), List.mem_of_getElem? (i := 613) (by decide +kernel)⟩
theorem lw_p39 : lw_okq (⟨"LinkDiagramModel", "spread", "(I)V"⟩, 19) := ⟨⟨by decide +kernel, by decide +kernel⟩, List.mem_of_getElem? (i := 496) (by decide +kernel), List.mem_of_getElem? (i := 616) (by decide +kernel), List.mem_of_getElem? (i := 617) (by decide +kernel)⟩
theorem lw_p40 : lw_okq (⟨"LinkDiagramModel", "rounds", "(I)I"⟩, 19) := ⟨⟨by decide +kernel, by decide +kernel⟩, List.mem_of_getElem? (i := 496) (by decide +kernel), List.mem_of_getElem? (i := 635) (by decide +kernel), List.mem_of_getElem? (i := 636) (by decide +kernel)⟩
theorem lw_p41 : lw_okq (⟨"LinkDiagramModel", "writhe", "()I"⟩, 19) := ⟨⟨by decide +kernel, by decide +kernel⟩, List.mem_of_getElem? (i := 496) (by decide +kernel), List.mem_of_getElem? (i := 642) (by decide +kernel), List.mem_of_getElem? (i := 643) (by decide +kernel)⟩
theorem lw_p42 : lw_okq (⟨"LinkDiagramModel", "addState", "(I)V"⟩, 19) := ⟨⟨by decide +kernel, by decide +kernel⟩, List.mem_of_getElem? (i := 496) (by decide +kernel), List.mem_of_getElem? (i := 654) (by decide +kernel), List.mem_of_getElem? (i := 655) (by decide +kernel)⟩
theorem lw_p43 : lw_okq (⟨"LinkDiagramModel", "doubleLoop", "()V"⟩, 19) := ⟨⟨by decide +kernel, by decide +kernel⟩, List.mem_of_getElem? (i := 496) (by decide +kernel), List.mem_of_getElem? (i := 658) (by decide +kernel), List.mem_of_getElem? (i := 659) (by decide +kernel)⟩
theorem lw_p44 : lw_okq (⟨"LinkDiagramModel", "number", "()V"⟩, 19) := ⟨⟨by decide +kernel, by decide +kernel⟩, List.mem_of_getElem? (i := 496) (by decide +kernel), List.mem_of_getElem? (i := 666) (by decide +kernel), List.mem_of_getElem? (i := 667) (by decide +kernel)⟩
theorem lw_p45 : lw_okq (⟨"LinkDiagramModel", "merge", "(II)V"⟩, 19) := ⟨⟨by decide +kernel, by decide +kernel⟩, List.mem_of_getElem? (i := 496) (by decide +kernel), List.mem_of_getElem? (i := 670) (by decide +kernel), List.mem_of_getElem? (i := 671) (by decide +kernel)⟩
theorem lw_p46 : lw_okq (⟨"LinkDiagramModel", "occurs", "(I)Z"⟩, 19) := ⟨⟨by decide +kernel, by decide +kernel⟩, List.mem_of_getElem? (i := 496) (by decide +kernel), List.mem_of_getElem? (i := 674) (by decide +kernel), List.mem_of_getElem? (i := 675) (by decide +kernel)⟩
theorem lw_p47 : lw_okq (⟨"LinkDiagramModel", "entries", "(I)V"⟩, 19) := ⟨⟨by decide +kernel, by decide +kernel⟩, List.mem_of_getElem? (i := 496) (by decide +kernel), List.mem_of_getElem? (i := 678) (by decide +kernel), List.mem_of_getElem? (i := 679) (by decide +kernel)⟩
def lw_privs_3 : List (MethodName × Nat) := [(⟨"LinkDiagramModel", "other", "(I)I"⟩, 19), (⟨"LinkDiagramModel", "in", "(I)Z"⟩, 19), (⟨"LinkDiagramModel", "faces", "()I"⟩, 19), (⟨"LinkDiagramModel", "face", "(I)I"⟩, 19), (⟨"LinkDiagramModel", "follow", "(I)I"⟩, 19), (⟨"LinkDiagramModel", "pieces", "()I"⟩, 19), (⟨"LinkDiagramModel", "clear", "()V"⟩, 19), (⟨"LinkDiagramModel", "spread", "(I)V"⟩, 19), (⟨"LinkDiagramModel", "rounds", "(I)I"⟩, 19), (⟨"LinkDiagramModel", "writhe", "()I"⟩, 19), (⟨"LinkDiagramModel", "addState", "(I)V"⟩, 19), (⟨"LinkDiagramModel", "doubleLoop", "()V"⟩, 19), (⟨"LinkDiagramModel", "number", "()V"⟩, 19), (⟨"LinkDiagramModel", "merge", "(II)V"⟩, 19), (⟨"LinkDiagramModel", "occurs", "(I)Z"⟩, 19), (⟨"LinkDiagramModel", "entries", "(I)V"⟩, 19)]
theorem lw_r3 : ∀ q ∈ lw_privs_3, lw_okq q := List.forall_mem_cons.mpr ⟨lw_p32, List.forall_mem_cons.mpr ⟨lw_p33, List.forall_mem_cons.mpr ⟨lw_p34, List.forall_mem_cons.mpr ⟨lw_p35, List.forall_mem_cons.mpr ⟨lw_p36, List.forall_mem_cons.mpr ⟨lw_p37, List.forall_mem_cons.mpr ⟨lw_p38, List.forall_mem_cons.mpr ⟨lw_p39, List.forall_mem_cons.mpr ⟨lw_p40, List.forall_mem_cons.mpr ⟨lw_p41, List.forall_mem_cons.mpr ⟨lw_p42, List.forall_mem_cons.mpr ⟨lw_p43, List.forall_mem_cons.mpr ⟨lw_p44, List.forall_mem_cons.mpr ⟨lw_p45, List.forall_mem_cons.mpr ⟨lw_p46, List.forall_mem_cons.mpr ⟨lw_p47, fun _ h => absurd h List.not_mem_nil⟩⟩⟩⟩⟩⟩⟩⟩⟩⟩⟩⟩⟩⟩⟩⟩
theorem lw_p48 : lw_okq (⟨"LinkDiagramModel", "expand", "(III)V"⟩, 19) := ⟨⟨by decide +kernel, by decide +kernel⟩, List.mem_of_getElem? (i := 496) (by decide +kernel), List.mem_of_getElem? (i := 685) (by decide +kernel), List.mem_of_getElem? (i := 686) (by decide +kernel)⟩
theorem lw_p49 : lw_okq (⟨"LinkDiagramModel", "free", "(I)I"⟩, 19) := ⟨⟨by decide +kernel, by decide +kernel⟩, List.mem_of_getElem? (i := 496) (by decide +kernel), List.mem_of_getElem? (i := 694) (by decide +kernel), List.mem_of_getElem? (i := 695) (by decide +kernel)⟩
theorem lw_p50 : lw_okq (⟨"LinkDiagramModel", "kink", "(IIII)V"⟩, 19) := ⟨⟨by decide +kernel, by decide +kernel⟩, List.mem_of_getElem? (i := 496) (by decide +kernel), List.mem_of_getElem? (i := 698) (by decide +kernel), List.mem_of_getElem? (i := 699) (by decide +kernel)⟩
theorem lw_p51 : lw_okq (⟨"LinkDiagramModel", "instead", "(II)V"⟩, 19) := ⟨⟨by decide +kernel, by decide +kernel⟩, List.mem_of_getElem? (i := 496) (by decide +kernel), List.mem_of_getElem? (i := 702) (by decide +kernel), List.mem_of_getElem? (i := 703) (by decide +kernel)⟩
theorem lw_p52 : lw_okq (⟨"LinkDiagramModel", "endOf", "(IZ)I"⟩, 19) := ⟨⟨by decide +kernel, by decide +kernel⟩, List.mem_of_getElem? (i := 496) (by decide +kernel), List.mem_of_getElem? (i := 706) (by decide +kernel), List.mem_of_getElem? (i := 707) (by decide +kernel)⟩
theorem lw_p53 : lw_okq (⟨"LinkDiagramModel", "isCrossing", "(I)Z"⟩, 19) := ⟨⟨by decide +kernel, by decide +kernel⟩, List.mem_of_getElem? (i := 496) (by decide +kernel), List.mem_of_getElem? (i := 714) (by decide +kernel), List.mem_of_getElem? (i := 715) (by decide +kernel)⟩
theorem lw_p54 : lw_okq (⟨"LinkDiagramModel", "takeOut", "(I)V"⟩, 19) := ⟨⟨by decide +kernel, by decide +kernel⟩, List.mem_of_getElem? (i := 496) (by decide +kernel), List.mem_of_getElem? (i := 718) (by decide +kernel), List.mem_of_getElem? (i := 719) (by decide +kernel)⟩
theorem lw_p55 : lw_okq (⟨"LinkDiagramModel", "join", "(II)V"⟩, 19) := ⟨⟨by decide +kernel, by decide +kernel⟩, List.mem_of_getElem? (i := 496) (by decide +kernel), List.mem_of_getElem? (i := 722) (by decide +kernel), List.mem_of_getElem? (i := 723) (by decide +kernel)⟩
theorem lw_p56 : lw_okq (⟨"LinkDiagramModel", "level", "(IZ)Z"⟩, 19) := ⟨⟨by decide +kernel, by decide +kernel⟩, List.mem_of_getElem? (i := 496) (by decide +kernel), List.mem_of_getElem? (i := 734) (by decide +kernel), List.mem_of_getElem? (i := 735) (by decide +kernel)⟩
theorem lw_p57 : lw_okq (⟨"LinkDiagramModel", "pull", "(IIII)V"⟩, 19) := ⟨⟨by decide +kernel, by decide +kernel⟩, List.mem_of_getElem? (i := 496) (by decide +kernel), List.mem_of_getElem? (i := 738) (by decide +kernel), List.mem_of_getElem? (i := 739) (by decide +kernel)⟩
theorem lw_p58 : lw_okq (⟨"LinkDiagramModel", "beyond", "(IZ)I"⟩, 19) := ⟨⟨by decide +kernel, by decide +kernel⟩, List.mem_of_getElem? (i := 496) (by decide +kernel), List.mem_of_getElem? (i := 742) (by decide +kernel), List.mem_of_getElem? (i := 743) (by decide +kernel)⟩
theorem lw_p59 : lw_okq (⟨"LinkDiagramModel", "slideEdge", "(I)V"⟩, 19) := ⟨⟨by decide +kernel, by decide +kernel⟩, List.mem_of_getElem? (i := 496) (by decide +kernel), List.mem_of_getElem? (i := 753) (by decide +kernel), List.mem_of_getElem? (i := 754) (by decide +kernel)⟩
def lw_privs_4 : List (MethodName × Nat) := [(⟨"LinkDiagramModel", "expand", "(III)V"⟩, 19), (⟨"LinkDiagramModel", "free", "(I)I"⟩, 19), (⟨"LinkDiagramModel", "kink", "(IIII)V"⟩, 19), (⟨"LinkDiagramModel", "instead", "(II)V"⟩, 19), (⟨"LinkDiagramModel", "endOf", "(IZ)I"⟩, 19), (⟨"LinkDiagramModel", "isCrossing", "(I)Z"⟩, 19), (⟨"LinkDiagramModel", "takeOut", "(I)V"⟩, 19), (⟨"LinkDiagramModel", "join", "(II)V"⟩, 19), (⟨"LinkDiagramModel", "level", "(IZ)Z"⟩, 19), (⟨"LinkDiagramModel", "pull", "(IIII)V"⟩, 19), (⟨"LinkDiagramModel", "beyond", "(IZ)I"⟩, 19), (⟨"LinkDiagramModel", "slideEdge", "(I)V"⟩, 19)]
theorem lw_r4 : ∀ q ∈ lw_privs_4, lw_okq q := List.forall_mem_cons.mpr ⟨lw_p48, List.forall_mem_cons.mpr ⟨lw_p49, List.forall_mem_cons.mpr ⟨lw_p50, List.forall_mem_cons.mpr ⟨lw_p51, List.forall_mem_cons.mpr ⟨lw_p52, List.forall_mem_cons.mpr ⟨lw_p53, List.forall_mem_cons.mpr ⟨lw_p54, List.forall_mem_cons.mpr ⟨lw_p55, List.forall_mem_cons.mpr ⟨lw_p56, List.forall_mem_cons.mpr ⟨lw_p57, List.forall_mem_cons.mpr ⟨lw_p58, List.forall_mem_cons.mpr ⟨lw_p59, fun _ h => absurd h List.not_mem_nil⟩⟩⟩⟩⟩⟩⟩⟩⟩⟩⟩⟩
def lw_privs : List (MethodName × Nat) := lw_privs_1 ++ (lw_privs_2 ++ (lw_privs_3 ++ (lw_privs_4)))
def lw_tbl : List Cond := k2_sels lw_privs ++ tables_1
theorem lw_privs_ok : ∀ q ∈ lw_privs, lw_okq q := by
  show ∀ q ∈ lw_privs_1 ++ (lw_privs_2 ++ (lw_privs_3 ++ (lw_privs_4))), lw_okq q
  exact List.forall_mem_append.mpr ⟨lw_r1, List.forall_mem_append.mpr ⟨lw_r2, List.forall_mem_append.mpr ⟨lw_r3, lw_r4⟩⟩⟩
end
section
abbrev zM : Type := MethodName × ByteArray × Nat × Option FieldType × Room
def T_R : u_T := fun k => match k with
  | 0 => ("LinkDiagram$ArcMatrix", "leastEdge", "[I", true)
  | 1 => ("LinkDiagram$ArcMatrix", "numberOf", "[I", true)
  | 2 => ("LinkDiagram$ArcMatrix", "constants", "[I", true)
  | 3 => ("LinkDiagram$ArcMatrix", "linears", "[I", true)
  | _ => ("LinkDiagram$ArcMatrix", "minors", "[J", true)
def t_R : Nat → FieldType := fun k => match k with
  | 0 => .array .int
  | 1 => .array .int
  | 2 => .array .int
  | 3 => .array .int
  | _ => .array .long
theorem nm_R : ∀ a, a < 5 → ∀ b, b < 5 → a ≠ b → (T_R a).2.1 ≠ (T_R b).2.1 := by decide +kernel
theorem ty_R : ∀ k, k < 5 → parseFieldDescriptor (T_R k).2.2.1 = some (t_R k) := by decide +kernel
def T_B : u_T := fun k => match k with
  | 0 => ("LinkDiagram$Bracket", "otherEnds", "[I", true)
  | 1 => ("LinkDiagram$Bracket", "states", "[I", true)
  | _ => ("LinkDiagram$Bracket", "sum", "[J", true)
def t_B : Nat → FieldType := fun k => match k with
  | 0 => .array .int
  | 1 => .array .int
  | _ => .array .long
theorem nm_B : ∀ a, a < 3 → ∀ b, b < 3 → a ≠ b → (T_B a).2.1 ≠ (T_B b).2.1 := by decide +kernel
theorem ty_B : ∀ k, k < 3 → parseFieldDescriptor (T_B k).2.2.1 = some (t_B k) := by decide +kernel
def T_C : u_T := fun k => match k with
  | 0 => ("LinkDiagram$Crossings", "edges", "[I", true)
  | 1 => ("LinkDiagram$Crossings", "signs", "[I", true)
  | _ => ("LinkDiagram$Crossings", "size", "I", false)
def t_C : Nat → FieldType := fun k => match k with
  | 0 => .array .int
  | 1 => .array .int
  | _ => .int
theorem nm_C : ∀ a, a < 3 → ∀ b, b < 3 → a ≠ b → (T_C a).2.1 ≠ (T_C b).2.1 := by decide +kernel
theorem ty_C : ∀ k, k < 3 → parseFieldDescriptor (T_C k).2.2.1 = some (t_C k) := by decide +kernel
def T_S : u_T := fun k => match k with
  | 0 => ("LinkDiagram$Shape", "seen", "[I", true)
  | _ => ("LinkDiagram$Shape", "pieceOf", "[I", true)
def t_S : Nat → FieldType := fun k => match k with
  | 0 => .array .int
  | _ => .array .int
theorem nm_S : ∀ a, a < 2 → ∀ b, b < 2 → a ≠ b → (T_S a).2.1 ≠ (T_S b).2.1 := by decide +kernel
theorem ty_S : ∀ k, k < 2 → parseFieldDescriptor (T_S k).2.2.1 = some (t_S k) := by decide +kernel
def T_A : u_T := fun k => match k with
  | 0 => ("LinkDiagram", "draft", "LLinkDiagram$Crossings;", true)
  | 1 => ("LinkDiagram", "diagram", "LLinkDiagram$Crossings;", true)
  | 2 => ("LinkDiagram", "former", "LLinkDiagram$Crossings;", true)
  | 3 => ("LinkDiagram", "shape", "LLinkDiagram$Shape;", true)
  | 4 => ("LinkDiagram", "bracket", "LLinkDiagram$Bracket;", true)
  | 5 => ("LinkDiagram", "arcMatrix", "LLinkDiagram$ArcMatrix;", true)
  | 6 => ("LinkDiagram", "word", "[I", true)
  | 7 => ("LinkDiagram", "places", "[I", true)
  | 8 => ("LinkDiagram", "letters", "I", false)
  | _ => ("LinkDiagram", "circles", "I", false)
def t_A : Nat → FieldType := fun k => match k with
  | 0 => .object "LinkDiagram$Crossings"
  | 1 => .object "LinkDiagram$Crossings"
  | 2 => .object "LinkDiagram$Crossings"
  | 3 => .object "LinkDiagram$Shape"
  | 4 => .object "LinkDiagram$Bracket"
  | 5 => .object "LinkDiagram$ArcMatrix"
  | 6 => .array .int
  | 7 => .array .int
  | 8 => .int
  | _ => .int
theorem nm_A : ∀ a, a < 10 → ∀ b, b < 10 → a ≠ b → (T_A a).2.1 ≠ (T_A b).2.1 := by decide +kernel
theorem ty_A : ∀ k, k < 10 → parseFieldDescriptor (T_A k).2.2.1 = some (t_A k) := by decide +kernel
def T_M : u_T := fun k => match k with
  | 0 => ("LinkDiagramModel", "edge", "[I", true)
  | 1 => ("LinkDiagramModel", "plus", "[Z", true)
  | 2 => ("LinkDiagramModel", "crossings", "I", false)
  | 3 => ("LinkDiagramModel", "drafted", "I", false)
  | 4 => ("LinkDiagramModel", "circles", "I", false)
  | 5 => ("LinkDiagramModel", "word", "[I", true)
  | 6 => ("LinkDiagramModel", "letters", "I", false)
  | 7 => ("LinkDiagramModel", "view", "I", false)
  | 8 => ("LinkDiagramModel", "many", "I", false)
  | 9 => ("LinkDiagramModel", "met", "[Z", true)
  | 10 => ("LinkDiagramModel", "sum", "[J", true)
  | 11 => ("LinkDiagramModel", "power", "[J", true)
  | 12 => ("LinkDiagramModel", "shifted", "[J", true)
  | 13 => ("LinkDiagramModel", "arc", "[I", true)
  | 14 => ("LinkDiagramModel", "arcs", "I", false)
  | 15 => ("LinkDiagramModel", "constant", "[I", true)
  | 16 => ("LinkDiagramModel", "linear", "[I", true)
  | 17 => ("LinkDiagramModel", "minor", "[J", true)
  | _ => ("LinkDiagramModel", "next", "[I", true)
def t_M : Nat → FieldType := fun k => match k with
  | 0 => .array .int
  | 1 => .array .boolean
  | 2 => .int
  | 3 => .int
  | 4 => .int
  | 5 => .array .int
  | 6 => .int
  | 7 => .int
  | 8 => .int
  | 9 => .array .boolean
  | 10 => .array .long
  | 11 => .array .long
  | 12 => .array .long
  | 13 => .array .int
  | 14 => .int
  | 15 => .array .int
  | 16 => .array .int
  | 17 => .array .long
  | _ => .array .int
theorem nm_M : ∀ a, a < 19 → ∀ b, b < 19 → a ≠ b → (T_M a).2.1 ≠ (T_M b).2.1 := by decide +kernel
theorem ty_M : ∀ k, k < 19 → parseFieldDescriptor (T_M k).2.2.1 = some (t_M k) := by decide +kernel
abbrev vwCl : List vw_C := [("LinkDiagram$ArcMatrix", T_R, 5), ("LinkDiagram$Bracket", T_B, 3), ("LinkDiagram$Crossings", T_C, 3), ("LinkDiagram$Shape", T_S, 2), ("LinkDiagram", T_A, 10), ("LinkDiagramModel", T_M, 19)]
def zNl : List (String × Nat × MethodName × String) := [("LinkDiagram", 9, ⟨"LinkDiagram$Crossings", "<init>", "()V"⟩, "LinkDiagram"), ("LinkDiagram", 24, ⟨"LinkDiagram$Shape", "<init>", "()V"⟩, "LinkDiagram"), ("LinkDiagram", 31, ⟨"LinkDiagram$Bracket", "<init>", "()V"⟩, "LinkDiagram"), ("LinkDiagram", 38, ⟨"LinkDiagram$ArcMatrix", "<init>", "()V"⟩, "LinkDiagram"), ("LinkDiagram$Crossings", 36, ⟨"LinkDiagram", "isUpper", "(I)Z"⟩, "LinkDiagram"), ("LinkDiagram$Crossings", 39, ⟨"LinkDiagram", "crossingOf", "(I)I"⟩, "LinkDiagram"), ("LinkDiagram$Crossings", 53, ⟨"LinkDiagram", "turned", "(II)I"⟩, "LinkDiagram"), ("LinkDiagram$Shape", 59, ⟨"LinkDiagram", "crossingOf", "(I)I"⟩, "LinkDiagram"), ("LinkDiagram$Shape", 72, ⟨"LinkDiagram", "opposite", "(I)I"⟩, "LinkDiagram"), ("LinkDiagram$Bracket", 72, ⟨"LinkDiagram", "crossingOf", "(I)I"⟩, "LinkDiagram"), ("LinkDiagram$ArcMatrix", 84, ⟨"LinkDiagram", "crossingOf", "(I)I"⟩, "LinkDiagram"), ("LinkDiagram$ArcMatrix", 81, ⟨"LinkDiagram", "opposite", "(I)I"⟩, "LinkDiagram"), ("LinkDiagram$Crossings", 63, ⟨"LinkDiagram", "opposite", "(I)I"⟩, "LinkDiagram")]
def zN : List Cond := zNl.map (fun q => Cond.methodLinkNest q.1 q.2.1 q.2.2.1 q.2.2.2)
theorem zN_on : ∀ u ∈ zN, u.onTables = true := by
  intro u hu
  obtain ⟨q, -, rfl⟩ := List.mem_map.mp hu
  rfl
theorem zN_warm {s U : State} (hW : s.WarmedH U.vm) : ∀ u ∈ zN, va_Nw u s → va_Nw u U := by
  intro u hu h
  obtain ⟨q, -, rfl⟩ := List.mem_map.mp hu
  exact va_Nw.warmM hW h

theorem zN_tbl0 : ∀ q ∈ zNl, Cond.methodLinkNest q.1 q.2.1 q.2.2.1 q.2.2.2 ∈ lw_tbl := List.forall_mem_cons.mpr ⟨(List.mem_append_right _ (List.mem_of_getElem? (i := 21) (by decide +kernel))), List.forall_mem_cons.mpr ⟨(List.mem_append_right _ (List.mem_of_getElem? (i := 38) (by decide +kernel))), List.forall_mem_cons.mpr ⟨(List.mem_append_right _ (List.mem_of_getElem? (i := 51) (by decide +kernel))), List.forall_mem_cons.mpr ⟨(List.mem_append_right _ (List.mem_of_getElem? (i := 68) (by decide +kernel))), List.forall_mem_cons.mpr ⟨(List.mem_append_right _ (List.mem_of_getElem? (i := 178) (by decide +kernel))), List.forall_mem_cons.mpr ⟨(List.mem_append_right _ (List.mem_of_getElem? (i := 181) (by decide +kernel))), List.forall_mem_cons.mpr ⟨(List.mem_append_right _ (List.mem_of_getElem? (i := 212) (by decide +kernel))), List.forall_mem_cons.mpr ⟨(List.mem_append_right _ (List.mem_of_getElem? (i := 220) (by decide +kernel))), List.forall_mem_cons.mpr ⟨(List.mem_append_right _ (List.mem_of_getElem? (i := 273) (by decide +kernel))), List.forall_mem_cons.mpr ⟨(List.mem_append_right _ (List.mem_of_getElem? (i := 316) (by decide +kernel))), List.forall_mem_cons.mpr ⟨(List.mem_append_right _ (List.mem_of_getElem? (i := 370) (by decide +kernel))), List.forall_mem_cons.mpr ⟨(List.mem_append_right _ (List.mem_of_getElem? (i := 371) (by decide +kernel))), List.forall_mem_cons.mpr ⟨(List.mem_append_right _ (List.mem_of_getElem? (i := 455) (by decide +kernel))), fun _ h => absurd h List.not_mem_nil⟩⟩⟩⟩⟩⟩⟩⟩⟩⟩⟩⟩⟩
theorem zN_tbl : ∀ u ∈ zN, u ∈ lw_tbl := by
  intro u hu
  obtain ⟨q, hq, rfl⟩ := List.mem_map.mp hu
  exact zN_tbl0 q hq
abbrev M_A_appendTwist : zM := (⟨"LinkDiagram", "appendTwist", "(IIII)V"⟩, prog_1_method_16_code, 5, none, { frames := 2, cells := 0, slots := 0, locals := 46 })
abbrev M_A_braid : zM := (⟨"LinkDiagram", "braid", "(I)Z"⟩, prog_1_method_7_code, 3, some .boolean, { frames := 3, cells := 0, slots := 0, locals := 72 })
abbrev M_A_closePlace : zM := (⟨"LinkDiagram", "closePlace", "(I)V"⟩, prog_1_method_10_code, 2, none, { frames := 2, cells := 0, slots := 0, locals := 43 })
abbrev M_A_count : zM := (⟨"LinkDiagram", "count", "(I)I"⟩, prog_1_method_11_code, 2, some .int, { frames := 5, cells := 0, slots := 0, locals := 110 })
abbrev M_A_cross : zM := (⟨"LinkDiagram", "cross", "(IIIIZ)Z"⟩, prog_1_method_2_code, 6, some .boolean, { frames := 2, cells := 0, slots := 0, locals := 46 })
abbrev M_A_crossingOf : zM := (⟨"LinkDiagram", "crossingOf", "(I)I"⟩, prog_1_method_30_code, 1, some .int, { frames := 0, cells := 0, slots := 0, locals := 0 })
abbrev M_A_drop : zM := (⟨"LinkDiagram", "drop", "()I"⟩, prog_1_method_3_code, 1, some .int, { frames := 2, cells := 0, slots := 0, locals := 52 })
abbrev M_A_end : zM := (⟨"LinkDiagram", "end", "(II)I"⟩, prog_1_method_12_code, 3, some .int, { frames := 1, cells := 0, slots := 0, locals := 21 })
abbrev M_A_first : zM := (⟨"LinkDiagram", "first", "(I)J"⟩, prog_1_method_13_code, 6, some .long, { frames := 5, cells := 0, slots := 0, locals := 122 })
abbrev M_A_freeEdge : zM := (⟨"LinkDiagram", "freeEdge", "(I)I"⟩, prog_1_method_29_code, 4, some .int, { frames := 2, cells := 0, slots := 0, locals := 42 })
abbrev M_A_init : zM := (⟨"LinkDiagram", "<init>", "()V"⟩, prog_1_method_1_code, 1, none, { frames := 2, cells := 24, slots := 3108, locals := 40 })
abbrev M_A_isEdge : zM := (⟨"LinkDiagram", "isEdge", "(I)Z"⟩, prog_1_method_5_code, 1, some .boolean, { frames := 0, cells := 0, slots := 0, locals := 0 })
abbrev M_A_isPokedFace : zM := (⟨"LinkDiagram", "isPokedFace", "(II)Z"⟩, prog_1_method_21_code, 4, some .boolean, { frames := 3, cells := 0, slots := 0, locals := 63 })
abbrev M_A_isSlidingFace : zM := (⟨"LinkDiagram", "isSlidingFace", "(III)Z"⟩, prog_1_method_24_code, 8, some .boolean, { frames := 3, cells := 0, slots := 0, locals := 63 })
abbrev M_A_isUpper : zM := (⟨"LinkDiagram", "isUpper", "(I)Z"⟩, prog_1_method_31_code, 1, some .boolean, { frames := 0, cells := 0, slots := 0, locals := 0 })
abbrev M_A_isUpperEdge : zM := (⟨"LinkDiagram", "isUpperEdge", "(I)Z"⟩, prog_1_method_25_code, 2, some .boolean, { frames := 2, cells := 0, slots := 0, locals := 42 })
abbrev M_A_join : zM := (⟨"LinkDiagram", "join", "(II)V"⟩, prog_1_method_28_code, 3, none, { frames := 4, cells := 0, slots := 0, locals := 89 })
abbrev M_A_letter : zM := (⟨"LinkDiagram", "letter", "(I)Z"⟩, prog_1_method_6_code, 3, some .boolean, { frames := 0, cells := 0, slots := 0, locals := 0 })
abbrev M_A_loopEnd : zM := (⟨"LinkDiagram", "loopEnd", "(I)I"⟩, prog_1_method_18_code, 3, some .int, { frames := 1, cells := 0, slots := 0, locals := 21 })
abbrev M_A_opposite : zM := (⟨"LinkDiagram", "opposite", "(I)I"⟩, prog_1_method_32_code, 1, some .int, { frames := 0, cells := 0, slots := 0, locals := 0 })
abbrev M_A_poke : zM := (⟨"LinkDiagram", "poke", "(IZIZ)Z"⟩, prog_1_method_19_code, 9, some .boolean, { frames := 5, cells := 0, slots := 0, locals := 110 })
abbrev M_A_pullApart : zM := (⟨"LinkDiagram", "pullApart", "(II)V"⟩, prog_1_method_22_code, 9, none, { frames := 5, cells := 0, slots := 0, locals := 111 })
abbrev M_A_second : zM := (⟨"LinkDiagram", "second", "(I)J"⟩, prog_1_method_14_code, 2, some .long, { frames := 4, cells := 0, slots := 0, locals := 99 })
abbrev M_A_slide : zM := (⟨"LinkDiagram", "slide", "(III)Z"⟩, prog_1_method_23_code, 5, some .boolean, { frames := 6, cells := 0, slots := 0, locals := 133 })
abbrev M_A_slideEdge : zM := (⟨"LinkDiagram", "slideEdge", "(I)V"⟩, prog_1_method_27_code, 7, none, { frames := 4, cells := 0, slots := 0, locals := 85 })
abbrev M_A_slideFace : zM := (⟨"LinkDiagram", "slideFace", "(I)V"⟩, prog_1_method_26_code, 3, none, { frames := 5, cells := 0, slots := 0, locals := 111 })
abbrev M_A_take : zM := (⟨"LinkDiagram", "take", "(I)I"⟩, prog_1_method_4_code, 2, some .int, { frames := 6, cells := 0, slots := 0, locals := 131 })
abbrev M_A_turned : zM := (⟨"LinkDiagram", "turned", "(II)I"⟩, prog_1_method_33_code, 2, some .int, { frames := 0, cells := 0, slots := 0, locals := 0 })
abbrev M_A_twist : zM := (⟨"LinkDiagram", "twist", "(II)Z"⟩, prog_1_method_15_code, 5, some .boolean, { frames := 4, cells := 0, slots := 0, locals := 89 })
abbrev M_A_unpoke : zM := (⟨"LinkDiagram", "unpoke", "(II)Z"⟩, prog_1_method_20_code, 4, some .boolean, { frames := 6, cells := 0, slots := 0, locals := 139 })
abbrev M_A_untwist : zM := (⟨"LinkDiagram", "untwist", "(I)Z"⟩, prog_1_method_17_code, 8, some .boolean, { frames := 5, cells := 0, slots := 0, locals := 111 })
abbrev M_A_weave : zM := (⟨"LinkDiagram", "weave", "(II)V"⟩, prog_1_method_9_code, 7, none, { frames := 2, cells := 0, slots := 0, locals := 46 })
abbrev M_A_wordIsBelow : zM := (⟨"LinkDiagram", "wordIsBelow", "(I)Z"⟩, prog_1_method_8_code, 3, some .boolean, { frames := 1, cells := 0, slots := 0, locals := 21 })
abbrev M_B_addStates : zM := (⟨"LinkDiagram$Bracket", "addStates", "(II)V"⟩, prog_3_method_7_code, 4, none, { frames := 0, cells := 0, slots := 0, locals := 0 })
abbrev M_B_coefficient : zM := (⟨"LinkDiagram$Bracket", "coefficient", "(LLinkDiagram$Crossings;IJ)J"⟩, prog_3_method_2_code, 6, some .long, { frames := 4, cells := 0, slots := 0, locals := 97 })
abbrev M_B_curvesOf : zM := (⟨"LinkDiagram$Bracket", "curvesOf", "(II)I"⟩, prog_3_method_4_code, 6, some .int, { frames := 2, cells := 0, slots := 0, locals := 48 })
abbrev M_B_init : zM := (⟨"LinkDiagram$Bracket", "<init>", "()V"⟩, prog_3_method_1_code, 1, none, { frames := 1, cells := 3, slots := 418, locals := 20 })
abbrev M_B_multiplyByCurve : zM := (⟨"LinkDiagram$Bracket", "multiplyByCurve", "()V"⟩, prog_3_method_6_code, 10, none, { frames := 0, cells := 0, slots := 0, locals := 0 })
abbrev M_B_seenWithCurve : zM := (⟨"LinkDiagram$Bracket", "seenWithCurve", "(III)I"⟩, prog_3_method_5_code, 9, some .int, { frames := 1, cells := 0, slots := 0, locals := 20 })
abbrev M_B_tallyStates : zM := (⟨"LinkDiagram$Bracket", "tallyStates", "(LLinkDiagram$Crossings;I)V"⟩, prog_3_method_3_code, 5, none, { frames := 3, cells := 0, slots := 0, locals := 73 })
abbrev M_C_append : zM := (⟨"LinkDiagram$Crossings", "append", "(IIIIZ)V"⟩, prog_4_method_9_code, 7, none, { frames := 1, cells := 0, slots := 0, locals := 20 })
abbrev M_C_bringIn : zM := (⟨"LinkDiagram$Crossings", "bringIn", "(II)V"⟩, prog_4_method_23_code, 4, none, { frames := 3, cells := 0, slots := 0, locals := 66 })
abbrev M_C_clear : zM := (⟨"LinkDiagram$Crossings", "clear", "()V"⟩, prog_4_method_11_code, 1, none, { frames := 0, cells := 0, slots := 0, locals := 0 })
abbrev M_C_comesIn : zM := (⟨"LinkDiagram$Crossings", "comesIn", "(I)Z"⟩, prog_4_method_14_code, 3, some .boolean, { frames := 1, cells := 0, slots := 0, locals := 21 })
abbrev M_C_copyFrom : zM := (⟨"LinkDiagram$Crossings", "copyFrom", "(LLinkDiagram$Crossings;)V"⟩, prog_4_method_12_code, 2, none, { frames := 1, cells := 0, slots := 0, locals := 30 })
abbrev M_C_edgeAt : zM := (⟨"LinkDiagram$Crossings", "edgeAt", "(I)I"⟩, prog_4_method_6_code, 2, some .int, { frames := 0, cells := 0, slots := 0, locals := 0 })
abbrev M_C_edgeBefore : zM := (⟨"LinkDiagram$Crossings", "edgeBefore", "(I)I"⟩, prog_4_method_20_code, 2, some .int, { frames := 3, cells := 0, slots := 0, locals := 64 })
abbrev M_C_edgeBehind : zM := (⟨"LinkDiagram$Crossings", "edgeBehind", "(I)I"⟩, prog_4_method_21_code, 2, some .int, { frames := 3, cells := 0, slots := 0, locals := 64 })
abbrev M_C_endOn : zM := (⟨"LinkDiagram$Crossings", "endOn", "(IZ)I"⟩, prog_4_method_22_code, 4, some .int, { frames := 2, cells := 0, slots := 0, locals := 43 })
abbrev M_C_ends : zM := (⟨"LinkDiagram$Crossings", "ends", "()I"⟩, prog_4_method_3_code, 1, some .int, { frames := 0, cells := 0, slots := 0, locals := 0 })
abbrev M_C_follow : zM := (⟨"LinkDiagram$Crossings", "follow", "(I)I"⟩, prog_4_method_17_code, 2, some .int, { frames := 2, cells := 0, slots := 0, locals := 42 })
abbrev M_C_has : zM := (⟨"LinkDiagram$Crossings", "has", "(I)Z"⟩, prog_4_method_5_code, 2, some .boolean, { frames := 0, cells := 0, slots := 0, locals := 0 })
abbrev M_C_incoming : zM := (⟨"LinkDiagram$Crossings", "incoming", "(I)I"⟩, prog_4_method_18_code, 2, some .int, { frames := 2, cells := 0, slots := 0, locals := 43 })
abbrev M_C_init : zM := (⟨"LinkDiagram$Crossings", "<init>", "()V"⟩, prog_4_method_1_code, 1, none, { frames := 1, cells := 2, slots := 40, locals := 20 })
abbrev M_C_isFull : zM := (⟨"LinkDiagram$Crossings", "isFull", "()Z"⟩, prog_4_method_4_code, 1, some .boolean, { frames := 0, cells := 0, slots := 0, locals := 0 })
abbrev M_C_isPositive : zM := (⟨"LinkDiagram$Crossings", "isPositive", "(I)Z"⟩, prog_4_method_8_code, 2, some .boolean, { frames := 0, cells := 0, slots := 0, locals := 0 })
abbrev M_C_occurs : zM := (⟨"LinkDiagram$Crossings", "occurs", "(I)Z"⟩, prog_4_method_15_code, 3, some .boolean, { frames := 1, cells := 0, slots := 0, locals := 20 })
abbrev M_C_otherEnd : zM := (⟨"LinkDiagram$Crossings", "otherEnd", "(I)I"⟩, prog_4_method_16_code, 3, some .int, { frames := 1, cells := 0, slots := 0, locals := 20 })
abbrev M_C_outgoing : zM := (⟨"LinkDiagram$Crossings", "outgoing", "(I)I"⟩, prog_4_method_19_code, 2, some .int, { frames := 2, cells := 0, slots := 0, locals := 43 })
abbrev M_C_remove : zM := (⟨"LinkDiagram$Crossings", "remove", "(I)V"⟩, prog_4_method_10_code, 3, none, { frames := 1, cells := 0, slots := 0, locals := 30 })
abbrev M_C_rename : zM := (⟨"LinkDiagram$Crossings", "rename", "(II)V"⟩, prog_4_method_24_code, 4, none, { frames := 1, cells := 0, slots := 0, locals := 20 })
abbrev M_C_setEdge : zM := (⟨"LinkDiagram$Crossings", "setEdge", "(II)V"⟩, prog_4_method_7_code, 3, none, { frames := 0, cells := 0, slots := 0, locals := 0 })
abbrev M_C_size : zM := (⟨"LinkDiagram$Crossings", "size", "()I"⟩, prog_4_method_2_code, 1, some .int, { frames := 0, cells := 0, slots := 0, locals := 0 })
abbrev M_C_writhe : zM := (⟨"LinkDiagram$Crossings", "writhe", "()I"⟩, prog_4_method_13_code, 3, some .int, { frames := 0, cells := 0, slots := 0, locals := 0 })
abbrev M_F_fillI : zM := (⟨"java/util/Arrays", "fill", "([II)V"⟩, prog_11_method_103_code, 4, none, { frames := 0, cells := 0, slots := 0, locals := 0 })
abbrev M_F_fillL : zM := (⟨"java/util/Arrays", "fill", "([JJ)V"⟩, prog_11_method_101_code, 5, none, { frames := 0, cells := 0, slots := 0, locals := 0 })
abbrev M_I_bitCount : zM := (⟨"java/lang/Integer", "bitCount", "(I)I"⟩, prog_8_method_49_code, 1, some .int, { frames := 0, cells := 0, slots := 0, locals := 0 })
abbrev M_L_law : zM := (⟨"LinkDiagramLaw", "law", "([I)Z"⟩, code, 4, some .boolean, room_1)
abbrev M_M_addState : zM := (⟨"LinkDiagramModel", "addState", "(I)V"⟩, prog_7_method_27_code, 5, none, { frames := 2, cells := 0, slots := 0, locals := 49 })
abbrev M_M_beyond : zM := (⟨"LinkDiagramModel", "beyond", "(IZ)I"⟩, prog_7_method_48_code, 5, some .int, { frames := 1, cells := 0, slots := 0, locals := 24 })
abbrev M_M_braid : zM := (⟨"LinkDiagramModel", "braid", "(I)Z"⟩, prog_7_method_20_code, 8, some .boolean, { frames := 1, cells := 0, slots := 0, locals := 26 })
abbrev M_M_clear : zM := (⟨"LinkDiagramModel", "clear", "()V"⟩, prog_7_method_15_code, 2, none, { frames := 0, cells := 0, slots := 0, locals := 0 })
abbrev M_M_count : zM := (⟨"LinkDiagramModel", "count", "(I)I"⟩, prog_7_method_24_code, 2, some .int, { frames := 4, cells := 0, slots := 0, locals := 91 })
abbrev M_M_cross : zM := (⟨"LinkDiagramModel", "cross", "(IIIIZ)Z"⟩, prog_7_method_3_code, 6, some .boolean, { frames := 1, cells := 0, slots := 0, locals := 26 })
abbrev M_M_doubleLoop : zM := (⟨"LinkDiagramModel", "doubleLoop", "()V"⟩, prog_7_method_26_code, 6, none, { frames := 0, cells := 0, slots := 0, locals := 0 })
abbrev M_M_drop : zM := (⟨"LinkDiagramModel", "drop", "()I"⟩, prog_7_method_5_code, 1, some .int, { frames := 0, cells := 0, slots := 0, locals := 0 })
abbrev M_M_end : zM := (⟨"LinkDiagramModel", "end", "(II)I"⟩, prog_7_method_25_code, 3, some .int, { frames := 0, cells := 0, slots := 0, locals := 0 })
abbrev M_M_endOf : zM := (⟨"LinkDiagramModel", "endOf", "(IZ)I"⟩, prog_7_method_37_code, 4, some .int, { frames := 1, cells := 0, slots := 0, locals := 22 })
abbrev M_M_entries : zM := (⟨"LinkDiagramModel", "entries", "(I)V"⟩, prog_7_method_32_code, 6, none, { frames := 0, cells := 0, slots := 0, locals := 0 })
abbrev M_M_expand : zM := (⟨"LinkDiagramModel", "expand", "(III)V"⟩, prog_7_method_33_code, 11, none, { frames := 0, cells := 0, slots := 0, locals := 0 })
abbrev M_M_face : zM := (⟨"LinkDiagramModel", "face", "(I)I"⟩, prog_7_method_11_code, 4, some .int, { frames := 2, cells := 0, slots := 0, locals := 46 })
abbrev M_M_faces : zM := (⟨"LinkDiagramModel", "faces", "()I"⟩, prog_7_method_13_code, 3, some .int, { frames := 3, cells := 0, slots := 0, locals := 69 })
abbrev M_M_first : zM := (⟨"LinkDiagramModel", "first", "(I)J"⟩, prog_7_method_28_code, 6, some .long, { frames := 3, cells := 0, slots := 0, locals := 73 })
abbrev M_M_fit : zM := (⟨"LinkDiagramModel", "fit", "()Z"⟩, prog_7_method_9_code, 3, some .boolean, { frames := 1, cells := 0, slots := 0, locals := 24 })
abbrev M_M_follow : zM := (⟨"LinkDiagramModel", "follow", "(I)I"⟩, prog_7_method_10_code, 3, some .int, { frames := 1, cells := 0, slots := 0, locals := 24 })
abbrev M_M_free : zM := (⟨"LinkDiagramModel", "free", "(I)I"⟩, prog_7_method_36_code, 5, some .int, { frames := 1, cells := 0, slots := 0, locals := 22 })
abbrev M_M_in : zM := (⟨"LinkDiagramModel", "in", "(I)Z"⟩, prog_7_method_7_code, 3, some .boolean, { frames := 0, cells := 0, slots := 0, locals := 0 })
abbrev M_M_init : zM := (⟨"LinkDiagramModel", "<init>", "()V"⟩, prog_7_method_1_code, 1, none, { frames := 1, cells := 12, slots := 3676, locals := 20 })
abbrev M_M_instead : zM := (⟨"LinkDiagramModel", "instead", "(II)V"⟩, prog_7_method_38_code, 4, none, { frames := 2, cells := 0, slots := 0, locals := 45 })
abbrev M_M_isCrossing : zM := (⟨"LinkDiagramModel", "isCrossing", "(I)Z"⟩, prog_7_method_43_code, 2, some .boolean, { frames := 0, cells := 0, slots := 0, locals := 0 })
abbrev M_M_isEdge : zM := (⟨"LinkDiagramModel", "isEdge", "(I)Z"⟩, prog_7_method_2_code, 1, some .boolean, { frames := 0, cells := 0, slots := 0, locals := 0 })
abbrev M_M_join : zM := (⟨"LinkDiagramModel", "join", "(II)V"⟩, prog_7_method_39_code, 3, none, { frames := 3, cells := 0, slots := 0, locals := 68 })
abbrev M_M_kink : zM := (⟨"LinkDiagramModel", "kink", "(IIII)V"⟩, prog_7_method_41_code, 6, none, { frames := 1, cells := 0, slots := 0, locals := 26 })
abbrev M_M_letter : zM := (⟨"LinkDiagramModel", "letter", "(I)Z"⟩, prog_7_method_18_code, 2, some .boolean, { frames := 0, cells := 0, slots := 0, locals := 0 })
abbrev M_M_level : zM := (⟨"LinkDiagramModel", "level", "(IZ)Z"⟩, prog_7_method_47_code, 5, some .boolean, { frames := 1, cells := 0, slots := 0, locals := 24 })
abbrev M_M_look : zM := (⟨"LinkDiagramModel", "look", "(Z)V"⟩, prog_7_method_6_code, 2, none, { frames := 0, cells := 0, slots := 0, locals := 0 })
abbrev M_M_merge : zM := (⟨"LinkDiagramModel", "merge", "(II)V"⟩, prog_7_method_29_code, 6, none, { frames := 0, cells := 0, slots := 0, locals := 0 })
abbrev M_M_number : zM := (⟨"LinkDiagramModel", "number", "()V"⟩, prog_7_method_31_code, 3, none, { frames := 1, cells := 0, slots := 0, locals := 25 })
abbrev M_M_occurs : zM := (⟨"LinkDiagramModel", "occurs", "(I)Z"⟩, prog_7_method_30_code, 3, some .boolean, { frames := 0, cells := 0, slots := 0, locals := 0 })
abbrev M_M_ones : zM := (⟨"LinkDiagramModel", "ones", "(I)I"⟩, prog_7_method_34_code, 3, some .int, { frames := 0, cells := 0, slots := 0, locals := 0 })
abbrev M_M_opposite : zM := (⟨"LinkDiagramModel", "opposite", "(I)I"⟩, prog_7_method_46_code, 1, some .int, { frames := 0, cells := 0, slots := 0, locals := 0 })
abbrev M_M_other : zM := (⟨"LinkDiagramModel", "other", "(I)I"⟩, prog_7_method_8_code, 5, some .int, { frames := 0, cells := 0, slots := 0, locals := 0 })
abbrev M_M_pieces : zM := (⟨"LinkDiagramModel", "pieces", "()I"⟩, prog_7_method_16_code, 3, some .int, { frames := 2, cells := 0, slots := 0, locals := 49 })
abbrev M_M_poke : zM := (⟨"LinkDiagramModel", "poke", "(IZIZ)Z"⟩, prog_7_method_45_code, 10, some .boolean, { frames := 3, cells := 0, slots := 0, locals := 69 })
abbrev M_M_pull : zM := (⟨"LinkDiagramModel", "pull", "(IIII)V"⟩, prog_7_method_50_code, 9, none, { frames := 4, cells := 0, slots := 0, locals := 90 })
abbrev M_M_put : zM := (⟨"LinkDiagramModel", "put", "(IIIIIZ)V"⟩, prog_7_method_4_code, 7, none, { frames := 0, cells := 0, slots := 0, locals := 0 })
abbrev M_M_rounds : zM := (⟨"LinkDiagramModel", "rounds", "(I)I"⟩, prog_7_method_21_code, 6, some .int, { frames := 1, cells := 0, slots := 0, locals := 24 })
abbrev M_M_second : zM := (⟨"LinkDiagramModel", "second", "(I)J"⟩, prog_7_method_35_code, 7, some .long, { frames := 2, cells := 0, slots := 0, locals := 47 })
abbrev M_M_size : zM := (⟨"LinkDiagramModel", "size", "(I)I"⟩, prog_7_method_19_code, 1, some .int, { frames := 0, cells := 0, slots := 0, locals := 0 })
abbrev M_M_slide : zM := (⟨"LinkDiagramModel", "slide", "(III)Z"⟩, prog_7_method_52_code, 9, some .boolean, { frames := 2, cells := 0, slots := 0, locals := 48 })
abbrev M_M_slideEdge : zM := (⟨"LinkDiagramModel", "slideEdge", "(I)V"⟩, prog_7_method_51_code, 5, none, { frames := 1, cells := 0, slots := 0, locals := 24 })
abbrev M_M_spread : zM := (⟨"LinkDiagramModel", "spread", "(I)V"⟩, prog_7_method_14_code, 6, none, { frames := 1, cells := 0, slots := 0, locals := 24 })
abbrev M_M_take : zM := (⟨"LinkDiagramModel", "take", "(I)I"⟩, prog_7_method_17_code, 5, some .int, { frames := 4, cells := 0, slots := 0, locals := 91 })
abbrev M_M_takeOut : zM := (⟨"LinkDiagramModel", "takeOut", "(I)V"⟩, prog_7_method_40_code, 3, none, { frames := 0, cells := 0, slots := 0, locals := 0 })
abbrev M_M_through : zM := (⟨"LinkDiagramModel", "through", "(II)I"⟩, prog_7_method_22_code, 4, some .int, { frames := 0, cells := 0, slots := 0, locals := 0 })
abbrev M_M_twist : zM := (⟨"LinkDiagramModel", "twist", "(II)Z"⟩, prog_7_method_42_code, 5, some .boolean, { frames := 3, cells := 0, slots := 0, locals := 68 })
abbrev M_M_unpoke : zM := (⟨"LinkDiagramModel", "unpoke", "(II)Z"⟩, prog_7_method_49_code, 6, some .boolean, { frames := 5, cells := 0, slots := 0, locals := 118 })
abbrev M_M_untwist : zM := (⟨"LinkDiagramModel", "untwist", "(I)Z"⟩, prog_7_method_44_code, 7, some .boolean, { frames := 4, cells := 0, slots := 0, locals := 90 })
abbrev M_M_writhe : zM := (⟨"LinkDiagramModel", "writhe", "()I"⟩, prog_7_method_23_code, 3, some .int, { frames := 0, cells := 0, slots := 0, locals := 0 })
abbrev M_R_addEntry : zM := (⟨"LinkDiagram$ArcMatrix", "addEntry", "(LLinkDiagram$Crossings;IIII)V"⟩, prog_2_method_6_code, 8, none, { frames := 1, cells := 0, slots := 0, locals := 21 })
abbrev M_R_addProduct : zM := (⟨"LinkDiagram$ArcMatrix", "addProduct", "(III)V"⟩, prog_2_method_8_code, 12, none, { frames := 1, cells := 0, slots := 0, locals := 20 })
abbrev M_R_coefficient : zM := (⟨"LinkDiagram$ArcMatrix", "coefficient", "(LLinkDiagram$Crossings;II)J"⟩, prog_2_method_2_code, 5, some .long, { frames := 3, cells := 0, slots := 0, locals := 75 })
abbrev M_R_expandMinors : zM := (⟨"LinkDiagram$ArcMatrix", "expandMinors", "(I)V"⟩, prog_2_method_7_code, 5, none, { frames := 2, cells := 0, slots := 0, locals := 51 })
abbrev M_R_fillMatrix : zM := (⟨"LinkDiagram$ArcMatrix", "fillMatrix", "(LLinkDiagram$Crossings;I)V"⟩, prog_2_method_5_code, 5, none, { frames := 2, cells := 0, slots := 0, locals := 48 })
abbrev M_R_init : zM := (⟨"LinkDiagram$ArcMatrix", "<init>", "()V"⟩, prog_2_method_1_code, 1, none, { frames := 1, cells := 5, slots := 2498, locals := 20 })
abbrev M_R_mergeArcs : zM := (⟨"LinkDiagram$ArcMatrix", "mergeArcs", "(II)V"⟩, prog_2_method_4_code, 5, none, { frames := 1, cells := 0, slots := 0, locals := 21 })
abbrev M_R_normalCoefficient : zM := (⟨"LinkDiagram$ArcMatrix", "normalCoefficient", "(II)J"⟩, prog_2_method_9_code, 7, some .long, { frames := 0, cells := 0, slots := 0, locals := 0 })
abbrev M_R_numberArcs : zM := (⟨"LinkDiagram$ArcMatrix", "numberArcs", "(LLinkDiagram$Crossings;)I"⟩, prog_2_method_3_code, 4, some .int, { frames := 2, cells := 0, slots := 0, locals := 45 })
abbrev M_S_faces : zM := (⟨"LinkDiagram$Shape", "faces", "(LLinkDiagram$Crossings;)I"⟩, prog_5_method_5_code, 4, some .int, { frames := 4, cells := 0, slots := 0, locals := 87 })
abbrev M_S_fits : zM := (⟨"LinkDiagram$Shape", "fits", "(LLinkDiagram$Crossings;)Z"⟩, prog_5_method_2_code, 3, some .boolean, { frames := 3, cells := 0, slots := 0, locals := 68 })
abbrev M_S_fitsAt : zM := (⟨"LinkDiagram$Shape", "fitsAt", "(LLinkDiagram$Crossings;I)Z"⟩, prog_5_method_3_code, 6, some .boolean, { frames := 2, cells := 0, slots := 0, locals := 43 })
abbrev M_S_init : zM := (⟨"LinkDiagram$Shape", "<init>", "()V"⟩, prog_5_method_1_code, 1, none, { frames := 1, cells := 2, slots := 40, locals := 20 })
abbrev M_S_isFlat : zM := (⟨"LinkDiagram$Shape", "isFlat", "(LLinkDiagram$Crossings;)Z"⟩, prog_5_method_4_code, 2, some .boolean, { frames := 5, cells := 0, slots := 0, locals := 110 })
abbrev M_S_markFace : zM := (⟨"LinkDiagram$Shape", "markFace", "(LLinkDiagram$Crossings;I)V"⟩, prog_5_method_6_code, 5, none, { frames := 3, cells := 0, slots := 0, locals := 63 })
abbrev M_S_markStrand : zM := (⟨"LinkDiagram$Shape", "markStrand", "(LLinkDiagram$Crossings;I)V"⟩, prog_5_method_11_code, 5, none, { frames := 2, cells := 0, slots := 0, locals := 42 })
abbrev M_S_mergePieces : zM := (⟨"LinkDiagram$Shape", "mergePieces", "(II)V"⟩, prog_5_method_9_code, 4, none, { frames := 0, cells := 0, slots := 0, locals := 0 })
abbrev M_S_pieces : zM := (⟨"LinkDiagram$Shape", "pieces", "(LLinkDiagram$Crossings;)I"⟩, prog_5_method_8_code, 6, some .int, { frames := 2, cells := 0, slots := 0, locals := 42 })
abbrev M_S_sameFace : zM := (⟨"LinkDiagram$Shape", "sameFace", "(LLinkDiagram$Crossings;II)Z"⟩, prog_5_method_7_code, 4, some .boolean, { frames := 4, cells := 0, slots := 0, locals := 87 })
abbrev M_S_strands : zM := (⟨"LinkDiagram$Shape", "strands", "(LLinkDiagram$Crossings;)I"⟩, prog_5_method_10_code, 4, some .int, { frames := 3, cells := 0, slots := 0, locals := 66 })
end
section
abbrev zE : Type := (FieldType × vp_A) ⊕ (Nat × List Value)
abbrev zW : Type := List zE
def z_v (b : Nat) (ad : List Nat) (v : Value) : Value := match v with
  | .ref j => .ref (ad.getD j b)
  | v => v
def z_c (b : Nat) (ad : List Nat) (dA : FieldType → ClassId) (c : zE) : va_E := match c with
  | .inl a => .inl (dA a.1, a.2)
  | .inr o => .inr (o.1, o.2.map (z_v b ad))
def z_w (b : Nat) (ad : List Nat) (dA : FieldType → ClassId) (w : zW) : va_W := List.zipWith (fun a c => (a, z_c b ad dA c)) ad w
def zG : List Cond := lw_tbl.filter goodWord
def z_ws (M : zM) : List Cond := Cond.code M.1 M.2.1 M.2.2.1 M.2.2.2.1 :: zG
theorem zG_mem {w : Cond} (h : w ∈ lw_tbl) (hg : goodWord w = true) : w ∈ zG := List.mem_filter.mpr ⟨h, hg⟩
theorem zG_good {w : Cond} (h : w ∈ zG) : (w.onTables && w.keeps) = true ∨ ∃ ty, w = .arrayClass ty := good_of_word (List.mem_filter.mp h).2
theorem z_goodIn {M : zM} (h : Cond.code M.1 M.2.1 M.2.2.1 M.2.2.2.1 ∈ zG) : GoodIn zG (z_ws M) := by
  intro w hw
  rcases List.mem_cons.mp hw with rfl | h1
  · exact ⟨h, zG_good h⟩
  · exact ⟨h1, zG_good h1⟩
theorem z_v_cat (b : Nat) (ad : List Nat) (v : Value) : (z_v b ad v).category = v.category := by cases v <;> rfl
theorem z_w_at {b : Nat} {ad : List Nat} {dA : FieldType → ClassId} {w : zW} {j : Nat} {c : zE} (hl : ad.length = w.length) (h : w[j]? = some c) : ad[j]? = some (ad.getD j b) ∧ (z_w b ad dA w)[j]? = some (ad.getD j b, z_c b ad dA c) := by
  have hj : j < w.length := (List.getElem?_eq_some_iff.mp h).1
  have h1 : ad[j]? = some (ad.getD j b) := by
    rw [List.getD_eq_getElem?_getD, List.getElem?_eq_getElem (show j < ad.length by omega)]; rfl
  refine ⟨h1, ?_⟩
  unfold z_w
  rw [List.getElem?_zipWith, h1, h]
theorem z_w_set {b : Nat} {ad : List Nat} {dA : FieldType → ClassId} {w : zW} {j : Nat} {c0 c : zE} (hl : ad.length = w.length) (h : w[j]? = some c0) : (z_w b ad dA w).set j (ad.getD j b, z_c b ad dA c) = z_w b ad dA (w.set j c) := by
  have hj : j < w.length := (List.getElem?_eq_some_iff.mp h).1
  have ha := (z_w_at (b := b) (dA := dA) hl h).1
  apply List.ext_getElem?
  intro k
  unfold z_w
  rw [List.getElem?_set, List.getElem?_zipWith, List.getElem?_zipWith, List.getElem?_set]
  by_cases hk : j = k
  · subst hk
    have h2 : j < (List.zipWith (fun a c => (a, z_c b ad dA c)) ad w).length := by rw [List.length_zipWith]; omega
    rw [if_pos rfl, if_pos h2, if_pos rfl, if_pos hj, ha]
  · rw [if_neg hk, if_neg hk]
/-- a value that keeps its meaning when the n-th place comes -/
def z_ok (n : Nat) (v : Value) : Bool := match v with
  | .ref j => Nat.blt j n || Nat.ble 1000000 j
  | _ => true
def z_nr (v : Value) : Bool := match v with
  | .ref _ => false
  | _ => true
def z_okc (n : Nat) (c : zE) : Bool := match c with
  | .inl _ => true
  | .inr o => o.2.all (z_ok n)
theorem z_far0 {b : Nat} {ad ad2 : List Nat} (hb : (ad ++ ad2).length < 1000000) (k : Nat) (h : k < ad.length ∨ 1000000 ≤ k) : (ad ++ ad2).getD k b = ad.getD k b := by
  rw [List.length_append] at hb
  rw [List.getD_eq_getElem?_getD, List.getD_eq_getElem?_getD]
  rcases h with h1 | h1
  · rw [List.getElem?_append_left h1]
  · rw [List.getElem?_eq_none (by rw [List.length_append]; omega), List.getElem?_eq_none (by omega)]
theorem z_ok_ref {n : Nat} {k : Nat} (h : z_ok n (.ref k) = true) : k < n ∨ 1000000 ≤ k := by
  unfold z_ok at h
  rw [Bool.or_eq_true] at h
  rcases h with h | h
  · exact Or.inl (Nat.le_of_ble_eq_true h)
  · exact Or.inr (Nat.le_of_ble_eq_true h)
theorem z_over {b : Nat} {ad ad2 : List Nat} (n : Nat) (hn : ad.length = n) (hb : (ad ++ ad2).length < 1000000) {v : Value} (h : z_ok n v = true) : z_v b (ad ++ ad2) v = z_v b ad v := by
  cases v with
  | ref j =>
    show Value.ref _ = Value.ref _
    congr 1
    exact z_far0 hb j (by rw [hn]; exact z_ok_ref h)
  | _ => rfl
theorem z_v_more {b : Nat} {ad : List Nat} {q : Nat} (hb : ad.length + 1 < 1000000) {v : Value} (h : z_ok ad.length v = true) : z_v b (ad ++ [q]) v = z_v b ad v := z_over _ rfl (by rw [List.length_append]; exact hb) h
theorem z_map_more {b : Nat} {ad : List Nat} {q : Nat} (hb : ad.length + 1 < 1000000) {st : List Value} (h : st.all (z_ok ad.length) = true) : st.map (z_v b (ad ++ [q])) = st.map (z_v b ad) := by
  apply List.map_congr_left
  intro v hv
  exact z_v_more hb (List.all_eq_true.mp h v hv)
theorem z_c_more {b : Nat} {ad : List Nat} {q : Nat} {dA : FieldType → ClassId} (hb : ad.length + 1 < 1000000) {c : zE} (h : z_okc ad.length c = true) : z_c b (ad ++ [q]) dA c = z_c b ad dA c := by
  cases c with
  | inl a => rfl
  | inr o =>
    show Sum.inr (o.1, o.2.map (z_v b (ad ++ [q]))) = Sum.inr (o.1, o.2.map (z_v b ad))
    rw [z_map_more hb h]
theorem z_w_push {b : Nat} {ad : List Nat} {q : Nat} {dA : FieldType → ClassId} {w : zW} {c : zE} (hl : ad.length = w.length) (hb : ad.length + 1 < 1000000) (h : w.all (z_okc w.length) = true) : z_w b (ad ++ [q]) dA (w ++ [c]) = z_w b ad dA w ++ [(q, z_c b (ad ++ [q]) dA c)] := by
  unfold z_w
  rw [List.zipWith_append hl]
  congr 1
  apply List.ext_getElem?
  intro k
  rw [List.getElem?_zipWith, List.getElem?_zipWith]
  cases hk : w[k]? with
  | none => cases ad[k]? <;> rfl
  | some c0 =>
    cases ad[k]? with
    | none => rfl
    | some a =>
      show some (a, z_c b (ad ++ [q]) dA c0) = some (a, z_c b ad dA c0)
      rw [z_c_more hb (by rw [hl]; exact List.all_eq_true.mp h c0 (List.mem_of_getElem? hk))]
/-- the tables, at a state -/
def z_K0 (D : va_G) (dA : FieldType → ClassId) (s : State) : Prop := va_K D vwCl [] s ∧ (∀ (ty : FieldType) (cA : ClassId), s.vm.findClass ("[" ++ ty.toString) = some cA → cA = dA ty) ∧ ∀ u ∈ zN, va_Nw u s
/-- the arrays of a world are of their classes -/
def z_K1 (dA : FieldType → ClassId) (w : zW) (s : State) : Prop := ∀ (j : Nat) (ty : FieldType) (a : vp_A), w[j]? = some (.inl (ty, a)) → ArrOfT s (dA ty) ty ∧ va_RA s (dA ty) ty
theorem z_K0.moved {D : va_G} {dA : FieldType → ClassId} {s U : State} (hW : s.WarmedH U.vm) (h : z_K0 D dA s) : z_K0 D dA U := by
  refine ⟨va_K.moved hW.alike h.1, fun ty cA hc => h.2.1 ty cA ?_, fun u hu => zN_warm hW u hu (h.2.2 u hu)⟩
  rw [hW.alike.findClass] at hc
  exact hc
theorem z_K0.same {D : va_G} {dA : FieldType → ClassId} {s U : State} (hv : s.vm = U.vm) (h : z_K0 D dA s) : z_K0 D dA U := by
  refine ⟨va_K.moved (by rw [hv]; exact Vm.Alike.refl _) h.1, fun ty cA hc => h.2.1 ty cA ?_, fun u hu => va_Nw.same (zN_on u hu) hv (h.2.2 u hu)⟩
  rw [hv]
  exact hc
theorem z_K1.moved {dA : FieldType → ClassId} {w : zW} {s U : State} (hvm : s.vm.Alike U.vm) (h : z_K1 dA w s) : z_K1 dA w U := fun j ty a hj => ⟨arrOfT_moved hvm (h j ty a hj).1, (h j ty a hj).2.moved hvm⟩
theorem z_K1.set {dA : FieldType → ClassId} {w : zW} {s : State} (h : z_K1 dA w s) {j : Nat} {c : zE} (hc : ∀ (ty : FieldType) (a : vp_A), c = .inl (ty, a) → ∃ (i : Nat) (a' : vp_A), w[i]? = some (.inl (ty, a'))) : z_K1 dA (w.set j c) s := by
  intro k ty a hk
  rw [List.getElem?_set] at hk
  by_cases hjk : j = k
  · rw [if_pos hjk] at hk
    split at hk
    · obtain ⟨i, a', hi⟩ := hc ty a (Option.some.inj hk)
      exact h i ty a' hi
    · cases hk
  · rw [if_neg hjk] at hk
    exact h k ty a hk
theorem z_K1.one {D : va_G} {dA : FieldType → ClassId} {w : zW} {s : State} (h0 : va_K D vwCl [] s) (h : z_K1 dA w s) {j : Nat} {ty : FieldType} {a : vp_A} (hj : w[j]? = some (.inl (ty, a))) : va_K D vwCl [(dA ty, ty)] s := by
  refine ⟨h0.1, fun k q hk => ?_⟩
  have hz : k < 1 := (List.getElem?_eq_some_iff.mp hk).1
  rw [show k = 0 by omega] at hk
  cases hk
  exact h j ty a hj
def zB (D : va_G) (dA : FieldType → ClassId) (b : Nat) (ad0 ad : List Nat) (w : zW) (s : State) (H : Heap) (locs : List Loc) (A : Nat → Prop) : Prop :=
  ad.length = w.length ∧ ad.length < 1000000 ∧ (∃ ad2, ad = ad0 ++ ad2) ∧ va_P D vwCl (z_w b ad dA w) H ∧ va_D A (z_w b ad dA w) ∧ z_K1 dA w s ∧ va_S A s.heap H locs
def zC (M : zM) (X : Option (Nat × (Nat → Int32))) (p : Program) (s : State) (m : MethodId) (args : Array Value) (meth : Method) (c : Code) (D : va_G) (dA : FieldType → ClassId) (b : Nat) (A : Nat → Prop) : Prop :=
  p.tables.exec = Jvm.exec ∧ c.code = M.2.1 ∧ c.maxLocals = M.2.2.1 ∧ (∀ w ∈ zG, w.before args s = true) ∧ s.vm.findClass M.1.cls = some m.cls ∧ meth.name = M.1.name ∧ (∀ q, s.heap.size ≤ q → A q) ∧ (∀ (L : Nat) (xs : Nat → Int32), X = some (L, xs) → va_X b L xs s s.heap ∧ b < s.heap.size ∧ ¬ A b) ∧ z_K0 D dA s
def zRet (M : zM) (pc : Nat) (r : Option Value) : Prop := match r with
  | none => decode M.2.1 pc = .ok (.return_, 1) ∧ M.2.2.2.1 = none
  | some (.int v) => decode M.2.1 pc = .ok (.ireturn, 1) ∧ ∃ ty, M.2.2.2.1 = some ty ∧ narrow ty (.int v) = .int v
  | some (.long _) => decode M.2.1 pc = .ok (.lreturn, 1) ∧ M.2.2.2.1 = some .long
  | _ => False
/-- the method M, at pc with these locals, stack and world, comes to its end with the answer r and the world wf -/
def Ev (M : zM) (X : Option (Nat × (Nat → Int32))) (r : Option Value) (wf : zW) (pc : Nat) (lv : List (Nat × Value)) (st : List Value) (w : zW) (nc ns : Nat) : Prop :=
  ∀ (p : Program) (l : Launch) (e : Env) (s : State) (m : MethodId) (args : Array Value) (below : List Frame) (meth : Method) (c : Code) (Q : State → Prop) (D : va_G) (dA : FieldType → ClassId) (b : Nat) (A : Nat → Prop) (ad0 : List Nat),
    zC M X p s m args meth c D dA b A →
    (∀ (pc' nc' ns' : Nat) (ls : Array Slot) (H : Heap) (locs : List Loc) (ad : List Nat), zRet M pc' r → nc' ≤ M.2.2.2.2.cells → ns' ≤ M.2.2.2.2.slots → zB D dA b ad0 ad wf s H locs A → W p l e M.2.2.2.2 s m args below meth c H locs nc' ns' Q (F0 m pc' ls ((r.map (z_v b ad)).toList))) →
    ∀ (H : Heap) (locs : List Loc) (ad : List Nat) (ls : Array Slot), zB D dA b ad0 ad w s H locs A → lv_has ls M.2.2.1 (lv.map (fun q => (q.1, z_v b ad q.2))) →
      W p l e M.2.2.2.2 s m args below meth c H locs nc ns Q (F0 m pc ls (st.map (z_v b ad)))
def z_Q (D : va_G) (dA : FieldType → ClassId) (b : Nat) (ad : List Nat) (w : zW) (sz : Nat) (r : Option Value) (w' : zW) : Array Value → State → Outcome → State → Prop := fun _ st oc t =>
  (∃ ad' : List Nat, (∃ ad2, ad' = ad ++ ad2) ∧ ad'.length = w'.length ∧ ad'.length < 1000000 ∧ oc = .returned (r.map (z_v b ad')) ∧ va_P D vwCl (z_w b ad' dA w') t.heap ∧ z_K1 dA w' t ∧ va_D (va_A (z_w b ad dA w) sz) (z_w b ad' dA w')) ∧ va_F (va_A (z_w b ad dA w) sz) st t
def z_P (D : va_G) (dA : FieldType → ClassId) (b : Nat) (ad : List Nat) (w : zW) (sz : Nat) : State → Prop := fun U => U.heap.size = sz ∧ va_P D vwCl (z_w b ad dA w) U.heap ∧ z_K0 D dA U ∧ z_K1 dA w U ∧ va_D (fun _ => True) (z_w b ad dA w)
/-- the method M, called with these arguments in the world w, answers r and leaves the world w' -/
def Sp (M : zM) (as : List Value) (w : zW) (r : Option Value) (w' : zW) : Prop :=
  ∀ (l : Launch) (D : va_G) (dA : FieldType → ClassId) (b : Nat) (ad : List Nat) (sz : Nat), ad.length = w.length → ad.length < 1000000 →
    Met l M.1 (z_ws M) M.2.2.2.2 (va_Pc (as.map (z_v b ad)) (z_P D dA b ad w sz)) (z_Q D dA b ad w sz r w') M.2.2.2.2.cells M.2.2.2.2.slots (va_A (z_w b ad dA w) sz)
theorem z_lv_args (b : Nat) (ad : List Nat) (as : List Value) : ∀ i : Nat, lv_args i (as.map (z_v b ad)) = (lv_args i as).map (fun q => (q.1, z_v b ad q.2)) := by
  induction as with
  | nil => intro i; rfl
  | cons v t ih =>
    intro i
    show (i, z_v b ad v) :: lv_args (if (z_v b ad v).category = 2 then i + 2 else i + 1) (t.map (z_v b ad)) = (i, z_v b ad v) :: (lv_args (if v.category = 2 then i + 2 else i + 1) t).map (fun q => (q.1, z_v b ad q.2))
    rw [z_v_cat, ih]
theorem z_lg_sl (b : Nat) (ad : List Nat) (as : List Value) : (lg_sl (as.map (z_v b ad))).length = (lg_sl as).length := by
  induction as with
  | nil => rfl
  | cons v t ih =>
    have h : ∀ (u : Value) (r : List Value), lg_sl (u :: r) = (if u.category = 2 then [Slot.val u, Slot.second] else [Slot.val u]) ++ lg_sl r := fun u r => by simp [lg_sl]
    rw [List.map_cons, h, h, List.length_append, List.length_append, ih, z_v_cat]
    split <;> rfl
theorem Sp.of {M : zM} {as : List Value} {w w' : zW} {r : Option Value} (hy : plainName M.1.cls = true) (hn : (lg_sl as).length ≤ M.2.2.1) (h : Ev M none r w' 0 (lv_args 0 as) [] w 0 0) : Sp M as w r w' := by
  intro l D dA b ad sz hl hb
  refine Met.ofW (cc := M.2.1) (maxL := M.2.2.1) (ret := M.2.2.2.1) hy rfl ?_
  intro p e s m args below meth c s₁ B hml hv
  obtain ⟨rfl, hsz, hP, hK0, hK1, hD0⟩ := hv
  subst hsz
  have hts := atoms_spec (ws := z_ws M) B.pre
  rw [lg_entry_eq]
  refine h p l e s m _ below meth c _ D dA b (va_A (z_w b ad dA w) s.heap.size) ad ⟨B.exec, B.bytes, hml, fun w hw => hts w (List.mem_cons_of_mem _ hw), findClass_of_methodNamed B.named, (name_of_methodNamed B.named B.method).1, fun q h => Or.inr h, fun _ _ h => (by cases h), hK0⟩ ?_ s.heap [] ad _ ⟨hl, hb, ⟨[], (List.append_nil _).symm⟩, hP, hD0.self, hK1, va_S.rf⟩ ?_
  · intro pc' nc' ns' ls H locs ad' hr hc hs hB
    obtain ⟨e1, e2, e3, e4, e5, e6, e7⟩ := hB
    refine W.widen hc hs ?_
    have hlocks := B.notSynchronized
    match r, hr with
    | none, hr => exact W.vret B.exec B.bytes (B.returns.trans hr.2) (fun t ht hW => ⟨⟨ad', e3, e1, e2, rfl, by rw [ht]; exact e4, z_K1.moved hW.alike e6, e5⟩, e7.F ht⟩) e7.2.2 hr.1
    | some (.int v), hr =>
      obtain ⟨hd, ty, h1, h2⟩ := hr
      exact W.zret (ty := ty) B.exec B.bytes (B.returns.trans h1) h2 (fun t ht hW => ⟨⟨ad', e3, e1, e2, rfl, by rw [ht]; exact e4, z_K1.moved hW.alike e6, e5⟩, e7.F ht⟩) e7.2.2 hd
    | some (.long v), hr => exact W.lret B.exec B.bytes (B.returns.trans hr.2) (fun t ht hW => ⟨⟨ad', e3, e1, e2, rfl, by rw [ht]; exact e4, z_K1.moved hW.alike e6, e5⟩, e7.F ht⟩) e7.2.2 hr.1
  · have h1 := lv_entry (as.map (z_v b ad)) (n := M.2.2.1) (by rw [z_lg_sl]; exact hn)
    rw [z_lv_args] at h1
    exact h1
section ZROWS
variable {M : zM} {X : Option (Nat × (Nat → Int32))} {r : Option Value} {wf : zW} {pc : Nat} {lv : List (Nat × Value)} {st : List Value} {w : zW} {nc ns : Nat}
theorem ev_iconst {n : Int} {v : Int32} (hd : decode M.2.1 pc = .ok (.iconst n, 1)) (hv : Int32.ofInt n = v) (k : Ev M X r wf (pc + 1) lv (.int v :: st) w nc ns) : Ev M X r wf pc lv (st) w nc ns := fun p l e s m args below meth c Q D dA b A ad0 C E H locs ad ls B hl => lv_iconst C.1 C.2.1 hd hv (k p l e s m args below meth c Q D dA b A ad0 C E H locs ad ls B hl)
theorem ev_bipush {n : Int} {v : Int32} (hd : decode M.2.1 pc = .ok (.bipush n, 2)) (hv : (Int8.ofInt n).toInt32 = v) (k : Ev M X r wf (pc + 2) lv (.int v :: st) w nc ns) : Ev M X r wf pc lv (st) w nc ns := fun p l e s m args below meth c Q D dA b A ad0 C E H locs ad ls B hl => lv_bipush C.1 C.2.1 hd hv (k p l e s m args below meth c Q D dA b A ad0 C E H locs ad ls B hl)
theorem ev_sipush {n : Int} {v : Int32} (hd : decode M.2.1 pc = .ok (.sipush n, 3)) (hv : (Int16.ofInt n).toInt32 = v) (k : Ev M X r wf (pc + 3) lv (.int v :: st) w nc ns) : Ev M X r wf pc lv (st) w nc ns := fun p l e s m args below meth c Q D dA b A ad0 C E H locs ad ls B hl => lv_sipush C.1 C.2.1 hd hv (k p l e s m args below meth c Q D dA b A ad0 C E H locs ad ls B hl)
theorem ev_lconst {n : Fin 2} {v : Int64} (hd : decode M.2.1 pc = .ok (.lconst n, 1)) (hv : Int64.ofNat (n : Nat) = v) (k : Ev M X r wf (pc + 1) lv (.long v :: st) w nc ns) : Ev M X r wf pc lv (st) w nc ns := fun p l e s m args below meth c Q D dA b A ad0 C E H locs ad ls B hl => lv_lconst C.1 C.2.1 hd hv (k p l e s m args below meth c Q D dA b A ad0 C E H locs ad ls B hl)
theorem ev_iadd {x y : Int32} (hd : decode M.2.1 pc = .ok (.iadd, 1)) (k : Ev M X r wf (pc + 1) lv (.int (x + y) :: st) w nc ns) : Ev M X r wf pc lv (.int y :: .int x :: st) w nc ns := fun p l e s m args below meth c Q D dA b A ad0 C E H locs ad ls B hl => lv_iadd C.1 C.2.1 hd (k p l e s m args below meth c Q D dA b A ad0 C E H locs ad ls B hl)
theorem ev_isub {x y : Int32} (hd : decode M.2.1 pc = .ok (.isub, 1)) (k : Ev M X r wf (pc + 1) lv (.int (x - y) :: st) w nc ns) : Ev M X r wf pc lv (.int y :: .int x :: st) w nc ns := fun p l e s m args below meth c Q D dA b A ad0 C E H locs ad ls B hl => lv_isub C.1 C.2.1 hd (k p l e s m args below meth c Q D dA b A ad0 C E H locs ad ls B hl)
theorem ev_imul {x y : Int32} (hd : decode M.2.1 pc = .ok (.imul, 1)) (k : Ev M X r wf (pc + 1) lv (.int (x * y) :: st) w nc ns) : Ev M X r wf pc lv (.int y :: .int x :: st) w nc ns := fun p l e s m args below meth c Q D dA b A ad0 C E H locs ad ls B hl => lv_imul C.1 C.2.1 hd (k p l e s m args below meth c Q D dA b A ad0 C E H locs ad ls B hl)
theorem ev_iand {x y : Int32} (hd : decode M.2.1 pc = .ok (.iand, 1)) (k : Ev M X r wf (pc + 1) lv (.int (x &&& y) :: st) w nc ns) : Ev M X r wf pc lv (.int y :: .int x :: st) w nc ns := fun p l e s m args below meth c Q D dA b A ad0 C E H locs ad ls B hl => lv_iand C.1 C.2.1 hd (k p l e s m args below meth c Q D dA b A ad0 C E H locs ad ls B hl)
theorem ev_ior {x y : Int32} (hd : decode M.2.1 pc = .ok (.ior, 1)) (k : Ev M X r wf (pc + 1) lv (.int (x ||| y) :: st) w nc ns) : Ev M X r wf pc lv (.int y :: .int x :: st) w nc ns := fun p l e s m args below meth c Q D dA b A ad0 C E H locs ad ls B hl => lv_ior C.1 C.2.1 hd (k p l e s m args below meth c Q D dA b A ad0 C E H locs ad ls B hl)
theorem ev_ixor {x y : Int32} (hd : decode M.2.1 pc = .ok (.ixor, 1)) (k : Ev M X r wf (pc + 1) lv (.int (x ^^^ y) :: st) w nc ns) : Ev M X r wf pc lv (.int y :: .int x :: st) w nc ns := fun p l e s m args below meth c Q D dA b A ad0 C E H locs ad ls B hl => lv_ixor C.1 C.2.1 hd (k p l e s m args below meth c Q D dA b A ad0 C E H locs ad ls B hl)
theorem ev_ishl {x y : Int32} (hd : decode M.2.1 pc = .ok (.ishl, 1)) (k : Ev M X r wf (pc + 1) lv (.int (x <<< (y &&& 31)) :: st) w nc ns) : Ev M X r wf pc lv (.int y :: .int x :: st) w nc ns := fun p l e s m args below meth c Q D dA b A ad0 C E H locs ad ls B hl => lv_ishl C.1 C.2.1 hd (k p l e s m args below meth c Q D dA b A ad0 C E H locs ad ls B hl)
theorem ev_ishr {x y : Int32} (hd : decode M.2.1 pc = .ok (.ishr, 1)) (k : Ev M X r wf (pc + 1) lv (.int (x >>> (y &&& 31)) :: st) w nc ns) : Ev M X r wf pc lv (.int y :: .int x :: st) w nc ns := fun p l e s m args below meth c Q D dA b A ad0 C E H locs ad ls B hl => lv_ishr C.1 C.2.1 hd (k p l e s m args below meth c Q D dA b A ad0 C E H locs ad ls B hl)
theorem ev_idiv {x y : Int32} (hd : decode M.2.1 pc = .ok (.idiv, 1)) (hne : ¬ y = 0) (k : Ev M X r wf (pc + 1) lv (.int (x / y) :: st) w nc ns) : Ev M X r wf pc lv (.int y :: .int x :: st) w nc ns := fun p l e s m args below meth c Q D dA b A ad0 C E H locs ad ls B hl => lv_idiv C.1 C.2.1 hd hne (k p l e s m args below meth c Q D dA b A ad0 C E H locs ad ls B hl)
theorem ev_irem {x y : Int32} (hd : decode M.2.1 pc = .ok (.irem, 1)) (hne : ¬ y = 0) (k : Ev M X r wf (pc + 1) lv (.int (x - x / y * y) :: st) w nc ns) : Ev M X r wf pc lv (.int y :: .int x :: st) w nc ns := fun p l e s m args below meth c Q D dA b A ad0 C E H locs ad ls B hl => lv_irem C.1 C.2.1 hd hne (k p l e s m args below meth c Q D dA b A ad0 C E H locs ad ls B hl)
theorem ev_iushr {x y v : Int32} (hd : decode M.2.1 pc = .ok (.iushr, 1)) (hv : (x.toUInt32 >>> (y.toUInt32 &&& Int32.toUInt32 31)).toInt32 = v) (k : Ev M X r wf (pc + 1) lv (.int v :: st) w nc ns) : Ev M X r wf pc lv (.int y :: .int x :: st) w nc ns := fun p l e s m args below meth c Q D dA b A ad0 C E H locs ad ls B hl => lv_iushr C.1 C.2.1 hd hv (k p l e s m args below meth c Q D dA b A ad0 C E H locs ad ls B hl)
theorem ev_ineg {x : Int32} (hd : decode M.2.1 pc = .ok (.ineg, 1)) (k : Ev M X r wf (pc + 1) lv (.int (-x) :: st) w nc ns) : Ev M X r wf pc lv (.int x :: st) w nc ns := fun p l e s m args below meth c Q D dA b A ad0 C E H locs ad ls B hl => lv_ineg C.1 C.2.1 hd (k p l e s m args below meth c Q D dA b A ad0 C E H locs ad ls B hl)
theorem ev_ladd {x y : Int64} (hd : decode M.2.1 pc = .ok (.ladd, 1)) (k : Ev M X r wf (pc + 1) lv (.long (x + y) :: st) w nc ns) : Ev M X r wf pc lv (.long y :: .long x :: st) w nc ns := fun p l e s m args below meth c Q D dA b A ad0 C E H locs ad ls B hl => lv_ladd C.1 C.2.1 hd (k p l e s m args below meth c Q D dA b A ad0 C E H locs ad ls B hl)
theorem ev_lsub {x y : Int64} (hd : decode M.2.1 pc = .ok (.lsub, 1)) (k : Ev M X r wf (pc + 1) lv (.long (x - y) :: st) w nc ns) : Ev M X r wf pc lv (.long y :: .long x :: st) w nc ns := fun p l e s m args below meth c Q D dA b A ad0 C E H locs ad ls B hl => lv_lsub C.1 C.2.1 hd (k p l e s m args below meth c Q D dA b A ad0 C E H locs ad ls B hl)
theorem ev_lmul {x y : Int64} (hd : decode M.2.1 pc = .ok (.lmul, 1)) (k : Ev M X r wf (pc + 1) lv (.long (x * y) :: st) w nc ns) : Ev M X r wf pc lv (.long y :: .long x :: st) w nc ns := fun p l e s m args below meth c Q D dA b A ad0 C E H locs ad ls B hl => lv_lmul C.1 C.2.1 hd (k p l e s m args below meth c Q D dA b A ad0 C E H locs ad ls B hl)
theorem ev_ldiv {x y : Int64} (hd : decode M.2.1 pc = .ok (.ldiv, 1)) (hne : ¬ y = 0) (k : Ev M X r wf (pc + 1) lv (.long (x / y) :: st) w nc ns) : Ev M X r wf pc lv (.long y :: .long x :: st) w nc ns := fun p l e s m args below meth c Q D dA b A ad0 C E H locs ad ls B hl => lv_ldiv C.1 C.2.1 hd hne (k p l e s m args below meth c Q D dA b A ad0 C E H locs ad ls B hl)
theorem ev_lrem {x y : Int64} (hd : decode M.2.1 pc = .ok (.lrem, 1)) (hne : ¬ y = 0) (k : Ev M X r wf (pc + 1) lv (.long (x - x / y * y) :: st) w nc ns) : Ev M X r wf pc lv (.long y :: .long x :: st) w nc ns := fun p l e s m args below meth c Q D dA b A ad0 C E H locs ad ls B hl => lv_lrem C.1 C.2.1 hd hne (k p l e s m args below meth c Q D dA b A ad0 C E H locs ad ls B hl)
theorem ev_lneg {x : Int64} (hd : decode M.2.1 pc = .ok (.lneg, 1)) (k : Ev M X r wf (pc + 1) lv (.long (-x) :: st) w nc ns) : Ev M X r wf pc lv (.long x :: st) w nc ns := fun p l e s m args below meth c Q D dA b A ad0 C E H locs ad ls B hl => lv_lneg C.1 C.2.1 hd (k p l e s m args below meth c Q D dA b A ad0 C E H locs ad ls B hl)
theorem ev_i2l {x : Int32} {v : Int64} (hd : decode M.2.1 pc = .ok (.i2l, 1)) (hv : x.toInt64 = v) (k : Ev M X r wf (pc + 1) lv (.long v :: st) w nc ns) : Ev M X r wf pc lv (.int x :: st) w nc ns := fun p l e s m args below meth c Q D dA b A ad0 C E H locs ad ls B hl => lv_i2l C.1 C.2.1 hd hv (k p l e s m args below meth c Q D dA b A ad0 C E H locs ad ls B hl)
theorem ev_l2i {x : Int64} {v : Int32} (hd : decode M.2.1 pc = .ok (.l2i, 1)) (hv : x.toInt32 = v) (k : Ev M X r wf (pc + 1) lv (.int v :: st) w nc ns) : Ev M X r wf pc lv (.long x :: st) w nc ns := fun p l e s m args below meth c Q D dA b A ad0 C E H locs ad ls B hl => lv_l2i C.1 C.2.1 hd hv (k p l e s m args below meth c Q D dA b A ad0 C E H locs ad ls B hl)
theorem ev_lcmp {x y : Int64} (hd : decode M.2.1 pc = .ok (.lcmp, 1)) (k : Ev M X r wf (pc + 1) lv (.int (lg_cmp x y) :: st) w nc ns) : Ev M X r wf pc lv (.long y :: .long x :: st) w nc ns := fun p l e s m args below meth c Q D dA b A ad0 C E H locs ad ls B hl => W.lcmp C.1 C.2.1 hd (k p l e s m args below meth c Q D dA b A ad0 C E H locs ad ls B hl)
theorem ev_dup {v : Value} (hd : decode M.2.1 pc = .ok (.dup, 1)) (hc : v.category = 1) (k : Ev M X r wf (pc + 1) lv (v :: v :: st) w nc ns) : Ev M X r wf pc lv (v :: st) w nc ns := fun p l e s m args below meth c Q D dA b A ad0 C E H locs ad ls B hl => lv_dup C.1 C.2.1 hd ((z_v_cat b ad v).trans hc) (k p l e s m args below meth c Q D dA b A ad0 C E H locs ad ls B hl)
theorem ev_pop {v : Value} (hd : decode M.2.1 pc = .ok (.pop, 1)) (hc : v.category = 1) (k : Ev M X r wf (pc + 1) lv (st) w nc ns) : Ev M X r wf pc lv (v :: st) w nc ns := fun p l e s m args below meth c Q D dA b A ad0 C E H locs ad ls B hl => lv_pop C.1 C.2.1 hd ((z_v_cat b ad v).trans hc) (k p l e s m args below meth c Q D dA b A ad0 C E H locs ad ls B hl)
theorem ev_dup2 {v u : Value} (hd : decode M.2.1 pc = .ok (.dup2, 1)) (hc : v.category = 1) (hc2 : u.category = 1) (k : Ev M X r wf (pc + 1) lv (v :: u :: v :: u :: st) w nc ns) : Ev M X r wf pc lv (v :: u :: st) w nc ns := fun p l e s m args below meth c Q D dA b A ad0 C E H locs ad ls B hl => lv_dup2_11 C.1 C.2.1 hd ((z_v_cat b ad v).trans hc) ((z_v_cat b ad u).trans hc2) (k p l e s m args below meth c Q D dA b A ad0 C E H locs ad ls B hl)
def z_get (lv : List (Nat × Value)) (i : Nat) : Option Value := match lv with
  | [] => none
  | q :: t => if q.1 = i then some q.2 else z_get t i
theorem z_get_mem {i : Nat} {v : Value} : ∀ {lv : List (Nat × Value)}, z_get lv i = some v → (i, v) ∈ lv := by
  intro lv
  induction lv with
  | nil => intro h; cases h
  | cons q t ih =>
    intro h
    unfold z_get at h
    split at h
    · next hq =>
      obtain ⟨a, u⟩ := q
      cases h
      cases hq
      exact List.mem_cons_self
    · exact List.mem_cons_of_mem _ (ih h)
theorem z_lv {b : Nat} {ad : List Nat} {ls : Array Slot} {n i : Nat} {v : Value} (hl : lv_has ls n (lv.map (fun q => (q.1, z_v b ad q.2)))) (h : z_get lv i = some v) : ls[i]? = some (.val (z_v b ad v)) :=
  hl.2.2 (i, z_v b ad v) (List.mem_map.mpr ⟨(i, v), z_get_mem h, rfl⟩)
/-- in its place, or at the end -/
def z_put (i : Nat) (v : Value) (lv : List (Nat × Value)) : List (Nat × Value) := match lv with
  | [] => [(i, v)]
  | q :: t => if q.1 = i then (i, v) :: t else q :: z_put i v t
/-- each place once; no long that ends at i -/
def z_fit1 (i : Nat) (lv : List (Nat × Value)) : Bool := match lv with
  | [] => true
  | q :: t => if q.1 = i then t.all (fun x => !(x.1 == i) && !(x.1 + 1 == i && x.2.category == 2)) else !(q.1 + 1 == i && q.2.category == 2) && z_fit1 i t
def z_fit2 (i : Nat) (lv : List (Nat × Value)) : Bool := z_fit1 i lv && lv.all (fun x => !(x.1 == i + 1))
theorem z_put_sub {i : Nat} {v : Value} : ∀ {lv : List (Nat × Value)}, z_fit1 i lv = true → ∀ q ∈ z_put i v lv, q = (i, v) ∨ (q ∈ lv ∧ (!(q.1 == i) && !(q.1 + 1 == i && q.2.category == 2)) = true) := by
  intro lv
  induction lv with
  | nil =>
    intro _ q hq
    exact Or.inl (List.mem_singleton.mp hq)
  | cons a t ih =>
    intro h q hq
    unfold z_fit1 at h
    unfold z_put at hq
    by_cases ha : a.1 = i
    · rw [if_pos ha] at h hq
      rcases List.mem_cons.mp hq with h1 | h1
      · exact Or.inl h1
      · exact Or.inr ⟨List.mem_cons_of_mem _ h1, List.all_eq_true.mp h q h1⟩
    · rw [if_neg ha] at h hq
      rw [Bool.and_eq_true] at h
      rcases List.mem_cons.mp hq with h1 | h1
      · subst h1
        refine Or.inr ⟨List.mem_cons_self, ?_⟩
        rw [h.1, Bool.and_true]
        simp [ha]
      · rcases ih h.2 q h1 with h2 | ⟨h2, h3⟩
        · exact Or.inl h2
        · exact Or.inr ⟨List.mem_cons_of_mem _ h2, h3⟩
theorem lv_has.less {ls : Array Slot} {n : Nat} {l l' : List (Nat × Value)} (h : lv_has ls n l) (hs : ∀ q ∈ l', q ∈ l) : lv_has ls n l' := ⟨h.1, h.2.1, fun q hq => h.2.2 q (hs q hq)⟩
theorem z_stored1 {b : Nat} {ad : List Nat} {ls : Array Slot} {n i : Nat} {v : Value} (hf : z_fit1 i lv = true) (h : lv_has ls n ((i, z_v b ad v) :: (lv.map (fun q => (q.1, z_v b ad q.2))).filter (fun q => !(q.1 == i) && !(q.1 + 1 == i && q.2.category == 2)))) : lv_has ls n ((z_put i v lv).map (fun q => (q.1, z_v b ad q.2))) := by
  refine h.less fun q hq => ?_
  obtain ⟨q0, h0, rfl⟩ := List.mem_map.mp hq
  rcases z_put_sub hf q0 h0 with rfl | ⟨h1, h2⟩
  · exact List.mem_cons_self
  · refine List.mem_cons_of_mem _ (List.mem_filter.mpr ⟨List.mem_map.mpr ⟨q0, h1, rfl⟩, ?_⟩)
    show (!(q0.1 == i) && !(q0.1 + 1 == i && (z_v b ad q0.2).category == 2)) = true
    rw [z_v_cat]
    exact h2
theorem z_stored2 {b : Nat} {ad : List Nat} {ls : Array Slot} {n i : Nat} {v : Value} (hf : z_fit2 i lv = true) (h : lv_has ls n ((i, z_v b ad v) :: (lv.map (fun q => (q.1, z_v b ad q.2))).filter (fun q => !(q.1 == i) && (!(q.1 == i + 1) && !(q.1 + 1 == i && q.2.category == 2))))) : lv_has ls n ((z_put i v lv).map (fun q => (q.1, z_v b ad q.2))) := by
  unfold z_fit2 at hf
  rw [Bool.and_eq_true] at hf
  refine h.less fun q hq => ?_
  obtain ⟨q0, h0, rfl⟩ := List.mem_map.mp hq
  rcases z_put_sub hf.1 q0 h0 with rfl | ⟨h1, h2⟩
  · exact List.mem_cons_self
  · refine List.mem_cons_of_mem _ (List.mem_filter.mpr ⟨List.mem_map.mpr ⟨q0, h1, rfl⟩, ?_⟩)
    show (!(q0.1 == i) && (!(q0.1 == i + 1) && !(q0.1 + 1 == i && (z_v b ad q0.2).category == 2))) = true
    rw [z_v_cat]
    rw [Bool.and_eq_true] at h2
    rw [h2.1, h2.2, List.all_eq_true.mp hf.2 q0 h1]
    rfl
/-- fewer locals -/
theorem ev_sub {lv' : List (Nat × Value)} (h : ∀ q ∈ lv', q ∈ lv) (k : Ev M X r wf pc lv' st w nc ns) : Ev M X r wf pc lv st w nc ns := fun p l e s m args below meth c Q D dA b A ad0 C E H locs ad ls B hl => k p l e s m args below meth c Q D dA b A ad0 C E H locs ad ls B (hl.less fun q hq => by
  obtain ⟨q0, h0, rfl⟩ := List.mem_map.mp hq
  exact List.mem_map.mpr ⟨q0, h q0 h0, rfl⟩)
theorem ev_iload_n (i : Nat) {x : Int32} {k : Fin 4} (hd : decode M.2.1 pc = .ok (.iload_n k, 1)) (hi : (k : Nat) = i) (h : z_get lv i = some (.int x)) (kk : Ev M X r wf (pc + 1) lv (.int x :: st) w nc ns) : Ev M X r wf pc lv st w nc ns := fun p l e s m args below meth c Q D dA b A ad0 C E H locs ad ls B hl => lv_iload_n C.1 C.2.1 hd hi (z_lv hl h) (kk p l e s m args below meth c Q D dA b A ad0 C E H locs ad ls B hl)
theorem ev_iload {i : Nat} {x : Int32} (hd : decode M.2.1 pc = .ok (.iload i, 2)) (h : z_get lv i = some (.int x)) (kk : Ev M X r wf (pc + 2) lv (.int x :: st) w nc ns) : Ev M X r wf pc lv st w nc ns := fun p l e s m args below meth c Q D dA b A ad0 C E H locs ad ls B hl => lv_iload C.1 C.2.1 hd (z_lv hl h) (kk p l e s m args below meth c Q D dA b A ad0 C E H locs ad ls B hl)
theorem ev_istore_n (i : Nat) {x : Int32} {k : Fin 4} (hd : decode M.2.1 pc = .ok (.istore_n k, 1)) (hi : (k : Nat) = i) (hn : i < M.2.2.1) (hf : z_fit1 i lv = true) (kk : Ev M X r wf (pc + 1) (z_put i (.int x) lv) st w nc ns) : Ev M X r wf pc lv (.int x :: st) w nc ns := fun p l e s m args below meth c Q D dA b A ad0 C E H locs ad ls B hl => lv_istore_n C.1 C.2.1 hd hi hl hn rfl (fun ls' hl' => kk p l e s m args below meth c Q D dA b A ad0 C E H locs ad ls' B (z_stored1 hf hl'))
theorem ev_istore {i : Nat} {x : Int32} (hd : decode M.2.1 pc = .ok (.istore i, 2)) (hn : i < M.2.2.1) (hf : z_fit1 i lv = true) (kk : Ev M X r wf (pc + 2) (z_put i (.int x) lv) st w nc ns) : Ev M X r wf pc lv (.int x :: st) w nc ns := fun p l e s m args below meth c Q D dA b A ad0 C E H locs ad ls B hl => lv_istore C.1 C.2.1 hd hl hn rfl (fun ls' hl' => kk p l e s m args below meth c Q D dA b A ad0 C E H locs ad ls' B (z_stored1 hf hl'))
theorem ev_lload_n (i : Nat) {x : Int64} {k : Fin 4} (hd : decode M.2.1 pc = .ok (.lload_n k, 1)) (hi : (k : Nat) = i) (h : z_get lv i = some (.long x)) (kk : Ev M X r wf (pc + 1) lv (.long x :: st) w nc ns) : Ev M X r wf pc lv st w nc ns := fun p l e s m args below meth c Q D dA b A ad0 C E H locs ad ls B hl => lv_lload_n C.1 C.2.1 hd hi (z_lv hl h) (kk p l e s m args below meth c Q D dA b A ad0 C E H locs ad ls B hl)
theorem ev_lload {i : Nat} {x : Int64} (hd : decode M.2.1 pc = .ok (.lload i, 2)) (h : z_get lv i = some (.long x)) (kk : Ev M X r wf (pc + 2) lv (.long x :: st) w nc ns) : Ev M X r wf pc lv st w nc ns := fun p l e s m args below meth c Q D dA b A ad0 C E H locs ad ls B hl => lv_lload C.1 C.2.1 hd (z_lv hl h) (kk p l e s m args below meth c Q D dA b A ad0 C E H locs ad ls B hl)
theorem ev_lstore_n (i : Nat) {x : Int64} {k : Fin 4} (hd : decode M.2.1 pc = .ok (.lstore_n k, 1)) (hi : (k : Nat) = i) (hn : i + 1 < M.2.2.1) (hf : z_fit2 i lv = true) (kk : Ev M X r wf (pc + 1) (z_put i (.long x) lv) st w nc ns) : Ev M X r wf pc lv (.long x :: st) w nc ns := fun p l e s m args below meth c Q D dA b A ad0 C E H locs ad ls B hl => lv_lstore_n C.1 C.2.1 hd hi hl hn rfl (fun ls' hl' => kk p l e s m args below meth c Q D dA b A ad0 C E H locs ad ls' B (z_stored2 hf hl'))
theorem ev_lstore {i : Nat} {x : Int64} (hd : decode M.2.1 pc = .ok (.lstore i, 2)) (hn : i + 1 < M.2.2.1) (hf : z_fit2 i lv = true) (kk : Ev M X r wf (pc + 2) (z_put i (.long x) lv) st w nc ns) : Ev M X r wf pc lv (.long x :: st) w nc ns := fun p l e s m args below meth c Q D dA b A ad0 C E H locs ad ls B hl => lv_lstore C.1 C.2.1 hd hl hn rfl (fun ls' hl' => kk p l e s m args below meth c Q D dA b A ad0 C E H locs ad ls' B (z_stored2 hf hl'))
theorem ev_aload_n (i : Nat) {x : Nat} {k : Fin 4} (hd : decode M.2.1 pc = .ok (.aload_n k, 1)) (hi : (k : Nat) = i) (h : z_get lv i = some (.ref x)) (kk : Ev M X r wf (pc + 1) lv (.ref x :: st) w nc ns) : Ev M X r wf pc lv st w nc ns := fun p l e s m args below meth c Q D dA b A ad0 C E H locs ad ls B hl => lv_aload_n C.1 C.2.1 hd hi (z_lv hl h) (kk p l e s m args below meth c Q D dA b A ad0 C E H locs ad ls B hl)
theorem ev_aload {i : Nat} {x : Nat} (hd : decode M.2.1 pc = .ok (.aload i, 2)) (h : z_get lv i = some (.ref x)) (kk : Ev M X r wf (pc + 2) lv (.ref x :: st) w nc ns) : Ev M X r wf pc lv st w nc ns := fun p l e s m args below meth c Q D dA b A ad0 C E H locs ad ls B hl => lv_aload C.1 C.2.1 hd (z_lv hl h) (kk p l e s m args below meth c Q D dA b A ad0 C E H locs ad ls B hl)
theorem ev_astore_n (i : Nat) {x : Nat} {k : Fin 4} (hd : decode M.2.1 pc = .ok (.astore_n k, 1)) (hi : (k : Nat) = i) (hn : i < M.2.2.1) (hf : z_fit1 i lv = true) (kk : Ev M X r wf (pc + 1) (z_put i (.ref x) lv) st w nc ns) : Ev M X r wf pc lv (.ref x :: st) w nc ns := fun p l e s m args below meth c Q D dA b A ad0 C E H locs ad ls B hl => lv_astore_n C.1 C.2.1 hd hi hl hn rfl (fun ls' hl' => kk p l e s m args below meth c Q D dA b A ad0 C E H locs ad ls' B (z_stored1 hf hl'))
theorem ev_astore {i : Nat} {x : Nat} (hd : decode M.2.1 pc = .ok (.astore i, 2)) (hn : i < M.2.2.1) (hf : z_fit1 i lv = true) (kk : Ev M X r wf (pc + 2) (z_put i (.ref x) lv) st w nc ns) : Ev M X r wf pc lv (.ref x :: st) w nc ns := fun p l e s m args below meth c Q D dA b A ad0 C E H locs ad ls B hl => lv_astore C.1 C.2.1 hd hl hn rfl (fun ls' hl' => kk p l e s m args below meth c Q D dA b A ad0 C E H locs ad ls' B (z_stored1 hf hl'))
theorem ev_iinc {i : Nat} {n : Int} {x v : Int32} (hd : decode M.2.1 pc = .ok (.iinc i n, 3)) (h : z_get lv i = some (.int x)) (hv : x + Int32.ofInt n = v) (hn : i < M.2.2.1) (hf : z_fit1 i lv = true) (kk : Ev M X r wf (pc + 3) (z_put i (.int v) lv) st w nc ns) : Ev M X r wf pc lv st w nc ns := fun p l e s m args below meth c Q D dA b A ad0 C E H locs ad ls B hl => by
  obtain ⟨k, hk⟩ := List.getElem?_of_mem (List.mem_map.mpr ⟨(i, Value.int x), z_get_mem h, rfl⟩ : (i, z_v b ad (.int x)) ∈ lv.map (fun q => (q.1, z_v b ad q.2)))
  exact lv_iinc C.1 C.2.1 hd hl (k := k) (x := x) hk hv hn rfl (fun ls' hl' => kk p l e s m args below meth c Q D dA b A ad0 C E H locs ad ls' B (z_stored1 hf hl'))
theorem ev_if_eq (tgt : Nat) {x : Int32} {off : Int} (hd : decode M.2.1 pc = .ok (.ifCond .eq off, 3)) (ht : (pc : Int) + off = (tgt : Int)) (kt : x = 0 → Ev M X r wf tgt lv st w nc ns) (kf : ¬ x = 0 → Ev M X r wf (pc + 3) lv st w nc ns) : Ev M X r wf pc lv (.int x :: st) w nc ns := fun p l e s m args below meth c Q D dA b A ad0 C E H locs ad ls B hl => lv_if_eq C.1 C.2.1 hd ht (fun h => kt h p l e s m args below meth c Q D dA b A ad0 C E H locs ad ls B hl) (fun h => kf h p l e s m args below meth c Q D dA b A ad0 C E H locs ad ls B hl)
theorem ev_icmp_eq (tgt : Nat) {x y : Int32} {off : Int} (hd : decode M.2.1 pc = .ok (.if_icmp .eq off, 3)) (ht : (pc : Int) + off = (tgt : Int)) (kt : x = y → Ev M X r wf tgt lv st w nc ns) (kf : ¬ x = y → Ev M X r wf (pc + 3) lv st w nc ns) : Ev M X r wf pc lv (.int y :: .int x :: st) w nc ns := fun p l e s m args below meth c Q D dA b A ad0 C E H locs ad ls B hl => lv_icmp_eq C.1 C.2.1 hd ht (fun h => kt h p l e s m args below meth c Q D dA b A ad0 C E H locs ad ls B hl) (fun h => kf h p l e s m args below meth c Q D dA b A ad0 C E H locs ad ls B hl)
theorem ev_if_ne (tgt : Nat) {x : Int32} {off : Int} (hd : decode M.2.1 pc = .ok (.ifCond .ne off, 3)) (ht : (pc : Int) + off = (tgt : Int)) (kt : ¬ x = 0 → Ev M X r wf tgt lv st w nc ns) (kf : x = 0 → Ev M X r wf (pc + 3) lv st w nc ns) : Ev M X r wf pc lv (.int x :: st) w nc ns := fun p l e s m args below meth c Q D dA b A ad0 C E H locs ad ls B hl => lv_if_ne C.1 C.2.1 hd ht (fun h => kt h p l e s m args below meth c Q D dA b A ad0 C E H locs ad ls B hl) (fun h => kf h p l e s m args below meth c Q D dA b A ad0 C E H locs ad ls B hl)
theorem ev_icmp_ne (tgt : Nat) {x y : Int32} {off : Int} (hd : decode M.2.1 pc = .ok (.if_icmp .ne off, 3)) (ht : (pc : Int) + off = (tgt : Int)) (kt : ¬ x = y → Ev M X r wf tgt lv st w nc ns) (kf : x = y → Ev M X r wf (pc + 3) lv st w nc ns) : Ev M X r wf pc lv (.int y :: .int x :: st) w nc ns := fun p l e s m args below meth c Q D dA b A ad0 C E H locs ad ls B hl => lv_icmp_ne C.1 C.2.1 hd ht (fun h => kt h p l e s m args below meth c Q D dA b A ad0 C E H locs ad ls B hl) (fun h => kf h p l e s m args below meth c Q D dA b A ad0 C E H locs ad ls B hl)
theorem ev_if_lt (tgt : Nat) {x : Int32} {off : Int} (hd : decode M.2.1 pc = .ok (.ifCond .lt off, 3)) (ht : (pc : Int) + off = (tgt : Int)) (kt : x < 0 → Ev M X r wf tgt lv st w nc ns) (kf : ¬ x < 0 → Ev M X r wf (pc + 3) lv st w nc ns) : Ev M X r wf pc lv (.int x :: st) w nc ns := fun p l e s m args below meth c Q D dA b A ad0 C E H locs ad ls B hl => lv_if_lt C.1 C.2.1 hd ht (fun h => kt h p l e s m args below meth c Q D dA b A ad0 C E H locs ad ls B hl) (fun h => kf h p l e s m args below meth c Q D dA b A ad0 C E H locs ad ls B hl)
theorem ev_icmp_lt (tgt : Nat) {x y : Int32} {off : Int} (hd : decode M.2.1 pc = .ok (.if_icmp .lt off, 3)) (ht : (pc : Int) + off = (tgt : Int)) (kt : x < y → Ev M X r wf tgt lv st w nc ns) (kf : ¬ x < y → Ev M X r wf (pc + 3) lv st w nc ns) : Ev M X r wf pc lv (.int y :: .int x :: st) w nc ns := fun p l e s m args below meth c Q D dA b A ad0 C E H locs ad ls B hl => lv_icmp_lt C.1 C.2.1 hd ht (fun h => kt h p l e s m args below meth c Q D dA b A ad0 C E H locs ad ls B hl) (fun h => kf h p l e s m args below meth c Q D dA b A ad0 C E H locs ad ls B hl)
theorem ev_if_ge (tgt : Nat) {x : Int32} {off : Int} (hd : decode M.2.1 pc = .ok (.ifCond .ge off, 3)) (ht : (pc : Int) + off = (tgt : Int)) (kt : 0 ≤ x → Ev M X r wf tgt lv st w nc ns) (kf : ¬ 0 ≤ x → Ev M X r wf (pc + 3) lv st w nc ns) : Ev M X r wf pc lv (.int x :: st) w nc ns := fun p l e s m args below meth c Q D dA b A ad0 C E H locs ad ls B hl => lv_if_ge C.1 C.2.1 hd ht (fun h => kt h p l e s m args below meth c Q D dA b A ad0 C E H locs ad ls B hl) (fun h => kf h p l e s m args below meth c Q D dA b A ad0 C E H locs ad ls B hl)
theorem ev_icmp_ge (tgt : Nat) {x y : Int32} {off : Int} (hd : decode M.2.1 pc = .ok (.if_icmp .ge off, 3)) (ht : (pc : Int) + off = (tgt : Int)) (kt : y ≤ x → Ev M X r wf tgt lv st w nc ns) (kf : ¬ y ≤ x → Ev M X r wf (pc + 3) lv st w nc ns) : Ev M X r wf pc lv (.int y :: .int x :: st) w nc ns := fun p l e s m args below meth c Q D dA b A ad0 C E H locs ad ls B hl => lv_icmp_ge C.1 C.2.1 hd ht (fun h => kt h p l e s m args below meth c Q D dA b A ad0 C E H locs ad ls B hl) (fun h => kf h p l e s m args below meth c Q D dA b A ad0 C E H locs ad ls B hl)
theorem ev_if_gt (tgt : Nat) {x : Int32} {off : Int} (hd : decode M.2.1 pc = .ok (.ifCond .gt off, 3)) (ht : (pc : Int) + off = (tgt : Int)) (kt : 0 < x → Ev M X r wf tgt lv st w nc ns) (kf : ¬ 0 < x → Ev M X r wf (pc + 3) lv st w nc ns) : Ev M X r wf pc lv (.int x :: st) w nc ns := fun p l e s m args below meth c Q D dA b A ad0 C E H locs ad ls B hl => lv_if_gt C.1 C.2.1 hd ht (fun h => kt h p l e s m args below meth c Q D dA b A ad0 C E H locs ad ls B hl) (fun h => kf h p l e s m args below meth c Q D dA b A ad0 C E H locs ad ls B hl)
theorem ev_icmp_gt (tgt : Nat) {x y : Int32} {off : Int} (hd : decode M.2.1 pc = .ok (.if_icmp .gt off, 3)) (ht : (pc : Int) + off = (tgt : Int)) (kt : y < x → Ev M X r wf tgt lv st w nc ns) (kf : ¬ y < x → Ev M X r wf (pc + 3) lv st w nc ns) : Ev M X r wf pc lv (.int y :: .int x :: st) w nc ns := fun p l e s m args below meth c Q D dA b A ad0 C E H locs ad ls B hl => lv_icmp_gt C.1 C.2.1 hd ht (fun h => kt h p l e s m args below meth c Q D dA b A ad0 C E H locs ad ls B hl) (fun h => kf h p l e s m args below meth c Q D dA b A ad0 C E H locs ad ls B hl)
theorem ev_if_le (tgt : Nat) {x : Int32} {off : Int} (hd : decode M.2.1 pc = .ok (.ifCond .le off, 3)) (ht : (pc : Int) + off = (tgt : Int)) (kt : x ≤ 0 → Ev M X r wf tgt lv st w nc ns) (kf : ¬ x ≤ 0 → Ev M X r wf (pc + 3) lv st w nc ns) : Ev M X r wf pc lv (.int x :: st) w nc ns := fun p l e s m args below meth c Q D dA b A ad0 C E H locs ad ls B hl => lv_if_le C.1 C.2.1 hd ht (fun h => kt h p l e s m args below meth c Q D dA b A ad0 C E H locs ad ls B hl) (fun h => kf h p l e s m args below meth c Q D dA b A ad0 C E H locs ad ls B hl)
theorem ev_icmp_le (tgt : Nat) {x y : Int32} {off : Int} (hd : decode M.2.1 pc = .ok (.if_icmp .le off, 3)) (ht : (pc : Int) + off = (tgt : Int)) (kt : x ≤ y → Ev M X r wf tgt lv st w nc ns) (kf : ¬ x ≤ y → Ev M X r wf (pc + 3) lv st w nc ns) : Ev M X r wf pc lv (.int y :: .int x :: st) w nc ns := fun p l e s m args below meth c Q D dA b A ad0 C E H locs ad ls B hl => lv_icmp_le C.1 C.2.1 hd ht (fun h => kt h p l e s m args below meth c Q D dA b A ad0 C E H locs ad ls B hl) (fun h => kf h p l e s m args below meth c Q D dA b A ad0 C E H locs ad ls B hl)
theorem ev_goto (tgt : Nat) {off : Int} (hd : decode M.2.1 pc = .ok (.goto off, 3)) (ht : (pc : Int) + off = (tgt : Int)) (k : Ev M X r wf tgt lv st w nc ns) : Ev M X r wf pc lv st w nc ns := fun p l e s m args below meth c Q D dA b A ad0 C E H locs ad ls B hl => lv_goto C.1 C.2.1 hd ht (k p l e s m args below meth c Q D dA b A ad0 C E H locs ad ls B hl)
theorem ev_tabOut (tgt : Nat) {dflt lo hi : Int} {offs : Array Int} {len : Nat} {x : Int32} (hd : decode M.2.1 pc = .ok (.tableswitch dflt lo hi offs, len)) (h : x.toInt < lo ∨ hi < x.toInt) (ht : (pc : Int) + dflt = (tgt : Int)) (k : Ev M X r wf tgt lv st w nc ns) : Ev M X r wf pc lv (.int x :: st) w nc ns := fun p l e s m args below meth c Q D dA b A ad0 C E H locs ad ls B hl => lv_tableOut C.1 C.2.1 hd h ht (k p l e s m args below meth c Q D dA b A ad0 C E H locs ad ls B hl)
theorem ev_tabIn (tgt : Nat) {dflt lo hi : Int} {offs : Array Int} {len : Nat} {x : Int32} {off : Int} (hd : decode M.2.1 pc = .ok (.tableswitch dflt lo hi offs, len)) (h1 : ¬ x.toInt < lo) (h2 : ¬ hi < x.toInt) (ho : offs[(x.toInt - lo).toNat]? = some off) (ht : (pc : Int) + off = (tgt : Int)) (k : Ev M X r wf tgt lv st w nc ns) : Ev M X r wf pc lv (.int x :: st) w nc ns := fun p l e s m args below meth c Q D dA b A ad0 C E H locs ad ls B hl => lv_tableIn C.1 C.2.1 hd h1 h2 ho ht (k p l e s m args below meth c Q D dA b A ad0 C E H locs ad ls B hl)
theorem ev_ldc2 {index : Nat} {v : Int64} (hw : Cond.constantLong M.1.cls index v ∈ zG) (hd : decode M.2.1 pc = .ok (.ldc2_w index, 3)) (k : Ev M X r wf (pc + 3) lv (.long v :: st) w nc ns) : Ev M X r wf pc lv st w nc ns := fun p l e s m args below meth c Q D dA b A ad0 C E H locs ad ls B hl => lv_ldc2 C.1 C.2.1 C.2.2.2.2.1 (C.2.2.2.1 _ hw) hd (k p l e s m args below meth c Q D dA b A ad0 C E H locs ad ls B hl)
theorem ev_ret (hd : decode M.2.1 pc = .ok (.return_, 1)) (hr : M.2.2.2.1 = none) (hc : nc ≤ M.2.2.2.2.cells) (hs : ns ≤ M.2.2.2.2.slots) : Ev M X none w pc lv [] w nc ns := fun p l e s m args below meth c Q D dA b A ad0 C E H locs ad ls B hl => E pc nc ns ls H locs ad ⟨hd, hr⟩ hc hs B
theorem ev_iret {v : Int32} {ty : FieldType} (hd : decode M.2.1 pc = .ok (.ireturn, 1)) (hr : M.2.2.2.1 = some ty) (hn : narrow ty (.int v) = .int v) (hc : nc ≤ M.2.2.2.2.cells) (hs : ns ≤ M.2.2.2.2.slots) : Ev M X (some (.int v)) w pc lv [.int v] w nc ns := fun p l e s m args below meth c Q D dA b A ad0 C E H locs ad ls B hl => E pc nc ns ls H locs ad ⟨hd, ty, hr, hn⟩ hc hs B
theorem ev_lret {v : Int64} (hd : decode M.2.1 pc = .ok (.lreturn, 1)) (hr : M.2.2.2.1 = some .long) (hc : nc ≤ M.2.2.2.2.cells) (hs : ns ≤ M.2.2.2.2.slots) : Ev M X (some (.long v)) w pc lv [.long v] w nc ns := fun p l e s m args below meth c Q D dA b A ad0 C E H locs ad ls B hl => E pc nc ns ls H locs ad ⟨hd, hr⟩ hc hs B
theorem ev_iald {j n : Nat} {f : Nat → Int32} {i : Int32} (hd : decode M.2.1 pc = .ok (.iaload, 1)) (hj : w[j]? = some (.inl (.int, n, .inl f))) (hin : vp_in i n) (k : Ev M X r wf (pc + 1) lv (.int (f i.toNatClampNeg) :: st) w nc ns) : Ev M X r wf pc lv (.int i :: .ref j :: st) w nc ns := fun p l e s m args below meth c Q D dA b A ad0 C E H locs ad ls B hl => va_iald (t0 := 0) C.1 C.2.1 (z_K1.one C.2.2.2.2.2.2.2.2.1 B.2.2.2.2.2.1 hj) B.2.2.2.1 j (z_w_at B.1 hj).2 rfl hin hd (k p l e s m args below meth c Q D dA b A ad0 C E H locs ad ls B hl)
theorem ev_zald {j n : Nat} {f : Nat → Int32} {i : Int32} (hd : decode M.2.1 pc = .ok (.baload, 1)) (hj : w[j]? = some (.inl (.boolean, n, .inl f))) (hin : vp_in i n) (k : Ev M X r wf (pc + 1) lv (.int (f i.toNatClampNeg) :: st) w nc ns) : Ev M X r wf pc lv (.int i :: .ref j :: st) w nc ns := fun p l e s m args below meth c Q D dA b A ad0 C E H locs ad ls B hl => va_zald (t0 := 0) C.1 C.2.1 (z_K1.one C.2.2.2.2.2.2.2.2.1 B.2.2.2.2.2.1 hj) B.2.2.2.1 j (z_w_at B.1 hj).2 rfl hin hd (k p l e s m args below meth c Q D dA b A ad0 C E H locs ad ls B hl)
theorem ev_lald {j n : Nat} {f : Nat → Int64} {i : Int32} (hd : decode M.2.1 pc = .ok (.laload, 1)) (hj : w[j]? = some (.inl (.long, n, .inr (.inl f)))) (hin : vp_in i n) (k : Ev M X r wf (pc + 1) lv (.long (f i.toNatClampNeg) :: st) w nc ns) : Ev M X r wf pc lv (.int i :: .ref j :: st) w nc ns := fun p l e s m args below meth c Q D dA b A ad0 C E H locs ad ls B hl => va_lald (t0 := 0) C.1 C.2.1 (z_K1.one C.2.2.2.2.2.2.2.2.1 B.2.2.2.2.2.1 hj) B.2.2.2.1 j (z_w_at B.1 hj).2 rfl hin hd (k p l e s m args below meth c Q D dA b A ad0 C E H locs ad ls B hl)
theorem ev_iast {j n : Nat} {f : Nat → Int32} {i : Int32} {x : Int32} (hd : decode M.2.1 pc = .ok (.iastore, 1)) (hj : w[j]? = some (.inl (.int, n, .inl f))) (hin : vp_in i n) (k : Ev M X r wf (pc + 1) lv st (w.set j (.inl (.int, n, .inl (upd f i.toNatClampNeg x)))) nc ns) : Ev M X r wf pc lv (.int x :: .int i :: .ref j :: st) w nc ns := fun p l e s m args below meth c Q D dA b A ad0 C E H locs ad ls B hl => va_iast (t0 := 0) C.1 C.2.1 (z_K1.one C.2.2.2.2.2.2.2.2.1 B.2.2.2.2.2.1 hj) B.2.2.2.1 B.2.2.2.2.1 B.2.2.2.2.2.2 j (z_w_at B.1 hj).2 rfl hin hd (fun H1 locs1 hP hD hS => k p l e s m args below meth c Q D dA b A ad0 C E H1 locs1 ad ls ⟨by rw [List.length_set]; exact B.1, B.2.1, B.2.2.1, by rw [← z_w_set B.1 hj]; exact hP, by rw [← z_w_set B.1 hj]; exact hD, z_K1.set B.2.2.2.2.2.1 (fun ty a h => by cases h; exact ⟨j, _, hj⟩), hS⟩ hl)
theorem ev_zast {j n : Nat} {f : Nat → Int32} {i : Int32} {x : Int32} (hd : decode M.2.1 pc = .ok (.bastore, 1)) (hj : w[j]? = some (.inl (.boolean, n, .inl f))) (hin : vp_in i n) (k : Ev M X r wf (pc + 1) lv st (w.set j (.inl (.boolean, n, .inl (upd f i.toNatClampNeg (vp_nar .boolean x))))) nc ns) : Ev M X r wf pc lv (.int x :: .int i :: .ref j :: st) w nc ns := fun p l e s m args below meth c Q D dA b A ad0 C E H locs ad ls B hl => va_zast (t0 := 0) C.1 C.2.1 (z_K1.one C.2.2.2.2.2.2.2.2.1 B.2.2.2.2.2.1 hj) B.2.2.2.1 B.2.2.2.2.1 B.2.2.2.2.2.2 j (z_w_at B.1 hj).2 rfl hin hd (fun H1 locs1 hP hD hS => k p l e s m args below meth c Q D dA b A ad0 C E H1 locs1 ad ls ⟨by rw [List.length_set]; exact B.1, B.2.1, B.2.2.1, by rw [← z_w_set B.1 hj]; exact hP, by rw [← z_w_set B.1 hj]; exact hD, z_K1.set B.2.2.2.2.2.1 (fun ty a h => by cases h; exact ⟨j, _, hj⟩), hS⟩ hl)
theorem ev_last {j n : Nat} {f : Nat → Int64} {i : Int32} {x : Int64} (hd : decode M.2.1 pc = .ok (.lastore, 1)) (hj : w[j]? = some (.inl (.long, n, .inr (.inl f)))) (hin : vp_in i n) (k : Ev M X r wf (pc + 1) lv st (w.set j (.inl (.long, n, .inr (.inl (vp_updL f i.toNatClampNeg x))))) nc ns) : Ev M X r wf pc lv (.long x :: .int i :: .ref j :: st) w nc ns := fun p l e s m args below meth c Q D dA b A ad0 C E H locs ad ls B hl => va_last (t0 := 0) C.1 C.2.1 (z_K1.one C.2.2.2.2.2.2.2.2.1 B.2.2.2.2.2.1 hj) B.2.2.2.1 B.2.2.2.2.1 B.2.2.2.2.2.2 j (z_w_at B.1 hj).2 rfl hin hd (fun H1 locs1 hP hD hS => k p l e s m args below meth c Q D dA b A ad0 C E H1 locs1 ad ls ⟨by rw [List.length_set]; exact B.1, B.2.1, B.2.2.1, by rw [← z_w_set B.1 hj]; exact hP, by rw [← z_w_set B.1 hj]; exact hD, z_K1.set B.2.2.2.2.2.1 (fun ty a h => by cases h; exact ⟨j, _, hj⟩), hS⟩ hl)
theorem ev_alen {j : Nat} {ty : FieldType} {x : vp_A} {v : Int32} (hd : decode M.2.1 pc = .ok (.arraylength, 1)) (hj : w[j]? = some (.inl (ty, x))) (hv : Int32.ofNat x.1 = v) (k : Ev M X r wf (pc + 1) lv (.int v :: st) w nc ns) : Ev M X r wf pc lv (.ref j :: st) w nc ns := fun p l e s m args below meth c Q D dA b A ad0 C E H locs ad ls B hl => va_alen (t0 := 0) C.1 C.2.1 (z_K1.one C.2.2.2.2.2.2.2.2.1 B.2.2.2.2.2.1 hj) B.2.2.2.1 j (z_w_at B.1 hj).2 rfl hv hd (k p l e s m args below meth c Q D dA b A ad0 C E H locs ad ls B hl)
/-- the script of the law: the place 1000000 -/
theorem z_far {D : va_G} {dA : FieldType → ClassId} {b : Nat} {ad0 ad : List Nat} {s : State} {H : Heap} {locs : List Loc} {A : Nat → Prop} (B : zB D dA b ad0 ad w s H locs A) : ad.getD 1000000 b = b := by
  rw [List.getD_eq_getElem?_getD, List.getElem?_eq_none (Nat.le_of_lt B.2.1)]
  rfl
theorem ev_sld {L : Nat} {xs : Nat → Int32} {i : Int32} (hd : decode M.2.1 pc = .ok (.iaload, 1)) (hin : vp_in i L) (k : Ev M (some (L, xs)) r wf (pc + 1) lv (.int (xs i.toNatClampNeg) :: st) w nc ns) : Ev M (some (L, xs)) r wf pc lv (.int i :: .ref 1000000 :: st) w nc ns := fun p l e s m args below meth c Q D dA b A ad0 C E H locs ad ls B hl => by
  obtain ⟨h1, h2, h3⟩ := C.2.2.2.2.2.2.2.1 L xs rfl
  show W _ _ _ _ _ _ _ _ _ _ _ _ _ _ _ (F0 m pc ls (.int i :: .ref (ad.getD 1000000 b) :: st.map (z_v b ad)))
  rw [z_far B]
  exact va_sld C.1 C.2.1 h1 h2 h3 B.2.2.2.2.2.2 hin hd (k p l e s m args below meth c Q D dA b A ad0 C E H locs ad ls B hl)
theorem ev_slen {L : Nat} {xs : Nat → Int32} (hd : decode M.2.1 pc = .ok (.arraylength, 1)) (k : Ev M (some (L, xs)) r wf (pc + 1) lv (.int (Int32.ofNat L) :: st) w nc ns) : Ev M (some (L, xs)) r wf pc lv (.ref 1000000 :: st) w nc ns := fun p l e s m args below meth c Q D dA b A ad0 C E H locs ad ls B hl => by
  obtain ⟨h1, h2, h3⟩ := C.2.2.2.2.2.2.2.1 L xs rfl
  show W _ _ _ _ _ _ _ _ _ _ _ _ _ _ _ (F0 m pc ls (.ref (ad.getD 1000000 b) :: st.map (z_v b ad)))
  rw [z_far B]
  exact va_slen C.1 C.2.1 h1 h2 h3 B.2.2.2.2.2.2 hd (k p l e s m args below meth c Q D dA b A ad0 C E H locs ad ls B hl)
/-- a field that an instruction of the class named own links: the k-th of the ci-th class -/
def zF (own : String) (idx ci k : Nat) : Prop := ∃ (C : String) (T : u_T) (N : Nat), vwCl[ci]? = some (C, T, N) ∧ k < N ∧ Cond.fieldLink own idx (T k).1 (T k).2.1 (T k).2.2.1 ∈ zG ∧ (∀ w ∈ u_ws C T N, w ∈ zG)
/-- and it may be written -/
def zFp (own : String) (idx ci k : Nat) (fin : Bool) (ty : FieldType) : Prop := ∃ (C : String) (T : u_T) (N : Nat) (ty0 : Nat → FieldType), vwCl[ci]? = some (C, T, N) ∧ k < N ∧ Cond.fieldLink own idx (T k).1 (T k).2.1 (T k).2.2.1 ∈ zG ∧ (∀ w ∈ u_ws C T N, w ∈ zG) ∧ (∀ k, k < N → parseFieldDescriptor (T k).2.2.1 = some (ty0 k)) ∧ (∀ a, a < N → ∀ b, b < N → a ≠ b → (T a).2.1 ≠ (T b).2.1) ∧ (T k).2.2.2 = fin ∧ (T k).1 = own ∧ parseFieldDescriptor (T k).2.2.1 = some ty
theorem ev_get {idx ci kf j : Nat} {fs : List Value} {v : Value} (hF : zF M.1.cls idx ci kf) (hd : decode M.2.1 pc = .ok (.getfield idx, 3)) (hj : w[j]? = some (.inr (ci, fs))) (hv : fs[kf]? = some v) (k : Ev M X r wf (pc + 3) lv (v :: st) w nc ns) : Ev M X r wf pc lv (.ref j :: st) w nc ns := fun p l e s m args below meth c Q D dA b A ad0 C E H locs ad ls B hl => by
  obtain ⟨Cn, T, N, h1, h2, h3, h4⟩ := hF
  exact va_get C.1 C.2.1 C.2.2.2.1 h4 C.2.2.2.2.1 C.2.2.2.2.2.2.2.2.1 B.2.2.2.1 j (z_w_at B.1 hj).2 h1 kf h2 (C.2.2.2.1 _ h3) (fun _ h9 => h9) (v := z_v b ad v) (by rw [List.getElem?_map, hv]; rfl) hd (k p l e s m args below meth c Q D dA b A ad0 C E H locs ad ls B hl)
theorem z_c_set {b : Nat} {ad : List Nat} {dA : FieldType → ClassId} {ci kf : Nat} {fs : List Value} {v : Value} : (Sum.inr (ci, (fs.map (z_v b ad)).set kf (z_v b ad v)) : va_E) = z_c b ad dA (.inr (ci, fs.set kf v)) := by
  show _ = Sum.inr (ci, (fs.set kf v).map (z_v b ad))
  rw [List.map_set]
theorem ev_put {idx ci kf j : Nat} {fs : List Value} {v : Value} {ty : FieldType} (hF : zFp M.1.cls idx ci kf false ty) (hd : decode M.2.1 pc = .ok (.putfield idx, 3)) (hj : w[j]? = some (.inr (ci, fs))) (hn : ∀ (b : Nat) (ad : List Nat), narrow ty (z_v b ad v) = z_v b ad v ∧ fits ty (z_v b ad v) = true) (hk : kf < fs.length) (k : Ev M X r wf (pc + 3) lv st (w.set j (.inr (ci, fs.set kf v))) nc ns) : Ev M X r wf pc lv (v :: .ref j :: st) w nc ns := fun p l e s m args below meth c Q D dA b A ad0 C E H locs ad ls B hl => by
  obtain ⟨Cn, T, N, ty0, h1, h2, h3, h4, h5, h6, h7, h8, h9⟩ := hF
  refine va_put C.1 C.2.1 C.2.2.2.1 h4 ty0 h5 h6 C.2.2.2.2.1 C.2.2.2.2.2.2.2.2.1 B.2.2.2.1 B.2.2.2.2.1 B.2.2.2.2.2.2 j (z_w_at B.1 hj).2 h1 kf h2 (C.2.2.2.1 _ h3) (fun _ h9 => h9) h7 h9 (hn b ad).1 (hn b ad).2 (by rw [List.length_map]; exact hk) hd (fun H1 locs1 hP hD hS => ?_)
  rw [z_c_set (dA := dA)] at hP hD
  exact k p l e s m args below meth c Q D dA b A ad0 C E H1 locs1 ad ls ⟨by rw [List.length_set]; exact B.1, B.2.1, B.2.2.1, by rw [← z_w_set B.1 hj]; exact hP, by rw [← z_w_set B.1 hj]; exact hD, z_K1.set B.2.2.2.2.2.1 (fun ty a h => by cases h), hS⟩ hl
theorem ev_putF {idx ci kf j : Nat} {fs : List Value} {v : Value} {ty : FieldType} (hF : zFp M.1.cls idx ci kf true ty) (hi : M.1.name = "<init>") (hd : decode M.2.1 pc = .ok (.putfield idx, 3)) (hj : w[j]? = some (.inr (ci, fs))) (hn : ∀ (b : Nat) (ad : List Nat), narrow ty (z_v b ad v) = z_v b ad v ∧ fits ty (z_v b ad v) = true) (hk : kf < fs.length) (k : Ev M X r wf (pc + 3) lv st (w.set j (.inr (ci, fs.set kf v))) nc ns) : Ev M X r wf pc lv (v :: .ref j :: st) w nc ns := fun p l e s m args below meth c Q D dA b A ad0 C E H locs ad ls B hl => by
  obtain ⟨Cn, T, N, ty0, h1, h2, h3, h4, h5, h6, h7, h8, h9⟩ := hF
  refine va_putF C.1 C.2.1 C.2.2.2.1 h4 ty0 h5 h6 C.2.2.2.2.1 C.2.2.2.2.2.2.2.2.1 B.2.2.2.1 B.2.2.2.2.1 B.2.2.2.2.2.2 j (z_w_at B.1 hj).2 h1 kf h2 (C.2.2.2.1 _ h3) (fun _ h9 => h9) h7 (C.2.2.2.2.2.1.trans hi) h8 h9 (hn b ad).1 (hn b ad).2 (by rw [List.length_map]; exact hk) hd (fun H1 locs1 hP hD hS => ?_)
  rw [z_c_set (dA := dA)] at hP hD
  exact k p l e s m args below meth c Q D dA b A ad0 C E H1 locs1 ad ls ⟨by rw [List.length_set]; exact B.1, B.2.1, B.2.2.1, by rw [← z_w_set B.1 hj]; exact hP, by rw [← z_w_set B.1 hj]; exact hD, z_K1.set B.2.2.2.2.2.1 (fun ty a h => by cases h), hS⟩ hl
/-- a class that an instruction makes an object of -/
def zNew (own : String) (idx ci : Nat) (fs : List Value) : Prop := ∃ (C : String) (T : u_T) (ty0 : Nat → FieldType), vwCl[ci]? = some (C, T, fs.length) ∧ (∀ w ∈ u_ws C T fs.length, w ∈ zG) ∧ (∀ k, k < fs.length → parseFieldDescriptor (T k).2.2.1 = some (ty0 k)) ∧ Cond.classLink own idx C ∈ zG ∧ Cond.instantiable C fs.length ∈ zG ∧ Cond.initialized C ∈ zG ∧ (∀ j, j < fs.length → defaultValue (ty0 j) = vp_V fs j)
theorem z_more {b : Nat} {ad : List Nat} {q : Nat} {ls : Array Slot} {n : Nat} (hb : ad.length + 1 < 1000000) (hlv : lv.all (fun q => z_ok ad.length q.2) = true) (hl : lv_has ls n (lv.map (fun q => (q.1, z_v b ad q.2)))) : lv_has ls n (lv.map (fun x => (x.1, z_v b (ad ++ [q]) x.2))) := by
  have h : lv.map (fun x => (x.1, z_v b (ad ++ [q]) x.2)) = lv.map (fun q => (q.1, z_v b ad q.2)) := by
    apply List.map_congr_left
    intro x hx
    rw [z_v_more hb (List.all_eq_true.mp hlv x hx)]
  rw [h]
  exact hl
theorem z_at_new {b : Nat} {ad : List Nat} {q : Nat} : (ad ++ [q]).getD ad.length b = q := by
  rw [List.getD_eq_getElem?_getD, List.getElem?_append_right (Nat.le_refl _), Nat.sub_self]
  rfl
theorem ev_new {idx ci : Nat} {fs : List Value} (hN : zNew M.1.cls idx ci fs) (hd : decode M.2.1 pc = .ok (.new idx, 3)) (hfs : fs.all z_nr = true) (hlen : w.length + 1 < 1000000) (hw : w.all (z_okc w.length) = true) (hlv : lv.all (fun q => z_ok w.length q.2) = true) (hst : st.all (z_ok w.length) = true) (hc : nc + 1 ≤ M.2.2.2.2.cells) (hs : ns + fs.length ≤ M.2.2.2.2.slots) (k : Ev M X r wf (pc + 3) lv (.ref w.length :: st) (w ++ [.inr (ci, fs)]) (nc + 1) (ns + fs.length)) : Ev M X r wf pc lv st w nc ns := fun p l e s m args below meth c Q D dA b A ad0 C E H locs ad ls B hl => by
  obtain ⟨Cn, T, ty0, h1, h2, h3, h4, h5, h6, h7⟩ := hN
  refine va_new C.1 C.2.1 C.2.2.2.1 h2 ty0 h3 C.2.2.2.2.1 (C.2.2.2.1 _ h4) (C.2.2.2.1 _ h5) (C.2.2.2.1 _ h6) C.2.2.2.2.2.2.2.2.1 B.2.2.2.1 B.2.2.2.2.1 B.2.2.2.2.2.2 C.2.2.2.2.2.2.1 h1 h7 hc hs hd (fun q H1 hP hD hS => ?_)
  have hb : ad.length + 1 < 1000000 := by rw [B.1]; exact hlen
  have hm : fs.map (z_v b (ad ++ [q])) = fs := by
    have : ∀ v ∈ fs, z_v b (ad ++ [q]) v = v := by
      intro v hv
      have h := List.all_eq_true.mp hfs v hv
      cases v with
      | ref j => cases h
      | _ => rfl
    exact (List.map_congr_left this).trans (List.map_id _)
  have e1 := z_w_push (b := b) (q := q) (dA := dA) (c := .inr (ci, fs)) B.1 hb hw
  have e2 : z_c b (ad ++ [q]) dA (.inr (ci, fs)) = .inr (ci, fs) := by
    show Sum.inr (ci, fs.map (z_v b (ad ++ [q]))) = Sum.inr (ci, fs)
    rw [hm]
  rw [e2] at e1
  have k1 := k p l e s m args below meth c Q D dA b A ad0 C E H1 locs (ad ++ [q]) ls ⟨by rw [List.length_append, List.length_append, B.1]; rfl, by rw [List.length_append]; exact hb, by obtain ⟨ad2, h⟩ := B.2.2.1; exact ⟨ad2 ++ [q], by rw [h, List.append_assoc]⟩, by rw [e1]; exact hP, by rw [e1]; exact hD, ?_, hS⟩ (z_more hb (by rw [B.1]; exact hlv) hl)
  · rw [List.map_cons, z_map_more hb (by rw [B.1]; exact hst)] at k1
    have e3 : z_v b (ad ++ [q]) (.ref w.length) = .ref q := by
      show Value.ref _ = Value.ref _
      rw [← B.1, z_at_new]
    rw [e3] at k1
    exact k1
  · intro j ty a hj
    rw [List.getElem?_append] at hj
    split at hj
    · exact B.2.2.2.2.2.1 j ty a hj
    · have hz := (List.getElem?_eq_some_iff.mp hj).1
      rw [show j - w.length = 0 by simp at hz; omega] at hj
      cases hj
theorem ev_newa {atype : ArrayType} {ty : FieldType} {n : Int32} {N : Nat} {a0 : vp_A} (hW : Cond.arrayClass ty ∈ zG) (hty : newarray.typeOf atype = ty) (ha : ∀ cA : ClassId, vp_cell cA a0 = arrV cA N (fun _ => defaultValue ty)) (hn : ¬ n < 0) (hN : n.toNatClampNeg = N) (hbytes : N * componentBytes ty ≤ 536870912) (hprim : ∀ (U : State) (cA : ClassId), va_RA U cA ty → U.vm.findClass ("[" ++ ty.toString) = some cA) (hd : decode M.2.1 pc = .ok (.newarray atype, 2)) (hlen : w.length + 1 < 1000000) (hw : w.all (z_okc w.length) = true) (hlv : lv.all (fun q => z_ok w.length q.2) = true) (hst : st.all (z_ok w.length) = true) (hc : nc + 1 ≤ M.2.2.2.2.cells) (hs : ns + N ≤ M.2.2.2.2.slots) (k : Ev M X r wf (pc + 2) lv (.ref w.length :: st) (w ++ [.inl (ty, a0)]) (nc + 1) (ns + N)) : Ev M X r wf pc lv (.int n :: st) w nc ns := fun p l e s m args below meth c Q D dA b A ad0 C E H locs ad ls B hl => by
  refine va_newa C.1 C.2.1 (by rw [hty]; exact C.2.2.2.1 _ hW) hty C.2.2.2.2.2.2.2.2.1 B.2.2.2.1 B.2.2.2.2.1 B.2.2.2.2.2.2 C.2.2.2.2.2.2.1 ha hn hN hbytes hc hs hd (fun q cA H1 hK hP hD hS => ?_)
  have hb : ad.length + 1 < 1000000 := by rw [B.1]; exact hlen
  have hKc := hK.2 0 (cA, ty) rfl
  have hcA : cA = dA ty := C.2.2.2.2.2.2.2.2.2.1 ty cA (hprim s cA hKc.2)
  subst hcA
  have e1 := z_w_push (b := b) (q := q) (dA := dA) (c := .inl (ty, a0)) B.1 hb hw
  have k1 := k p l e s m args below meth c Q D dA b A ad0 C E H1 locs (ad ++ [q]) ls ⟨by rw [List.length_append, List.length_append, B.1]; rfl, by rw [List.length_append]; exact hb, by obtain ⟨ad2, h⟩ := B.2.2.1; exact ⟨ad2 ++ [q], by rw [h, List.append_assoc]⟩, by rw [e1]; exact hP, by rw [e1]; exact hD, ?_, hS⟩ (z_more hb (by rw [B.1]; exact hlv) hl)
  · rw [List.map_cons, z_map_more hb (by rw [B.1]; exact hst)] at k1
    have e3 : z_v b (ad ++ [q]) (.ref w.length) = .ref q := by
      show Value.ref _ = Value.ref _
      rw [← B.1, z_at_new]
    rw [e3] at k1
    exact k1
  · intro j ty' a hj
    rw [List.getElem?_append] at hj
    split at hj
    · exact B.2.2.2.2.2.1 j ty' a hj
    · have hz := (List.getElem?_eq_some_iff.mp hj).1
      rw [show j - w.length = 0 by simp at hz; omega] at hj
      cases hj
      exact hKc
/-- the callee's words, and that it may be called from the class named own -/
def zCb (M' : zM) (n : Nat) : Prop := Cond.code M'.1 M'.2.1 M'.2.2.1 M'.2.2.2.1 ∈ zG ∧ Cond.initialized M'.1.cls ∈ zG ∧ M'.1.cls ≠ "java/lang/invoke/MethodHandle" ∧ M'.1.cls ≠ "java/lang/invoke/VarHandle" ∧ (parseMethodDescriptor M'.1.desc).map (fun d => d.parameters.length) = some n
def zLk (own : String) (idx : Nat) (y : MethodName) : Prop := Cond.methodLink own idx y ∈ zG ∨ ∃ host : String, Cond.methodLinkNest own idx y host ∈ zN
def zV (own : String) (idx ci : Nat) (M' : zM) (n : Nat) : Prop := zCb M' n ∧ zLk own idx M'.1 ∧ Cond.instanceMethod M'.1 ∈ zG ∧ Cond.selects M'.1.cls M'.1 M'.1 ∈ zG ∧ ∃ (T : u_T) (N : Nat), vwCl[ci]? = some (M'.1.cls, T, N)
def zS (own : String) (idx : Nat) (M' : zM) (n : Nat) : Prop := zCb M' n ∧ zLk own idx M'.1 ∧ Cond.static M'.1 ∈ zG
def zI (own : String) (idx : Nat) (M' : zM) (n : Nat) : Prop := zCb M' n ∧ zLk own idx M'.1 ∧ Cond.instanceMethod M'.1 ∈ zG ∧ M'.1.name = "<init>" ∧ M'.2.2.2.1 = none
abbrev zRm (M M' : zM) (nc ns : Nat) : Prop := (M'.2.2.2.2.frames + 1 ≤ M.2.2.2.2.frames ∧ 8 + (M'.2.2.1 + 11) + M'.2.2.2.2.locals ≤ M.2.2.2.2.locals) ∧ nc + M'.2.2.2.2.cells ≤ M.2.2.2.2.cells ∧ ns + M'.2.2.2.2.slots ≤ M.2.2.2.2.slots
theorem z_blind {D : va_G} {dA : FieldType → ClassId} {b : Nat} {ad : List Nat} {sz : Nat} {av : List Value} : FrameBlind (va_Pc av (z_P D dA b ad w sz)) := by
  intro a U g mk q
  obtain ⟨q0, q1, qP, qK0, qK1, qD⟩ := q
  exact ⟨q0, q1, qP, z_K0.same (s := U) (U := U.calling g mk a) rfl qK0, z_K1.moved (s := U) (U := U.calling g mk a) (Vm.Alike.refl U.vm) qK1, qD⟩
theorem z_pre {D : va_G} {dA : FieldType → ClassId} {b : Nat} {ad0 ad : List Nat} {s : State} {H : Heap} {locs : List Loc} {A : Nat → Prop} {as : List Value} (B : zB D dA b ad0 ad w s H locs A) (hK : z_K0 D dA s) : ∀ U : State, U.heap = H → s.WarmedH U.vm → va_Pc (as.map (z_v b ad)) (z_P D dA b ad w H.size) (as.map (z_v b ad)).toArray U := by
  intro U hU hW
  refine ⟨rfl, by rw [hU], by rw [hU]; exact B.2.2.2.1, z_K0.moved hW hK, z_K1.moved hW.alike B.2.2.2.2.2.1, B.2.2.2.2.1.weaken (fun _ _ _ _ => trivial)⟩
theorem z_back {p : Program} {l : Launch} {e : Env} {R : Room} {s : State} {m : MethodId} {args : Array Value} {below : List Frame} {meth : Method} {c : Code} {H : Heap} {locs : List Loc} {cells slots mc ms : Nat} {Q : State → Prop} {D : va_G} {dA : FieldType → ClassId} {b : Nat} {ad0 ad : List Nat} {A : Nat → Prop} {ls : Array Slot} {st0 rest : List Value} {r1 : Option Value} {w1 : zW} {a : Array Value}
    (hr : va_Run p l e R s m args below meth c H locs cells slots mc ms (F0 m pc ls st0) rest (z_Q D dA b ad w H.size r1 w1 a) (va_A (z_w b ad dA w) H.size)) (hA : ∀ q, s.heap.size ≤ q → A q) (B : zB D dA b ad0 ad w s H locs A)
    (kk : ∀ (H1 : Heap) (locs1 : List Loc) (ad' : List Nat), (∃ ad2, ad' = ad ++ ad2) → zB D dA b ad0 ad' w1 s H1 locs1 A → W p l e R s m args below meth c H1 locs1 (cells + mc) (slots + ms) Q (F0 m (pc + 3) ls ((r1.map (z_v b ad')).toList ++ rest))) : W p l e R s m args below meth c H locs cells slots Q (F0 m pc ls st0) := by
  intro T hT X
  obtain ⟨v, st₀, t, T', L, h0, X', hL, e1, e2, ⟨⟨ad', hp, g1, g2, hv, hP1, hK1, hD1⟩, hz, hk⟩, st⟩ := hr T hT X
  cases hv
  rw [h0] at hz hk
  have hF : ∀ q, va_A (z_w b ad dA w) H.size q → A q := by
    intro q hq
    rcases hq with ⟨k, e, h⟩ | h
    · exact B.2.2.2.2.1.2 k (q, e) h
    · exact hA q (Nat.le_trans B.2.2.2.2.2.2.1 h)
  have hS := B.2.2.2.2.2.2
  obtain ⟨t2, a1, b1⟩ := kk T'.heap (locs ++ L) ad' hp ⟨g1, g2, by obtain ⟨x, hx⟩ := B.2.2.1; obtain ⟨y, hy⟩ := hp; exact ⟨x ++ y, by rw [hy, hx, List.append_assoc]⟩, by rw [e1]; exact hP1, hD1.weaken (fun _ q _ h => hF q.1 h), z_K1.moved (by have h := X'.warmed.alike; rw [e2] at h; exact h.symm) hK1,
    ⟨Nat.le_trans hS.1 (by rw [e1]; exact hz), fun q h1 h2 => by rw [e1, hk q (Nat.lt_of_lt_of_le h1 hS.1) (fun z => h2 (hF q z))]; exact hS.2.1 q h1 h2, fun q hq => by
      rcases List.mem_append.mp hq with h | h
      · exact hS.2.2 q h
      · exact hF _ (hL q h)⟩⟩ T' rfl X'
  exact ⟨t2, st t2 a1, b1⟩
theorem ev_callV (M' : zM) (As : List Value) {n idx : Nat} {ci j : Nat} {fs : List Value}  {r1 : Option Value} {w1 : zW} (hs : Sp M' (.ref j :: As) w r1 w1) (hz : zV M.1.cls idx ci M' n) (hd : decode M.2.1 pc = .ok (.invokevirtual idx, 3)) (hj : w[j]? = some (.inr (ci, fs))) (hn : As.length = n) (hR : zRm M M' nc ns) (hcat : (st.map fun v => v.category).sum ≤ 8) (h0 : M'.2.2.2.2.cells = 0 ∧ M'.2.2.2.2.slots = 0) (hlen : w1.length = w.length) (k : Ev M X r wf (pc + 3) lv (r1.toList ++ st) w1 nc ns) : Ev M X r wf pc lv (As.reverse ++ .ref j :: st) w nc ns := fun p l e s m args below meth c Q D dA b A ad0 C E H locs ad ls B hl => by
  obtain ⟨⟨c1, c2, c3, c4, c5⟩, c6, c7, c8, Tt, Nn, c9⟩ := hz
  have hsum : ((st.map (z_v b ad)).map fun v => v.category).sum ≤ 8 := by
    have h : (st.map (z_v b ad)).map (fun v => v.category) = st.map (fun v => v.category) := by
      rw [List.map_map]
      apply List.map_congr_left
      intro v _
      exact z_v_cat b ad v
    rw [h]
    exact hcat
  refine z_back (mc := M'.2.2.2.2.cells) (ms := M'.2.2.2.2.slots) (ad0 := ad0) (r1 := r1) (w1 := w1) (rest := st.map (z_v b ad)) (a := ((.ref j :: As).map (z_v b ad)).toArray) ?_ C.2.2.2.2.2.2.1 B (fun H1 locs1 ad' hp B' => ?_)
  · rcases c6 with c6 | ⟨host, c6⟩
    · exact va_runV (n := n) (As := As.map (z_v b ad)) (rest := st.map (z_v b ad)) (b := ad.getD j b) ⟨C.1, C.2.1, C.2.2.1, C.2.2.2.2.1, C.2.2.2.1⟩ (hs l D dA b ad H.size B.1 B.2.1) ⟨callB_of n C.2.2.2.1 (z_goodIn c1) rfl rfl rfl (C.2.2.2.1 _ c2) (C.2.2.2.1 _ c6) ⟨c3, c4, c5⟩ hR.1, C.2.2.2.1 _ c7, C.2.2.2.1 _ c8⟩ ⟨z_blind, va_recv C.2.2.2.2.2.2.2.2.1 B.2.2.2.1 c9 (z_w_at B.1 hj).2, z_pre (as := .ref j :: As) B C.2.2.2.2.2.2.2.2⟩ rfl (by rw [List.length_map]; exact hn) hl.1 (by rw [List.map_append, List.map_reverse] <;> rfl) (lv_room hsum) hd hR.2
    · exact va_runVN (n := n) (As := As.map (z_v b ad)) (rest := st.map (z_v b ad)) (b := ad.getD j b) ⟨C.1, C.2.1, C.2.2.1, C.2.2.2.2.1, C.2.2.2.1⟩ (hs l D dA b ad H.size B.1 B.2.1) ⟨va_cnB n C.2.2.2.1 (z_goodIn c1) rfl rfl rfl (C.2.2.2.2.2.2.2.2.2.2 _ c6) (C.2.2.2.1 _ c2) ⟨c3, c4, c5⟩ hR.1, C.2.2.2.1 _ c7, C.2.2.2.1 _ c8⟩ ⟨z_blind, va_recv C.2.2.2.2.2.2.2.2.1 B.2.2.2.1 c9 (z_w_at B.1 hj).2, z_pre (as := .ref j :: As) B C.2.2.2.2.2.2.2.2⟩ rfl (by rw [List.length_map]; exact hn) hl.1 (by rw [List.map_append, List.map_reverse] <;> rfl) (lv_room hsum) hd hR.2
  obtain ⟨ad2, rfl⟩ := hp
  have h0 : ad2 = [] := by
    have := B'.1
    rw [List.length_append, hlen, B.1] at this
    exact List.length_eq_zero_iff.mp (by omega)
  subst h0
  rw [List.append_nil] at B' ⊢
  have k1 := k p l e s m args below meth c Q D dA b A ad0 C E H1 locs1 ad ls B' hl
  have e9 : ((r1.map (z_v b ad)).toList ++ st.map (z_v b ad)) = (r1.toList ++ st).map (z_v b ad) := by
    cases r1 <;> simp
  rw [e9, h0.1, h0.2]
  exact k1
theorem ev_callS (M' : zM) (As : List Value) {n idx : Nat}  {r1 : Option Value} {w1 : zW} (hs : Sp M' (As) w r1 w1) (hz : zS M.1.cls idx M' n) (hd : decode M.2.1 pc = .ok (.invokestatic idx, 3)) (hn : As.length = n) (hR : zRm M M' nc ns) (hcat : (st.map fun v => v.category).sum ≤ 8) (h0 : M'.2.2.2.2.cells = 0 ∧ M'.2.2.2.2.slots = 0) (hlen : w1.length = w.length) (k : Ev M X r wf (pc + 3) lv (r1.toList ++ st) w1 nc ns) : Ev M X r wf pc lv (As.reverse ++ st) w nc ns := fun p l e s m args below meth c Q D dA b A ad0 C E H locs ad ls B hl => by
  obtain ⟨⟨c1, c2, c3, c4, c5⟩, c6, c7⟩ := hz
  have hsum : ((st.map (z_v b ad)).map fun v => v.category).sum ≤ 8 := by
    have h : (st.map (z_v b ad)).map (fun v => v.category) = st.map (fun v => v.category) := by
      rw [List.map_map]
      apply List.map_congr_left
      intro v _
      exact z_v_cat b ad v
    rw [h]
    exact hcat
  refine z_back (mc := M'.2.2.2.2.cells) (ms := M'.2.2.2.2.slots) (ad0 := ad0) (r1 := r1) (w1 := w1) (rest := st.map (z_v b ad)) (a := ((As).map (z_v b ad)).toArray) ?_ C.2.2.2.2.2.2.1 B (fun H1 locs1 ad' hp B' => ?_)
  · rcases c6 with c6 | ⟨host, c6⟩
    · exact va_runS (n := n) (As := As.map (z_v b ad)) (rest := st.map (z_v b ad)) ⟨C.1, C.2.1, C.2.2.1, C.2.2.2.2.1, C.2.2.2.1⟩ (hs l D dA b ad H.size B.1 B.2.1) ⟨callB_of n C.2.2.2.1 (z_goodIn c1) rfl rfl rfl (C.2.2.2.1 _ c2) (C.2.2.2.1 _ c6) ⟨c3, c4, c5⟩ hR.1, C.2.2.2.1 _ c7⟩ ⟨z_blind, z_pre (as := As) B C.2.2.2.2.2.2.2.2⟩ rfl (by rw [List.length_map]; exact hn) hl.1 (by rw [List.map_append, List.map_reverse] <;> rfl) (lv_room hsum) hd hR.2
    · exact va_runSN (n := n) (As := As.map (z_v b ad)) (rest := st.map (z_v b ad)) ⟨C.1, C.2.1, C.2.2.1, C.2.2.2.2.1, C.2.2.2.1⟩ (hs l D dA b ad H.size B.1 B.2.1) ⟨va_cnB n C.2.2.2.1 (z_goodIn c1) rfl rfl rfl (C.2.2.2.2.2.2.2.2.2.2 _ c6) (C.2.2.2.1 _ c2) ⟨c3, c4, c5⟩ hR.1, C.2.2.2.1 _ c7, trivial⟩ ⟨z_blind, z_pre (as := As) B C.2.2.2.2.2.2.2.2⟩ rfl (by rw [List.length_map]; exact hn) hl.1 (by rw [List.map_append, List.map_reverse] <;> rfl) (lv_room hsum) hd hR.2
  obtain ⟨ad2, rfl⟩ := hp
  have h0 : ad2 = [] := by
    have := B'.1
    rw [List.length_append, hlen, B.1] at this
    exact List.length_eq_zero_iff.mp (by omega)
  subst h0
  rw [List.append_nil] at B' ⊢
  have k1 := k p l e s m args below meth c Q D dA b A ad0 C E H1 locs1 ad ls B' hl
  have e9 : ((r1.map (z_v b ad)).toList ++ st.map (z_v b ad)) = (r1.toList ++ st).map (z_v b ad) := by
    cases r1 <;> simp
  rw [e9, h0.1, h0.2]
  exact k1
theorem ev_callI (M' : zM) (As : List Value) {n idx : Nat} {j : Nat}  {w1 : zW} (hs : Sp M' (.ref j :: As) w none w1) (hz : zI M.1.cls idx M' n) (hd : decode M.2.1 pc = .ok (.invokespecial idx, 3)) (hn : As.length = n) (hR : zRm M M' nc ns) (hcat : (st.map fun v => v.category).sum ≤ 8) (hlen : w1.length = w.length) (k : Ev M X r wf (pc + 3) lv (st) w1 (nc + M'.2.2.2.2.cells) (ns + M'.2.2.2.2.slots)) : Ev M X r wf pc lv (As.reverse ++ .ref j :: st) w nc ns := fun p l e s m args below meth c Q D dA b A ad0 C E H locs ad ls B hl => by
  obtain ⟨⟨c1, c2, c3, c4, c5⟩, c6, c7, c8, c9⟩ := hz
  have hsum : ((st.map (z_v b ad)).map fun v => v.category).sum ≤ 8 := by
    have h : (st.map (z_v b ad)).map (fun v => v.category) = st.map (fun v => v.category) := by
      rw [List.map_map]
      apply List.map_congr_left
      intro v _
      exact z_v_cat b ad v
    rw [h]
    exact hcat
  refine z_back (mc := M'.2.2.2.2.cells) (ms := M'.2.2.2.2.slots) (ad0 := ad0) (r1 := none) (w1 := w1) (rest := st.map (z_v b ad)) (a := ((.ref j :: As).map (z_v b ad)).toArray) ?_ C.2.2.2.2.2.2.1 B (fun H1 locs1 ad' hp B' => ?_)
  · rcases c6 with c6 | ⟨host, c6⟩
    · exact va_runI (n := n) (As := As.map (z_v b ad)) (rest := st.map (z_v b ad)) (b := ad.getD j b) ⟨C.1, C.2.1, C.2.2.1, C.2.2.2.2.1, C.2.2.2.1⟩ (hs l D dA b ad H.size B.1 B.2.1) ⟨(by rw [← c9]; exact callB_of n C.2.2.2.1 (z_goodIn c1) rfl rfl rfl (C.2.2.2.1 _ c2) (C.2.2.2.1 _ c6) ⟨c3, c4, c5⟩ hR.1), c8, C.2.2.2.1 _ c7⟩ ⟨z_blind, z_pre (as := .ref j :: As) B C.2.2.2.2.2.2.2.2⟩ rfl (by rw [List.length_map]; exact hn) hl.1 (by rw [List.map_append, List.map_reverse] <;> rfl) (lv_room hsum) hd hR.2
    · exact va_runIN (n := n) (As := As.map (z_v b ad)) (rest := st.map (z_v b ad)) (b := ad.getD j b) ⟨C.1, C.2.1, C.2.2.1, C.2.2.2.2.1, C.2.2.2.1⟩ (hs l D dA b ad H.size B.1 B.2.1) ⟨(by rw [← c9]; exact va_cnB n C.2.2.2.1 (z_goodIn c1) rfl rfl rfl (C.2.2.2.2.2.2.2.2.2.2 _ c6) (C.2.2.2.1 _ c2) ⟨c3, c4, c5⟩ hR.1), c8, C.2.2.2.1 _ c7⟩ ⟨z_blind, z_pre (as := .ref j :: As) B C.2.2.2.2.2.2.2.2⟩ rfl (by rw [List.length_map]; exact hn) hl.1 (by rw [List.map_append, List.map_reverse] <;> rfl) (lv_room hsum) hd hR.2
  obtain ⟨ad2, rfl⟩ := hp
  have h0 : ad2 = [] := by
    have := B'.1
    rw [List.length_append, hlen, B.1] at this
    exact List.length_eq_zero_iff.mp (by omega)
  subst h0
  rw [List.append_nil] at B' ⊢
  have k1 := k p l e s m args below meth c Q D dA b A ad0 C E H1 locs1 ad ls B' hl
  exact k1
theorem ev_callIG (M' : zM) (As : List Value) {n idx : Nat} {j : Nat}  {w1 : zW} (hs : Sp M' (.ref j :: As) w none w1) (hz : zI M.1.cls idx M' n) (hd : decode M.2.1 pc = .ok (.invokespecial idx, 3)) (hn : As.length = n) (hR : zRm M M' nc ns) (hcat : (st.map fun v => v.category).sum ≤ 8) (hlv : lv.all (fun q => z_ok w.length q.2) = true) (hst : st.all (z_ok w.length) = true) (k : Ev M X r wf (pc + 3) lv (st) w1 (nc + M'.2.2.2.2.cells) (ns + M'.2.2.2.2.slots)) : Ev M X r wf pc lv (As.reverse ++ .ref j :: st) w nc ns := fun p l e s m args below meth c Q D dA b A ad0 C E H locs ad ls B hl => by
  obtain ⟨⟨c1, c2, c3, c4, c5⟩, c6, c7, c8, c9⟩ := hz
  have hsum : ((st.map (z_v b ad)).map fun v => v.category).sum ≤ 8 := by
    have h : (st.map (z_v b ad)).map (fun v => v.category) = st.map (fun v => v.category) := by
      rw [List.map_map]
      apply List.map_congr_left
      intro v _
      exact z_v_cat b ad v
    rw [h]
    exact hcat
  refine z_back (mc := M'.2.2.2.2.cells) (ms := M'.2.2.2.2.slots) (ad0 := ad0) (r1 := none) (w1 := w1) (rest := st.map (z_v b ad)) (a := ((.ref j :: As).map (z_v b ad)).toArray) ?_ C.2.2.2.2.2.2.1 B (fun H1 locs1 ad' hp B' => ?_)
  · rcases c6 with c6 | ⟨host, c6⟩
    · exact va_runI (n := n) (As := As.map (z_v b ad)) (rest := st.map (z_v b ad)) (b := ad.getD j b) ⟨C.1, C.2.1, C.2.2.1, C.2.2.2.2.1, C.2.2.2.1⟩ (hs l D dA b ad H.size B.1 B.2.1) ⟨(by rw [← c9]; exact callB_of n C.2.2.2.1 (z_goodIn c1) rfl rfl rfl (C.2.2.2.1 _ c2) (C.2.2.2.1 _ c6) ⟨c3, c4, c5⟩ hR.1), c8, C.2.2.2.1 _ c7⟩ ⟨z_blind, z_pre (as := .ref j :: As) B C.2.2.2.2.2.2.2.2⟩ rfl (by rw [List.length_map]; exact hn) hl.1 (by rw [List.map_append, List.map_reverse] <;> rfl) (lv_room hsum) hd hR.2
    · exact va_runIN (n := n) (As := As.map (z_v b ad)) (rest := st.map (z_v b ad)) (b := ad.getD j b) ⟨C.1, C.2.1, C.2.2.1, C.2.2.2.2.1, C.2.2.2.1⟩ (hs l D dA b ad H.size B.1 B.2.1) ⟨(by rw [← c9]; exact va_cnB n C.2.2.2.1 (z_goodIn c1) rfl rfl rfl (C.2.2.2.2.2.2.2.2.2.2 _ c6) (C.2.2.2.1 _ c2) ⟨c3, c4, c5⟩ hR.1), c8, C.2.2.2.1 _ c7⟩ ⟨z_blind, z_pre (as := .ref j :: As) B C.2.2.2.2.2.2.2.2⟩ rfl (by rw [List.length_map]; exact hn) hl.1 (by rw [List.map_append, List.map_reverse] <;> rfl) (lv_room hsum) hd hR.2
  obtain ⟨ad2, rfl⟩ := hp
  have k1 := k p l e s m args below meth c Q D dA b A ad0 C E H1 locs1 (ad ++ ad2) ls B' (by
    have h : lv.map (fun x => (x.1, z_v b (ad ++ ad2) x.2)) = lv.map (fun q => (q.1, z_v b ad q.2)) := by
      apply List.map_congr_left
      intro x hx
      rw [z_over w.length B.1 B'.2.1 (List.all_eq_true.mp hlv x hx)]
    rw [h]
    exact hl)
  have hst' : st.map (z_v b (ad ++ ad2)) = st.map (z_v b ad) := by
    apply List.map_congr_left
    intro x hx
    rw [z_over w.length B.1 B'.2.1 (List.all_eq_true.mp hst x hx)]
  rw [hst'] at k1
  exact k1
theorem ev_objInit {idx j : Nat} (h1 : Cond.methodLink M.1.cls idx objectInit ∈ zG) (h2 : Cond.instanceMethod objectInit ∈ zG) (h3 : Cond.code objectInit ⟨#[0xb1]⟩ 1 none ∈ zG) (hd : decode M.2.1 pc = .ok (.invokespecial idx, 3)) (hf : 1 ≤ M.2.2.2.2.frames) (hlo : (st.map fun v => v.category).sum + 12 ≤ M.2.2.2.2.locals) (k : Ev M X r wf (pc + 3) lv st w nc ns) : Ev M X r wf pc lv (.ref j :: st) w nc ns := fun p l e s m args below meth c Q D dA b A ad0 C E H locs ad ls B hl => by
  have hsum : 2 * (F0 m pc ls ((Value.ref j :: st).map (z_v b ad))).monitorRoom + ((st.map (z_v b ad)).map fun v => v.category).sum + 12 ≤ M.2.2.2.2.locals := by
    have h : (st.map (z_v b ad)).map (fun v => v.category) = st.map (fun v => v.category) := by
      rw [List.map_map]
      apply List.map_congr_left
      intro v _
      exact z_v_cat b ad v
    rw [h]
    show 2 * 0 + _ + 12 ≤ _
    omega
  exact W.objInit C.1 C.2.1 C.2.2.2.2.1 (C.2.2.2.1 _ h1) (C.2.2.2.1 _ h2) (C.2.2.2.1 _ h3) rfl (by rw [C.2.2.1]; exact hl.1) (a := ad.getD j b) (rest := st.map (z_v b ad)) rfl hd hf hsum (k p l e s m args below meth c Q D dA b A ad0 C E H locs ad ls B hl)
theorem ev_mabs {idx : Nat} {x : Int32} (h1 : Cond.methodLink M.1.cls idx Lib.Math.abs.name ∈ zG) (h2 : Cond.static Lib.Math.abs.name ∈ zG) (h3 : Cond.initialized "java/lang/Math" ∈ zG) (h4 : Cond.code Lib.Math.abs.name Lib.Math.abs.code 1 (some .int) ∈ zG) (hd : decode M.2.1 pc = .ok (.invokestatic idx, 3)) (hf : 1 ≤ M.2.2.2.2.frames) (hlo : (st.map fun v => v.category).sum + 13 ≤ M.2.2.2.2.locals) (hc : nc ≤ M.2.2.2.2.cells) (hs : ns ≤ M.2.2.2.2.slots) (k : Ev M X r wf (pc + 3) lv (.int (if 0 ≤ x then x else 0 - x) :: st) w nc ns) : Ev M X r wf pc lv (.int x :: st) w nc ns := fun p l e s m args below meth c Q D dA b A ad0 C E H locs ad ls B hl => by
  have h : (st.map (z_v b ad)).map (fun v => v.category) = st.map (fun v => v.category) := by
    rw [List.map_map]
    apply List.map_congr_left
    intro v _
    exact z_v_cat b ad v
  exact va_mabs C.1 C.2.1 (C.2.2.1.trans hl.1.symm) C.2.2.2.2.1 (C.2.2.2.1 _ h1) (C.2.2.2.1 _ h2) (C.2.2.2.1 _ h3) (C.2.2.2.1 _ h4) hf (by rw [h]; exact hlo) hc hs hd (k p l e s m args below meth c Q D dA b A ad0 C E H locs ad ls B hl)
theorem ev_mmin {idx : Nat} {x y : Int32} (h1 : Cond.methodLink M.1.cls idx Lib.Math.min.name ∈ zG) (h2 : Cond.static Lib.Math.min.name ∈ zG) (h3 : Cond.initialized "java/lang/Math" ∈ zG) (h4 : Cond.code Lib.Math.min.name Lib.Math.min.code 2 (some .int) ∈ zG) (hd : decode M.2.1 pc = .ok (.invokestatic idx, 3)) (hf : 1 ≤ M.2.2.2.2.frames) (hlo : (st.map fun v => v.category).sum + 13 ≤ M.2.2.2.2.locals) (hc : nc ≤ M.2.2.2.2.cells) (hs : ns ≤ M.2.2.2.2.slots) (k : Ev M X r wf (pc + 3) lv (.int (if y < x then y else x) :: st) w nc ns) : Ev M X r wf pc lv (.int y :: .int x :: st) w nc ns := fun p l e s m args below meth c Q D dA b A ad0 C E H locs ad ls B hl => by
  have h : (st.map (z_v b ad)).map (fun v => v.category) = st.map (fun v => v.category) := by
    rw [List.map_map]
    apply List.map_congr_left
    intro v _
    exact z_v_cat b ad v
  exact va_mmin C.1 C.2.1 (C.2.2.1.trans hl.1.symm) C.2.2.2.2.1 (C.2.2.2.1 _ h1) (C.2.2.2.1 _ h2) (C.2.2.2.1 _ h3) (C.2.2.2.1 _ h4) hf (by rw [h]; exact hlo) hc hs hd (k p l e s m args below meth c Q D dA b A ad0 C E H locs ad ls B hl)
theorem ev_mmax {idx : Nat} {x y : Int32} (h1 : Cond.methodLink M.1.cls idx Lib.Math.max.name ∈ zG) (h2 : Cond.static Lib.Math.max.name ∈ zG) (h3 : Cond.initialized "java/lang/Math" ∈ zG) (h4 : Cond.code Lib.Math.max.name Lib.Math.max.code 2 (some .int) ∈ zG) (hd : decode M.2.1 pc = .ok (.invokestatic idx, 3)) (hf : 1 ≤ M.2.2.2.2.frames) (hlo : (st.map fun v => v.category).sum + 13 ≤ M.2.2.2.2.locals) (hc : nc ≤ M.2.2.2.2.cells) (hs : ns ≤ M.2.2.2.2.slots) (k : Ev M X r wf (pc + 3) lv (.int (if x < y then y else x) :: st) w nc ns) : Ev M X r wf pc lv (.int y :: .int x :: st) w nc ns := fun p l e s m args below meth c Q D dA b A ad0 C E H locs ad ls B hl => by
  have h : (st.map (z_v b ad)).map (fun v => v.category) = st.map (fun v => v.category) := by
    rw [List.map_map]
    apply List.map_congr_left
    intro v _
    exact z_v_cat b ad v
  exact va_mmax C.1 C.2.1 (C.2.2.1.trans hl.1.symm) C.2.2.2.2.1 (C.2.2.2.1 _ h1) (C.2.2.2.1 _ h2) (C.2.2.2.1 _ h3) (C.2.2.2.1 _ h4) hf (by rw [h]; exact hlo) hc hs hd (k p l e s m args below meth c Q D dA b A ad0 C E H locs ad ls B hl)
theorem ev_copyi {idx j0 j1 n0 n1 : Nat} {f g : Nat → Int32} {sp dp n : Int32} (h1 : Cond.methodLink M.1.cls idx arraycopyName ∈ zG) (h2 : Cond.native arraycopyName ∈ zG) (h3 : Cond.static arraycopyName ∈ zG) (h4 : Cond.initialized "java/lang/System" ∈ zG) (hd : decode M.2.1 pc = .ok (.invokestatic idx, 3)) (hj0 : w[j0]? = some (.inl (.int, n0, .inl f))) (hj1 : w[j1]? = some (.inl (.int, n1, .inl g))) (a1 : ¬ sp < 0) (a2 : ¬ dp < 0) (a3 : ¬ n < 0) (a4 : sp.toNatClampNeg + n.toNatClampNeg ≤ n0) (a5 : dp.toNatClampNeg + n.toNatClampNeg ≤ n1) (hf : 1 ≤ M.2.2.2.2.frames) (hlo : (st.map fun v => v.category).sum + (nativeFrameWords "java/lang/System" "arraycopy" 5 + 11) ≤ M.2.2.2.2.locals) (k : Ev M X r wf (pc + 3) lv st (w.set j1 (.inl (.int, n1, .inl (va_cpy f g sp.toNatClampNeg dp.toNatClampNeg n.toNatClampNeg)))) nc ns) : Ev M X r wf pc lv (.int n :: .int dp :: .ref j1 :: .int sp :: .ref j0 :: st) w nc ns := fun p l e s m args below meth c Q D dA b A ad0 C E H locs ad ls B hl => by
  have h : (st.map (z_v b ad)).map (fun v => v.category) = st.map (fun v => v.category) := by
    rw [List.map_map]
    apply List.map_congr_left
    intro v _
    exact z_v_cat b ad v
  refine va_copyi (t0 := 0) (t1 := 0) (ty := .int) C.1 C.2.1 (C.2.2.1.trans hl.1.symm) C.2.2.2.2.1 (C.2.2.2.1 _ h1) (C.2.2.2.1 _ h2) (C.2.2.2.1 _ h3) (C.2.2.2.1 _ h4) (z_K1.one C.2.2.2.2.2.2.2.2.1 B.2.2.2.2.2.1 hj0) B.2.2.2.1 B.2.2.2.2.1 B.2.2.2.2.2.2 j0 j1 (z_w_at B.1 hj0).2 (z_w_at B.1 hj1).2 rfl rfl rfl a1 a2 a3 a4 a5 (fun _ _ => rfl) hf (by rw [h]; exact hlo) hd (fun H1 locs1 hP hD hS => ?_)
  have e1 : (z_w b ad dA w).set j1 (ad.getD j1 b, .inl (dA .int, n1, .inl (va_cpy f g sp.toNatClampNeg dp.toNatClampNeg n.toNatClampNeg))) = z_w b ad dA (w.set j1 (.inl (.int, n1, .inl (va_cpy f g sp.toNatClampNeg dp.toNatClampNeg n.toNatClampNeg)))) := z_w_set (c := .inl (.int, n1, .inl (va_cpy f g sp.toNatClampNeg dp.toNatClampNeg n.toNatClampNeg))) B.1 hj1
  rw [e1] at hP hD
  exact k p l e s m args below meth c Q D dA b A ad0 C E H1 locs1 ad ls ⟨by rw [List.length_set]; exact B.1, B.2.1, B.2.2.1, hP, hD, z_K1.set B.2.2.2.2.2.1 (fun ty a h => by cases h; exact ⟨j1, _, hj1⟩), hS⟩ hl
theorem zs_self {w : zW} {j : Nat} {c0 c : zE} (h : w[j]? = some c0) : (w.set j c)[j]? = some c := by
  rw [List.getElem?_set_self (List.getElem?_eq_some_iff.mp h).1]
theorem zs_ne {w : zW} {i j : Nat} {c0 c : zE} (hn : i ≠ j) (h : w[j]? = some c0) : (w.set i c)[j]? = some c0 := by
  rw [List.getElem?_set_ne hn]
  exact h
end ZROWS
end
section
theorem l_R_0 : u_lay "LinkDiagram$ArcMatrix" T_R 0 ∈ zG := zG_mem (List.mem_append_right _ (List.mem_of_getElem? (i := 77) (by decide +kernel))) (by decide +kernel)
theorem l_R_1 : u_lay "LinkDiagram$ArcMatrix" T_R 1 ∈ zG := zG_mem (List.mem_append_right _ (List.mem_of_getElem? (i := 79) (by decide +kernel))) (by decide +kernel)
theorem l_R_2 : u_lay "LinkDiagram$ArcMatrix" T_R 2 ∈ zG := zG_mem (List.mem_append_right _ (List.mem_of_getElem? (i := 81) (by decide +kernel))) (by decide +kernel)
theorem l_R_3 : u_lay "LinkDiagram$ArcMatrix" T_R 3 ∈ zG := zG_mem (List.mem_append_right _ (List.mem_of_getElem? (i := 83) (by decide +kernel))) (by decide +kernel)
theorem l_R_4 : u_lay "LinkDiagram$ArcMatrix" T_R 4 ∈ zG := zG_mem (List.mem_append_right _ (List.mem_of_getElem? (i := 85) (by decide +kernel))) (by decide +kernel)
theorem uw_R : ∀ w ∈ u_ws "LinkDiagram$ArcMatrix" T_R 5, w ∈ zG := by
  intro w hw
  obtain ⟨k, hk, rfl⟩ := List.mem_map.mp hw
  have hk := List.mem_range.mp hk
  match k, hk with
  | 0, _ => exact l_R_0
  | 1, _ => exact l_R_1
  | 2, _ => exact l_R_2
  | 3, _ => exact l_R_3
  | 4, _ => exact l_R_4
theorem l_B_0 : u_lay "LinkDiagram$Bracket" T_B 0 ∈ zG := zG_mem (List.mem_append_right _ (List.mem_of_getElem? (i := 58) (by decide +kernel))) (by decide +kernel)
theorem l_B_1 : u_lay "LinkDiagram$Bracket" T_B 1 ∈ zG := zG_mem (List.mem_append_right _ (List.mem_of_getElem? (i := 60) (by decide +kernel))) (by decide +kernel)
theorem l_B_2 : u_lay "LinkDiagram$Bracket" T_B 2 ∈ zG := zG_mem (List.mem_append_right _ (List.mem_of_getElem? (i := 62) (by decide +kernel))) (by decide +kernel)
theorem uw_B : ∀ w ∈ u_ws "LinkDiagram$Bracket" T_B 3, w ∈ zG := by
  intro w hw
  obtain ⟨k, hk, rfl⟩ := List.mem_map.mp hw
  have hk := List.mem_range.mp hk
  match k, hk with
  | 0, _ => exact l_B_0
  | 1, _ => exact l_B_1
  | 2, _ => exact l_B_2
theorem l_C_0 : u_lay "LinkDiagram$Crossings" T_C 0 ∈ zG := zG_mem (List.mem_append_right _ (List.mem_of_getElem? (i := 28) (by decide +kernel))) (by decide +kernel)
theorem l_C_1 : u_lay "LinkDiagram$Crossings" T_C 1 ∈ zG := zG_mem (List.mem_append_right _ (List.mem_of_getElem? (i := 30) (by decide +kernel))) (by decide +kernel)
theorem l_C_2 : u_lay "LinkDiagram$Crossings" T_C 2 ∈ zG := zG_mem (List.mem_append_right _ (List.mem_of_getElem? (i := 32) (by decide +kernel))) (by decide +kernel)
theorem uw_C : ∀ w ∈ u_ws "LinkDiagram$Crossings" T_C 3, w ∈ zG := by
  intro w hw
  obtain ⟨k, hk, rfl⟩ := List.mem_map.mp hw
  have hk := List.mem_range.mp hk
  match k, hk with
  | 0, _ => exact l_C_0
  | 1, _ => exact l_C_1
  | 2, _ => exact l_C_2
theorem l_S_0 : u_lay "LinkDiagram$Shape" T_S 0 ∈ zG := zG_mem (List.mem_append_right _ (List.mem_of_getElem? (i := 44) (by decide +kernel))) (by decide +kernel)
theorem l_S_1 : u_lay "LinkDiagram$Shape" T_S 1 ∈ zG := zG_mem (List.mem_append_right _ (List.mem_of_getElem? (i := 46) (by decide +kernel))) (by decide +kernel)
theorem uw_S : ∀ w ∈ u_ws "LinkDiagram$Shape" T_S 2, w ∈ zG := by
  intro w hw
  obtain ⟨k, hk, rfl⟩ := List.mem_map.mp hw
  have hk := List.mem_range.mp hk
  match k, hk with
  | 0, _ => exact l_S_0
  | 1, _ => exact l_S_1
theorem l_A_0 : u_lay "LinkDiagram" T_A 0 ∈ zG := zG_mem (List.mem_append_right _ (List.mem_of_getElem? (i := 98) (by decide +kernel))) (by decide +kernel)
theorem l_A_1 : u_lay "LinkDiagram" T_A 1 ∈ zG := zG_mem (List.mem_append_right _ (List.mem_of_getElem? (i := 100) (by decide +kernel))) (by decide +kernel)
theorem l_A_2 : u_lay "LinkDiagram" T_A 2 ∈ zG := zG_mem (List.mem_append_right _ (List.mem_of_getElem? (i := 102) (by decide +kernel))) (by decide +kernel)
theorem l_A_3 : u_lay "LinkDiagram" T_A 3 ∈ zG := zG_mem (List.mem_append_right _ (List.mem_of_getElem? (i := 104) (by decide +kernel))) (by decide +kernel)
theorem l_A_4 : u_lay "LinkDiagram" T_A 4 ∈ zG := zG_mem (List.mem_append_right _ (List.mem_of_getElem? (i := 106) (by decide +kernel))) (by decide +kernel)
theorem l_A_5 : u_lay "LinkDiagram" T_A 5 ∈ zG := zG_mem (List.mem_append_right _ (List.mem_of_getElem? (i := 108) (by decide +kernel))) (by decide +kernel)
theorem l_A_6 : u_lay "LinkDiagram" T_A 6 ∈ zG := zG_mem (List.mem_append_right _ (List.mem_of_getElem? (i := 110) (by decide +kernel))) (by decide +kernel)
theorem l_A_7 : u_lay "LinkDiagram" T_A 7 ∈ zG := zG_mem (List.mem_append_right _ (List.mem_of_getElem? (i := 112) (by decide +kernel))) (by decide +kernel)
theorem l_A_8 : u_lay "LinkDiagram" T_A 8 ∈ zG := zG_mem (List.mem_append_right _ (List.mem_of_getElem? (i := 114) (by decide +kernel))) (by decide +kernel)
theorem l_A_9 : u_lay "LinkDiagram" T_A 9 ∈ zG := zG_mem (List.mem_append_right _ (List.mem_of_getElem? (i := 116) (by decide +kernel))) (by decide +kernel)
theorem uw_A : ∀ w ∈ u_ws "LinkDiagram" T_A 10, w ∈ zG := by
  intro w hw
  obtain ⟨k, hk, rfl⟩ := List.mem_map.mp hw
  have hk := List.mem_range.mp hk
  match k, hk with
  | 0, _ => exact l_A_0
  | 1, _ => exact l_A_1
  | 2, _ => exact l_A_2
  | 3, _ => exact l_A_3
  | 4, _ => exact l_A_4
  | 5, _ => exact l_A_5
  | 6, _ => exact l_A_6
  | 7, _ => exact l_A_7
  | 8, _ => exact l_A_8
  | 9, _ => exact l_A_9
theorem l_M_0 : u_lay "LinkDiagramModel" T_M 0 ∈ zG := zG_mem (List.mem_append_right _ (List.mem_of_getElem? (i := 520) (by decide +kernel))) (by decide +kernel)
theorem l_M_1 : u_lay "LinkDiagramModel" T_M 1 ∈ zG := zG_mem (List.mem_append_right _ (List.mem_of_getElem? (i := 522) (by decide +kernel))) (by decide +kernel)
theorem l_M_2 : u_lay "LinkDiagramModel" T_M 2 ∈ zG := zG_mem (List.mem_append_right _ (List.mem_of_getElem? (i := 524) (by decide +kernel))) (by decide +kernel)
theorem l_M_3 : u_lay "LinkDiagramModel" T_M 3 ∈ zG := zG_mem (List.mem_append_right _ (List.mem_of_getElem? (i := 526) (by decide +kernel))) (by decide +kernel)
theorem l_M_4 : u_lay "LinkDiagramModel" T_M 4 ∈ zG := zG_mem (List.mem_append_right _ (List.mem_of_getElem? (i := 528) (by decide +kernel))) (by decide +kernel)
theorem l_M_5 : u_lay "LinkDiagramModel" T_M 5 ∈ zG := zG_mem (List.mem_append_right _ (List.mem_of_getElem? (i := 530) (by decide +kernel))) (by decide +kernel)
theorem l_M_6 : u_lay "LinkDiagramModel" T_M 6 ∈ zG := zG_mem (List.mem_append_right _ (List.mem_of_getElem? (i := 532) (by decide +kernel))) (by decide +kernel)
theorem l_M_7 : u_lay "LinkDiagramModel" T_M 7 ∈ zG := zG_mem (List.mem_append_right _ (List.mem_of_getElem? (i := 534) (by decide +kernel))) (by decide +kernel)
theorem l_M_8 : u_lay "LinkDiagramModel" T_M 8 ∈ zG := zG_mem (List.mem_append_right _ (List.mem_of_getElem? (i := 536) (by decide +kernel))) (by decide +kernel)
theorem l_M_9 : u_lay "LinkDiagramModel" T_M 9 ∈ zG := zG_mem (List.mem_append_right _ (List.mem_of_getElem? (i := 538) (by decide +kernel))) (by decide +kernel)
theorem l_M_10 : u_lay "LinkDiagramModel" T_M 10 ∈ zG := zG_mem (List.mem_append_right _ (List.mem_of_getElem? (i := 540) (by decide +kernel))) (by decide +kernel)
theorem l_M_11 : u_lay "LinkDiagramModel" T_M 11 ∈ zG := zG_mem (List.mem_append_right _ (List.mem_of_getElem? (i := 542) (by decide +kernel))) (by decide +kernel)
theorem l_M_12 : u_lay "LinkDiagramModel" T_M 12 ∈ zG := zG_mem (List.mem_append_right _ (List.mem_of_getElem? (i := 544) (by decide +kernel))) (by decide +kernel)
theorem l_M_13 : u_lay "LinkDiagramModel" T_M 13 ∈ zG := zG_mem (List.mem_append_right _ (List.mem_of_getElem? (i := 546) (by decide +kernel))) (by decide +kernel)
theorem l_M_14 : u_lay "LinkDiagramModel" T_M 14 ∈ zG := zG_mem (List.mem_append_right _ (List.mem_of_getElem? (i := 548) (by decide +kernel))) (by decide +kernel)
theorem l_M_15 : u_lay "LinkDiagramModel" T_M 15 ∈ zG := zG_mem (List.mem_append_right _ (List.mem_of_getElem? (i := 550) (by decide +kernel))) (by decide +kernel)
theorem l_M_16 : u_lay "LinkDiagramModel" T_M 16 ∈ zG := zG_mem (List.mem_append_right _ (List.mem_of_getElem? (i := 552) (by decide +kernel))) (by decide +kernel)
theorem l_M_17 : u_lay "LinkDiagramModel" T_M 17 ∈ zG := zG_mem (List.mem_append_right _ (List.mem_of_getElem? (i := 554) (by decide +kernel))) (by decide +kernel)
theorem l_M_18 : u_lay "LinkDiagramModel" T_M 18 ∈ zG := zG_mem (List.mem_append_right _ (List.mem_of_getElem? (i := 556) (by decide +kernel))) (by decide +kernel)
theorem uw_M : ∀ w ∈ u_ws "LinkDiagramModel" T_M 19, w ∈ zG := by
  intro w hw
  obtain ⟨k, hk, rfl⟩ := List.mem_map.mp hw
  have hk := List.mem_range.mp hk
  match k, hk with
  | 0, _ => exact l_M_0
  | 1, _ => exact l_M_1
  | 2, _ => exact l_M_2
  | 3, _ => exact l_M_3
  | 4, _ => exact l_M_4
  | 5, _ => exact l_M_5
  | 6, _ => exact l_M_6
  | 7, _ => exact l_M_7
  | 8, _ => exact l_M_8
  | 9, _ => exact l_M_9
  | 10, _ => exact l_M_10
  | 11, _ => exact l_M_11
  | 12, _ => exact l_M_12
  | 13, _ => exact l_M_13
  | 14, _ => exact l_M_14
  | 15, _ => exact l_M_15
  | 16, _ => exact l_M_16
  | 17, _ => exact l_M_17
  | 18, _ => exact l_M_18
  | k + 19, h => exact absurd h (by omega)
theorem n_L_7 : zNew "LinkDiagramLaw" 7 4 [.null, .null, .null, .null, .null, .null, .null, .null, .int 0, .int 0] := ⟨"LinkDiagram", T_A, t_A, rfl, uw_A, ty_A, zG_mem (List.mem_append_right _ (List.mem_of_getElem? (i := 11) (by decide +kernel))) (by decide +kernel), zG_mem (List.mem_append_right _ (List.mem_of_getElem? (i := 12) (by decide +kernel))) (by decide +kernel), zG_mem (List.mem_append_right _ (List.mem_of_getElem? (i := 1) (by decide +kernel))) (by decide +kernel), by decide +kernel⟩
theorem n_A_7 : zNew "LinkDiagram" 7 2 [.null, .null, .int 0] := ⟨"LinkDiagram$Crossings", T_C, t_C, rfl, uw_C, ty_C, zG_mem (List.mem_append_right _ (List.mem_of_getElem? (i := 19) (by decide +kernel))) (by decide +kernel), zG_mem (List.mem_append_right _ (List.mem_of_getElem? (i := 20) (by decide +kernel))) (by decide +kernel), zG_mem (List.mem_append_right _ (List.mem_of_getElem? (i := 2) (by decide +kernel))) (by decide +kernel), by decide +kernel⟩
theorem f_C_9 : zF "LinkDiagram$Crossings" 9 2 0 := ⟨"LinkDiagram$Crossings", T_C, 3, rfl, by decide, zG_mem (List.mem_append_right _ (List.mem_of_getElem? (i := 25) (by decide +kernel))) (by decide +kernel), uw_C⟩
theorem p_C_9 : zFp "LinkDiagram$Crossings" 9 2 0 true (.array .int) := ⟨"LinkDiagram$Crossings", T_C, 3, t_C, rfl, by decide, zG_mem (List.mem_append_right _ (List.mem_of_getElem? (i := 25) (by decide +kernel))) (by decide +kernel), uw_C, ty_C, nm_C, rfl, rfl, by decide +kernel⟩
theorem f_C_15 : zF "LinkDiagram$Crossings" 15 2 1 := ⟨"LinkDiagram$Crossings", T_C, 3, rfl, by decide, zG_mem (List.mem_append_right _ (List.mem_of_getElem? (i := 26) (by decide +kernel))) (by decide +kernel), uw_C⟩
theorem p_C_15 : zFp "LinkDiagram$Crossings" 15 2 1 true (.array .int) := ⟨"LinkDiagram$Crossings", T_C, 3, t_C, rfl, by decide, zG_mem (List.mem_append_right _ (List.mem_of_getElem? (i := 26) (by decide +kernel))) (by decide +kernel), uw_C, ty_C, nm_C, rfl, rfl, by decide +kernel⟩
theorem f_C_18 : zF "LinkDiagram$Crossings" 18 2 2 := ⟨"LinkDiagram$Crossings", T_C, 3, rfl, by decide, zG_mem (List.mem_append_right _ (List.mem_of_getElem? (i := 27) (by decide +kernel))) (by decide +kernel), uw_C⟩
theorem p_C_18 : zFp "LinkDiagram$Crossings" 18 2 2 false (.int) := ⟨"LinkDiagram$Crossings", T_C, 3, t_C, rfl, by decide, zG_mem (List.mem_append_right _ (List.mem_of_getElem? (i := 27) (by decide +kernel))) (by decide +kernel), uw_C, ty_C, nm_C, rfl, rfl, by decide +kernel⟩
theorem n_A_22 : zNew "LinkDiagram" 22 3 [.null, .null] := ⟨"LinkDiagram$Shape", T_S, t_S, rfl, uw_S, ty_S, zG_mem (List.mem_append_right _ (List.mem_of_getElem? (i := 36) (by decide +kernel))) (by decide +kernel), zG_mem (List.mem_append_right _ (List.mem_of_getElem? (i := 37) (by decide +kernel))) (by decide +kernel), zG_mem (List.mem_append_right _ (List.mem_of_getElem? (i := 3) (by decide +kernel))) (by decide +kernel), by decide +kernel⟩
theorem f_S_9 : zF "LinkDiagram$Shape" 9 3 0 := ⟨"LinkDiagram$Shape", T_S, 2, rfl, by decide, zG_mem (List.mem_append_right _ (List.mem_of_getElem? (i := 42) (by decide +kernel))) (by decide +kernel), uw_S⟩
theorem p_S_9 : zFp "LinkDiagram$Shape" 9 3 0 true (.array .int) := ⟨"LinkDiagram$Shape", T_S, 2, t_S, rfl, by decide, zG_mem (List.mem_append_right _ (List.mem_of_getElem? (i := 42) (by decide +kernel))) (by decide +kernel), uw_S, ty_S, nm_S, rfl, rfl, by decide +kernel⟩
theorem f_S_15 : zF "LinkDiagram$Shape" 15 3 1 := ⟨"LinkDiagram$Shape", T_S, 2, rfl, by decide, zG_mem (List.mem_append_right _ (List.mem_of_getElem? (i := 43) (by decide +kernel))) (by decide +kernel), uw_S⟩
theorem p_S_15 : zFp "LinkDiagram$Shape" 15 3 1 true (.array .int) := ⟨"LinkDiagram$Shape", T_S, 2, t_S, rfl, by decide, zG_mem (List.mem_append_right _ (List.mem_of_getElem? (i := 43) (by decide +kernel))) (by decide +kernel), uw_S, ty_S, nm_S, rfl, rfl, by decide +kernel⟩
theorem n_A_29 : zNew "LinkDiagram" 29 1 [.null, .null, .null] := ⟨"LinkDiagram$Bracket", T_B, t_B, rfl, uw_B, ty_B, zG_mem (List.mem_append_right _ (List.mem_of_getElem? (i := 49) (by decide +kernel))) (by decide +kernel), zG_mem (List.mem_append_right _ (List.mem_of_getElem? (i := 50) (by decide +kernel))) (by decide +kernel), zG_mem (List.mem_append_right _ (List.mem_of_getElem? (i := 4) (by decide +kernel))) (by decide +kernel), by decide +kernel⟩
theorem f_B_11 : zF "LinkDiagram$Bracket" 11 1 0 := ⟨"LinkDiagram$Bracket", T_B, 3, rfl, by decide, zG_mem (List.mem_append_right _ (List.mem_of_getElem? (i := 55) (by decide +kernel))) (by decide +kernel), uw_B⟩
theorem p_B_11 : zFp "LinkDiagram$Bracket" 11 1 0 true (.array .int) := ⟨"LinkDiagram$Bracket", T_B, 3, t_B, rfl, by decide, zG_mem (List.mem_append_right _ (List.mem_of_getElem? (i := 55) (by decide +kernel))) (by decide +kernel), uw_B, ty_B, nm_B, rfl, rfl, by decide +kernel⟩
theorem f_B_15 : zF "LinkDiagram$Bracket" 15 1 1 := ⟨"LinkDiagram$Bracket", T_B, 3, rfl, by decide, zG_mem (List.mem_append_right _ (List.mem_of_getElem? (i := 56) (by decide +kernel))) (by decide +kernel), uw_B⟩
theorem p_B_15 : zFp "LinkDiagram$Bracket" 15 1 1 true (.array .int) := ⟨"LinkDiagram$Bracket", T_B, 3, t_B, rfl, by decide, zG_mem (List.mem_append_right _ (List.mem_of_getElem? (i := 56) (by decide +kernel))) (by decide +kernel), uw_B, ty_B, nm_B, rfl, rfl, by decide +kernel⟩
theorem f_B_18 : zF "LinkDiagram$Bracket" 18 1 2 := ⟨"LinkDiagram$Bracket", T_B, 3, rfl, by decide, zG_mem (List.mem_append_right _ (List.mem_of_getElem? (i := 57) (by decide +kernel))) (by decide +kernel), uw_B⟩
theorem p_B_18 : zFp "LinkDiagram$Bracket" 18 1 2 true (.array .long) := ⟨"LinkDiagram$Bracket", T_B, 3, t_B, rfl, by decide, zG_mem (List.mem_append_right _ (List.mem_of_getElem? (i := 57) (by decide +kernel))) (by decide +kernel), uw_B, ty_B, nm_B, rfl, rfl, by decide +kernel⟩
theorem n_A_36 : zNew "LinkDiagram" 36 0 [.null, .null, .null, .null, .null] := ⟨"LinkDiagram$ArcMatrix", T_R, t_R, rfl, uw_R, ty_R, zG_mem (List.mem_append_right _ (List.mem_of_getElem? (i := 66) (by decide +kernel))) (by decide +kernel), zG_mem (List.mem_append_right _ (List.mem_of_getElem? (i := 67) (by decide +kernel))) (by decide +kernel), zG_mem (List.mem_append_right _ (List.mem_of_getElem? (i := 5) (by decide +kernel))) (by decide +kernel), by decide +kernel⟩
theorem f_R_11 : zF "LinkDiagram$ArcMatrix" 11 0 0 := ⟨"LinkDiagram$ArcMatrix", T_R, 5, rfl, by decide, zG_mem (List.mem_append_right _ (List.mem_of_getElem? (i := 72) (by decide +kernel))) (by decide +kernel), uw_R⟩
theorem p_R_11 : zFp "LinkDiagram$ArcMatrix" 11 0 0 true (.array .int) := ⟨"LinkDiagram$ArcMatrix", T_R, 5, t_R, rfl, by decide, zG_mem (List.mem_append_right _ (List.mem_of_getElem? (i := 72) (by decide +kernel))) (by decide +kernel), uw_R, ty_R, nm_R, rfl, rfl, by decide +kernel⟩
theorem f_R_15 : zF "LinkDiagram$ArcMatrix" 15 0 1 := ⟨"LinkDiagram$ArcMatrix", T_R, 5, rfl, by decide, zG_mem (List.mem_append_right _ (List.mem_of_getElem? (i := 73) (by decide +kernel))) (by decide +kernel), uw_R⟩
theorem p_R_15 : zFp "LinkDiagram$ArcMatrix" 15 0 1 true (.array .int) := ⟨"LinkDiagram$ArcMatrix", T_R, 5, t_R, rfl, by decide, zG_mem (List.mem_append_right _ (List.mem_of_getElem? (i := 73) (by decide +kernel))) (by decide +kernel), uw_R, ty_R, nm_R, rfl, rfl, by decide +kernel⟩
theorem f_R_18 : zF "LinkDiagram$ArcMatrix" 18 0 2 := ⟨"LinkDiagram$ArcMatrix", T_R, 5, rfl, by decide, zG_mem (List.mem_append_right _ (List.mem_of_getElem? (i := 74) (by decide +kernel))) (by decide +kernel), uw_R⟩
theorem p_R_18 : zFp "LinkDiagram$ArcMatrix" 18 0 2 true (.array .int) := ⟨"LinkDiagram$ArcMatrix", T_R, 5, t_R, rfl, by decide, zG_mem (List.mem_append_right _ (List.mem_of_getElem? (i := 74) (by decide +kernel))) (by decide +kernel), uw_R, ty_R, nm_R, rfl, rfl, by decide +kernel⟩
theorem f_R_21 : zF "LinkDiagram$ArcMatrix" 21 0 3 := ⟨"LinkDiagram$ArcMatrix", T_R, 5, rfl, by decide, zG_mem (List.mem_append_right _ (List.mem_of_getElem? (i := 75) (by decide +kernel))) (by decide +kernel), uw_R⟩
theorem p_R_21 : zFp "LinkDiagram$ArcMatrix" 21 0 3 true (.array .int) := ⟨"LinkDiagram$ArcMatrix", T_R, 5, t_R, rfl, by decide, zG_mem (List.mem_append_right _ (List.mem_of_getElem? (i := 75) (by decide +kernel))) (by decide +kernel), uw_R, ty_R, nm_R, rfl, rfl, by decide +kernel⟩
theorem f_R_24 : zF "LinkDiagram$ArcMatrix" 24 0 4 := ⟨"LinkDiagram$ArcMatrix", T_R, 5, rfl, by decide, zG_mem (List.mem_append_right _ (List.mem_of_getElem? (i := 76) (by decide +kernel))) (by decide +kernel), uw_R⟩
theorem p_R_24 : zFp "LinkDiagram$ArcMatrix" 24 0 4 true (.array .long) := ⟨"LinkDiagram$ArcMatrix", T_R, 5, t_R, rfl, by decide, zG_mem (List.mem_append_right _ (List.mem_of_getElem? (i := 76) (by decide +kernel))) (by decide +kernel), uw_R, ty_R, nm_R, rfl, rfl, by decide +kernel⟩
theorem f_A_10 : zF "LinkDiagram" 10 4 0 := ⟨"LinkDiagram", T_A, 10, rfl, by decide, zG_mem (List.mem_append_right _ (List.mem_of_getElem? (i := 88) (by decide +kernel))) (by decide +kernel), uw_A⟩
theorem p_A_10 : zFp "LinkDiagram" 10 4 0 true (.object "LinkDiagram$Crossings") := ⟨"LinkDiagram", T_A, 10, t_A, rfl, by decide, zG_mem (List.mem_append_right _ (List.mem_of_getElem? (i := 88) (by decide +kernel))) (by decide +kernel), uw_A, ty_A, nm_A, rfl, rfl, by decide +kernel⟩
theorem f_A_16 : zF "LinkDiagram" 16 4 1 := ⟨"LinkDiagram", T_A, 10, rfl, by decide, zG_mem (List.mem_append_right _ (List.mem_of_getElem? (i := 89) (by decide +kernel))) (by decide +kernel), uw_A⟩
theorem p_A_16 : zFp "LinkDiagram" 16 4 1 true (.object "LinkDiagram$Crossings") := ⟨"LinkDiagram", T_A, 10, t_A, rfl, by decide, zG_mem (List.mem_append_right _ (List.mem_of_getElem? (i := 89) (by decide +kernel))) (by decide +kernel), uw_A, ty_A, nm_A, rfl, rfl, by decide +kernel⟩
theorem f_A_19 : zF "LinkDiagram" 19 4 2 := ⟨"LinkDiagram", T_A, 10, rfl, by decide, zG_mem (List.mem_append_right _ (List.mem_of_getElem? (i := 90) (by decide +kernel))) (by decide +kernel), uw_A⟩
theorem p_A_19 : zFp "LinkDiagram" 19 4 2 true (.object "LinkDiagram$Crossings") := ⟨"LinkDiagram", T_A, 10, t_A, rfl, by decide, zG_mem (List.mem_append_right _ (List.mem_of_getElem? (i := 90) (by decide +kernel))) (by decide +kernel), uw_A, ty_A, nm_A, rfl, rfl, by decide +kernel⟩
theorem f_A_25 : zF "LinkDiagram" 25 4 3 := ⟨"LinkDiagram", T_A, 10, rfl, by decide, zG_mem (List.mem_append_right _ (List.mem_of_getElem? (i := 91) (by decide +kernel))) (by decide +kernel), uw_A⟩
theorem p_A_25 : zFp "LinkDiagram" 25 4 3 true (.object "LinkDiagram$Shape") := ⟨"LinkDiagram", T_A, 10, t_A, rfl, by decide, zG_mem (List.mem_append_right _ (List.mem_of_getElem? (i := 91) (by decide +kernel))) (by decide +kernel), uw_A, ty_A, nm_A, rfl, rfl, by decide +kernel⟩
theorem f_A_32 : zF "LinkDiagram" 32 4 4 := ⟨"LinkDiagram", T_A, 10, rfl, by decide, zG_mem (List.mem_append_right _ (List.mem_of_getElem? (i := 92) (by decide +kernel))) (by decide +kernel), uw_A⟩
theorem p_A_32 : zFp "LinkDiagram" 32 4 4 true (.object "LinkDiagram$Bracket") := ⟨"LinkDiagram", T_A, 10, t_A, rfl, by decide, zG_mem (List.mem_append_right _ (List.mem_of_getElem? (i := 92) (by decide +kernel))) (by decide +kernel), uw_A, ty_A, nm_A, rfl, rfl, by decide +kernel⟩
theorem f_A_39 : zF "LinkDiagram" 39 4 5 := ⟨"LinkDiagram", T_A, 10, rfl, by decide, zG_mem (List.mem_append_right _ (List.mem_of_getElem? (i := 93) (by decide +kernel))) (by decide +kernel), uw_A⟩
theorem p_A_39 : zFp "LinkDiagram" 39 4 5 true (.object "LinkDiagram$ArcMatrix") := ⟨"LinkDiagram", T_A, 10, t_A, rfl, by decide, zG_mem (List.mem_append_right _ (List.mem_of_getElem? (i := 93) (by decide +kernel))) (by decide +kernel), uw_A, ty_A, nm_A, rfl, rfl, by decide +kernel⟩
theorem f_A_43 : zF "LinkDiagram" 43 4 6 := ⟨"LinkDiagram", T_A, 10, rfl, by decide, zG_mem (List.mem_append_right _ (List.mem_of_getElem? (i := 94) (by decide +kernel))) (by decide +kernel), uw_A⟩
theorem p_A_43 : zFp "LinkDiagram" 43 4 6 true (.array .int) := ⟨"LinkDiagram", T_A, 10, t_A, rfl, by decide, zG_mem (List.mem_append_right _ (List.mem_of_getElem? (i := 94) (by decide +kernel))) (by decide +kernel), uw_A, ty_A, nm_A, rfl, rfl, by decide +kernel⟩
theorem f_A_47 : zF "LinkDiagram" 47 4 7 := ⟨"LinkDiagram", T_A, 10, rfl, by decide, zG_mem (List.mem_append_right _ (List.mem_of_getElem? (i := 95) (by decide +kernel))) (by decide +kernel), uw_A⟩
theorem p_A_47 : zFp "LinkDiagram" 47 4 7 true (.array .int) := ⟨"LinkDiagram", T_A, 10, t_A, rfl, by decide, zG_mem (List.mem_append_right _ (List.mem_of_getElem? (i := 95) (by decide +kernel))) (by decide +kernel), uw_A, ty_A, nm_A, rfl, rfl, by decide +kernel⟩
theorem f_A_50 : zF "LinkDiagram" 50 4 8 := ⟨"LinkDiagram", T_A, 10, rfl, by decide, zG_mem (List.mem_append_right _ (List.mem_of_getElem? (i := 96) (by decide +kernel))) (by decide +kernel), uw_A⟩
theorem p_A_50 : zFp "LinkDiagram" 50 4 8 false (.int) := ⟨"LinkDiagram", T_A, 10, t_A, rfl, by decide, zG_mem (List.mem_append_right _ (List.mem_of_getElem? (i := 96) (by decide +kernel))) (by decide +kernel), uw_A, ty_A, nm_A, rfl, rfl, by decide +kernel⟩
theorem f_A_54 : zF "LinkDiagram" 54 4 9 := ⟨"LinkDiagram", T_A, 10, rfl, by decide, zG_mem (List.mem_append_right _ (List.mem_of_getElem? (i := 97) (by decide +kernel))) (by decide +kernel), uw_A⟩
theorem p_A_54 : zFp "LinkDiagram" 54 4 9 false (.int) := ⟨"LinkDiagram", T_A, 10, t_A, rfl, by decide, zG_mem (List.mem_append_right _ (List.mem_of_getElem? (i := 97) (by decide +kernel))) (by decide +kernel), uw_A, ty_A, nm_A, rfl, rfl, by decide +kernel⟩
theorem k_A_132 : Cond.constantLong "LinkDiagram" 132 (3) ∈ zG := zG_mem (List.mem_append_right _ (List.mem_of_getElem? (i := 293) (by decide +kernel))) (by decide +kernel)
theorem k_B_22 : Cond.constantLong "LinkDiagram$Bracket" 22 (-62) ∈ zG := zG_mem (List.mem_append_right _ (List.mem_of_getElem? (i := 298) (by decide +kernel))) (by decide +kernel)
theorem k_B_24 : Cond.constantLong "LinkDiagram$Bracket" 24 (62) ∈ zG := zG_mem (List.mem_append_right _ (List.mem_of_getElem? (i := 299) (by decide +kernel))) (by decide +kernel)
theorem k_I_265 : Cond.constant "java/lang/Integer" 265 (1431655765) ∈ zG := zG_mem (List.mem_append_right _ (List.mem_of_getElem? (i := 320) (by decide +kernel))) (by decide +kernel)
theorem k_I_266 : Cond.constant "java/lang/Integer" 266 (858993459) ∈ zG := zG_mem (List.mem_append_right _ (List.mem_of_getElem? (i := 321) (by decide +kernel))) (by decide +kernel)
theorem k_I_267 : Cond.constant "java/lang/Integer" 267 (252645135) ∈ zG := zG_mem (List.mem_append_right _ (List.mem_of_getElem? (i := 322) (by decide +kernel))) (by decide +kernel)
theorem k_A_138 : Cond.constantLong "LinkDiagram" 138 (2) ∈ zG := zG_mem (List.mem_append_right _ (List.mem_of_getElem? (i := 334) (by decide +kernel))) (by decide +kernel)
theorem n_L_10 : zNew "LinkDiagramLaw" 10 5 [.null, .null, .int 0, .int 0, .int 0, .null, .int 0, .int 0, .int 0, .null, .null, .null, .null, .null, .int 0, .null, .null, .null, .null] := ⟨"LinkDiagramModel", T_M, t_M, rfl, uw_M, ty_M, zG_mem (List.mem_append_right _ (List.mem_of_getElem? (i := 495) (by decide +kernel))) (by decide +kernel), zG_mem (List.mem_append_right _ (List.mem_of_getElem? (i := 496) (by decide +kernel))) (by decide +kernel), zG_mem (List.mem_append_right _ (List.mem_of_getElem? (i := 6) (by decide +kernel))) (by decide +kernel), by decide +kernel⟩
theorem f_M_7 : zF "LinkDiagramModel" 7 5 0 := ⟨"LinkDiagramModel", T_M, 19, rfl, by decide, zG_mem (List.mem_append_right _ (List.mem_of_getElem? (i := 501) (by decide +kernel))) (by decide +kernel), uw_M⟩
theorem p_M_7 : zFp "LinkDiagramModel" 7 5 0 true (.array .int) := ⟨"LinkDiagramModel", T_M, 19, t_M, rfl, by decide, zG_mem (List.mem_append_right _ (List.mem_of_getElem? (i := 501) (by decide +kernel))) (by decide +kernel), uw_M, ty_M, nm_M, rfl, rfl, by decide +kernel⟩
theorem f_M_13 : zF "LinkDiagramModel" 13 5 1 := ⟨"LinkDiagramModel", T_M, 19, rfl, by decide, zG_mem (List.mem_append_right _ (List.mem_of_getElem? (i := 502) (by decide +kernel))) (by decide +kernel), uw_M⟩
theorem p_M_13 : zFp "LinkDiagramModel" 13 5 1 true (.array .boolean) := ⟨"LinkDiagramModel", T_M, 19, t_M, rfl, by decide, zG_mem (List.mem_append_right _ (List.mem_of_getElem? (i := 502) (by decide +kernel))) (by decide +kernel), uw_M, ty_M, nm_M, rfl, rfl, by decide +kernel⟩
theorem f_M_66 : zF "LinkDiagramModel" 66 5 2 := ⟨"LinkDiagramModel", T_M, 19, rfl, by decide, zG_mem (List.mem_append_right _ (List.mem_of_getElem? (i := 503) (by decide +kernel))) (by decide +kernel), uw_M⟩
theorem p_M_66 : zFp "LinkDiagramModel" 66 5 2 false (.int) := ⟨"LinkDiagramModel", T_M, 19, t_M, rfl, by decide, zG_mem (List.mem_append_right _ (List.mem_of_getElem? (i := 503) (by decide +kernel))) (by decide +kernel), uw_M, ty_M, nm_M, rfl, rfl, by decide +kernel⟩
theorem f_M_52 : zF "LinkDiagramModel" 52 5 3 := ⟨"LinkDiagramModel", T_M, 19, rfl, by decide, zG_mem (List.mem_append_right _ (List.mem_of_getElem? (i := 504) (by decide +kernel))) (by decide +kernel), uw_M⟩
theorem p_M_52 : zFp "LinkDiagramModel" 52 5 3 false (.int) := ⟨"LinkDiagramModel", T_M, 19, t_M, rfl, by decide, zG_mem (List.mem_append_right _ (List.mem_of_getElem? (i := 504) (by decide +kernel))) (by decide +kernel), uw_M, ty_M, nm_M, rfl, rfl, by decide +kernel⟩
theorem f_M_17 : zF "LinkDiagramModel" 17 5 4 := ⟨"LinkDiagramModel", T_M, 19, rfl, by decide, zG_mem (List.mem_append_right _ (List.mem_of_getElem? (i := 505) (by decide +kernel))) (by decide +kernel), uw_M⟩
theorem p_M_17 : zFp "LinkDiagramModel" 17 5 4 false (.int) := ⟨"LinkDiagramModel", T_M, 19, t_M, rfl, by decide, zG_mem (List.mem_append_right _ (List.mem_of_getElem? (i := 505) (by decide +kernel))) (by decide +kernel), uw_M, ty_M, nm_M, rfl, rfl, by decide +kernel⟩
theorem f_M_21 : zF "LinkDiagramModel" 21 5 5 := ⟨"LinkDiagramModel", T_M, 19, rfl, by decide, zG_mem (List.mem_append_right _ (List.mem_of_getElem? (i := 506) (by decide +kernel))) (by decide +kernel), uw_M⟩
theorem p_M_21 : zFp "LinkDiagramModel" 21 5 5 true (.array .int) := ⟨"LinkDiagramModel", T_M, 19, t_M, rfl, by decide, zG_mem (List.mem_append_right _ (List.mem_of_getElem? (i := 506) (by decide +kernel))) (by decide +kernel), uw_M, ty_M, nm_M, rfl, rfl, by decide +kernel⟩
theorem f_M_107 : zF "LinkDiagramModel" 107 5 6 := ⟨"LinkDiagramModel", T_M, 19, rfl, by decide, zG_mem (List.mem_append_right _ (List.mem_of_getElem? (i := 507) (by decide +kernel))) (by decide +kernel), uw_M⟩
theorem p_M_107 : zFp "LinkDiagramModel" 107 5 6 false (.int) := ⟨"LinkDiagramModel", T_M, 19, t_M, rfl, by decide, zG_mem (List.mem_append_right _ (List.mem_of_getElem? (i := 507) (by decide +kernel))) (by decide +kernel), uw_M, ty_M, nm_M, rfl, rfl, by decide +kernel⟩
theorem f_M_63 : zF "LinkDiagramModel" 63 5 7 := ⟨"LinkDiagramModel", T_M, 19, rfl, by decide, zG_mem (List.mem_append_right _ (List.mem_of_getElem? (i := 508) (by decide +kernel))) (by decide +kernel), uw_M⟩
theorem p_M_63 : zFp "LinkDiagramModel" 63 5 7 false (.int) := ⟨"LinkDiagramModel", T_M, 19, t_M, rfl, by decide, zG_mem (List.mem_append_right _ (List.mem_of_getElem? (i := 508) (by decide +kernel))) (by decide +kernel), uw_M, ty_M, nm_M, rfl, rfl, by decide +kernel⟩
theorem f_M_69 : zF "LinkDiagramModel" 69 5 8 := ⟨"LinkDiagramModel", T_M, 19, rfl, by decide, zG_mem (List.mem_append_right _ (List.mem_of_getElem? (i := 509) (by decide +kernel))) (by decide +kernel), uw_M⟩
theorem p_M_69 : zFp "LinkDiagramModel" 69 5 8 false (.int) := ⟨"LinkDiagramModel", T_M, 19, t_M, rfl, by decide, zG_mem (List.mem_append_right _ (List.mem_of_getElem? (i := 509) (by decide +kernel))) (by decide +kernel), uw_M, ty_M, nm_M, rfl, rfl, by decide +kernel⟩
theorem f_M_24 : zF "LinkDiagramModel" 24 5 9 := ⟨"LinkDiagramModel", T_M, 19, rfl, by decide, zG_mem (List.mem_append_right _ (List.mem_of_getElem? (i := 510) (by decide +kernel))) (by decide +kernel), uw_M⟩
theorem p_M_24 : zFp "LinkDiagramModel" 24 5 9 true (.array .boolean) := ⟨"LinkDiagramModel", T_M, 19, t_M, rfl, by decide, zG_mem (List.mem_append_right _ (List.mem_of_getElem? (i := 510) (by decide +kernel))) (by decide +kernel), uw_M, ty_M, nm_M, rfl, rfl, by decide +kernel⟩
theorem f_M_27 : zF "LinkDiagramModel" 27 5 10 := ⟨"LinkDiagramModel", T_M, 19, rfl, by decide, zG_mem (List.mem_append_right _ (List.mem_of_getElem? (i := 511) (by decide +kernel))) (by decide +kernel), uw_M⟩
theorem p_M_27 : zFp "LinkDiagramModel" 27 5 10 true (.array .long) := ⟨"LinkDiagramModel", T_M, 19, t_M, rfl, by decide, zG_mem (List.mem_append_right _ (List.mem_of_getElem? (i := 511) (by decide +kernel))) (by decide +kernel), uw_M, ty_M, nm_M, rfl, rfl, by decide +kernel⟩
theorem f_M_31 : zF "LinkDiagramModel" 31 5 11 := ⟨"LinkDiagramModel", T_M, 19, rfl, by decide, zG_mem (List.mem_append_right _ (List.mem_of_getElem? (i := 512) (by decide +kernel))) (by decide +kernel), uw_M⟩
theorem p_M_31 : zFp "LinkDiagramModel" 31 5 11 true (.array .long) := ⟨"LinkDiagramModel", T_M, 19, t_M, rfl, by decide, zG_mem (List.mem_append_right _ (List.mem_of_getElem? (i := 512) (by decide +kernel))) (by decide +kernel), uw_M, ty_M, nm_M, rfl, rfl, by decide +kernel⟩
theorem f_M_34 : zF "LinkDiagramModel" 34 5 12 := ⟨"LinkDiagramModel", T_M, 19, rfl, by decide, zG_mem (List.mem_append_right _ (List.mem_of_getElem? (i := 513) (by decide +kernel))) (by decide +kernel), uw_M⟩
theorem p_M_34 : zFp "LinkDiagramModel" 34 5 12 true (.array .long) := ⟨"LinkDiagramModel", T_M, 19, t_M, rfl, by decide, zG_mem (List.mem_append_right _ (List.mem_of_getElem? (i := 513) (by decide +kernel))) (by decide +kernel), uw_M, ty_M, nm_M, rfl, rfl, by decide +kernel⟩
theorem f_M_37 : zF "LinkDiagramModel" 37 5 13 := ⟨"LinkDiagramModel", T_M, 19, rfl, by decide, zG_mem (List.mem_append_right _ (List.mem_of_getElem? (i := 514) (by decide +kernel))) (by decide +kernel), uw_M⟩
theorem p_M_37 : zFp "LinkDiagramModel" 37 5 13 true (.array .int) := ⟨"LinkDiagramModel", T_M, 19, t_M, rfl, by decide, zG_mem (List.mem_append_right _ (List.mem_of_getElem? (i := 514) (by decide +kernel))) (by decide +kernel), uw_M, ty_M, nm_M, rfl, rfl, by decide +kernel⟩
theorem f_M_133 : zF "LinkDiagramModel" 133 5 14 := ⟨"LinkDiagramModel", T_M, 19, rfl, by decide, zG_mem (List.mem_append_right _ (List.mem_of_getElem? (i := 515) (by decide +kernel))) (by decide +kernel), uw_M⟩
theorem p_M_133 : zFp "LinkDiagramModel" 133 5 14 false (.int) := ⟨"LinkDiagramModel", T_M, 19, t_M, rfl, by decide, zG_mem (List.mem_append_right _ (List.mem_of_getElem? (i := 515) (by decide +kernel))) (by decide +kernel), uw_M, ty_M, nm_M, rfl, rfl, by decide +kernel⟩
theorem f_M_40 : zF "LinkDiagramModel" 40 5 15 := ⟨"LinkDiagramModel", T_M, 19, rfl, by decide, zG_mem (List.mem_append_right _ (List.mem_of_getElem? (i := 516) (by decide +kernel))) (by decide +kernel), uw_M⟩
theorem p_M_40 : zFp "LinkDiagramModel" 40 5 15 true (.array .int) := ⟨"LinkDiagramModel", T_M, 19, t_M, rfl, by decide, zG_mem (List.mem_append_right _ (List.mem_of_getElem? (i := 516) (by decide +kernel))) (by decide +kernel), uw_M, ty_M, nm_M, rfl, rfl, by decide +kernel⟩
theorem f_M_43 : zF "LinkDiagramModel" 43 5 16 := ⟨"LinkDiagramModel", T_M, 19, rfl, by decide, zG_mem (List.mem_append_right _ (List.mem_of_getElem? (i := 517) (by decide +kernel))) (by decide +kernel), uw_M⟩
theorem p_M_43 : zFp "LinkDiagramModel" 43 5 16 true (.array .int) := ⟨"LinkDiagramModel", T_M, 19, t_M, rfl, by decide, zG_mem (List.mem_append_right _ (List.mem_of_getElem? (i := 517) (by decide +kernel))) (by decide +kernel), uw_M, ty_M, nm_M, rfl, rfl, by decide +kernel⟩
theorem f_M_46 : zF "LinkDiagramModel" 46 5 17 := ⟨"LinkDiagramModel", T_M, 19, rfl, by decide, zG_mem (List.mem_append_right _ (List.mem_of_getElem? (i := 518) (by decide +kernel))) (by decide +kernel), uw_M⟩
theorem p_M_46 : zFp "LinkDiagramModel" 46 5 17 true (.array .long) := ⟨"LinkDiagramModel", T_M, 19, t_M, rfl, by decide, zG_mem (List.mem_append_right _ (List.mem_of_getElem? (i := 518) (by decide +kernel))) (by decide +kernel), uw_M, ty_M, nm_M, rfl, rfl, by decide +kernel⟩
theorem f_M_49 : zF "LinkDiagramModel" 49 5 18 := ⟨"LinkDiagramModel", T_M, 19, rfl, by decide, zG_mem (List.mem_append_right _ (List.mem_of_getElem? (i := 519) (by decide +kernel))) (by decide +kernel), uw_M⟩
theorem p_M_49 : zFp "LinkDiagramModel" 49 5 18 true (.array .int) := ⟨"LinkDiagramModel", T_M, 19, t_M, rfl, by decide, zG_mem (List.mem_append_right _ (List.mem_of_getElem? (i := 519) (by decide +kernel))) (by decide +kernel), uw_M, ty_M, nm_M, rfl, rfl, by decide +kernel⟩
theorem k_M_139 : Cond.constantLong "LinkDiagramModel" 139 (-1) ∈ zG := zG_mem (List.mem_append_right _ (List.mem_of_getElem? (i := 688) (by decide +kernel))) (by decide +kernel)
theorem wA_int : Cond.arrayClass .int ∈ zG := zG_mem (List.mem_append_right _ (List.mem_of_getElem? (i := 35) (by decide +kernel))) (by decide +kernel)
theorem wA_long : Cond.arrayClass .long ∈ zG := zG_mem (List.mem_append_right _ (List.mem_of_getElem? (i := 65) (by decide +kernel))) (by decide +kernel)
theorem wA_bool : Cond.arrayClass .boolean ∈ zG := zG_mem (List.mem_append_right _ (List.mem_of_getElem? (i := 559) (by decide +kernel))) (by decide +kernel)
theorem wO_im : Cond.instanceMethod objectInit ∈ zG := zG_mem (List.mem_append_right _ (List.mem_of_getElem? (i := 17) (by decide +kernel))) (by decide +kernel)
theorem wO_code : Cond.code objectInit ⟨#[0xb1]⟩ 1 none ∈ zG := zG_mem (List.mem_append_right _ (List.mem_of_getElem? (i := 18) (by decide +kernel))) (by decide +kernel)
theorem wm_abs_s : Cond.static Lib.Math.abs.name ∈ zG := zG_mem (List.mem_append_right _ (List.mem_of_getElem? (i := 247) (by decide +kernel))) (by decide +kernel)
theorem wm_abs_c : Cond.code Lib.Math.abs.name Lib.Math.abs.code 1 (some .int) ∈ zG := zG_mem (List.mem_append_right _ (List.mem_of_getElem? (i := 248) (by decide +kernel))) (by decide +kernel)
theorem wm_min_s : Cond.static Lib.Math.min.name ∈ zG := zG_mem (List.mem_append_right _ (List.mem_of_getElem? (i := 354) (by decide +kernel))) (by decide +kernel)
theorem wm_min_c : Cond.code Lib.Math.min.name Lib.Math.min.code 2 (some .int) ∈ zG := zG_mem (List.mem_append_right _ (List.mem_of_getElem? (i := 355) (by decide +kernel))) (by decide +kernel)
theorem wm_max_s : Cond.static Lib.Math.max.name ∈ zG := zG_mem (List.mem_append_right _ (List.mem_of_getElem? (i := 465) (by decide +kernel))) (by decide +kernel)
theorem wm_max_c : Cond.code Lib.Math.max.name Lib.Math.max.code 2 (some .int) ∈ zG := zG_mem (List.mem_append_right _ (List.mem_of_getElem? (i := 466) (by decide +kernel))) (by decide +kernel)
theorem wm_i : Cond.initialized "java/lang/Math" ∈ zG := zG_mem (List.mem_append_right _ (List.mem_of_getElem? (i := 9) (by decide +kernel))) (by decide +kernel)
theorem wc_n : Cond.native arraycopyName ∈ zG := zG_mem (List.mem_append_right _ (List.mem_of_getElem? (i := 153) (by decide +kernel))) (by decide +kernel)
theorem wc_s : Cond.static arraycopyName ∈ zG := zG_mem (List.mem_append_right _ (List.mem_of_getElem? (i := 152) (by decide +kernel))) (by decide +kernel)
theorem wc_i : Cond.initialized "java/lang/System" ∈ zG := zG_mem (List.mem_append_right _ (List.mem_of_getElem? (i := 7) (by decide +kernel))) (by decide +kernel)
theorem cb_A_appendTwist : zCb M_A_appendTwist 4 := ⟨zG_mem (List.mem_append_right _ (List.mem_of_getElem? (i := 398) (by decide +kernel))) (by decide +kernel), zG_mem (List.mem_append_right _ (List.mem_of_getElem? (i := 1) (by decide +kernel))) (by decide +kernel), by decide, by decide, by decide +kernel⟩
theorem cb_A_braid : zCb M_A_braid 1 := ⟨zG_mem (List.mem_append_right _ (List.mem_of_getElem? (i := 241) (by decide +kernel))) (by decide +kernel), zG_mem (List.mem_append_right _ (List.mem_of_getElem? (i := 1) (by decide +kernel))) (by decide +kernel), by decide, by decide, by decide +kernel⟩
theorem cb_A_closePlace : zCb M_A_closePlace 1 := ⟨zG_mem (List.mem_append_right _ (List.mem_of_getElem? (i := 256) (by decide +kernel))) (by decide +kernel), zG_mem (List.mem_append_right _ (List.mem_of_getElem? (i := 1) (by decide +kernel))) (by decide +kernel), by decide, by decide, by decide +kernel⟩
theorem cb_A_count : zCb M_A_count 1 := ⟨zG_mem (List.mem_append_right _ (List.mem_of_getElem? (i := 264) (by decide +kernel))) (by decide +kernel), zG_mem (List.mem_append_right _ (List.mem_of_getElem? (i := 1) (by decide +kernel))) (by decide +kernel), by decide, by decide, by decide +kernel⟩
theorem cb_A_cross : zCb M_A_cross 5 := ⟨zG_mem (List.mem_append_right _ (List.mem_of_getElem? (i := 122) (by decide +kernel))) (by decide +kernel), zG_mem (List.mem_append_right _ (List.mem_of_getElem? (i := 1) (by decide +kernel))) (by decide +kernel), by decide, by decide, by decide +kernel⟩
theorem cb_A_crossingOf : zCb M_A_crossingOf 1 := ⟨zG_mem (List.mem_append_right _ (List.mem_of_getElem? (i := 183) (by decide +kernel))) (by decide +kernel), zG_mem (List.mem_append_right _ (List.mem_of_getElem? (i := 1) (by decide +kernel))) (by decide +kernel), by decide, by decide, by decide +kernel⟩
theorem cb_A_drop : zCb M_A_drop 0 := ⟨zG_mem (List.mem_append_right _ (List.mem_of_getElem? (i := 138) (by decide +kernel))) (by decide +kernel), zG_mem (List.mem_append_right _ (List.mem_of_getElem? (i := 1) (by decide +kernel))) (by decide +kernel), by decide, by decide, by decide +kernel⟩
theorem cb_A_end : zCb M_A_end 2 := ⟨zG_mem (List.mem_append_right _ (List.mem_of_getElem? (i := 285) (by decide +kernel))) (by decide +kernel), zG_mem (List.mem_append_right _ (List.mem_of_getElem? (i := 1) (by decide +kernel))) (by decide +kernel), by decide, by decide, by decide +kernel⟩
theorem cb_A_first : zCb M_A_first 1 := ⟨zG_mem (List.mem_append_right _ (List.mem_of_getElem? (i := 292) (by decide +kernel))) (by decide +kernel), zG_mem (List.mem_append_right _ (List.mem_of_getElem? (i := 1) (by decide +kernel))) (by decide +kernel), by decide, by decide, by decide +kernel⟩
theorem cb_A_freeEdge : zCb M_A_freeEdge 1 := ⟨zG_mem (List.mem_append_right _ (List.mem_of_getElem? (i := 393) (by decide +kernel))) (by decide +kernel), zG_mem (List.mem_append_right _ (List.mem_of_getElem? (i := 1) (by decide +kernel))) (by decide +kernel), by decide, by decide, by decide +kernel⟩
theorem cb_A_init : zCb M_A_init 0 := ⟨zG_mem (List.mem_append_right _ (List.mem_of_getElem? (i := 15) (by decide +kernel))) (by decide +kernel), zG_mem (List.mem_append_right _ (List.mem_of_getElem? (i := 1) (by decide +kernel))) (by decide +kernel), by decide, by decide, by decide +kernel⟩
theorem cb_A_isEdge : zCb M_A_isEdge 1 := ⟨zG_mem (List.mem_append_right _ (List.mem_of_getElem? (i := 129) (by decide +kernel))) (by decide +kernel), zG_mem (List.mem_append_right _ (List.mem_of_getElem? (i := 1) (by decide +kernel))) (by decide +kernel), by decide, by decide, by decide +kernel⟩
theorem cb_A_isPokedFace : zCb M_A_isPokedFace 2 := ⟨zG_mem (List.mem_append_right _ (List.mem_of_getElem? (i := 438) (by decide +kernel))) (by decide +kernel), zG_mem (List.mem_append_right _ (List.mem_of_getElem? (i := 1) (by decide +kernel))) (by decide +kernel), by decide, by decide, by decide +kernel⟩
theorem cb_A_isSlidingFace : zCb M_A_isSlidingFace 3 := ⟨zG_mem (List.mem_append_right _ (List.mem_of_getElem? (i := 475) (by decide +kernel))) (by decide +kernel), zG_mem (List.mem_append_right _ (List.mem_of_getElem? (i := 1) (by decide +kernel))) (by decide +kernel), by decide, by decide, by decide +kernel⟩
theorem cb_A_isUpper : zCb M_A_isUpper 1 := ⟨zG_mem (List.mem_append_right _ (List.mem_of_getElem? (i := 180) (by decide +kernel))) (by decide +kernel), zG_mem (List.mem_append_right _ (List.mem_of_getElem? (i := 1) (by decide +kernel))) (by decide +kernel), by decide, by decide, by decide +kernel⟩
theorem cb_A_isUpperEdge : zCb M_A_isUpperEdge 1 := ⟨zG_mem (List.mem_append_right _ (List.mem_of_getElem? (i := 479) (by decide +kernel))) (by decide +kernel), zG_mem (List.mem_append_right _ (List.mem_of_getElem? (i := 1) (by decide +kernel))) (by decide +kernel), by decide, by decide, by decide +kernel⟩
theorem cb_A_join : zCb M_A_join 2 := ⟨zG_mem (List.mem_append_right _ (List.mem_of_getElem? (i := 421) (by decide +kernel))) (by decide +kernel), zG_mem (List.mem_append_right _ (List.mem_of_getElem? (i := 1) (by decide +kernel))) (by decide +kernel), by decide, by decide, by decide +kernel⟩
theorem cb_A_letter : zCb M_A_letter 1 := ⟨zG_mem (List.mem_append_right _ (List.mem_of_getElem? (i := 237) (by decide +kernel))) (by decide +kernel), zG_mem (List.mem_append_right _ (List.mem_of_getElem? (i := 1) (by decide +kernel))) (by decide +kernel), by decide, by decide, by decide +kernel⟩
theorem cb_A_loopEnd : zCb M_A_loopEnd 1 := ⟨zG_mem (List.mem_append_right _ (List.mem_of_getElem? (i := 415) (by decide +kernel))) (by decide +kernel), zG_mem (List.mem_append_right _ (List.mem_of_getElem? (i := 1) (by decide +kernel))) (by decide +kernel), by decide, by decide, by decide +kernel⟩
theorem cb_A_opposite : zCb M_A_opposite 1 := ⟨zG_mem (List.mem_append_right _ (List.mem_of_getElem? (i := 275) (by decide +kernel))) (by decide +kernel), zG_mem (List.mem_append_right _ (List.mem_of_getElem? (i := 1) (by decide +kernel))) (by decide +kernel), by decide, by decide, by decide +kernel⟩
theorem cb_A_poke : zCb M_A_poke 4 := ⟨zG_mem (List.mem_append_right _ (List.mem_of_getElem? (i := 425) (by decide +kernel))) (by decide +kernel), zG_mem (List.mem_append_right _ (List.mem_of_getElem? (i := 1) (by decide +kernel))) (by decide +kernel), by decide, by decide, by decide +kernel⟩
theorem cb_A_pullApart : zCb M_A_pullApart 2 := ⟨zG_mem (List.mem_append_right _ (List.mem_of_getElem? (i := 446) (by decide +kernel))) (by decide +kernel), zG_mem (List.mem_append_right _ (List.mem_of_getElem? (i := 1) (by decide +kernel))) (by decide +kernel), by decide, by decide, by decide +kernel⟩
theorem cb_A_second : zCb M_A_second 1 := ⟨zG_mem (List.mem_append_right _ (List.mem_of_getElem? (i := 338) (by decide +kernel))) (by decide +kernel), zG_mem (List.mem_append_right _ (List.mem_of_getElem? (i := 1) (by decide +kernel))) (by decide +kernel), by decide, by decide, by decide +kernel⟩
theorem cb_A_slide : zCb M_A_slide 3 := ⟨zG_mem (List.mem_append_right _ (List.mem_of_getElem? (i := 471) (by decide +kernel))) (by decide +kernel), zG_mem (List.mem_append_right _ (List.mem_of_getElem? (i := 1) (by decide +kernel))) (by decide +kernel), by decide, by decide, by decide +kernel⟩
theorem cb_A_slideEdge : zCb M_A_slideEdge 1 := ⟨zG_mem (List.mem_append_right _ (List.mem_of_getElem? (i := 487) (by decide +kernel))) (by decide +kernel), zG_mem (List.mem_append_right _ (List.mem_of_getElem? (i := 1) (by decide +kernel))) (by decide +kernel), by decide, by decide, by decide +kernel⟩
theorem cb_A_slideFace : zCb M_A_slideFace 1 := ⟨zG_mem (List.mem_append_right _ (List.mem_of_getElem? (i := 483) (by decide +kernel))) (by decide +kernel), zG_mem (List.mem_append_right _ (List.mem_of_getElem? (i := 1) (by decide +kernel))) (by decide +kernel), by decide, by decide, by decide +kernel⟩
theorem cb_A_take : zCb M_A_take 1 := ⟨zG_mem (List.mem_append_right _ (List.mem_of_getElem? (i := 157) (by decide +kernel))) (by decide +kernel), zG_mem (List.mem_append_right _ (List.mem_of_getElem? (i := 1) (by decide +kernel))) (by decide +kernel), by decide, by decide, by decide +kernel⟩
theorem cb_A_turned : zCb M_A_turned 2 := ⟨zG_mem (List.mem_append_right _ (List.mem_of_getElem? (i := 214) (by decide +kernel))) (by decide +kernel), zG_mem (List.mem_append_right _ (List.mem_of_getElem? (i := 1) (by decide +kernel))) (by decide +kernel), by decide, by decide, by decide +kernel⟩
theorem cb_A_twist : zCb M_A_twist 2 := ⟨zG_mem (List.mem_append_right _ (List.mem_of_getElem? (i := 389) (by decide +kernel))) (by decide +kernel), zG_mem (List.mem_append_right _ (List.mem_of_getElem? (i := 1) (by decide +kernel))) (by decide +kernel), by decide, by decide, by decide +kernel⟩
theorem cb_A_unpoke : zCb M_A_unpoke 2 := ⟨zG_mem (List.mem_append_right _ (List.mem_of_getElem? (i := 434) (by decide +kernel))) (by decide +kernel), zG_mem (List.mem_append_right _ (List.mem_of_getElem? (i := 1) (by decide +kernel))) (by decide +kernel), by decide, by decide, by decide +kernel⟩
theorem cb_A_untwist : zCb M_A_untwist 1 := ⟨zG_mem (List.mem_append_right _ (List.mem_of_getElem? (i := 411) (by decide +kernel))) (by decide +kernel), zG_mem (List.mem_append_right _ (List.mem_of_getElem? (i := 1) (by decide +kernel))) (by decide +kernel), by decide, by decide, by decide +kernel⟩
theorem cb_A_weave : zCb M_A_weave 2 := ⟨zG_mem (List.mem_append_right _ (List.mem_of_getElem? (i := 252) (by decide +kernel))) (by decide +kernel), zG_mem (List.mem_append_right _ (List.mem_of_getElem? (i := 1) (by decide +kernel))) (by decide +kernel), by decide, by decide, by decide +kernel⟩
theorem cb_A_wordIsBelow : zCb M_A_wordIsBelow 1 := ⟨zG_mem (List.mem_append_right _ (List.mem_of_getElem? (i := 245) (by decide +kernel))) (by decide +kernel), zG_mem (List.mem_append_right _ (List.mem_of_getElem? (i := 1) (by decide +kernel))) (by decide +kernel), by decide, by decide, by decide +kernel⟩
theorem cb_B_addStates : zCb M_B_addStates 2 := ⟨zG_mem (List.mem_append_right _ (List.mem_of_getElem? (i := 333) (by decide +kernel))) (by decide +kernel), zG_mem (List.mem_append_right _ (List.mem_of_getElem? (i := 4) (by decide +kernel))) (by decide +kernel), by decide, by decide, by decide +kernel⟩
theorem cb_B_coefficient : zCb M_B_coefficient 3 := ⟨zG_mem (List.mem_append_right _ (List.mem_of_getElem? (i := 297) (by decide +kernel))) (by decide +kernel), zG_mem (List.mem_append_right _ (List.mem_of_getElem? (i := 4) (by decide +kernel))) (by decide +kernel), by decide, by decide, by decide +kernel⟩
theorem cb_B_curvesOf : zCb M_B_curvesOf 2 := ⟨zG_mem (List.mem_append_right _ (List.mem_of_getElem? (i := 311) (by decide +kernel))) (by decide +kernel), zG_mem (List.mem_append_right _ (List.mem_of_getElem? (i := 4) (by decide +kernel))) (by decide +kernel), by decide, by decide, by decide +kernel⟩
theorem cb_B_init : zCb M_B_init 0 := ⟨zG_mem (List.mem_append_right _ (List.mem_of_getElem? (i := 53) (by decide +kernel))) (by decide +kernel), zG_mem (List.mem_append_right _ (List.mem_of_getElem? (i := 4) (by decide +kernel))) (by decide +kernel), by decide, by decide, by decide +kernel⟩
theorem cb_B_multiplyByCurve : zCb M_B_multiplyByCurve 0 := ⟨zG_mem (List.mem_append_right _ (List.mem_of_getElem? (i := 329) (by decide +kernel))) (by decide +kernel), zG_mem (List.mem_append_right _ (List.mem_of_getElem? (i := 4) (by decide +kernel))) (by decide +kernel), by decide, by decide, by decide +kernel⟩
theorem cb_B_seenWithCurve : zCb M_B_seenWithCurve 3 := ⟨zG_mem (List.mem_append_right _ (List.mem_of_getElem? (i := 315) (by decide +kernel))) (by decide +kernel), zG_mem (List.mem_append_right _ (List.mem_of_getElem? (i := 4) (by decide +kernel))) (by decide +kernel), by decide, by decide, by decide +kernel⟩
theorem cb_B_tallyStates : zCb M_B_tallyStates 2 := ⟨zG_mem (List.mem_append_right _ (List.mem_of_getElem? (i := 303) (by decide +kernel))) (by decide +kernel), zG_mem (List.mem_append_right _ (List.mem_of_getElem? (i := 4) (by decide +kernel))) (by decide +kernel), by decide, by decide, by decide +kernel⟩
theorem cb_C_append : zCb M_C_append 5 := ⟨zG_mem (List.mem_append_right _ (List.mem_of_getElem? (i := 133) (by decide +kernel))) (by decide +kernel), zG_mem (List.mem_append_right _ (List.mem_of_getElem? (i := 2) (by decide +kernel))) (by decide +kernel), by decide, by decide, by decide +kernel⟩
theorem cb_C_bringIn : zCb M_C_bringIn 2 := ⟨zG_mem (List.mem_append_right _ (List.mem_of_getElem? (i := 402) (by decide +kernel))) (by decide +kernel), zG_mem (List.mem_append_right _ (List.mem_of_getElem? (i := 2) (by decide +kernel))) (by decide +kernel), by decide, by decide, by decide +kernel⟩
theorem cb_C_clear : zCb M_C_clear 0 := ⟨zG_mem (List.mem_append_right _ (List.mem_of_getElem? (i := 233) (by decide +kernel))) (by decide +kernel), zG_mem (List.mem_append_right _ (List.mem_of_getElem? (i := 2) (by decide +kernel))) (by decide +kernel), by decide, by decide, by decide +kernel⟩
theorem cb_C_comesIn : zCb M_C_comesIn 1 := ⟨zG_mem (List.mem_append_right _ (List.mem_of_getElem? (i := 177) (by decide +kernel))) (by decide +kernel), zG_mem (List.mem_append_right _ (List.mem_of_getElem? (i := 2) (by decide +kernel))) (by decide +kernel), by decide, by decide, by decide +kernel⟩
theorem cb_C_copyFrom : zCb M_C_copyFrom 1 := ⟨zG_mem (List.mem_append_right _ (List.mem_of_getElem? (i := 229) (by decide +kernel))) (by decide +kernel), zG_mem (List.mem_append_right _ (List.mem_of_getElem? (i := 2) (by decide +kernel))) (by decide +kernel), by decide, by decide, by decide +kernel⟩
theorem cb_C_edgeAt : zCb M_C_edgeAt 1 := ⟨zG_mem (List.mem_append_right _ (List.mem_of_getElem? (i := 173) (by decide +kernel))) (by decide +kernel), zG_mem (List.mem_append_right _ (List.mem_of_getElem? (i := 2) (by decide +kernel))) (by decide +kernel), by decide, by decide, by decide +kernel⟩
theorem cb_C_edgeBefore : zCb M_C_edgeBefore 1 := ⟨zG_mem (List.mem_append_right _ (List.mem_of_getElem? (i := 450) (by decide +kernel))) (by decide +kernel), zG_mem (List.mem_append_right _ (List.mem_of_getElem? (i := 2) (by decide +kernel))) (by decide +kernel), by decide, by decide, by decide +kernel⟩
theorem cb_C_edgeBehind : zCb M_C_edgeBehind 1 := ⟨zG_mem (List.mem_append_right _ (List.mem_of_getElem? (i := 459) (by decide +kernel))) (by decide +kernel), zG_mem (List.mem_append_right _ (List.mem_of_getElem? (i := 2) (by decide +kernel))) (by decide +kernel), by decide, by decide, by decide +kernel⟩
theorem cb_C_endOn : zCb M_C_endOn 2 := ⟨zG_mem (List.mem_append_right _ (List.mem_of_getElem? (i := 406) (by decide +kernel))) (by decide +kernel), zG_mem (List.mem_append_right _ (List.mem_of_getElem? (i := 2) (by decide +kernel))) (by decide +kernel), by decide, by decide, by decide +kernel⟩
theorem cb_C_ends : zCb M_C_ends 0 := ⟨zG_mem (List.mem_append_right _ (List.mem_of_getElem? (i := 165) (by decide +kernel))) (by decide +kernel), zG_mem (List.mem_append_right _ (List.mem_of_getElem? (i := 2) (by decide +kernel))) (by decide +kernel), by decide, by decide, by decide +kernel⟩
theorem cb_C_follow : zCb M_C_follow 1 := ⟨zG_mem (List.mem_append_right _ (List.mem_of_getElem? (i := 206) (by decide +kernel))) (by decide +kernel), zG_mem (List.mem_append_right _ (List.mem_of_getElem? (i := 2) (by decide +kernel))) (by decide +kernel), by decide, by decide, by decide +kernel⟩
theorem cb_C_has : zCb M_C_has 1 := ⟨zG_mem (List.mem_append_right _ (List.mem_of_getElem? (i := 150) (by decide +kernel))) (by decide +kernel), zG_mem (List.mem_append_right _ (List.mem_of_getElem? (i := 2) (by decide +kernel))) (by decide +kernel), by decide, by decide, by decide +kernel⟩
theorem cb_C_incoming : zCb M_C_incoming 1 := ⟨zG_mem (List.mem_append_right _ (List.mem_of_getElem? (i := 463) (by decide +kernel))) (by decide +kernel), zG_mem (List.mem_append_right _ (List.mem_of_getElem? (i := 2) (by decide +kernel))) (by decide +kernel), by decide, by decide, by decide +kernel⟩
theorem cb_C_init : zCb M_C_init 0 := ⟨zG_mem (List.mem_append_right _ (List.mem_of_getElem? (i := 23) (by decide +kernel))) (by decide +kernel), zG_mem (List.mem_append_right _ (List.mem_of_getElem? (i := 2) (by decide +kernel))) (by decide +kernel), by decide, by decide, by decide +kernel⟩
theorem cb_C_isFull : zCb M_C_isFull 0 := ⟨zG_mem (List.mem_append_right _ (List.mem_of_getElem? (i := 126) (by decide +kernel))) (by decide +kernel), zG_mem (List.mem_append_right _ (List.mem_of_getElem? (i := 2) (by decide +kernel))) (by decide +kernel), by decide, by decide, by decide +kernel⟩
theorem cb_C_isPositive : zCb M_C_isPositive 1 := ⟨zG_mem (List.mem_append_right _ (List.mem_of_getElem? (i := 187) (by decide +kernel))) (by decide +kernel), zG_mem (List.mem_append_right _ (List.mem_of_getElem? (i := 2) (by decide +kernel))) (by decide +kernel), by decide, by decide, by decide +kernel⟩
theorem cb_C_occurs : zCb M_C_occurs 1 := ⟨zG_mem (List.mem_append_right _ (List.mem_of_getElem? (i := 359) (by decide +kernel))) (by decide +kernel), zG_mem (List.mem_append_right _ (List.mem_of_getElem? (i := 2) (by decide +kernel))) (by decide +kernel), by decide, by decide, by decide +kernel⟩
theorem cb_C_otherEnd : zCb M_C_otherEnd 1 := ⟨zG_mem (List.mem_append_right _ (List.mem_of_getElem? (i := 210) (by decide +kernel))) (by decide +kernel), zG_mem (List.mem_append_right _ (List.mem_of_getElem? (i := 2) (by decide +kernel))) (by decide +kernel), by decide, by decide, by decide +kernel⟩
theorem cb_C_outgoing : zCb M_C_outgoing 1 := ⟨zG_mem (List.mem_append_right _ (List.mem_of_getElem? (i := 454) (by decide +kernel))) (by decide +kernel), zG_mem (List.mem_append_right _ (List.mem_of_getElem? (i := 2) (by decide +kernel))) (by decide +kernel), by decide, by decide, by decide +kernel⟩
theorem cb_C_remove : zCb M_C_remove 1 := ⟨zG_mem (List.mem_append_right _ (List.mem_of_getElem? (i := 146) (by decide +kernel))) (by decide +kernel), zG_mem (List.mem_append_right _ (List.mem_of_getElem? (i := 2) (by decide +kernel))) (by decide +kernel), by decide, by decide, by decide +kernel⟩
theorem cb_C_rename : zCb M_C_rename 2 := ⟨zG_mem (List.mem_append_right _ (List.mem_of_getElem? (i := 260) (by decide +kernel))) (by decide +kernel), zG_mem (List.mem_append_right _ (List.mem_of_getElem? (i := 2) (by decide +kernel))) (by decide +kernel), by decide, by decide, by decide +kernel⟩
theorem cb_C_setEdge : zCb M_C_setEdge 2 := ⟨zG_mem (List.mem_append_right _ (List.mem_of_getElem? (i := 494) (by decide +kernel))) (by decide +kernel), zG_mem (List.mem_append_right _ (List.mem_of_getElem? (i := 2) (by decide +kernel))) (by decide +kernel), by decide, by decide, by decide +kernel⟩
theorem cb_C_size : zCb M_C_size 0 := ⟨zG_mem (List.mem_append_right _ (List.mem_of_getElem? (i := 142) (by decide +kernel))) (by decide +kernel), zG_mem (List.mem_append_right _ (List.mem_of_getElem? (i := 2) (by decide +kernel))) (by decide +kernel), by decide, by decide, by decide +kernel⟩
theorem cb_C_writhe : zCb M_C_writhe 0 := ⟨zG_mem (List.mem_append_right _ (List.mem_of_getElem? (i := 279) (by decide +kernel))) (by decide +kernel), zG_mem (List.mem_append_right _ (List.mem_of_getElem? (i := 2) (by decide +kernel))) (by decide +kernel), by decide, by decide, by decide +kernel⟩
theorem cb_F_fillI : zCb M_F_fillI 2 := ⟨zG_mem (List.mem_append_right _ (List.mem_of_getElem? (i := 198) (by decide +kernel))) (by decide +kernel), zG_mem (List.mem_append_right _ (List.mem_of_getElem? (i := 8) (by decide +kernel))) (by decide +kernel), by decide, by decide, by decide +kernel⟩
theorem cb_F_fillL : zCb M_F_fillL 2 := ⟨zG_mem (List.mem_append_right _ (List.mem_of_getElem? (i := 325) (by decide +kernel))) (by decide +kernel), zG_mem (List.mem_append_right _ (List.mem_of_getElem? (i := 8) (by decide +kernel))) (by decide +kernel), by decide, by decide, by decide +kernel⟩
theorem cb_I_bitCount : zCb M_I_bitCount 1 := ⟨zG_mem (List.mem_append_right _ (List.mem_of_getElem? (i := 319) (by decide +kernel))) (by decide +kernel), zG_mem (List.mem_append_right _ (List.mem_of_getElem? (i := 10) (by decide +kernel))) (by decide +kernel), by decide, by decide, by decide +kernel⟩
theorem cb_M_addState : zCb M_M_addState 1 := ⟨zG_mem (List.mem_append_right _ (List.mem_of_getElem? (i := 656) (by decide +kernel))) (by decide +kernel), zG_mem (List.mem_append_right _ (List.mem_of_getElem? (i := 6) (by decide +kernel))) (by decide +kernel), by decide, by decide, by decide +kernel⟩
theorem cb_M_beyond : zCb M_M_beyond 2 := ⟨zG_mem (List.mem_append_right _ (List.mem_of_getElem? (i := 744) (by decide +kernel))) (by decide +kernel), zG_mem (List.mem_append_right _ (List.mem_of_getElem? (i := 6) (by decide +kernel))) (by decide +kernel), by decide, by decide, by decide +kernel⟩
theorem cb_M_braid : zCb M_M_braid 1 := ⟨zG_mem (List.mem_append_right _ (List.mem_of_getElem? (i := 626) (by decide +kernel))) (by decide +kernel), zG_mem (List.mem_append_right _ (List.mem_of_getElem? (i := 6) (by decide +kernel))) (by decide +kernel), by decide, by decide, by decide +kernel⟩
theorem cb_M_clear : zCb M_M_clear 0 := ⟨zG_mem (List.mem_append_right _ (List.mem_of_getElem? (i := 614) (by decide +kernel))) (by decide +kernel), zG_mem (List.mem_append_right _ (List.mem_of_getElem? (i := 6) (by decide +kernel))) (by decide +kernel), by decide, by decide, by decide +kernel⟩
theorem cb_M_count : zCb M_M_count 1 := ⟨zG_mem (List.mem_append_right _ (List.mem_of_getElem? (i := 633) (by decide +kernel))) (by decide +kernel), zG_mem (List.mem_append_right _ (List.mem_of_getElem? (i := 6) (by decide +kernel))) (by decide +kernel), by decide, by decide, by decide +kernel⟩
theorem cb_M_cross : zCb M_M_cross 5 := ⟨zG_mem (List.mem_append_right _ (List.mem_of_getElem? (i := 563) (by decide +kernel))) (by decide +kernel), zG_mem (List.mem_append_right _ (List.mem_of_getElem? (i := 6) (by decide +kernel))) (by decide +kernel), by decide, by decide, by decide +kernel⟩
theorem cb_M_doubleLoop : zCb M_M_doubleLoop 0 := ⟨zG_mem (List.mem_append_right _ (List.mem_of_getElem? (i := 660) (by decide +kernel))) (by decide +kernel), zG_mem (List.mem_append_right _ (List.mem_of_getElem? (i := 6) (by decide +kernel))) (by decide +kernel), by decide, by decide, by decide +kernel⟩
theorem cb_M_drop : zCb M_M_drop 0 := ⟨zG_mem (List.mem_append_right _ (List.mem_of_getElem? (i := 574) (by decide +kernel))) (by decide +kernel), zG_mem (List.mem_append_right _ (List.mem_of_getElem? (i := 6) (by decide +kernel))) (by decide +kernel), by decide, by decide, by decide +kernel⟩
theorem cb_M_end : zCb M_M_end 2 := ⟨zG_mem (List.mem_append_right _ (List.mem_of_getElem? (i := 648) (by decide +kernel))) (by decide +kernel), zG_mem (List.mem_append_right _ (List.mem_of_getElem? (i := 6) (by decide +kernel))) (by decide +kernel), by decide, by decide, by decide +kernel⟩
theorem cb_M_endOf : zCb M_M_endOf 2 := ⟨zG_mem (List.mem_append_right _ (List.mem_of_getElem? (i := 708) (by decide +kernel))) (by decide +kernel), zG_mem (List.mem_append_right _ (List.mem_of_getElem? (i := 6) (by decide +kernel))) (by decide +kernel), by decide, by decide, by decide +kernel⟩
theorem cb_M_entries : zCb M_M_entries 1 := ⟨zG_mem (List.mem_append_right _ (List.mem_of_getElem? (i := 680) (by decide +kernel))) (by decide +kernel), zG_mem (List.mem_append_right _ (List.mem_of_getElem? (i := 6) (by decide +kernel))) (by decide +kernel), by decide, by decide, by decide +kernel⟩
theorem cb_M_expand : zCb M_M_expand 3 := ⟨zG_mem (List.mem_append_right _ (List.mem_of_getElem? (i := 687) (by decide +kernel))) (by decide +kernel), zG_mem (List.mem_append_right _ (List.mem_of_getElem? (i := 6) (by decide +kernel))) (by decide +kernel), by decide, by decide, by decide +kernel⟩
theorem cb_M_face : zCb M_M_face 1 := ⟨zG_mem (List.mem_append_right _ (List.mem_of_getElem? (i := 602) (by decide +kernel))) (by decide +kernel), zG_mem (List.mem_append_right _ (List.mem_of_getElem? (i := 6) (by decide +kernel))) (by decide +kernel), by decide, by decide, by decide +kernel⟩
theorem cb_M_faces : zCb M_M_faces 0 := ⟨zG_mem (List.mem_append_right _ (List.mem_of_getElem? (i := 598) (by decide +kernel))) (by decide +kernel), zG_mem (List.mem_append_right _ (List.mem_of_getElem? (i := 6) (by decide +kernel))) (by decide +kernel), by decide, by decide, by decide +kernel⟩
theorem cb_M_first : zCb M_M_first 1 := ⟨zG_mem (List.mem_append_right _ (List.mem_of_getElem? (i := 652) (by decide +kernel))) (by decide +kernel), zG_mem (List.mem_append_right _ (List.mem_of_getElem? (i := 6) (by decide +kernel))) (by decide +kernel), by decide, by decide, by decide +kernel⟩
theorem cb_M_fit : zCb M_M_fit 0 := ⟨zG_mem (List.mem_append_right _ (List.mem_of_getElem? (i := 586) (by decide +kernel))) (by decide +kernel), zG_mem (List.mem_append_right _ (List.mem_of_getElem? (i := 6) (by decide +kernel))) (by decide +kernel), by decide, by decide, by decide +kernel⟩
theorem cb_M_follow : zCb M_M_follow 1 := ⟨zG_mem (List.mem_append_right _ (List.mem_of_getElem? (i := 606) (by decide +kernel))) (by decide +kernel), zG_mem (List.mem_append_right _ (List.mem_of_getElem? (i := 6) (by decide +kernel))) (by decide +kernel), by decide, by decide, by decide +kernel⟩
theorem cb_M_free : zCb M_M_free 1 := ⟨zG_mem (List.mem_append_right _ (List.mem_of_getElem? (i := 696) (by decide +kernel))) (by decide +kernel), zG_mem (List.mem_append_right _ (List.mem_of_getElem? (i := 6) (by decide +kernel))) (by decide +kernel), by decide, by decide, by decide +kernel⟩
theorem cb_M_in : zCb M_M_in 1 := ⟨zG_mem (List.mem_append_right _ (List.mem_of_getElem? (i := 594) (by decide +kernel))) (by decide +kernel), zG_mem (List.mem_append_right _ (List.mem_of_getElem? (i := 6) (by decide +kernel))) (by decide +kernel), by decide, by decide, by decide +kernel⟩
theorem cb_M_init : zCb M_M_init 0 := ⟨zG_mem (List.mem_append_right _ (List.mem_of_getElem? (i := 499) (by decide +kernel))) (by decide +kernel), zG_mem (List.mem_append_right _ (List.mem_of_getElem? (i := 6) (by decide +kernel))) (by decide +kernel), by decide, by decide, by decide +kernel⟩
theorem cb_M_instead : zCb M_M_instead 2 := ⟨zG_mem (List.mem_append_right _ (List.mem_of_getElem? (i := 704) (by decide +kernel))) (by decide +kernel), zG_mem (List.mem_append_right _ (List.mem_of_getElem? (i := 6) (by decide +kernel))) (by decide +kernel), by decide, by decide, by decide +kernel⟩
theorem cb_M_isCrossing : zCb M_M_isCrossing 1 := ⟨zG_mem (List.mem_append_right _ (List.mem_of_getElem? (i := 716) (by decide +kernel))) (by decide +kernel), zG_mem (List.mem_append_right _ (List.mem_of_getElem? (i := 6) (by decide +kernel))) (by decide +kernel), by decide, by decide, by decide +kernel⟩
theorem cb_M_isEdge : zCb M_M_isEdge 1 := ⟨zG_mem (List.mem_append_right _ (List.mem_of_getElem? (i := 566) (by decide +kernel))) (by decide +kernel), zG_mem (List.mem_append_right _ (List.mem_of_getElem? (i := 6) (by decide +kernel))) (by decide +kernel), by decide, by decide, by decide +kernel⟩
theorem cb_M_join : zCb M_M_join 2 := ⟨zG_mem (List.mem_append_right _ (List.mem_of_getElem? (i := 724) (by decide +kernel))) (by decide +kernel), zG_mem (List.mem_append_right _ (List.mem_of_getElem? (i := 6) (by decide +kernel))) (by decide +kernel), by decide, by decide, by decide +kernel⟩
theorem cb_M_kink : zCb M_M_kink 4 := ⟨zG_mem (List.mem_append_right _ (List.mem_of_getElem? (i := 700) (by decide +kernel))) (by decide +kernel), zG_mem (List.mem_append_right _ (List.mem_of_getElem? (i := 6) (by decide +kernel))) (by decide +kernel), by decide, by decide, by decide +kernel⟩
theorem cb_M_letter : zCb M_M_letter 1 := ⟨zG_mem (List.mem_append_right _ (List.mem_of_getElem? (i := 622) (by decide +kernel))) (by decide +kernel), zG_mem (List.mem_append_right _ (List.mem_of_getElem? (i := 6) (by decide +kernel))) (by decide +kernel), by decide, by decide, by decide +kernel⟩
theorem cb_M_level : zCb M_M_level 2 := ⟨zG_mem (List.mem_append_right _ (List.mem_of_getElem? (i := 736) (by decide +kernel))) (by decide +kernel), zG_mem (List.mem_append_right _ (List.mem_of_getElem? (i := 6) (by decide +kernel))) (by decide +kernel), by decide, by decide, by decide +kernel⟩
theorem cb_M_look : zCb M_M_look 1 := ⟨zG_mem (List.mem_append_right _ (List.mem_of_getElem? (i := 582) (by decide +kernel))) (by decide +kernel), zG_mem (List.mem_append_right _ (List.mem_of_getElem? (i := 6) (by decide +kernel))) (by decide +kernel), by decide, by decide, by decide +kernel⟩
theorem cb_M_merge : zCb M_M_merge 2 := ⟨zG_mem (List.mem_append_right _ (List.mem_of_getElem? (i := 672) (by decide +kernel))) (by decide +kernel), zG_mem (List.mem_append_right _ (List.mem_of_getElem? (i := 6) (by decide +kernel))) (by decide +kernel), by decide, by decide, by decide +kernel⟩
theorem cb_M_number : zCb M_M_number 0 := ⟨zG_mem (List.mem_append_right _ (List.mem_of_getElem? (i := 668) (by decide +kernel))) (by decide +kernel), zG_mem (List.mem_append_right _ (List.mem_of_getElem? (i := 6) (by decide +kernel))) (by decide +kernel), by decide, by decide, by decide +kernel⟩
theorem cb_M_occurs : zCb M_M_occurs 1 := ⟨zG_mem (List.mem_append_right _ (List.mem_of_getElem? (i := 676) (by decide +kernel))) (by decide +kernel), zG_mem (List.mem_append_right _ (List.mem_of_getElem? (i := 6) (by decide +kernel))) (by decide +kernel), by decide, by decide, by decide +kernel⟩
theorem cb_M_ones : zCb M_M_ones 1 := ⟨zG_mem (List.mem_append_right _ (List.mem_of_getElem? (i := 683) (by decide +kernel))) (by decide +kernel), zG_mem (List.mem_append_right _ (List.mem_of_getElem? (i := 6) (by decide +kernel))) (by decide +kernel), by decide, by decide, by decide +kernel⟩
theorem cb_M_opposite : zCb M_M_opposite 1 := ⟨zG_mem (List.mem_append_right _ (List.mem_of_getElem? (i := 747) (by decide +kernel))) (by decide +kernel), zG_mem (List.mem_append_right _ (List.mem_of_getElem? (i := 6) (by decide +kernel))) (by decide +kernel), by decide, by decide, by decide +kernel⟩
theorem cb_M_other : zCb M_M_other 1 := ⟨zG_mem (List.mem_append_right _ (List.mem_of_getElem? (i := 590) (by decide +kernel))) (by decide +kernel), zG_mem (List.mem_append_right _ (List.mem_of_getElem? (i := 6) (by decide +kernel))) (by decide +kernel), by decide, by decide, by decide +kernel⟩
theorem cb_M_pieces : zCb M_M_pieces 0 := ⟨zG_mem (List.mem_append_right _ (List.mem_of_getElem? (i := 610) (by decide +kernel))) (by decide +kernel), zG_mem (List.mem_append_right _ (List.mem_of_getElem? (i := 6) (by decide +kernel))) (by decide +kernel), by decide, by decide, by decide +kernel⟩
theorem cb_M_poke : zCb M_M_poke 4 := ⟨zG_mem (List.mem_append_right _ (List.mem_of_getElem? (i := 728) (by decide +kernel))) (by decide +kernel), zG_mem (List.mem_append_right _ (List.mem_of_getElem? (i := 6) (by decide +kernel))) (by decide +kernel), by decide, by decide, by decide +kernel⟩
theorem cb_M_pull : zCb M_M_pull 4 := ⟨zG_mem (List.mem_append_right _ (List.mem_of_getElem? (i := 740) (by decide +kernel))) (by decide +kernel), zG_mem (List.mem_append_right _ (List.mem_of_getElem? (i := 6) (by decide +kernel))) (by decide +kernel), by decide, by decide, by decide +kernel⟩
theorem cb_M_put : zCb M_M_put 6 := ⟨zG_mem (List.mem_append_right _ (List.mem_of_getElem? (i := 570) (by decide +kernel))) (by decide +kernel), zG_mem (List.mem_append_right _ (List.mem_of_getElem? (i := 6) (by decide +kernel))) (by decide +kernel), by decide, by decide, by decide +kernel⟩
theorem cb_M_rounds : zCb M_M_rounds 1 := ⟨zG_mem (List.mem_append_right _ (List.mem_of_getElem? (i := 637) (by decide +kernel))) (by decide +kernel), zG_mem (List.mem_append_right _ (List.mem_of_getElem? (i := 6) (by decide +kernel))) (by decide +kernel), by decide, by decide, by decide +kernel⟩
theorem cb_M_second : zCb M_M_second 1 := ⟨zG_mem (List.mem_append_right _ (List.mem_of_getElem? (i := 664) (by decide +kernel))) (by decide +kernel), zG_mem (List.mem_append_right _ (List.mem_of_getElem? (i := 6) (by decide +kernel))) (by decide +kernel), by decide, by decide, by decide +kernel⟩
theorem cb_M_size : zCb M_M_size 1 := ⟨zG_mem (List.mem_append_right _ (List.mem_of_getElem? (i := 629) (by decide +kernel))) (by decide +kernel), zG_mem (List.mem_append_right _ (List.mem_of_getElem? (i := 6) (by decide +kernel))) (by decide +kernel), by decide, by decide, by decide +kernel⟩
theorem cb_M_slide : zCb M_M_slide 3 := ⟨zG_mem (List.mem_append_right _ (List.mem_of_getElem? (i := 751) (by decide +kernel))) (by decide +kernel), zG_mem (List.mem_append_right _ (List.mem_of_getElem? (i := 6) (by decide +kernel))) (by decide +kernel), by decide, by decide, by decide +kernel⟩
theorem cb_M_slideEdge : zCb M_M_slideEdge 1 := ⟨zG_mem (List.mem_append_right _ (List.mem_of_getElem? (i := 755) (by decide +kernel))) (by decide +kernel), zG_mem (List.mem_append_right _ (List.mem_of_getElem? (i := 6) (by decide +kernel))) (by decide +kernel), by decide, by decide, by decide +kernel⟩
theorem cb_M_spread : zCb M_M_spread 1 := ⟨zG_mem (List.mem_append_right _ (List.mem_of_getElem? (i := 618) (by decide +kernel))) (by decide +kernel), zG_mem (List.mem_append_right _ (List.mem_of_getElem? (i := 6) (by decide +kernel))) (by decide +kernel), by decide, by decide, by decide +kernel⟩
theorem cb_M_take : zCb M_M_take 1 := ⟨zG_mem (List.mem_append_right _ (List.mem_of_getElem? (i := 578) (by decide +kernel))) (by decide +kernel), zG_mem (List.mem_append_right _ (List.mem_of_getElem? (i := 6) (by decide +kernel))) (by decide +kernel), by decide, by decide, by decide +kernel⟩
theorem cb_M_takeOut : zCb M_M_takeOut 1 := ⟨zG_mem (List.mem_append_right _ (List.mem_of_getElem? (i := 720) (by decide +kernel))) (by decide +kernel), zG_mem (List.mem_append_right _ (List.mem_of_getElem? (i := 6) (by decide +kernel))) (by decide +kernel), by decide, by decide, by decide +kernel⟩
theorem cb_M_through : zCb M_M_through 2 := ⟨zG_mem (List.mem_append_right _ (List.mem_of_getElem? (i := 640) (by decide +kernel))) (by decide +kernel), zG_mem (List.mem_append_right _ (List.mem_of_getElem? (i := 6) (by decide +kernel))) (by decide +kernel), by decide, by decide, by decide +kernel⟩
theorem cb_M_twist : zCb M_M_twist 2 := ⟨zG_mem (List.mem_append_right _ (List.mem_of_getElem? (i := 692) (by decide +kernel))) (by decide +kernel), zG_mem (List.mem_append_right _ (List.mem_of_getElem? (i := 6) (by decide +kernel))) (by decide +kernel), by decide, by decide, by decide +kernel⟩
theorem cb_M_unpoke : zCb M_M_unpoke 2 := ⟨zG_mem (List.mem_append_right _ (List.mem_of_getElem? (i := 732) (by decide +kernel))) (by decide +kernel), zG_mem (List.mem_append_right _ (List.mem_of_getElem? (i := 6) (by decide +kernel))) (by decide +kernel), by decide, by decide, by decide +kernel⟩
theorem cb_M_untwist : zCb M_M_untwist 1 := ⟨zG_mem (List.mem_append_right _ (List.mem_of_getElem? (i := 712) (by decide +kernel))) (by decide +kernel), zG_mem (List.mem_append_right _ (List.mem_of_getElem? (i := 6) (by decide +kernel))) (by decide +kernel), by decide, by decide, by decide +kernel⟩
theorem cb_M_writhe : zCb M_M_writhe 0 := ⟨zG_mem (List.mem_append_right _ (List.mem_of_getElem? (i := 644) (by decide +kernel))) (by decide +kernel), zG_mem (List.mem_append_right _ (List.mem_of_getElem? (i := 6) (by decide +kernel))) (by decide +kernel), by decide, by decide, by decide +kernel⟩
theorem cb_R_addEntry : zCb M_R_addEntry 5 := ⟨zG_mem (List.mem_append_right _ (List.mem_of_getElem? (i := 369) (by decide +kernel))) (by decide +kernel), zG_mem (List.mem_append_right _ (List.mem_of_getElem? (i := 5) (by decide +kernel))) (by decide +kernel), by decide, by decide, by decide +kernel⟩
theorem cb_R_addProduct : zCb M_R_addProduct 3 := ⟨zG_mem (List.mem_append_right _ (List.mem_of_getElem? (i := 381) (by decide +kernel))) (by decide +kernel), zG_mem (List.mem_append_right _ (List.mem_of_getElem? (i := 5) (by decide +kernel))) (by decide +kernel), by decide, by decide, by decide +kernel⟩
theorem cb_R_coefficient : zCb M_R_coefficient 3 := ⟨zG_mem (List.mem_append_right _ (List.mem_of_getElem? (i := 342) (by decide +kernel))) (by decide +kernel), zG_mem (List.mem_append_right _ (List.mem_of_getElem? (i := 5) (by decide +kernel))) (by decide +kernel), by decide, by decide, by decide +kernel⟩
theorem cb_R_expandMinors : zCb M_R_expandMinors 1 := ⟨zG_mem (List.mem_append_right _ (List.mem_of_getElem? (i := 375) (by decide +kernel))) (by decide +kernel), zG_mem (List.mem_append_right _ (List.mem_of_getElem? (i := 5) (by decide +kernel))) (by decide +kernel), by decide, by decide, by decide +kernel⟩
theorem cb_R_fillMatrix : zCb M_R_fillMatrix 2 := ⟨zG_mem (List.mem_append_right _ (List.mem_of_getElem? (i := 363) (by decide +kernel))) (by decide +kernel), zG_mem (List.mem_append_right _ (List.mem_of_getElem? (i := 5) (by decide +kernel))) (by decide +kernel), by decide, by decide, by decide +kernel⟩
theorem cb_R_init : zCb M_R_init 0 := ⟨zG_mem (List.mem_append_right _ (List.mem_of_getElem? (i := 70) (by decide +kernel))) (by decide +kernel), zG_mem (List.mem_append_right _ (List.mem_of_getElem? (i := 5) (by decide +kernel))) (by decide +kernel), by decide, by decide, by decide +kernel⟩
theorem cb_R_mergeArcs : zCb M_R_mergeArcs 2 := ⟨zG_mem (List.mem_append_right _ (List.mem_of_getElem? (i := 352) (by decide +kernel))) (by decide +kernel), zG_mem (List.mem_append_right _ (List.mem_of_getElem? (i := 5) (by decide +kernel))) (by decide +kernel), by decide, by decide, by decide +kernel⟩
theorem cb_R_normalCoefficient : zCb M_R_normalCoefficient 2 := ⟨zG_mem (List.mem_append_right _ (List.mem_of_getElem? (i := 385) (by decide +kernel))) (by decide +kernel), zG_mem (List.mem_append_right _ (List.mem_of_getElem? (i := 5) (by decide +kernel))) (by decide +kernel), by decide, by decide, by decide +kernel⟩
theorem cb_R_numberArcs : zCb M_R_numberArcs 1 := ⟨zG_mem (List.mem_append_right _ (List.mem_of_getElem? (i := 346) (by decide +kernel))) (by decide +kernel), zG_mem (List.mem_append_right _ (List.mem_of_getElem? (i := 5) (by decide +kernel))) (by decide +kernel), by decide, by decide, by decide +kernel⟩
theorem cb_S_faces : zCb M_S_faces 1 := ⟨zG_mem (List.mem_append_right _ (List.mem_of_getElem? (i := 195) (by decide +kernel))) (by decide +kernel), zG_mem (List.mem_append_right _ (List.mem_of_getElem? (i := 3) (by decide +kernel))) (by decide +kernel), by decide, by decide, by decide +kernel⟩
theorem cb_S_fits : zCb M_S_fits 1 := ⟨zG_mem (List.mem_append_right _ (List.mem_of_getElem? (i := 161) (by decide +kernel))) (by decide +kernel), zG_mem (List.mem_append_right _ (List.mem_of_getElem? (i := 3) (by decide +kernel))) (by decide +kernel), by decide, by decide, by decide +kernel⟩
theorem cb_S_fitsAt : zCb M_S_fitsAt 2 := ⟨zG_mem (List.mem_append_right _ (List.mem_of_getElem? (i := 169) (by decide +kernel))) (by decide +kernel), zG_mem (List.mem_append_right _ (List.mem_of_getElem? (i := 3) (by decide +kernel))) (by decide +kernel), by decide, by decide, by decide +kernel⟩
theorem cb_S_init : zCb M_S_init 0 := ⟨zG_mem (List.mem_append_right _ (List.mem_of_getElem? (i := 40) (by decide +kernel))) (by decide +kernel), zG_mem (List.mem_append_right _ (List.mem_of_getElem? (i := 3) (by decide +kernel))) (by decide +kernel), by decide, by decide, by decide +kernel⟩
theorem cb_S_isFlat : zCb M_S_isFlat 1 := ⟨zG_mem (List.mem_append_right _ (List.mem_of_getElem? (i := 191) (by decide +kernel))) (by decide +kernel), zG_mem (List.mem_append_right _ (List.mem_of_getElem? (i := 3) (by decide +kernel))) (by decide +kernel), by decide, by decide, by decide +kernel⟩
theorem cb_S_markFace : zCb M_S_markFace 2 := ⟨zG_mem (List.mem_append_right _ (List.mem_of_getElem? (i := 202) (by decide +kernel))) (by decide +kernel), zG_mem (List.mem_append_right _ (List.mem_of_getElem? (i := 3) (by decide +kernel))) (by decide +kernel), by decide, by decide, by decide +kernel⟩
theorem cb_S_markStrand : zCb M_S_markStrand 2 := ⟨zG_mem (List.mem_append_right _ (List.mem_of_getElem? (i := 272) (by decide +kernel))) (by decide +kernel), zG_mem (List.mem_append_right _ (List.mem_of_getElem? (i := 3) (by decide +kernel))) (by decide +kernel), by decide, by decide, by decide +kernel⟩
theorem cb_S_mergePieces : zCb M_S_mergePieces 2 := ⟨zG_mem (List.mem_append_right _ (List.mem_of_getElem? (i := 225) (by decide +kernel))) (by decide +kernel), zG_mem (List.mem_append_right _ (List.mem_of_getElem? (i := 3) (by decide +kernel))) (by decide +kernel), by decide, by decide, by decide +kernel⟩
theorem cb_S_pieces : zCb M_S_pieces 1 := ⟨zG_mem (List.mem_append_right _ (List.mem_of_getElem? (i := 219) (by decide +kernel))) (by decide +kernel), zG_mem (List.mem_append_right _ (List.mem_of_getElem? (i := 3) (by decide +kernel))) (by decide +kernel), by decide, by decide, by decide +kernel⟩
theorem cb_S_sameFace : zCb M_S_sameFace 3 := ⟨zG_mem (List.mem_append_right _ (List.mem_of_getElem? (i := 430) (by decide +kernel))) (by decide +kernel), zG_mem (List.mem_append_right _ (List.mem_of_getElem? (i := 3) (by decide +kernel))) (by decide +kernel), by decide, by decide, by decide +kernel⟩
theorem cb_S_strands : zCb M_S_strands 1 := ⟨zG_mem (List.mem_append_right _ (List.mem_of_getElem? (i := 268) (by decide +kernel))) (by decide +kernel), zG_mem (List.mem_append_right _ (List.mem_of_getElem? (i := 3) (by decide +kernel))) (by decide +kernel), by decide, by decide, by decide +kernel⟩
theorem c_R_5 : Cond.methodLink "LinkDiagram$ArcMatrix" 5 objectInit ∈ zG := zG_mem (List.mem_append_right _ (List.mem_of_getElem? (i := 71) (by decide +kernel))) (by decide +kernel)
theorem c_R_28 : zV "LinkDiagram$ArcMatrix" 28 0 M_R_numberArcs 1 := ⟨cb_R_numberArcs, Or.inl (zG_mem (List.mem_append_right _ (List.mem_of_getElem? (i := 343) (by decide +kernel))) (by decide +kernel)), zG_mem (List.mem_append_right _ (List.mem_of_getElem? (i := 345) (by decide +kernel))) (by decide +kernel), zG_mem (List.mem_append_left _ (List.mem_of_getElem? (i := 12) (by decide +kernel))) (by decide +kernel), T_R, 5, rfl⟩
theorem c_R_32 : zV "LinkDiagram$ArcMatrix" 32 2 M_C_size 0 := ⟨cb_C_size, Or.inl (zG_mem (List.mem_append_right _ (List.mem_of_getElem? (i := 347) (by decide +kernel))) (by decide +kernel)), zG_mem (List.mem_append_right _ (List.mem_of_getElem? (i := 140) (by decide +kernel))) (by decide +kernel), zG_mem (List.mem_append_right _ (List.mem_of_getElem? (i := 141) (by decide +kernel))) (by decide +kernel), T_C, 3, rfl⟩
theorem c_R_38 : zV "LinkDiagram$ArcMatrix" 38 0 M_R_fillMatrix 2 := ⟨cb_R_fillMatrix, Or.inl (zG_mem (List.mem_append_right _ (List.mem_of_getElem? (i := 360) (by decide +kernel))) (by decide +kernel)), zG_mem (List.mem_append_right _ (List.mem_of_getElem? (i := 362) (by decide +kernel))) (by decide +kernel), zG_mem (List.mem_append_left _ (List.mem_of_getElem? (i := 14) (by decide +kernel))) (by decide +kernel), T_R, 5, rfl⟩
theorem c_R_42 : zV "LinkDiagram$ArcMatrix" 42 0 M_R_expandMinors 1 := ⟨cb_R_expandMinors, Or.inl (zG_mem (List.mem_append_right _ (List.mem_of_getElem? (i := 372) (by decide +kernel))) (by decide +kernel)), zG_mem (List.mem_append_right _ (List.mem_of_getElem? (i := 374) (by decide +kernel))) (by decide +kernel), zG_mem (List.mem_append_left _ (List.mem_of_getElem? (i := 16) (by decide +kernel))) (by decide +kernel), T_R, 5, rfl⟩
theorem c_R_46 : zV "LinkDiagram$ArcMatrix" 46 0 M_R_normalCoefficient 2 := ⟨cb_R_normalCoefficient, Or.inl (zG_mem (List.mem_append_right _ (List.mem_of_getElem? (i := 382) (by decide +kernel))) (by decide +kernel)), zG_mem (List.mem_append_right _ (List.mem_of_getElem? (i := 384) (by decide +kernel))) (by decide +kernel), zG_mem (List.mem_append_left _ (List.mem_of_getElem? (i := 18) (by decide +kernel))) (by decide +kernel), T_R, 5, rfl⟩
theorem c_R_50 : zV "LinkDiagram$ArcMatrix" 50 2 M_C_edgeAt 1 := ⟨cb_C_edgeAt, Or.inl (zG_mem (List.mem_append_right _ (List.mem_of_getElem? (i := 348) (by decide +kernel))) (by decide +kernel)), zG_mem (List.mem_append_right _ (List.mem_of_getElem? (i := 171) (by decide +kernel))) (by decide +kernel), zG_mem (List.mem_append_right _ (List.mem_of_getElem? (i := 172) (by decide +kernel))) (by decide +kernel), T_C, 3, rfl⟩
theorem c_R_54 : zV "LinkDiagram$ArcMatrix" 54 0 M_R_mergeArcs 2 := ⟨cb_R_mergeArcs, Or.inl (zG_mem (List.mem_append_right _ (List.mem_of_getElem? (i := 349) (by decide +kernel))) (by decide +kernel)), zG_mem (List.mem_append_right _ (List.mem_of_getElem? (i := 351) (by decide +kernel))) (by decide +kernel), zG_mem (List.mem_append_left _ (List.mem_of_getElem? (i := 13) (by decide +kernel))) (by decide +kernel), T_R, 5, rfl⟩
theorem c_R_58 : zV "LinkDiagram$ArcMatrix" 58 2 M_C_occurs 1 := ⟨cb_C_occurs, Or.inl (zG_mem (List.mem_append_right _ (List.mem_of_getElem? (i := 356) (by decide +kernel))) (by decide +kernel)), zG_mem (List.mem_append_right _ (List.mem_of_getElem? (i := 357) (by decide +kernel))) (by decide +kernel), zG_mem (List.mem_append_right _ (List.mem_of_getElem? (i := 358) (by decide +kernel))) (by decide +kernel), T_C, 3, rfl⟩
theorem c_R_62 : Cond.methodLink "LinkDiagram$ArcMatrix" 62 Lib.Math.min.name ∈ zG := zG_mem (List.mem_append_right _ (List.mem_of_getElem? (i := 353) (by decide +kernel))) (by decide +kernel)
theorem c_R_68 : zS "LinkDiagram$ArcMatrix" 68 M_F_fillI 2 := ⟨cb_F_fillI, Or.inl (zG_mem (List.mem_append_right _ (List.mem_of_getElem? (i := 364) (by decide +kernel))) (by decide +kernel)), zG_mem (List.mem_append_right _ (List.mem_of_getElem? (i := 197) (by decide +kernel))) (by decide +kernel)⟩
theorem c_R_74 : zV "LinkDiagram$ArcMatrix" 74 2 M_C_isPositive 1 := ⟨cb_C_isPositive, Or.inl (zG_mem (List.mem_append_right _ (List.mem_of_getElem? (i := 365) (by decide +kernel))) (by decide +kernel)), zG_mem (List.mem_append_right _ (List.mem_of_getElem? (i := 185) (by decide +kernel))) (by decide +kernel), zG_mem (List.mem_append_right _ (List.mem_of_getElem? (i := 186) (by decide +kernel))) (by decide +kernel), T_C, 3, rfl⟩
theorem c_R_77 : zV "LinkDiagram$ArcMatrix" 77 0 M_R_addEntry 5 := ⟨cb_R_addEntry, Or.inl (zG_mem (List.mem_append_right _ (List.mem_of_getElem? (i := 366) (by decide +kernel))) (by decide +kernel)), zG_mem (List.mem_append_right _ (List.mem_of_getElem? (i := 368) (by decide +kernel))) (by decide +kernel), zG_mem (List.mem_append_left _ (List.mem_of_getElem? (i := 15) (by decide +kernel))) (by decide +kernel), T_R, 5, rfl⟩
theorem c_R_81 : zS "LinkDiagram$ArcMatrix" 81 M_A_opposite 1 := ⟨cb_A_opposite, Or.inr ⟨"LinkDiagram", List.mem_of_getElem? (i := 11) (by decide +kernel)⟩, zG_mem (List.mem_append_right _ (List.mem_of_getElem? (i := 274) (by decide +kernel))) (by decide +kernel)⟩
theorem c_R_84 : zS "LinkDiagram$ArcMatrix" 84 M_A_crossingOf 1 := ⟨cb_A_crossingOf, Or.inr ⟨"LinkDiagram", List.mem_of_getElem? (i := 10) (by decide +kernel)⟩, zG_mem (List.mem_append_right _ (List.mem_of_getElem? (i := 182) (by decide +kernel))) (by decide +kernel)⟩
theorem c_R_87 : zS "LinkDiagram$ArcMatrix" 87 M_F_fillL 2 := ⟨cb_F_fillL, Or.inl (zG_mem (List.mem_append_right _ (List.mem_of_getElem? (i := 376) (by decide +kernel))) (by decide +kernel)), zG_mem (List.mem_append_right _ (List.mem_of_getElem? (i := 324) (by decide +kernel))) (by decide +kernel)⟩
theorem c_R_90 : zS "LinkDiagram$ArcMatrix" 90 M_I_bitCount 1 := ⟨cb_I_bitCount, Or.inl (zG_mem (List.mem_append_right _ (List.mem_of_getElem? (i := 377) (by decide +kernel))) (by decide +kernel)), zG_mem (List.mem_append_right _ (List.mem_of_getElem? (i := 318) (by decide +kernel))) (by decide +kernel)⟩
theorem c_R_95 : zV "LinkDiagram$ArcMatrix" 95 0 M_R_addProduct 3 := ⟨cb_R_addProduct, Or.inl (zG_mem (List.mem_append_right _ (List.mem_of_getElem? (i := 378) (by decide +kernel))) (by decide +kernel)), zG_mem (List.mem_append_right _ (List.mem_of_getElem? (i := 380) (by decide +kernel))) (by decide +kernel), zG_mem (List.mem_append_left _ (List.mem_of_getElem? (i := 17) (by decide +kernel))) (by decide +kernel), T_R, 5, rfl⟩
theorem c_B_5 : Cond.methodLink "LinkDiagram$Bracket" 5 objectInit ∈ zG := zG_mem (List.mem_append_right _ (List.mem_of_getElem? (i := 54) (by decide +kernel))) (by decide +kernel)
theorem c_B_26 : zV "LinkDiagram$Bracket" 26 1 M_B_tallyStates 2 := ⟨cb_B_tallyStates, Or.inl (zG_mem (List.mem_append_right _ (List.mem_of_getElem? (i := 300) (by decide +kernel))) (by decide +kernel)), zG_mem (List.mem_append_right _ (List.mem_of_getElem? (i := 302) (by decide +kernel))) (by decide +kernel), zG_mem (List.mem_append_left _ (List.mem_of_getElem? (i := 7) (by decide +kernel))) (by decide +kernel), T_B, 3, rfl⟩
theorem c_B_30 : zS "LinkDiagram$Bracket" 30 M_F_fillL 2 := ⟨cb_F_fillL, Or.inl (zG_mem (List.mem_append_right _ (List.mem_of_getElem? (i := 323) (by decide +kernel))) (by decide +kernel)), zG_mem (List.mem_append_right _ (List.mem_of_getElem? (i := 324) (by decide +kernel))) (by decide +kernel)⟩
theorem c_B_36 : zV "LinkDiagram$Bracket" 36 1 M_B_multiplyByCurve 0 := ⟨cb_B_multiplyByCurve, Or.inl (zG_mem (List.mem_append_right _ (List.mem_of_getElem? (i := 326) (by decide +kernel))) (by decide +kernel)), zG_mem (List.mem_append_right _ (List.mem_of_getElem? (i := 328) (by decide +kernel))) (by decide +kernel), zG_mem (List.mem_append_left _ (List.mem_of_getElem? (i := 10) (by decide +kernel))) (by decide +kernel), T_B, 3, rfl⟩
theorem c_B_39 : zV "LinkDiagram$Bracket" 39 2 M_C_size 0 := ⟨cb_C_size, Or.inl (zG_mem (List.mem_append_right _ (List.mem_of_getElem? (i := 307) (by decide +kernel))) (by decide +kernel)), zG_mem (List.mem_append_right _ (List.mem_of_getElem? (i := 140) (by decide +kernel))) (by decide +kernel), zG_mem (List.mem_append_right _ (List.mem_of_getElem? (i := 141) (by decide +kernel))) (by decide +kernel), T_C, 3, rfl⟩
theorem c_B_45 : zV "LinkDiagram$Bracket" 45 1 M_B_addStates 2 := ⟨cb_B_addStates, Or.inl (zG_mem (List.mem_append_right _ (List.mem_of_getElem? (i := 330) (by decide +kernel))) (by decide +kernel)), zG_mem (List.mem_append_right _ (List.mem_of_getElem? (i := 332) (by decide +kernel))) (by decide +kernel), zG_mem (List.mem_append_left _ (List.mem_of_getElem? (i := 11) (by decide +kernel))) (by decide +kernel), T_B, 3, rfl⟩
theorem c_B_49 : zS "LinkDiagram$Bracket" 49 M_F_fillI 2 := ⟨cb_F_fillI, Or.inl (zG_mem (List.mem_append_right _ (List.mem_of_getElem? (i := 304) (by decide +kernel))) (by decide +kernel)), zG_mem (List.mem_append_right _ (List.mem_of_getElem? (i := 197) (by decide +kernel))) (by decide +kernel)⟩
theorem c_B_52 : zV "LinkDiagram$Bracket" 52 2 M_C_ends 0 := ⟨cb_C_ends, Or.inl (zG_mem (List.mem_append_right _ (List.mem_of_getElem? (i := 305) (by decide +kernel))) (by decide +kernel)), zG_mem (List.mem_append_right _ (List.mem_of_getElem? (i := 163) (by decide +kernel))) (by decide +kernel), zG_mem (List.mem_append_right _ (List.mem_of_getElem? (i := 164) (by decide +kernel))) (by decide +kernel), T_C, 3, rfl⟩
theorem c_B_55 : zV "LinkDiagram$Bracket" 55 2 M_C_otherEnd 1 := ⟨cb_C_otherEnd, Or.inl (zG_mem (List.mem_append_right _ (List.mem_of_getElem? (i := 306) (by decide +kernel))) (by decide +kernel)), zG_mem (List.mem_append_right _ (List.mem_of_getElem? (i := 208) (by decide +kernel))) (by decide +kernel), zG_mem (List.mem_append_right _ (List.mem_of_getElem? (i := 209) (by decide +kernel))) (by decide +kernel), T_C, 3, rfl⟩
theorem c_B_59 : zV "LinkDiagram$Bracket" 59 1 M_B_curvesOf 2 := ⟨cb_B_curvesOf, Or.inl (zG_mem (List.mem_append_right _ (List.mem_of_getElem? (i := 308) (by decide +kernel))) (by decide +kernel)), zG_mem (List.mem_append_right _ (List.mem_of_getElem? (i := 310) (by decide +kernel))) (by decide +kernel), zG_mem (List.mem_append_left _ (List.mem_of_getElem? (i := 8) (by decide +kernel))) (by decide +kernel), T_B, 3, rfl⟩
theorem c_B_63 : zS "LinkDiagram$Bracket" 63 M_I_bitCount 1 := ⟨cb_I_bitCount, Or.inl (zG_mem (List.mem_append_right _ (List.mem_of_getElem? (i := 317) (by decide +kernel))) (by decide +kernel)), zG_mem (List.mem_append_right _ (List.mem_of_getElem? (i := 318) (by decide +kernel))) (by decide +kernel)⟩
theorem c_B_68 : zV "LinkDiagram$Bracket" 68 1 M_B_seenWithCurve 3 := ⟨cb_B_seenWithCurve, Or.inl (zG_mem (List.mem_append_right _ (List.mem_of_getElem? (i := 312) (by decide +kernel))) (by decide +kernel)), zG_mem (List.mem_append_right _ (List.mem_of_getElem? (i := 314) (by decide +kernel))) (by decide +kernel), zG_mem (List.mem_append_left _ (List.mem_of_getElem? (i := 9) (by decide +kernel))) (by decide +kernel), T_B, 3, rfl⟩
theorem c_B_72 : zS "LinkDiagram$Bracket" 72 M_A_crossingOf 1 := ⟨cb_A_crossingOf, Or.inr ⟨"LinkDiagram", List.mem_of_getElem? (i := 9) (by decide +kernel)⟩, zG_mem (List.mem_append_right _ (List.mem_of_getElem? (i := 182) (by decide +kernel))) (by decide +kernel)⟩
theorem c_C_3 : Cond.methodLink "LinkDiagram$Crossings" 3 objectInit ∈ zG := zG_mem (List.mem_append_right _ (List.mem_of_getElem? (i := 24) (by decide +kernel))) (by decide +kernel)
theorem c_C_22 : zV "LinkDiagram$Crossings" 22 2 M_C_isFull 0 := ⟨cb_C_isFull, Or.inl (zG_mem (List.mem_append_right _ (List.mem_of_getElem? (i := 134) (by decide +kernel))) (by decide +kernel)), zG_mem (List.mem_append_right _ (List.mem_of_getElem? (i := 124) (by decide +kernel))) (by decide +kernel), zG_mem (List.mem_append_right _ (List.mem_of_getElem? (i := 125) (by decide +kernel))) (by decide +kernel), T_C, 3, rfl⟩
theorem c_C_26 : zV "LinkDiagram$Crossings" 26 2 M_C_has 1 := ⟨cb_C_has, Or.inl (zG_mem (List.mem_append_right _ (List.mem_of_getElem? (i := 147) (by decide +kernel))) (by decide +kernel)), zG_mem (List.mem_append_right _ (List.mem_of_getElem? (i := 148) (by decide +kernel))) (by decide +kernel), zG_mem (List.mem_append_right _ (List.mem_of_getElem? (i := 149) (by decide +kernel))) (by decide +kernel), T_C, 3, rfl⟩
theorem c_C_30 : Cond.methodLink "LinkDiagram$Crossings" 30 arraycopyName ∈ zG := zG_mem (List.mem_append_right _ (List.mem_of_getElem? (i := 151) (by decide +kernel))) (by decide +kernel)
theorem c_C_36 : zS "LinkDiagram$Crossings" 36 M_A_isUpper 1 := ⟨cb_A_isUpper, Or.inr ⟨"LinkDiagram", List.mem_of_getElem? (i := 4) (by decide +kernel)⟩, zG_mem (List.mem_append_right _ (List.mem_of_getElem? (i := 179) (by decide +kernel))) (by decide +kernel)⟩
theorem c_C_39 : zS "LinkDiagram$Crossings" 39 M_A_crossingOf 1 := ⟨cb_A_crossingOf, Or.inr ⟨"LinkDiagram", List.mem_of_getElem? (i := 5) (by decide +kernel)⟩, zG_mem (List.mem_append_right _ (List.mem_of_getElem? (i := 182) (by decide +kernel))) (by decide +kernel)⟩
theorem c_C_43 : zV "LinkDiagram$Crossings" 43 2 M_C_isPositive 1 := ⟨cb_C_isPositive, Or.inl (zG_mem (List.mem_append_right _ (List.mem_of_getElem? (i := 184) (by decide +kernel))) (by decide +kernel)), zG_mem (List.mem_append_right _ (List.mem_of_getElem? (i := 185) (by decide +kernel))) (by decide +kernel), zG_mem (List.mem_append_right _ (List.mem_of_getElem? (i := 186) (by decide +kernel))) (by decide +kernel), T_C, 3, rfl⟩
theorem c_C_46 : zV "LinkDiagram$Crossings" 46 2 M_C_ends 0 := ⟨cb_C_ends, Or.inl (zG_mem (List.mem_append_right _ (List.mem_of_getElem? (i := 211) (by decide +kernel))) (by decide +kernel)), zG_mem (List.mem_append_right _ (List.mem_of_getElem? (i := 163) (by decide +kernel))) (by decide +kernel), zG_mem (List.mem_append_right _ (List.mem_of_getElem? (i := 164) (by decide +kernel))) (by decide +kernel), T_C, 3, rfl⟩
theorem c_C_50 : zV "LinkDiagram$Crossings" 50 2 M_C_otherEnd 1 := ⟨cb_C_otherEnd, Or.inl (zG_mem (List.mem_append_right _ (List.mem_of_getElem? (i := 207) (by decide +kernel))) (by decide +kernel)), zG_mem (List.mem_append_right _ (List.mem_of_getElem? (i := 208) (by decide +kernel))) (by decide +kernel), zG_mem (List.mem_append_right _ (List.mem_of_getElem? (i := 209) (by decide +kernel))) (by decide +kernel), T_C, 3, rfl⟩
theorem c_C_53 : zS "LinkDiagram$Crossings" 53 M_A_turned 2 := ⟨cb_A_turned, Or.inr ⟨"LinkDiagram", List.mem_of_getElem? (i := 6) (by decide +kernel)⟩, zG_mem (List.mem_append_right _ (List.mem_of_getElem? (i := 213) (by decide +kernel))) (by decide +kernel)⟩
theorem c_C_57 : zV "LinkDiagram$Crossings" 57 2 M_C_comesIn 1 := ⟨cb_C_comesIn, Or.inl (zG_mem (List.mem_append_right _ (List.mem_of_getElem? (i := 407) (by decide +kernel))) (by decide +kernel)), zG_mem (List.mem_append_right _ (List.mem_of_getElem? (i := 175) (by decide +kernel))) (by decide +kernel), zG_mem (List.mem_append_right _ (List.mem_of_getElem? (i := 176) (by decide +kernel))) (by decide +kernel), T_C, 3, rfl⟩
theorem c_C_60 : zV "LinkDiagram$Crossings" 60 2 M_C_outgoing 1 := ⟨cb_C_outgoing, Or.inl (zG_mem (List.mem_append_right _ (List.mem_of_getElem? (i := 451) (by decide +kernel))) (by decide +kernel)), zG_mem (List.mem_append_right _ (List.mem_of_getElem? (i := 452) (by decide +kernel))) (by decide +kernel), zG_mem (List.mem_append_right _ (List.mem_of_getElem? (i := 453) (by decide +kernel))) (by decide +kernel), T_C, 3, rfl⟩
theorem c_C_63 : zS "LinkDiagram$Crossings" 63 M_A_opposite 1 := ⟨cb_A_opposite, Or.inr ⟨"LinkDiagram", List.mem_of_getElem? (i := 12) (by decide +kernel)⟩, zG_mem (List.mem_append_right _ (List.mem_of_getElem? (i := 274) (by decide +kernel))) (by decide +kernel)⟩
theorem c_C_66 : zV "LinkDiagram$Crossings" 66 2 M_C_incoming 1 := ⟨cb_C_incoming, Or.inl (zG_mem (List.mem_append_right _ (List.mem_of_getElem? (i := 460) (by decide +kernel))) (by decide +kernel)), zG_mem (List.mem_append_right _ (List.mem_of_getElem? (i := 461) (by decide +kernel))) (by decide +kernel), zG_mem (List.mem_append_right _ (List.mem_of_getElem? (i := 462) (by decide +kernel))) (by decide +kernel), T_C, 3, rfl⟩
theorem c_C_69 : zV "LinkDiagram$Crossings" 69 2 M_C_endOn 2 := ⟨cb_C_endOn, Or.inl (zG_mem (List.mem_append_right _ (List.mem_of_getElem? (i := 403) (by decide +kernel))) (by decide +kernel)), zG_mem (List.mem_append_right _ (List.mem_of_getElem? (i := 404) (by decide +kernel))) (by decide +kernel), zG_mem (List.mem_append_right _ (List.mem_of_getElem? (i := 405) (by decide +kernel))) (by decide +kernel), T_C, 3, rfl⟩
theorem c_S_3 : Cond.methodLink "LinkDiagram$Shape" 3 objectInit ∈ zG := zG_mem (List.mem_append_right _ (List.mem_of_getElem? (i := 41) (by decide +kernel))) (by decide +kernel)
theorem c_S_18 : zV "LinkDiagram$Shape" 18 2 M_C_ends 0 := ⟨cb_C_ends, Or.inl (zG_mem (List.mem_append_right _ (List.mem_of_getElem? (i := 162) (by decide +kernel))) (by decide +kernel)), zG_mem (List.mem_append_right _ (List.mem_of_getElem? (i := 163) (by decide +kernel))) (by decide +kernel), zG_mem (List.mem_append_right _ (List.mem_of_getElem? (i := 164) (by decide +kernel))) (by decide +kernel), T_C, 3, rfl⟩
theorem c_S_24 : zV "LinkDiagram$Shape" 24 3 M_S_fitsAt 2 := ⟨cb_S_fitsAt, Or.inl (zG_mem (List.mem_append_right _ (List.mem_of_getElem? (i := 166) (by decide +kernel))) (by decide +kernel)), zG_mem (List.mem_append_right _ (List.mem_of_getElem? (i := 168) (by decide +kernel))) (by decide +kernel), zG_mem (List.mem_append_left _ (List.mem_of_getElem? (i := 0) (by decide +kernel))) (by decide +kernel), T_S, 2, rfl⟩
theorem c_S_28 : zV "LinkDiagram$Shape" 28 2 M_C_edgeAt 1 := ⟨cb_C_edgeAt, Or.inl (zG_mem (List.mem_append_right _ (List.mem_of_getElem? (i := 170) (by decide +kernel))) (by decide +kernel)), zG_mem (List.mem_append_right _ (List.mem_of_getElem? (i := 171) (by decide +kernel))) (by decide +kernel), zG_mem (List.mem_append_right _ (List.mem_of_getElem? (i := 172) (by decide +kernel))) (by decide +kernel), T_C, 3, rfl⟩
theorem c_S_32 : zV "LinkDiagram$Shape" 32 2 M_C_comesIn 1 := ⟨cb_C_comesIn, Or.inl (zG_mem (List.mem_append_right _ (List.mem_of_getElem? (i := 174) (by decide +kernel))) (by decide +kernel)), zG_mem (List.mem_append_right _ (List.mem_of_getElem? (i := 175) (by decide +kernel))) (by decide +kernel), zG_mem (List.mem_append_right _ (List.mem_of_getElem? (i := 176) (by decide +kernel))) (by decide +kernel), T_C, 3, rfl⟩
theorem c_S_36 : zV "LinkDiagram$Shape" 36 3 M_S_faces 1 := ⟨cb_S_faces, Or.inl (zG_mem (List.mem_append_right _ (List.mem_of_getElem? (i := 192) (by decide +kernel))) (by decide +kernel)), zG_mem (List.mem_append_right _ (List.mem_of_getElem? (i := 193) (by decide +kernel))) (by decide +kernel), zG_mem (List.mem_append_right _ (List.mem_of_getElem? (i := 194) (by decide +kernel))) (by decide +kernel), T_S, 2, rfl⟩
theorem c_S_40 : zV "LinkDiagram$Shape" 40 2 M_C_size 0 := ⟨cb_C_size, Or.inl (zG_mem (List.mem_append_right _ (List.mem_of_getElem? (i := 215) (by decide +kernel))) (by decide +kernel)), zG_mem (List.mem_append_right _ (List.mem_of_getElem? (i := 140) (by decide +kernel))) (by decide +kernel), zG_mem (List.mem_append_right _ (List.mem_of_getElem? (i := 141) (by decide +kernel))) (by decide +kernel), T_C, 3, rfl⟩
theorem c_S_43 : zV "LinkDiagram$Shape" 43 3 M_S_pieces 1 := ⟨cb_S_pieces, Or.inl (zG_mem (List.mem_append_right _ (List.mem_of_getElem? (i := 216) (by decide +kernel))) (by decide +kernel)), zG_mem (List.mem_append_right _ (List.mem_of_getElem? (i := 217) (by decide +kernel))) (by decide +kernel), zG_mem (List.mem_append_right _ (List.mem_of_getElem? (i := 218) (by decide +kernel))) (by decide +kernel), T_S, 2, rfl⟩
theorem c_S_46 : zS "LinkDiagram$Shape" 46 M_F_fillI 2 := ⟨cb_F_fillI, Or.inl (zG_mem (List.mem_append_right _ (List.mem_of_getElem? (i := 196) (by decide +kernel))) (by decide +kernel)), zG_mem (List.mem_append_right _ (List.mem_of_getElem? (i := 197) (by decide +kernel))) (by decide +kernel)⟩
theorem c_S_52 : zV "LinkDiagram$Shape" 52 3 M_S_markFace 2 := ⟨cb_S_markFace, Or.inl (zG_mem (List.mem_append_right _ (List.mem_of_getElem? (i := 199) (by decide +kernel))) (by decide +kernel)), zG_mem (List.mem_append_right _ (List.mem_of_getElem? (i := 201) (by decide +kernel))) (by decide +kernel), zG_mem (List.mem_append_left _ (List.mem_of_getElem? (i := 1) (by decide +kernel))) (by decide +kernel), T_S, 2, rfl⟩
theorem c_S_56 : zV "LinkDiagram$Shape" 56 2 M_C_follow 1 := ⟨cb_C_follow, Or.inl (zG_mem (List.mem_append_right _ (List.mem_of_getElem? (i := 203) (by decide +kernel))) (by decide +kernel)), zG_mem (List.mem_append_right _ (List.mem_of_getElem? (i := 204) (by decide +kernel))) (by decide +kernel), zG_mem (List.mem_append_right _ (List.mem_of_getElem? (i := 205) (by decide +kernel))) (by decide +kernel), T_C, 3, rfl⟩
theorem c_S_59 : zS "LinkDiagram$Shape" 59 M_A_crossingOf 1 := ⟨cb_A_crossingOf, Or.inr ⟨"LinkDiagram", List.mem_of_getElem? (i := 7) (by decide +kernel)⟩, zG_mem (List.mem_append_right _ (List.mem_of_getElem? (i := 182) (by decide +kernel))) (by decide +kernel)⟩
theorem c_S_62 : zV "LinkDiagram$Shape" 62 2 M_C_otherEnd 1 := ⟨cb_C_otherEnd, Or.inl (zG_mem (List.mem_append_right _ (List.mem_of_getElem? (i := 221) (by decide +kernel))) (by decide +kernel)), zG_mem (List.mem_append_right _ (List.mem_of_getElem? (i := 208) (by decide +kernel))) (by decide +kernel), zG_mem (List.mem_append_right _ (List.mem_of_getElem? (i := 209) (by decide +kernel))) (by decide +kernel), T_C, 3, rfl⟩
theorem c_S_65 : zV "LinkDiagram$Shape" 65 3 M_S_mergePieces 2 := ⟨cb_S_mergePieces, Or.inl (zG_mem (List.mem_append_right _ (List.mem_of_getElem? (i := 222) (by decide +kernel))) (by decide +kernel)), zG_mem (List.mem_append_right _ (List.mem_of_getElem? (i := 224) (by decide +kernel))) (by decide +kernel), zG_mem (List.mem_append_left _ (List.mem_of_getElem? (i := 2) (by decide +kernel))) (by decide +kernel), T_S, 2, rfl⟩
theorem c_S_69 : zV "LinkDiagram$Shape" 69 3 M_S_markStrand 2 := ⟨cb_S_markStrand, Or.inl (zG_mem (List.mem_append_right _ (List.mem_of_getElem? (i := 269) (by decide +kernel))) (by decide +kernel)), zG_mem (List.mem_append_right _ (List.mem_of_getElem? (i := 271) (by decide +kernel))) (by decide +kernel), zG_mem (List.mem_append_left _ (List.mem_of_getElem? (i := 6) (by decide +kernel))) (by decide +kernel), T_S, 2, rfl⟩
theorem c_S_72 : zS "LinkDiagram$Shape" 72 M_A_opposite 1 := ⟨cb_A_opposite, Or.inr ⟨"LinkDiagram", List.mem_of_getElem? (i := 8) (by decide +kernel)⟩, zG_mem (List.mem_append_right _ (List.mem_of_getElem? (i := 274) (by decide +kernel))) (by decide +kernel)⟩
theorem c_A_1 : Cond.methodLink "LinkDiagram" 1 objectInit ∈ zG := zG_mem (List.mem_append_right _ (List.mem_of_getElem? (i := 16) (by decide +kernel))) (by decide +kernel)
theorem c_A_9 : zI "LinkDiagram" 9 M_C_init 0 := ⟨cb_C_init, Or.inr ⟨"LinkDiagram", List.mem_of_getElem? (i := 0) (by decide +kernel)⟩, zG_mem (List.mem_append_right _ (List.mem_of_getElem? (i := 22) (by decide +kernel))) (by decide +kernel), rfl, rfl⟩
theorem c_A_24 : zI "LinkDiagram" 24 M_S_init 0 := ⟨cb_S_init, Or.inr ⟨"LinkDiagram", List.mem_of_getElem? (i := 1) (by decide +kernel)⟩, zG_mem (List.mem_append_right _ (List.mem_of_getElem? (i := 39) (by decide +kernel))) (by decide +kernel), rfl, rfl⟩
theorem c_A_31 : zI "LinkDiagram" 31 M_B_init 0 := ⟨cb_B_init, Or.inr ⟨"LinkDiagram", List.mem_of_getElem? (i := 2) (by decide +kernel)⟩, zG_mem (List.mem_append_right _ (List.mem_of_getElem? (i := 52) (by decide +kernel))) (by decide +kernel), rfl, rfl⟩
theorem c_A_38 : zI "LinkDiagram" 38 M_R_init 0 := ⟨cb_R_init, Or.inr ⟨"LinkDiagram", List.mem_of_getElem? (i := 3) (by decide +kernel)⟩, zG_mem (List.mem_append_right _ (List.mem_of_getElem? (i := 69) (by decide +kernel))) (by decide +kernel), rfl, rfl⟩
theorem c_A_57 : zV "LinkDiagram" 57 2 M_C_isFull 0 := ⟨cb_C_isFull, Or.inl (zG_mem (List.mem_append_right _ (List.mem_of_getElem? (i := 123) (by decide +kernel))) (by decide +kernel)), zG_mem (List.mem_append_right _ (List.mem_of_getElem? (i := 124) (by decide +kernel))) (by decide +kernel), zG_mem (List.mem_append_right _ (List.mem_of_getElem? (i := 125) (by decide +kernel))) (by decide +kernel), T_C, 3, rfl⟩
theorem c_A_61 : zS "LinkDiagram" 61 M_A_isEdge 1 := ⟨cb_A_isEdge, Or.inl (zG_mem (List.mem_append_right _ (List.mem_of_getElem? (i := 127) (by decide +kernel))) (by decide +kernel)), zG_mem (List.mem_append_right _ (List.mem_of_getElem? (i := 128) (by decide +kernel))) (by decide +kernel)⟩
theorem c_A_65 : zV "LinkDiagram" 65 2 M_C_append 5 := ⟨cb_C_append, Or.inl (zG_mem (List.mem_append_right _ (List.mem_of_getElem? (i := 130) (by decide +kernel))) (by decide +kernel)), zG_mem (List.mem_append_right _ (List.mem_of_getElem? (i := 131) (by decide +kernel))) (by decide +kernel), zG_mem (List.mem_append_right _ (List.mem_of_getElem? (i := 132) (by decide +kernel))) (by decide +kernel), T_C, 3, rfl⟩
theorem c_A_69 : zV "LinkDiagram" 69 2 M_C_size 0 := ⟨cb_C_size, Or.inl (zG_mem (List.mem_append_right _ (List.mem_of_getElem? (i := 139) (by decide +kernel))) (by decide +kernel)), zG_mem (List.mem_append_right _ (List.mem_of_getElem? (i := 140) (by decide +kernel))) (by decide +kernel), zG_mem (List.mem_append_right _ (List.mem_of_getElem? (i := 141) (by decide +kernel))) (by decide +kernel), T_C, 3, rfl⟩
theorem c_A_73 : zV "LinkDiagram" 73 2 M_C_remove 1 := ⟨cb_C_remove, Or.inl (zG_mem (List.mem_append_right _ (List.mem_of_getElem? (i := 143) (by decide +kernel))) (by decide +kernel)), zG_mem (List.mem_append_right _ (List.mem_of_getElem? (i := 144) (by decide +kernel))) (by decide +kernel), zG_mem (List.mem_append_right _ (List.mem_of_getElem? (i := 145) (by decide +kernel))) (by decide +kernel), T_C, 3, rfl⟩
theorem c_A_77 : zV "LinkDiagram" 77 3 M_S_fits 1 := ⟨cb_S_fits, Or.inl (zG_mem (List.mem_append_right _ (List.mem_of_getElem? (i := 158) (by decide +kernel))) (by decide +kernel)), zG_mem (List.mem_append_right _ (List.mem_of_getElem? (i := 159) (by decide +kernel))) (by decide +kernel), zG_mem (List.mem_append_right _ (List.mem_of_getElem? (i := 160) (by decide +kernel))) (by decide +kernel), T_S, 2, rfl⟩
theorem c_A_81 : zV "LinkDiagram" 81 3 M_S_isFlat 1 := ⟨cb_S_isFlat, Or.inl (zG_mem (List.mem_append_right _ (List.mem_of_getElem? (i := 188) (by decide +kernel))) (by decide +kernel)), zG_mem (List.mem_append_right _ (List.mem_of_getElem? (i := 189) (by decide +kernel))) (by decide +kernel), zG_mem (List.mem_append_right _ (List.mem_of_getElem? (i := 190) (by decide +kernel))) (by decide +kernel), T_S, 2, rfl⟩
theorem c_A_84 : zV "LinkDiagram" 84 2 M_C_copyFrom 1 := ⟨cb_C_copyFrom, Or.inl (zG_mem (List.mem_append_right _ (List.mem_of_getElem? (i := 226) (by decide +kernel))) (by decide +kernel)), zG_mem (List.mem_append_right _ (List.mem_of_getElem? (i := 227) (by decide +kernel))) (by decide +kernel), zG_mem (List.mem_append_right _ (List.mem_of_getElem? (i := 228) (by decide +kernel))) (by decide +kernel), T_C, 3, rfl⟩
theorem c_A_88 : zV "LinkDiagram" 88 2 M_C_clear 0 := ⟨cb_C_clear, Or.inl (zG_mem (List.mem_append_right _ (List.mem_of_getElem? (i := 230) (by decide +kernel))) (by decide +kernel)), zG_mem (List.mem_append_right _ (List.mem_of_getElem? (i := 231) (by decide +kernel))) (by decide +kernel), zG_mem (List.mem_append_right _ (List.mem_of_getElem? (i := 232) (by decide +kernel))) (by decide +kernel), T_C, 3, rfl⟩
theorem c_A_91 : zV "LinkDiagram" 91 4 M_A_wordIsBelow 1 := ⟨cb_A_wordIsBelow, Or.inl (zG_mem (List.mem_append_right _ (List.mem_of_getElem? (i := 242) (by decide +kernel))) (by decide +kernel)), zG_mem (List.mem_append_right _ (List.mem_of_getElem? (i := 244) (by decide +kernel))) (by decide +kernel), zG_mem (List.mem_append_left _ (List.mem_of_getElem? (i := 3) (by decide +kernel))) (by decide +kernel), T_A, 10, rfl⟩
theorem c_A_94 : zV "LinkDiagram" 94 4 M_A_weave 2 := ⟨cb_A_weave, Or.inl (zG_mem (List.mem_append_right _ (List.mem_of_getElem? (i := 249) (by decide +kernel))) (by decide +kernel)), zG_mem (List.mem_append_right _ (List.mem_of_getElem? (i := 251) (by decide +kernel))) (by decide +kernel), zG_mem (List.mem_append_left _ (List.mem_of_getElem? (i := 4) (by decide +kernel))) (by decide +kernel), T_A, 10, rfl⟩
theorem c_A_98 : zV "LinkDiagram" 98 4 M_A_closePlace 1 := ⟨cb_A_closePlace, Or.inl (zG_mem (List.mem_append_right _ (List.mem_of_getElem? (i := 253) (by decide +kernel))) (by decide +kernel)), zG_mem (List.mem_append_right _ (List.mem_of_getElem? (i := 255) (by decide +kernel))) (by decide +kernel), zG_mem (List.mem_append_left _ (List.mem_of_getElem? (i := 5) (by decide +kernel))) (by decide +kernel), T_A, 10, rfl⟩
theorem c_A_101 : Cond.methodLink "LinkDiagram" 101 Lib.Math.abs.name ∈ zG := zG_mem (List.mem_append_right _ (List.mem_of_getElem? (i := 246) (by decide +kernel))) (by decide +kernel)
theorem c_A_107 : zV "LinkDiagram" 107 2 M_C_rename 2 := ⟨cb_C_rename, Or.inl (zG_mem (List.mem_append_right _ (List.mem_of_getElem? (i := 257) (by decide +kernel))) (by decide +kernel)), zG_mem (List.mem_append_right _ (List.mem_of_getElem? (i := 258) (by decide +kernel))) (by decide +kernel), zG_mem (List.mem_append_right _ (List.mem_of_getElem? (i := 259) (by decide +kernel))) (by decide +kernel), T_C, 3, rfl⟩
theorem c_A_110 : zV "LinkDiagram" 110 3 M_S_strands 1 := ⟨cb_S_strands, Or.inl (zG_mem (List.mem_append_right _ (List.mem_of_getElem? (i := 265) (by decide +kernel))) (by decide +kernel)), zG_mem (List.mem_append_right _ (List.mem_of_getElem? (i := 266) (by decide +kernel))) (by decide +kernel), zG_mem (List.mem_append_right _ (List.mem_of_getElem? (i := 267) (by decide +kernel))) (by decide +kernel), T_S, 2, rfl⟩
theorem c_A_114 : zV "LinkDiagram" 114 2 M_C_writhe 0 := ⟨cb_C_writhe, Or.inl (zG_mem (List.mem_append_right _ (List.mem_of_getElem? (i := 276) (by decide +kernel))) (by decide +kernel)), zG_mem (List.mem_append_right _ (List.mem_of_getElem? (i := 277) (by decide +kernel))) (by decide +kernel), zG_mem (List.mem_append_right _ (List.mem_of_getElem? (i := 278) (by decide +kernel))) (by decide +kernel), T_C, 3, rfl⟩
theorem c_A_117 : zV "LinkDiagram" 117 3 M_S_faces 1 := ⟨cb_S_faces, Or.inl (zG_mem (List.mem_append_right _ (List.mem_of_getElem? (i := 280) (by decide +kernel))) (by decide +kernel)), zG_mem (List.mem_append_right _ (List.mem_of_getElem? (i := 193) (by decide +kernel))) (by decide +kernel), zG_mem (List.mem_append_right _ (List.mem_of_getElem? (i := 194) (by decide +kernel))) (by decide +kernel), T_S, 2, rfl⟩
theorem c_A_120 : zV "LinkDiagram" 120 3 M_S_pieces 1 := ⟨cb_S_pieces, Or.inl (zG_mem (List.mem_append_right _ (List.mem_of_getElem? (i := 281) (by decide +kernel))) (by decide +kernel)), zG_mem (List.mem_append_right _ (List.mem_of_getElem? (i := 217) (by decide +kernel))) (by decide +kernel), zG_mem (List.mem_append_right _ (List.mem_of_getElem? (i := 218) (by decide +kernel))) (by decide +kernel), T_S, 2, rfl⟩
theorem c_A_123 : zV "LinkDiagram" 123 2 M_C_has 1 := ⟨cb_C_has, Or.inl (zG_mem (List.mem_append_right _ (List.mem_of_getElem? (i := 286) (by decide +kernel))) (by decide +kernel)), zG_mem (List.mem_append_right _ (List.mem_of_getElem? (i := 148) (by decide +kernel))) (by decide +kernel), zG_mem (List.mem_append_right _ (List.mem_of_getElem? (i := 149) (by decide +kernel))) (by decide +kernel), T_C, 3, rfl⟩
theorem c_A_126 : zV "LinkDiagram" 126 2 M_C_isPositive 1 := ⟨cb_C_isPositive, Or.inl (zG_mem (List.mem_append_right _ (List.mem_of_getElem? (i := 287) (by decide +kernel))) (by decide +kernel)), zG_mem (List.mem_append_right _ (List.mem_of_getElem? (i := 185) (by decide +kernel))) (by decide +kernel), zG_mem (List.mem_append_right _ (List.mem_of_getElem? (i := 186) (by decide +kernel))) (by decide +kernel), T_C, 3, rfl⟩
theorem c_A_129 : zV "LinkDiagram" 129 2 M_C_edgeAt 1 := ⟨cb_C_edgeAt, Or.inl (zG_mem (List.mem_append_right _ (List.mem_of_getElem? (i := 288) (by decide +kernel))) (by decide +kernel)), zG_mem (List.mem_append_right _ (List.mem_of_getElem? (i := 171) (by decide +kernel))) (by decide +kernel), zG_mem (List.mem_append_right _ (List.mem_of_getElem? (i := 172) (by decide +kernel))) (by decide +kernel), T_C, 3, rfl⟩
theorem c_A_134 : zV "LinkDiagram" 134 1 M_B_coefficient 3 := ⟨cb_B_coefficient, Or.inl (zG_mem (List.mem_append_right _ (List.mem_of_getElem? (i := 294) (by decide +kernel))) (by decide +kernel)), zG_mem (List.mem_append_right _ (List.mem_of_getElem? (i := 295) (by decide +kernel))) (by decide +kernel), zG_mem (List.mem_append_right _ (List.mem_of_getElem? (i := 296) (by decide +kernel))) (by decide +kernel), T_B, 3, rfl⟩
theorem c_A_140 : zV "LinkDiagram" 140 0 M_R_coefficient 3 := ⟨cb_R_coefficient, Or.inl (zG_mem (List.mem_append_right _ (List.mem_of_getElem? (i := 339) (by decide +kernel))) (by decide +kernel)), zG_mem (List.mem_append_right _ (List.mem_of_getElem? (i := 340) (by decide +kernel))) (by decide +kernel), zG_mem (List.mem_append_right _ (List.mem_of_getElem? (i := 341) (by decide +kernel))) (by decide +kernel), T_R, 5, rfl⟩
theorem c_A_143 : zV "LinkDiagram" 143 4 M_A_freeEdge 1 := ⟨cb_A_freeEdge, Or.inl (zG_mem (List.mem_append_right _ (List.mem_of_getElem? (i := 390) (by decide +kernel))) (by decide +kernel)), zG_mem (List.mem_append_right _ (List.mem_of_getElem? (i := 392) (by decide +kernel))) (by decide +kernel), zG_mem (List.mem_append_left _ (List.mem_of_getElem? (i := 19) (by decide +kernel))) (by decide +kernel), T_A, 10, rfl⟩
theorem c_A_146 : zV "LinkDiagram" 146 4 M_A_appendTwist 4 := ⟨cb_A_appendTwist, Or.inl (zG_mem (List.mem_append_right _ (List.mem_of_getElem? (i := 395) (by decide +kernel))) (by decide +kernel)), zG_mem (List.mem_append_right _ (List.mem_of_getElem? (i := 397) (by decide +kernel))) (by decide +kernel), zG_mem (List.mem_append_left _ (List.mem_of_getElem? (i := 20) (by decide +kernel))) (by decide +kernel), T_A, 10, rfl⟩
theorem c_A_150 : zV "LinkDiagram" 150 2 M_C_occurs 1 := ⟨cb_C_occurs, Or.inl (zG_mem (List.mem_append_right _ (List.mem_of_getElem? (i := 394) (by decide +kernel))) (by decide +kernel)), zG_mem (List.mem_append_right _ (List.mem_of_getElem? (i := 357) (by decide +kernel))) (by decide +kernel), zG_mem (List.mem_append_right _ (List.mem_of_getElem? (i := 358) (by decide +kernel))) (by decide +kernel), T_C, 3, rfl⟩
theorem c_A_153 : zV "LinkDiagram" 153 2 M_C_bringIn 2 := ⟨cb_C_bringIn, Or.inl (zG_mem (List.mem_append_right _ (List.mem_of_getElem? (i := 399) (by decide +kernel))) (by decide +kernel)), zG_mem (List.mem_append_right _ (List.mem_of_getElem? (i := 400) (by decide +kernel))) (by decide +kernel), zG_mem (List.mem_append_right _ (List.mem_of_getElem? (i := 401) (by decide +kernel))) (by decide +kernel), T_C, 3, rfl⟩
theorem c_A_156 : zV "LinkDiagram" 156 4 M_A_loopEnd 1 := ⟨cb_A_loopEnd, Or.inl (zG_mem (List.mem_append_right _ (List.mem_of_getElem? (i := 412) (by decide +kernel))) (by decide +kernel)), zG_mem (List.mem_append_right _ (List.mem_of_getElem? (i := 414) (by decide +kernel))) (by decide +kernel), zG_mem (List.mem_append_left _ (List.mem_of_getElem? (i := 21) (by decide +kernel))) (by decide +kernel), T_A, 10, rfl⟩
theorem c_A_159 : zS "LinkDiagram" 159 M_A_turned 2 := ⟨cb_A_turned, Or.inl (zG_mem (List.mem_append_right _ (List.mem_of_getElem? (i := 416) (by decide +kernel))) (by decide +kernel)), zG_mem (List.mem_append_right _ (List.mem_of_getElem? (i := 213) (by decide +kernel))) (by decide +kernel)⟩
theorem c_A_163 : zV "LinkDiagram" 163 2 M_C_comesIn 1 := ⟨cb_C_comesIn, Or.inl (zG_mem (List.mem_append_right _ (List.mem_of_getElem? (i := 417) (by decide +kernel))) (by decide +kernel)), zG_mem (List.mem_append_right _ (List.mem_of_getElem? (i := 175) (by decide +kernel))) (by decide +kernel), zG_mem (List.mem_append_right _ (List.mem_of_getElem? (i := 176) (by decide +kernel))) (by decide +kernel), T_C, 3, rfl⟩
theorem c_A_166 : zV "LinkDiagram" 166 4 M_A_join 2 := ⟨cb_A_join, Or.inl (zG_mem (List.mem_append_right _ (List.mem_of_getElem? (i := 418) (by decide +kernel))) (by decide +kernel)), zG_mem (List.mem_append_right _ (List.mem_of_getElem? (i := 420) (by decide +kernel))) (by decide +kernel), zG_mem (List.mem_append_left _ (List.mem_of_getElem? (i := 22) (by decide +kernel))) (by decide +kernel), T_A, 10, rfl⟩
theorem c_A_169 : zV "LinkDiagram" 169 2 M_C_endOn 2 := ⟨cb_C_endOn, Or.inl (zG_mem (List.mem_append_right _ (List.mem_of_getElem? (i := 426) (by decide +kernel))) (by decide +kernel)), zG_mem (List.mem_append_right _ (List.mem_of_getElem? (i := 404) (by decide +kernel))) (by decide +kernel), zG_mem (List.mem_append_right _ (List.mem_of_getElem? (i := 405) (by decide +kernel))) (by decide +kernel), T_C, 3, rfl⟩
theorem c_A_173 : zV "LinkDiagram" 173 3 M_S_sameFace 3 := ⟨cb_S_sameFace, Or.inl (zG_mem (List.mem_append_right _ (List.mem_of_getElem? (i := 427) (by decide +kernel))) (by decide +kernel)), zG_mem (List.mem_append_right _ (List.mem_of_getElem? (i := 428) (by decide +kernel))) (by decide +kernel), zG_mem (List.mem_append_right _ (List.mem_of_getElem? (i := 429) (by decide +kernel))) (by decide +kernel), T_S, 2, rfl⟩
theorem c_A_177 : zV "LinkDiagram" 177 4 M_A_isPokedFace 2 := ⟨cb_A_isPokedFace, Or.inl (zG_mem (List.mem_append_right _ (List.mem_of_getElem? (i := 435) (by decide +kernel))) (by decide +kernel)), zG_mem (List.mem_append_right _ (List.mem_of_getElem? (i := 437) (by decide +kernel))) (by decide +kernel), zG_mem (List.mem_append_left _ (List.mem_of_getElem? (i := 23) (by decide +kernel))) (by decide +kernel), T_A, 10, rfl⟩
theorem c_A_181 : zV "LinkDiagram" 181 2 M_C_follow 1 := ⟨cb_C_follow, Or.inl (zG_mem (List.mem_append_right _ (List.mem_of_getElem? (i := 439) (by decide +kernel))) (by decide +kernel)), zG_mem (List.mem_append_right _ (List.mem_of_getElem? (i := 204) (by decide +kernel))) (by decide +kernel), zG_mem (List.mem_append_right _ (List.mem_of_getElem? (i := 205) (by decide +kernel))) (by decide +kernel), T_C, 3, rfl⟩
theorem c_A_184 : zV "LinkDiagram" 184 4 M_A_pullApart 2 := ⟨cb_A_pullApart, Or.inl (zG_mem (List.mem_append_right _ (List.mem_of_getElem? (i := 443) (by decide +kernel))) (by decide +kernel)), zG_mem (List.mem_append_right _ (List.mem_of_getElem? (i := 445) (by decide +kernel))) (by decide +kernel), zG_mem (List.mem_append_left _ (List.mem_of_getElem? (i := 24) (by decide +kernel))) (by decide +kernel), T_A, 10, rfl⟩
theorem c_A_187 : zS "LinkDiagram" 187 M_A_crossingOf 1 := ⟨cb_A_crossingOf, Or.inl (zG_mem (List.mem_append_right _ (List.mem_of_getElem? (i := 440) (by decide +kernel))) (by decide +kernel)), zG_mem (List.mem_append_right _ (List.mem_of_getElem? (i := 182) (by decide +kernel))) (by decide +kernel)⟩
theorem c_A_190 : zS "LinkDiagram" 190 M_A_isUpper 1 := ⟨cb_A_isUpper, Or.inl (zG_mem (List.mem_append_right _ (List.mem_of_getElem? (i := 441) (by decide +kernel))) (by decide +kernel)), zG_mem (List.mem_append_right _ (List.mem_of_getElem? (i := 179) (by decide +kernel))) (by decide +kernel)⟩
theorem c_A_193 : zV "LinkDiagram" 193 2 M_C_otherEnd 1 := ⟨cb_C_otherEnd, Or.inl (zG_mem (List.mem_append_right _ (List.mem_of_getElem? (i := 442) (by decide +kernel))) (by decide +kernel)), zG_mem (List.mem_append_right _ (List.mem_of_getElem? (i := 208) (by decide +kernel))) (by decide +kernel), zG_mem (List.mem_append_right _ (List.mem_of_getElem? (i := 209) (by decide +kernel))) (by decide +kernel), T_C, 3, rfl⟩
theorem c_A_196 : zV "LinkDiagram" 196 2 M_C_edgeBefore 1 := ⟨cb_C_edgeBefore, Or.inl (zG_mem (List.mem_append_right _ (List.mem_of_getElem? (i := 447) (by decide +kernel))) (by decide +kernel)), zG_mem (List.mem_append_right _ (List.mem_of_getElem? (i := 448) (by decide +kernel))) (by decide +kernel), zG_mem (List.mem_append_right _ (List.mem_of_getElem? (i := 449) (by decide +kernel))) (by decide +kernel), T_C, 3, rfl⟩
theorem c_A_199 : zV "LinkDiagram" 199 2 M_C_edgeBehind 1 := ⟨cb_C_edgeBehind, Or.inl (zG_mem (List.mem_append_right _ (List.mem_of_getElem? (i := 456) (by decide +kernel))) (by decide +kernel)), zG_mem (List.mem_append_right _ (List.mem_of_getElem? (i := 457) (by decide +kernel))) (by decide +kernel), zG_mem (List.mem_append_right _ (List.mem_of_getElem? (i := 458) (by decide +kernel))) (by decide +kernel), T_C, 3, rfl⟩
theorem c_A_202 : Cond.methodLink "LinkDiagram" 202 Lib.Math.max.name ∈ zG := zG_mem (List.mem_append_right _ (List.mem_of_getElem? (i := 464) (by decide +kernel))) (by decide +kernel)
theorem c_A_205 : Cond.methodLink "LinkDiagram" 205 Lib.Math.min.name ∈ zG := zG_mem (List.mem_append_right _ (List.mem_of_getElem? (i := 467) (by decide +kernel))) (by decide +kernel)
theorem c_A_208 : zV "LinkDiagram" 208 4 M_A_isSlidingFace 3 := ⟨cb_A_isSlidingFace, Or.inl (zG_mem (List.mem_append_right _ (List.mem_of_getElem? (i := 472) (by decide +kernel))) (by decide +kernel)), zG_mem (List.mem_append_right _ (List.mem_of_getElem? (i := 474) (by decide +kernel))) (by decide +kernel), zG_mem (List.mem_append_left _ (List.mem_of_getElem? (i := 25) (by decide +kernel))) (by decide +kernel), T_A, 10, rfl⟩
theorem c_A_212 : zV "LinkDiagram" 212 4 M_A_slideFace 1 := ⟨cb_A_slideFace, Or.inl (zG_mem (List.mem_append_right _ (List.mem_of_getElem? (i := 480) (by decide +kernel))) (by decide +kernel)), zG_mem (List.mem_append_right _ (List.mem_of_getElem? (i := 482) (by decide +kernel))) (by decide +kernel), zG_mem (List.mem_append_left _ (List.mem_of_getElem? (i := 27) (by decide +kernel))) (by decide +kernel), T_A, 10, rfl⟩
theorem c_A_215 : zV "LinkDiagram" 215 4 M_A_isUpperEdge 1 := ⟨cb_A_isUpperEdge, Or.inl (zG_mem (List.mem_append_right _ (List.mem_of_getElem? (i := 476) (by decide +kernel))) (by decide +kernel)), zG_mem (List.mem_append_right _ (List.mem_of_getElem? (i := 478) (by decide +kernel))) (by decide +kernel), zG_mem (List.mem_append_left _ (List.mem_of_getElem? (i := 26) (by decide +kernel))) (by decide +kernel), T_A, 10, rfl⟩
theorem c_A_218 : zV "LinkDiagram" 218 4 M_A_slideEdge 1 := ⟨cb_A_slideEdge, Or.inl (zG_mem (List.mem_append_right _ (List.mem_of_getElem? (i := 484) (by decide +kernel))) (by decide +kernel)), zG_mem (List.mem_append_right _ (List.mem_of_getElem? (i := 486) (by decide +kernel))) (by decide +kernel), zG_mem (List.mem_append_left _ (List.mem_of_getElem? (i := 28) (by decide +kernel))) (by decide +kernel), T_A, 10, rfl⟩
theorem c_A_221 : zV "LinkDiagram" 221 2 M_C_outgoing 1 := ⟨cb_C_outgoing, Or.inl (zG_mem (List.mem_append_right _ (List.mem_of_getElem? (i := 488) (by decide +kernel))) (by decide +kernel)), zG_mem (List.mem_append_right _ (List.mem_of_getElem? (i := 452) (by decide +kernel))) (by decide +kernel), zG_mem (List.mem_append_right _ (List.mem_of_getElem? (i := 453) (by decide +kernel))) (by decide +kernel), T_C, 3, rfl⟩
theorem c_A_224 : zV "LinkDiagram" 224 2 M_C_incoming 1 := ⟨cb_C_incoming, Or.inl (zG_mem (List.mem_append_right _ (List.mem_of_getElem? (i := 489) (by decide +kernel))) (by decide +kernel)), zG_mem (List.mem_append_right _ (List.mem_of_getElem? (i := 461) (by decide +kernel))) (by decide +kernel), zG_mem (List.mem_append_right _ (List.mem_of_getElem? (i := 462) (by decide +kernel))) (by decide +kernel), T_C, 3, rfl⟩
theorem c_A_227 : zS "LinkDiagram" 227 M_A_opposite 1 := ⟨cb_A_opposite, Or.inl (zG_mem (List.mem_append_right _ (List.mem_of_getElem? (i := 490) (by decide +kernel))) (by decide +kernel)), zG_mem (List.mem_append_right _ (List.mem_of_getElem? (i := 274) (by decide +kernel))) (by decide +kernel)⟩
theorem c_A_230 : zV "LinkDiagram" 230 2 M_C_setEdge 2 := ⟨cb_C_setEdge, Or.inl (zG_mem (List.mem_append_right _ (List.mem_of_getElem? (i := 491) (by decide +kernel))) (by decide +kernel)), zG_mem (List.mem_append_right _ (List.mem_of_getElem? (i := 492) (by decide +kernel))) (by decide +kernel), zG_mem (List.mem_append_right _ (List.mem_of_getElem? (i := 493) (by decide +kernel))) (by decide +kernel), T_C, 3, rfl⟩
theorem c_L_9 : zI "LinkDiagramLaw" 9 M_A_init 0 := ⟨cb_A_init, Or.inl (zG_mem (List.mem_append_right _ (List.mem_of_getElem? (i := 13) (by decide +kernel))) (by decide +kernel)), zG_mem (List.mem_append_right _ (List.mem_of_getElem? (i := 14) (by decide +kernel))) (by decide +kernel), rfl, rfl⟩
theorem c_L_12 : zI "LinkDiagramLaw" 12 M_M_init 0 := ⟨cb_M_init, Or.inl (zG_mem (List.mem_append_right _ (List.mem_of_getElem? (i := 497) (by decide +kernel))) (by decide +kernel)), zG_mem (List.mem_append_right _ (List.mem_of_getElem? (i := 498) (by decide +kernel))) (by decide +kernel), rfl, rfl⟩
theorem c_L_13 : zV "LinkDiagramLaw" 13 4 M_A_cross 5 := ⟨cb_A_cross, Or.inl (zG_mem (List.mem_append_right _ (List.mem_of_getElem? (i := 119) (by decide +kernel))) (by decide +kernel)), zG_mem (List.mem_append_right _ (List.mem_of_getElem? (i := 120) (by decide +kernel))) (by decide +kernel), zG_mem (List.mem_append_right _ (List.mem_of_getElem? (i := 121) (by decide +kernel))) (by decide +kernel), T_A, 10, rfl⟩
theorem c_L_17 : zV "LinkDiagramLaw" 17 5 M_M_cross 5 := ⟨cb_M_cross, Or.inl (zG_mem (List.mem_append_right _ (List.mem_of_getElem? (i := 560) (by decide +kernel))) (by decide +kernel)), zG_mem (List.mem_append_right _ (List.mem_of_getElem? (i := 561) (by decide +kernel))) (by decide +kernel), zG_mem (List.mem_append_right _ (List.mem_of_getElem? (i := 562) (by decide +kernel))) (by decide +kernel), T_M, 19, rfl⟩
theorem c_L_18 : zV "LinkDiagramLaw" 18 4 M_A_drop 0 := ⟨cb_A_drop, Or.inl (zG_mem (List.mem_append_right _ (List.mem_of_getElem? (i := 135) (by decide +kernel))) (by decide +kernel)), zG_mem (List.mem_append_right _ (List.mem_of_getElem? (i := 136) (by decide +kernel))) (by decide +kernel), zG_mem (List.mem_append_right _ (List.mem_of_getElem? (i := 137) (by decide +kernel))) (by decide +kernel), T_A, 10, rfl⟩
theorem c_L_22 : zV "LinkDiagramLaw" 22 5 M_M_drop 0 := ⟨cb_M_drop, Or.inl (zG_mem (List.mem_append_right _ (List.mem_of_getElem? (i := 571) (by decide +kernel))) (by decide +kernel)), zG_mem (List.mem_append_right _ (List.mem_of_getElem? (i := 572) (by decide +kernel))) (by decide +kernel), zG_mem (List.mem_append_right _ (List.mem_of_getElem? (i := 573) (by decide +kernel))) (by decide +kernel), T_M, 19, rfl⟩
theorem c_L_23 : zV "LinkDiagramLaw" 23 4 M_A_take 1 := ⟨cb_A_take, Or.inl (zG_mem (List.mem_append_right _ (List.mem_of_getElem? (i := 154) (by decide +kernel))) (by decide +kernel)), zG_mem (List.mem_append_right _ (List.mem_of_getElem? (i := 155) (by decide +kernel))) (by decide +kernel), zG_mem (List.mem_append_right _ (List.mem_of_getElem? (i := 156) (by decide +kernel))) (by decide +kernel), T_A, 10, rfl⟩
theorem c_L_27 : zV "LinkDiagramLaw" 27 5 M_M_take 1 := ⟨cb_M_take, Or.inl (zG_mem (List.mem_append_right _ (List.mem_of_getElem? (i := 575) (by decide +kernel))) (by decide +kernel)), zG_mem (List.mem_append_right _ (List.mem_of_getElem? (i := 576) (by decide +kernel))) (by decide +kernel), zG_mem (List.mem_append_right _ (List.mem_of_getElem? (i := 577) (by decide +kernel))) (by decide +kernel), T_M, 19, rfl⟩
theorem c_L_28 : zV "LinkDiagramLaw" 28 4 M_A_letter 1 := ⟨cb_A_letter, Or.inl (zG_mem (List.mem_append_right _ (List.mem_of_getElem? (i := 234) (by decide +kernel))) (by decide +kernel)), zG_mem (List.mem_append_right _ (List.mem_of_getElem? (i := 235) (by decide +kernel))) (by decide +kernel), zG_mem (List.mem_append_right _ (List.mem_of_getElem? (i := 236) (by decide +kernel))) (by decide +kernel), T_A, 10, rfl⟩
theorem c_L_32 : zV "LinkDiagramLaw" 32 5 M_M_letter 1 := ⟨cb_M_letter, Or.inl (zG_mem (List.mem_append_right _ (List.mem_of_getElem? (i := 619) (by decide +kernel))) (by decide +kernel)), zG_mem (List.mem_append_right _ (List.mem_of_getElem? (i := 620) (by decide +kernel))) (by decide +kernel), zG_mem (List.mem_append_right _ (List.mem_of_getElem? (i := 621) (by decide +kernel))) (by decide +kernel), T_M, 19, rfl⟩
theorem c_L_33 : zV "LinkDiagramLaw" 33 4 M_A_braid 1 := ⟨cb_A_braid, Or.inl (zG_mem (List.mem_append_right _ (List.mem_of_getElem? (i := 238) (by decide +kernel))) (by decide +kernel)), zG_mem (List.mem_append_right _ (List.mem_of_getElem? (i := 239) (by decide +kernel))) (by decide +kernel), zG_mem (List.mem_append_right _ (List.mem_of_getElem? (i := 240) (by decide +kernel))) (by decide +kernel), T_A, 10, rfl⟩
theorem c_L_36 : zV "LinkDiagramLaw" 36 5 M_M_braid 1 := ⟨cb_M_braid, Or.inl (zG_mem (List.mem_append_right _ (List.mem_of_getElem? (i := 623) (by decide +kernel))) (by decide +kernel)), zG_mem (List.mem_append_right _ (List.mem_of_getElem? (i := 624) (by decide +kernel))) (by decide +kernel), zG_mem (List.mem_append_right _ (List.mem_of_getElem? (i := 625) (by decide +kernel))) (by decide +kernel), T_M, 19, rfl⟩
theorem c_L_37 : zV "LinkDiagramLaw" 37 4 M_A_count 1 := ⟨cb_A_count, Or.inl (zG_mem (List.mem_append_right _ (List.mem_of_getElem? (i := 261) (by decide +kernel))) (by decide +kernel)), zG_mem (List.mem_append_right _ (List.mem_of_getElem? (i := 262) (by decide +kernel))) (by decide +kernel), zG_mem (List.mem_append_right _ (List.mem_of_getElem? (i := 263) (by decide +kernel))) (by decide +kernel), T_A, 10, rfl⟩
theorem c_L_40 : zV "LinkDiagramLaw" 40 5 M_M_count 1 := ⟨cb_M_count, Or.inl (zG_mem (List.mem_append_right _ (List.mem_of_getElem? (i := 630) (by decide +kernel))) (by decide +kernel)), zG_mem (List.mem_append_right _ (List.mem_of_getElem? (i := 631) (by decide +kernel))) (by decide +kernel), zG_mem (List.mem_append_right _ (List.mem_of_getElem? (i := 632) (by decide +kernel))) (by decide +kernel), T_M, 19, rfl⟩
theorem c_L_41 : zV "LinkDiagramLaw" 41 4 M_A_end 2 := ⟨cb_A_end, Or.inl (zG_mem (List.mem_append_right _ (List.mem_of_getElem? (i := 282) (by decide +kernel))) (by decide +kernel)), zG_mem (List.mem_append_right _ (List.mem_of_getElem? (i := 283) (by decide +kernel))) (by decide +kernel), zG_mem (List.mem_append_right _ (List.mem_of_getElem? (i := 284) (by decide +kernel))) (by decide +kernel), T_A, 10, rfl⟩
theorem c_L_45 : zV "LinkDiagramLaw" 45 5 M_M_end 2 := ⟨cb_M_end, Or.inl (zG_mem (List.mem_append_right _ (List.mem_of_getElem? (i := 645) (by decide +kernel))) (by decide +kernel)), zG_mem (List.mem_append_right _ (List.mem_of_getElem? (i := 646) (by decide +kernel))) (by decide +kernel), zG_mem (List.mem_append_right _ (List.mem_of_getElem? (i := 647) (by decide +kernel))) (by decide +kernel), T_M, 19, rfl⟩
theorem c_L_46 : zV "LinkDiagramLaw" 46 4 M_A_first 1 := ⟨cb_A_first, Or.inl (zG_mem (List.mem_append_right _ (List.mem_of_getElem? (i := 289) (by decide +kernel))) (by decide +kernel)), zG_mem (List.mem_append_right _ (List.mem_of_getElem? (i := 290) (by decide +kernel))) (by decide +kernel), zG_mem (List.mem_append_right _ (List.mem_of_getElem? (i := 291) (by decide +kernel))) (by decide +kernel), T_A, 10, rfl⟩
theorem c_L_50 : zV "LinkDiagramLaw" 50 5 M_M_first 1 := ⟨cb_M_first, Or.inl (zG_mem (List.mem_append_right _ (List.mem_of_getElem? (i := 649) (by decide +kernel))) (by decide +kernel)), zG_mem (List.mem_append_right _ (List.mem_of_getElem? (i := 650) (by decide +kernel))) (by decide +kernel), zG_mem (List.mem_append_right _ (List.mem_of_getElem? (i := 651) (by decide +kernel))) (by decide +kernel), T_M, 19, rfl⟩
theorem c_L_51 : zV "LinkDiagramLaw" 51 4 M_A_second 1 := ⟨cb_A_second, Or.inl (zG_mem (List.mem_append_right _ (List.mem_of_getElem? (i := 335) (by decide +kernel))) (by decide +kernel)), zG_mem (List.mem_append_right _ (List.mem_of_getElem? (i := 336) (by decide +kernel))) (by decide +kernel), zG_mem (List.mem_append_right _ (List.mem_of_getElem? (i := 337) (by decide +kernel))) (by decide +kernel), T_A, 10, rfl⟩
theorem c_L_54 : zV "LinkDiagramLaw" 54 5 M_M_second 1 := ⟨cb_M_second, Or.inl (zG_mem (List.mem_append_right _ (List.mem_of_getElem? (i := 661) (by decide +kernel))) (by decide +kernel)), zG_mem (List.mem_append_right _ (List.mem_of_getElem? (i := 662) (by decide +kernel))) (by decide +kernel), zG_mem (List.mem_append_right _ (List.mem_of_getElem? (i := 663) (by decide +kernel))) (by decide +kernel), T_M, 19, rfl⟩
theorem c_L_55 : zV "LinkDiagramLaw" 55 4 M_A_twist 2 := ⟨cb_A_twist, Or.inl (zG_mem (List.mem_append_right _ (List.mem_of_getElem? (i := 386) (by decide +kernel))) (by decide +kernel)), zG_mem (List.mem_append_right _ (List.mem_of_getElem? (i := 387) (by decide +kernel))) (by decide +kernel), zG_mem (List.mem_append_right _ (List.mem_of_getElem? (i := 388) (by decide +kernel))) (by decide +kernel), T_A, 10, rfl⟩
theorem c_L_59 : zV "LinkDiagramLaw" 59 5 M_M_twist 2 := ⟨cb_M_twist, Or.inl (zG_mem (List.mem_append_right _ (List.mem_of_getElem? (i := 689) (by decide +kernel))) (by decide +kernel)), zG_mem (List.mem_append_right _ (List.mem_of_getElem? (i := 690) (by decide +kernel))) (by decide +kernel), zG_mem (List.mem_append_right _ (List.mem_of_getElem? (i := 691) (by decide +kernel))) (by decide +kernel), T_M, 19, rfl⟩
theorem c_L_60 : zV "LinkDiagramLaw" 60 4 M_A_untwist 1 := ⟨cb_A_untwist, Or.inl (zG_mem (List.mem_append_right _ (List.mem_of_getElem? (i := 408) (by decide +kernel))) (by decide +kernel)), zG_mem (List.mem_append_right _ (List.mem_of_getElem? (i := 409) (by decide +kernel))) (by decide +kernel), zG_mem (List.mem_append_right _ (List.mem_of_getElem? (i := 410) (by decide +kernel))) (by decide +kernel), T_A, 10, rfl⟩
theorem c_L_63 : zV "LinkDiagramLaw" 63 5 M_M_untwist 1 := ⟨cb_M_untwist, Or.inl (zG_mem (List.mem_append_right _ (List.mem_of_getElem? (i := 709) (by decide +kernel))) (by decide +kernel)), zG_mem (List.mem_append_right _ (List.mem_of_getElem? (i := 710) (by decide +kernel))) (by decide +kernel), zG_mem (List.mem_append_right _ (List.mem_of_getElem? (i := 711) (by decide +kernel))) (by decide +kernel), T_M, 19, rfl⟩
theorem c_L_64 : zV "LinkDiagramLaw" 64 4 M_A_poke 4 := ⟨cb_A_poke, Or.inl (zG_mem (List.mem_append_right _ (List.mem_of_getElem? (i := 422) (by decide +kernel))) (by decide +kernel)), zG_mem (List.mem_append_right _ (List.mem_of_getElem? (i := 423) (by decide +kernel))) (by decide +kernel), zG_mem (List.mem_append_right _ (List.mem_of_getElem? (i := 424) (by decide +kernel))) (by decide +kernel), T_A, 10, rfl⟩
theorem c_L_68 : zV "LinkDiagramLaw" 68 5 M_M_poke 4 := ⟨cb_M_poke, Or.inl (zG_mem (List.mem_append_right _ (List.mem_of_getElem? (i := 725) (by decide +kernel))) (by decide +kernel)), zG_mem (List.mem_append_right _ (List.mem_of_getElem? (i := 726) (by decide +kernel))) (by decide +kernel), zG_mem (List.mem_append_right _ (List.mem_of_getElem? (i := 727) (by decide +kernel))) (by decide +kernel), T_M, 19, rfl⟩
theorem c_L_69 : zV "LinkDiagramLaw" 69 4 M_A_unpoke 2 := ⟨cb_A_unpoke, Or.inl (zG_mem (List.mem_append_right _ (List.mem_of_getElem? (i := 431) (by decide +kernel))) (by decide +kernel)), zG_mem (List.mem_append_right _ (List.mem_of_getElem? (i := 432) (by decide +kernel))) (by decide +kernel), zG_mem (List.mem_append_right _ (List.mem_of_getElem? (i := 433) (by decide +kernel))) (by decide +kernel), T_A, 10, rfl⟩
theorem c_L_72 : zV "LinkDiagramLaw" 72 5 M_M_unpoke 2 := ⟨cb_M_unpoke, Or.inl (zG_mem (List.mem_append_right _ (List.mem_of_getElem? (i := 729) (by decide +kernel))) (by decide +kernel)), zG_mem (List.mem_append_right _ (List.mem_of_getElem? (i := 730) (by decide +kernel))) (by decide +kernel), zG_mem (List.mem_append_right _ (List.mem_of_getElem? (i := 731) (by decide +kernel))) (by decide +kernel), T_M, 19, rfl⟩
theorem c_L_73 : zV "LinkDiagramLaw" 73 4 M_A_slide 3 := ⟨cb_A_slide, Or.inl (zG_mem (List.mem_append_right _ (List.mem_of_getElem? (i := 468) (by decide +kernel))) (by decide +kernel)), zG_mem (List.mem_append_right _ (List.mem_of_getElem? (i := 469) (by decide +kernel))) (by decide +kernel), zG_mem (List.mem_append_right _ (List.mem_of_getElem? (i := 470) (by decide +kernel))) (by decide +kernel), T_A, 10, rfl⟩
theorem c_L_77 : zV "LinkDiagramLaw" 77 5 M_M_slide 3 := ⟨cb_M_slide, Or.inl (zG_mem (List.mem_append_right _ (List.mem_of_getElem? (i := 748) (by decide +kernel))) (by decide +kernel)), zG_mem (List.mem_append_right _ (List.mem_of_getElem? (i := 749) (by decide +kernel))) (by decide +kernel), zG_mem (List.mem_append_right _ (List.mem_of_getElem? (i := 750) (by decide +kernel))) (by decide +kernel), T_M, 19, rfl⟩
theorem c_M_1 : Cond.methodLink "LinkDiagramModel" 1 objectInit ∈ zG := zG_mem (List.mem_append_right _ (List.mem_of_getElem? (i := 500) (by decide +kernel))) (by decide +kernel)
theorem c_M_55 : zS "LinkDiagramModel" 55 M_M_isEdge 1 := ⟨cb_M_isEdge, Or.inl (zG_mem (List.mem_append_right _ (List.mem_of_getElem? (i := 564) (by decide +kernel))) (by decide +kernel)), zG_mem (List.mem_append_right _ (List.mem_of_getElem? (i := 565) (by decide +kernel))) (by decide +kernel)⟩
theorem c_M_59 : zV "LinkDiagramModel" 59 5 M_M_put 6 := ⟨cb_M_put, Or.inl (zG_mem (List.mem_append_right _ (List.mem_of_getElem? (i := 567) (by decide +kernel))) (by decide +kernel)), zG_mem (List.mem_append_right _ (List.mem_of_getElem? (i := 569) (by decide +kernel))) (by decide +kernel), zG_mem (List.mem_append_left _ (List.mem_of_getElem? (i := 29) (by decide +kernel))) (by decide +kernel), T_M, 19, rfl⟩
theorem c_M_72 : zV "LinkDiagramModel" 72 5 M_M_other 1 := ⟨cb_M_other, Or.inl (zG_mem (List.mem_append_right _ (List.mem_of_getElem? (i := 587) (by decide +kernel))) (by decide +kernel)), zG_mem (List.mem_append_right _ (List.mem_of_getElem? (i := 589) (by decide +kernel))) (by decide +kernel), zG_mem (List.mem_append_left _ (List.mem_of_getElem? (i := 32) (by decide +kernel))) (by decide +kernel), T_M, 19, rfl⟩
theorem c_M_76 : zV "LinkDiagramModel" 76 5 M_M_in 1 := ⟨cb_M_in, Or.inl (zG_mem (List.mem_append_right _ (List.mem_of_getElem? (i := 591) (by decide +kernel))) (by decide +kernel)), zG_mem (List.mem_append_right _ (List.mem_of_getElem? (i := 593) (by decide +kernel))) (by decide +kernel), zG_mem (List.mem_append_left _ (List.mem_of_getElem? (i := 33) (by decide +kernel))) (by decide +kernel), T_M, 19, rfl⟩
theorem c_M_79 : zV "LinkDiagramModel" 79 5 M_M_follow 1 := ⟨cb_M_follow, Or.inl (zG_mem (List.mem_append_right _ (List.mem_of_getElem? (i := 603) (by decide +kernel))) (by decide +kernel)), zG_mem (List.mem_append_right _ (List.mem_of_getElem? (i := 605) (by decide +kernel))) (by decide +kernel), zG_mem (List.mem_append_left _ (List.mem_of_getElem? (i := 36) (by decide +kernel))) (by decide +kernel), T_M, 19, rfl⟩
theorem c_M_82 : zV "LinkDiagramModel" 82 5 M_M_face 1 := ⟨cb_M_face, Or.inl (zG_mem (List.mem_append_right _ (List.mem_of_getElem? (i := 599) (by decide +kernel))) (by decide +kernel)), zG_mem (List.mem_append_right _ (List.mem_of_getElem? (i := 601) (by decide +kernel))) (by decide +kernel), zG_mem (List.mem_append_left _ (List.mem_of_getElem? (i := 35) (by decide +kernel))) (by decide +kernel), T_M, 19, rfl⟩
theorem c_M_85 : zV "LinkDiagramModel" 85 5 M_M_clear 0 := ⟨cb_M_clear, Or.inl (zG_mem (List.mem_append_right _ (List.mem_of_getElem? (i := 611) (by decide +kernel))) (by decide +kernel)), zG_mem (List.mem_append_right _ (List.mem_of_getElem? (i := 613) (by decide +kernel))) (by decide +kernel), zG_mem (List.mem_append_left _ (List.mem_of_getElem? (i := 38) (by decide +kernel))) (by decide +kernel), T_M, 19, rfl⟩
theorem c_M_88 : zV "LinkDiagramModel" 88 5 M_M_spread 1 := ⟨cb_M_spread, Or.inl (zG_mem (List.mem_append_right _ (List.mem_of_getElem? (i := 615) (by decide +kernel))) (by decide +kernel)), zG_mem (List.mem_append_right _ (List.mem_of_getElem? (i := 617) (by decide +kernel))) (by decide +kernel), zG_mem (List.mem_append_left _ (List.mem_of_getElem? (i := 39) (by decide +kernel))) (by decide +kernel), T_M, 19, rfl⟩
theorem c_M_92 : zV "LinkDiagramModel" 92 5 M_M_look 1 := ⟨cb_M_look, Or.inl (zG_mem (List.mem_append_right _ (List.mem_of_getElem? (i := 579) (by decide +kernel))) (by decide +kernel)), zG_mem (List.mem_append_right _ (List.mem_of_getElem? (i := 581) (by decide +kernel))) (by decide +kernel), zG_mem (List.mem_append_left _ (List.mem_of_getElem? (i := 30) (by decide +kernel))) (by decide +kernel), T_M, 19, rfl⟩
theorem c_M_96 : zV "LinkDiagramModel" 96 5 M_M_fit 0 := ⟨cb_M_fit, Or.inl (zG_mem (List.mem_append_right _ (List.mem_of_getElem? (i := 583) (by decide +kernel))) (by decide +kernel)), zG_mem (List.mem_append_right _ (List.mem_of_getElem? (i := 585) (by decide +kernel))) (by decide +kernel), zG_mem (List.mem_append_left _ (List.mem_of_getElem? (i := 31) (by decide +kernel))) (by decide +kernel), T_M, 19, rfl⟩
theorem c_M_100 : zV "LinkDiagramModel" 100 5 M_M_faces 0 := ⟨cb_M_faces, Or.inl (zG_mem (List.mem_append_right _ (List.mem_of_getElem? (i := 595) (by decide +kernel))) (by decide +kernel)), zG_mem (List.mem_append_right _ (List.mem_of_getElem? (i := 597) (by decide +kernel))) (by decide +kernel), zG_mem (List.mem_append_left _ (List.mem_of_getElem? (i := 34) (by decide +kernel))) (by decide +kernel), T_M, 19, rfl⟩
theorem c_M_104 : zV "LinkDiagramModel" 104 5 M_M_pieces 0 := ⟨cb_M_pieces, Or.inl (zG_mem (List.mem_append_right _ (List.mem_of_getElem? (i := 607) (by decide +kernel))) (by decide +kernel)), zG_mem (List.mem_append_right _ (List.mem_of_getElem? (i := 609) (by decide +kernel))) (by decide +kernel), zG_mem (List.mem_append_left _ (List.mem_of_getElem? (i := 37) (by decide +kernel))) (by decide +kernel), T_M, 19, rfl⟩
theorem c_M_110 : zS "LinkDiagramModel" 110 M_M_size 1 := ⟨cb_M_size, Or.inl (zG_mem (List.mem_append_right _ (List.mem_of_getElem? (i := 627) (by decide +kernel))) (by decide +kernel)), zG_mem (List.mem_append_right _ (List.mem_of_getElem? (i := 628) (by decide +kernel))) (by decide +kernel)⟩
theorem c_M_113 : zS "LinkDiagramModel" 113 M_M_through 2 := ⟨cb_M_through, Or.inl (zG_mem (List.mem_append_right _ (List.mem_of_getElem? (i := 638) (by decide +kernel))) (by decide +kernel)), zG_mem (List.mem_append_right _ (List.mem_of_getElem? (i := 639) (by decide +kernel))) (by decide +kernel)⟩
theorem c_M_117 : zV "LinkDiagramModel" 117 5 M_M_rounds 1 := ⟨cb_M_rounds, Or.inl (zG_mem (List.mem_append_right _ (List.mem_of_getElem? (i := 634) (by decide +kernel))) (by decide +kernel)), zG_mem (List.mem_append_right _ (List.mem_of_getElem? (i := 636) (by decide +kernel))) (by decide +kernel), zG_mem (List.mem_append_left _ (List.mem_of_getElem? (i := 40) (by decide +kernel))) (by decide +kernel), T_M, 19, rfl⟩
theorem c_M_120 : zV "LinkDiagramModel" 120 5 M_M_writhe 0 := ⟨cb_M_writhe, Or.inl (zG_mem (List.mem_append_right _ (List.mem_of_getElem? (i := 641) (by decide +kernel))) (by decide +kernel)), zG_mem (List.mem_append_right _ (List.mem_of_getElem? (i := 643) (by decide +kernel))) (by decide +kernel), zG_mem (List.mem_append_left _ (List.mem_of_getElem? (i := 41) (by decide +kernel))) (by decide +kernel), T_M, 19, rfl⟩
theorem c_M_123 : zV "LinkDiagramModel" 123 5 M_M_doubleLoop 0 := ⟨cb_M_doubleLoop, Or.inl (zG_mem (List.mem_append_right _ (List.mem_of_getElem? (i := 657) (by decide +kernel))) (by decide +kernel)), zG_mem (List.mem_append_right _ (List.mem_of_getElem? (i := 659) (by decide +kernel))) (by decide +kernel), zG_mem (List.mem_append_left _ (List.mem_of_getElem? (i := 43) (by decide +kernel))) (by decide +kernel), T_M, 19, rfl⟩
theorem c_M_126 : zV "LinkDiagramModel" 126 5 M_M_addState 1 := ⟨cb_M_addState, Or.inl (zG_mem (List.mem_append_right _ (List.mem_of_getElem? (i := 653) (by decide +kernel))) (by decide +kernel)), zG_mem (List.mem_append_right _ (List.mem_of_getElem? (i := 655) (by decide +kernel))) (by decide +kernel), zG_mem (List.mem_append_left _ (List.mem_of_getElem? (i := 42) (by decide +kernel))) (by decide +kernel), T_M, 19, rfl⟩
theorem c_M_129 : zV "LinkDiagramModel" 129 5 M_M_merge 2 := ⟨cb_M_merge, Or.inl (zG_mem (List.mem_append_right _ (List.mem_of_getElem? (i := 669) (by decide +kernel))) (by decide +kernel)), zG_mem (List.mem_append_right _ (List.mem_of_getElem? (i := 671) (by decide +kernel))) (by decide +kernel), zG_mem (List.mem_append_left _ (List.mem_of_getElem? (i := 45) (by decide +kernel))) (by decide +kernel), T_M, 19, rfl⟩
theorem c_M_136 : zV "LinkDiagramModel" 136 5 M_M_occurs 1 := ⟨cb_M_occurs, Or.inl (zG_mem (List.mem_append_right _ (List.mem_of_getElem? (i := 673) (by decide +kernel))) (by decide +kernel)), zG_mem (List.mem_append_right _ (List.mem_of_getElem? (i := 675) (by decide +kernel))) (by decide +kernel), zG_mem (List.mem_append_left _ (List.mem_of_getElem? (i := 46) (by decide +kernel))) (by decide +kernel), T_M, 19, rfl⟩
theorem c_M_141 : zV "LinkDiagramModel" 141 5 M_M_number 0 := ⟨cb_M_number, Or.inl (zG_mem (List.mem_append_right _ (List.mem_of_getElem? (i := 665) (by decide +kernel))) (by decide +kernel)), zG_mem (List.mem_append_right _ (List.mem_of_getElem? (i := 667) (by decide +kernel))) (by decide +kernel), zG_mem (List.mem_append_left _ (List.mem_of_getElem? (i := 44) (by decide +kernel))) (by decide +kernel), T_M, 19, rfl⟩
theorem c_M_144 : zV "LinkDiagramModel" 144 5 M_M_entries 1 := ⟨cb_M_entries, Or.inl (zG_mem (List.mem_append_right _ (List.mem_of_getElem? (i := 677) (by decide +kernel))) (by decide +kernel)), zG_mem (List.mem_append_right _ (List.mem_of_getElem? (i := 679) (by decide +kernel))) (by decide +kernel), zG_mem (List.mem_append_left _ (List.mem_of_getElem? (i := 47) (by decide +kernel))) (by decide +kernel), T_M, 19, rfl⟩
theorem c_M_147 : zS "LinkDiagramModel" 147 M_M_ones 1 := ⟨cb_M_ones, Or.inl (zG_mem (List.mem_append_right _ (List.mem_of_getElem? (i := 681) (by decide +kernel))) (by decide +kernel)), zG_mem (List.mem_append_right _ (List.mem_of_getElem? (i := 682) (by decide +kernel))) (by decide +kernel)⟩
theorem c_M_150 : zV "LinkDiagramModel" 150 5 M_M_expand 3 := ⟨cb_M_expand, Or.inl (zG_mem (List.mem_append_right _ (List.mem_of_getElem? (i := 684) (by decide +kernel))) (by decide +kernel)), zG_mem (List.mem_append_right _ (List.mem_of_getElem? (i := 686) (by decide +kernel))) (by decide +kernel), zG_mem (List.mem_append_left _ (List.mem_of_getElem? (i := 48) (by decide +kernel))) (by decide +kernel), T_M, 19, rfl⟩
theorem c_M_154 : zV "LinkDiagramModel" 154 5 M_M_endOf 2 := ⟨cb_M_endOf, Or.inl (zG_mem (List.mem_append_right _ (List.mem_of_getElem? (i := 705) (by decide +kernel))) (by decide +kernel)), zG_mem (List.mem_append_right _ (List.mem_of_getElem? (i := 707) (by decide +kernel))) (by decide +kernel), zG_mem (List.mem_append_left _ (List.mem_of_getElem? (i := 52) (by decide +kernel))) (by decide +kernel), T_M, 19, rfl⟩
theorem c_M_158 : zV "LinkDiagramModel" 158 5 M_M_instead 2 := ⟨cb_M_instead, Or.inl (zG_mem (List.mem_append_right _ (List.mem_of_getElem? (i := 701) (by decide +kernel))) (by decide +kernel)), zG_mem (List.mem_append_right _ (List.mem_of_getElem? (i := 703) (by decide +kernel))) (by decide +kernel), zG_mem (List.mem_append_left _ (List.mem_of_getElem? (i := 51) (by decide +kernel))) (by decide +kernel), T_M, 19, rfl⟩
theorem c_M_161 : zV "LinkDiagramModel" 161 5 M_M_free 1 := ⟨cb_M_free, Or.inl (zG_mem (List.mem_append_right _ (List.mem_of_getElem? (i := 693) (by decide +kernel))) (by decide +kernel)), zG_mem (List.mem_append_right _ (List.mem_of_getElem? (i := 695) (by decide +kernel))) (by decide +kernel), zG_mem (List.mem_append_left _ (List.mem_of_getElem? (i := 49) (by decide +kernel))) (by decide +kernel), T_M, 19, rfl⟩
theorem c_M_164 : zV "LinkDiagramModel" 164 5 M_M_kink 4 := ⟨cb_M_kink, Or.inl (zG_mem (List.mem_append_right _ (List.mem_of_getElem? (i := 697) (by decide +kernel))) (by decide +kernel)), zG_mem (List.mem_append_right _ (List.mem_of_getElem? (i := 699) (by decide +kernel))) (by decide +kernel), zG_mem (List.mem_append_left _ (List.mem_of_getElem? (i := 50) (by decide +kernel))) (by decide +kernel), T_M, 19, rfl⟩
theorem c_M_168 : zV "LinkDiagramModel" 168 5 M_M_isCrossing 1 := ⟨cb_M_isCrossing, Or.inl (zG_mem (List.mem_append_right _ (List.mem_of_getElem? (i := 713) (by decide +kernel))) (by decide +kernel)), zG_mem (List.mem_append_right _ (List.mem_of_getElem? (i := 715) (by decide +kernel))) (by decide +kernel), zG_mem (List.mem_append_left _ (List.mem_of_getElem? (i := 53) (by decide +kernel))) (by decide +kernel), T_M, 19, rfl⟩
theorem c_M_171 : zV "LinkDiagramModel" 171 5 M_M_takeOut 1 := ⟨cb_M_takeOut, Or.inl (zG_mem (List.mem_append_right _ (List.mem_of_getElem? (i := 717) (by decide +kernel))) (by decide +kernel)), zG_mem (List.mem_append_right _ (List.mem_of_getElem? (i := 719) (by decide +kernel))) (by decide +kernel), zG_mem (List.mem_append_left _ (List.mem_of_getElem? (i := 54) (by decide +kernel))) (by decide +kernel), T_M, 19, rfl⟩
theorem c_M_174 : zV "LinkDiagramModel" 174 5 M_M_join 2 := ⟨cb_M_join, Or.inl (zG_mem (List.mem_append_right _ (List.mem_of_getElem? (i := 721) (by decide +kernel))) (by decide +kernel)), zG_mem (List.mem_append_right _ (List.mem_of_getElem? (i := 723) (by decide +kernel))) (by decide +kernel), zG_mem (List.mem_append_left _ (List.mem_of_getElem? (i := 55) (by decide +kernel))) (by decide +kernel), T_M, 19, rfl⟩
theorem c_M_177 : zS "LinkDiagramModel" 177 M_M_opposite 1 := ⟨cb_M_opposite, Or.inl (zG_mem (List.mem_append_right _ (List.mem_of_getElem? (i := 745) (by decide +kernel))) (by decide +kernel)), zG_mem (List.mem_append_right _ (List.mem_of_getElem? (i := 746) (by decide +kernel))) (by decide +kernel)⟩
theorem c_M_180 : zV "LinkDiagramModel" 180 5 M_M_level 2 := ⟨cb_M_level, Or.inl (zG_mem (List.mem_append_right _ (List.mem_of_getElem? (i := 733) (by decide +kernel))) (by decide +kernel)), zG_mem (List.mem_append_right _ (List.mem_of_getElem? (i := 735) (by decide +kernel))) (by decide +kernel), zG_mem (List.mem_append_left _ (List.mem_of_getElem? (i := 56) (by decide +kernel))) (by decide +kernel), T_M, 19, rfl⟩
theorem c_M_184 : zV "LinkDiagramModel" 184 5 M_M_pull 4 := ⟨cb_M_pull, Or.inl (zG_mem (List.mem_append_right _ (List.mem_of_getElem? (i := 737) (by decide +kernel))) (by decide +kernel)), zG_mem (List.mem_append_right _ (List.mem_of_getElem? (i := 739) (by decide +kernel))) (by decide +kernel), zG_mem (List.mem_append_left _ (List.mem_of_getElem? (i := 57) (by decide +kernel))) (by decide +kernel), T_M, 19, rfl⟩
theorem c_M_187 : zV "LinkDiagramModel" 187 5 M_M_beyond 2 := ⟨cb_M_beyond, Or.inl (zG_mem (List.mem_append_right _ (List.mem_of_getElem? (i := 741) (by decide +kernel))) (by decide +kernel)), zG_mem (List.mem_append_right _ (List.mem_of_getElem? (i := 743) (by decide +kernel))) (by decide +kernel), zG_mem (List.mem_append_left _ (List.mem_of_getElem? (i := 58) (by decide +kernel))) (by decide +kernel), T_M, 19, rfl⟩
theorem c_M_190 : zV "LinkDiagramModel" 190 5 M_M_slideEdge 1 := ⟨cb_M_slideEdge, Or.inl (zG_mem (List.mem_append_right _ (List.mem_of_getElem? (i := 752) (by decide +kernel))) (by decide +kernel)), zG_mem (List.mem_append_right _ (List.mem_of_getElem? (i := 754) (by decide +kernel))) (by decide +kernel), zG_mem (List.mem_append_left _ (List.mem_of_getElem? (i := 59) (by decide +kernel))) (by decide +kernel), T_M, 19, rfl⟩
end
section
theorem d_C_init_0 : decode M_C_init.2.1 0 = .ok (.aload_n 0, 1) := by decide +kernel
theorem d_C_init_1 : decode M_C_init.2.1 1 = .ok (.invokespecial 3, 3) := by decide +kernel
theorem d_C_init_4 : decode M_C_init.2.1 4 = .ok (.aload_n 0, 1) := by decide +kernel
theorem d_C_init_5 : decode M_C_init.2.1 5 = .ok (.bipush (32), 2) := by decide +kernel
theorem d_C_init_7 : decode M_C_init.2.1 7 = .ok (.newarray .int, 2) := by decide +kernel
theorem d_C_init_9 : decode M_C_init.2.1 9 = .ok (.putfield 9, 3) := by decide +kernel
theorem d_C_init_12 : decode M_C_init.2.1 12 = .ok (.aload_n 0, 1) := by decide +kernel
theorem d_C_init_13 : decode M_C_init.2.1 13 = .ok (.bipush (8), 2) := by decide +kernel
theorem d_C_init_15 : decode M_C_init.2.1 15 = .ok (.newarray .int, 2) := by decide +kernel
theorem d_C_init_17 : decode M_C_init.2.1 17 = .ok (.putfield 15, 3) := by decide +kernel
theorem d_C_init_20 : decode M_C_init.2.1 20 = .ok (.aload_n 0, 1) := by decide +kernel
theorem d_C_init_21 : decode M_C_init.2.1 21 = .ok (.iconst (0), 1) := by decide +kernel
theorem d_C_init_22 : decode M_C_init.2.1 22 = .ok (.putfield 18, 3) := by decide +kernel
theorem d_C_init_25 : decode M_C_init.2.1 25 = .ok (.return_, 1) := by decide +kernel
theorem d_C_size_0 : decode M_C_size.2.1 0 = .ok (.aload_n 0, 1) := by decide +kernel
theorem d_C_size_1 : decode M_C_size.2.1 1 = .ok (.getfield 18, 3) := by decide +kernel
theorem d_C_size_4 : decode M_C_size.2.1 4 = .ok (.ireturn, 1) := by decide +kernel
theorem d_C_ends_0 : decode M_C_ends.2.1 0 = .ok (.iconst (4), 1) := by decide +kernel
theorem d_C_ends_1 : decode M_C_ends.2.1 1 = .ok (.aload_n 0, 1) := by decide +kernel
theorem d_C_ends_2 : decode M_C_ends.2.1 2 = .ok (.getfield 18, 3) := by decide +kernel
theorem d_C_ends_5 : decode M_C_ends.2.1 5 = .ok (.imul, 1) := by decide +kernel
theorem d_C_ends_6 : decode M_C_ends.2.1 6 = .ok (.ireturn, 1) := by decide +kernel
theorem d_C_isFull_0 : decode M_C_isFull.2.1 0 = .ok (.aload_n 0, 1) := by decide +kernel
theorem d_C_isFull_1 : decode M_C_isFull.2.1 1 = .ok (.getfield 18, 3) := by decide +kernel
theorem d_C_isFull_4 : decode M_C_isFull.2.1 4 = .ok (.bipush (8), 2) := by decide +kernel
theorem d_C_isFull_6 : decode M_C_isFull.2.1 6 = .ok (.if_icmp .lt (7), 3) := by decide +kernel
theorem d_C_isFull_9 : decode M_C_isFull.2.1 9 = .ok (.iconst (1), 1) := by decide +kernel
theorem d_C_isFull_10 : decode M_C_isFull.2.1 10 = .ok (.goto (4), 3) := by decide +kernel
theorem d_C_isFull_13 : decode M_C_isFull.2.1 13 = .ok (.iconst (0), 1) := by decide +kernel
theorem d_C_isFull_14 : decode M_C_isFull.2.1 14 = .ok (.ireturn, 1) := by decide +kernel
theorem d_C_has_0 : decode M_C_has.2.1 0 = .ok (.iload_n 1, 1) := by decide +kernel
theorem d_C_has_1 : decode M_C_has.2.1 1 = .ok (.ifCond .lt (15), 3) := by decide +kernel
theorem d_C_has_4 : decode M_C_has.2.1 4 = .ok (.iload_n 1, 1) := by decide +kernel
theorem d_C_has_5 : decode M_C_has.2.1 5 = .ok (.aload_n 0, 1) := by decide +kernel
theorem d_C_has_6 : decode M_C_has.2.1 6 = .ok (.getfield 18, 3) := by decide +kernel
theorem d_C_has_9 : decode M_C_has.2.1 9 = .ok (.if_icmp .ge (7), 3) := by decide +kernel
theorem d_C_has_12 : decode M_C_has.2.1 12 = .ok (.iconst (1), 1) := by decide +kernel
theorem d_C_has_13 : decode M_C_has.2.1 13 = .ok (.goto (4), 3) := by decide +kernel
theorem d_C_has_16 : decode M_C_has.2.1 16 = .ok (.iconst (0), 1) := by decide +kernel
theorem d_C_has_17 : decode M_C_has.2.1 17 = .ok (.ireturn, 1) := by decide +kernel
theorem d_C_edgeAt_0 : decode M_C_edgeAt.2.1 0 = .ok (.aload_n 0, 1) := by decide +kernel
theorem d_C_edgeAt_1 : decode M_C_edgeAt.2.1 1 = .ok (.getfield 9, 3) := by decide +kernel
theorem d_C_edgeAt_4 : decode M_C_edgeAt.2.1 4 = .ok (.iload_n 1, 1) := by decide +kernel
theorem d_C_edgeAt_5 : decode M_C_edgeAt.2.1 5 = .ok (.iaload, 1) := by decide +kernel
theorem d_C_edgeAt_6 : decode M_C_edgeAt.2.1 6 = .ok (.ireturn, 1) := by decide +kernel
theorem d_C_setEdge_0 : decode M_C_setEdge.2.1 0 = .ok (.aload_n 0, 1) := by decide +kernel
theorem d_C_setEdge_1 : decode M_C_setEdge.2.1 1 = .ok (.getfield 9, 3) := by decide +kernel
theorem d_C_setEdge_4 : decode M_C_setEdge.2.1 4 = .ok (.iload_n 1, 1) := by decide +kernel
theorem d_C_setEdge_5 : decode M_C_setEdge.2.1 5 = .ok (.iload_n 2, 1) := by decide +kernel
theorem d_C_setEdge_6 : decode M_C_setEdge.2.1 6 = .ok (.iastore, 1) := by decide +kernel
theorem d_C_setEdge_7 : decode M_C_setEdge.2.1 7 = .ok (.return_, 1) := by decide +kernel
theorem d_C_isPositive_0 : decode M_C_isPositive.2.1 0 = .ok (.aload_n 0, 1) := by decide +kernel
theorem d_C_isPositive_1 : decode M_C_isPositive.2.1 1 = .ok (.getfield 15, 3) := by decide +kernel
theorem d_C_isPositive_4 : decode M_C_isPositive.2.1 4 = .ok (.iload_n 1, 1) := by decide +kernel
theorem d_C_isPositive_5 : decode M_C_isPositive.2.1 5 = .ok (.iaload, 1) := by decide +kernel
theorem d_C_isPositive_6 : decode M_C_isPositive.2.1 6 = .ok (.ifCond .le (7), 3) := by decide +kernel
theorem d_C_isPositive_9 : decode M_C_isPositive.2.1 9 = .ok (.iconst (1), 1) := by decide +kernel
theorem d_C_isPositive_10 : decode M_C_isPositive.2.1 10 = .ok (.goto (4), 3) := by decide +kernel
theorem d_C_isPositive_13 : decode M_C_isPositive.2.1 13 = .ok (.iconst (0), 1) := by decide +kernel
theorem d_C_isPositive_14 : decode M_C_isPositive.2.1 14 = .ok (.ireturn, 1) := by decide +kernel
theorem d_C_append_0 : decode M_C_append.2.1 0 = .ok (.aload_n 0, 1) := by decide +kernel
theorem d_C_append_1 : decode M_C_append.2.1 1 = .ok (.invokevirtual 22, 3) := by decide +kernel
theorem d_C_append_4 : decode M_C_append.2.1 4 = .ok (.ifCond .eq (4), 3) := by decide +kernel
theorem d_C_append_7 : decode M_C_append.2.1 7 = .ok (.return_, 1) := by decide +kernel
theorem d_C_append_8 : decode M_C_append.2.1 8 = .ok (.iconst (4), 1) := by decide +kernel
theorem d_C_append_9 : decode M_C_append.2.1 9 = .ok (.aload_n 0, 1) := by decide +kernel
theorem d_C_append_10 : decode M_C_append.2.1 10 = .ok (.getfield 18, 3) := by decide +kernel
theorem d_C_append_13 : decode M_C_append.2.1 13 = .ok (.imul, 1) := by decide +kernel
theorem d_C_append_14 : decode M_C_append.2.1 14 = .ok (.istore 6, 2) := by decide +kernel
theorem d_C_append_16 : decode M_C_append.2.1 16 = .ok (.aload_n 0, 1) := by decide +kernel
theorem d_C_append_17 : decode M_C_append.2.1 17 = .ok (.getfield 9, 3) := by decide +kernel
theorem d_C_append_20 : decode M_C_append.2.1 20 = .ok (.iload 6, 2) := by decide +kernel
theorem d_C_append_22 : decode M_C_append.2.1 22 = .ok (.iload_n 1, 1) := by decide +kernel
theorem d_C_append_23 : decode M_C_append.2.1 23 = .ok (.iastore, 1) := by decide +kernel
theorem d_C_append_24 : decode M_C_append.2.1 24 = .ok (.aload_n 0, 1) := by decide +kernel
theorem d_C_append_25 : decode M_C_append.2.1 25 = .ok (.getfield 9, 3) := by decide +kernel
theorem d_C_append_28 : decode M_C_append.2.1 28 = .ok (.iload 6, 2) := by decide +kernel
theorem d_C_append_30 : decode M_C_append.2.1 30 = .ok (.iconst (1), 1) := by decide +kernel
theorem d_C_append_31 : decode M_C_append.2.1 31 = .ok (.iadd, 1) := by decide +kernel
theorem d_C_append_32 : decode M_C_append.2.1 32 = .ok (.iload_n 2, 1) := by decide +kernel
theorem d_C_append_33 : decode M_C_append.2.1 33 = .ok (.iastore, 1) := by decide +kernel
theorem d_C_append_34 : decode M_C_append.2.1 34 = .ok (.aload_n 0, 1) := by decide +kernel
theorem d_C_append_35 : decode M_C_append.2.1 35 = .ok (.getfield 9, 3) := by decide +kernel
theorem d_C_append_38 : decode M_C_append.2.1 38 = .ok (.iload 6, 2) := by decide +kernel
theorem d_C_append_40 : decode M_C_append.2.1 40 = .ok (.iconst (2), 1) := by decide +kernel
theorem d_C_append_41 : decode M_C_append.2.1 41 = .ok (.iadd, 1) := by decide +kernel
theorem d_C_append_42 : decode M_C_append.2.1 42 = .ok (.iload_n 3, 1) := by decide +kernel
theorem d_C_append_43 : decode M_C_append.2.1 43 = .ok (.iastore, 1) := by decide +kernel
theorem d_C_append_44 : decode M_C_append.2.1 44 = .ok (.aload_n 0, 1) := by decide +kernel
theorem d_C_append_45 : decode M_C_append.2.1 45 = .ok (.getfield 9, 3) := by decide +kernel
theorem d_C_append_48 : decode M_C_append.2.1 48 = .ok (.iload 6, 2) := by decide +kernel
theorem d_C_append_50 : decode M_C_append.2.1 50 = .ok (.iconst (3), 1) := by decide +kernel
theorem d_C_append_51 : decode M_C_append.2.1 51 = .ok (.iadd, 1) := by decide +kernel
theorem d_C_append_52 : decode M_C_append.2.1 52 = .ok (.iload 4, 2) := by decide +kernel
theorem d_C_append_54 : decode M_C_append.2.1 54 = .ok (.iastore, 1) := by decide +kernel
theorem d_C_append_55 : decode M_C_append.2.1 55 = .ok (.aload_n 0, 1) := by decide +kernel
theorem d_C_append_56 : decode M_C_append.2.1 56 = .ok (.getfield 15, 3) := by decide +kernel
theorem d_C_append_59 : decode M_C_append.2.1 59 = .ok (.aload_n 0, 1) := by decide +kernel
theorem d_C_append_60 : decode M_C_append.2.1 60 = .ok (.getfield 18, 3) := by decide +kernel
theorem d_C_append_63 : decode M_C_append.2.1 63 = .ok (.iload 5, 2) := by decide +kernel
theorem d_C_append_65 : decode M_C_append.2.1 65 = .ok (.ifCond .eq (7), 3) := by decide +kernel
theorem d_C_append_68 : decode M_C_append.2.1 68 = .ok (.iconst (1), 1) := by decide +kernel
theorem d_C_append_69 : decode M_C_append.2.1 69 = .ok (.goto (4), 3) := by decide +kernel
theorem d_C_append_72 : decode M_C_append.2.1 72 = .ok (.iconst (-1), 1) := by decide +kernel
theorem d_C_append_73 : decode M_C_append.2.1 73 = .ok (.iastore, 1) := by decide +kernel
theorem d_C_append_74 : decode M_C_append.2.1 74 = .ok (.aload_n 0, 1) := by decide +kernel
theorem d_C_append_75 : decode M_C_append.2.1 75 = .ok (.dup, 1) := by decide +kernel
theorem d_C_append_76 : decode M_C_append.2.1 76 = .ok (.getfield 18, 3) := by decide +kernel
theorem d_C_append_79 : decode M_C_append.2.1 79 = .ok (.iconst (1), 1) := by decide +kernel
theorem d_C_append_80 : decode M_C_append.2.1 80 = .ok (.iadd, 1) := by decide +kernel
theorem d_C_append_81 : decode M_C_append.2.1 81 = .ok (.putfield 18, 3) := by decide +kernel
theorem d_C_append_84 : decode M_C_append.2.1 84 = .ok (.return_, 1) := by decide +kernel
theorem d_C_remove_0 : decode M_C_remove.2.1 0 = .ok (.aload_n 0, 1) := by decide +kernel
theorem d_C_remove_1 : decode M_C_remove.2.1 1 = .ok (.iload_n 1, 1) := by decide +kernel
theorem d_C_remove_2 : decode M_C_remove.2.1 2 = .ok (.invokevirtual 26, 3) := by decide +kernel
theorem d_C_remove_5 : decode M_C_remove.2.1 5 = .ok (.ifCond .ne (4), 3) := by decide +kernel
theorem d_C_remove_8 : decode M_C_remove.2.1 8 = .ok (.return_, 1) := by decide +kernel
theorem d_C_remove_9 : decode M_C_remove.2.1 9 = .ok (.aload_n 0, 1) := by decide +kernel
theorem d_C_remove_10 : decode M_C_remove.2.1 10 = .ok (.getfield 18, 3) := by decide +kernel
theorem d_C_remove_13 : decode M_C_remove.2.1 13 = .ok (.iload_n 1, 1) := by decide +kernel
theorem d_C_remove_14 : decode M_C_remove.2.1 14 = .ok (.isub, 1) := by decide +kernel
theorem d_C_remove_15 : decode M_C_remove.2.1 15 = .ok (.iconst (1), 1) := by decide +kernel
theorem d_C_remove_16 : decode M_C_remove.2.1 16 = .ok (.isub, 1) := by decide +kernel
theorem d_C_remove_17 : decode M_C_remove.2.1 17 = .ok (.istore_n 2, 1) := by decide +kernel
theorem d_C_remove_18 : decode M_C_remove.2.1 18 = .ok (.aload_n 0, 1) := by decide +kernel
theorem d_C_remove_19 : decode M_C_remove.2.1 19 = .ok (.getfield 9, 3) := by decide +kernel
theorem d_C_remove_22 : decode M_C_remove.2.1 22 = .ok (.iconst (4), 1) := by decide +kernel
theorem d_C_remove_23 : decode M_C_remove.2.1 23 = .ok (.iload_n 1, 1) := by decide +kernel
theorem d_C_remove_24 : decode M_C_remove.2.1 24 = .ok (.imul, 1) := by decide +kernel
theorem d_C_remove_25 : decode M_C_remove.2.1 25 = .ok (.iconst (4), 1) := by decide +kernel
theorem d_C_remove_26 : decode M_C_remove.2.1 26 = .ok (.iadd, 1) := by decide +kernel
theorem d_C_remove_27 : decode M_C_remove.2.1 27 = .ok (.aload_n 0, 1) := by decide +kernel
theorem d_C_remove_28 : decode M_C_remove.2.1 28 = .ok (.getfield 9, 3) := by decide +kernel
theorem d_C_remove_31 : decode M_C_remove.2.1 31 = .ok (.iconst (4), 1) := by decide +kernel
theorem d_C_remove_32 : decode M_C_remove.2.1 32 = .ok (.iload_n 1, 1) := by decide +kernel
theorem d_C_remove_33 : decode M_C_remove.2.1 33 = .ok (.imul, 1) := by decide +kernel
theorem d_C_remove_34 : decode M_C_remove.2.1 34 = .ok (.iconst (4), 1) := by decide +kernel
theorem d_C_remove_35 : decode M_C_remove.2.1 35 = .ok (.iload_n 2, 1) := by decide +kernel
theorem d_C_remove_36 : decode M_C_remove.2.1 36 = .ok (.imul, 1) := by decide +kernel
theorem d_C_remove_37 : decode M_C_remove.2.1 37 = .ok (.invokestatic 30, 3) := by decide +kernel
theorem d_C_remove_40 : decode M_C_remove.2.1 40 = .ok (.aload_n 0, 1) := by decide +kernel
theorem d_C_remove_41 : decode M_C_remove.2.1 41 = .ok (.getfield 15, 3) := by decide +kernel
theorem d_C_remove_44 : decode M_C_remove.2.1 44 = .ok (.iload_n 1, 1) := by decide +kernel
theorem d_C_remove_45 : decode M_C_remove.2.1 45 = .ok (.iconst (1), 1) := by decide +kernel
theorem d_C_remove_46 : decode M_C_remove.2.1 46 = .ok (.iadd, 1) := by decide +kernel
theorem d_C_remove_47 : decode M_C_remove.2.1 47 = .ok (.aload_n 0, 1) := by decide +kernel
theorem d_C_remove_48 : decode M_C_remove.2.1 48 = .ok (.getfield 15, 3) := by decide +kernel
theorem d_C_remove_51 : decode M_C_remove.2.1 51 = .ok (.iload_n 1, 1) := by decide +kernel
theorem d_C_remove_52 : decode M_C_remove.2.1 52 = .ok (.iload_n 2, 1) := by decide +kernel
theorem d_C_remove_53 : decode M_C_remove.2.1 53 = .ok (.invokestatic 30, 3) := by decide +kernel
theorem d_C_remove_56 : decode M_C_remove.2.1 56 = .ok (.aload_n 0, 1) := by decide +kernel
theorem d_C_remove_57 : decode M_C_remove.2.1 57 = .ok (.dup, 1) := by decide +kernel
theorem d_C_remove_58 : decode M_C_remove.2.1 58 = .ok (.getfield 18, 3) := by decide +kernel
theorem d_C_remove_61 : decode M_C_remove.2.1 61 = .ok (.iconst (1), 1) := by decide +kernel
theorem d_C_remove_62 : decode M_C_remove.2.1 62 = .ok (.isub, 1) := by decide +kernel
theorem d_C_remove_63 : decode M_C_remove.2.1 63 = .ok (.putfield 18, 3) := by decide +kernel
theorem d_C_remove_66 : decode M_C_remove.2.1 66 = .ok (.return_, 1) := by decide +kernel
theorem d_C_clear_0 : decode M_C_clear.2.1 0 = .ok (.aload_n 0, 1) := by decide +kernel
theorem d_C_clear_1 : decode M_C_clear.2.1 1 = .ok (.iconst (0), 1) := by decide +kernel
theorem d_C_clear_2 : decode M_C_clear.2.1 2 = .ok (.putfield 18, 3) := by decide +kernel
theorem d_C_clear_5 : decode M_C_clear.2.1 5 = .ok (.return_, 1) := by decide +kernel
theorem d_C_copyFrom_0 : decode M_C_copyFrom.2.1 0 = .ok (.aload_n 1, 1) := by decide +kernel
theorem d_C_copyFrom_1 : decode M_C_copyFrom.2.1 1 = .ok (.getfield 9, 3) := by decide +kernel
theorem d_C_copyFrom_4 : decode M_C_copyFrom.2.1 4 = .ok (.iconst (0), 1) := by decide +kernel
theorem d_C_copyFrom_5 : decode M_C_copyFrom.2.1 5 = .ok (.aload_n 0, 1) := by decide +kernel
theorem d_C_copyFrom_6 : decode M_C_copyFrom.2.1 6 = .ok (.getfield 9, 3) := by decide +kernel
theorem d_C_copyFrom_9 : decode M_C_copyFrom.2.1 9 = .ok (.iconst (0), 1) := by decide +kernel
theorem d_C_copyFrom_10 : decode M_C_copyFrom.2.1 10 = .ok (.bipush (32), 2) := by decide +kernel
theorem d_C_copyFrom_12 : decode M_C_copyFrom.2.1 12 = .ok (.invokestatic 30, 3) := by decide +kernel
theorem d_C_copyFrom_15 : decode M_C_copyFrom.2.1 15 = .ok (.aload_n 1, 1) := by decide +kernel
theorem d_C_copyFrom_16 : decode M_C_copyFrom.2.1 16 = .ok (.getfield 15, 3) := by decide +kernel
theorem d_C_copyFrom_19 : decode M_C_copyFrom.2.1 19 = .ok (.iconst (0), 1) := by decide +kernel
theorem d_C_copyFrom_20 : decode M_C_copyFrom.2.1 20 = .ok (.aload_n 0, 1) := by decide +kernel
theorem d_C_copyFrom_21 : decode M_C_copyFrom.2.1 21 = .ok (.getfield 15, 3) := by decide +kernel
theorem d_C_copyFrom_24 : decode M_C_copyFrom.2.1 24 = .ok (.iconst (0), 1) := by decide +kernel
theorem d_C_copyFrom_25 : decode M_C_copyFrom.2.1 25 = .ok (.bipush (8), 2) := by decide +kernel
theorem d_C_copyFrom_27 : decode M_C_copyFrom.2.1 27 = .ok (.invokestatic 30, 3) := by decide +kernel
theorem d_C_copyFrom_30 : decode M_C_copyFrom.2.1 30 = .ok (.aload_n 0, 1) := by decide +kernel
theorem d_C_copyFrom_31 : decode M_C_copyFrom.2.1 31 = .ok (.aload_n 1, 1) := by decide +kernel
theorem d_C_copyFrom_32 : decode M_C_copyFrom.2.1 32 = .ok (.getfield 18, 3) := by decide +kernel
theorem d_C_copyFrom_35 : decode M_C_copyFrom.2.1 35 = .ok (.putfield 18, 3) := by decide +kernel
theorem d_C_copyFrom_38 : decode M_C_copyFrom.2.1 38 = .ok (.return_, 1) := by decide +kernel
theorem d_C_writhe_0 : decode M_C_writhe.2.1 0 = .ok (.iconst (0), 1) := by decide +kernel
theorem d_C_writhe_1 : decode M_C_writhe.2.1 1 = .ok (.istore_n 1, 1) := by decide +kernel
theorem d_C_writhe_2 : decode M_C_writhe.2.1 2 = .ok (.iconst (0), 1) := by decide +kernel
theorem d_C_writhe_3 : decode M_C_writhe.2.1 3 = .ok (.istore_n 2, 1) := by decide +kernel
theorem d_C_writhe_4 : decode M_C_writhe.2.1 4 = .ok (.iload_n 2, 1) := by decide +kernel
theorem d_C_writhe_5 : decode M_C_writhe.2.1 5 = .ok (.aload_n 0, 1) := by decide +kernel
theorem d_C_writhe_6 : decode M_C_writhe.2.1 6 = .ok (.getfield 18, 3) := by decide +kernel
theorem d_C_writhe_9 : decode M_C_writhe.2.1 9 = .ok (.if_icmp .ge (18), 3) := by decide +kernel
theorem d_C_writhe_12 : decode M_C_writhe.2.1 12 = .ok (.iload_n 1, 1) := by decide +kernel
theorem d_C_writhe_13 : decode M_C_writhe.2.1 13 = .ok (.aload_n 0, 1) := by decide +kernel
theorem d_C_writhe_14 : decode M_C_writhe.2.1 14 = .ok (.getfield 15, 3) := by decide +kernel
theorem d_C_writhe_17 : decode M_C_writhe.2.1 17 = .ok (.iload_n 2, 1) := by decide +kernel
theorem d_C_writhe_18 : decode M_C_writhe.2.1 18 = .ok (.iaload, 1) := by decide +kernel
theorem d_C_writhe_19 : decode M_C_writhe.2.1 19 = .ok (.iadd, 1) := by decide +kernel
theorem d_C_writhe_20 : decode M_C_writhe.2.1 20 = .ok (.istore_n 1, 1) := by decide +kernel
theorem d_C_writhe_21 : decode M_C_writhe.2.1 21 = .ok (.iinc 2 (1), 3) := by decide +kernel
theorem d_C_writhe_24 : decode M_C_writhe.2.1 24 = .ok (.goto (-20), 3) := by decide +kernel
theorem d_C_writhe_27 : decode M_C_writhe.2.1 27 = .ok (.iload_n 1, 1) := by decide +kernel
theorem d_C_writhe_28 : decode M_C_writhe.2.1 28 = .ok (.ireturn, 1) := by decide +kernel
theorem d_C_comesIn_0 : decode M_C_comesIn.2.1 0 = .ok (.iload_n 1, 1) := by decide +kernel
theorem d_C_comesIn_1 : decode M_C_comesIn.2.1 1 = .ok (.iconst (3), 1) := by decide +kernel
theorem d_C_comesIn_2 : decode M_C_comesIn.2.1 2 = .ok (.iand, 1) := by decide +kernel
theorem d_C_comesIn_3 : decode M_C_comesIn.2.1 3 = .ok (.istore_n 2, 1) := by decide +kernel
theorem d_C_comesIn_4 : decode M_C_comesIn.2.1 4 = .ok (.iload_n 2, 1) := by decide +kernel
theorem d_C_comesIn_5 : decode M_C_comesIn.2.1 5 = .ok (.invokestatic 36, 3) := by decide +kernel
theorem d_C_comesIn_8 : decode M_C_comesIn.2.1 8 = .ok (.ifCond .eq (30), 3) := by decide +kernel
theorem d_C_comesIn_11 : decode M_C_comesIn.2.1 11 = .ok (.iload_n 2, 1) := by decide +kernel
theorem d_C_comesIn_12 : decode M_C_comesIn.2.1 12 = .ok (.iconst (3), 1) := by decide +kernel
theorem d_C_comesIn_13 : decode M_C_comesIn.2.1 13 = .ok (.if_icmp .ne (7), 3) := by decide +kernel
theorem d_C_comesIn_16 : decode M_C_comesIn.2.1 16 = .ok (.iconst (1), 1) := by decide +kernel
theorem d_C_comesIn_17 : decode M_C_comesIn.2.1 17 = .ok (.goto (4), 3) := by decide +kernel
theorem d_C_comesIn_20 : decode M_C_comesIn.2.1 20 = .ok (.iconst (0), 1) := by decide +kernel
theorem d_C_comesIn_21 : decode M_C_comesIn.2.1 21 = .ok (.aload_n 0, 1) := by decide +kernel
theorem d_C_comesIn_22 : decode M_C_comesIn.2.1 22 = .ok (.iload_n 1, 1) := by decide +kernel
theorem d_C_comesIn_23 : decode M_C_comesIn.2.1 23 = .ok (.invokestatic 39, 3) := by decide +kernel
theorem d_C_comesIn_26 : decode M_C_comesIn.2.1 26 = .ok (.invokevirtual 43, 3) := by decide +kernel
theorem d_C_comesIn_29 : decode M_C_comesIn.2.1 29 = .ok (.if_icmp .ne (7), 3) := by decide +kernel
theorem d_C_comesIn_32 : decode M_C_comesIn.2.1 32 = .ok (.iconst (1), 1) := by decide +kernel
theorem d_C_comesIn_33 : decode M_C_comesIn.2.1 33 = .ok (.goto (4), 3) := by decide +kernel
theorem d_C_comesIn_36 : decode M_C_comesIn.2.1 36 = .ok (.iconst (0), 1) := by decide +kernel
theorem d_C_comesIn_37 : decode M_C_comesIn.2.1 37 = .ok (.ireturn, 1) := by decide +kernel
theorem d_C_comesIn_38 : decode M_C_comesIn.2.1 38 = .ok (.iload_n 2, 1) := by decide +kernel
theorem d_C_comesIn_39 : decode M_C_comesIn.2.1 39 = .ok (.ifCond .ne (7), 3) := by decide +kernel
theorem d_C_comesIn_42 : decode M_C_comesIn.2.1 42 = .ok (.iconst (1), 1) := by decide +kernel
theorem d_C_comesIn_43 : decode M_C_comesIn.2.1 43 = .ok (.goto (4), 3) := by decide +kernel
theorem d_C_comesIn_46 : decode M_C_comesIn.2.1 46 = .ok (.iconst (0), 1) := by decide +kernel
theorem d_C_comesIn_47 : decode M_C_comesIn.2.1 47 = .ok (.ireturn, 1) := by decide +kernel
theorem d_C_occurs_0 : decode M_C_occurs.2.1 0 = .ok (.iconst (0), 1) := by decide +kernel
theorem d_C_occurs_1 : decode M_C_occurs.2.1 1 = .ok (.istore_n 2, 1) := by decide +kernel
theorem d_C_occurs_2 : decode M_C_occurs.2.1 2 = .ok (.iload_n 2, 1) := by decide +kernel
theorem d_C_occurs_3 : decode M_C_occurs.2.1 3 = .ok (.aload_n 0, 1) := by decide +kernel
theorem d_C_occurs_4 : decode M_C_occurs.2.1 4 = .ok (.invokevirtual 46, 3) := by decide +kernel
theorem d_C_occurs_7 : decode M_C_occurs.2.1 7 = .ok (.if_icmp .ge (21), 3) := by decide +kernel
theorem d_C_occurs_10 : decode M_C_occurs.2.1 10 = .ok (.aload_n 0, 1) := by decide +kernel
theorem d_C_occurs_11 : decode M_C_occurs.2.1 11 = .ok (.getfield 9, 3) := by decide +kernel
theorem d_C_occurs_14 : decode M_C_occurs.2.1 14 = .ok (.iload_n 2, 1) := by decide +kernel
theorem d_C_occurs_15 : decode M_C_occurs.2.1 15 = .ok (.iaload, 1) := by decide +kernel
theorem d_C_occurs_16 : decode M_C_occurs.2.1 16 = .ok (.iload_n 1, 1) := by decide +kernel
theorem d_C_occurs_17 : decode M_C_occurs.2.1 17 = .ok (.if_icmp .ne (5), 3) := by decide +kernel
theorem d_C_occurs_20 : decode M_C_occurs.2.1 20 = .ok (.iconst (1), 1) := by decide +kernel
theorem d_C_occurs_21 : decode M_C_occurs.2.1 21 = .ok (.ireturn, 1) := by decide +kernel
theorem d_C_occurs_22 : decode M_C_occurs.2.1 22 = .ok (.iinc 2 (1), 3) := by decide +kernel
theorem d_C_occurs_25 : decode M_C_occurs.2.1 25 = .ok (.goto (-23), 3) := by decide +kernel
theorem d_C_occurs_28 : decode M_C_occurs.2.1 28 = .ok (.iconst (0), 1) := by decide +kernel
theorem d_C_occurs_29 : decode M_C_occurs.2.1 29 = .ok (.ireturn, 1) := by decide +kernel
theorem d_C_otherEnd_0 : decode M_C_otherEnd.2.1 0 = .ok (.iconst (0), 1) := by decide +kernel
theorem d_C_otherEnd_1 : decode M_C_otherEnd.2.1 1 = .ok (.istore_n 2, 1) := by decide +kernel
theorem d_C_otherEnd_2 : decode M_C_otherEnd.2.1 2 = .ok (.iload_n 2, 1) := by decide +kernel
theorem d_C_otherEnd_3 : decode M_C_otherEnd.2.1 3 = .ok (.aload_n 0, 1) := by decide +kernel
theorem d_C_otherEnd_4 : decode M_C_otherEnd.2.1 4 = .ok (.invokevirtual 46, 3) := by decide +kernel
theorem d_C_otherEnd_7 : decode M_C_otherEnd.2.1 7 = .ok (.if_icmp .ge (31), 3) := by decide +kernel
theorem d_C_otherEnd_10 : decode M_C_otherEnd.2.1 10 = .ok (.iload_n 2, 1) := by decide +kernel
theorem d_C_otherEnd_11 : decode M_C_otherEnd.2.1 11 = .ok (.iload_n 1, 1) := by decide +kernel
theorem d_C_otherEnd_12 : decode M_C_otherEnd.2.1 12 = .ok (.if_icmp .eq (20), 3) := by decide +kernel
theorem d_C_otherEnd_15 : decode M_C_otherEnd.2.1 15 = .ok (.aload_n 0, 1) := by decide +kernel
theorem d_C_otherEnd_16 : decode M_C_otherEnd.2.1 16 = .ok (.getfield 9, 3) := by decide +kernel
theorem d_C_otherEnd_19 : decode M_C_otherEnd.2.1 19 = .ok (.iload_n 2, 1) := by decide +kernel
theorem d_C_otherEnd_20 : decode M_C_otherEnd.2.1 20 = .ok (.iaload, 1) := by decide +kernel
theorem d_C_otherEnd_21 : decode M_C_otherEnd.2.1 21 = .ok (.aload_n 0, 1) := by decide +kernel
theorem d_C_otherEnd_22 : decode M_C_otherEnd.2.1 22 = .ok (.getfield 9, 3) := by decide +kernel
theorem d_C_otherEnd_25 : decode M_C_otherEnd.2.1 25 = .ok (.iload_n 1, 1) := by decide +kernel
theorem d_C_otherEnd_26 : decode M_C_otherEnd.2.1 26 = .ok (.iaload, 1) := by decide +kernel
theorem d_C_otherEnd_27 : decode M_C_otherEnd.2.1 27 = .ok (.if_icmp .ne (5), 3) := by decide +kernel
theorem d_C_otherEnd_30 : decode M_C_otherEnd.2.1 30 = .ok (.iload_n 2, 1) := by decide +kernel
theorem d_C_otherEnd_31 : decode M_C_otherEnd.2.1 31 = .ok (.ireturn, 1) := by decide +kernel
theorem d_C_otherEnd_32 : decode M_C_otherEnd.2.1 32 = .ok (.iinc 2 (1), 3) := by decide +kernel
theorem d_C_otherEnd_35 : decode M_C_otherEnd.2.1 35 = .ok (.goto (-33), 3) := by decide +kernel
theorem d_C_otherEnd_38 : decode M_C_otherEnd.2.1 38 = .ok (.iload_n 1, 1) := by decide +kernel
theorem d_C_otherEnd_39 : decode M_C_otherEnd.2.1 39 = .ok (.ireturn, 1) := by decide +kernel
theorem d_C_follow_0 : decode M_C_follow.2.1 0 = .ok (.aload_n 0, 1) := by decide +kernel
theorem d_C_follow_1 : decode M_C_follow.2.1 1 = .ok (.iload_n 1, 1) := by decide +kernel
theorem d_C_follow_2 : decode M_C_follow.2.1 2 = .ok (.invokevirtual 50, 3) := by decide +kernel
theorem d_C_follow_5 : decode M_C_follow.2.1 5 = .ok (.iconst (3), 1) := by decide +kernel
theorem d_C_follow_6 : decode M_C_follow.2.1 6 = .ok (.invokestatic 53, 3) := by decide +kernel
theorem d_C_follow_9 : decode M_C_follow.2.1 9 = .ok (.ireturn, 1) := by decide +kernel
theorem d_C_incoming_0 : decode M_C_incoming.2.1 0 = .ok (.aload_n 0, 1) := by decide +kernel
theorem d_C_incoming_1 : decode M_C_incoming.2.1 1 = .ok (.iload_n 1, 1) := by decide +kernel
theorem d_C_incoming_2 : decode M_C_incoming.2.1 2 = .ok (.invokevirtual 57, 3) := by decide +kernel
theorem d_C_incoming_5 : decode M_C_incoming.2.1 5 = .ok (.ifCond .eq (7), 3) := by decide +kernel
theorem d_C_incoming_8 : decode M_C_incoming.2.1 8 = .ok (.iload_n 1, 1) := by decide +kernel
theorem d_C_incoming_9 : decode M_C_incoming.2.1 9 = .ok (.goto (8), 3) := by decide +kernel
theorem d_C_incoming_12 : decode M_C_incoming.2.1 12 = .ok (.aload_n 0, 1) := by decide +kernel
theorem d_C_incoming_13 : decode M_C_incoming.2.1 13 = .ok (.iload_n 1, 1) := by decide +kernel
theorem d_C_incoming_14 : decode M_C_incoming.2.1 14 = .ok (.invokevirtual 50, 3) := by decide +kernel
theorem d_C_incoming_17 : decode M_C_incoming.2.1 17 = .ok (.ireturn, 1) := by decide +kernel
theorem d_C_outgoing_0 : decode M_C_outgoing.2.1 0 = .ok (.aload_n 0, 1) := by decide +kernel
theorem d_C_outgoing_1 : decode M_C_outgoing.2.1 1 = .ok (.iload_n 1, 1) := by decide +kernel
theorem d_C_outgoing_2 : decode M_C_outgoing.2.1 2 = .ok (.invokevirtual 57, 3) := by decide +kernel
theorem d_C_outgoing_5 : decode M_C_outgoing.2.1 5 = .ok (.ifCond .eq (11), 3) := by decide +kernel
theorem d_C_outgoing_8 : decode M_C_outgoing.2.1 8 = .ok (.aload_n 0, 1) := by decide +kernel
theorem d_C_outgoing_9 : decode M_C_outgoing.2.1 9 = .ok (.iload_n 1, 1) := by decide +kernel
theorem d_C_outgoing_10 : decode M_C_outgoing.2.1 10 = .ok (.invokevirtual 50, 3) := by decide +kernel
theorem d_C_outgoing_13 : decode M_C_outgoing.2.1 13 = .ok (.goto (4), 3) := by decide +kernel
theorem d_C_outgoing_16 : decode M_C_outgoing.2.1 16 = .ok (.iload_n 1, 1) := by decide +kernel
theorem d_C_outgoing_17 : decode M_C_outgoing.2.1 17 = .ok (.ireturn, 1) := by decide +kernel
theorem d_C_edgeBefore_0 : decode M_C_edgeBefore.2.1 0 = .ok (.aload_n 0, 1) := by decide +kernel
theorem d_C_edgeBefore_1 : decode M_C_edgeBefore.2.1 1 = .ok (.getfield 9, 3) := by decide +kernel
theorem d_C_edgeBefore_4 : decode M_C_edgeBefore.2.1 4 = .ok (.aload_n 0, 1) := by decide +kernel
theorem d_C_edgeBefore_5 : decode M_C_edgeBefore.2.1 5 = .ok (.iload_n 1, 1) := by decide +kernel
theorem d_C_edgeBefore_6 : decode M_C_edgeBefore.2.1 6 = .ok (.invokevirtual 60, 3) := by decide +kernel
theorem d_C_edgeBefore_9 : decode M_C_edgeBefore.2.1 9 = .ok (.invokestatic 63, 3) := by decide +kernel
theorem d_C_edgeBefore_12 : decode M_C_edgeBefore.2.1 12 = .ok (.iaload, 1) := by decide +kernel
theorem d_C_edgeBefore_13 : decode M_C_edgeBefore.2.1 13 = .ok (.ireturn, 1) := by decide +kernel
theorem d_C_edgeBehind_0 : decode M_C_edgeBehind.2.1 0 = .ok (.aload_n 0, 1) := by decide +kernel
theorem d_C_edgeBehind_1 : decode M_C_edgeBehind.2.1 1 = .ok (.getfield 9, 3) := by decide +kernel
theorem d_C_edgeBehind_4 : decode M_C_edgeBehind.2.1 4 = .ok (.aload_n 0, 1) := by decide +kernel
theorem d_C_edgeBehind_5 : decode M_C_edgeBehind.2.1 5 = .ok (.iload_n 1, 1) := by decide +kernel
theorem d_C_edgeBehind_6 : decode M_C_edgeBehind.2.1 6 = .ok (.invokevirtual 66, 3) := by decide +kernel
theorem d_C_edgeBehind_9 : decode M_C_edgeBehind.2.1 9 = .ok (.invokestatic 63, 3) := by decide +kernel
theorem d_C_edgeBehind_12 : decode M_C_edgeBehind.2.1 12 = .ok (.iaload, 1) := by decide +kernel
theorem d_C_edgeBehind_13 : decode M_C_edgeBehind.2.1 13 = .ok (.ireturn, 1) := by decide +kernel
theorem d_C_endOn_0 : decode M_C_endOn.2.1 0 = .ok (.iconst (0), 1) := by decide +kernel
theorem d_C_endOn_1 : decode M_C_endOn.2.1 1 = .ok (.istore_n 3, 1) := by decide +kernel
theorem d_C_endOn_2 : decode M_C_endOn.2.1 2 = .ok (.iload_n 3, 1) := by decide +kernel
theorem d_C_endOn_3 : decode M_C_endOn.2.1 3 = .ok (.aload_n 0, 1) := by decide +kernel
theorem d_C_endOn_4 : decode M_C_endOn.2.1 4 = .ok (.invokevirtual 46, 3) := by decide +kernel
theorem d_C_endOn_7 : decode M_C_endOn.2.1 7 = .ok (.if_icmp .ge (30), 3) := by decide +kernel
theorem d_C_endOn_10 : decode M_C_endOn.2.1 10 = .ok (.aload_n 0, 1) := by decide +kernel
theorem d_C_endOn_11 : decode M_C_endOn.2.1 11 = .ok (.getfield 9, 3) := by decide +kernel
theorem d_C_endOn_14 : decode M_C_endOn.2.1 14 = .ok (.iload_n 3, 1) := by decide +kernel
theorem d_C_endOn_15 : decode M_C_endOn.2.1 15 = .ok (.iaload, 1) := by decide +kernel
theorem d_C_endOn_16 : decode M_C_endOn.2.1 16 = .ok (.iload_n 1, 1) := by decide +kernel
theorem d_C_endOn_17 : decode M_C_endOn.2.1 17 = .ok (.if_icmp .ne (14), 3) := by decide +kernel
theorem d_C_endOn_20 : decode M_C_endOn.2.1 20 = .ok (.aload_n 0, 1) := by decide +kernel
theorem d_C_endOn_21 : decode M_C_endOn.2.1 21 = .ok (.iload_n 3, 1) := by decide +kernel
theorem d_C_endOn_22 : decode M_C_endOn.2.1 22 = .ok (.invokevirtual 57, 3) := by decide +kernel
theorem d_C_endOn_25 : decode M_C_endOn.2.1 25 = .ok (.iload_n 2, 1) := by decide +kernel
theorem d_C_endOn_26 : decode M_C_endOn.2.1 26 = .ok (.if_icmp .ne (5), 3) := by decide +kernel
theorem d_C_endOn_29 : decode M_C_endOn.2.1 29 = .ok (.iload_n 3, 1) := by decide +kernel
theorem d_C_endOn_30 : decode M_C_endOn.2.1 30 = .ok (.ireturn, 1) := by decide +kernel
theorem d_C_endOn_31 : decode M_C_endOn.2.1 31 = .ok (.iinc 3 (1), 3) := by decide +kernel
theorem d_C_endOn_34 : decode M_C_endOn.2.1 34 = .ok (.goto (-32), 3) := by decide +kernel
theorem d_C_endOn_37 : decode M_C_endOn.2.1 37 = .ok (.iconst (-1), 1) := by decide +kernel
theorem d_C_endOn_38 : decode M_C_endOn.2.1 38 = .ok (.ireturn, 1) := by decide +kernel
theorem d_C_bringIn_0 : decode M_C_bringIn.2.1 0 = .ok (.aload_n 0, 1) := by decide +kernel
theorem d_C_bringIn_1 : decode M_C_bringIn.2.1 1 = .ok (.iload_n 2, 1) := by decide +kernel
theorem d_C_bringIn_2 : decode M_C_bringIn.2.1 2 = .ok (.iconst (1), 1) := by decide +kernel
theorem d_C_bringIn_3 : decode M_C_bringIn.2.1 3 = .ok (.invokevirtual 69, 3) := by decide +kernel
theorem d_C_bringIn_6 : decode M_C_bringIn.2.1 6 = .ok (.istore_n 3, 1) := by decide +kernel
theorem d_C_bringIn_7 : decode M_C_bringIn.2.1 7 = .ok (.iload_n 3, 1) := by decide +kernel
theorem d_C_bringIn_8 : decode M_C_bringIn.2.1 8 = .ok (.iconst (-1), 1) := by decide +kernel
theorem d_C_bringIn_9 : decode M_C_bringIn.2.1 9 = .ok (.if_icmp .eq (10), 3) := by decide +kernel
theorem d_C_bringIn_12 : decode M_C_bringIn.2.1 12 = .ok (.aload_n 0, 1) := by decide +kernel
theorem d_C_bringIn_13 : decode M_C_bringIn.2.1 13 = .ok (.getfield 9, 3) := by decide +kernel
theorem d_C_bringIn_16 : decode M_C_bringIn.2.1 16 = .ok (.iload_n 3, 1) := by decide +kernel
theorem d_C_bringIn_17 : decode M_C_bringIn.2.1 17 = .ok (.iload_n 1, 1) := by decide +kernel
theorem d_C_bringIn_18 : decode M_C_bringIn.2.1 18 = .ok (.iastore, 1) := by decide +kernel
theorem d_C_bringIn_19 : decode M_C_bringIn.2.1 19 = .ok (.return_, 1) := by decide +kernel
theorem d_C_rename_0 : decode M_C_rename.2.1 0 = .ok (.iconst (0), 1) := by decide +kernel
theorem d_C_rename_1 : decode M_C_rename.2.1 1 = .ok (.istore_n 3, 1) := by decide +kernel
theorem d_C_rename_2 : decode M_C_rename.2.1 2 = .ok (.iload_n 3, 1) := by decide +kernel
theorem d_C_rename_3 : decode M_C_rename.2.1 3 = .ok (.aload_n 0, 1) := by decide +kernel
theorem d_C_rename_4 : decode M_C_rename.2.1 4 = .ok (.invokevirtual 46, 3) := by decide +kernel
theorem d_C_rename_7 : decode M_C_rename.2.1 7 = .ok (.if_icmp .ge (26), 3) := by decide +kernel
theorem d_C_rename_10 : decode M_C_rename.2.1 10 = .ok (.aload_n 0, 1) := by decide +kernel
theorem d_C_rename_11 : decode M_C_rename.2.1 11 = .ok (.getfield 9, 3) := by decide +kernel
theorem d_C_rename_14 : decode M_C_rename.2.1 14 = .ok (.iload_n 3, 1) := by decide +kernel
theorem d_C_rename_15 : decode M_C_rename.2.1 15 = .ok (.iaload, 1) := by decide +kernel
theorem d_C_rename_16 : decode M_C_rename.2.1 16 = .ok (.iload_n 1, 1) := by decide +kernel
theorem d_C_rename_17 : decode M_C_rename.2.1 17 = .ok (.if_icmp .ne (10), 3) := by decide +kernel
theorem d_C_rename_20 : decode M_C_rename.2.1 20 = .ok (.aload_n 0, 1) := by decide +kernel
theorem d_C_rename_21 : decode M_C_rename.2.1 21 = .ok (.getfield 9, 3) := by decide +kernel
theorem d_C_rename_24 : decode M_C_rename.2.1 24 = .ok (.iload_n 3, 1) := by decide +kernel
theorem d_C_rename_25 : decode M_C_rename.2.1 25 = .ok (.iload_n 2, 1) := by decide +kernel
theorem d_C_rename_26 : decode M_C_rename.2.1 26 = .ok (.iastore, 1) := by decide +kernel
theorem d_C_rename_27 : decode M_C_rename.2.1 27 = .ok (.iinc 3 (1), 3) := by decide +kernel
theorem d_C_rename_30 : decode M_C_rename.2.1 30 = .ok (.goto (-28), 3) := by decide +kernel
theorem d_C_rename_33 : decode M_C_rename.2.1 33 = .ok (.return_, 1) := by decide +kernel
theorem d_S_init_0 : decode M_S_init.2.1 0 = .ok (.aload_n 0, 1) := by decide +kernel
theorem d_S_init_1 : decode M_S_init.2.1 1 = .ok (.invokespecial 3, 3) := by decide +kernel
theorem d_S_init_4 : decode M_S_init.2.1 4 = .ok (.aload_n 0, 1) := by decide +kernel
theorem d_S_init_5 : decode M_S_init.2.1 5 = .ok (.bipush (32), 2) := by decide +kernel
theorem d_S_init_7 : decode M_S_init.2.1 7 = .ok (.newarray .int, 2) := by decide +kernel
theorem d_S_init_9 : decode M_S_init.2.1 9 = .ok (.putfield 9, 3) := by decide +kernel
theorem d_S_init_12 : decode M_S_init.2.1 12 = .ok (.aload_n 0, 1) := by decide +kernel
theorem d_S_init_13 : decode M_S_init.2.1 13 = .ok (.bipush (8), 2) := by decide +kernel
theorem d_S_init_15 : decode M_S_init.2.1 15 = .ok (.newarray .int, 2) := by decide +kernel
theorem d_S_init_17 : decode M_S_init.2.1 17 = .ok (.putfield 15, 3) := by decide +kernel
theorem d_S_init_20 : decode M_S_init.2.1 20 = .ok (.return_, 1) := by decide +kernel
theorem d_S_fits_0 : decode M_S_fits.2.1 0 = .ok (.iconst (0), 1) := by decide +kernel
theorem d_S_fits_1 : decode M_S_fits.2.1 1 = .ok (.istore_n 2, 1) := by decide +kernel
theorem d_S_fits_2 : decode M_S_fits.2.1 2 = .ok (.iload_n 2, 1) := by decide +kernel
theorem d_S_fits_3 : decode M_S_fits.2.1 3 = .ok (.aload_n 1, 1) := by decide +kernel
theorem d_S_fits_4 : decode M_S_fits.2.1 4 = .ok (.invokevirtual 18, 3) := by decide +kernel
theorem d_S_fits_7 : decode M_S_fits.2.1 7 = .ok (.if_icmp .ge (20), 3) := by decide +kernel
theorem d_S_fits_10 : decode M_S_fits.2.1 10 = .ok (.aload_n 0, 1) := by decide +kernel
theorem d_S_fits_11 : decode M_S_fits.2.1 11 = .ok (.aload_n 1, 1) := by decide +kernel
theorem d_S_fits_12 : decode M_S_fits.2.1 12 = .ok (.iload_n 2, 1) := by decide +kernel
theorem d_S_fits_13 : decode M_S_fits.2.1 13 = .ok (.invokevirtual 24, 3) := by decide +kernel
theorem d_S_fits_16 : decode M_S_fits.2.1 16 = .ok (.ifCond .ne (5), 3) := by decide +kernel
theorem d_S_fits_19 : decode M_S_fits.2.1 19 = .ok (.iconst (0), 1) := by decide +kernel
theorem d_S_fits_20 : decode M_S_fits.2.1 20 = .ok (.ireturn, 1) := by decide +kernel
theorem d_S_fits_21 : decode M_S_fits.2.1 21 = .ok (.iinc 2 (1), 3) := by decide +kernel
theorem d_S_fits_24 : decode M_S_fits.2.1 24 = .ok (.goto (-22), 3) := by decide +kernel
theorem d_S_fits_27 : decode M_S_fits.2.1 27 = .ok (.iconst (1), 1) := by decide +kernel
theorem d_S_fits_28 : decode M_S_fits.2.1 28 = .ok (.ireturn, 1) := by decide +kernel
theorem d_S_fitsAt_0 : decode M_S_fitsAt.2.1 0 = .ok (.iconst (0), 1) := by decide +kernel
theorem d_S_fitsAt_1 : decode M_S_fitsAt.2.1 1 = .ok (.istore_n 3, 1) := by decide +kernel
theorem d_S_fitsAt_2 : decode M_S_fitsAt.2.1 2 = .ok (.iconst (0), 1) := by decide +kernel
theorem d_S_fitsAt_3 : decode M_S_fitsAt.2.1 3 = .ok (.istore 4, 2) := by decide +kernel
theorem d_S_fitsAt_5 : decode M_S_fitsAt.2.1 5 = .ok (.iconst (0), 1) := by decide +kernel
theorem d_S_fitsAt_6 : decode M_S_fitsAt.2.1 6 = .ok (.istore 5, 2) := by decide +kernel
theorem d_S_fitsAt_8 : decode M_S_fitsAt.2.1 8 = .ok (.iload 5, 2) := by decide +kernel
theorem d_S_fitsAt_10 : decode M_S_fitsAt.2.1 10 = .ok (.aload_n 1, 1) := by decide +kernel
theorem d_S_fitsAt_11 : decode M_S_fitsAt.2.1 11 = .ok (.invokevirtual 18, 3) := by decide +kernel
theorem d_S_fitsAt_14 : decode M_S_fitsAt.2.1 14 = .ok (.if_icmp .ge (45), 3) := by decide +kernel
theorem d_S_fitsAt_17 : decode M_S_fitsAt.2.1 17 = .ok (.aload_n 1, 1) := by decide +kernel
theorem d_S_fitsAt_18 : decode M_S_fitsAt.2.1 18 = .ok (.iload 5, 2) := by decide +kernel
theorem d_S_fitsAt_20 : decode M_S_fitsAt.2.1 20 = .ok (.invokevirtual 28, 3) := by decide +kernel
theorem d_S_fitsAt_23 : decode M_S_fitsAt.2.1 23 = .ok (.aload_n 1, 1) := by decide +kernel
theorem d_S_fitsAt_24 : decode M_S_fitsAt.2.1 24 = .ok (.iload_n 2, 1) := by decide +kernel
theorem d_S_fitsAt_25 : decode M_S_fitsAt.2.1 25 = .ok (.invokevirtual 28, 3) := by decide +kernel
theorem d_S_fitsAt_28 : decode M_S_fitsAt.2.1 28 = .ok (.if_icmp .ne (25), 3) := by decide +kernel
theorem d_S_fitsAt_31 : decode M_S_fitsAt.2.1 31 = .ok (.iinc 3 (1), 3) := by decide +kernel
theorem d_S_fitsAt_34 : decode M_S_fitsAt.2.1 34 = .ok (.iload 4, 2) := by decide +kernel
theorem d_S_fitsAt_36 : decode M_S_fitsAt.2.1 36 = .ok (.aload_n 1, 1) := by decide +kernel
theorem d_S_fitsAt_37 : decode M_S_fitsAt.2.1 37 = .ok (.iload 5, 2) := by decide +kernel
theorem d_S_fitsAt_39 : decode M_S_fitsAt.2.1 39 = .ok (.invokevirtual 32, 3) := by decide +kernel
theorem d_S_fitsAt_42 : decode M_S_fitsAt.2.1 42 = .ok (.ifCond .eq (7), 3) := by decide +kernel
theorem d_S_fitsAt_45 : decode M_S_fitsAt.2.1 45 = .ok (.iconst (1), 1) := by decide +kernel
theorem d_S_fitsAt_46 : decode M_S_fitsAt.2.1 46 = .ok (.goto (4), 3) := by decide +kernel
theorem d_S_fitsAt_49 : decode M_S_fitsAt.2.1 49 = .ok (.iconst (0), 1) := by decide +kernel
theorem d_S_fitsAt_50 : decode M_S_fitsAt.2.1 50 = .ok (.iadd, 1) := by decide +kernel
theorem d_S_fitsAt_51 : decode M_S_fitsAt.2.1 51 = .ok (.istore 4, 2) := by decide +kernel
theorem d_S_fitsAt_53 : decode M_S_fitsAt.2.1 53 = .ok (.iinc 5 (1), 3) := by decide +kernel
theorem d_S_fitsAt_56 : decode M_S_fitsAt.2.1 56 = .ok (.goto (-48), 3) := by decide +kernel
theorem d_S_fitsAt_59 : decode M_S_fitsAt.2.1 59 = .ok (.iload_n 3, 1) := by decide +kernel
theorem d_S_fitsAt_60 : decode M_S_fitsAt.2.1 60 = .ok (.iconst (2), 1) := by decide +kernel
theorem d_S_fitsAt_61 : decode M_S_fitsAt.2.1 61 = .ok (.if_icmp .ne (13), 3) := by decide +kernel
theorem d_S_fitsAt_64 : decode M_S_fitsAt.2.1 64 = .ok (.iload 4, 2) := by decide +kernel
theorem d_S_fitsAt_66 : decode M_S_fitsAt.2.1 66 = .ok (.iconst (1), 1) := by decide +kernel
theorem d_S_fitsAt_67 : decode M_S_fitsAt.2.1 67 = .ok (.if_icmp .ne (7), 3) := by decide +kernel
theorem d_S_fitsAt_70 : decode M_S_fitsAt.2.1 70 = .ok (.iconst (1), 1) := by decide +kernel
theorem d_S_fitsAt_71 : decode M_S_fitsAt.2.1 71 = .ok (.goto (4), 3) := by decide +kernel
theorem d_S_fitsAt_74 : decode M_S_fitsAt.2.1 74 = .ok (.iconst (0), 1) := by decide +kernel
theorem d_S_fitsAt_75 : decode M_S_fitsAt.2.1 75 = .ok (.ireturn, 1) := by decide +kernel
theorem d_S_isFlat_0 : decode M_S_isFlat.2.1 0 = .ok (.aload_n 0, 1) := by decide +kernel
theorem d_S_isFlat_1 : decode M_S_isFlat.2.1 1 = .ok (.aload_n 1, 1) := by decide +kernel
theorem d_S_isFlat_2 : decode M_S_isFlat.2.1 2 = .ok (.invokevirtual 36, 3) := by decide +kernel
theorem d_S_isFlat_5 : decode M_S_isFlat.2.1 5 = .ok (.aload_n 1, 1) := by decide +kernel
theorem d_S_isFlat_6 : decode M_S_isFlat.2.1 6 = .ok (.invokevirtual 40, 3) := by decide +kernel
theorem d_S_isFlat_9 : decode M_S_isFlat.2.1 9 = .ok (.iconst (2), 1) := by decide +kernel
theorem d_S_isFlat_10 : decode M_S_isFlat.2.1 10 = .ok (.aload_n 0, 1) := by decide +kernel
theorem d_S_isFlat_11 : decode M_S_isFlat.2.1 11 = .ok (.aload_n 1, 1) := by decide +kernel
theorem d_S_isFlat_12 : decode M_S_isFlat.2.1 12 = .ok (.invokevirtual 43, 3) := by decide +kernel
theorem d_S_isFlat_15 : decode M_S_isFlat.2.1 15 = .ok (.imul, 1) := by decide +kernel
theorem d_S_isFlat_16 : decode M_S_isFlat.2.1 16 = .ok (.iadd, 1) := by decide +kernel
theorem d_S_isFlat_17 : decode M_S_isFlat.2.1 17 = .ok (.if_icmp .ne (7), 3) := by decide +kernel
theorem d_S_isFlat_20 : decode M_S_isFlat.2.1 20 = .ok (.iconst (1), 1) := by decide +kernel
theorem d_S_isFlat_21 : decode M_S_isFlat.2.1 21 = .ok (.goto (4), 3) := by decide +kernel
theorem d_S_isFlat_24 : decode M_S_isFlat.2.1 24 = .ok (.iconst (0), 1) := by decide +kernel
theorem d_S_isFlat_25 : decode M_S_isFlat.2.1 25 = .ok (.ireturn, 1) := by decide +kernel
theorem d_S_faces_0 : decode M_S_faces.2.1 0 = .ok (.aload_n 0, 1) := by decide +kernel
theorem d_S_faces_1 : decode M_S_faces.2.1 1 = .ok (.getfield 9, 3) := by decide +kernel
theorem d_S_faces_4 : decode M_S_faces.2.1 4 = .ok (.iconst (0), 1) := by decide +kernel
theorem d_S_faces_5 : decode M_S_faces.2.1 5 = .ok (.invokestatic 46, 3) := by decide +kernel
theorem d_S_faces_8 : decode M_S_faces.2.1 8 = .ok (.iconst (0), 1) := by decide +kernel
theorem d_S_faces_9 : decode M_S_faces.2.1 9 = .ok (.istore_n 2, 1) := by decide +kernel
theorem d_S_faces_10 : decode M_S_faces.2.1 10 = .ok (.iconst (0), 1) := by decide +kernel
theorem d_S_faces_11 : decode M_S_faces.2.1 11 = .ok (.istore_n 3, 1) := by decide +kernel
theorem d_S_faces_12 : decode M_S_faces.2.1 12 = .ok (.iload_n 3, 1) := by decide +kernel
theorem d_S_faces_13 : decode M_S_faces.2.1 13 = .ok (.aload_n 1, 1) := by decide +kernel
theorem d_S_faces_14 : decode M_S_faces.2.1 14 = .ok (.invokevirtual 18, 3) := by decide +kernel
theorem d_S_faces_17 : decode M_S_faces.2.1 17 = .ok (.if_icmp .ge (27), 3) := by decide +kernel
theorem d_S_faces_20 : decode M_S_faces.2.1 20 = .ok (.aload_n 0, 1) := by decide +kernel
theorem d_S_faces_21 : decode M_S_faces.2.1 21 = .ok (.getfield 9, 3) := by decide +kernel
theorem d_S_faces_24 : decode M_S_faces.2.1 24 = .ok (.iload_n 3, 1) := by decide +kernel
theorem d_S_faces_25 : decode M_S_faces.2.1 25 = .ok (.iaload, 1) := by decide +kernel
theorem d_S_faces_26 : decode M_S_faces.2.1 26 = .ok (.ifCond .ne (12), 3) := by decide +kernel
theorem d_S_faces_29 : decode M_S_faces.2.1 29 = .ok (.iinc 2 (1), 3) := by decide +kernel
theorem d_S_faces_32 : decode M_S_faces.2.1 32 = .ok (.aload_n 0, 1) := by decide +kernel
theorem d_S_faces_33 : decode M_S_faces.2.1 33 = .ok (.aload_n 1, 1) := by decide +kernel
theorem d_S_faces_34 : decode M_S_faces.2.1 34 = .ok (.iload_n 3, 1) := by decide +kernel
theorem d_S_faces_35 : decode M_S_faces.2.1 35 = .ok (.invokevirtual 52, 3) := by decide +kernel
theorem d_S_faces_38 : decode M_S_faces.2.1 38 = .ok (.iinc 3 (1), 3) := by decide +kernel
theorem d_S_faces_41 : decode M_S_faces.2.1 41 = .ok (.goto (-29), 3) := by decide +kernel
theorem d_S_faces_44 : decode M_S_faces.2.1 44 = .ok (.iload_n 2, 1) := by decide +kernel
theorem d_S_faces_45 : decode M_S_faces.2.1 45 = .ok (.ireturn, 1) := by decide +kernel
theorem d_S_markFace_0 : decode M_S_markFace.2.1 0 = .ok (.iload_n 2, 1) := by decide +kernel
theorem d_S_markFace_1 : decode M_S_markFace.2.1 1 = .ok (.istore_n 3, 1) := by decide +kernel
theorem d_S_markFace_2 : decode M_S_markFace.2.1 2 = .ok (.iconst (0), 1) := by decide +kernel
theorem d_S_markFace_3 : decode M_S_markFace.2.1 3 = .ok (.istore 4, 2) := by decide +kernel
theorem d_S_markFace_5 : decode M_S_markFace.2.1 5 = .ok (.iload 4, 2) := by decide +kernel
theorem d_S_markFace_7 : decode M_S_markFace.2.1 7 = .ok (.bipush (32), 2) := by decide +kernel
theorem d_S_markFace_9 : decode M_S_markFace.2.1 9 = .ok (.if_icmp .ge (31), 3) := by decide +kernel
theorem d_S_markFace_12 : decode M_S_markFace.2.1 12 = .ok (.aload_n 0, 1) := by decide +kernel
theorem d_S_markFace_13 : decode M_S_markFace.2.1 13 = .ok (.getfield 9, 3) := by decide +kernel
theorem d_S_markFace_16 : decode M_S_markFace.2.1 16 = .ok (.iload_n 3, 1) := by decide +kernel
theorem d_S_markFace_17 : decode M_S_markFace.2.1 17 = .ok (.iaload, 1) := by decide +kernel
theorem d_S_markFace_18 : decode M_S_markFace.2.1 18 = .ok (.ifCond .ne (22), 3) := by decide +kernel
theorem d_S_markFace_21 : decode M_S_markFace.2.1 21 = .ok (.aload_n 0, 1) := by decide +kernel
theorem d_S_markFace_22 : decode M_S_markFace.2.1 22 = .ok (.getfield 9, 3) := by decide +kernel
theorem d_S_markFace_25 : decode M_S_markFace.2.1 25 = .ok (.iload_n 3, 1) := by decide +kernel
theorem d_S_markFace_26 : decode M_S_markFace.2.1 26 = .ok (.iconst (1), 1) := by decide +kernel
theorem d_S_markFace_27 : decode M_S_markFace.2.1 27 = .ok (.iastore, 1) := by decide +kernel
theorem d_S_markFace_28 : decode M_S_markFace.2.1 28 = .ok (.aload_n 1, 1) := by decide +kernel
theorem d_S_markFace_29 : decode M_S_markFace.2.1 29 = .ok (.iload_n 3, 1) := by decide +kernel
theorem d_S_markFace_30 : decode M_S_markFace.2.1 30 = .ok (.invokevirtual 56, 3) := by decide +kernel
theorem d_S_markFace_33 : decode M_S_markFace.2.1 33 = .ok (.istore_n 3, 1) := by decide +kernel
theorem d_S_markFace_34 : decode M_S_markFace.2.1 34 = .ok (.iinc 4 (1), 3) := by decide +kernel
theorem d_S_markFace_37 : decode M_S_markFace.2.1 37 = .ok (.goto (-32), 3) := by decide +kernel
theorem d_S_markFace_40 : decode M_S_markFace.2.1 40 = .ok (.return_, 1) := by decide +kernel
theorem d_S_sameFace_0 : decode M_S_sameFace.2.1 0 = .ok (.iload_n 2, 1) := by decide +kernel
theorem d_S_sameFace_1 : decode M_S_sameFace.2.1 1 = .ok (.iconst (-1), 1) := by decide +kernel
theorem d_S_sameFace_2 : decode M_S_sameFace.2.1 2 = .ok (.if_icmp .eq (8), 3) := by decide +kernel
theorem d_S_sameFace_5 : decode M_S_sameFace.2.1 5 = .ok (.iload_n 3, 1) := by decide +kernel
theorem d_S_sameFace_6 : decode M_S_sameFace.2.1 6 = .ok (.iconst (-1), 1) := by decide +kernel
theorem d_S_sameFace_7 : decode M_S_sameFace.2.1 7 = .ok (.if_icmp .ne (5), 3) := by decide +kernel
theorem d_S_sameFace_10 : decode M_S_sameFace.2.1 10 = .ok (.iconst (0), 1) := by decide +kernel
theorem d_S_sameFace_11 : decode M_S_sameFace.2.1 11 = .ok (.ireturn, 1) := by decide +kernel
theorem d_S_sameFace_12 : decode M_S_sameFace.2.1 12 = .ok (.aload_n 0, 1) := by decide +kernel
theorem d_S_sameFace_13 : decode M_S_sameFace.2.1 13 = .ok (.getfield 9, 3) := by decide +kernel
theorem d_S_sameFace_16 : decode M_S_sameFace.2.1 16 = .ok (.iconst (0), 1) := by decide +kernel
theorem d_S_sameFace_17 : decode M_S_sameFace.2.1 17 = .ok (.invokestatic 46, 3) := by decide +kernel
theorem d_S_sameFace_20 : decode M_S_sameFace.2.1 20 = .ok (.aload_n 0, 1) := by decide +kernel
theorem d_S_sameFace_21 : decode M_S_sameFace.2.1 21 = .ok (.aload_n 1, 1) := by decide +kernel
theorem d_S_sameFace_22 : decode M_S_sameFace.2.1 22 = .ok (.iload_n 2, 1) := by decide +kernel
theorem d_S_sameFace_23 : decode M_S_sameFace.2.1 23 = .ok (.invokevirtual 52, 3) := by decide +kernel
theorem d_S_sameFace_26 : decode M_S_sameFace.2.1 26 = .ok (.aload_n 0, 1) := by decide +kernel
theorem d_S_sameFace_27 : decode M_S_sameFace.2.1 27 = .ok (.getfield 9, 3) := by decide +kernel
theorem d_S_sameFace_30 : decode M_S_sameFace.2.1 30 = .ok (.iload_n 3, 1) := by decide +kernel
theorem d_S_sameFace_31 : decode M_S_sameFace.2.1 31 = .ok (.iaload, 1) := by decide +kernel
theorem d_S_sameFace_32 : decode M_S_sameFace.2.1 32 = .ok (.iconst (1), 1) := by decide +kernel
theorem d_S_sameFace_33 : decode M_S_sameFace.2.1 33 = .ok (.if_icmp .ne (7), 3) := by decide +kernel
theorem d_S_sameFace_36 : decode M_S_sameFace.2.1 36 = .ok (.iconst (1), 1) := by decide +kernel
theorem d_S_sameFace_37 : decode M_S_sameFace.2.1 37 = .ok (.goto (4), 3) := by decide +kernel
theorem d_S_sameFace_40 : decode M_S_sameFace.2.1 40 = .ok (.iconst (0), 1) := by decide +kernel
theorem d_S_sameFace_41 : decode M_S_sameFace.2.1 41 = .ok (.ireturn, 1) := by decide +kernel
theorem d_S_pieces_0 : decode M_S_pieces.2.1 0 = .ok (.iconst (0), 1) := by decide +kernel
theorem d_S_pieces_1 : decode M_S_pieces.2.1 1 = .ok (.istore_n 2, 1) := by decide +kernel
theorem d_S_pieces_2 : decode M_S_pieces.2.1 2 = .ok (.iload_n 2, 1) := by decide +kernel
theorem d_S_pieces_3 : decode M_S_pieces.2.1 3 = .ok (.aload_n 1, 1) := by decide +kernel
theorem d_S_pieces_4 : decode M_S_pieces.2.1 4 = .ok (.invokevirtual 40, 3) := by decide +kernel
theorem d_S_pieces_7 : decode M_S_pieces.2.1 7 = .ok (.if_icmp .ge (16), 3) := by decide +kernel
theorem d_S_pieces_10 : decode M_S_pieces.2.1 10 = .ok (.aload_n 0, 1) := by decide +kernel
theorem d_S_pieces_11 : decode M_S_pieces.2.1 11 = .ok (.getfield 15, 3) := by decide +kernel
theorem d_S_pieces_14 : decode M_S_pieces.2.1 14 = .ok (.iload_n 2, 1) := by decide +kernel
theorem d_S_pieces_15 : decode M_S_pieces.2.1 15 = .ok (.iload_n 2, 1) := by decide +kernel
theorem d_S_pieces_16 : decode M_S_pieces.2.1 16 = .ok (.iastore, 1) := by decide +kernel
theorem d_S_pieces_17 : decode M_S_pieces.2.1 17 = .ok (.iinc 2 (1), 3) := by decide +kernel
theorem d_S_pieces_20 : decode M_S_pieces.2.1 20 = .ok (.goto (-18), 3) := by decide +kernel
theorem d_S_pieces_23 : decode M_S_pieces.2.1 23 = .ok (.aload_n 1, 1) := by decide +kernel
theorem d_S_pieces_24 : decode M_S_pieces.2.1 24 = .ok (.invokevirtual 40, 3) := by decide +kernel
theorem d_S_pieces_27 : decode M_S_pieces.2.1 27 = .ok (.istore_n 2, 1) := by decide +kernel
theorem d_S_pieces_28 : decode M_S_pieces.2.1 28 = .ok (.iconst (0), 1) := by decide +kernel
theorem d_S_pieces_29 : decode M_S_pieces.2.1 29 = .ok (.istore_n 3, 1) := by decide +kernel
theorem d_S_pieces_30 : decode M_S_pieces.2.1 30 = .ok (.iload_n 3, 1) := by decide +kernel
theorem d_S_pieces_31 : decode M_S_pieces.2.1 31 = .ok (.aload_n 1, 1) := by decide +kernel
theorem d_S_pieces_32 : decode M_S_pieces.2.1 32 = .ok (.invokevirtual 18, 3) := by decide +kernel
theorem d_S_pieces_35 : decode M_S_pieces.2.1 35 = .ok (.if_icmp .ge (53), 3) := by decide +kernel
theorem d_S_pieces_38 : decode M_S_pieces.2.1 38 = .ok (.aload_n 0, 1) := by decide +kernel
theorem d_S_pieces_39 : decode M_S_pieces.2.1 39 = .ok (.getfield 15, 3) := by decide +kernel
theorem d_S_pieces_42 : decode M_S_pieces.2.1 42 = .ok (.iload_n 3, 1) := by decide +kernel
theorem d_S_pieces_43 : decode M_S_pieces.2.1 43 = .ok (.invokestatic 59, 3) := by decide +kernel
theorem d_S_pieces_46 : decode M_S_pieces.2.1 46 = .ok (.iaload, 1) := by decide +kernel
theorem d_S_pieces_47 : decode M_S_pieces.2.1 47 = .ok (.istore 4, 2) := by decide +kernel
theorem d_S_pieces_49 : decode M_S_pieces.2.1 49 = .ok (.aload_n 0, 1) := by decide +kernel
theorem d_S_pieces_50 : decode M_S_pieces.2.1 50 = .ok (.getfield 15, 3) := by decide +kernel
theorem d_S_pieces_53 : decode M_S_pieces.2.1 53 = .ok (.aload_n 1, 1) := by decide +kernel
theorem d_S_pieces_54 : decode M_S_pieces.2.1 54 = .ok (.iload_n 3, 1) := by decide +kernel
theorem d_S_pieces_55 : decode M_S_pieces.2.1 55 = .ok (.invokevirtual 62, 3) := by decide +kernel
theorem d_S_pieces_58 : decode M_S_pieces.2.1 58 = .ok (.invokestatic 59, 3) := by decide +kernel
theorem d_S_pieces_61 : decode M_S_pieces.2.1 61 = .ok (.iaload, 1) := by decide +kernel
theorem d_S_pieces_62 : decode M_S_pieces.2.1 62 = .ok (.istore 5, 2) := by decide +kernel
theorem d_S_pieces_64 : decode M_S_pieces.2.1 64 = .ok (.iload 4, 2) := by decide +kernel
theorem d_S_pieces_66 : decode M_S_pieces.2.1 66 = .ok (.iload 5, 2) := by decide +kernel
theorem d_S_pieces_68 : decode M_S_pieces.2.1 68 = .ok (.if_icmp .eq (14), 3) := by decide +kernel
theorem d_S_pieces_71 : decode M_S_pieces.2.1 71 = .ok (.aload_n 0, 1) := by decide +kernel
theorem d_S_pieces_72 : decode M_S_pieces.2.1 72 = .ok (.iload 4, 2) := by decide +kernel
theorem d_S_pieces_74 : decode M_S_pieces.2.1 74 = .ok (.iload 5, 2) := by decide +kernel
theorem d_S_pieces_76 : decode M_S_pieces.2.1 76 = .ok (.invokevirtual 65, 3) := by decide +kernel
theorem d_S_pieces_79 : decode M_S_pieces.2.1 79 = .ok (.iinc 2 (-1), 3) := by decide +kernel
theorem d_S_pieces_82 : decode M_S_pieces.2.1 82 = .ok (.iinc 3 (1), 3) := by decide +kernel
theorem d_S_pieces_85 : decode M_S_pieces.2.1 85 = .ok (.goto (-55), 3) := by decide +kernel
theorem d_S_pieces_88 : decode M_S_pieces.2.1 88 = .ok (.iload_n 2, 1) := by decide +kernel
theorem d_S_pieces_89 : decode M_S_pieces.2.1 89 = .ok (.ireturn, 1) := by decide +kernel
theorem d_S_mergePieces_0 : decode M_S_mergePieces.2.1 0 = .ok (.iconst (0), 1) := by decide +kernel
theorem d_S_mergePieces_1 : decode M_S_mergePieces.2.1 1 = .ok (.istore_n 3, 1) := by decide +kernel
theorem d_S_mergePieces_2 : decode M_S_mergePieces.2.1 2 = .ok (.iload_n 3, 1) := by decide +kernel
theorem d_S_mergePieces_3 : decode M_S_mergePieces.2.1 3 = .ok (.bipush (8), 2) := by decide +kernel
theorem d_S_mergePieces_5 : decode M_S_mergePieces.2.1 5 = .ok (.if_icmp .ge (26), 3) := by decide +kernel
theorem d_S_mergePieces_8 : decode M_S_mergePieces.2.1 8 = .ok (.aload_n 0, 1) := by decide +kernel
theorem d_S_mergePieces_9 : decode M_S_mergePieces.2.1 9 = .ok (.getfield 15, 3) := by decide +kernel
theorem d_S_mergePieces_12 : decode M_S_mergePieces.2.1 12 = .ok (.iload_n 3, 1) := by decide +kernel
theorem d_S_mergePieces_13 : decode M_S_mergePieces.2.1 13 = .ok (.iaload, 1) := by decide +kernel
theorem d_S_mergePieces_14 : decode M_S_mergePieces.2.1 14 = .ok (.iload_n 2, 1) := by decide +kernel
theorem d_S_mergePieces_15 : decode M_S_mergePieces.2.1 15 = .ok (.if_icmp .ne (10), 3) := by decide +kernel
theorem d_S_mergePieces_18 : decode M_S_mergePieces.2.1 18 = .ok (.aload_n 0, 1) := by decide +kernel
theorem d_S_mergePieces_19 : decode M_S_mergePieces.2.1 19 = .ok (.getfield 15, 3) := by decide +kernel
theorem d_S_mergePieces_22 : decode M_S_mergePieces.2.1 22 = .ok (.iload_n 3, 1) := by decide +kernel
theorem d_S_mergePieces_23 : decode M_S_mergePieces.2.1 23 = .ok (.iload_n 1, 1) := by decide +kernel
theorem d_S_mergePieces_24 : decode M_S_mergePieces.2.1 24 = .ok (.iastore, 1) := by decide +kernel
theorem d_S_mergePieces_25 : decode M_S_mergePieces.2.1 25 = .ok (.iinc 3 (1), 3) := by decide +kernel
theorem d_S_mergePieces_28 : decode M_S_mergePieces.2.1 28 = .ok (.goto (-26), 3) := by decide +kernel
theorem d_S_mergePieces_31 : decode M_S_mergePieces.2.1 31 = .ok (.return_, 1) := by decide +kernel
theorem d_S_strands_0 : decode M_S_strands.2.1 0 = .ok (.aload_n 0, 1) := by decide +kernel
theorem d_S_strands_1 : decode M_S_strands.2.1 1 = .ok (.getfield 9, 3) := by decide +kernel
theorem d_S_strands_4 : decode M_S_strands.2.1 4 = .ok (.iconst (0), 1) := by decide +kernel
theorem d_S_strands_5 : decode M_S_strands.2.1 5 = .ok (.invokestatic 46, 3) := by decide +kernel
theorem d_S_strands_8 : decode M_S_strands.2.1 8 = .ok (.iconst (0), 1) := by decide +kernel
theorem d_S_strands_9 : decode M_S_strands.2.1 9 = .ok (.istore_n 2, 1) := by decide +kernel
theorem d_S_strands_10 : decode M_S_strands.2.1 10 = .ok (.iconst (0), 1) := by decide +kernel
theorem d_S_strands_11 : decode M_S_strands.2.1 11 = .ok (.istore_n 3, 1) := by decide +kernel
theorem d_S_strands_12 : decode M_S_strands.2.1 12 = .ok (.iload_n 3, 1) := by decide +kernel
theorem d_S_strands_13 : decode M_S_strands.2.1 13 = .ok (.aload_n 1, 1) := by decide +kernel
theorem d_S_strands_14 : decode M_S_strands.2.1 14 = .ok (.invokevirtual 18, 3) := by decide +kernel
theorem d_S_strands_17 : decode M_S_strands.2.1 17 = .ok (.if_icmp .ge (35), 3) := by decide +kernel
theorem d_S_strands_20 : decode M_S_strands.2.1 20 = .ok (.aload_n 1, 1) := by decide +kernel
theorem d_S_strands_21 : decode M_S_strands.2.1 21 = .ok (.iload_n 3, 1) := by decide +kernel
theorem d_S_strands_22 : decode M_S_strands.2.1 22 = .ok (.invokevirtual 32, 3) := by decide +kernel
theorem d_S_strands_25 : decode M_S_strands.2.1 25 = .ok (.ifCond .eq (21), 3) := by decide +kernel
theorem d_S_strands_28 : decode M_S_strands.2.1 28 = .ok (.aload_n 0, 1) := by decide +kernel
theorem d_S_strands_29 : decode M_S_strands.2.1 29 = .ok (.getfield 9, 3) := by decide +kernel
theorem d_S_strands_32 : decode M_S_strands.2.1 32 = .ok (.iload_n 3, 1) := by decide +kernel
theorem d_S_strands_33 : decode M_S_strands.2.1 33 = .ok (.iaload, 1) := by decide +kernel
theorem d_S_strands_34 : decode M_S_strands.2.1 34 = .ok (.ifCond .ne (12), 3) := by decide +kernel
theorem d_S_strands_37 : decode M_S_strands.2.1 37 = .ok (.iinc 2 (1), 3) := by decide +kernel
theorem d_S_strands_40 : decode M_S_strands.2.1 40 = .ok (.aload_n 0, 1) := by decide +kernel
theorem d_S_strands_41 : decode M_S_strands.2.1 41 = .ok (.aload_n 1, 1) := by decide +kernel
theorem d_S_strands_42 : decode M_S_strands.2.1 42 = .ok (.iload_n 3, 1) := by decide +kernel
theorem d_S_strands_43 : decode M_S_strands.2.1 43 = .ok (.invokevirtual 69, 3) := by decide +kernel
theorem d_S_strands_46 : decode M_S_strands.2.1 46 = .ok (.iinc 3 (1), 3) := by decide +kernel
theorem d_S_strands_49 : decode M_S_strands.2.1 49 = .ok (.goto (-37), 3) := by decide +kernel
theorem d_S_strands_52 : decode M_S_strands.2.1 52 = .ok (.iload_n 2, 1) := by decide +kernel
theorem d_S_strands_53 : decode M_S_strands.2.1 53 = .ok (.ireturn, 1) := by decide +kernel
theorem d_S_markStrand_0 : decode M_S_markStrand.2.1 0 = .ok (.iload_n 2, 1) := by decide +kernel
theorem d_S_markStrand_1 : decode M_S_markStrand.2.1 1 = .ok (.istore_n 3, 1) := by decide +kernel
theorem d_S_markStrand_2 : decode M_S_markStrand.2.1 2 = .ok (.iconst (0), 1) := by decide +kernel
theorem d_S_markStrand_3 : decode M_S_markStrand.2.1 3 = .ok (.istore 4, 2) := by decide +kernel
theorem d_S_markStrand_5 : decode M_S_markStrand.2.1 5 = .ok (.iload 4, 2) := by decide +kernel
theorem d_S_markStrand_7 : decode M_S_markStrand.2.1 7 = .ok (.bipush (32), 2) := by decide +kernel
theorem d_S_markStrand_9 : decode M_S_markStrand.2.1 9 = .ok (.if_icmp .ge (34), 3) := by decide +kernel
theorem d_S_markStrand_12 : decode M_S_markStrand.2.1 12 = .ok (.aload_n 0, 1) := by decide +kernel
theorem d_S_markStrand_13 : decode M_S_markStrand.2.1 13 = .ok (.getfield 9, 3) := by decide +kernel
theorem d_S_markStrand_16 : decode M_S_markStrand.2.1 16 = .ok (.iload_n 3, 1) := by decide +kernel
theorem d_S_markStrand_17 : decode M_S_markStrand.2.1 17 = .ok (.iaload, 1) := by decide +kernel
theorem d_S_markStrand_18 : decode M_S_markStrand.2.1 18 = .ok (.ifCond .ne (25), 3) := by decide +kernel
theorem d_S_markStrand_21 : decode M_S_markStrand.2.1 21 = .ok (.aload_n 0, 1) := by decide +kernel
theorem d_S_markStrand_22 : decode M_S_markStrand.2.1 22 = .ok (.getfield 9, 3) := by decide +kernel
theorem d_S_markStrand_25 : decode M_S_markStrand.2.1 25 = .ok (.iload_n 3, 1) := by decide +kernel
theorem d_S_markStrand_26 : decode M_S_markStrand.2.1 26 = .ok (.iconst (1), 1) := by decide +kernel
theorem d_S_markStrand_27 : decode M_S_markStrand.2.1 27 = .ok (.iastore, 1) := by decide +kernel
theorem d_S_markStrand_28 : decode M_S_markStrand.2.1 28 = .ok (.aload_n 1, 1) := by decide +kernel
theorem d_S_markStrand_29 : decode M_S_markStrand.2.1 29 = .ok (.iload_n 3, 1) := by decide +kernel
theorem d_S_markStrand_30 : decode M_S_markStrand.2.1 30 = .ok (.invokestatic 72, 3) := by decide +kernel
theorem d_S_markStrand_33 : decode M_S_markStrand.2.1 33 = .ok (.invokevirtual 62, 3) := by decide +kernel
theorem d_S_markStrand_36 : decode M_S_markStrand.2.1 36 = .ok (.istore_n 3, 1) := by decide +kernel
theorem d_S_markStrand_37 : decode M_S_markStrand.2.1 37 = .ok (.iinc 4 (1), 3) := by decide +kernel
theorem d_S_markStrand_40 : decode M_S_markStrand.2.1 40 = .ok (.goto (-35), 3) := by decide +kernel
theorem d_S_markStrand_43 : decode M_S_markStrand.2.1 43 = .ok (.return_, 1) := by decide +kernel
theorem d_I_bitCount_0 : decode M_I_bitCount.2.1 0 = .ok (.iload_n 0, 1) := by decide +kernel
theorem d_I_bitCount_1 : decode M_I_bitCount.2.1 1 = .ok (.iload_n 0, 1) := by decide +kernel
theorem d_I_bitCount_2 : decode M_I_bitCount.2.1 2 = .ok (.iconst (1), 1) := by decide +kernel
theorem d_I_bitCount_3 : decode M_I_bitCount.2.1 3 = .ok (.iushr, 1) := by decide +kernel
theorem d_I_bitCount_4 : decode M_I_bitCount.2.1 4 = .ok (.ldc_w 265, 3) := by decide +kernel
theorem d_I_bitCount_7 : decode M_I_bitCount.2.1 7 = .ok (.iand, 1) := by decide +kernel
theorem d_I_bitCount_8 : decode M_I_bitCount.2.1 8 = .ok (.isub, 1) := by decide +kernel
theorem d_I_bitCount_9 : decode M_I_bitCount.2.1 9 = .ok (.istore_n 0, 1) := by decide +kernel
theorem d_I_bitCount_10 : decode M_I_bitCount.2.1 10 = .ok (.iload_n 0, 1) := by decide +kernel
theorem d_I_bitCount_11 : decode M_I_bitCount.2.1 11 = .ok (.ldc_w 266, 3) := by decide +kernel
theorem d_I_bitCount_14 : decode M_I_bitCount.2.1 14 = .ok (.iand, 1) := by decide +kernel
theorem d_I_bitCount_15 : decode M_I_bitCount.2.1 15 = .ok (.iload_n 0, 1) := by decide +kernel
theorem d_I_bitCount_16 : decode M_I_bitCount.2.1 16 = .ok (.iconst (2), 1) := by decide +kernel
theorem d_I_bitCount_17 : decode M_I_bitCount.2.1 17 = .ok (.iushr, 1) := by decide +kernel
theorem d_I_bitCount_18 : decode M_I_bitCount.2.1 18 = .ok (.ldc_w 266, 3) := by decide +kernel
theorem d_I_bitCount_21 : decode M_I_bitCount.2.1 21 = .ok (.iand, 1) := by decide +kernel
theorem d_I_bitCount_22 : decode M_I_bitCount.2.1 22 = .ok (.iadd, 1) := by decide +kernel
theorem d_I_bitCount_23 : decode M_I_bitCount.2.1 23 = .ok (.istore_n 0, 1) := by decide +kernel
theorem d_I_bitCount_24 : decode M_I_bitCount.2.1 24 = .ok (.iload_n 0, 1) := by decide +kernel
theorem d_I_bitCount_25 : decode M_I_bitCount.2.1 25 = .ok (.iload_n 0, 1) := by decide +kernel
theorem d_I_bitCount_26 : decode M_I_bitCount.2.1 26 = .ok (.iconst (4), 1) := by decide +kernel
theorem d_I_bitCount_27 : decode M_I_bitCount.2.1 27 = .ok (.iushr, 1) := by decide +kernel
theorem d_I_bitCount_28 : decode M_I_bitCount.2.1 28 = .ok (.iadd, 1) := by decide +kernel
theorem d_I_bitCount_29 : decode M_I_bitCount.2.1 29 = .ok (.ldc_w 267, 3) := by decide +kernel
theorem d_I_bitCount_32 : decode M_I_bitCount.2.1 32 = .ok (.iand, 1) := by decide +kernel
theorem d_I_bitCount_33 : decode M_I_bitCount.2.1 33 = .ok (.istore_n 0, 1) := by decide +kernel
theorem d_I_bitCount_34 : decode M_I_bitCount.2.1 34 = .ok (.iload_n 0, 1) := by decide +kernel
theorem d_I_bitCount_35 : decode M_I_bitCount.2.1 35 = .ok (.iload_n 0, 1) := by decide +kernel
theorem d_I_bitCount_36 : decode M_I_bitCount.2.1 36 = .ok (.bipush (8), 2) := by decide +kernel
theorem d_I_bitCount_38 : decode M_I_bitCount.2.1 38 = .ok (.iushr, 1) := by decide +kernel
theorem d_I_bitCount_39 : decode M_I_bitCount.2.1 39 = .ok (.iadd, 1) := by decide +kernel
theorem d_I_bitCount_40 : decode M_I_bitCount.2.1 40 = .ok (.istore_n 0, 1) := by decide +kernel
theorem d_I_bitCount_41 : decode M_I_bitCount.2.1 41 = .ok (.iload_n 0, 1) := by decide +kernel
theorem d_I_bitCount_42 : decode M_I_bitCount.2.1 42 = .ok (.iload_n 0, 1) := by decide +kernel
theorem d_I_bitCount_43 : decode M_I_bitCount.2.1 43 = .ok (.bipush (16), 2) := by decide +kernel
theorem d_I_bitCount_45 : decode M_I_bitCount.2.1 45 = .ok (.iushr, 1) := by decide +kernel
theorem d_I_bitCount_46 : decode M_I_bitCount.2.1 46 = .ok (.iadd, 1) := by decide +kernel
theorem d_I_bitCount_47 : decode M_I_bitCount.2.1 47 = .ok (.istore_n 0, 1) := by decide +kernel
theorem d_I_bitCount_48 : decode M_I_bitCount.2.1 48 = .ok (.iload_n 0, 1) := by decide +kernel
theorem d_I_bitCount_49 : decode M_I_bitCount.2.1 49 = .ok (.bipush (63), 2) := by decide +kernel
theorem d_I_bitCount_51 : decode M_I_bitCount.2.1 51 = .ok (.iand, 1) := by decide +kernel
theorem d_I_bitCount_52 : decode M_I_bitCount.2.1 52 = .ok (.ireturn, 1) := by decide +kernel
theorem d_F_fillL_0 : decode M_F_fillL.2.1 0 = .ok (.iconst (0), 1) := by decide +kernel
theorem d_F_fillL_1 : decode M_F_fillL.2.1 1 = .ok (.istore_n 3, 1) := by decide +kernel
theorem d_F_fillL_2 : decode M_F_fillL.2.1 2 = .ok (.aload_n 0, 1) := by decide +kernel
theorem d_F_fillL_3 : decode M_F_fillL.2.1 3 = .ok (.arraylength, 1) := by decide +kernel
theorem d_F_fillL_4 : decode M_F_fillL.2.1 4 = .ok (.istore 4, 2) := by decide +kernel
theorem d_F_fillL_6 : decode M_F_fillL.2.1 6 = .ok (.iload_n 3, 1) := by decide +kernel
theorem d_F_fillL_7 : decode M_F_fillL.2.1 7 = .ok (.iload 4, 2) := by decide +kernel
theorem d_F_fillL_9 : decode M_F_fillL.2.1 9 = .ok (.if_icmp .ge (13), 3) := by decide +kernel
theorem d_F_fillL_12 : decode M_F_fillL.2.1 12 = .ok (.aload_n 0, 1) := by decide +kernel
theorem d_F_fillL_13 : decode M_F_fillL.2.1 13 = .ok (.iload_n 3, 1) := by decide +kernel
theorem d_F_fillL_14 : decode M_F_fillL.2.1 14 = .ok (.lload_n 1, 1) := by decide +kernel
theorem d_F_fillL_15 : decode M_F_fillL.2.1 15 = .ok (.lastore, 1) := by decide +kernel
theorem d_F_fillL_16 : decode M_F_fillL.2.1 16 = .ok (.iinc 3 (1), 3) := by decide +kernel
theorem d_F_fillL_19 : decode M_F_fillL.2.1 19 = .ok (.goto (-13), 3) := by decide +kernel
theorem d_F_fillL_22 : decode M_F_fillL.2.1 22 = .ok (.return_, 1) := by decide +kernel
theorem d_F_fillI_0 : decode M_F_fillI.2.1 0 = .ok (.iconst (0), 1) := by decide +kernel
theorem d_F_fillI_1 : decode M_F_fillI.2.1 1 = .ok (.istore_n 2, 1) := by decide +kernel
theorem d_F_fillI_2 : decode M_F_fillI.2.1 2 = .ok (.aload_n 0, 1) := by decide +kernel
theorem d_F_fillI_3 : decode M_F_fillI.2.1 3 = .ok (.arraylength, 1) := by decide +kernel
theorem d_F_fillI_4 : decode M_F_fillI.2.1 4 = .ok (.istore_n 3, 1) := by decide +kernel
theorem d_F_fillI_5 : decode M_F_fillI.2.1 5 = .ok (.iload_n 2, 1) := by decide +kernel
theorem d_F_fillI_6 : decode M_F_fillI.2.1 6 = .ok (.iload_n 3, 1) := by decide +kernel
theorem d_F_fillI_7 : decode M_F_fillI.2.1 7 = .ok (.if_icmp .ge (13), 3) := by decide +kernel
theorem d_F_fillI_10 : decode M_F_fillI.2.1 10 = .ok (.aload_n 0, 1) := by decide +kernel
theorem d_F_fillI_11 : decode M_F_fillI.2.1 11 = .ok (.iload_n 2, 1) := by decide +kernel
theorem d_F_fillI_12 : decode M_F_fillI.2.1 12 = .ok (.iload_n 1, 1) := by decide +kernel
theorem d_F_fillI_13 : decode M_F_fillI.2.1 13 = .ok (.iastore, 1) := by decide +kernel
theorem d_F_fillI_14 : decode M_F_fillI.2.1 14 = .ok (.iinc 2 (1), 3) := by decide +kernel
theorem d_F_fillI_17 : decode M_F_fillI.2.1 17 = .ok (.goto (-12), 3) := by decide +kernel
theorem d_F_fillI_20 : decode M_F_fillI.2.1 20 = .ok (.return_, 1) := by decide +kernel
end
section
theorem d_R_init_0 : decode M_R_init.2.1 0 = .ok (.aload_n 0, 1) := by decide +kernel
theorem d_R_init_1 : decode M_R_init.2.1 1 = .ok (.invokespecial 5, 3) := by decide +kernel
theorem d_R_init_4 : decode M_R_init.2.1 4 = .ok (.aload_n 0, 1) := by decide +kernel
theorem d_R_init_5 : decode M_R_init.2.1 5 = .ok (.bipush (33), 2) := by decide +kernel
theorem d_R_init_7 : decode M_R_init.2.1 7 = .ok (.newarray .int, 2) := by decide +kernel
theorem d_R_init_9 : decode M_R_init.2.1 9 = .ok (.putfield 11, 3) := by decide +kernel
theorem d_R_init_12 : decode M_R_init.2.1 12 = .ok (.aload_n 0, 1) := by decide +kernel
theorem d_R_init_13 : decode M_R_init.2.1 13 = .ok (.bipush (33), 2) := by decide +kernel
theorem d_R_init_15 : decode M_R_init.2.1 15 = .ok (.newarray .int, 2) := by decide +kernel
theorem d_R_init_17 : decode M_R_init.2.1 17 = .ok (.putfield 15, 3) := by decide +kernel
theorem d_R_init_20 : decode M_R_init.2.1 20 = .ok (.aload_n 0, 1) := by decide +kernel
theorem d_R_init_21 : decode M_R_init.2.1 21 = .ok (.bipush (64), 2) := by decide +kernel
theorem d_R_init_23 : decode M_R_init.2.1 23 = .ok (.newarray .int, 2) := by decide +kernel
theorem d_R_init_25 : decode M_R_init.2.1 25 = .ok (.putfield 18, 3) := by decide +kernel
theorem d_R_init_28 : decode M_R_init.2.1 28 = .ok (.aload_n 0, 1) := by decide +kernel
theorem d_R_init_29 : decode M_R_init.2.1 29 = .ok (.bipush (64), 2) := by decide +kernel
theorem d_R_init_31 : decode M_R_init.2.1 31 = .ok (.newarray .int, 2) := by decide +kernel
theorem d_R_init_33 : decode M_R_init.2.1 33 = .ok (.putfield 21, 3) := by decide +kernel
theorem d_R_init_36 : decode M_R_init.2.1 36 = .ok (.aload_n 0, 1) := by decide +kernel
theorem d_R_init_37 : decode M_R_init.2.1 37 = .ok (.sipush (2304), 3) := by decide +kernel
theorem d_R_init_40 : decode M_R_init.2.1 40 = .ok (.newarray .long, 2) := by decide +kernel
theorem d_R_init_42 : decode M_R_init.2.1 42 = .ok (.putfield 24, 3) := by decide +kernel
theorem d_R_init_45 : decode M_R_init.2.1 45 = .ok (.return_, 1) := by decide +kernel
theorem d_R_coefficient_0 : decode M_R_coefficient.2.1 0 = .ok (.aload_n 0, 1) := by decide +kernel
theorem d_R_coefficient_1 : decode M_R_coefficient.2.1 1 = .ok (.aload_n 1, 1) := by decide +kernel
theorem d_R_coefficient_2 : decode M_R_coefficient.2.1 2 = .ok (.invokevirtual 28, 3) := by decide +kernel
theorem d_R_coefficient_5 : decode M_R_coefficient.2.1 5 = .ok (.iload_n 2, 1) := by decide +kernel
theorem d_R_coefficient_6 : decode M_R_coefficient.2.1 6 = .ok (.iadd, 1) := by decide +kernel
theorem d_R_coefficient_7 : decode M_R_coefficient.2.1 7 = .ok (.iconst (1), 1) := by decide +kernel
theorem d_R_coefficient_8 : decode M_R_coefficient.2.1 8 = .ok (.isub, 1) := by decide +kernel
theorem d_R_coefficient_9 : decode M_R_coefficient.2.1 9 = .ok (.istore 4, 2) := by decide +kernel
theorem d_R_coefficient_11 : decode M_R_coefficient.2.1 11 = .ok (.iload_n 3, 1) := by decide +kernel
theorem d_R_coefficient_12 : decode M_R_coefficient.2.1 12 = .ok (.ifCond .lt (23), 3) := by decide +kernel
theorem d_R_coefficient_15 : decode M_R_coefficient.2.1 15 = .ok (.iload_n 3, 1) := by decide +kernel
theorem d_R_coefficient_16 : decode M_R_coefficient.2.1 16 = .ok (.bipush (8), 2) := by decide +kernel
theorem d_R_coefficient_18 : decode M_R_coefficient.2.1 18 = .ok (.if_icmp .gt (17), 3) := by decide +kernel
theorem d_R_coefficient_21 : decode M_R_coefficient.2.1 21 = .ok (.iload 4, 2) := by decide +kernel
theorem d_R_coefficient_23 : decode M_R_coefficient.2.1 23 = .ok (.ifCond .lt (12), 3) := by decide +kernel
theorem d_R_coefficient_26 : decode M_R_coefficient.2.1 26 = .ok (.iload 4, 2) := by decide +kernel
theorem d_R_coefficient_28 : decode M_R_coefficient.2.1 28 = .ok (.aload_n 1, 1) := by decide +kernel
theorem d_R_coefficient_29 : decode M_R_coefficient.2.1 29 = .ok (.invokevirtual 32, 3) := by decide +kernel
theorem d_R_coefficient_32 : decode M_R_coefficient.2.1 32 = .ok (.if_icmp .le (5), 3) := by decide +kernel
theorem d_R_coefficient_35 : decode M_R_coefficient.2.1 35 = .ok (.lconst 0, 1) := by decide +kernel
theorem d_R_coefficient_36 : decode M_R_coefficient.2.1 36 = .ok (.lreturn, 1) := by decide +kernel
theorem d_R_coefficient_37 : decode M_R_coefficient.2.1 37 = .ok (.aload_n 0, 1) := by decide +kernel
theorem d_R_coefficient_38 : decode M_R_coefficient.2.1 38 = .ok (.aload_n 1, 1) := by decide +kernel
theorem d_R_coefficient_39 : decode M_R_coefficient.2.1 39 = .ok (.iload 4, 2) := by decide +kernel
theorem d_R_coefficient_41 : decode M_R_coefficient.2.1 41 = .ok (.invokevirtual 38, 3) := by decide +kernel
theorem d_R_coefficient_44 : decode M_R_coefficient.2.1 44 = .ok (.aload_n 0, 1) := by decide +kernel
theorem d_R_coefficient_45 : decode M_R_coefficient.2.1 45 = .ok (.iload 4, 2) := by decide +kernel
theorem d_R_coefficient_47 : decode M_R_coefficient.2.1 47 = .ok (.invokevirtual 42, 3) := by decide +kernel
theorem d_R_coefficient_50 : decode M_R_coefficient.2.1 50 = .ok (.aload_n 0, 1) := by decide +kernel
theorem d_R_coefficient_51 : decode M_R_coefficient.2.1 51 = .ok (.iconst (1), 1) := by decide +kernel
theorem d_R_coefficient_52 : decode M_R_coefficient.2.1 52 = .ok (.iload 4, 2) := by decide +kernel
theorem d_R_coefficient_54 : decode M_R_coefficient.2.1 54 = .ok (.ishl, 1) := by decide +kernel
theorem d_R_coefficient_55 : decode M_R_coefficient.2.1 55 = .ok (.iconst (1), 1) := by decide +kernel
theorem d_R_coefficient_56 : decode M_R_coefficient.2.1 56 = .ok (.isub, 1) := by decide +kernel
theorem d_R_coefficient_57 : decode M_R_coefficient.2.1 57 = .ok (.bipush (9), 2) := by decide +kernel
theorem d_R_coefficient_59 : decode M_R_coefficient.2.1 59 = .ok (.imul, 1) := by decide +kernel
theorem d_R_coefficient_60 : decode M_R_coefficient.2.1 60 = .ok (.iload_n 3, 1) := by decide +kernel
theorem d_R_coefficient_61 : decode M_R_coefficient.2.1 61 = .ok (.invokevirtual 46, 3) := by decide +kernel
theorem d_R_coefficient_64 : decode M_R_coefficient.2.1 64 = .ok (.lreturn, 1) := by decide +kernel
theorem d_R_numberArcs_0 : decode M_R_numberArcs.2.1 0 = .ok (.iconst (0), 1) := by decide +kernel
theorem d_R_numberArcs_1 : decode M_R_numberArcs.2.1 1 = .ok (.istore_n 2, 1) := by decide +kernel
theorem d_R_numberArcs_2 : decode M_R_numberArcs.2.1 2 = .ok (.iload_n 2, 1) := by decide +kernel
theorem d_R_numberArcs_3 : decode M_R_numberArcs.2.1 3 = .ok (.bipush (32), 2) := by decide +kernel
theorem d_R_numberArcs_5 : decode M_R_numberArcs.2.1 5 = .ok (.if_icmp .gt (16), 3) := by decide +kernel
theorem d_R_numberArcs_8 : decode M_R_numberArcs.2.1 8 = .ok (.aload_n 0, 1) := by decide +kernel
theorem d_R_numberArcs_9 : decode M_R_numberArcs.2.1 9 = .ok (.getfield 11, 3) := by decide +kernel
theorem d_R_numberArcs_12 : decode M_R_numberArcs.2.1 12 = .ok (.iload_n 2, 1) := by decide +kernel
theorem d_R_numberArcs_13 : decode M_R_numberArcs.2.1 13 = .ok (.iload_n 2, 1) := by decide +kernel
theorem d_R_numberArcs_14 : decode M_R_numberArcs.2.1 14 = .ok (.iastore, 1) := by decide +kernel
theorem d_R_numberArcs_15 : decode M_R_numberArcs.2.1 15 = .ok (.iinc 2 (1), 3) := by decide +kernel
theorem d_R_numberArcs_18 : decode M_R_numberArcs.2.1 18 = .ok (.goto (-16), 3) := by decide +kernel
theorem d_R_numberArcs_21 : decode M_R_numberArcs.2.1 21 = .ok (.iconst (0), 1) := by decide +kernel
theorem d_R_numberArcs_22 : decode M_R_numberArcs.2.1 22 = .ok (.istore_n 2, 1) := by decide +kernel
theorem d_R_numberArcs_23 : decode M_R_numberArcs.2.1 23 = .ok (.iload_n 2, 1) := by decide +kernel
theorem d_R_numberArcs_24 : decode M_R_numberArcs.2.1 24 = .ok (.aload_n 1, 1) := by decide +kernel
theorem d_R_numberArcs_25 : decode M_R_numberArcs.2.1 25 = .ok (.invokevirtual 32, 3) := by decide +kernel
theorem d_R_numberArcs_28 : decode M_R_numberArcs.2.1 28 = .ok (.if_icmp .ge (41), 3) := by decide +kernel
theorem d_R_numberArcs_31 : decode M_R_numberArcs.2.1 31 = .ok (.aload_n 0, 1) := by decide +kernel
theorem d_R_numberArcs_32 : decode M_R_numberArcs.2.1 32 = .ok (.aload_n 0, 1) := by decide +kernel
theorem d_R_numberArcs_33 : decode M_R_numberArcs.2.1 33 = .ok (.getfield 11, 3) := by decide +kernel
theorem d_R_numberArcs_36 : decode M_R_numberArcs.2.1 36 = .ok (.aload_n 1, 1) := by decide +kernel
theorem d_R_numberArcs_37 : decode M_R_numberArcs.2.1 37 = .ok (.iconst (4), 1) := by decide +kernel
theorem d_R_numberArcs_38 : decode M_R_numberArcs.2.1 38 = .ok (.iload_n 2, 1) := by decide +kernel
theorem d_R_numberArcs_39 : decode M_R_numberArcs.2.1 39 = .ok (.imul, 1) := by decide +kernel
theorem d_R_numberArcs_40 : decode M_R_numberArcs.2.1 40 = .ok (.iconst (1), 1) := by decide +kernel
theorem d_R_numberArcs_41 : decode M_R_numberArcs.2.1 41 = .ok (.iadd, 1) := by decide +kernel
theorem d_R_numberArcs_42 : decode M_R_numberArcs.2.1 42 = .ok (.invokevirtual 50, 3) := by decide +kernel
theorem d_R_numberArcs_45 : decode M_R_numberArcs.2.1 45 = .ok (.iaload, 1) := by decide +kernel
theorem d_R_numberArcs_46 : decode M_R_numberArcs.2.1 46 = .ok (.aload_n 0, 1) := by decide +kernel
theorem d_R_numberArcs_47 : decode M_R_numberArcs.2.1 47 = .ok (.getfield 11, 3) := by decide +kernel
theorem d_R_numberArcs_50 : decode M_R_numberArcs.2.1 50 = .ok (.aload_n 1, 1) := by decide +kernel
theorem d_R_numberArcs_51 : decode M_R_numberArcs.2.1 51 = .ok (.iconst (4), 1) := by decide +kernel
theorem d_R_numberArcs_52 : decode M_R_numberArcs.2.1 52 = .ok (.iload_n 2, 1) := by decide +kernel
theorem d_R_numberArcs_53 : decode M_R_numberArcs.2.1 53 = .ok (.imul, 1) := by decide +kernel
theorem d_R_numberArcs_54 : decode M_R_numberArcs.2.1 54 = .ok (.iconst (3), 1) := by decide +kernel
theorem d_R_numberArcs_55 : decode M_R_numberArcs.2.1 55 = .ok (.iadd, 1) := by decide +kernel
theorem d_R_numberArcs_56 : decode M_R_numberArcs.2.1 56 = .ok (.invokevirtual 50, 3) := by decide +kernel
theorem d_R_numberArcs_59 : decode M_R_numberArcs.2.1 59 = .ok (.iaload, 1) := by decide +kernel
theorem d_R_numberArcs_60 : decode M_R_numberArcs.2.1 60 = .ok (.invokevirtual 54, 3) := by decide +kernel
theorem d_R_numberArcs_63 : decode M_R_numberArcs.2.1 63 = .ok (.iinc 2 (1), 3) := by decide +kernel
theorem d_R_numberArcs_66 : decode M_R_numberArcs.2.1 66 = .ok (.goto (-43), 3) := by decide +kernel
theorem d_R_numberArcs_69 : decode M_R_numberArcs.2.1 69 = .ok (.iconst (0), 1) := by decide +kernel
theorem d_R_numberArcs_70 : decode M_R_numberArcs.2.1 70 = .ok (.istore_n 2, 1) := by decide +kernel
theorem d_R_numberArcs_71 : decode M_R_numberArcs.2.1 71 = .ok (.iconst (1), 1) := by decide +kernel
theorem d_R_numberArcs_72 : decode M_R_numberArcs.2.1 72 = .ok (.istore_n 3, 1) := by decide +kernel
theorem d_R_numberArcs_73 : decode M_R_numberArcs.2.1 73 = .ok (.iload_n 3, 1) := by decide +kernel
theorem d_R_numberArcs_74 : decode M_R_numberArcs.2.1 74 = .ok (.bipush (32), 2) := by decide +kernel
theorem d_R_numberArcs_76 : decode M_R_numberArcs.2.1 76 = .ok (.if_icmp .gt (37), 3) := by decide +kernel
theorem d_R_numberArcs_79 : decode M_R_numberArcs.2.1 79 = .ok (.aload_n 0, 1) := by decide +kernel
theorem d_R_numberArcs_80 : decode M_R_numberArcs.2.1 80 = .ok (.getfield 11, 3) := by decide +kernel
theorem d_R_numberArcs_83 : decode M_R_numberArcs.2.1 83 = .ok (.iload_n 3, 1) := by decide +kernel
theorem d_R_numberArcs_84 : decode M_R_numberArcs.2.1 84 = .ok (.iaload, 1) := by decide +kernel
theorem d_R_numberArcs_85 : decode M_R_numberArcs.2.1 85 = .ok (.iload_n 3, 1) := by decide +kernel
theorem d_R_numberArcs_86 : decode M_R_numberArcs.2.1 86 = .ok (.if_icmp .ne (21), 3) := by decide +kernel
theorem d_R_numberArcs_89 : decode M_R_numberArcs.2.1 89 = .ok (.aload_n 1, 1) := by decide +kernel
theorem d_R_numberArcs_90 : decode M_R_numberArcs.2.1 90 = .ok (.iload_n 3, 1) := by decide +kernel
theorem d_R_numberArcs_91 : decode M_R_numberArcs.2.1 91 = .ok (.invokevirtual 58, 3) := by decide +kernel
theorem d_R_numberArcs_94 : decode M_R_numberArcs.2.1 94 = .ok (.ifCond .eq (13), 3) := by decide +kernel
theorem d_R_numberArcs_97 : decode M_R_numberArcs.2.1 97 = .ok (.aload_n 0, 1) := by decide +kernel
theorem d_R_numberArcs_98 : decode M_R_numberArcs.2.1 98 = .ok (.getfield 15, 3) := by decide +kernel
theorem d_R_numberArcs_101 : decode M_R_numberArcs.2.1 101 = .ok (.iload_n 3, 1) := by decide +kernel
theorem d_R_numberArcs_102 : decode M_R_numberArcs.2.1 102 = .ok (.iload_n 2, 1) := by decide +kernel
theorem d_R_numberArcs_103 : decode M_R_numberArcs.2.1 103 = .ok (.iastore, 1) := by decide +kernel
theorem d_R_numberArcs_104 : decode M_R_numberArcs.2.1 104 = .ok (.iinc 2 (1), 3) := by decide +kernel
theorem d_R_numberArcs_107 : decode M_R_numberArcs.2.1 107 = .ok (.iinc 3 (1), 3) := by decide +kernel
theorem d_R_numberArcs_110 : decode M_R_numberArcs.2.1 110 = .ok (.goto (-37), 3) := by decide +kernel
theorem d_R_numberArcs_113 : decode M_R_numberArcs.2.1 113 = .ok (.iload_n 2, 1) := by decide +kernel
theorem d_R_numberArcs_114 : decode M_R_numberArcs.2.1 114 = .ok (.ireturn, 1) := by decide +kernel
theorem d_R_mergeArcs_0 : decode M_R_mergeArcs.2.1 0 = .ok (.iload_n 1, 1) := by decide +kernel
theorem d_R_mergeArcs_1 : decode M_R_mergeArcs.2.1 1 = .ok (.iload_n 2, 1) := by decide +kernel
theorem d_R_mergeArcs_2 : decode M_R_mergeArcs.2.1 2 = .ok (.invokestatic 62, 3) := by decide +kernel
theorem d_R_mergeArcs_5 : decode M_R_mergeArcs.2.1 5 = .ok (.istore_n 3, 1) := by decide +kernel
theorem d_R_mergeArcs_6 : decode M_R_mergeArcs.2.1 6 = .ok (.iconst (1), 1) := by decide +kernel
theorem d_R_mergeArcs_7 : decode M_R_mergeArcs.2.1 7 = .ok (.istore 4, 2) := by decide +kernel
theorem d_R_mergeArcs_9 : decode M_R_mergeArcs.2.1 9 = .ok (.iload 4, 2) := by decide +kernel
theorem d_R_mergeArcs_11 : decode M_R_mergeArcs.2.1 11 = .ok (.bipush (32), 2) := by decide +kernel
theorem d_R_mergeArcs_13 : decode M_R_mergeArcs.2.1 13 = .ok (.if_icmp .gt (39), 3) := by decide +kernel
theorem d_R_mergeArcs_16 : decode M_R_mergeArcs.2.1 16 = .ok (.aload_n 0, 1) := by decide +kernel
theorem d_R_mergeArcs_17 : decode M_R_mergeArcs.2.1 17 = .ok (.getfield 11, 3) := by decide +kernel
theorem d_R_mergeArcs_20 : decode M_R_mergeArcs.2.1 20 = .ok (.iload 4, 2) := by decide +kernel
theorem d_R_mergeArcs_22 : decode M_R_mergeArcs.2.1 22 = .ok (.iaload, 1) := by decide +kernel
theorem d_R_mergeArcs_23 : decode M_R_mergeArcs.2.1 23 = .ok (.iload_n 1, 1) := by decide +kernel
theorem d_R_mergeArcs_24 : decode M_R_mergeArcs.2.1 24 = .ok (.if_icmp .eq (14), 3) := by decide +kernel
theorem d_R_mergeArcs_27 : decode M_R_mergeArcs.2.1 27 = .ok (.aload_n 0, 1) := by decide +kernel
theorem d_R_mergeArcs_28 : decode M_R_mergeArcs.2.1 28 = .ok (.getfield 11, 3) := by decide +kernel
theorem d_R_mergeArcs_31 : decode M_R_mergeArcs.2.1 31 = .ok (.iload 4, 2) := by decide +kernel
theorem d_R_mergeArcs_33 : decode M_R_mergeArcs.2.1 33 = .ok (.iaload, 1) := by decide +kernel
theorem d_R_mergeArcs_34 : decode M_R_mergeArcs.2.1 34 = .ok (.iload_n 2, 1) := by decide +kernel
theorem d_R_mergeArcs_35 : decode M_R_mergeArcs.2.1 35 = .ok (.if_icmp .ne (11), 3) := by decide +kernel
theorem d_R_mergeArcs_38 : decode M_R_mergeArcs.2.1 38 = .ok (.aload_n 0, 1) := by decide +kernel
theorem d_R_mergeArcs_39 : decode M_R_mergeArcs.2.1 39 = .ok (.getfield 11, 3) := by decide +kernel
theorem d_R_mergeArcs_42 : decode M_R_mergeArcs.2.1 42 = .ok (.iload 4, 2) := by decide +kernel
theorem d_R_mergeArcs_44 : decode M_R_mergeArcs.2.1 44 = .ok (.iload_n 3, 1) := by decide +kernel
theorem d_R_mergeArcs_45 : decode M_R_mergeArcs.2.1 45 = .ok (.iastore, 1) := by decide +kernel
theorem d_R_mergeArcs_46 : decode M_R_mergeArcs.2.1 46 = .ok (.iinc 4 (1), 3) := by decide +kernel
theorem d_R_mergeArcs_49 : decode M_R_mergeArcs.2.1 49 = .ok (.goto (-40), 3) := by decide +kernel
theorem d_R_mergeArcs_52 : decode M_R_mergeArcs.2.1 52 = .ok (.return_, 1) := by decide +kernel
theorem d_R_fillMatrix_0 : decode M_R_fillMatrix.2.1 0 = .ok (.aload_n 0, 1) := by decide +kernel
theorem d_R_fillMatrix_1 : decode M_R_fillMatrix.2.1 1 = .ok (.getfield 18, 3) := by decide +kernel
theorem d_R_fillMatrix_4 : decode M_R_fillMatrix.2.1 4 = .ok (.iconst (0), 1) := by decide +kernel
theorem d_R_fillMatrix_5 : decode M_R_fillMatrix.2.1 5 = .ok (.invokestatic 68, 3) := by decide +kernel
theorem d_R_fillMatrix_8 : decode M_R_fillMatrix.2.1 8 = .ok (.aload_n 0, 1) := by decide +kernel
theorem d_R_fillMatrix_9 : decode M_R_fillMatrix.2.1 9 = .ok (.getfield 21, 3) := by decide +kernel
theorem d_R_fillMatrix_12 : decode M_R_fillMatrix.2.1 12 = .ok (.iconst (0), 1) := by decide +kernel
theorem d_R_fillMatrix_13 : decode M_R_fillMatrix.2.1 13 = .ok (.invokestatic 68, 3) := by decide +kernel
theorem d_R_fillMatrix_16 : decode M_R_fillMatrix.2.1 16 = .ok (.iconst (0), 1) := by decide +kernel
theorem d_R_fillMatrix_17 : decode M_R_fillMatrix.2.1 17 = .ok (.istore_n 3, 1) := by decide +kernel
theorem d_R_fillMatrix_18 : decode M_R_fillMatrix.2.1 18 = .ok (.iload_n 3, 1) := by decide +kernel
theorem d_R_fillMatrix_19 : decode M_R_fillMatrix.2.1 19 = .ok (.iload_n 2, 1) := by decide +kernel
theorem d_R_fillMatrix_20 : decode M_R_fillMatrix.2.1 20 = .ok (.if_icmp .ge (66), 3) := by decide +kernel
theorem d_R_fillMatrix_23 : decode M_R_fillMatrix.2.1 23 = .ok (.aload_n 1, 1) := by decide +kernel
theorem d_R_fillMatrix_24 : decode M_R_fillMatrix.2.1 24 = .ok (.iload_n 3, 1) := by decide +kernel
theorem d_R_fillMatrix_25 : decode M_R_fillMatrix.2.1 25 = .ok (.invokevirtual 74, 3) := by decide +kernel
theorem d_R_fillMatrix_28 : decode M_R_fillMatrix.2.1 28 = .ok (.ifCond .eq (9), 3) := by decide +kernel
theorem d_R_fillMatrix_31 : decode M_R_fillMatrix.2.1 31 = .ok (.iconst (4), 1) := by decide +kernel
theorem d_R_fillMatrix_32 : decode M_R_fillMatrix.2.1 32 = .ok (.iload_n 3, 1) := by decide +kernel
theorem d_R_fillMatrix_33 : decode M_R_fillMatrix.2.1 33 = .ok (.imul, 1) := by decide +kernel
theorem d_R_fillMatrix_34 : decode M_R_fillMatrix.2.1 34 = .ok (.goto (8), 3) := by decide +kernel
theorem d_R_fillMatrix_37 : decode M_R_fillMatrix.2.1 37 = .ok (.iconst (4), 1) := by decide +kernel
theorem d_R_fillMatrix_38 : decode M_R_fillMatrix.2.1 38 = .ok (.iload_n 3, 1) := by decide +kernel
theorem d_R_fillMatrix_39 : decode M_R_fillMatrix.2.1 39 = .ok (.imul, 1) := by decide +kernel
theorem d_R_fillMatrix_40 : decode M_R_fillMatrix.2.1 40 = .ok (.iconst (2), 1) := by decide +kernel
theorem d_R_fillMatrix_41 : decode M_R_fillMatrix.2.1 41 = .ok (.iadd, 1) := by decide +kernel
theorem d_R_fillMatrix_42 : decode M_R_fillMatrix.2.1 42 = .ok (.istore 4, 2) := by decide +kernel
theorem d_R_fillMatrix_44 : decode M_R_fillMatrix.2.1 44 = .ok (.aload_n 0, 1) := by decide +kernel
theorem d_R_fillMatrix_45 : decode M_R_fillMatrix.2.1 45 = .ok (.aload_n 1, 1) := by decide +kernel
theorem d_R_fillMatrix_46 : decode M_R_fillMatrix.2.1 46 = .ok (.iload_n 2, 1) := by decide +kernel
theorem d_R_fillMatrix_47 : decode M_R_fillMatrix.2.1 47 = .ok (.iconst (4), 1) := by decide +kernel
theorem d_R_fillMatrix_48 : decode M_R_fillMatrix.2.1 48 = .ok (.iload_n 3, 1) := by decide +kernel
theorem d_R_fillMatrix_49 : decode M_R_fillMatrix.2.1 49 = .ok (.imul, 1) := by decide +kernel
theorem d_R_fillMatrix_50 : decode M_R_fillMatrix.2.1 50 = .ok (.iconst (1), 1) := by decide +kernel
theorem d_R_fillMatrix_51 : decode M_R_fillMatrix.2.1 51 = .ok (.iadd, 1) := by decide +kernel
theorem d_R_fillMatrix_52 : decode M_R_fillMatrix.2.1 52 = .ok (.iconst (1), 1) := by decide +kernel
theorem d_R_fillMatrix_53 : decode M_R_fillMatrix.2.1 53 = .ok (.iconst (-1), 1) := by decide +kernel
theorem d_R_fillMatrix_54 : decode M_R_fillMatrix.2.1 54 = .ok (.invokevirtual 77, 3) := by decide +kernel
theorem d_R_fillMatrix_57 : decode M_R_fillMatrix.2.1 57 = .ok (.aload_n 0, 1) := by decide +kernel
theorem d_R_fillMatrix_58 : decode M_R_fillMatrix.2.1 58 = .ok (.aload_n 1, 1) := by decide +kernel
theorem d_R_fillMatrix_59 : decode M_R_fillMatrix.2.1 59 = .ok (.iload_n 2, 1) := by decide +kernel
theorem d_R_fillMatrix_60 : decode M_R_fillMatrix.2.1 60 = .ok (.iload 4, 2) := by decide +kernel
theorem d_R_fillMatrix_62 : decode M_R_fillMatrix.2.1 62 = .ok (.iconst (0), 1) := by decide +kernel
theorem d_R_fillMatrix_63 : decode M_R_fillMatrix.2.1 63 = .ok (.iconst (1), 1) := by decide +kernel
theorem d_R_fillMatrix_64 : decode M_R_fillMatrix.2.1 64 = .ok (.invokevirtual 77, 3) := by decide +kernel
theorem d_R_fillMatrix_67 : decode M_R_fillMatrix.2.1 67 = .ok (.aload_n 0, 1) := by decide +kernel
theorem d_R_fillMatrix_68 : decode M_R_fillMatrix.2.1 68 = .ok (.aload_n 1, 1) := by decide +kernel
theorem d_R_fillMatrix_69 : decode M_R_fillMatrix.2.1 69 = .ok (.iload_n 2, 1) := by decide +kernel
theorem d_R_fillMatrix_70 : decode M_R_fillMatrix.2.1 70 = .ok (.iload 4, 2) := by decide +kernel
theorem d_R_fillMatrix_72 : decode M_R_fillMatrix.2.1 72 = .ok (.invokestatic 81, 3) := by decide +kernel
theorem d_R_fillMatrix_75 : decode M_R_fillMatrix.2.1 75 = .ok (.iconst (-1), 1) := by decide +kernel
theorem d_R_fillMatrix_76 : decode M_R_fillMatrix.2.1 76 = .ok (.iconst (0), 1) := by decide +kernel
theorem d_R_fillMatrix_77 : decode M_R_fillMatrix.2.1 77 = .ok (.invokevirtual 77, 3) := by decide +kernel
theorem d_R_fillMatrix_80 : decode M_R_fillMatrix.2.1 80 = .ok (.iinc 3 (1), 3) := by decide +kernel
theorem d_R_fillMatrix_83 : decode M_R_fillMatrix.2.1 83 = .ok (.goto (-65), 3) := by decide +kernel
theorem d_R_fillMatrix_86 : decode M_R_fillMatrix.2.1 86 = .ok (.return_, 1) := by decide +kernel
theorem d_R_addEntry_0 : decode M_R_addEntry.2.1 0 = .ok (.aload_n 0, 1) := by decide +kernel
theorem d_R_addEntry_1 : decode M_R_addEntry.2.1 1 = .ok (.getfield 15, 3) := by decide +kernel
theorem d_R_addEntry_4 : decode M_R_addEntry.2.1 4 = .ok (.aload_n 0, 1) := by decide +kernel
theorem d_R_addEntry_5 : decode M_R_addEntry.2.1 5 = .ok (.getfield 11, 3) := by decide +kernel
theorem d_R_addEntry_8 : decode M_R_addEntry.2.1 8 = .ok (.aload_n 1, 1) := by decide +kernel
theorem d_R_addEntry_9 : decode M_R_addEntry.2.1 9 = .ok (.iload_n 3, 1) := by decide +kernel
theorem d_R_addEntry_10 : decode M_R_addEntry.2.1 10 = .ok (.invokevirtual 50, 3) := by decide +kernel
theorem d_R_addEntry_13 : decode M_R_addEntry.2.1 13 = .ok (.iaload, 1) := by decide +kernel
theorem d_R_addEntry_14 : decode M_R_addEntry.2.1 14 = .ok (.iaload, 1) := by decide +kernel
theorem d_R_addEntry_15 : decode M_R_addEntry.2.1 15 = .ok (.istore 6, 2) := by decide +kernel
theorem d_R_addEntry_17 : decode M_R_addEntry.2.1 17 = .ok (.iload 6, 2) := by decide +kernel
theorem d_R_addEntry_19 : decode M_R_addEntry.2.1 19 = .ok (.iload_n 2, 1) := by decide +kernel
theorem d_R_addEntry_20 : decode M_R_addEntry.2.1 20 = .ok (.if_icmp .ge (39), 3) := by decide +kernel
theorem d_R_addEntry_23 : decode M_R_addEntry.2.1 23 = .ok (.iload_n 3, 1) := by decide +kernel
theorem d_R_addEntry_24 : decode M_R_addEntry.2.1 24 = .ok (.invokestatic 84, 3) := by decide +kernel
theorem d_R_addEntry_27 : decode M_R_addEntry.2.1 27 = .ok (.bipush (8), 2) := by decide +kernel
theorem d_R_addEntry_29 : decode M_R_addEntry.2.1 29 = .ok (.imul, 1) := by decide +kernel
theorem d_R_addEntry_30 : decode M_R_addEntry.2.1 30 = .ok (.iload 6, 2) := by decide +kernel
theorem d_R_addEntry_32 : decode M_R_addEntry.2.1 32 = .ok (.iadd, 1) := by decide +kernel
theorem d_R_addEntry_33 : decode M_R_addEntry.2.1 33 = .ok (.istore 7, 2) := by decide +kernel
theorem d_R_addEntry_35 : decode M_R_addEntry.2.1 35 = .ok (.aload_n 0, 1) := by decide +kernel
theorem d_R_addEntry_36 : decode M_R_addEntry.2.1 36 = .ok (.getfield 18, 3) := by decide +kernel
theorem d_R_addEntry_39 : decode M_R_addEntry.2.1 39 = .ok (.iload 7, 2) := by decide +kernel
theorem d_R_addEntry_41 : decode M_R_addEntry.2.1 41 = .ok (.dup2, 1) := by decide +kernel
theorem d_R_addEntry_42 : decode M_R_addEntry.2.1 42 = .ok (.iaload, 1) := by decide +kernel
theorem d_R_addEntry_43 : decode M_R_addEntry.2.1 43 = .ok (.iload 4, 2) := by decide +kernel
theorem d_R_addEntry_45 : decode M_R_addEntry.2.1 45 = .ok (.iadd, 1) := by decide +kernel
theorem d_R_addEntry_46 : decode M_R_addEntry.2.1 46 = .ok (.iastore, 1) := by decide +kernel
theorem d_R_addEntry_47 : decode M_R_addEntry.2.1 47 = .ok (.aload_n 0, 1) := by decide +kernel
theorem d_R_addEntry_48 : decode M_R_addEntry.2.1 48 = .ok (.getfield 21, 3) := by decide +kernel
theorem d_R_addEntry_51 : decode M_R_addEntry.2.1 51 = .ok (.iload 7, 2) := by decide +kernel
theorem d_R_addEntry_53 : decode M_R_addEntry.2.1 53 = .ok (.dup2, 1) := by decide +kernel
theorem d_R_addEntry_54 : decode M_R_addEntry.2.1 54 = .ok (.iaload, 1) := by decide +kernel
theorem d_R_addEntry_55 : decode M_R_addEntry.2.1 55 = .ok (.iload 5, 2) := by decide +kernel
theorem d_R_addEntry_57 : decode M_R_addEntry.2.1 57 = .ok (.iadd, 1) := by decide +kernel
theorem d_R_addEntry_58 : decode M_R_addEntry.2.1 58 = .ok (.iastore, 1) := by decide +kernel
theorem d_R_addEntry_59 : decode M_R_addEntry.2.1 59 = .ok (.return_, 1) := by decide +kernel
theorem d_R_expandMinors_0 : decode M_R_expandMinors.2.1 0 = .ok (.aload_n 0, 1) := by decide +kernel
theorem d_R_expandMinors_1 : decode M_R_expandMinors.2.1 1 = .ok (.getfield 24, 3) := by decide +kernel
theorem d_R_expandMinors_4 : decode M_R_expandMinors.2.1 4 = .ok (.lconst 0, 1) := by decide +kernel
theorem d_R_expandMinors_5 : decode M_R_expandMinors.2.1 5 = .ok (.invokestatic 87, 3) := by decide +kernel
theorem d_R_expandMinors_8 : decode M_R_expandMinors.2.1 8 = .ok (.aload_n 0, 1) := by decide +kernel
theorem d_R_expandMinors_9 : decode M_R_expandMinors.2.1 9 = .ok (.getfield 24, 3) := by decide +kernel
theorem d_R_expandMinors_12 : decode M_R_expandMinors.2.1 12 = .ok (.iconst (0), 1) := by decide +kernel
theorem d_R_expandMinors_13 : decode M_R_expandMinors.2.1 13 = .ok (.lconst 1, 1) := by decide +kernel
theorem d_R_expandMinors_14 : decode M_R_expandMinors.2.1 14 = .ok (.lastore, 1) := by decide +kernel
theorem d_R_expandMinors_15 : decode M_R_expandMinors.2.1 15 = .ok (.iconst (1), 1) := by decide +kernel
theorem d_R_expandMinors_16 : decode M_R_expandMinors.2.1 16 = .ok (.istore_n 2, 1) := by decide +kernel
theorem d_R_expandMinors_17 : decode M_R_expandMinors.2.1 17 = .ok (.iload_n 2, 1) := by decide +kernel
theorem d_R_expandMinors_18 : decode M_R_expandMinors.2.1 18 = .ok (.iconst (1), 1) := by decide +kernel
theorem d_R_expandMinors_19 : decode M_R_expandMinors.2.1 19 = .ok (.iload_n 1, 1) := by decide +kernel
theorem d_R_expandMinors_20 : decode M_R_expandMinors.2.1 20 = .ok (.ishl, 1) := by decide +kernel
theorem d_R_expandMinors_21 : decode M_R_expandMinors.2.1 21 = .ok (.if_icmp .ge (49), 3) := by decide +kernel
theorem d_R_expandMinors_24 : decode M_R_expandMinors.2.1 24 = .ok (.iload_n 2, 1) := by decide +kernel
theorem d_R_expandMinors_25 : decode M_R_expandMinors.2.1 25 = .ok (.invokestatic 90, 3) := by decide +kernel
theorem d_R_expandMinors_28 : decode M_R_expandMinors.2.1 28 = .ok (.iconst (1), 1) := by decide +kernel
theorem d_R_expandMinors_29 : decode M_R_expandMinors.2.1 29 = .ok (.isub, 1) := by decide +kernel
theorem d_R_expandMinors_30 : decode M_R_expandMinors.2.1 30 = .ok (.istore_n 3, 1) := by decide +kernel
theorem d_R_expandMinors_31 : decode M_R_expandMinors.2.1 31 = .ok (.iconst (0), 1) := by decide +kernel
theorem d_R_expandMinors_32 : decode M_R_expandMinors.2.1 32 = .ok (.istore 4, 2) := by decide +kernel
theorem d_R_expandMinors_34 : decode M_R_expandMinors.2.1 34 = .ok (.iload 4, 2) := by decide +kernel
theorem d_R_expandMinors_36 : decode M_R_expandMinors.2.1 36 = .ok (.iload_n 1, 1) := by decide +kernel
theorem d_R_expandMinors_37 : decode M_R_expandMinors.2.1 37 = .ok (.if_icmp .ge (27), 3) := by decide +kernel
theorem d_R_expandMinors_40 : decode M_R_expandMinors.2.1 40 = .ok (.iload_n 2, 1) := by decide +kernel
theorem d_R_expandMinors_41 : decode M_R_expandMinors.2.1 41 = .ok (.iload 4, 2) := by decide +kernel
theorem d_R_expandMinors_43 : decode M_R_expandMinors.2.1 43 = .ok (.ishr, 1) := by decide +kernel
theorem d_R_expandMinors_44 : decode M_R_expandMinors.2.1 44 = .ok (.iconst (1), 1) := by decide +kernel
theorem d_R_expandMinors_45 : decode M_R_expandMinors.2.1 45 = .ok (.iand, 1) := by decide +kernel
theorem d_R_expandMinors_46 : decode M_R_expandMinors.2.1 46 = .ok (.iconst (1), 1) := by decide +kernel
theorem d_R_expandMinors_47 : decode M_R_expandMinors.2.1 47 = .ok (.if_icmp .ne (11), 3) := by decide +kernel
theorem d_R_expandMinors_50 : decode M_R_expandMinors.2.1 50 = .ok (.aload_n 0, 1) := by decide +kernel
theorem d_R_expandMinors_51 : decode M_R_expandMinors.2.1 51 = .ok (.iload_n 2, 1) := by decide +kernel
theorem d_R_expandMinors_52 : decode M_R_expandMinors.2.1 52 = .ok (.iload_n 3, 1) := by decide +kernel
theorem d_R_expandMinors_53 : decode M_R_expandMinors.2.1 53 = .ok (.iload 4, 2) := by decide +kernel
theorem d_R_expandMinors_55 : decode M_R_expandMinors.2.1 55 = .ok (.invokevirtual 95, 3) := by decide +kernel
theorem d_R_expandMinors_58 : decode M_R_expandMinors.2.1 58 = .ok (.iinc 4 (1), 3) := by decide +kernel
theorem d_R_expandMinors_61 : decode M_R_expandMinors.2.1 61 = .ok (.goto (-27), 3) := by decide +kernel
theorem d_R_expandMinors_64 : decode M_R_expandMinors.2.1 64 = .ok (.iinc 2 (1), 3) := by decide +kernel
theorem d_R_expandMinors_67 : decode M_R_expandMinors.2.1 67 = .ok (.goto (-50), 3) := by decide +kernel
theorem d_R_expandMinors_70 : decode M_R_expandMinors.2.1 70 = .ok (.return_, 1) := by decide +kernel
theorem d_R_addProduct_0 : decode M_R_addProduct.2.1 0 = .ok (.iload_n 1, 1) := by decide +kernel
theorem d_R_addProduct_1 : decode M_R_addProduct.2.1 1 = .ok (.iload_n 3, 1) := by decide +kernel
theorem d_R_addProduct_2 : decode M_R_addProduct.2.1 2 = .ok (.iconst (1), 1) := by decide +kernel
theorem d_R_addProduct_3 : decode M_R_addProduct.2.1 3 = .ok (.iadd, 1) := by decide +kernel
theorem d_R_addProduct_4 : decode M_R_addProduct.2.1 4 = .ok (.ishr, 1) := by decide +kernel
theorem d_R_addProduct_5 : decode M_R_addProduct.2.1 5 = .ok (.invokestatic 90, 3) := by decide +kernel
theorem d_R_addProduct_8 : decode M_R_addProduct.2.1 8 = .ok (.iconst (2), 1) := by decide +kernel
theorem d_R_addProduct_9 : decode M_R_addProduct.2.1 9 = .ok (.irem, 1) := by decide +kernel
theorem d_R_addProduct_10 : decode M_R_addProduct.2.1 10 = .ok (.ifCond .ne (7), 3) := by decide +kernel
theorem d_R_addProduct_13 : decode M_R_addProduct.2.1 13 = .ok (.iconst (1), 1) := by decide +kernel
theorem d_R_addProduct_14 : decode M_R_addProduct.2.1 14 = .ok (.goto (4), 3) := by decide +kernel
theorem d_R_addProduct_17 : decode M_R_addProduct.2.1 17 = .ok (.iconst (-1), 1) := by decide +kernel
theorem d_R_addProduct_18 : decode M_R_addProduct.2.1 18 = .ok (.istore 4, 2) := by decide +kernel
theorem d_R_addProduct_20 : decode M_R_addProduct.2.1 20 = .ok (.iload 4, 2) := by decide +kernel
theorem d_R_addProduct_22 : decode M_R_addProduct.2.1 22 = .ok (.aload_n 0, 1) := by decide +kernel
theorem d_R_addProduct_23 : decode M_R_addProduct.2.1 23 = .ok (.getfield 18, 3) := by decide +kernel
theorem d_R_addProduct_26 : decode M_R_addProduct.2.1 26 = .ok (.iload_n 2, 1) := by decide +kernel
theorem d_R_addProduct_27 : decode M_R_addProduct.2.1 27 = .ok (.bipush (8), 2) := by decide +kernel
theorem d_R_addProduct_29 : decode M_R_addProduct.2.1 29 = .ok (.imul, 1) := by decide +kernel
theorem d_R_addProduct_30 : decode M_R_addProduct.2.1 30 = .ok (.iload_n 3, 1) := by decide +kernel
theorem d_R_addProduct_31 : decode M_R_addProduct.2.1 31 = .ok (.iadd, 1) := by decide +kernel
theorem d_R_addProduct_32 : decode M_R_addProduct.2.1 32 = .ok (.iaload, 1) := by decide +kernel
theorem d_R_addProduct_33 : decode M_R_addProduct.2.1 33 = .ok (.imul, 1) := by decide +kernel
theorem d_R_addProduct_34 : decode M_R_addProduct.2.1 34 = .ok (.i2l, 1) := by decide +kernel
theorem d_R_addProduct_35 : decode M_R_addProduct.2.1 35 = .ok (.lstore 5, 2) := by decide +kernel
theorem d_R_addProduct_37 : decode M_R_addProduct.2.1 37 = .ok (.iload 4, 2) := by decide +kernel
theorem d_R_addProduct_39 : decode M_R_addProduct.2.1 39 = .ok (.aload_n 0, 1) := by decide +kernel
theorem d_R_addProduct_40 : decode M_R_addProduct.2.1 40 = .ok (.getfield 21, 3) := by decide +kernel
theorem d_R_addProduct_43 : decode M_R_addProduct.2.1 43 = .ok (.iload_n 2, 1) := by decide +kernel
theorem d_R_addProduct_44 : decode M_R_addProduct.2.1 44 = .ok (.bipush (8), 2) := by decide +kernel
theorem d_R_addProduct_46 : decode M_R_addProduct.2.1 46 = .ok (.imul, 1) := by decide +kernel
theorem d_R_addProduct_47 : decode M_R_addProduct.2.1 47 = .ok (.iload_n 3, 1) := by decide +kernel
theorem d_R_addProduct_48 : decode M_R_addProduct.2.1 48 = .ok (.iadd, 1) := by decide +kernel
theorem d_R_addProduct_49 : decode M_R_addProduct.2.1 49 = .ok (.iaload, 1) := by decide +kernel
theorem d_R_addProduct_50 : decode M_R_addProduct.2.1 50 = .ok (.imul, 1) := by decide +kernel
theorem d_R_addProduct_51 : decode M_R_addProduct.2.1 51 = .ok (.i2l, 1) := by decide +kernel
theorem d_R_addProduct_52 : decode M_R_addProduct.2.1 52 = .ok (.lstore 7, 2) := by decide +kernel
theorem d_R_addProduct_54 : decode M_R_addProduct.2.1 54 = .ok (.iload_n 1, 1) := by decide +kernel
theorem d_R_addProduct_55 : decode M_R_addProduct.2.1 55 = .ok (.bipush (9), 2) := by decide +kernel
theorem d_R_addProduct_57 : decode M_R_addProduct.2.1 57 = .ok (.imul, 1) := by decide +kernel
theorem d_R_addProduct_58 : decode M_R_addProduct.2.1 58 = .ok (.istore 9, 2) := by decide +kernel
theorem d_R_addProduct_60 : decode M_R_addProduct.2.1 60 = .ok (.iload_n 1, 1) := by decide +kernel
theorem d_R_addProduct_61 : decode M_R_addProduct.2.1 61 = .ok (.iconst (1), 1) := by decide +kernel
theorem d_R_addProduct_62 : decode M_R_addProduct.2.1 62 = .ok (.iload_n 3, 1) := by decide +kernel
theorem d_R_addProduct_63 : decode M_R_addProduct.2.1 63 = .ok (.ishl, 1) := by decide +kernel
theorem d_R_addProduct_64 : decode M_R_addProduct.2.1 64 = .ok (.ixor, 1) := by decide +kernel
theorem d_R_addProduct_65 : decode M_R_addProduct.2.1 65 = .ok (.bipush (9), 2) := by decide +kernel
theorem d_R_addProduct_67 : decode M_R_addProduct.2.1 67 = .ok (.imul, 1) := by decide +kernel
theorem d_R_addProduct_68 : decode M_R_addProduct.2.1 68 = .ok (.istore 10, 2) := by decide +kernel
theorem d_R_addProduct_70 : decode M_R_addProduct.2.1 70 = .ok (.iconst (0), 1) := by decide +kernel
theorem d_R_addProduct_71 : decode M_R_addProduct.2.1 71 = .ok (.istore 11, 2) := by decide +kernel
theorem d_R_addProduct_73 : decode M_R_addProduct.2.1 73 = .ok (.iload 11, 2) := by decide +kernel
theorem d_R_addProduct_75 : decode M_R_addProduct.2.1 75 = .ok (.iload_n 2, 1) := by decide +kernel
theorem d_R_addProduct_76 : decode M_R_addProduct.2.1 76 = .ok (.if_icmp .gt (63), 3) := by decide +kernel
theorem d_R_addProduct_79 : decode M_R_addProduct.2.1 79 = .ok (.aload_n 0, 1) := by decide +kernel
theorem d_R_addProduct_80 : decode M_R_addProduct.2.1 80 = .ok (.getfield 24, 3) := by decide +kernel
theorem d_R_addProduct_83 : decode M_R_addProduct.2.1 83 = .ok (.iload 9, 2) := by decide +kernel
theorem d_R_addProduct_85 : decode M_R_addProduct.2.1 85 = .ok (.iload 11, 2) := by decide +kernel
theorem d_R_addProduct_87 : decode M_R_addProduct.2.1 87 = .ok (.iadd, 1) := by decide +kernel
theorem d_R_addProduct_88 : decode M_R_addProduct.2.1 88 = .ok (.dup2, 1) := by decide +kernel
theorem d_R_addProduct_89 : decode M_R_addProduct.2.1 89 = .ok (.laload, 1) := by decide +kernel
theorem d_R_addProduct_90 : decode M_R_addProduct.2.1 90 = .ok (.lload 5, 2) := by decide +kernel
theorem d_R_addProduct_92 : decode M_R_addProduct.2.1 92 = .ok (.aload_n 0, 1) := by decide +kernel
theorem d_R_addProduct_93 : decode M_R_addProduct.2.1 93 = .ok (.getfield 24, 3) := by decide +kernel
theorem d_R_addProduct_96 : decode M_R_addProduct.2.1 96 = .ok (.iload 10, 2) := by decide +kernel
theorem d_R_addProduct_98 : decode M_R_addProduct.2.1 98 = .ok (.iload 11, 2) := by decide +kernel
theorem d_R_addProduct_100 : decode M_R_addProduct.2.1 100 = .ok (.iadd, 1) := by decide +kernel
theorem d_R_addProduct_101 : decode M_R_addProduct.2.1 101 = .ok (.laload, 1) := by decide +kernel
theorem d_R_addProduct_102 : decode M_R_addProduct.2.1 102 = .ok (.lmul, 1) := by decide +kernel
theorem d_R_addProduct_103 : decode M_R_addProduct.2.1 103 = .ok (.ladd, 1) := by decide +kernel
theorem d_R_addProduct_104 : decode M_R_addProduct.2.1 104 = .ok (.lastore, 1) := by decide +kernel
theorem d_R_addProduct_105 : decode M_R_addProduct.2.1 105 = .ok (.aload_n 0, 1) := by decide +kernel
theorem d_R_addProduct_106 : decode M_R_addProduct.2.1 106 = .ok (.getfield 24, 3) := by decide +kernel
theorem d_R_addProduct_109 : decode M_R_addProduct.2.1 109 = .ok (.iload 9, 2) := by decide +kernel
theorem d_R_addProduct_111 : decode M_R_addProduct.2.1 111 = .ok (.iload 11, 2) := by decide +kernel
theorem d_R_addProduct_113 : decode M_R_addProduct.2.1 113 = .ok (.iadd, 1) := by decide +kernel
theorem d_R_addProduct_114 : decode M_R_addProduct.2.1 114 = .ok (.iconst (1), 1) := by decide +kernel
theorem d_R_addProduct_115 : decode M_R_addProduct.2.1 115 = .ok (.iadd, 1) := by decide +kernel
theorem d_R_addProduct_116 : decode M_R_addProduct.2.1 116 = .ok (.dup2, 1) := by decide +kernel
theorem d_R_addProduct_117 : decode M_R_addProduct.2.1 117 = .ok (.laload, 1) := by decide +kernel
theorem d_R_addProduct_118 : decode M_R_addProduct.2.1 118 = .ok (.lload 7, 2) := by decide +kernel
theorem d_R_addProduct_120 : decode M_R_addProduct.2.1 120 = .ok (.aload_n 0, 1) := by decide +kernel
theorem d_R_addProduct_121 : decode M_R_addProduct.2.1 121 = .ok (.getfield 24, 3) := by decide +kernel
theorem d_R_addProduct_124 : decode M_R_addProduct.2.1 124 = .ok (.iload 10, 2) := by decide +kernel
theorem d_R_addProduct_126 : decode M_R_addProduct.2.1 126 = .ok (.iload 11, 2) := by decide +kernel
theorem d_R_addProduct_128 : decode M_R_addProduct.2.1 128 = .ok (.iadd, 1) := by decide +kernel
theorem d_R_addProduct_129 : decode M_R_addProduct.2.1 129 = .ok (.laload, 1) := by decide +kernel
theorem d_R_addProduct_130 : decode M_R_addProduct.2.1 130 = .ok (.lmul, 1) := by decide +kernel
theorem d_R_addProduct_131 : decode M_R_addProduct.2.1 131 = .ok (.ladd, 1) := by decide +kernel
theorem d_R_addProduct_132 : decode M_R_addProduct.2.1 132 = .ok (.lastore, 1) := by decide +kernel
theorem d_R_addProduct_133 : decode M_R_addProduct.2.1 133 = .ok (.iinc 11 (1), 3) := by decide +kernel
theorem d_R_addProduct_136 : decode M_R_addProduct.2.1 136 = .ok (.goto (-63), 3) := by decide +kernel
theorem d_R_addProduct_139 : decode M_R_addProduct.2.1 139 = .ok (.return_, 1) := by decide +kernel
theorem d_R_normalCoefficient_0 : decode M_R_normalCoefficient.2.1 0 = .ok (.iconst (0), 1) := by decide +kernel
theorem d_R_normalCoefficient_1 : decode M_R_normalCoefficient.2.1 1 = .ok (.istore_n 3, 1) := by decide +kernel
theorem d_R_normalCoefficient_2 : decode M_R_normalCoefficient.2.1 2 = .ok (.iload_n 3, 1) := by decide +kernel
theorem d_R_normalCoefficient_3 : decode M_R_normalCoefficient.2.1 3 = .ok (.bipush (8), 2) := by decide +kernel
theorem d_R_normalCoefficient_5 : decode M_R_normalCoefficient.2.1 5 = .ok (.if_icmp .ge (22), 3) := by decide +kernel
theorem d_R_normalCoefficient_8 : decode M_R_normalCoefficient.2.1 8 = .ok (.aload_n 0, 1) := by decide +kernel
theorem d_R_normalCoefficient_9 : decode M_R_normalCoefficient.2.1 9 = .ok (.getfield 24, 3) := by decide +kernel
theorem d_R_normalCoefficient_12 : decode M_R_normalCoefficient.2.1 12 = .ok (.iload_n 1, 1) := by decide +kernel
theorem d_R_normalCoefficient_13 : decode M_R_normalCoefficient.2.1 13 = .ok (.iload_n 3, 1) := by decide +kernel
theorem d_R_normalCoefficient_14 : decode M_R_normalCoefficient.2.1 14 = .ok (.iadd, 1) := by decide +kernel
theorem d_R_normalCoefficient_15 : decode M_R_normalCoefficient.2.1 15 = .ok (.laload, 1) := by decide +kernel
theorem d_R_normalCoefficient_16 : decode M_R_normalCoefficient.2.1 16 = .ok (.lconst 0, 1) := by decide +kernel
theorem d_R_normalCoefficient_17 : decode M_R_normalCoefficient.2.1 17 = .ok (.lcmp, 1) := by decide +kernel
theorem d_R_normalCoefficient_18 : decode M_R_normalCoefficient.2.1 18 = .ok (.ifCond .ne (9), 3) := by decide +kernel
theorem d_R_normalCoefficient_21 : decode M_R_normalCoefficient.2.1 21 = .ok (.iinc 3 (1), 3) := by decide +kernel
theorem d_R_normalCoefficient_24 : decode M_R_normalCoefficient.2.1 24 = .ok (.goto (-22), 3) := by decide +kernel
theorem d_R_normalCoefficient_27 : decode M_R_normalCoefficient.2.1 27 = .ok (.bipush (8), 2) := by decide +kernel
theorem d_R_normalCoefficient_29 : decode M_R_normalCoefficient.2.1 29 = .ok (.istore 4, 2) := by decide +kernel
theorem d_R_normalCoefficient_31 : decode M_R_normalCoefficient.2.1 31 = .ok (.iload 4, 2) := by decide +kernel
theorem d_R_normalCoefficient_33 : decode M_R_normalCoefficient.2.1 33 = .ok (.ifCond .le (23), 3) := by decide +kernel
theorem d_R_normalCoefficient_36 : decode M_R_normalCoefficient.2.1 36 = .ok (.aload_n 0, 1) := by decide +kernel
theorem d_R_normalCoefficient_37 : decode M_R_normalCoefficient.2.1 37 = .ok (.getfield 24, 3) := by decide +kernel
theorem d_R_normalCoefficient_40 : decode M_R_normalCoefficient.2.1 40 = .ok (.iload_n 1, 1) := by decide +kernel
theorem d_R_normalCoefficient_41 : decode M_R_normalCoefficient.2.1 41 = .ok (.iload 4, 2) := by decide +kernel
theorem d_R_normalCoefficient_43 : decode M_R_normalCoefficient.2.1 43 = .ok (.iadd, 1) := by decide +kernel
theorem d_R_normalCoefficient_44 : decode M_R_normalCoefficient.2.1 44 = .ok (.laload, 1) := by decide +kernel
theorem d_R_normalCoefficient_45 : decode M_R_normalCoefficient.2.1 45 = .ok (.lconst 0, 1) := by decide +kernel
theorem d_R_normalCoefficient_46 : decode M_R_normalCoefficient.2.1 46 = .ok (.lcmp, 1) := by decide +kernel
theorem d_R_normalCoefficient_47 : decode M_R_normalCoefficient.2.1 47 = .ok (.ifCond .ne (9), 3) := by decide +kernel
theorem d_R_normalCoefficient_50 : decode M_R_normalCoefficient.2.1 50 = .ok (.iinc 4 (-1), 3) := by decide +kernel
theorem d_R_normalCoefficient_53 : decode M_R_normalCoefficient.2.1 53 = .ok (.goto (-22), 3) := by decide +kernel
theorem d_R_normalCoefficient_56 : decode M_R_normalCoefficient.2.1 56 = .ok (.iload_n 3, 1) := by decide +kernel
theorem d_R_normalCoefficient_57 : decode M_R_normalCoefficient.2.1 57 = .ok (.iload_n 2, 1) := by decide +kernel
theorem d_R_normalCoefficient_58 : decode M_R_normalCoefficient.2.1 58 = .ok (.iadd, 1) := by decide +kernel
theorem d_R_normalCoefficient_59 : decode M_R_normalCoefficient.2.1 59 = .ok (.iload 4, 2) := by decide +kernel
theorem d_R_normalCoefficient_61 : decode M_R_normalCoefficient.2.1 61 = .ok (.if_icmp .le (5), 3) := by decide +kernel
theorem d_R_normalCoefficient_64 : decode M_R_normalCoefficient.2.1 64 = .ok (.lconst 0, 1) := by decide +kernel
theorem d_R_normalCoefficient_65 : decode M_R_normalCoefficient.2.1 65 = .ok (.lreturn, 1) := by decide +kernel
theorem d_R_normalCoefficient_66 : decode M_R_normalCoefficient.2.1 66 = .ok (.aload_n 0, 1) := by decide +kernel
theorem d_R_normalCoefficient_67 : decode M_R_normalCoefficient.2.1 67 = .ok (.getfield 24, 3) := by decide +kernel
theorem d_R_normalCoefficient_70 : decode M_R_normalCoefficient.2.1 70 = .ok (.iload_n 1, 1) := by decide +kernel
theorem d_R_normalCoefficient_71 : decode M_R_normalCoefficient.2.1 71 = .ok (.iload_n 3, 1) := by decide +kernel
theorem d_R_normalCoefficient_72 : decode M_R_normalCoefficient.2.1 72 = .ok (.iadd, 1) := by decide +kernel
theorem d_R_normalCoefficient_73 : decode M_R_normalCoefficient.2.1 73 = .ok (.iload_n 2, 1) := by decide +kernel
theorem d_R_normalCoefficient_74 : decode M_R_normalCoefficient.2.1 74 = .ok (.iadd, 1) := by decide +kernel
theorem d_R_normalCoefficient_75 : decode M_R_normalCoefficient.2.1 75 = .ok (.laload, 1) := by decide +kernel
theorem d_R_normalCoefficient_76 : decode M_R_normalCoefficient.2.1 76 = .ok (.lstore 5, 2) := by decide +kernel
theorem d_R_normalCoefficient_78 : decode M_R_normalCoefficient.2.1 78 = .ok (.aload_n 0, 1) := by decide +kernel
theorem d_R_normalCoefficient_79 : decode M_R_normalCoefficient.2.1 79 = .ok (.getfield 24, 3) := by decide +kernel
theorem d_R_normalCoefficient_82 : decode M_R_normalCoefficient.2.1 82 = .ok (.iload_n 1, 1) := by decide +kernel
theorem d_R_normalCoefficient_83 : decode M_R_normalCoefficient.2.1 83 = .ok (.iload 4, 2) := by decide +kernel
theorem d_R_normalCoefficient_85 : decode M_R_normalCoefficient.2.1 85 = .ok (.iadd, 1) := by decide +kernel
theorem d_R_normalCoefficient_86 : decode M_R_normalCoefficient.2.1 86 = .ok (.laload, 1) := by decide +kernel
theorem d_R_normalCoefficient_87 : decode M_R_normalCoefficient.2.1 87 = .ok (.lconst 0, 1) := by decide +kernel
theorem d_R_normalCoefficient_88 : decode M_R_normalCoefficient.2.1 88 = .ok (.lcmp, 1) := by decide +kernel
theorem d_R_normalCoefficient_89 : decode M_R_normalCoefficient.2.1 89 = .ok (.ifCond .ge (9), 3) := by decide +kernel
theorem d_R_normalCoefficient_92 : decode M_R_normalCoefficient.2.1 92 = .ok (.lload 5, 2) := by decide +kernel
theorem d_R_normalCoefficient_94 : decode M_R_normalCoefficient.2.1 94 = .ok (.lneg, 1) := by decide +kernel
theorem d_R_normalCoefficient_95 : decode M_R_normalCoefficient.2.1 95 = .ok (.goto (5), 3) := by decide +kernel
theorem d_R_normalCoefficient_98 : decode M_R_normalCoefficient.2.1 98 = .ok (.lload 5, 2) := by decide +kernel
theorem d_R_normalCoefficient_100 : decode M_R_normalCoefficient.2.1 100 = .ok (.lreturn, 1) := by decide +kernel
theorem d_B_init_0 : decode M_B_init.2.1 0 = .ok (.aload_n 0, 1) := by decide +kernel
theorem d_B_init_1 : decode M_B_init.2.1 1 = .ok (.invokespecial 5, 3) := by decide +kernel
theorem d_B_init_4 : decode M_B_init.2.1 4 = .ok (.aload_n 0, 1) := by decide +kernel
theorem d_B_init_5 : decode M_B_init.2.1 5 = .ok (.bipush (32), 2) := by decide +kernel
theorem d_B_init_7 : decode M_B_init.2.1 7 = .ok (.newarray .int, 2) := by decide +kernel
theorem d_B_init_9 : decode M_B_init.2.1 9 = .ok (.putfield 11, 3) := by decide +kernel
theorem d_B_init_12 : decode M_B_init.2.1 12 = .ok (.aload_n 0, 1) := by decide +kernel
theorem d_B_init_13 : decode M_B_init.2.1 13 = .ok (.sipush (261), 3) := by decide +kernel
theorem d_B_init_16 : decode M_B_init.2.1 16 = .ok (.newarray .int, 2) := by decide +kernel
theorem d_B_init_18 : decode M_B_init.2.1 18 = .ok (.putfield 15, 3) := by decide +kernel
theorem d_B_init_21 : decode M_B_init.2.1 21 = .ok (.aload_n 0, 1) := by decide +kernel
theorem d_B_init_22 : decode M_B_init.2.1 22 = .ok (.bipush (125), 2) := by decide +kernel
theorem d_B_init_24 : decode M_B_init.2.1 24 = .ok (.newarray .long, 2) := by decide +kernel
theorem d_B_init_26 : decode M_B_init.2.1 26 = .ok (.putfield 18, 3) := by decide +kernel
theorem d_B_init_29 : decode M_B_init.2.1 29 = .ok (.return_, 1) := by decide +kernel
theorem d_B_coefficient_0 : decode M_B_coefficient.2.1 0 = .ok (.lload_n 3, 1) := by decide +kernel
theorem d_B_coefficient_1 : decode M_B_coefficient.2.1 1 = .ok (.ldc2_w 22, 3) := by decide +kernel
theorem d_B_coefficient_4 : decode M_B_coefficient.2.1 4 = .ok (.lcmp, 1) := by decide +kernel
theorem d_B_coefficient_5 : decode M_B_coefficient.2.1 5 = .ok (.ifCond .lt (11), 3) := by decide +kernel
theorem d_B_coefficient_8 : decode M_B_coefficient.2.1 8 = .ok (.lload_n 3, 1) := by decide +kernel
theorem d_B_coefficient_9 : decode M_B_coefficient.2.1 9 = .ok (.ldc2_w 24, 3) := by decide +kernel
theorem d_B_coefficient_12 : decode M_B_coefficient.2.1 12 = .ok (.lcmp, 1) := by decide +kernel
theorem d_B_coefficient_13 : decode M_B_coefficient.2.1 13 = .ok (.ifCond .le (5), 3) := by decide +kernel
theorem d_B_coefficient_16 : decode M_B_coefficient.2.1 16 = .ok (.lconst 0, 1) := by decide +kernel
theorem d_B_coefficient_17 : decode M_B_coefficient.2.1 17 = .ok (.lreturn, 1) := by decide +kernel
theorem d_B_coefficient_18 : decode M_B_coefficient.2.1 18 = .ok (.aload_n 0, 1) := by decide +kernel
theorem d_B_coefficient_19 : decode M_B_coefficient.2.1 19 = .ok (.aload_n 1, 1) := by decide +kernel
theorem d_B_coefficient_20 : decode M_B_coefficient.2.1 20 = .ok (.iload_n 2, 1) := by decide +kernel
theorem d_B_coefficient_21 : decode M_B_coefficient.2.1 21 = .ok (.invokevirtual 26, 3) := by decide +kernel
theorem d_B_coefficient_24 : decode M_B_coefficient.2.1 24 = .ok (.aload_n 0, 1) := by decide +kernel
theorem d_B_coefficient_25 : decode M_B_coefficient.2.1 25 = .ok (.getfield 18, 3) := by decide +kernel
theorem d_B_coefficient_28 : decode M_B_coefficient.2.1 28 = .ok (.lconst 0, 1) := by decide +kernel
theorem d_B_coefficient_29 : decode M_B_coefficient.2.1 29 = .ok (.invokestatic 30, 3) := by decide +kernel
theorem d_B_coefficient_32 : decode M_B_coefficient.2.1 32 = .ok (.bipush (28), 2) := by decide +kernel
theorem d_B_coefficient_34 : decode M_B_coefficient.2.1 34 = .ok (.istore 5, 2) := by decide +kernel
theorem d_B_coefficient_36 : decode M_B_coefficient.2.1 36 = .ok (.iload 5, 2) := by decide +kernel
theorem d_B_coefficient_38 : decode M_B_coefficient.2.1 38 = .ok (.iconst (1), 1) := by decide +kernel
theorem d_B_coefficient_39 : decode M_B_coefficient.2.1 39 = .ok (.if_icmp .lt (23), 3) := by decide +kernel
theorem d_B_coefficient_42 : decode M_B_coefficient.2.1 42 = .ok (.aload_n 0, 1) := by decide +kernel
theorem d_B_coefficient_43 : decode M_B_coefficient.2.1 43 = .ok (.invokevirtual 36, 3) := by decide +kernel
theorem d_B_coefficient_46 : decode M_B_coefficient.2.1 46 = .ok (.aload_n 0, 1) := by decide +kernel
theorem d_B_coefficient_47 : decode M_B_coefficient.2.1 47 = .ok (.iload 5, 2) := by decide +kernel
theorem d_B_coefficient_49 : decode M_B_coefficient.2.1 49 = .ok (.aload_n 1, 1) := by decide +kernel
theorem d_B_coefficient_50 : decode M_B_coefficient.2.1 50 = .ok (.invokevirtual 39, 3) := by decide +kernel
theorem d_B_coefficient_53 : decode M_B_coefficient.2.1 53 = .ok (.invokevirtual 45, 3) := by decide +kernel
theorem d_B_coefficient_56 : decode M_B_coefficient.2.1 56 = .ok (.iinc 5 (-1), 3) := by decide +kernel
theorem d_B_coefficient_59 : decode M_B_coefficient.2.1 59 = .ok (.goto (-23), 3) := by decide +kernel
theorem d_B_coefficient_62 : decode M_B_coefficient.2.1 62 = .ok (.aload_n 0, 1) := by decide +kernel
theorem d_B_coefficient_63 : decode M_B_coefficient.2.1 63 = .ok (.getfield 18, 3) := by decide +kernel
theorem d_B_coefficient_66 : decode M_B_coefficient.2.1 66 = .ok (.bipush (62), 2) := by decide +kernel
theorem d_B_coefficient_68 : decode M_B_coefficient.2.1 68 = .ok (.lload_n 3, 1) := by decide +kernel
theorem d_B_coefficient_69 : decode M_B_coefficient.2.1 69 = .ok (.l2i, 1) := by decide +kernel
theorem d_B_coefficient_70 : decode M_B_coefficient.2.1 70 = .ok (.iadd, 1) := by decide +kernel
theorem d_B_coefficient_71 : decode M_B_coefficient.2.1 71 = .ok (.laload, 1) := by decide +kernel
theorem d_B_coefficient_72 : decode M_B_coefficient.2.1 72 = .ok (.lreturn, 1) := by decide +kernel
theorem d_B_tallyStates_0 : decode M_B_tallyStates.2.1 0 = .ok (.aload_n 0, 1) := by decide +kernel
theorem d_B_tallyStates_1 : decode M_B_tallyStates.2.1 1 = .ok (.getfield 15, 3) := by decide +kernel
theorem d_B_tallyStates_4 : decode M_B_tallyStates.2.1 4 = .ok (.iconst (0), 1) := by decide +kernel
theorem d_B_tallyStates_5 : decode M_B_tallyStates.2.1 5 = .ok (.invokestatic 49, 3) := by decide +kernel
theorem d_B_tallyStates_8 : decode M_B_tallyStates.2.1 8 = .ok (.iconst (0), 1) := by decide +kernel
theorem d_B_tallyStates_9 : decode M_B_tallyStates.2.1 9 = .ok (.istore_n 3, 1) := by decide +kernel
theorem d_B_tallyStates_10 : decode M_B_tallyStates.2.1 10 = .ok (.iload_n 3, 1) := by decide +kernel
theorem d_B_tallyStates_11 : decode M_B_tallyStates.2.1 11 = .ok (.aload_n 1, 1) := by decide +kernel
theorem d_B_tallyStates_12 : decode M_B_tallyStates.2.1 12 = .ok (.invokevirtual 52, 3) := by decide +kernel
theorem d_B_tallyStates_15 : decode M_B_tallyStates.2.1 15 = .ok (.if_icmp .ge (20), 3) := by decide +kernel
theorem d_B_tallyStates_18 : decode M_B_tallyStates.2.1 18 = .ok (.aload_n 0, 1) := by decide +kernel
theorem d_B_tallyStates_19 : decode M_B_tallyStates.2.1 19 = .ok (.getfield 11, 3) := by decide +kernel
theorem d_B_tallyStates_22 : decode M_B_tallyStates.2.1 22 = .ok (.iload_n 3, 1) := by decide +kernel
theorem d_B_tallyStates_23 : decode M_B_tallyStates.2.1 23 = .ok (.aload_n 1, 1) := by decide +kernel
theorem d_B_tallyStates_24 : decode M_B_tallyStates.2.1 24 = .ok (.iload_n 3, 1) := by decide +kernel
theorem d_B_tallyStates_25 : decode M_B_tallyStates.2.1 25 = .ok (.invokevirtual 55, 3) := by decide +kernel
theorem d_B_tallyStates_28 : decode M_B_tallyStates.2.1 28 = .ok (.iastore, 1) := by decide +kernel
theorem d_B_tallyStates_29 : decode M_B_tallyStates.2.1 29 = .ok (.iinc 3 (1), 3) := by decide +kernel
theorem d_B_tallyStates_32 : decode M_B_tallyStates.2.1 32 = .ok (.goto (-22), 3) := by decide +kernel
theorem d_B_tallyStates_35 : decode M_B_tallyStates.2.1 35 = .ok (.iconst (0), 1) := by decide +kernel
theorem d_B_tallyStates_36 : decode M_B_tallyStates.2.1 36 = .ok (.istore_n 3, 1) := by decide +kernel
theorem d_B_tallyStates_37 : decode M_B_tallyStates.2.1 37 = .ok (.iload_n 3, 1) := by decide +kernel
theorem d_B_tallyStates_38 : decode M_B_tallyStates.2.1 38 = .ok (.iconst (1), 1) := by decide +kernel
theorem d_B_tallyStates_39 : decode M_B_tallyStates.2.1 39 = .ok (.aload_n 1, 1) := by decide +kernel
theorem d_B_tallyStates_40 : decode M_B_tallyStates.2.1 40 = .ok (.invokevirtual 39, 3) := by decide +kernel
theorem d_B_tallyStates_43 : decode M_B_tallyStates.2.1 43 = .ok (.ishl, 1) := by decide +kernel
theorem d_B_tallyStates_44 : decode M_B_tallyStates.2.1 44 = .ok (.if_icmp .ge (48), 3) := by decide +kernel
theorem d_B_tallyStates_47 : decode M_B_tallyStates.2.1 47 = .ok (.aload_n 0, 1) := by decide +kernel
theorem d_B_tallyStates_48 : decode M_B_tallyStates.2.1 48 = .ok (.iload_n 3, 1) := by decide +kernel
theorem d_B_tallyStates_49 : decode M_B_tallyStates.2.1 49 = .ok (.aload_n 1, 1) := by decide +kernel
theorem d_B_tallyStates_50 : decode M_B_tallyStates.2.1 50 = .ok (.invokevirtual 52, 3) := by decide +kernel
theorem d_B_tallyStates_53 : decode M_B_tallyStates.2.1 53 = .ok (.invokevirtual 59, 3) := by decide +kernel
theorem d_B_tallyStates_56 : decode M_B_tallyStates.2.1 56 = .ok (.iload_n 2, 1) := by decide +kernel
theorem d_B_tallyStates_57 : decode M_B_tallyStates.2.1 57 = .ok (.iadd, 1) := by decide +kernel
theorem d_B_tallyStates_58 : decode M_B_tallyStates.2.1 58 = .ok (.istore 4, 2) := by decide +kernel
theorem d_B_tallyStates_60 : decode M_B_tallyStates.2.1 60 = .ok (.iload 4, 2) := by decide +kernel
theorem d_B_tallyStates_62 : decode M_B_tallyStates.2.1 62 = .ok (.bipush (28), 2) := by decide +kernel
theorem d_B_tallyStates_64 : decode M_B_tallyStates.2.1 64 = .ok (.if_icmp .gt (22), 3) := by decide +kernel
theorem d_B_tallyStates_67 : decode M_B_tallyStates.2.1 67 = .ok (.aload_n 0, 1) := by decide +kernel
theorem d_B_tallyStates_68 : decode M_B_tallyStates.2.1 68 = .ok (.getfield 15, 3) := by decide +kernel
theorem d_B_tallyStates_71 : decode M_B_tallyStates.2.1 71 = .ok (.iload 4, 2) := by decide +kernel
theorem d_B_tallyStates_73 : decode M_B_tallyStates.2.1 73 = .ok (.bipush (9), 2) := by decide +kernel
theorem d_B_tallyStates_75 : decode M_B_tallyStates.2.1 75 = .ok (.imul, 1) := by decide +kernel
theorem d_B_tallyStates_76 : decode M_B_tallyStates.2.1 76 = .ok (.iload_n 3, 1) := by decide +kernel
theorem d_B_tallyStates_77 : decode M_B_tallyStates.2.1 77 = .ok (.invokestatic 63, 3) := by decide +kernel
theorem d_B_tallyStates_80 : decode M_B_tallyStates.2.1 80 = .ok (.iadd, 1) := by decide +kernel
theorem d_B_tallyStates_81 : decode M_B_tallyStates.2.1 81 = .ok (.dup2, 1) := by decide +kernel
theorem d_B_tallyStates_82 : decode M_B_tallyStates.2.1 82 = .ok (.iaload, 1) := by decide +kernel
theorem d_B_tallyStates_83 : decode M_B_tallyStates.2.1 83 = .ok (.iconst (1), 1) := by decide +kernel
theorem d_B_tallyStates_84 : decode M_B_tallyStates.2.1 84 = .ok (.iadd, 1) := by decide +kernel
theorem d_B_tallyStates_85 : decode M_B_tallyStates.2.1 85 = .ok (.iastore, 1) := by decide +kernel
theorem d_B_tallyStates_86 : decode M_B_tallyStates.2.1 86 = .ok (.iinc 3 (1), 3) := by decide +kernel
theorem d_B_tallyStates_89 : decode M_B_tallyStates.2.1 89 = .ok (.goto (-52), 3) := by decide +kernel
theorem d_B_tallyStates_92 : decode M_B_tallyStates.2.1 92 = .ok (.return_, 1) := by decide +kernel
theorem d_B_curvesOf_0 : decode M_B_curvesOf.2.1 0 = .ok (.iconst (0), 1) := by decide +kernel
theorem d_B_curvesOf_1 : decode M_B_curvesOf.2.1 1 = .ok (.istore_n 3, 1) := by decide +kernel
theorem d_B_curvesOf_2 : decode M_B_curvesOf.2.1 2 = .ok (.iconst (0), 1) := by decide +kernel
theorem d_B_curvesOf_3 : decode M_B_curvesOf.2.1 3 = .ok (.istore 4, 2) := by decide +kernel
theorem d_B_curvesOf_5 : decode M_B_curvesOf.2.1 5 = .ok (.iconst (0), 1) := by decide +kernel
theorem d_B_curvesOf_6 : decode M_B_curvesOf.2.1 6 = .ok (.istore 5, 2) := by decide +kernel
theorem d_B_curvesOf_8 : decode M_B_curvesOf.2.1 8 = .ok (.iload 5, 2) := by decide +kernel
theorem d_B_curvesOf_10 : decode M_B_curvesOf.2.1 10 = .ok (.iload_n 2, 1) := by decide +kernel
theorem d_B_curvesOf_11 : decode M_B_curvesOf.2.1 11 = .ok (.if_icmp .ge (33), 3) := by decide +kernel
theorem d_B_curvesOf_14 : decode M_B_curvesOf.2.1 14 = .ok (.iload 4, 2) := by decide +kernel
theorem d_B_curvesOf_16 : decode M_B_curvesOf.2.1 16 = .ok (.iload 5, 2) := by decide +kernel
theorem d_B_curvesOf_18 : decode M_B_curvesOf.2.1 18 = .ok (.ishr, 1) := by decide +kernel
theorem d_B_curvesOf_19 : decode M_B_curvesOf.2.1 19 = .ok (.iconst (1), 1) := by decide +kernel
theorem d_B_curvesOf_20 : decode M_B_curvesOf.2.1 20 = .ok (.iand, 1) := by decide +kernel
theorem d_B_curvesOf_21 : decode M_B_curvesOf.2.1 21 = .ok (.ifCond .ne (17), 3) := by decide +kernel
theorem d_B_curvesOf_24 : decode M_B_curvesOf.2.1 24 = .ok (.iinc 3 (1), 3) := by decide +kernel
theorem d_B_curvesOf_27 : decode M_B_curvesOf.2.1 27 = .ok (.aload_n 0, 1) := by decide +kernel
theorem d_B_curvesOf_28 : decode M_B_curvesOf.2.1 28 = .ok (.iload 4, 2) := by decide +kernel
theorem d_B_curvesOf_30 : decode M_B_curvesOf.2.1 30 = .ok (.iload 5, 2) := by decide +kernel
theorem d_B_curvesOf_32 : decode M_B_curvesOf.2.1 32 = .ok (.iload_n 1, 1) := by decide +kernel
theorem d_B_curvesOf_33 : decode M_B_curvesOf.2.1 33 = .ok (.invokevirtual 68, 3) := by decide +kernel
theorem d_B_curvesOf_36 : decode M_B_curvesOf.2.1 36 = .ok (.istore 4, 2) := by decide +kernel
theorem d_B_curvesOf_38 : decode M_B_curvesOf.2.1 38 = .ok (.iinc 5 (1), 3) := by decide +kernel
theorem d_B_curvesOf_41 : decode M_B_curvesOf.2.1 41 = .ok (.goto (-33), 3) := by decide +kernel
theorem d_B_curvesOf_44 : decode M_B_curvesOf.2.1 44 = .ok (.iload_n 3, 1) := by decide +kernel
theorem d_B_curvesOf_45 : decode M_B_curvesOf.2.1 45 = .ok (.ireturn, 1) := by decide +kernel
theorem d_B_seenWithCurve_0 : decode M_B_seenWithCurve.2.1 0 = .ok (.iload_n 1, 1) := by decide +kernel
theorem d_B_seenWithCurve_1 : decode M_B_seenWithCurve.2.1 1 = .ok (.istore 4, 2) := by decide +kernel
theorem d_B_seenWithCurve_3 : decode M_B_seenWithCurve.2.1 3 = .ok (.iload_n 2, 1) := by decide +kernel
theorem d_B_seenWithCurve_4 : decode M_B_seenWithCurve.2.1 4 = .ok (.istore 5, 2) := by decide +kernel
theorem d_B_seenWithCurve_6 : decode M_B_seenWithCurve.2.1 6 = .ok (.iconst (0), 1) := by decide +kernel
theorem d_B_seenWithCurve_7 : decode M_B_seenWithCurve.2.1 7 = .ok (.istore 6, 2) := by decide +kernel
theorem d_B_seenWithCurve_9 : decode M_B_seenWithCurve.2.1 9 = .ok (.iload 6, 2) := by decide +kernel
theorem d_B_seenWithCurve_11 : decode M_B_seenWithCurve.2.1 11 = .ok (.bipush (32), 2) := by decide +kernel
theorem d_B_seenWithCurve_13 : decode M_B_seenWithCurve.2.1 13 = .ok (.if_icmp .ge (80), 3) := by decide +kernel
theorem d_B_seenWithCurve_16 : decode M_B_seenWithCurve.2.1 16 = .ok (.iload 4, 2) := by decide +kernel
theorem d_B_seenWithCurve_18 : decode M_B_seenWithCurve.2.1 18 = .ok (.iload 5, 2) := by decide +kernel
theorem d_B_seenWithCurve_20 : decode M_B_seenWithCurve.2.1 20 = .ok (.ishr, 1) := by decide +kernel
theorem d_B_seenWithCurve_21 : decode M_B_seenWithCurve.2.1 21 = .ok (.iconst (1), 1) := by decide +kernel
theorem d_B_seenWithCurve_22 : decode M_B_seenWithCurve.2.1 22 = .ok (.iand, 1) := by decide +kernel
theorem d_B_seenWithCurve_23 : decode M_B_seenWithCurve.2.1 23 = .ok (.ifCond .ne (70), 3) := by decide +kernel
theorem d_B_seenWithCurve_26 : decode M_B_seenWithCurve.2.1 26 = .ok (.aload_n 0, 1) := by decide +kernel
theorem d_B_seenWithCurve_27 : decode M_B_seenWithCurve.2.1 27 = .ok (.getfield 11, 3) := by decide +kernel
theorem d_B_seenWithCurve_30 : decode M_B_seenWithCurve.2.1 30 = .ok (.iload 5, 2) := by decide +kernel
theorem d_B_seenWithCurve_32 : decode M_B_seenWithCurve.2.1 32 = .ok (.iaload, 1) := by decide +kernel
theorem d_B_seenWithCurve_33 : decode M_B_seenWithCurve.2.1 33 = .ok (.istore 7, 2) := by decide +kernel
theorem d_B_seenWithCurve_35 : decode M_B_seenWithCurve.2.1 35 = .ok (.iload 4, 2) := by decide +kernel
theorem d_B_seenWithCurve_37 : decode M_B_seenWithCurve.2.1 37 = .ok (.iconst (1), 1) := by decide +kernel
theorem d_B_seenWithCurve_38 : decode M_B_seenWithCurve.2.1 38 = .ok (.iload 5, 2) := by decide +kernel
theorem d_B_seenWithCurve_40 : decode M_B_seenWithCurve.2.1 40 = .ok (.ishl, 1) := by decide +kernel
theorem d_B_seenWithCurve_41 : decode M_B_seenWithCurve.2.1 41 = .ok (.iconst (1), 1) := by decide +kernel
theorem d_B_seenWithCurve_42 : decode M_B_seenWithCurve.2.1 42 = .ok (.iload 7, 2) := by decide +kernel
theorem d_B_seenWithCurve_44 : decode M_B_seenWithCurve.2.1 44 = .ok (.ishl, 1) := by decide +kernel
theorem d_B_seenWithCurve_45 : decode M_B_seenWithCurve.2.1 45 = .ok (.ior, 1) := by decide +kernel
theorem d_B_seenWithCurve_46 : decode M_B_seenWithCurve.2.1 46 = .ok (.ior, 1) := by decide +kernel
theorem d_B_seenWithCurve_47 : decode M_B_seenWithCurve.2.1 47 = .ok (.istore 4, 2) := by decide +kernel
theorem d_B_seenWithCurve_49 : decode M_B_seenWithCurve.2.1 49 = .ok (.iload_n 3, 1) := by decide +kernel
theorem d_B_seenWithCurve_50 : decode M_B_seenWithCurve.2.1 50 = .ok (.iload 7, 2) := by decide +kernel
theorem d_B_seenWithCurve_52 : decode M_B_seenWithCurve.2.1 52 = .ok (.invokestatic 72, 3) := by decide +kernel
theorem d_B_seenWithCurve_55 : decode M_B_seenWithCurve.2.1 55 = .ok (.ishr, 1) := by decide +kernel
theorem d_B_seenWithCurve_56 : decode M_B_seenWithCurve.2.1 56 = .ok (.iconst (1), 1) := by decide +kernel
theorem d_B_seenWithCurve_57 : decode M_B_seenWithCurve.2.1 57 = .ok (.iand, 1) := by decide +kernel
theorem d_B_seenWithCurve_58 : decode M_B_seenWithCurve.2.1 58 = .ok (.iconst (1), 1) := by decide +kernel
theorem d_B_seenWithCurve_59 : decode M_B_seenWithCurve.2.1 59 = .ok (.if_icmp .ne (7), 3) := by decide +kernel
theorem d_B_seenWithCurve_62 : decode M_B_seenWithCurve.2.1 62 = .ok (.iconst (1), 1) := by decide +kernel
theorem d_B_seenWithCurve_63 : decode M_B_seenWithCurve.2.1 63 = .ok (.goto (4), 3) := by decide +kernel
theorem d_B_seenWithCurve_66 : decode M_B_seenWithCurve.2.1 66 = .ok (.iconst (0), 1) := by decide +kernel
theorem d_B_seenWithCurve_67 : decode M_B_seenWithCurve.2.1 67 = .ok (.istore 8, 2) := by decide +kernel
theorem d_B_seenWithCurve_69 : decode M_B_seenWithCurve.2.1 69 = .ok (.iload 8, 2) := by decide +kernel
theorem d_B_seenWithCurve_71 : decode M_B_seenWithCurve.2.1 71 = .ok (.ifCond .eq (10), 3) := by decide +kernel
theorem d_B_seenWithCurve_74 : decode M_B_seenWithCurve.2.1 74 = .ok (.iload 7, 2) := by decide +kernel
theorem d_B_seenWithCurve_76 : decode M_B_seenWithCurve.2.1 76 = .ok (.iconst (1), 1) := by decide +kernel
theorem d_B_seenWithCurve_77 : decode M_B_seenWithCurve.2.1 77 = .ok (.ixor, 1) := by decide +kernel
theorem d_B_seenWithCurve_78 : decode M_B_seenWithCurve.2.1 78 = .ok (.goto (7), 3) := by decide +kernel
theorem d_B_seenWithCurve_81 : decode M_B_seenWithCurve.2.1 81 = .ok (.iload 7, 2) := by decide +kernel
theorem d_B_seenWithCurve_83 : decode M_B_seenWithCurve.2.1 83 = .ok (.iconst (3), 1) := by decide +kernel
theorem d_B_seenWithCurve_84 : decode M_B_seenWithCurve.2.1 84 = .ok (.ixor, 1) := by decide +kernel
theorem d_B_seenWithCurve_85 : decode M_B_seenWithCurve.2.1 85 = .ok (.istore 5, 2) := by decide +kernel
theorem d_B_seenWithCurve_87 : decode M_B_seenWithCurve.2.1 87 = .ok (.iinc 6 (1), 3) := by decide +kernel
theorem d_B_seenWithCurve_90 : decode M_B_seenWithCurve.2.1 90 = .ok (.goto (-81), 3) := by decide +kernel
theorem d_B_seenWithCurve_93 : decode M_B_seenWithCurve.2.1 93 = .ok (.iload 4, 2) := by decide +kernel
theorem d_B_seenWithCurve_95 : decode M_B_seenWithCurve.2.1 95 = .ok (.ireturn, 1) := by decide +kernel
theorem d_B_multiplyByCurve_0 : decode M_B_multiplyByCurve.2.1 0 = .ok (.lconst 0, 1) := by decide +kernel
theorem d_B_multiplyByCurve_1 : decode M_B_multiplyByCurve.2.1 1 = .ok (.lstore_n 1, 1) := by decide +kernel
theorem d_B_multiplyByCurve_2 : decode M_B_multiplyByCurve.2.1 2 = .ok (.lconst 0, 1) := by decide +kernel
theorem d_B_multiplyByCurve_3 : decode M_B_multiplyByCurve.2.1 3 = .ok (.lstore_n 3, 1) := by decide +kernel
theorem d_B_multiplyByCurve_4 : decode M_B_multiplyByCurve.2.1 4 = .ok (.iconst (0), 1) := by decide +kernel
theorem d_B_multiplyByCurve_5 : decode M_B_multiplyByCurve.2.1 5 = .ok (.istore 5, 2) := by decide +kernel
theorem d_B_multiplyByCurve_7 : decode M_B_multiplyByCurve.2.1 7 = .ok (.iload 5, 2) := by decide +kernel
theorem d_B_multiplyByCurve_9 : decode M_B_multiplyByCurve.2.1 9 = .ok (.aload_n 0, 1) := by decide +kernel
theorem d_B_multiplyByCurve_10 : decode M_B_multiplyByCurve.2.1 10 = .ok (.getfield 18, 3) := by decide +kernel
theorem d_B_multiplyByCurve_13 : decode M_B_multiplyByCurve.2.1 13 = .ok (.arraylength, 1) := by decide +kernel
theorem d_B_multiplyByCurve_14 : decode M_B_multiplyByCurve.2.1 14 = .ok (.if_icmp .ge (62), 3) := by decide +kernel
theorem d_B_multiplyByCurve_17 : decode M_B_multiplyByCurve.2.1 17 = .ok (.aload_n 0, 1) := by decide +kernel
theorem d_B_multiplyByCurve_18 : decode M_B_multiplyByCurve.2.1 18 = .ok (.getfield 18, 3) := by decide +kernel
theorem d_B_multiplyByCurve_21 : decode M_B_multiplyByCurve.2.1 21 = .ok (.iload 5, 2) := by decide +kernel
theorem d_B_multiplyByCurve_23 : decode M_B_multiplyByCurve.2.1 23 = .ok (.laload, 1) := by decide +kernel
theorem d_B_multiplyByCurve_24 : decode M_B_multiplyByCurve.2.1 24 = .ok (.lstore 6, 2) := by decide +kernel
theorem d_B_multiplyByCurve_26 : decode M_B_multiplyByCurve.2.1 26 = .ok (.iload 5, 2) := by decide +kernel
theorem d_B_multiplyByCurve_28 : decode M_B_multiplyByCurve.2.1 28 = .ok (.iconst (2), 1) := by decide +kernel
theorem d_B_multiplyByCurve_29 : decode M_B_multiplyByCurve.2.1 29 = .ok (.iadd, 1) := by decide +kernel
theorem d_B_multiplyByCurve_30 : decode M_B_multiplyByCurve.2.1 30 = .ok (.aload_n 0, 1) := by decide +kernel
theorem d_B_multiplyByCurve_31 : decode M_B_multiplyByCurve.2.1 31 = .ok (.getfield 18, 3) := by decide +kernel
theorem d_B_multiplyByCurve_34 : decode M_B_multiplyByCurve.2.1 34 = .ok (.arraylength, 1) := by decide +kernel
theorem d_B_multiplyByCurve_35 : decode M_B_multiplyByCurve.2.1 35 = .ok (.if_icmp .ge (15), 3) := by decide +kernel
theorem d_B_multiplyByCurve_38 : decode M_B_multiplyByCurve.2.1 38 = .ok (.aload_n 0, 1) := by decide +kernel
theorem d_B_multiplyByCurve_39 : decode M_B_multiplyByCurve.2.1 39 = .ok (.getfield 18, 3) := by decide +kernel
theorem d_B_multiplyByCurve_42 : decode M_B_multiplyByCurve.2.1 42 = .ok (.iload 5, 2) := by decide +kernel
theorem d_B_multiplyByCurve_44 : decode M_B_multiplyByCurve.2.1 44 = .ok (.iconst (2), 1) := by decide +kernel
theorem d_B_multiplyByCurve_45 : decode M_B_multiplyByCurve.2.1 45 = .ok (.iadd, 1) := by decide +kernel
theorem d_B_multiplyByCurve_46 : decode M_B_multiplyByCurve.2.1 46 = .ok (.laload, 1) := by decide +kernel
theorem d_B_multiplyByCurve_47 : decode M_B_multiplyByCurve.2.1 47 = .ok (.goto (4), 3) := by decide +kernel
theorem d_B_multiplyByCurve_50 : decode M_B_multiplyByCurve.2.1 50 = .ok (.lconst 0, 1) := by decide +kernel
theorem d_B_multiplyByCurve_51 : decode M_B_multiplyByCurve.2.1 51 = .ok (.lstore 8, 2) := by decide +kernel
theorem d_B_multiplyByCurve_53 : decode M_B_multiplyByCurve.2.1 53 = .ok (.aload_n 0, 1) := by decide +kernel
theorem d_B_multiplyByCurve_54 : decode M_B_multiplyByCurve.2.1 54 = .ok (.getfield 18, 3) := by decide +kernel
theorem d_B_multiplyByCurve_57 : decode M_B_multiplyByCurve.2.1 57 = .ok (.iload 5, 2) := by decide +kernel
theorem d_B_multiplyByCurve_59 : decode M_B_multiplyByCurve.2.1 59 = .ok (.lload_n 1, 1) := by decide +kernel
theorem d_B_multiplyByCurve_60 : decode M_B_multiplyByCurve.2.1 60 = .ok (.lneg, 1) := by decide +kernel
theorem d_B_multiplyByCurve_61 : decode M_B_multiplyByCurve.2.1 61 = .ok (.lload 8, 2) := by decide +kernel
theorem d_B_multiplyByCurve_63 : decode M_B_multiplyByCurve.2.1 63 = .ok (.lsub, 1) := by decide +kernel
theorem d_B_multiplyByCurve_64 : decode M_B_multiplyByCurve.2.1 64 = .ok (.lastore, 1) := by decide +kernel
theorem d_B_multiplyByCurve_65 : decode M_B_multiplyByCurve.2.1 65 = .ok (.lload_n 3, 1) := by decide +kernel
theorem d_B_multiplyByCurve_66 : decode M_B_multiplyByCurve.2.1 66 = .ok (.lstore_n 1, 1) := by decide +kernel
theorem d_B_multiplyByCurve_67 : decode M_B_multiplyByCurve.2.1 67 = .ok (.lload 6, 2) := by decide +kernel
theorem d_B_multiplyByCurve_69 : decode M_B_multiplyByCurve.2.1 69 = .ok (.lstore_n 3, 1) := by decide +kernel
theorem d_B_multiplyByCurve_70 : decode M_B_multiplyByCurve.2.1 70 = .ok (.iinc 5 (1), 3) := by decide +kernel
theorem d_B_multiplyByCurve_73 : decode M_B_multiplyByCurve.2.1 73 = .ok (.goto (-66), 3) := by decide +kernel
theorem d_B_multiplyByCurve_76 : decode M_B_multiplyByCurve.2.1 76 = .ok (.return_, 1) := by decide +kernel
theorem d_B_addStates_0 : decode M_B_addStates.2.1 0 = .ok (.iconst (0), 1) := by decide +kernel
theorem d_B_addStates_1 : decode M_B_addStates.2.1 1 = .ok (.istore_n 3, 1) := by decide +kernel
theorem d_B_addStates_2 : decode M_B_addStates.2.1 2 = .ok (.iload_n 3, 1) := by decide +kernel
theorem d_B_addStates_3 : decode M_B_addStates.2.1 3 = .ok (.iload_n 2, 1) := by decide +kernel
theorem d_B_addStates_4 : decode M_B_addStates.2.1 4 = .ok (.if_icmp .gt (37), 3) := by decide +kernel
theorem d_B_addStates_7 : decode M_B_addStates.2.1 7 = .ok (.aload_n 0, 1) := by decide +kernel
theorem d_B_addStates_8 : decode M_B_addStates.2.1 8 = .ok (.getfield 18, 3) := by decide +kernel
theorem d_B_addStates_11 : decode M_B_addStates.2.1 11 = .ok (.bipush (62), 2) := by decide +kernel
theorem d_B_addStates_13 : decode M_B_addStates.2.1 13 = .ok (.iconst (2), 1) := by decide +kernel
theorem d_B_addStates_14 : decode M_B_addStates.2.1 14 = .ok (.iload_n 3, 1) := by decide +kernel
theorem d_B_addStates_15 : decode M_B_addStates.2.1 15 = .ok (.imul, 1) := by decide +kernel
theorem d_B_addStates_16 : decode M_B_addStates.2.1 16 = .ok (.iadd, 1) := by decide +kernel
theorem d_B_addStates_17 : decode M_B_addStates.2.1 17 = .ok (.iload_n 2, 1) := by decide +kernel
theorem d_B_addStates_18 : decode M_B_addStates.2.1 18 = .ok (.isub, 1) := by decide +kernel
theorem d_B_addStates_19 : decode M_B_addStates.2.1 19 = .ok (.dup2, 1) := by decide +kernel
theorem d_B_addStates_20 : decode M_B_addStates.2.1 20 = .ok (.laload, 1) := by decide +kernel
theorem d_B_addStates_21 : decode M_B_addStates.2.1 21 = .ok (.aload_n 0, 1) := by decide +kernel
theorem d_B_addStates_22 : decode M_B_addStates.2.1 22 = .ok (.getfield 15, 3) := by decide +kernel
theorem d_B_addStates_25 : decode M_B_addStates.2.1 25 = .ok (.iload_n 1, 1) := by decide +kernel
theorem d_B_addStates_26 : decode M_B_addStates.2.1 26 = .ok (.bipush (9), 2) := by decide +kernel
theorem d_B_addStates_28 : decode M_B_addStates.2.1 28 = .ok (.imul, 1) := by decide +kernel
theorem d_B_addStates_29 : decode M_B_addStates.2.1 29 = .ok (.iload_n 3, 1) := by decide +kernel
theorem d_B_addStates_30 : decode M_B_addStates.2.1 30 = .ok (.iadd, 1) := by decide +kernel
theorem d_B_addStates_31 : decode M_B_addStates.2.1 31 = .ok (.iaload, 1) := by decide +kernel
theorem d_B_addStates_32 : decode M_B_addStates.2.1 32 = .ok (.i2l, 1) := by decide +kernel
theorem d_B_addStates_33 : decode M_B_addStates.2.1 33 = .ok (.ladd, 1) := by decide +kernel
theorem d_B_addStates_34 : decode M_B_addStates.2.1 34 = .ok (.lastore, 1) := by decide +kernel
theorem d_B_addStates_35 : decode M_B_addStates.2.1 35 = .ok (.iinc 3 (1), 3) := by decide +kernel
theorem d_B_addStates_38 : decode M_B_addStates.2.1 38 = .ok (.goto (-36), 3) := by decide +kernel
theorem d_B_addStates_41 : decode M_B_addStates.2.1 41 = .ok (.return_, 1) := by decide +kernel
end
section
theorem d_A_init_0 : decode M_A_init.2.1 0 = .ok (.aload_n 0, 1) := by decide +kernel
theorem d_A_init_1 : decode M_A_init.2.1 1 = .ok (.invokespecial 1, 3) := by decide +kernel
theorem d_A_init_4 : decode M_A_init.2.1 4 = .ok (.aload_n 0, 1) := by decide +kernel
theorem d_A_init_5 : decode M_A_init.2.1 5 = .ok (.new 7, 3) := by decide +kernel
theorem d_A_init_8 : decode M_A_init.2.1 8 = .ok (.dup, 1) := by decide +kernel
theorem d_A_init_9 : decode M_A_init.2.1 9 = .ok (.invokespecial 9, 3) := by decide +kernel
theorem d_A_init_12 : decode M_A_init.2.1 12 = .ok (.putfield 10, 3) := by decide +kernel
theorem d_A_init_15 : decode M_A_init.2.1 15 = .ok (.aload_n 0, 1) := by decide +kernel
theorem d_A_init_16 : decode M_A_init.2.1 16 = .ok (.new 7, 3) := by decide +kernel
theorem d_A_init_19 : decode M_A_init.2.1 19 = .ok (.dup, 1) := by decide +kernel
theorem d_A_init_20 : decode M_A_init.2.1 20 = .ok (.invokespecial 9, 3) := by decide +kernel
theorem d_A_init_23 : decode M_A_init.2.1 23 = .ok (.putfield 16, 3) := by decide +kernel
theorem d_A_init_26 : decode M_A_init.2.1 26 = .ok (.aload_n 0, 1) := by decide +kernel
theorem d_A_init_27 : decode M_A_init.2.1 27 = .ok (.new 7, 3) := by decide +kernel
theorem d_A_init_30 : decode M_A_init.2.1 30 = .ok (.dup, 1) := by decide +kernel
theorem d_A_init_31 : decode M_A_init.2.1 31 = .ok (.invokespecial 9, 3) := by decide +kernel
theorem d_A_init_34 : decode M_A_init.2.1 34 = .ok (.putfield 19, 3) := by decide +kernel
theorem d_A_init_37 : decode M_A_init.2.1 37 = .ok (.aload_n 0, 1) := by decide +kernel
theorem d_A_init_38 : decode M_A_init.2.1 38 = .ok (.new 22, 3) := by decide +kernel
theorem d_A_init_41 : decode M_A_init.2.1 41 = .ok (.dup, 1) := by decide +kernel
theorem d_A_init_42 : decode M_A_init.2.1 42 = .ok (.invokespecial 24, 3) := by decide +kernel
theorem d_A_init_45 : decode M_A_init.2.1 45 = .ok (.putfield 25, 3) := by decide +kernel
theorem d_A_init_48 : decode M_A_init.2.1 48 = .ok (.aload_n 0, 1) := by decide +kernel
theorem d_A_init_49 : decode M_A_init.2.1 49 = .ok (.new 29, 3) := by decide +kernel
theorem d_A_init_52 : decode M_A_init.2.1 52 = .ok (.dup, 1) := by decide +kernel
theorem d_A_init_53 : decode M_A_init.2.1 53 = .ok (.invokespecial 31, 3) := by decide +kernel
theorem d_A_init_56 : decode M_A_init.2.1 56 = .ok (.putfield 32, 3) := by decide +kernel
theorem d_A_init_59 : decode M_A_init.2.1 59 = .ok (.aload_n 0, 1) := by decide +kernel
theorem d_A_init_60 : decode M_A_init.2.1 60 = .ok (.new 36, 3) := by decide +kernel
theorem d_A_init_63 : decode M_A_init.2.1 63 = .ok (.dup, 1) := by decide +kernel
theorem d_A_init_64 : decode M_A_init.2.1 64 = .ok (.invokespecial 38, 3) := by decide +kernel
theorem d_A_init_67 : decode M_A_init.2.1 67 = .ok (.putfield 39, 3) := by decide +kernel
theorem d_A_init_70 : decode M_A_init.2.1 70 = .ok (.aload_n 0, 1) := by decide +kernel
theorem d_A_init_71 : decode M_A_init.2.1 71 = .ok (.bipush (8), 2) := by decide +kernel
theorem d_A_init_73 : decode M_A_init.2.1 73 = .ok (.newarray .int, 2) := by decide +kernel
theorem d_A_init_75 : decode M_A_init.2.1 75 = .ok (.putfield 43, 3) := by decide +kernel
theorem d_A_init_78 : decode M_A_init.2.1 78 = .ok (.aload_n 0, 1) := by decide +kernel
theorem d_A_init_79 : decode M_A_init.2.1 79 = .ok (.iconst (5), 1) := by decide +kernel
theorem d_A_init_80 : decode M_A_init.2.1 80 = .ok (.newarray .int, 2) := by decide +kernel
theorem d_A_init_82 : decode M_A_init.2.1 82 = .ok (.putfield 47, 3) := by decide +kernel
theorem d_A_init_85 : decode M_A_init.2.1 85 = .ok (.aload_n 0, 1) := by decide +kernel
theorem d_A_init_86 : decode M_A_init.2.1 86 = .ok (.iconst (0), 1) := by decide +kernel
theorem d_A_init_87 : decode M_A_init.2.1 87 = .ok (.putfield 50, 3) := by decide +kernel
theorem d_A_init_90 : decode M_A_init.2.1 90 = .ok (.aload_n 0, 1) := by decide +kernel
theorem d_A_init_91 : decode M_A_init.2.1 91 = .ok (.iconst (1), 1) := by decide +kernel
theorem d_A_init_92 : decode M_A_init.2.1 92 = .ok (.putfield 54, 3) := by decide +kernel
theorem d_A_init_95 : decode M_A_init.2.1 95 = .ok (.return_, 1) := by decide +kernel
theorem d_A_cross_0 : decode M_A_cross.2.1 0 = .ok (.aload_n 0, 1) := by decide +kernel
theorem d_A_cross_1 : decode M_A_cross.2.1 1 = .ok (.getfield 10, 3) := by decide +kernel
theorem d_A_cross_4 : decode M_A_cross.2.1 4 = .ok (.invokevirtual 57, 3) := by decide +kernel
theorem d_A_cross_7 : decode M_A_cross.2.1 7 = .ok (.ifCond .ne (32), 3) := by decide +kernel
theorem d_A_cross_10 : decode M_A_cross.2.1 10 = .ok (.iload_n 1, 1) := by decide +kernel
theorem d_A_cross_11 : decode M_A_cross.2.1 11 = .ok (.invokestatic 61, 3) := by decide +kernel
theorem d_A_cross_14 : decode M_A_cross.2.1 14 = .ok (.ifCond .eq (25), 3) := by decide +kernel
theorem d_A_cross_17 : decode M_A_cross.2.1 17 = .ok (.iload_n 2, 1) := by decide +kernel
theorem d_A_cross_18 : decode M_A_cross.2.1 18 = .ok (.invokestatic 61, 3) := by decide +kernel
theorem d_A_cross_21 : decode M_A_cross.2.1 21 = .ok (.ifCond .eq (18), 3) := by decide +kernel
theorem d_A_cross_24 : decode M_A_cross.2.1 24 = .ok (.iload_n 3, 1) := by decide +kernel
theorem d_A_cross_25 : decode M_A_cross.2.1 25 = .ok (.invokestatic 61, 3) := by decide +kernel
theorem d_A_cross_28 : decode M_A_cross.2.1 28 = .ok (.ifCond .eq (11), 3) := by decide +kernel
theorem d_A_cross_31 : decode M_A_cross.2.1 31 = .ok (.iload 4, 2) := by decide +kernel
theorem d_A_cross_33 : decode M_A_cross.2.1 33 = .ok (.invokestatic 61, 3) := by decide +kernel
theorem d_A_cross_36 : decode M_A_cross.2.1 36 = .ok (.ifCond .ne (5), 3) := by decide +kernel
theorem d_A_cross_39 : decode M_A_cross.2.1 39 = .ok (.iconst (0), 1) := by decide +kernel
theorem d_A_cross_40 : decode M_A_cross.2.1 40 = .ok (.ireturn, 1) := by decide +kernel
theorem d_A_cross_41 : decode M_A_cross.2.1 41 = .ok (.aload_n 0, 1) := by decide +kernel
theorem d_A_cross_42 : decode M_A_cross.2.1 42 = .ok (.getfield 10, 3) := by decide +kernel
theorem d_A_cross_45 : decode M_A_cross.2.1 45 = .ok (.iload_n 1, 1) := by decide +kernel
theorem d_A_cross_46 : decode M_A_cross.2.1 46 = .ok (.iload_n 2, 1) := by decide +kernel
theorem d_A_cross_47 : decode M_A_cross.2.1 47 = .ok (.iload_n 3, 1) := by decide +kernel
theorem d_A_cross_48 : decode M_A_cross.2.1 48 = .ok (.iload 4, 2) := by decide +kernel
theorem d_A_cross_50 : decode M_A_cross.2.1 50 = .ok (.iload 5, 2) := by decide +kernel
theorem d_A_cross_52 : decode M_A_cross.2.1 52 = .ok (.invokevirtual 65, 3) := by decide +kernel
theorem d_A_cross_55 : decode M_A_cross.2.1 55 = .ok (.iconst (1), 1) := by decide +kernel
theorem d_A_cross_56 : decode M_A_cross.2.1 56 = .ok (.ireturn, 1) := by decide +kernel
theorem d_A_drop_0 : decode M_A_drop.2.1 0 = .ok (.aload_n 0, 1) := by decide +kernel
theorem d_A_drop_1 : decode M_A_drop.2.1 1 = .ok (.getfield 10, 3) := by decide +kernel
theorem d_A_drop_4 : decode M_A_drop.2.1 4 = .ok (.aload_n 0, 1) := by decide +kernel
theorem d_A_drop_5 : decode M_A_drop.2.1 5 = .ok (.getfield 10, 3) := by decide +kernel
theorem d_A_drop_8 : decode M_A_drop.2.1 8 = .ok (.invokevirtual 69, 3) := by decide +kernel
theorem d_A_drop_11 : decode M_A_drop.2.1 11 = .ok (.iconst (1), 1) := by decide +kernel
theorem d_A_drop_12 : decode M_A_drop.2.1 12 = .ok (.isub, 1) := by decide +kernel
theorem d_A_drop_13 : decode M_A_drop.2.1 13 = .ok (.invokevirtual 73, 3) := by decide +kernel
theorem d_A_drop_16 : decode M_A_drop.2.1 16 = .ok (.aload_n 0, 1) := by decide +kernel
theorem d_A_drop_17 : decode M_A_drop.2.1 17 = .ok (.getfield 10, 3) := by decide +kernel
theorem d_A_drop_20 : decode M_A_drop.2.1 20 = .ok (.invokevirtual 69, 3) := by decide +kernel
theorem d_A_drop_23 : decode M_A_drop.2.1 23 = .ok (.ireturn, 1) := by decide +kernel
theorem d_A_take_0 : decode M_A_take.2.1 0 = .ok (.iload_n 1, 1) := by decide +kernel
theorem d_A_take_1 : decode M_A_take.2.1 1 = .ok (.ifCond .lt (22), 3) := by decide +kernel
theorem d_A_take_4 : decode M_A_take.2.1 4 = .ok (.iload_n 1, 1) := by decide +kernel
theorem d_A_take_5 : decode M_A_take.2.1 5 = .ok (.iconst (4), 1) := by decide +kernel
theorem d_A_take_6 : decode M_A_take.2.1 6 = .ok (.if_icmp .gt (17), 3) := by decide +kernel
theorem d_A_take_9 : decode M_A_take.2.1 9 = .ok (.iload_n 1, 1) := by decide +kernel
theorem d_A_take_10 : decode M_A_take.2.1 10 = .ok (.ifCond .ne (15), 3) := by decide +kernel
theorem d_A_take_13 : decode M_A_take.2.1 13 = .ok (.aload_n 0, 1) := by decide +kernel
theorem d_A_take_14 : decode M_A_take.2.1 14 = .ok (.getfield 10, 3) := by decide +kernel
theorem d_A_take_17 : decode M_A_take.2.1 17 = .ok (.invokevirtual 69, 3) := by decide +kernel
theorem d_A_take_20 : decode M_A_take.2.1 20 = .ok (.ifCond .ne (5), 3) := by decide +kernel
theorem d_A_take_23 : decode M_A_take.2.1 23 = .ok (.iconst (1), 1) := by decide +kernel
theorem d_A_take_24 : decode M_A_take.2.1 24 = .ok (.ireturn, 1) := by decide +kernel
theorem d_A_take_25 : decode M_A_take.2.1 25 = .ok (.aload_n 0, 1) := by decide +kernel
theorem d_A_take_26 : decode M_A_take.2.1 26 = .ok (.getfield 25, 3) := by decide +kernel
theorem d_A_take_29 : decode M_A_take.2.1 29 = .ok (.aload_n 0, 1) := by decide +kernel
theorem d_A_take_30 : decode M_A_take.2.1 30 = .ok (.getfield 10, 3) := by decide +kernel
theorem d_A_take_33 : decode M_A_take.2.1 33 = .ok (.invokevirtual 77, 3) := by decide +kernel
theorem d_A_take_36 : decode M_A_take.2.1 36 = .ok (.ifCond .ne (5), 3) := by decide +kernel
theorem d_A_take_39 : decode M_A_take.2.1 39 = .ok (.iconst (2), 1) := by decide +kernel
theorem d_A_take_40 : decode M_A_take.2.1 40 = .ok (.ireturn, 1) := by decide +kernel
theorem d_A_take_41 : decode M_A_take.2.1 41 = .ok (.aload_n 0, 1) := by decide +kernel
theorem d_A_take_42 : decode M_A_take.2.1 42 = .ok (.getfield 25, 3) := by decide +kernel
theorem d_A_take_45 : decode M_A_take.2.1 45 = .ok (.aload_n 0, 1) := by decide +kernel
theorem d_A_take_46 : decode M_A_take.2.1 46 = .ok (.getfield 10, 3) := by decide +kernel
theorem d_A_take_49 : decode M_A_take.2.1 49 = .ok (.invokevirtual 81, 3) := by decide +kernel
theorem d_A_take_52 : decode M_A_take.2.1 52 = .ok (.ifCond .ne (5), 3) := by decide +kernel
theorem d_A_take_55 : decode M_A_take.2.1 55 = .ok (.iconst (3), 1) := by decide +kernel
theorem d_A_take_56 : decode M_A_take.2.1 56 = .ok (.ireturn, 1) := by decide +kernel
theorem d_A_take_57 : decode M_A_take.2.1 57 = .ok (.aload_n 0, 1) := by decide +kernel
theorem d_A_take_58 : decode M_A_take.2.1 58 = .ok (.getfield 16, 3) := by decide +kernel
theorem d_A_take_61 : decode M_A_take.2.1 61 = .ok (.aload_n 0, 1) := by decide +kernel
theorem d_A_take_62 : decode M_A_take.2.1 62 = .ok (.getfield 10, 3) := by decide +kernel
theorem d_A_take_65 : decode M_A_take.2.1 65 = .ok (.invokevirtual 84, 3) := by decide +kernel
theorem d_A_take_68 : decode M_A_take.2.1 68 = .ok (.aload_n 0, 1) := by decide +kernel
theorem d_A_take_69 : decode M_A_take.2.1 69 = .ok (.iload_n 1, 1) := by decide +kernel
theorem d_A_take_70 : decode M_A_take.2.1 70 = .ok (.putfield 54, 3) := by decide +kernel
theorem d_A_take_73 : decode M_A_take.2.1 73 = .ok (.aload_n 0, 1) := by decide +kernel
theorem d_A_take_74 : decode M_A_take.2.1 74 = .ok (.getfield 10, 3) := by decide +kernel
theorem d_A_take_77 : decode M_A_take.2.1 77 = .ok (.invokevirtual 88, 3) := by decide +kernel
theorem d_A_take_80 : decode M_A_take.2.1 80 = .ok (.iconst (0), 1) := by decide +kernel
theorem d_A_take_81 : decode M_A_take.2.1 81 = .ok (.ireturn, 1) := by decide +kernel
theorem d_A_isEdge_0 : decode M_A_isEdge.2.1 0 = .ok (.iload_n 0, 1) := by decide +kernel
theorem d_A_isEdge_1 : decode M_A_isEdge.2.1 1 = .ok (.iconst (1), 1) := by decide +kernel
theorem d_A_isEdge_2 : decode M_A_isEdge.2.1 2 = .ok (.if_icmp .lt (13), 3) := by decide +kernel
theorem d_A_isEdge_5 : decode M_A_isEdge.2.1 5 = .ok (.iload_n 0, 1) := by decide +kernel
theorem d_A_isEdge_6 : decode M_A_isEdge.2.1 6 = .ok (.bipush (32), 2) := by decide +kernel
theorem d_A_isEdge_8 : decode M_A_isEdge.2.1 8 = .ok (.if_icmp .gt (7), 3) := by decide +kernel
theorem d_A_isEdge_11 : decode M_A_isEdge.2.1 11 = .ok (.iconst (1), 1) := by decide +kernel
theorem d_A_isEdge_12 : decode M_A_isEdge.2.1 12 = .ok (.goto (4), 3) := by decide +kernel
theorem d_A_isEdge_15 : decode M_A_isEdge.2.1 15 = .ok (.iconst (0), 1) := by decide +kernel
theorem d_A_isEdge_16 : decode M_A_isEdge.2.1 16 = .ok (.ireturn, 1) := by decide +kernel
theorem d_A_letter_0 : decode M_A_letter.2.1 0 = .ok (.iload_n 1, 1) := by decide +kernel
theorem d_A_letter_1 : decode M_A_letter.2.1 1 = .ok (.ifCond .eq (18), 3) := by decide +kernel
theorem d_A_letter_4 : decode M_A_letter.2.1 4 = .ok (.iload_n 1, 1) := by decide +kernel
theorem d_A_letter_5 : decode M_A_letter.2.1 5 = .ok (.bipush (-3), 2) := by decide +kernel
theorem d_A_letter_7 : decode M_A_letter.2.1 7 = .ok (.if_icmp .lt (12), 3) := by decide +kernel
theorem d_A_letter_10 : decode M_A_letter.2.1 10 = .ok (.iload_n 1, 1) := by decide +kernel
theorem d_A_letter_11 : decode M_A_letter.2.1 11 = .ok (.iconst (3), 1) := by decide +kernel
theorem d_A_letter_12 : decode M_A_letter.2.1 12 = .ok (.if_icmp .gt (7), 3) := by decide +kernel
theorem d_A_letter_15 : decode M_A_letter.2.1 15 = .ok (.iconst (1), 1) := by decide +kernel
theorem d_A_letter_16 : decode M_A_letter.2.1 16 = .ok (.goto (4), 3) := by decide +kernel
theorem d_A_letter_19 : decode M_A_letter.2.1 19 = .ok (.iconst (0), 1) := by decide +kernel
theorem d_A_letter_20 : decode M_A_letter.2.1 20 = .ok (.istore_n 2, 1) := by decide +kernel
theorem d_A_letter_21 : decode M_A_letter.2.1 21 = .ok (.iload_n 2, 1) := by decide +kernel
theorem d_A_letter_22 : decode M_A_letter.2.1 22 = .ok (.ifCond .eq (12), 3) := by decide +kernel
theorem d_A_letter_25 : decode M_A_letter.2.1 25 = .ok (.aload_n 0, 1) := by decide +kernel
theorem d_A_letter_26 : decode M_A_letter.2.1 26 = .ok (.getfield 50, 3) := by decide +kernel
theorem d_A_letter_29 : decode M_A_letter.2.1 29 = .ok (.bipush (8), 2) := by decide +kernel
theorem d_A_letter_31 : decode M_A_letter.2.1 31 = .ok (.if_icmp .lt (5), 3) := by decide +kernel
theorem d_A_letter_34 : decode M_A_letter.2.1 34 = .ok (.iconst (0), 1) := by decide +kernel
theorem d_A_letter_35 : decode M_A_letter.2.1 35 = .ok (.ireturn, 1) := by decide +kernel
theorem d_A_letter_36 : decode M_A_letter.2.1 36 = .ok (.aload_n 0, 1) := by decide +kernel
theorem d_A_letter_37 : decode M_A_letter.2.1 37 = .ok (.getfield 43, 3) := by decide +kernel
theorem d_A_letter_40 : decode M_A_letter.2.1 40 = .ok (.aload_n 0, 1) := by decide +kernel
theorem d_A_letter_41 : decode M_A_letter.2.1 41 = .ok (.getfield 50, 3) := by decide +kernel
theorem d_A_letter_44 : decode M_A_letter.2.1 44 = .ok (.iload_n 1, 1) := by decide +kernel
theorem d_A_letter_45 : decode M_A_letter.2.1 45 = .ok (.iastore, 1) := by decide +kernel
theorem d_A_letter_46 : decode M_A_letter.2.1 46 = .ok (.aload_n 0, 1) := by decide +kernel
theorem d_A_letter_47 : decode M_A_letter.2.1 47 = .ok (.dup, 1) := by decide +kernel
theorem d_A_letter_48 : decode M_A_letter.2.1 48 = .ok (.getfield 50, 3) := by decide +kernel
theorem d_A_letter_51 : decode M_A_letter.2.1 51 = .ok (.iconst (1), 1) := by decide +kernel
theorem d_A_letter_52 : decode M_A_letter.2.1 52 = .ok (.iadd, 1) := by decide +kernel
theorem d_A_letter_53 : decode M_A_letter.2.1 53 = .ok (.putfield 50, 3) := by decide +kernel
theorem d_A_letter_56 : decode M_A_letter.2.1 56 = .ok (.iconst (1), 1) := by decide +kernel
theorem d_A_letter_57 : decode M_A_letter.2.1 57 = .ok (.ireturn, 1) := by decide +kernel
theorem d_A_braid_0 : decode M_A_braid.2.1 0 = .ok (.iload_n 1, 1) := by decide +kernel
theorem d_A_braid_1 : decode M_A_braid.2.1 1 = .ok (.iconst (1), 1) := by decide +kernel
theorem d_A_braid_2 : decode M_A_braid.2.1 2 = .ok (.if_icmp .lt (16), 3) := by decide +kernel
theorem d_A_braid_5 : decode M_A_braid.2.1 5 = .ok (.iload_n 1, 1) := by decide +kernel
theorem d_A_braid_6 : decode M_A_braid.2.1 6 = .ok (.iconst (4), 1) := by decide +kernel
theorem d_A_braid_7 : decode M_A_braid.2.1 7 = .ok (.if_icmp .gt (11), 3) := by decide +kernel
theorem d_A_braid_10 : decode M_A_braid.2.1 10 = .ok (.aload_n 0, 1) := by decide +kernel
theorem d_A_braid_11 : decode M_A_braid.2.1 11 = .ok (.iload_n 1, 1) := by decide +kernel
theorem d_A_braid_12 : decode M_A_braid.2.1 12 = .ok (.invokevirtual 91, 3) := by decide +kernel
theorem d_A_braid_15 : decode M_A_braid.2.1 15 = .ok (.ifCond .ne (5), 3) := by decide +kernel
theorem d_A_braid_18 : decode M_A_braid.2.1 18 = .ok (.iconst (0), 1) := by decide +kernel
theorem d_A_braid_19 : decode M_A_braid.2.1 19 = .ok (.ireturn, 1) := by decide +kernel
theorem d_A_braid_20 : decode M_A_braid.2.1 20 = .ok (.aload_n 0, 1) := by decide +kernel
theorem d_A_braid_21 : decode M_A_braid.2.1 21 = .ok (.getfield 16, 3) := by decide +kernel
theorem d_A_braid_24 : decode M_A_braid.2.1 24 = .ok (.invokevirtual 88, 3) := by decide +kernel
theorem d_A_braid_27 : decode M_A_braid.2.1 27 = .ok (.aload_n 0, 1) := by decide +kernel
theorem d_A_braid_28 : decode M_A_braid.2.1 28 = .ok (.iconst (0), 1) := by decide +kernel
theorem d_A_braid_29 : decode M_A_braid.2.1 29 = .ok (.putfield 54, 3) := by decide +kernel
theorem d_A_braid_32 : decode M_A_braid.2.1 32 = .ok (.iconst (1), 1) := by decide +kernel
theorem d_A_braid_33 : decode M_A_braid.2.1 33 = .ok (.istore_n 2, 1) := by decide +kernel
theorem d_A_braid_34 : decode M_A_braid.2.1 34 = .ok (.iload_n 2, 1) := by decide +kernel
theorem d_A_braid_35 : decode M_A_braid.2.1 35 = .ok (.iload_n 1, 1) := by decide +kernel
theorem d_A_braid_36 : decode M_A_braid.2.1 36 = .ok (.if_icmp .gt (16), 3) := by decide +kernel
theorem d_A_braid_39 : decode M_A_braid.2.1 39 = .ok (.aload_n 0, 1) := by decide +kernel
theorem d_A_braid_40 : decode M_A_braid.2.1 40 = .ok (.getfield 47, 3) := by decide +kernel
theorem d_A_braid_43 : decode M_A_braid.2.1 43 = .ok (.iload_n 2, 1) := by decide +kernel
theorem d_A_braid_44 : decode M_A_braid.2.1 44 = .ok (.iload_n 2, 1) := by decide +kernel
theorem d_A_braid_45 : decode M_A_braid.2.1 45 = .ok (.iastore, 1) := by decide +kernel
theorem d_A_braid_46 : decode M_A_braid.2.1 46 = .ok (.iinc 2 (1), 3) := by decide +kernel
theorem d_A_braid_49 : decode M_A_braid.2.1 49 = .ok (.goto (-15), 3) := by decide +kernel
theorem d_A_braid_52 : decode M_A_braid.2.1 52 = .ok (.iconst (0), 1) := by decide +kernel
theorem d_A_braid_53 : decode M_A_braid.2.1 53 = .ok (.istore_n 2, 1) := by decide +kernel
theorem d_A_braid_54 : decode M_A_braid.2.1 54 = .ok (.iload_n 2, 1) := by decide +kernel
theorem d_A_braid_55 : decode M_A_braid.2.1 55 = .ok (.aload_n 0, 1) := by decide +kernel
theorem d_A_braid_56 : decode M_A_braid.2.1 56 = .ok (.getfield 50, 3) := by decide +kernel
theorem d_A_braid_59 : decode M_A_braid.2.1 59 = .ok (.if_icmp .ge (26), 3) := by decide +kernel
theorem d_A_braid_62 : decode M_A_braid.2.1 62 = .ok (.aload_n 0, 1) := by decide +kernel
theorem d_A_braid_63 : decode M_A_braid.2.1 63 = .ok (.aload_n 0, 1) := by decide +kernel
theorem d_A_braid_64 : decode M_A_braid.2.1 64 = .ok (.getfield 43, 3) := by decide +kernel
theorem d_A_braid_67 : decode M_A_braid.2.1 67 = .ok (.iload_n 2, 1) := by decide +kernel
theorem d_A_braid_68 : decode M_A_braid.2.1 68 = .ok (.iaload, 1) := by decide +kernel
theorem d_A_braid_69 : decode M_A_braid.2.1 69 = .ok (.iload_n 1, 1) := by decide +kernel
theorem d_A_braid_70 : decode M_A_braid.2.1 70 = .ok (.iconst (1), 1) := by decide +kernel
theorem d_A_braid_71 : decode M_A_braid.2.1 71 = .ok (.iadd, 1) := by decide +kernel
theorem d_A_braid_72 : decode M_A_braid.2.1 72 = .ok (.iconst (2), 1) := by decide +kernel
theorem d_A_braid_73 : decode M_A_braid.2.1 73 = .ok (.iload_n 2, 1) := by decide +kernel
theorem d_A_braid_74 : decode M_A_braid.2.1 74 = .ok (.imul, 1) := by decide +kernel
theorem d_A_braid_75 : decode M_A_braid.2.1 75 = .ok (.iadd, 1) := by decide +kernel
theorem d_A_braid_76 : decode M_A_braid.2.1 76 = .ok (.invokevirtual 94, 3) := by decide +kernel
theorem d_A_braid_79 : decode M_A_braid.2.1 79 = .ok (.iinc 2 (1), 3) := by decide +kernel
theorem d_A_braid_82 : decode M_A_braid.2.1 82 = .ok (.goto (-28), 3) := by decide +kernel
theorem d_A_braid_85 : decode M_A_braid.2.1 85 = .ok (.iconst (1), 1) := by decide +kernel
theorem d_A_braid_86 : decode M_A_braid.2.1 86 = .ok (.istore_n 2, 1) := by decide +kernel
theorem d_A_braid_87 : decode M_A_braid.2.1 87 = .ok (.iload_n 2, 1) := by decide +kernel
theorem d_A_braid_88 : decode M_A_braid.2.1 88 = .ok (.iload_n 1, 1) := by decide +kernel
theorem d_A_braid_89 : decode M_A_braid.2.1 89 = .ok (.if_icmp .gt (14), 3) := by decide +kernel
theorem d_A_braid_92 : decode M_A_braid.2.1 92 = .ok (.aload_n 0, 1) := by decide +kernel
theorem d_A_braid_93 : decode M_A_braid.2.1 93 = .ok (.iload_n 2, 1) := by decide +kernel
theorem d_A_braid_94 : decode M_A_braid.2.1 94 = .ok (.invokevirtual 98, 3) := by decide +kernel
theorem d_A_braid_97 : decode M_A_braid.2.1 97 = .ok (.iinc 2 (1), 3) := by decide +kernel
theorem d_A_braid_100 : decode M_A_braid.2.1 100 = .ok (.goto (-13), 3) := by decide +kernel
theorem d_A_braid_103 : decode M_A_braid.2.1 103 = .ok (.aload_n 0, 1) := by decide +kernel
theorem d_A_braid_104 : decode M_A_braid.2.1 104 = .ok (.iconst (0), 1) := by decide +kernel
theorem d_A_braid_105 : decode M_A_braid.2.1 105 = .ok (.putfield 50, 3) := by decide +kernel
theorem d_A_braid_108 : decode M_A_braid.2.1 108 = .ok (.iconst (1), 1) := by decide +kernel
theorem d_A_braid_109 : decode M_A_braid.2.1 109 = .ok (.ireturn, 1) := by decide +kernel
theorem d_A_wordIsBelow_0 : decode M_A_wordIsBelow.2.1 0 = .ok (.iconst (0), 1) := by decide +kernel
theorem d_A_wordIsBelow_1 : decode M_A_wordIsBelow.2.1 1 = .ok (.istore_n 2, 1) := by decide +kernel
theorem d_A_wordIsBelow_2 : decode M_A_wordIsBelow.2.1 2 = .ok (.iload_n 2, 1) := by decide +kernel
theorem d_A_wordIsBelow_3 : decode M_A_wordIsBelow.2.1 3 = .ok (.aload_n 0, 1) := by decide +kernel
theorem d_A_wordIsBelow_4 : decode M_A_wordIsBelow.2.1 4 = .ok (.getfield 50, 3) := by decide +kernel
theorem d_A_wordIsBelow_7 : decode M_A_wordIsBelow.2.1 7 = .ok (.if_icmp .ge (24), 3) := by decide +kernel
theorem d_A_wordIsBelow_10 : decode M_A_wordIsBelow.2.1 10 = .ok (.aload_n 0, 1) := by decide +kernel
theorem d_A_wordIsBelow_11 : decode M_A_wordIsBelow.2.1 11 = .ok (.getfield 43, 3) := by decide +kernel
theorem d_A_wordIsBelow_14 : decode M_A_wordIsBelow.2.1 14 = .ok (.iload_n 2, 1) := by decide +kernel
theorem d_A_wordIsBelow_15 : decode M_A_wordIsBelow.2.1 15 = .ok (.iaload, 1) := by decide +kernel
theorem d_A_wordIsBelow_16 : decode M_A_wordIsBelow.2.1 16 = .ok (.invokestatic 101, 3) := by decide +kernel
theorem d_A_wordIsBelow_19 : decode M_A_wordIsBelow.2.1 19 = .ok (.iload_n 1, 1) := by decide +kernel
theorem d_A_wordIsBelow_20 : decode M_A_wordIsBelow.2.1 20 = .ok (.if_icmp .lt (5), 3) := by decide +kernel
theorem d_A_wordIsBelow_23 : decode M_A_wordIsBelow.2.1 23 = .ok (.iconst (0), 1) := by decide +kernel
theorem d_A_wordIsBelow_24 : decode M_A_wordIsBelow.2.1 24 = .ok (.ireturn, 1) := by decide +kernel
theorem d_A_wordIsBelow_25 : decode M_A_wordIsBelow.2.1 25 = .ok (.iinc 2 (1), 3) := by decide +kernel
theorem d_A_wordIsBelow_28 : decode M_A_wordIsBelow.2.1 28 = .ok (.goto (-26), 3) := by decide +kernel
theorem d_A_wordIsBelow_31 : decode M_A_wordIsBelow.2.1 31 = .ok (.iconst (1), 1) := by decide +kernel
theorem d_A_wordIsBelow_32 : decode M_A_wordIsBelow.2.1 32 = .ok (.ireturn, 1) := by decide +kernel
theorem d_A_weave_0 : decode M_A_weave.2.1 0 = .ok (.iload_n 1, 1) := by decide +kernel
theorem d_A_weave_1 : decode M_A_weave.2.1 1 = .ok (.invokestatic 101, 3) := by decide +kernel
theorem d_A_weave_4 : decode M_A_weave.2.1 4 = .ok (.istore_n 3, 1) := by decide +kernel
theorem d_A_weave_5 : decode M_A_weave.2.1 5 = .ok (.aload_n 0, 1) := by decide +kernel
theorem d_A_weave_6 : decode M_A_weave.2.1 6 = .ok (.getfield 47, 3) := by decide +kernel
theorem d_A_weave_9 : decode M_A_weave.2.1 9 = .ok (.iload_n 3, 1) := by decide +kernel
theorem d_A_weave_10 : decode M_A_weave.2.1 10 = .ok (.iaload, 1) := by decide +kernel
theorem d_A_weave_11 : decode M_A_weave.2.1 11 = .ok (.istore 4, 2) := by decide +kernel
theorem d_A_weave_13 : decode M_A_weave.2.1 13 = .ok (.aload_n 0, 1) := by decide +kernel
theorem d_A_weave_14 : decode M_A_weave.2.1 14 = .ok (.getfield 47, 3) := by decide +kernel
theorem d_A_weave_17 : decode M_A_weave.2.1 17 = .ok (.iload_n 3, 1) := by decide +kernel
theorem d_A_weave_18 : decode M_A_weave.2.1 18 = .ok (.iconst (1), 1) := by decide +kernel
theorem d_A_weave_19 : decode M_A_weave.2.1 19 = .ok (.iadd, 1) := by decide +kernel
theorem d_A_weave_20 : decode M_A_weave.2.1 20 = .ok (.iaload, 1) := by decide +kernel
theorem d_A_weave_21 : decode M_A_weave.2.1 21 = .ok (.istore 5, 2) := by decide +kernel
theorem d_A_weave_23 : decode M_A_weave.2.1 23 = .ok (.iload_n 2, 1) := by decide +kernel
theorem d_A_weave_24 : decode M_A_weave.2.1 24 = .ok (.iconst (1), 1) := by decide +kernel
theorem d_A_weave_25 : decode M_A_weave.2.1 25 = .ok (.iadd, 1) := by decide +kernel
theorem d_A_weave_26 : decode M_A_weave.2.1 26 = .ok (.istore 6, 2) := by decide +kernel
theorem d_A_weave_28 : decode M_A_weave.2.1 28 = .ok (.iload_n 1, 1) := by decide +kernel
theorem d_A_weave_29 : decode M_A_weave.2.1 29 = .ok (.ifCond .le (21), 3) := by decide +kernel
theorem d_A_weave_32 : decode M_A_weave.2.1 32 = .ok (.aload_n 0, 1) := by decide +kernel
theorem d_A_weave_33 : decode M_A_weave.2.1 33 = .ok (.getfield 16, 3) := by decide +kernel
theorem d_A_weave_36 : decode M_A_weave.2.1 36 = .ok (.iload 5, 2) := by decide +kernel
theorem d_A_weave_38 : decode M_A_weave.2.1 38 = .ok (.iload 6, 2) := by decide +kernel
theorem d_A_weave_40 : decode M_A_weave.2.1 40 = .ok (.iload_n 2, 1) := by decide +kernel
theorem d_A_weave_41 : decode M_A_weave.2.1 41 = .ok (.iload 4, 2) := by decide +kernel
theorem d_A_weave_43 : decode M_A_weave.2.1 43 = .ok (.iconst (1), 1) := by decide +kernel
theorem d_A_weave_44 : decode M_A_weave.2.1 44 = .ok (.invokevirtual 65, 3) := by decide +kernel
theorem d_A_weave_47 : decode M_A_weave.2.1 47 = .ok (.goto (18), 3) := by decide +kernel
theorem d_A_weave_50 : decode M_A_weave.2.1 50 = .ok (.aload_n 0, 1) := by decide +kernel
theorem d_A_weave_51 : decode M_A_weave.2.1 51 = .ok (.getfield 16, 3) := by decide +kernel
theorem d_A_weave_54 : decode M_A_weave.2.1 54 = .ok (.iload 4, 2) := by decide +kernel
theorem d_A_weave_56 : decode M_A_weave.2.1 56 = .ok (.iload 5, 2) := by decide +kernel
theorem d_A_weave_58 : decode M_A_weave.2.1 58 = .ok (.iload 6, 2) := by decide +kernel
theorem d_A_weave_60 : decode M_A_weave.2.1 60 = .ok (.iload_n 2, 1) := by decide +kernel
theorem d_A_weave_61 : decode M_A_weave.2.1 61 = .ok (.iconst (0), 1) := by decide +kernel
theorem d_A_weave_62 : decode M_A_weave.2.1 62 = .ok (.invokevirtual 65, 3) := by decide +kernel
theorem d_A_weave_65 : decode M_A_weave.2.1 65 = .ok (.aload_n 0, 1) := by decide +kernel
theorem d_A_weave_66 : decode M_A_weave.2.1 66 = .ok (.getfield 47, 3) := by decide +kernel
theorem d_A_weave_69 : decode M_A_weave.2.1 69 = .ok (.iload_n 3, 1) := by decide +kernel
theorem d_A_weave_70 : decode M_A_weave.2.1 70 = .ok (.iload_n 2, 1) := by decide +kernel
theorem d_A_weave_71 : decode M_A_weave.2.1 71 = .ok (.iastore, 1) := by decide +kernel
theorem d_A_weave_72 : decode M_A_weave.2.1 72 = .ok (.aload_n 0, 1) := by decide +kernel
theorem d_A_weave_73 : decode M_A_weave.2.1 73 = .ok (.getfield 47, 3) := by decide +kernel
theorem d_A_weave_76 : decode M_A_weave.2.1 76 = .ok (.iload_n 3, 1) := by decide +kernel
theorem d_A_weave_77 : decode M_A_weave.2.1 77 = .ok (.iconst (1), 1) := by decide +kernel
theorem d_A_weave_78 : decode M_A_weave.2.1 78 = .ok (.iadd, 1) := by decide +kernel
theorem d_A_weave_79 : decode M_A_weave.2.1 79 = .ok (.iload 6, 2) := by decide +kernel
theorem d_A_weave_81 : decode M_A_weave.2.1 81 = .ok (.iastore, 1) := by decide +kernel
theorem d_A_weave_82 : decode M_A_weave.2.1 82 = .ok (.return_, 1) := by decide +kernel
theorem d_A_closePlace_0 : decode M_A_closePlace.2.1 0 = .ok (.aload_n 0, 1) := by decide +kernel
theorem d_A_closePlace_1 : decode M_A_closePlace.2.1 1 = .ok (.getfield 47, 3) := by decide +kernel
theorem d_A_closePlace_4 : decode M_A_closePlace.2.1 4 = .ok (.iload_n 1, 1) := by decide +kernel
theorem d_A_closePlace_5 : decode M_A_closePlace.2.1 5 = .ok (.iaload, 1) := by decide +kernel
theorem d_A_closePlace_6 : decode M_A_closePlace.2.1 6 = .ok (.iload_n 1, 1) := by decide +kernel
theorem d_A_closePlace_7 : decode M_A_closePlace.2.1 7 = .ok (.if_icmp .ne (16), 3) := by decide +kernel
theorem d_A_closePlace_10 : decode M_A_closePlace.2.1 10 = .ok (.aload_n 0, 1) := by decide +kernel
theorem d_A_closePlace_11 : decode M_A_closePlace.2.1 11 = .ok (.dup, 1) := by decide +kernel
theorem d_A_closePlace_12 : decode M_A_closePlace.2.1 12 = .ok (.getfield 54, 3) := by decide +kernel
theorem d_A_closePlace_15 : decode M_A_closePlace.2.1 15 = .ok (.iconst (1), 1) := by decide +kernel
theorem d_A_closePlace_16 : decode M_A_closePlace.2.1 16 = .ok (.iadd, 1) := by decide +kernel
theorem d_A_closePlace_17 : decode M_A_closePlace.2.1 17 = .ok (.putfield 54, 3) := by decide +kernel
theorem d_A_closePlace_20 : decode M_A_closePlace.2.1 20 = .ok (.goto (17), 3) := by decide +kernel
theorem d_A_closePlace_23 : decode M_A_closePlace.2.1 23 = .ok (.aload_n 0, 1) := by decide +kernel
theorem d_A_closePlace_24 : decode M_A_closePlace.2.1 24 = .ok (.getfield 16, 3) := by decide +kernel
theorem d_A_closePlace_27 : decode M_A_closePlace.2.1 27 = .ok (.aload_n 0, 1) := by decide +kernel
theorem d_A_closePlace_28 : decode M_A_closePlace.2.1 28 = .ok (.getfield 47, 3) := by decide +kernel
theorem d_A_closePlace_31 : decode M_A_closePlace.2.1 31 = .ok (.iload_n 1, 1) := by decide +kernel
theorem d_A_closePlace_32 : decode M_A_closePlace.2.1 32 = .ok (.iaload, 1) := by decide +kernel
theorem d_A_closePlace_33 : decode M_A_closePlace.2.1 33 = .ok (.iload_n 1, 1) := by decide +kernel
theorem d_A_closePlace_34 : decode M_A_closePlace.2.1 34 = .ok (.invokevirtual 107, 3) := by decide +kernel
theorem d_A_closePlace_37 : decode M_A_closePlace.2.1 37 = .ok (.return_, 1) := by decide +kernel
theorem d_A_count_0 : decode M_A_count.2.1 0 = .ok (.iload_n 1, 1) := by decide +kernel
theorem d_A_count_1 : decode M_A_count.2.1 1 = .ok (.tableswitch (101) (0) (5) #[39, 47, 52, 69, 77, 89], 39) := by decide +kernel
theorem d_A_count_40 : decode M_A_count.2.1 40 = .ok (.aload_n 0, 1) := by decide +kernel
theorem d_A_count_41 : decode M_A_count.2.1 41 = .ok (.getfield 16, 3) := by decide +kernel
theorem d_A_count_44 : decode M_A_count.2.1 44 = .ok (.invokevirtual 69, 3) := by decide +kernel
theorem d_A_count_47 : decode M_A_count.2.1 47 = .ok (.ireturn, 1) := by decide +kernel
theorem d_A_count_48 : decode M_A_count.2.1 48 = .ok (.aload_n 0, 1) := by decide +kernel
theorem d_A_count_49 : decode M_A_count.2.1 49 = .ok (.getfield 54, 3) := by decide +kernel
theorem d_A_count_52 : decode M_A_count.2.1 52 = .ok (.ireturn, 1) := by decide +kernel
theorem d_A_count_53 : decode M_A_count.2.1 53 = .ok (.aload_n 0, 1) := by decide +kernel
theorem d_A_count_54 : decode M_A_count.2.1 54 = .ok (.getfield 25, 3) := by decide +kernel
theorem d_A_count_57 : decode M_A_count.2.1 57 = .ok (.aload_n 0, 1) := by decide +kernel
theorem d_A_count_58 : decode M_A_count.2.1 58 = .ok (.getfield 16, 3) := by decide +kernel
theorem d_A_count_61 : decode M_A_count.2.1 61 = .ok (.invokevirtual 110, 3) := by decide +kernel
theorem d_A_count_64 : decode M_A_count.2.1 64 = .ok (.aload_n 0, 1) := by decide +kernel
theorem d_A_count_65 : decode M_A_count.2.1 65 = .ok (.getfield 54, 3) := by decide +kernel
theorem d_A_count_68 : decode M_A_count.2.1 68 = .ok (.iadd, 1) := by decide +kernel
theorem d_A_count_69 : decode M_A_count.2.1 69 = .ok (.ireturn, 1) := by decide +kernel
theorem d_A_count_70 : decode M_A_count.2.1 70 = .ok (.aload_n 0, 1) := by decide +kernel
theorem d_A_count_71 : decode M_A_count.2.1 71 = .ok (.getfield 16, 3) := by decide +kernel
theorem d_A_count_74 : decode M_A_count.2.1 74 = .ok (.invokevirtual 114, 3) := by decide +kernel
theorem d_A_count_77 : decode M_A_count.2.1 77 = .ok (.ireturn, 1) := by decide +kernel
theorem d_A_count_78 : decode M_A_count.2.1 78 = .ok (.aload_n 0, 1) := by decide +kernel
theorem d_A_count_79 : decode M_A_count.2.1 79 = .ok (.getfield 25, 3) := by decide +kernel
theorem d_A_count_82 : decode M_A_count.2.1 82 = .ok (.aload_n 0, 1) := by decide +kernel
theorem d_A_count_83 : decode M_A_count.2.1 83 = .ok (.getfield 16, 3) := by decide +kernel
theorem d_A_count_86 : decode M_A_count.2.1 86 = .ok (.invokevirtual 117, 3) := by decide +kernel
theorem d_A_count_89 : decode M_A_count.2.1 89 = .ok (.ireturn, 1) := by decide +kernel
theorem d_A_count_90 : decode M_A_count.2.1 90 = .ok (.aload_n 0, 1) := by decide +kernel
theorem d_A_count_91 : decode M_A_count.2.1 91 = .ok (.getfield 25, 3) := by decide +kernel
theorem d_A_count_94 : decode M_A_count.2.1 94 = .ok (.aload_n 0, 1) := by decide +kernel
theorem d_A_count_95 : decode M_A_count.2.1 95 = .ok (.getfield 16, 3) := by decide +kernel
theorem d_A_count_98 : decode M_A_count.2.1 98 = .ok (.invokevirtual 120, 3) := by decide +kernel
theorem d_A_count_101 : decode M_A_count.2.1 101 = .ok (.ireturn, 1) := by decide +kernel
theorem d_A_count_102 : decode M_A_count.2.1 102 = .ok (.bipush (-100), 2) := by decide +kernel
theorem d_A_count_104 : decode M_A_count.2.1 104 = .ok (.ireturn, 1) := by decide +kernel
theorem d_A_end_0 : decode M_A_end.2.1 0 = .ok (.aload_n 0, 1) := by decide +kernel
theorem d_A_end_1 : decode M_A_end.2.1 1 = .ok (.getfield 16, 3) := by decide +kernel
theorem d_A_end_4 : decode M_A_end.2.1 4 = .ok (.iload_n 1, 1) := by decide +kernel
theorem d_A_end_5 : decode M_A_end.2.1 5 = .ok (.invokevirtual 123, 3) := by decide +kernel
theorem d_A_end_8 : decode M_A_end.2.1 8 = .ok (.ifCond .eq (12), 3) := by decide +kernel
theorem d_A_end_11 : decode M_A_end.2.1 11 = .ok (.iload_n 2, 1) := by decide +kernel
theorem d_A_end_12 : decode M_A_end.2.1 12 = .ok (.ifCond .lt (8), 3) := by decide +kernel
theorem d_A_end_15 : decode M_A_end.2.1 15 = .ok (.iload_n 2, 1) := by decide +kernel
theorem d_A_end_16 : decode M_A_end.2.1 16 = .ok (.iconst (4), 1) := by decide +kernel
theorem d_A_end_17 : decode M_A_end.2.1 17 = .ok (.if_icmp .le (6), 3) := by decide +kernel
theorem d_A_end_20 : decode M_A_end.2.1 20 = .ok (.bipush (-100), 2) := by decide +kernel
theorem d_A_end_22 : decode M_A_end.2.1 22 = .ok (.ireturn, 1) := by decide +kernel
theorem d_A_end_23 : decode M_A_end.2.1 23 = .ok (.iload_n 2, 1) := by decide +kernel
theorem d_A_end_24 : decode M_A_end.2.1 24 = .ok (.iconst (4), 1) := by decide +kernel
theorem d_A_end_25 : decode M_A_end.2.1 25 = .ok (.if_icmp .ne (20), 3) := by decide +kernel
theorem d_A_end_28 : decode M_A_end.2.1 28 = .ok (.aload_n 0, 1) := by decide +kernel
theorem d_A_end_29 : decode M_A_end.2.1 29 = .ok (.getfield 16, 3) := by decide +kernel
theorem d_A_end_32 : decode M_A_end.2.1 32 = .ok (.iload_n 1, 1) := by decide +kernel
theorem d_A_end_33 : decode M_A_end.2.1 33 = .ok (.invokevirtual 126, 3) := by decide +kernel
theorem d_A_end_36 : decode M_A_end.2.1 36 = .ok (.ifCond .eq (7), 3) := by decide +kernel
theorem d_A_end_39 : decode M_A_end.2.1 39 = .ok (.iconst (1), 1) := by decide +kernel
theorem d_A_end_40 : decode M_A_end.2.1 40 = .ok (.goto (4), 3) := by decide +kernel
theorem d_A_end_43 : decode M_A_end.2.1 43 = .ok (.iconst (-1), 1) := by decide +kernel
theorem d_A_end_44 : decode M_A_end.2.1 44 = .ok (.ireturn, 1) := by decide +kernel
theorem d_A_end_45 : decode M_A_end.2.1 45 = .ok (.aload_n 0, 1) := by decide +kernel
theorem d_A_end_46 : decode M_A_end.2.1 46 = .ok (.getfield 16, 3) := by decide +kernel
theorem d_A_end_49 : decode M_A_end.2.1 49 = .ok (.iconst (4), 1) := by decide +kernel
theorem d_A_end_50 : decode M_A_end.2.1 50 = .ok (.iload_n 1, 1) := by decide +kernel
theorem d_A_end_51 : decode M_A_end.2.1 51 = .ok (.imul, 1) := by decide +kernel
theorem d_A_end_52 : decode M_A_end.2.1 52 = .ok (.iload_n 2, 1) := by decide +kernel
theorem d_A_end_53 : decode M_A_end.2.1 53 = .ok (.iadd, 1) := by decide +kernel
theorem d_A_end_54 : decode M_A_end.2.1 54 = .ok (.invokevirtual 129, 3) := by decide +kernel
theorem d_A_end_57 : decode M_A_end.2.1 57 = .ok (.ireturn, 1) := by decide +kernel
theorem d_A_first_0 : decode M_A_first.2.1 0 = .ok (.aload_n 0, 1) := by decide +kernel
theorem d_A_first_1 : decode M_A_first.2.1 1 = .ok (.getfield 16, 3) := by decide +kernel
theorem d_A_first_4 : decode M_A_first.2.1 4 = .ok (.invokevirtual 114, 3) := by decide +kernel
theorem d_A_first_7 : decode M_A_first.2.1 7 = .ok (.i2l, 1) := by decide +kernel
theorem d_A_first_8 : decode M_A_first.2.1 8 = .ok (.lstore_n 2, 1) := by decide +kernel
theorem d_A_first_9 : decode M_A_first.2.1 9 = .ok (.aload_n 0, 1) := by decide +kernel
theorem d_A_first_10 : decode M_A_first.2.1 10 = .ok (.getfield 32, 3) := by decide +kernel
theorem d_A_first_13 : decode M_A_first.2.1 13 = .ok (.aload_n 0, 1) := by decide +kernel
theorem d_A_first_14 : decode M_A_first.2.1 14 = .ok (.getfield 16, 3) := by decide +kernel
theorem d_A_first_17 : decode M_A_first.2.1 17 = .ok (.aload_n 0, 1) := by decide +kernel
theorem d_A_first_18 : decode M_A_first.2.1 18 = .ok (.getfield 54, 3) := by decide +kernel
theorem d_A_first_21 : decode M_A_first.2.1 21 = .ok (.iload_n 1, 1) := by decide +kernel
theorem d_A_first_22 : decode M_A_first.2.1 22 = .ok (.i2l, 1) := by decide +kernel
theorem d_A_first_23 : decode M_A_first.2.1 23 = .ok (.ldc2_w 132, 3) := by decide +kernel
theorem d_A_first_26 : decode M_A_first.2.1 26 = .ok (.lload_n 2, 1) := by decide +kernel
theorem d_A_first_27 : decode M_A_first.2.1 27 = .ok (.lmul, 1) := by decide +kernel
theorem d_A_first_28 : decode M_A_first.2.1 28 = .ok (.ladd, 1) := by decide +kernel
theorem d_A_first_29 : decode M_A_first.2.1 29 = .ok (.invokevirtual 134, 3) := by decide +kernel
theorem d_A_first_32 : decode M_A_first.2.1 32 = .ok (.lstore 4, 2) := by decide +kernel
theorem d_A_first_34 : decode M_A_first.2.1 34 = .ok (.lload_n 2, 1) := by decide +kernel
theorem d_A_first_35 : decode M_A_first.2.1 35 = .ok (.ldc2_w 138, 3) := by decide +kernel
theorem d_A_first_38 : decode M_A_first.2.1 38 = .ok (.lrem, 1) := by decide +kernel
theorem d_A_first_39 : decode M_A_first.2.1 39 = .ok (.lconst 0, 1) := by decide +kernel
theorem d_A_first_40 : decode M_A_first.2.1 40 = .ok (.lcmp, 1) := by decide +kernel
theorem d_A_first_41 : decode M_A_first.2.1 41 = .ok (.ifCond .ne (8), 3) := by decide +kernel
theorem d_A_first_44 : decode M_A_first.2.1 44 = .ok (.lload 4, 2) := by decide +kernel
theorem d_A_first_46 : decode M_A_first.2.1 46 = .ok (.goto (6), 3) := by decide +kernel
theorem d_A_first_49 : decode M_A_first.2.1 49 = .ok (.lload 4, 2) := by decide +kernel
theorem d_A_first_51 : decode M_A_first.2.1 51 = .ok (.lneg, 1) := by decide +kernel
theorem d_A_first_52 : decode M_A_first.2.1 52 = .ok (.lreturn, 1) := by decide +kernel
theorem d_A_second_0 : decode M_A_second.2.1 0 = .ok (.aload_n 0, 1) := by decide +kernel
theorem d_A_second_1 : decode M_A_second.2.1 1 = .ok (.getfield 39, 3) := by decide +kernel
theorem d_A_second_4 : decode M_A_second.2.1 4 = .ok (.aload_n 0, 1) := by decide +kernel
theorem d_A_second_5 : decode M_A_second.2.1 5 = .ok (.getfield 16, 3) := by decide +kernel
theorem d_A_second_8 : decode M_A_second.2.1 8 = .ok (.aload_n 0, 1) := by decide +kernel
theorem d_A_second_9 : decode M_A_second.2.1 9 = .ok (.getfield 54, 3) := by decide +kernel
theorem d_A_second_12 : decode M_A_second.2.1 12 = .ok (.iload_n 1, 1) := by decide +kernel
theorem d_A_second_13 : decode M_A_second.2.1 13 = .ok (.invokevirtual 140, 3) := by decide +kernel
theorem d_A_second_16 : decode M_A_second.2.1 16 = .ok (.lreturn, 1) := by decide +kernel
theorem d_A_twist_0 : decode M_A_twist.2.1 0 = .ok (.aload_n 0, 1) := by decide +kernel
theorem d_A_twist_1 : decode M_A_twist.2.1 1 = .ok (.getfield 16, 3) := by decide +kernel
theorem d_A_twist_4 : decode M_A_twist.2.1 4 = .ok (.invokevirtual 57, 3) := by decide +kernel
theorem d_A_twist_7 : decode M_A_twist.2.1 7 = .ok (.ifCond .ne (12), 3) := by decide +kernel
theorem d_A_twist_10 : decode M_A_twist.2.1 10 = .ok (.iload_n 2, 1) := by decide +kernel
theorem d_A_twist_11 : decode M_A_twist.2.1 11 = .ok (.ifCond .lt (8), 3) := by decide +kernel
theorem d_A_twist_14 : decode M_A_twist.2.1 14 = .ok (.iload_n 2, 1) := by decide +kernel
theorem d_A_twist_15 : decode M_A_twist.2.1 15 = .ok (.iconst (3), 1) := by decide +kernel
theorem d_A_twist_16 : decode M_A_twist.2.1 16 = .ok (.if_icmp .le (5), 3) := by decide +kernel
theorem d_A_twist_19 : decode M_A_twist.2.1 19 = .ok (.iconst (0), 1) := by decide +kernel
theorem d_A_twist_20 : decode M_A_twist.2.1 20 = .ok (.ireturn, 1) := by decide +kernel
theorem d_A_twist_21 : decode M_A_twist.2.1 21 = .ok (.aload_n 0, 1) := by decide +kernel
theorem d_A_twist_22 : decode M_A_twist.2.1 22 = .ok (.iconst (0), 1) := by decide +kernel
theorem d_A_twist_23 : decode M_A_twist.2.1 23 = .ok (.invokevirtual 143, 3) := by decide +kernel
theorem d_A_twist_26 : decode M_A_twist.2.1 26 = .ok (.istore_n 3, 1) := by decide +kernel
theorem d_A_twist_27 : decode M_A_twist.2.1 27 = .ok (.aload_n 0, 1) := by decide +kernel
theorem d_A_twist_28 : decode M_A_twist.2.1 28 = .ok (.iconst (1), 1) := by decide +kernel
theorem d_A_twist_29 : decode M_A_twist.2.1 29 = .ok (.invokevirtual 143, 3) := by decide +kernel
theorem d_A_twist_32 : decode M_A_twist.2.1 32 = .ok (.istore 4, 2) := by decide +kernel
theorem d_A_twist_34 : decode M_A_twist.2.1 34 = .ok (.iload_n 1, 1) := by decide +kernel
theorem d_A_twist_35 : decode M_A_twist.2.1 35 = .ok (.ifCond .ne (33), 3) := by decide +kernel
theorem d_A_twist_38 : decode M_A_twist.2.1 38 = .ok (.aload_n 0, 1) := by decide +kernel
theorem d_A_twist_39 : decode M_A_twist.2.1 39 = .ok (.getfield 54, 3) := by decide +kernel
theorem d_A_twist_42 : decode M_A_twist.2.1 42 = .ok (.ifCond .ne (5), 3) := by decide +kernel
theorem d_A_twist_45 : decode M_A_twist.2.1 45 = .ok (.iconst (0), 1) := by decide +kernel
theorem d_A_twist_46 : decode M_A_twist.2.1 46 = .ok (.ireturn, 1) := by decide +kernel
theorem d_A_twist_47 : decode M_A_twist.2.1 47 = .ok (.aload_n 0, 1) := by decide +kernel
theorem d_A_twist_48 : decode M_A_twist.2.1 48 = .ok (.dup, 1) := by decide +kernel
theorem d_A_twist_49 : decode M_A_twist.2.1 49 = .ok (.getfield 54, 3) := by decide +kernel
theorem d_A_twist_52 : decode M_A_twist.2.1 52 = .ok (.iconst (1), 1) := by decide +kernel
theorem d_A_twist_53 : decode M_A_twist.2.1 53 = .ok (.isub, 1) := by decide +kernel
theorem d_A_twist_54 : decode M_A_twist.2.1 54 = .ok (.putfield 54, 3) := by decide +kernel
theorem d_A_twist_57 : decode M_A_twist.2.1 57 = .ok (.aload_n 0, 1) := by decide +kernel
theorem d_A_twist_58 : decode M_A_twist.2.1 58 = .ok (.iload_n 2, 1) := by decide +kernel
theorem d_A_twist_59 : decode M_A_twist.2.1 59 = .ok (.iload_n 3, 1) := by decide +kernel
theorem d_A_twist_60 : decode M_A_twist.2.1 60 = .ok (.iload 4, 2) := by decide +kernel
theorem d_A_twist_62 : decode M_A_twist.2.1 62 = .ok (.iload_n 3, 1) := by decide +kernel
theorem d_A_twist_63 : decode M_A_twist.2.1 63 = .ok (.invokevirtual 146, 3) := by decide +kernel
theorem d_A_twist_66 : decode M_A_twist.2.1 66 = .ok (.iconst (1), 1) := by decide +kernel
theorem d_A_twist_67 : decode M_A_twist.2.1 67 = .ok (.ireturn, 1) := by decide +kernel
theorem d_A_twist_68 : decode M_A_twist.2.1 68 = .ok (.aload_n 0, 1) := by decide +kernel
theorem d_A_twist_69 : decode M_A_twist.2.1 69 = .ok (.getfield 16, 3) := by decide +kernel
theorem d_A_twist_72 : decode M_A_twist.2.1 72 = .ok (.iload_n 1, 1) := by decide +kernel
theorem d_A_twist_73 : decode M_A_twist.2.1 73 = .ok (.invokevirtual 150, 3) := by decide +kernel
theorem d_A_twist_76 : decode M_A_twist.2.1 76 = .ok (.ifCond .ne (5), 3) := by decide +kernel
theorem d_A_twist_79 : decode M_A_twist.2.1 79 = .ok (.iconst (0), 1) := by decide +kernel
theorem d_A_twist_80 : decode M_A_twist.2.1 80 = .ok (.ireturn, 1) := by decide +kernel
theorem d_A_twist_81 : decode M_A_twist.2.1 81 = .ok (.aload_n 0, 1) := by decide +kernel
theorem d_A_twist_82 : decode M_A_twist.2.1 82 = .ok (.getfield 16, 3) := by decide +kernel
theorem d_A_twist_85 : decode M_A_twist.2.1 85 = .ok (.iload 4, 2) := by decide +kernel
theorem d_A_twist_87 : decode M_A_twist.2.1 87 = .ok (.iload_n 1, 1) := by decide +kernel
theorem d_A_twist_88 : decode M_A_twist.2.1 88 = .ok (.invokevirtual 153, 3) := by decide +kernel
theorem d_A_twist_91 : decode M_A_twist.2.1 91 = .ok (.aload_n 0, 1) := by decide +kernel
theorem d_A_twist_92 : decode M_A_twist.2.1 92 = .ok (.iload_n 2, 1) := by decide +kernel
theorem d_A_twist_93 : decode M_A_twist.2.1 93 = .ok (.iload_n 1, 1) := by decide +kernel
theorem d_A_twist_94 : decode M_A_twist.2.1 94 = .ok (.iload_n 3, 1) := by decide +kernel
theorem d_A_twist_95 : decode M_A_twist.2.1 95 = .ok (.iload 4, 2) := by decide +kernel
theorem d_A_twist_97 : decode M_A_twist.2.1 97 = .ok (.invokevirtual 146, 3) := by decide +kernel
theorem d_A_twist_100 : decode M_A_twist.2.1 100 = .ok (.iconst (1), 1) := by decide +kernel
theorem d_A_twist_101 : decode M_A_twist.2.1 101 = .ok (.ireturn, 1) := by decide +kernel
theorem d_A_appendTwist_0 : decode M_A_appendTwist.2.1 0 = .ok (.iload_n 1, 1) := by decide +kernel
theorem d_A_appendTwist_1 : decode M_A_appendTwist.2.1 1 = .ok (.tableswitch (75) (0) (2) #[27, 43, 59], 27) := by decide +kernel
theorem d_A_appendTwist_28 : decode M_A_appendTwist.2.1 28 = .ok (.aload_n 0, 1) := by decide +kernel
theorem d_A_appendTwist_29 : decode M_A_appendTwist.2.1 29 = .ok (.getfield 16, 3) := by decide +kernel
theorem d_A_appendTwist_32 : decode M_A_appendTwist.2.1 32 = .ok (.iload_n 2, 1) := by decide +kernel
theorem d_A_appendTwist_33 : decode M_A_appendTwist.2.1 33 = .ok (.iload 4, 2) := by decide +kernel
theorem d_A_appendTwist_35 : decode M_A_appendTwist.2.1 35 = .ok (.iload_n 3, 1) := by decide +kernel
theorem d_A_appendTwist_36 : decode M_A_appendTwist.2.1 36 = .ok (.iload_n 3, 1) := by decide +kernel
theorem d_A_appendTwist_37 : decode M_A_appendTwist.2.1 37 = .ok (.iconst (1), 1) := by decide +kernel
theorem d_A_appendTwist_38 : decode M_A_appendTwist.2.1 38 = .ok (.invokevirtual 65, 3) := by decide +kernel
theorem d_A_appendTwist_41 : decode M_A_appendTwist.2.1 41 = .ok (.goto (48), 3) := by decide +kernel
theorem d_A_appendTwist_44 : decode M_A_appendTwist.2.1 44 = .ok (.aload_n 0, 1) := by decide +kernel
theorem d_A_appendTwist_45 : decode M_A_appendTwist.2.1 45 = .ok (.getfield 16, 3) := by decide +kernel
theorem d_A_appendTwist_48 : decode M_A_appendTwist.2.1 48 = .ok (.iload_n 2, 1) := by decide +kernel
theorem d_A_appendTwist_49 : decode M_A_appendTwist.2.1 49 = .ok (.iload_n 3, 1) := by decide +kernel
theorem d_A_appendTwist_50 : decode M_A_appendTwist.2.1 50 = .ok (.iload_n 3, 1) := by decide +kernel
theorem d_A_appendTwist_51 : decode M_A_appendTwist.2.1 51 = .ok (.iload 4, 2) := by decide +kernel
theorem d_A_appendTwist_53 : decode M_A_appendTwist.2.1 53 = .ok (.iconst (0), 1) := by decide +kernel
theorem d_A_appendTwist_54 : decode M_A_appendTwist.2.1 54 = .ok (.invokevirtual 65, 3) := by decide +kernel
theorem d_A_appendTwist_57 : decode M_A_appendTwist.2.1 57 = .ok (.goto (32), 3) := by decide +kernel
theorem d_A_appendTwist_60 : decode M_A_appendTwist.2.1 60 = .ok (.aload_n 0, 1) := by decide +kernel
theorem d_A_appendTwist_61 : decode M_A_appendTwist.2.1 61 = .ok (.getfield 16, 3) := by decide +kernel
theorem d_A_appendTwist_64 : decode M_A_appendTwist.2.1 64 = .ok (.iload_n 3, 1) := by decide +kernel
theorem d_A_appendTwist_65 : decode M_A_appendTwist.2.1 65 = .ok (.iload_n 3, 1) := by decide +kernel
theorem d_A_appendTwist_66 : decode M_A_appendTwist.2.1 66 = .ok (.iload 4, 2) := by decide +kernel
theorem d_A_appendTwist_68 : decode M_A_appendTwist.2.1 68 = .ok (.iload_n 2, 1) := by decide +kernel
theorem d_A_appendTwist_69 : decode M_A_appendTwist.2.1 69 = .ok (.iconst (1), 1) := by decide +kernel
theorem d_A_appendTwist_70 : decode M_A_appendTwist.2.1 70 = .ok (.invokevirtual 65, 3) := by decide +kernel
theorem d_A_appendTwist_73 : decode M_A_appendTwist.2.1 73 = .ok (.goto (16), 3) := by decide +kernel
theorem d_A_appendTwist_76 : decode M_A_appendTwist.2.1 76 = .ok (.aload_n 0, 1) := by decide +kernel
theorem d_A_appendTwist_77 : decode M_A_appendTwist.2.1 77 = .ok (.getfield 16, 3) := by decide +kernel
theorem d_A_appendTwist_80 : decode M_A_appendTwist.2.1 80 = .ok (.iload_n 3, 1) := by decide +kernel
theorem d_A_appendTwist_81 : decode M_A_appendTwist.2.1 81 = .ok (.iload_n 2, 1) := by decide +kernel
theorem d_A_appendTwist_82 : decode M_A_appendTwist.2.1 82 = .ok (.iload 4, 2) := by decide +kernel
theorem d_A_appendTwist_84 : decode M_A_appendTwist.2.1 84 = .ok (.iload_n 3, 1) := by decide +kernel
theorem d_A_appendTwist_85 : decode M_A_appendTwist.2.1 85 = .ok (.iconst (0), 1) := by decide +kernel
theorem d_A_appendTwist_86 : decode M_A_appendTwist.2.1 86 = .ok (.invokevirtual 65, 3) := by decide +kernel
theorem d_A_appendTwist_89 : decode M_A_appendTwist.2.1 89 = .ok (.return_, 1) := by decide +kernel
theorem d_A_untwist_0 : decode M_A_untwist.2.1 0 = .ok (.aload_n 0, 1) := by decide +kernel
theorem d_A_untwist_1 : decode M_A_untwist.2.1 1 = .ok (.iload_n 1, 1) := by decide +kernel
theorem d_A_untwist_2 : decode M_A_untwist.2.1 2 = .ok (.invokevirtual 156, 3) := by decide +kernel
theorem d_A_untwist_5 : decode M_A_untwist.2.1 5 = .ok (.istore_n 2, 1) := by decide +kernel
theorem d_A_untwist_6 : decode M_A_untwist.2.1 6 = .ok (.iload_n 2, 1) := by decide +kernel
theorem d_A_untwist_7 : decode M_A_untwist.2.1 7 = .ok (.iconst (-1), 1) := by decide +kernel
theorem d_A_untwist_8 : decode M_A_untwist.2.1 8 = .ok (.if_icmp .ne (5), 3) := by decide +kernel
theorem d_A_untwist_11 : decode M_A_untwist.2.1 11 = .ok (.iconst (0), 1) := by decide +kernel
theorem d_A_untwist_12 : decode M_A_untwist.2.1 12 = .ok (.ireturn, 1) := by decide +kernel
theorem d_A_untwist_13 : decode M_A_untwist.2.1 13 = .ok (.iload_n 2, 1) := by decide +kernel
theorem d_A_untwist_14 : decode M_A_untwist.2.1 14 = .ok (.iconst (2), 1) := by decide +kernel
theorem d_A_untwist_15 : decode M_A_untwist.2.1 15 = .ok (.invokestatic 159, 3) := by decide +kernel
theorem d_A_untwist_18 : decode M_A_untwist.2.1 18 = .ok (.istore_n 3, 1) := by decide +kernel
theorem d_A_untwist_19 : decode M_A_untwist.2.1 19 = .ok (.iload_n 2, 1) := by decide +kernel
theorem d_A_untwist_20 : decode M_A_untwist.2.1 20 = .ok (.iconst (3), 1) := by decide +kernel
theorem d_A_untwist_21 : decode M_A_untwist.2.1 21 = .ok (.invokestatic 159, 3) := by decide +kernel
theorem d_A_untwist_24 : decode M_A_untwist.2.1 24 = .ok (.istore 4, 2) := by decide +kernel
theorem d_A_untwist_26 : decode M_A_untwist.2.1 26 = .ok (.aload_n 0, 1) := by decide +kernel
theorem d_A_untwist_27 : decode M_A_untwist.2.1 27 = .ok (.getfield 16, 3) := by decide +kernel
theorem d_A_untwist_30 : decode M_A_untwist.2.1 30 = .ok (.iload_n 3, 1) := by decide +kernel
theorem d_A_untwist_31 : decode M_A_untwist.2.1 31 = .ok (.invokevirtual 163, 3) := by decide +kernel
theorem d_A_untwist_34 : decode M_A_untwist.2.1 34 = .ok (.istore 5, 2) := by decide +kernel
theorem d_A_untwist_36 : decode M_A_untwist.2.1 36 = .ok (.aload_n 0, 1) := by decide +kernel
theorem d_A_untwist_37 : decode M_A_untwist.2.1 37 = .ok (.getfield 16, 3) := by decide +kernel
theorem d_A_untwist_40 : decode M_A_untwist.2.1 40 = .ok (.iload 5, 2) := by decide +kernel
theorem d_A_untwist_42 : decode M_A_untwist.2.1 42 = .ok (.ifCond .eq (7), 3) := by decide +kernel
theorem d_A_untwist_45 : decode M_A_untwist.2.1 45 = .ok (.iload_n 3, 1) := by decide +kernel
theorem d_A_untwist_46 : decode M_A_untwist.2.1 46 = .ok (.goto (5), 3) := by decide +kernel
theorem d_A_untwist_49 : decode M_A_untwist.2.1 49 = .ok (.iload 4, 2) := by decide +kernel
theorem d_A_untwist_51 : decode M_A_untwist.2.1 51 = .ok (.invokevirtual 129, 3) := by decide +kernel
theorem d_A_untwist_54 : decode M_A_untwist.2.1 54 = .ok (.istore 6, 2) := by decide +kernel
theorem d_A_untwist_56 : decode M_A_untwist.2.1 56 = .ok (.aload_n 0, 1) := by decide +kernel
theorem d_A_untwist_57 : decode M_A_untwist.2.1 57 = .ok (.getfield 16, 3) := by decide +kernel
theorem d_A_untwist_60 : decode M_A_untwist.2.1 60 = .ok (.iload 5, 2) := by decide +kernel
theorem d_A_untwist_62 : decode M_A_untwist.2.1 62 = .ok (.ifCond .eq (8), 3) := by decide +kernel
theorem d_A_untwist_65 : decode M_A_untwist.2.1 65 = .ok (.iload 4, 2) := by decide +kernel
theorem d_A_untwist_67 : decode M_A_untwist.2.1 67 = .ok (.goto (4), 3) := by decide +kernel
theorem d_A_untwist_70 : decode M_A_untwist.2.1 70 = .ok (.iload_n 3, 1) := by decide +kernel
theorem d_A_untwist_71 : decode M_A_untwist.2.1 71 = .ok (.invokevirtual 129, 3) := by decide +kernel
theorem d_A_untwist_74 : decode M_A_untwist.2.1 74 = .ok (.istore 7, 2) := by decide +kernel
theorem d_A_untwist_76 : decode M_A_untwist.2.1 76 = .ok (.aload_n 0, 1) := by decide +kernel
theorem d_A_untwist_77 : decode M_A_untwist.2.1 77 = .ok (.getfield 16, 3) := by decide +kernel
theorem d_A_untwist_80 : decode M_A_untwist.2.1 80 = .ok (.iload_n 1, 1) := by decide +kernel
theorem d_A_untwist_81 : decode M_A_untwist.2.1 81 = .ok (.invokevirtual 73, 3) := by decide +kernel
theorem d_A_untwist_84 : decode M_A_untwist.2.1 84 = .ok (.aload_n 0, 1) := by decide +kernel
theorem d_A_untwist_85 : decode M_A_untwist.2.1 85 = .ok (.iload 6, 2) := by decide +kernel
theorem d_A_untwist_87 : decode M_A_untwist.2.1 87 = .ok (.iload 7, 2) := by decide +kernel
theorem d_A_untwist_89 : decode M_A_untwist.2.1 89 = .ok (.invokevirtual 166, 3) := by decide +kernel
theorem d_A_untwist_92 : decode M_A_untwist.2.1 92 = .ok (.iconst (1), 1) := by decide +kernel
theorem d_A_untwist_93 : decode M_A_untwist.2.1 93 = .ok (.ireturn, 1) := by decide +kernel
theorem d_A_loopEnd_0 : decode M_A_loopEnd.2.1 0 = .ok (.aload_n 0, 1) := by decide +kernel
theorem d_A_loopEnd_1 : decode M_A_loopEnd.2.1 1 = .ok (.getfield 16, 3) := by decide +kernel
theorem d_A_loopEnd_4 : decode M_A_loopEnd.2.1 4 = .ok (.iload_n 1, 1) := by decide +kernel
theorem d_A_loopEnd_5 : decode M_A_loopEnd.2.1 5 = .ok (.invokevirtual 123, 3) := by decide +kernel
theorem d_A_loopEnd_8 : decode M_A_loopEnd.2.1 8 = .ok (.ifCond .ne (5), 3) := by decide +kernel
theorem d_A_loopEnd_11 : decode M_A_loopEnd.2.1 11 = .ok (.iconst (-1), 1) := by decide +kernel
theorem d_A_loopEnd_12 : decode M_A_loopEnd.2.1 12 = .ok (.ireturn, 1) := by decide +kernel
theorem d_A_loopEnd_13 : decode M_A_loopEnd.2.1 13 = .ok (.iconst (4), 1) := by decide +kernel
theorem d_A_loopEnd_14 : decode M_A_loopEnd.2.1 14 = .ok (.iload_n 1, 1) := by decide +kernel
theorem d_A_loopEnd_15 : decode M_A_loopEnd.2.1 15 = .ok (.imul, 1) := by decide +kernel
theorem d_A_loopEnd_16 : decode M_A_loopEnd.2.1 16 = .ok (.istore_n 2, 1) := by decide +kernel
theorem d_A_loopEnd_17 : decode M_A_loopEnd.2.1 17 = .ok (.iload_n 2, 1) := by decide +kernel
theorem d_A_loopEnd_18 : decode M_A_loopEnd.2.1 18 = .ok (.iconst (4), 1) := by decide +kernel
theorem d_A_loopEnd_19 : decode M_A_loopEnd.2.1 19 = .ok (.iload_n 1, 1) := by decide +kernel
theorem d_A_loopEnd_20 : decode M_A_loopEnd.2.1 20 = .ok (.imul, 1) := by decide +kernel
theorem d_A_loopEnd_21 : decode M_A_loopEnd.2.1 21 = .ok (.iconst (4), 1) := by decide +kernel
theorem d_A_loopEnd_22 : decode M_A_loopEnd.2.1 22 = .ok (.iadd, 1) := by decide +kernel
theorem d_A_loopEnd_23 : decode M_A_loopEnd.2.1 23 = .ok (.if_icmp .ge (34), 3) := by decide +kernel
theorem d_A_loopEnd_26 : decode M_A_loopEnd.2.1 26 = .ok (.aload_n 0, 1) := by decide +kernel
theorem d_A_loopEnd_27 : decode M_A_loopEnd.2.1 27 = .ok (.getfield 16, 3) := by decide +kernel
theorem d_A_loopEnd_30 : decode M_A_loopEnd.2.1 30 = .ok (.iload_n 2, 1) := by decide +kernel
theorem d_A_loopEnd_31 : decode M_A_loopEnd.2.1 31 = .ok (.invokevirtual 129, 3) := by decide +kernel
theorem d_A_loopEnd_34 : decode M_A_loopEnd.2.1 34 = .ok (.aload_n 0, 1) := by decide +kernel
theorem d_A_loopEnd_35 : decode M_A_loopEnd.2.1 35 = .ok (.getfield 16, 3) := by decide +kernel
theorem d_A_loopEnd_38 : decode M_A_loopEnd.2.1 38 = .ok (.iload_n 2, 1) := by decide +kernel
theorem d_A_loopEnd_39 : decode M_A_loopEnd.2.1 39 = .ok (.iconst (1), 1) := by decide +kernel
theorem d_A_loopEnd_40 : decode M_A_loopEnd.2.1 40 = .ok (.invokestatic 159, 3) := by decide +kernel
theorem d_A_loopEnd_43 : decode M_A_loopEnd.2.1 43 = .ok (.invokevirtual 129, 3) := by decide +kernel
theorem d_A_loopEnd_46 : decode M_A_loopEnd.2.1 46 = .ok (.if_icmp .ne (5), 3) := by decide +kernel
theorem d_A_loopEnd_49 : decode M_A_loopEnd.2.1 49 = .ok (.iload_n 2, 1) := by decide +kernel
theorem d_A_loopEnd_50 : decode M_A_loopEnd.2.1 50 = .ok (.ireturn, 1) := by decide +kernel
theorem d_A_loopEnd_51 : decode M_A_loopEnd.2.1 51 = .ok (.iinc 2 (1), 3) := by decide +kernel
theorem d_A_loopEnd_54 : decode M_A_loopEnd.2.1 54 = .ok (.goto (-37), 3) := by decide +kernel
theorem d_A_loopEnd_57 : decode M_A_loopEnd.2.1 57 = .ok (.iconst (-1), 1) := by decide +kernel
theorem d_A_loopEnd_58 : decode M_A_loopEnd.2.1 58 = .ok (.ireturn, 1) := by decide +kernel
theorem d_A_poke_0 : decode M_A_poke.2.1 0 = .ok (.aload_n 0, 1) := by decide +kernel
theorem d_A_poke_1 : decode M_A_poke.2.1 1 = .ok (.getfield 16, 3) := by decide +kernel
theorem d_A_poke_4 : decode M_A_poke.2.1 4 = .ok (.invokevirtual 69, 3) := by decide +kernel
theorem d_A_poke_7 : decode M_A_poke.2.1 7 = .ok (.bipush (6), 2) := by decide +kernel
theorem d_A_poke_9 : decode M_A_poke.2.1 9 = .ok (.if_icmp .gt (8), 3) := by decide +kernel
theorem d_A_poke_12 : decode M_A_poke.2.1 12 = .ok (.iload_n 1, 1) := by decide +kernel
theorem d_A_poke_13 : decode M_A_poke.2.1 13 = .ok (.iload_n 3, 1) := by decide +kernel
theorem d_A_poke_14 : decode M_A_poke.2.1 14 = .ok (.if_icmp .ne (5), 3) := by decide +kernel
theorem d_A_poke_17 : decode M_A_poke.2.1 17 = .ok (.iconst (0), 1) := by decide +kernel
theorem d_A_poke_18 : decode M_A_poke.2.1 18 = .ok (.ireturn, 1) := by decide +kernel
theorem d_A_poke_19 : decode M_A_poke.2.1 19 = .ok (.aload_n 0, 1) := by decide +kernel
theorem d_A_poke_20 : decode M_A_poke.2.1 20 = .ok (.getfield 16, 3) := by decide +kernel
theorem d_A_poke_23 : decode M_A_poke.2.1 23 = .ok (.iload_n 1, 1) := by decide +kernel
theorem d_A_poke_24 : decode M_A_poke.2.1 24 = .ok (.invokevirtual 150, 3) := by decide +kernel
theorem d_A_poke_27 : decode M_A_poke.2.1 27 = .ok (.ifCond .eq (14), 3) := by decide +kernel
theorem d_A_poke_30 : decode M_A_poke.2.1 30 = .ok (.aload_n 0, 1) := by decide +kernel
theorem d_A_poke_31 : decode M_A_poke.2.1 31 = .ok (.getfield 16, 3) := by decide +kernel
theorem d_A_poke_34 : decode M_A_poke.2.1 34 = .ok (.iload_n 3, 1) := by decide +kernel
theorem d_A_poke_35 : decode M_A_poke.2.1 35 = .ok (.invokevirtual 150, 3) := by decide +kernel
theorem d_A_poke_38 : decode M_A_poke.2.1 38 = .ok (.ifCond .ne (5), 3) := by decide +kernel
theorem d_A_poke_41 : decode M_A_poke.2.1 41 = .ok (.iconst (0), 1) := by decide +kernel
theorem d_A_poke_42 : decode M_A_poke.2.1 42 = .ok (.ireturn, 1) := by decide +kernel
theorem d_A_poke_43 : decode M_A_poke.2.1 43 = .ok (.aload_n 0, 1) := by decide +kernel
theorem d_A_poke_44 : decode M_A_poke.2.1 44 = .ok (.getfield 25, 3) := by decide +kernel
theorem d_A_poke_47 : decode M_A_poke.2.1 47 = .ok (.aload_n 0, 1) := by decide +kernel
theorem d_A_poke_48 : decode M_A_poke.2.1 48 = .ok (.getfield 16, 3) := by decide +kernel
theorem d_A_poke_51 : decode M_A_poke.2.1 51 = .ok (.aload_n 0, 1) := by decide +kernel
theorem d_A_poke_52 : decode M_A_poke.2.1 52 = .ok (.getfield 16, 3) := by decide +kernel
theorem d_A_poke_55 : decode M_A_poke.2.1 55 = .ok (.iload_n 1, 1) := by decide +kernel
theorem d_A_poke_56 : decode M_A_poke.2.1 56 = .ok (.iload_n 2, 1) := by decide +kernel
theorem d_A_poke_57 : decode M_A_poke.2.1 57 = .ok (.invokevirtual 169, 3) := by decide +kernel
theorem d_A_poke_60 : decode M_A_poke.2.1 60 = .ok (.aload_n 0, 1) := by decide +kernel
theorem d_A_poke_61 : decode M_A_poke.2.1 61 = .ok (.getfield 16, 3) := by decide +kernel
theorem d_A_poke_64 : decode M_A_poke.2.1 64 = .ok (.iload_n 3, 1) := by decide +kernel
theorem d_A_poke_65 : decode M_A_poke.2.1 65 = .ok (.iload 4, 2) := by decide +kernel
theorem d_A_poke_67 : decode M_A_poke.2.1 67 = .ok (.invokevirtual 169, 3) := by decide +kernel
theorem d_A_poke_70 : decode M_A_poke.2.1 70 = .ok (.invokevirtual 173, 3) := by decide +kernel
theorem d_A_poke_73 : decode M_A_poke.2.1 73 = .ok (.ifCond .ne (5), 3) := by decide +kernel
theorem d_A_poke_76 : decode M_A_poke.2.1 76 = .ok (.iconst (0), 1) := by decide +kernel
theorem d_A_poke_77 : decode M_A_poke.2.1 77 = .ok (.ireturn, 1) := by decide +kernel
theorem d_A_poke_78 : decode M_A_poke.2.1 78 = .ok (.aload_n 0, 1) := by decide +kernel
theorem d_A_poke_79 : decode M_A_poke.2.1 79 = .ok (.iconst (0), 1) := by decide +kernel
theorem d_A_poke_80 : decode M_A_poke.2.1 80 = .ok (.invokevirtual 143, 3) := by decide +kernel
theorem d_A_poke_83 : decode M_A_poke.2.1 83 = .ok (.istore 5, 2) := by decide +kernel
theorem d_A_poke_85 : decode M_A_poke.2.1 85 = .ok (.aload_n 0, 1) := by decide +kernel
theorem d_A_poke_86 : decode M_A_poke.2.1 86 = .ok (.iconst (1), 1) := by decide +kernel
theorem d_A_poke_87 : decode M_A_poke.2.1 87 = .ok (.invokevirtual 143, 3) := by decide +kernel
theorem d_A_poke_90 : decode M_A_poke.2.1 90 = .ok (.istore 6, 2) := by decide +kernel
theorem d_A_poke_92 : decode M_A_poke.2.1 92 = .ok (.aload_n 0, 1) := by decide +kernel
theorem d_A_poke_93 : decode M_A_poke.2.1 93 = .ok (.iconst (2), 1) := by decide +kernel
theorem d_A_poke_94 : decode M_A_poke.2.1 94 = .ok (.invokevirtual 143, 3) := by decide +kernel
theorem d_A_poke_97 : decode M_A_poke.2.1 97 = .ok (.istore 7, 2) := by decide +kernel
theorem d_A_poke_99 : decode M_A_poke.2.1 99 = .ok (.aload_n 0, 1) := by decide +kernel
theorem d_A_poke_100 : decode M_A_poke.2.1 100 = .ok (.iconst (3), 1) := by decide +kernel
theorem d_A_poke_101 : decode M_A_poke.2.1 101 = .ok (.invokevirtual 143, 3) := by decide +kernel
theorem d_A_poke_104 : decode M_A_poke.2.1 104 = .ok (.istore 8, 2) := by decide +kernel
theorem d_A_poke_106 : decode M_A_poke.2.1 106 = .ok (.aload_n 0, 1) := by decide +kernel
theorem d_A_poke_107 : decode M_A_poke.2.1 107 = .ok (.getfield 16, 3) := by decide +kernel
theorem d_A_poke_110 : decode M_A_poke.2.1 110 = .ok (.iload 6, 2) := by decide +kernel
theorem d_A_poke_112 : decode M_A_poke.2.1 112 = .ok (.iload_n 1, 1) := by decide +kernel
theorem d_A_poke_113 : decode M_A_poke.2.1 113 = .ok (.invokevirtual 153, 3) := by decide +kernel
theorem d_A_poke_116 : decode M_A_poke.2.1 116 = .ok (.aload_n 0, 1) := by decide +kernel
theorem d_A_poke_117 : decode M_A_poke.2.1 117 = .ok (.getfield 16, 3) := by decide +kernel
theorem d_A_poke_120 : decode M_A_poke.2.1 120 = .ok (.iload 8, 2) := by decide +kernel
theorem d_A_poke_122 : decode M_A_poke.2.1 122 = .ok (.iload_n 3, 1) := by decide +kernel
theorem d_A_poke_123 : decode M_A_poke.2.1 123 = .ok (.invokevirtual 153, 3) := by decide +kernel
theorem d_A_poke_126 : decode M_A_poke.2.1 126 = .ok (.iload_n 2, 1) := by decide +kernel
theorem d_A_poke_127 : decode M_A_poke.2.1 127 = .ok (.ifCond .eq (41), 3) := by decide +kernel
theorem d_A_poke_130 : decode M_A_poke.2.1 130 = .ok (.iload 4, 2) := by decide +kernel
theorem d_A_poke_132 : decode M_A_poke.2.1 132 = .ok (.ifCond .eq (36), 3) := by decide +kernel
theorem d_A_poke_135 : decode M_A_poke.2.1 135 = .ok (.aload_n 0, 1) := by decide +kernel
theorem d_A_poke_136 : decode M_A_poke.2.1 136 = .ok (.getfield 16, 3) := by decide +kernel
theorem d_A_poke_139 : decode M_A_poke.2.1 139 = .ok (.iload 7, 2) := by decide +kernel
theorem d_A_poke_141 : decode M_A_poke.2.1 141 = .ok (.iload_n 1, 1) := by decide +kernel
theorem d_A_poke_142 : decode M_A_poke.2.1 142 = .ok (.iload 8, 2) := by decide +kernel
theorem d_A_poke_144 : decode M_A_poke.2.1 144 = .ok (.iload 5, 2) := by decide +kernel
theorem d_A_poke_146 : decode M_A_poke.2.1 146 = .ok (.iconst (0), 1) := by decide +kernel
theorem d_A_poke_147 : decode M_A_poke.2.1 147 = .ok (.invokevirtual 65, 3) := by decide +kernel
theorem d_A_poke_150 : decode M_A_poke.2.1 150 = .ok (.aload_n 0, 1) := by decide +kernel
theorem d_A_poke_151 : decode M_A_poke.2.1 151 = .ok (.getfield 16, 3) := by decide +kernel
theorem d_A_poke_154 : decode M_A_poke.2.1 154 = .ok (.iload_n 3, 1) := by decide +kernel
theorem d_A_poke_155 : decode M_A_poke.2.1 155 = .ok (.iload 6, 2) := by decide +kernel
theorem d_A_poke_157 : decode M_A_poke.2.1 157 = .ok (.iload 7, 2) := by decide +kernel
theorem d_A_poke_159 : decode M_A_poke.2.1 159 = .ok (.iload 5, 2) := by decide +kernel
theorem d_A_poke_161 : decode M_A_poke.2.1 161 = .ok (.iconst (1), 1) := by decide +kernel
theorem d_A_poke_162 : decode M_A_poke.2.1 162 = .ok (.invokevirtual 65, 3) := by decide +kernel
theorem d_A_poke_165 : decode M_A_poke.2.1 165 = .ok (.goto (108), 3) := by decide +kernel
theorem d_A_poke_168 : decode M_A_poke.2.1 168 = .ok (.iload_n 2, 1) := by decide +kernel
theorem d_A_poke_169 : decode M_A_poke.2.1 169 = .ok (.ifCond .eq (36), 3) := by decide +kernel
theorem d_A_poke_172 : decode M_A_poke.2.1 172 = .ok (.aload_n 0, 1) := by decide +kernel
theorem d_A_poke_173 : decode M_A_poke.2.1 173 = .ok (.getfield 16, 3) := by decide +kernel
theorem d_A_poke_176 : decode M_A_poke.2.1 176 = .ok (.iload_n 3, 1) := by decide +kernel
theorem d_A_poke_177 : decode M_A_poke.2.1 177 = .ok (.iload 5, 2) := by decide +kernel
theorem d_A_poke_179 : decode M_A_poke.2.1 179 = .ok (.iload 7, 2) := by decide +kernel
theorem d_A_poke_181 : decode M_A_poke.2.1 181 = .ok (.iload_n 1, 1) := by decide +kernel
theorem d_A_poke_182 : decode M_A_poke.2.1 182 = .ok (.iconst (1), 1) := by decide +kernel
theorem d_A_poke_183 : decode M_A_poke.2.1 183 = .ok (.invokevirtual 65, 3) := by decide +kernel
theorem d_A_poke_186 : decode M_A_poke.2.1 186 = .ok (.aload_n 0, 1) := by decide +kernel
theorem d_A_poke_187 : decode M_A_poke.2.1 187 = .ok (.getfield 16, 3) := by decide +kernel
theorem d_A_poke_190 : decode M_A_poke.2.1 190 = .ok (.iload 7, 2) := by decide +kernel
theorem d_A_poke_192 : decode M_A_poke.2.1 192 = .ok (.iload 5, 2) := by decide +kernel
theorem d_A_poke_194 : decode M_A_poke.2.1 194 = .ok (.iload 8, 2) := by decide +kernel
theorem d_A_poke_196 : decode M_A_poke.2.1 196 = .ok (.iload 6, 2) := by decide +kernel
theorem d_A_poke_198 : decode M_A_poke.2.1 198 = .ok (.iconst (0), 1) := by decide +kernel
theorem d_A_poke_199 : decode M_A_poke.2.1 199 = .ok (.invokevirtual 65, 3) := by decide +kernel
theorem d_A_poke_202 : decode M_A_poke.2.1 202 = .ok (.goto (71), 3) := by decide +kernel
theorem d_A_poke_205 : decode M_A_poke.2.1 205 = .ok (.iload 4, 2) := by decide +kernel
theorem d_A_poke_207 : decode M_A_poke.2.1 207 = .ok (.ifCond .eq (36), 3) := by decide +kernel
theorem d_A_poke_210 : decode M_A_poke.2.1 210 = .ok (.aload_n 0, 1) := by decide +kernel
theorem d_A_poke_211 : decode M_A_poke.2.1 211 = .ok (.getfield 16, 3) := by decide +kernel
theorem d_A_poke_214 : decode M_A_poke.2.1 214 = .ok (.iload_n 3, 1) := by decide +kernel
theorem d_A_poke_215 : decode M_A_poke.2.1 215 = .ok (.iload_n 1, 1) := by decide +kernel
theorem d_A_poke_216 : decode M_A_poke.2.1 216 = .ok (.iload 7, 2) := by decide +kernel
theorem d_A_poke_218 : decode M_A_poke.2.1 218 = .ok (.iload 5, 2) := by decide +kernel
theorem d_A_poke_220 : decode M_A_poke.2.1 220 = .ok (.iconst (0), 1) := by decide +kernel
theorem d_A_poke_221 : decode M_A_poke.2.1 221 = .ok (.invokevirtual 65, 3) := by decide +kernel
theorem d_A_poke_224 : decode M_A_poke.2.1 224 = .ok (.aload_n 0, 1) := by decide +kernel
theorem d_A_poke_225 : decode M_A_poke.2.1 225 = .ok (.getfield 16, 3) := by decide +kernel
theorem d_A_poke_228 : decode M_A_poke.2.1 228 = .ok (.iload 7, 2) := by decide +kernel
theorem d_A_poke_230 : decode M_A_poke.2.1 230 = .ok (.iload 6, 2) := by decide +kernel
theorem d_A_poke_232 : decode M_A_poke.2.1 232 = .ok (.iload 8, 2) := by decide +kernel
theorem d_A_poke_234 : decode M_A_poke.2.1 234 = .ok (.iload 5, 2) := by decide +kernel
theorem d_A_poke_236 : decode M_A_poke.2.1 236 = .ok (.iconst (1), 1) := by decide +kernel
theorem d_A_poke_237 : decode M_A_poke.2.1 237 = .ok (.invokevirtual 65, 3) := by decide +kernel
theorem d_A_poke_240 : decode M_A_poke.2.1 240 = .ok (.goto (33), 3) := by decide +kernel
theorem d_A_poke_243 : decode M_A_poke.2.1 243 = .ok (.aload_n 0, 1) := by decide +kernel
theorem d_A_poke_244 : decode M_A_poke.2.1 244 = .ok (.getfield 16, 3) := by decide +kernel
theorem d_A_poke_247 : decode M_A_poke.2.1 247 = .ok (.iload 7, 2) := by decide +kernel
theorem d_A_poke_249 : decode M_A_poke.2.1 249 = .ok (.iload 5, 2) := by decide +kernel
theorem d_A_poke_251 : decode M_A_poke.2.1 251 = .ok (.iload 8, 2) := by decide +kernel
theorem d_A_poke_253 : decode M_A_poke.2.1 253 = .ok (.iload_n 1, 1) := by decide +kernel
theorem d_A_poke_254 : decode M_A_poke.2.1 254 = .ok (.iconst (1), 1) := by decide +kernel
theorem d_A_poke_255 : decode M_A_poke.2.1 255 = .ok (.invokevirtual 65, 3) := by decide +kernel
theorem d_A_poke_258 : decode M_A_poke.2.1 258 = .ok (.aload_n 0, 1) := by decide +kernel
theorem d_A_poke_259 : decode M_A_poke.2.1 259 = .ok (.getfield 16, 3) := by decide +kernel
theorem d_A_poke_262 : decode M_A_poke.2.1 262 = .ok (.iload_n 3, 1) := by decide +kernel
theorem d_A_poke_263 : decode M_A_poke.2.1 263 = .ok (.iload 5, 2) := by decide +kernel
theorem d_A_poke_265 : decode M_A_poke.2.1 265 = .ok (.iload 7, 2) := by decide +kernel
theorem d_A_poke_267 : decode M_A_poke.2.1 267 = .ok (.iload 6, 2) := by decide +kernel
theorem d_A_poke_269 : decode M_A_poke.2.1 269 = .ok (.iconst (0), 1) := by decide +kernel
theorem d_A_poke_270 : decode M_A_poke.2.1 270 = .ok (.invokevirtual 65, 3) := by decide +kernel
theorem d_A_poke_273 : decode M_A_poke.2.1 273 = .ok (.iconst (1), 1) := by decide +kernel
theorem d_A_poke_274 : decode M_A_poke.2.1 274 = .ok (.ireturn, 1) := by decide +kernel
theorem d_A_unpoke_0 : decode M_A_unpoke.2.1 0 = .ok (.iload_n 1, 1) := by decide +kernel
theorem d_A_unpoke_1 : decode M_A_unpoke.2.1 1 = .ok (.iload_n 2, 1) := by decide +kernel
theorem d_A_unpoke_2 : decode M_A_unpoke.2.1 2 = .ok (.if_icmp .eq (25), 3) := by decide +kernel
theorem d_A_unpoke_5 : decode M_A_unpoke.2.1 5 = .ok (.aload_n 0, 1) := by decide +kernel
theorem d_A_unpoke_6 : decode M_A_unpoke.2.1 6 = .ok (.getfield 16, 3) := by decide +kernel
theorem d_A_unpoke_9 : decode M_A_unpoke.2.1 9 = .ok (.iload_n 1, 1) := by decide +kernel
theorem d_A_unpoke_10 : decode M_A_unpoke.2.1 10 = .ok (.invokevirtual 123, 3) := by decide +kernel
theorem d_A_unpoke_13 : decode M_A_unpoke.2.1 13 = .ok (.ifCond .eq (14), 3) := by decide +kernel
theorem d_A_unpoke_16 : decode M_A_unpoke.2.1 16 = .ok (.aload_n 0, 1) := by decide +kernel
theorem d_A_unpoke_17 : decode M_A_unpoke.2.1 17 = .ok (.getfield 16, 3) := by decide +kernel
theorem d_A_unpoke_20 : decode M_A_unpoke.2.1 20 = .ok (.iload_n 2, 1) := by decide +kernel
theorem d_A_unpoke_21 : decode M_A_unpoke.2.1 21 = .ok (.invokevirtual 123, 3) := by decide +kernel
theorem d_A_unpoke_24 : decode M_A_unpoke.2.1 24 = .ok (.ifCond .ne (5), 3) := by decide +kernel
theorem d_A_unpoke_27 : decode M_A_unpoke.2.1 27 = .ok (.iconst (0), 1) := by decide +kernel
theorem d_A_unpoke_28 : decode M_A_unpoke.2.1 28 = .ok (.ireturn, 1) := by decide +kernel
theorem d_A_unpoke_29 : decode M_A_unpoke.2.1 29 = .ok (.iconst (4), 1) := by decide +kernel
theorem d_A_unpoke_30 : decode M_A_unpoke.2.1 30 = .ok (.iload_n 1, 1) := by decide +kernel
theorem d_A_unpoke_31 : decode M_A_unpoke.2.1 31 = .ok (.imul, 1) := by decide +kernel
theorem d_A_unpoke_32 : decode M_A_unpoke.2.1 32 = .ok (.istore_n 3, 1) := by decide +kernel
theorem d_A_unpoke_33 : decode M_A_unpoke.2.1 33 = .ok (.iload_n 3, 1) := by decide +kernel
theorem d_A_unpoke_34 : decode M_A_unpoke.2.1 34 = .ok (.iconst (4), 1) := by decide +kernel
theorem d_A_unpoke_35 : decode M_A_unpoke.2.1 35 = .ok (.iload_n 1, 1) := by decide +kernel
theorem d_A_unpoke_36 : decode M_A_unpoke.2.1 36 = .ok (.imul, 1) := by decide +kernel
theorem d_A_unpoke_37 : decode M_A_unpoke.2.1 37 = .ok (.iconst (4), 1) := by decide +kernel
theorem d_A_unpoke_38 : decode M_A_unpoke.2.1 38 = .ok (.iadd, 1) := by decide +kernel
theorem d_A_unpoke_39 : decode M_A_unpoke.2.1 39 = .ok (.if_icmp .ge (33), 3) := by decide +kernel
theorem d_A_unpoke_42 : decode M_A_unpoke.2.1 42 = .ok (.aload_n 0, 1) := by decide +kernel
theorem d_A_unpoke_43 : decode M_A_unpoke.2.1 43 = .ok (.iload_n 3, 1) := by decide +kernel
theorem d_A_unpoke_44 : decode M_A_unpoke.2.1 44 = .ok (.iload_n 2, 1) := by decide +kernel
theorem d_A_unpoke_45 : decode M_A_unpoke.2.1 45 = .ok (.invokevirtual 177, 3) := by decide +kernel
theorem d_A_unpoke_48 : decode M_A_unpoke.2.1 48 = .ok (.ifCond .eq (18), 3) := by decide +kernel
theorem d_A_unpoke_51 : decode M_A_unpoke.2.1 51 = .ok (.aload_n 0, 1) := by decide +kernel
theorem d_A_unpoke_52 : decode M_A_unpoke.2.1 52 = .ok (.iload_n 3, 1) := by decide +kernel
theorem d_A_unpoke_53 : decode M_A_unpoke.2.1 53 = .ok (.aload_n 0, 1) := by decide +kernel
theorem d_A_unpoke_54 : decode M_A_unpoke.2.1 54 = .ok (.getfield 16, 3) := by decide +kernel
theorem d_A_unpoke_57 : decode M_A_unpoke.2.1 57 = .ok (.iload_n 3, 1) := by decide +kernel
theorem d_A_unpoke_58 : decode M_A_unpoke.2.1 58 = .ok (.invokevirtual 181, 3) := by decide +kernel
theorem d_A_unpoke_61 : decode M_A_unpoke.2.1 61 = .ok (.invokevirtual 184, 3) := by decide +kernel
theorem d_A_unpoke_64 : decode M_A_unpoke.2.1 64 = .ok (.iconst (1), 1) := by decide +kernel
theorem d_A_unpoke_65 : decode M_A_unpoke.2.1 65 = .ok (.ireturn, 1) := by decide +kernel
theorem d_A_unpoke_66 : decode M_A_unpoke.2.1 66 = .ok (.iinc 3 (1), 3) := by decide +kernel
theorem d_A_unpoke_69 : decode M_A_unpoke.2.1 69 = .ok (.goto (-36), 3) := by decide +kernel
theorem d_A_unpoke_72 : decode M_A_unpoke.2.1 72 = .ok (.iconst (0), 1) := by decide +kernel
theorem d_A_unpoke_73 : decode M_A_unpoke.2.1 73 = .ok (.ireturn, 1) := by decide +kernel
theorem d_A_isPokedFace_0 : decode M_A_isPokedFace.2.1 0 = .ok (.aload_n 0, 1) := by decide +kernel
theorem d_A_isPokedFace_1 : decode M_A_isPokedFace.2.1 1 = .ok (.getfield 16, 3) := by decide +kernel
theorem d_A_isPokedFace_4 : decode M_A_isPokedFace.2.1 4 = .ok (.iload_n 1, 1) := by decide +kernel
theorem d_A_isPokedFace_5 : decode M_A_isPokedFace.2.1 5 = .ok (.invokevirtual 181, 3) := by decide +kernel
theorem d_A_isPokedFace_8 : decode M_A_isPokedFace.2.1 8 = .ok (.istore_n 3, 1) := by decide +kernel
theorem d_A_isPokedFace_9 : decode M_A_isPokedFace.2.1 9 = .ok (.iload_n 3, 1) := by decide +kernel
theorem d_A_isPokedFace_10 : decode M_A_isPokedFace.2.1 10 = .ok (.invokestatic 187, 3) := by decide +kernel
theorem d_A_isPokedFace_13 : decode M_A_isPokedFace.2.1 13 = .ok (.iload_n 2, 1) := by decide +kernel
theorem d_A_isPokedFace_14 : decode M_A_isPokedFace.2.1 14 = .ok (.if_icmp .ne (15), 3) := by decide +kernel
theorem d_A_isPokedFace_17 : decode M_A_isPokedFace.2.1 17 = .ok (.aload_n 0, 1) := by decide +kernel
theorem d_A_isPokedFace_18 : decode M_A_isPokedFace.2.1 18 = .ok (.getfield 16, 3) := by decide +kernel
theorem d_A_isPokedFace_21 : decode M_A_isPokedFace.2.1 21 = .ok (.iload_n 3, 1) := by decide +kernel
theorem d_A_isPokedFace_22 : decode M_A_isPokedFace.2.1 22 = .ok (.invokevirtual 181, 3) := by decide +kernel
theorem d_A_isPokedFace_25 : decode M_A_isPokedFace.2.1 25 = .ok (.iload_n 1, 1) := by decide +kernel
theorem d_A_isPokedFace_26 : decode M_A_isPokedFace.2.1 26 = .ok (.if_icmp .eq (5), 3) := by decide +kernel
theorem d_A_isPokedFace_29 : decode M_A_isPokedFace.2.1 29 = .ok (.iconst (0), 1) := by decide +kernel
theorem d_A_isPokedFace_30 : decode M_A_isPokedFace.2.1 30 = .ok (.ireturn, 1) := by decide +kernel
theorem d_A_isPokedFace_31 : decode M_A_isPokedFace.2.1 31 = .ok (.iload_n 1, 1) := by decide +kernel
theorem d_A_isPokedFace_32 : decode M_A_isPokedFace.2.1 32 = .ok (.invokestatic 190, 3) := by decide +kernel
theorem d_A_isPokedFace_35 : decode M_A_isPokedFace.2.1 35 = .ok (.aload_n 0, 1) := by decide +kernel
theorem d_A_isPokedFace_36 : decode M_A_isPokedFace.2.1 36 = .ok (.getfield 16, 3) := by decide +kernel
theorem d_A_isPokedFace_39 : decode M_A_isPokedFace.2.1 39 = .ok (.iload_n 1, 1) := by decide +kernel
theorem d_A_isPokedFace_40 : decode M_A_isPokedFace.2.1 40 = .ok (.invokevirtual 193, 3) := by decide +kernel
theorem d_A_isPokedFace_43 : decode M_A_isPokedFace.2.1 43 = .ok (.invokestatic 190, 3) := by decide +kernel
theorem d_A_isPokedFace_46 : decode M_A_isPokedFace.2.1 46 = .ok (.if_icmp .ne (7), 3) := by decide +kernel
theorem d_A_isPokedFace_49 : decode M_A_isPokedFace.2.1 49 = .ok (.iconst (1), 1) := by decide +kernel
theorem d_A_isPokedFace_50 : decode M_A_isPokedFace.2.1 50 = .ok (.goto (4), 3) := by decide +kernel
theorem d_A_isPokedFace_53 : decode M_A_isPokedFace.2.1 53 = .ok (.iconst (0), 1) := by decide +kernel
theorem d_A_isPokedFace_54 : decode M_A_isPokedFace.2.1 54 = .ok (.ireturn, 1) := by decide +kernel
theorem d_A_pullApart_0 : decode M_A_pullApart.2.1 0 = .ok (.iload_n 1, 1) := by decide +kernel
theorem d_A_pullApart_1 : decode M_A_pullApart.2.1 1 = .ok (.invokestatic 190, 3) := by decide +kernel
theorem d_A_pullApart_4 : decode M_A_pullApart.2.1 4 = .ok (.ifCond .eq (7), 3) := by decide +kernel
theorem d_A_pullApart_7 : decode M_A_pullApart.2.1 7 = .ok (.iload_n 1, 1) := by decide +kernel
theorem d_A_pullApart_8 : decode M_A_pullApart.2.1 8 = .ok (.goto (4), 3) := by decide +kernel
theorem d_A_pullApart_11 : decode M_A_pullApart.2.1 11 = .ok (.iload_n 2, 1) := by decide +kernel
theorem d_A_pullApart_12 : decode M_A_pullApart.2.1 12 = .ok (.istore_n 3, 1) := by decide +kernel
theorem d_A_pullApart_13 : decode M_A_pullApart.2.1 13 = .ok (.iload_n 1, 1) := by decide +kernel
theorem d_A_pullApart_14 : decode M_A_pullApart.2.1 14 = .ok (.invokestatic 190, 3) := by decide +kernel
theorem d_A_pullApart_17 : decode M_A_pullApart.2.1 17 = .ok (.ifCond .eq (7), 3) := by decide +kernel
theorem d_A_pullApart_20 : decode M_A_pullApart.2.1 20 = .ok (.iload_n 2, 1) := by decide +kernel
theorem d_A_pullApart_21 : decode M_A_pullApart.2.1 21 = .ok (.goto (4), 3) := by decide +kernel
theorem d_A_pullApart_24 : decode M_A_pullApart.2.1 24 = .ok (.iload_n 1, 1) := by decide +kernel
theorem d_A_pullApart_25 : decode M_A_pullApart.2.1 25 = .ok (.istore 4, 2) := by decide +kernel
theorem d_A_pullApart_27 : decode M_A_pullApart.2.1 27 = .ok (.aload_n 0, 1) := by decide +kernel
theorem d_A_pullApart_28 : decode M_A_pullApart.2.1 28 = .ok (.getfield 16, 3) := by decide +kernel
theorem d_A_pullApart_31 : decode M_A_pullApart.2.1 31 = .ok (.iload_n 3, 1) := by decide +kernel
theorem d_A_pullApart_32 : decode M_A_pullApart.2.1 32 = .ok (.invokevirtual 196, 3) := by decide +kernel
theorem d_A_pullApart_35 : decode M_A_pullApart.2.1 35 = .ok (.istore 5, 2) := by decide +kernel
theorem d_A_pullApart_37 : decode M_A_pullApart.2.1 37 = .ok (.aload_n 0, 1) := by decide +kernel
theorem d_A_pullApart_38 : decode M_A_pullApart.2.1 38 = .ok (.getfield 16, 3) := by decide +kernel
theorem d_A_pullApart_41 : decode M_A_pullApart.2.1 41 = .ok (.iload_n 3, 1) := by decide +kernel
theorem d_A_pullApart_42 : decode M_A_pullApart.2.1 42 = .ok (.invokevirtual 199, 3) := by decide +kernel
theorem d_A_pullApart_45 : decode M_A_pullApart.2.1 45 = .ok (.istore 6, 2) := by decide +kernel
theorem d_A_pullApart_47 : decode M_A_pullApart.2.1 47 = .ok (.aload_n 0, 1) := by decide +kernel
theorem d_A_pullApart_48 : decode M_A_pullApart.2.1 48 = .ok (.getfield 16, 3) := by decide +kernel
theorem d_A_pullApart_51 : decode M_A_pullApart.2.1 51 = .ok (.iload 4, 2) := by decide +kernel
theorem d_A_pullApart_53 : decode M_A_pullApart.2.1 53 = .ok (.invokevirtual 196, 3) := by decide +kernel
theorem d_A_pullApart_56 : decode M_A_pullApart.2.1 56 = .ok (.istore 7, 2) := by decide +kernel
theorem d_A_pullApart_58 : decode M_A_pullApart.2.1 58 = .ok (.aload_n 0, 1) := by decide +kernel
theorem d_A_pullApart_59 : decode M_A_pullApart.2.1 59 = .ok (.getfield 16, 3) := by decide +kernel
theorem d_A_pullApart_62 : decode M_A_pullApart.2.1 62 = .ok (.iload 4, 2) := by decide +kernel
theorem d_A_pullApart_64 : decode M_A_pullApart.2.1 64 = .ok (.invokevirtual 199, 3) := by decide +kernel
theorem d_A_pullApart_67 : decode M_A_pullApart.2.1 67 = .ok (.istore 8, 2) := by decide +kernel
theorem d_A_pullApart_69 : decode M_A_pullApart.2.1 69 = .ok (.aload_n 0, 1) := by decide +kernel
theorem d_A_pullApart_70 : decode M_A_pullApart.2.1 70 = .ok (.getfield 16, 3) := by decide +kernel
theorem d_A_pullApart_73 : decode M_A_pullApart.2.1 73 = .ok (.iload_n 1, 1) := by decide +kernel
theorem d_A_pullApart_74 : decode M_A_pullApart.2.1 74 = .ok (.invokestatic 187, 3) := by decide +kernel
theorem d_A_pullApart_77 : decode M_A_pullApart.2.1 77 = .ok (.iload_n 2, 1) := by decide +kernel
theorem d_A_pullApart_78 : decode M_A_pullApart.2.1 78 = .ok (.invokestatic 187, 3) := by decide +kernel
theorem d_A_pullApart_81 : decode M_A_pullApart.2.1 81 = .ok (.invokestatic 202, 3) := by decide +kernel
theorem d_A_pullApart_84 : decode M_A_pullApart.2.1 84 = .ok (.invokevirtual 73, 3) := by decide +kernel
theorem d_A_pullApart_87 : decode M_A_pullApart.2.1 87 = .ok (.aload_n 0, 1) := by decide +kernel
theorem d_A_pullApart_88 : decode M_A_pullApart.2.1 88 = .ok (.getfield 16, 3) := by decide +kernel
theorem d_A_pullApart_91 : decode M_A_pullApart.2.1 91 = .ok (.iload_n 1, 1) := by decide +kernel
theorem d_A_pullApart_92 : decode M_A_pullApart.2.1 92 = .ok (.invokestatic 187, 3) := by decide +kernel
theorem d_A_pullApart_95 : decode M_A_pullApart.2.1 95 = .ok (.iload_n 2, 1) := by decide +kernel
theorem d_A_pullApart_96 : decode M_A_pullApart.2.1 96 = .ok (.invokestatic 187, 3) := by decide +kernel
theorem d_A_pullApart_99 : decode M_A_pullApart.2.1 99 = .ok (.invokestatic 205, 3) := by decide +kernel
theorem d_A_pullApart_102 : decode M_A_pullApart.2.1 102 = .ok (.invokevirtual 73, 3) := by decide +kernel
theorem d_A_pullApart_105 : decode M_A_pullApart.2.1 105 = .ok (.aload_n 0, 1) := by decide +kernel
theorem d_A_pullApart_106 : decode M_A_pullApart.2.1 106 = .ok (.iload 5, 2) := by decide +kernel
theorem d_A_pullApart_108 : decode M_A_pullApart.2.1 108 = .ok (.iload 6, 2) := by decide +kernel
theorem d_A_pullApart_110 : decode M_A_pullApart.2.1 110 = .ok (.invokevirtual 166, 3) := by decide +kernel
theorem d_A_pullApart_113 : decode M_A_pullApart.2.1 113 = .ok (.aload_n 0, 1) := by decide +kernel
theorem d_A_pullApart_114 : decode M_A_pullApart.2.1 114 = .ok (.iload 7, 2) := by decide +kernel
theorem d_A_pullApart_116 : decode M_A_pullApart.2.1 116 = .ok (.iload 6, 2) := by decide +kernel
theorem d_A_pullApart_118 : decode M_A_pullApart.2.1 118 = .ok (.if_icmp .ne (8), 3) := by decide +kernel
theorem d_A_pullApart_121 : decode M_A_pullApart.2.1 121 = .ok (.iload 5, 2) := by decide +kernel
theorem d_A_pullApart_123 : decode M_A_pullApart.2.1 123 = .ok (.goto (5), 3) := by decide +kernel
theorem d_A_pullApart_126 : decode M_A_pullApart.2.1 126 = .ok (.iload 7, 2) := by decide +kernel
theorem d_A_pullApart_128 : decode M_A_pullApart.2.1 128 = .ok (.iload 8, 2) := by decide +kernel
theorem d_A_pullApart_130 : decode M_A_pullApart.2.1 130 = .ok (.iload 6, 2) := by decide +kernel
theorem d_A_pullApart_132 : decode M_A_pullApart.2.1 132 = .ok (.if_icmp .ne (8), 3) := by decide +kernel
theorem d_A_pullApart_135 : decode M_A_pullApart.2.1 135 = .ok (.iload 5, 2) := by decide +kernel
theorem d_A_pullApart_137 : decode M_A_pullApart.2.1 137 = .ok (.goto (5), 3) := by decide +kernel
theorem d_A_pullApart_140 : decode M_A_pullApart.2.1 140 = .ok (.iload 8, 2) := by decide +kernel
theorem d_A_pullApart_142 : decode M_A_pullApart.2.1 142 = .ok (.invokevirtual 166, 3) := by decide +kernel
theorem d_A_pullApart_145 : decode M_A_pullApart.2.1 145 = .ok (.return_, 1) := by decide +kernel
theorem d_A_slide_0 : decode M_A_slide.2.1 0 = .ok (.iload_n 1, 1) := by decide +kernel
theorem d_A_slide_1 : decode M_A_slide.2.1 1 = .ok (.iload_n 2, 1) := by decide +kernel
theorem d_A_slide_2 : decode M_A_slide.2.1 2 = .ok (.if_icmp .eq (13), 3) := by decide +kernel
theorem d_A_slide_5 : decode M_A_slide.2.1 5 = .ok (.iload_n 2, 1) := by decide +kernel
theorem d_A_slide_6 : decode M_A_slide.2.1 6 = .ok (.iload_n 3, 1) := by decide +kernel
theorem d_A_slide_7 : decode M_A_slide.2.1 7 = .ok (.if_icmp .eq (8), 3) := by decide +kernel
theorem d_A_slide_10 : decode M_A_slide.2.1 10 = .ok (.iload_n 1, 1) := by decide +kernel
theorem d_A_slide_11 : decode M_A_slide.2.1 11 = .ok (.iload_n 3, 1) := by decide +kernel
theorem d_A_slide_12 : decode M_A_slide.2.1 12 = .ok (.if_icmp .ne (5), 3) := by decide +kernel
theorem d_A_slide_15 : decode M_A_slide.2.1 15 = .ok (.iconst (0), 1) := by decide +kernel
theorem d_A_slide_16 : decode M_A_slide.2.1 16 = .ok (.ireturn, 1) := by decide +kernel
theorem d_A_slide_17 : decode M_A_slide.2.1 17 = .ok (.aload_n 0, 1) := by decide +kernel
theorem d_A_slide_18 : decode M_A_slide.2.1 18 = .ok (.getfield 16, 3) := by decide +kernel
theorem d_A_slide_21 : decode M_A_slide.2.1 21 = .ok (.iload_n 1, 1) := by decide +kernel
theorem d_A_slide_22 : decode M_A_slide.2.1 22 = .ok (.invokevirtual 123, 3) := by decide +kernel
theorem d_A_slide_25 : decode M_A_slide.2.1 25 = .ok (.ifCond .eq (25), 3) := by decide +kernel
theorem d_A_slide_28 : decode M_A_slide.2.1 28 = .ok (.aload_n 0, 1) := by decide +kernel
theorem d_A_slide_29 : decode M_A_slide.2.1 29 = .ok (.getfield 16, 3) := by decide +kernel
theorem d_A_slide_32 : decode M_A_slide.2.1 32 = .ok (.iload_n 2, 1) := by decide +kernel
theorem d_A_slide_33 : decode M_A_slide.2.1 33 = .ok (.invokevirtual 123, 3) := by decide +kernel
theorem d_A_slide_36 : decode M_A_slide.2.1 36 = .ok (.ifCond .eq (14), 3) := by decide +kernel
theorem d_A_slide_39 : decode M_A_slide.2.1 39 = .ok (.aload_n 0, 1) := by decide +kernel
theorem d_A_slide_40 : decode M_A_slide.2.1 40 = .ok (.getfield 16, 3) := by decide +kernel
theorem d_A_slide_43 : decode M_A_slide.2.1 43 = .ok (.iload_n 3, 1) := by decide +kernel
theorem d_A_slide_44 : decode M_A_slide.2.1 44 = .ok (.invokevirtual 123, 3) := by decide +kernel
theorem d_A_slide_47 : decode M_A_slide.2.1 47 = .ok (.ifCond .ne (5), 3) := by decide +kernel
theorem d_A_slide_50 : decode M_A_slide.2.1 50 = .ok (.iconst (0), 1) := by decide +kernel
theorem d_A_slide_51 : decode M_A_slide.2.1 51 = .ok (.ireturn, 1) := by decide +kernel
theorem d_A_slide_52 : decode M_A_slide.2.1 52 = .ok (.iconst (4), 1) := by decide +kernel
theorem d_A_slide_53 : decode M_A_slide.2.1 53 = .ok (.iload_n 1, 1) := by decide +kernel
theorem d_A_slide_54 : decode M_A_slide.2.1 54 = .ok (.imul, 1) := by decide +kernel
theorem d_A_slide_55 : decode M_A_slide.2.1 55 = .ok (.istore 4, 2) := by decide +kernel
theorem d_A_slide_57 : decode M_A_slide.2.1 57 = .ok (.iload 4, 2) := by decide +kernel
theorem d_A_slide_59 : decode M_A_slide.2.1 59 = .ok (.iconst (4), 1) := by decide +kernel
theorem d_A_slide_60 : decode M_A_slide.2.1 60 = .ok (.iload_n 1, 1) := by decide +kernel
theorem d_A_slide_61 : decode M_A_slide.2.1 61 = .ok (.imul, 1) := by decide +kernel
theorem d_A_slide_62 : decode M_A_slide.2.1 62 = .ok (.iconst (4), 1) := by decide +kernel
theorem d_A_slide_63 : decode M_A_slide.2.1 63 = .ok (.iadd, 1) := by decide +kernel
theorem d_A_slide_64 : decode M_A_slide.2.1 64 = .ok (.if_icmp .ge (28), 3) := by decide +kernel
theorem d_A_slide_67 : decode M_A_slide.2.1 67 = .ok (.aload_n 0, 1) := by decide +kernel
theorem d_A_slide_68 : decode M_A_slide.2.1 68 = .ok (.iload 4, 2) := by decide +kernel
theorem d_A_slide_70 : decode M_A_slide.2.1 70 = .ok (.iload_n 2, 1) := by decide +kernel
theorem d_A_slide_71 : decode M_A_slide.2.1 71 = .ok (.iload_n 3, 1) := by decide +kernel
theorem d_A_slide_72 : decode M_A_slide.2.1 72 = .ok (.invokevirtual 208, 3) := by decide +kernel
theorem d_A_slide_75 : decode M_A_slide.2.1 75 = .ok (.ifCond .eq (11), 3) := by decide +kernel
theorem d_A_slide_78 : decode M_A_slide.2.1 78 = .ok (.aload_n 0, 1) := by decide +kernel
theorem d_A_slide_79 : decode M_A_slide.2.1 79 = .ok (.iload 4, 2) := by decide +kernel
theorem d_A_slide_81 : decode M_A_slide.2.1 81 = .ok (.invokevirtual 212, 3) := by decide +kernel
theorem d_A_slide_84 : decode M_A_slide.2.1 84 = .ok (.iconst (1), 1) := by decide +kernel
theorem d_A_slide_85 : decode M_A_slide.2.1 85 = .ok (.ireturn, 1) := by decide +kernel
theorem d_A_slide_86 : decode M_A_slide.2.1 86 = .ok (.iinc 4 (1), 3) := by decide +kernel
theorem d_A_slide_89 : decode M_A_slide.2.1 89 = .ok (.goto (-32), 3) := by decide +kernel
theorem d_A_slide_92 : decode M_A_slide.2.1 92 = .ok (.iconst (0), 1) := by decide +kernel
theorem d_A_slide_93 : decode M_A_slide.2.1 93 = .ok (.ireturn, 1) := by decide +kernel
theorem d_A_isSlidingFace_0 : decode M_A_isSlidingFace.2.1 0 = .ok (.aload_n 0, 1) := by decide +kernel
theorem d_A_isSlidingFace_1 : decode M_A_isSlidingFace.2.1 1 = .ok (.getfield 16, 3) := by decide +kernel
theorem d_A_isSlidingFace_4 : decode M_A_isSlidingFace.2.1 4 = .ok (.iload_n 1, 1) := by decide +kernel
theorem d_A_isSlidingFace_5 : decode M_A_isSlidingFace.2.1 5 = .ok (.invokevirtual 181, 3) := by decide +kernel
theorem d_A_isSlidingFace_8 : decode M_A_isSlidingFace.2.1 8 = .ok (.istore 4, 2) := by decide +kernel
theorem d_A_isSlidingFace_10 : decode M_A_isSlidingFace.2.1 10 = .ok (.aload_n 0, 1) := by decide +kernel
theorem d_A_isSlidingFace_11 : decode M_A_isSlidingFace.2.1 11 = .ok (.getfield 16, 3) := by decide +kernel
theorem d_A_isSlidingFace_14 : decode M_A_isSlidingFace.2.1 14 = .ok (.iload 4, 2) := by decide +kernel
theorem d_A_isSlidingFace_16 : decode M_A_isSlidingFace.2.1 16 = .ok (.invokevirtual 181, 3) := by decide +kernel
theorem d_A_isSlidingFace_19 : decode M_A_isSlidingFace.2.1 19 = .ok (.istore 5, 2) := by decide +kernel
theorem d_A_isSlidingFace_21 : decode M_A_isSlidingFace.2.1 21 = .ok (.aload_n 0, 1) := by decide +kernel
theorem d_A_isSlidingFace_22 : decode M_A_isSlidingFace.2.1 22 = .ok (.getfield 16, 3) := by decide +kernel
theorem d_A_isSlidingFace_25 : decode M_A_isSlidingFace.2.1 25 = .ok (.iload 5, 2) := by decide +kernel
theorem d_A_isSlidingFace_27 : decode M_A_isSlidingFace.2.1 27 = .ok (.invokevirtual 181, 3) := by decide +kernel
theorem d_A_isSlidingFace_30 : decode M_A_isSlidingFace.2.1 30 = .ok (.iload_n 1, 1) := by decide +kernel
theorem d_A_isSlidingFace_31 : decode M_A_isSlidingFace.2.1 31 = .ok (.if_icmp .eq (5), 3) := by decide +kernel
theorem d_A_isSlidingFace_34 : decode M_A_isSlidingFace.2.1 34 = .ok (.iconst (0), 1) := by decide +kernel
theorem d_A_isSlidingFace_35 : decode M_A_isSlidingFace.2.1 35 = .ok (.ireturn, 1) := by decide +kernel
theorem d_A_isSlidingFace_36 : decode M_A_isSlidingFace.2.1 36 = .ok (.iload 4, 2) := by decide +kernel
theorem d_A_isSlidingFace_38 : decode M_A_isSlidingFace.2.1 38 = .ok (.invokestatic 187, 3) := by decide +kernel
theorem d_A_isSlidingFace_41 : decode M_A_isSlidingFace.2.1 41 = .ok (.iload_n 2, 1) := by decide +kernel
theorem d_A_isSlidingFace_42 : decode M_A_isSlidingFace.2.1 42 = .ok (.if_icmp .ne (16), 3) := by decide +kernel
theorem d_A_isSlidingFace_45 : decode M_A_isSlidingFace.2.1 45 = .ok (.iload 5, 2) := by decide +kernel
theorem d_A_isSlidingFace_47 : decode M_A_isSlidingFace.2.1 47 = .ok (.invokestatic 187, 3) := by decide +kernel
theorem d_A_isSlidingFace_50 : decode M_A_isSlidingFace.2.1 50 = .ok (.iload_n 3, 1) := by decide +kernel
theorem d_A_isSlidingFace_51 : decode M_A_isSlidingFace.2.1 51 = .ok (.if_icmp .ne (7), 3) := by decide +kernel
theorem d_A_isSlidingFace_54 : decode M_A_isSlidingFace.2.1 54 = .ok (.iconst (1), 1) := by decide +kernel
theorem d_A_isSlidingFace_55 : decode M_A_isSlidingFace.2.1 55 = .ok (.goto (4), 3) := by decide +kernel
theorem d_A_isSlidingFace_58 : decode M_A_isSlidingFace.2.1 58 = .ok (.iconst (0), 1) := by decide +kernel
theorem d_A_isSlidingFace_59 : decode M_A_isSlidingFace.2.1 59 = .ok (.istore 6, 2) := by decide +kernel
theorem d_A_isSlidingFace_61 : decode M_A_isSlidingFace.2.1 61 = .ok (.iload 4, 2) := by decide +kernel
theorem d_A_isSlidingFace_63 : decode M_A_isSlidingFace.2.1 63 = .ok (.invokestatic 187, 3) := by decide +kernel
theorem d_A_isSlidingFace_66 : decode M_A_isSlidingFace.2.1 66 = .ok (.iload_n 3, 1) := by decide +kernel
theorem d_A_isSlidingFace_67 : decode M_A_isSlidingFace.2.1 67 = .ok (.if_icmp .ne (16), 3) := by decide +kernel
theorem d_A_isSlidingFace_70 : decode M_A_isSlidingFace.2.1 70 = .ok (.iload 5, 2) := by decide +kernel
theorem d_A_isSlidingFace_72 : decode M_A_isSlidingFace.2.1 72 = .ok (.invokestatic 187, 3) := by decide +kernel
theorem d_A_isSlidingFace_75 : decode M_A_isSlidingFace.2.1 75 = .ok (.iload_n 2, 1) := by decide +kernel
theorem d_A_isSlidingFace_76 : decode M_A_isSlidingFace.2.1 76 = .ok (.if_icmp .ne (7), 3) := by decide +kernel
theorem d_A_isSlidingFace_79 : decode M_A_isSlidingFace.2.1 79 = .ok (.iconst (1), 1) := by decide +kernel
theorem d_A_isSlidingFace_80 : decode M_A_isSlidingFace.2.1 80 = .ok (.goto (4), 3) := by decide +kernel
theorem d_A_isSlidingFace_83 : decode M_A_isSlidingFace.2.1 83 = .ok (.iconst (0), 1) := by decide +kernel
theorem d_A_isSlidingFace_84 : decode M_A_isSlidingFace.2.1 84 = .ok (.istore 7, 2) := by decide +kernel
theorem d_A_isSlidingFace_86 : decode M_A_isSlidingFace.2.1 86 = .ok (.iload 6, 2) := by decide +kernel
theorem d_A_isSlidingFace_88 : decode M_A_isSlidingFace.2.1 88 = .ok (.ifCond .ne (10), 3) := by decide +kernel
theorem d_A_isSlidingFace_91 : decode M_A_isSlidingFace.2.1 91 = .ok (.iload 7, 2) := by decide +kernel
theorem d_A_isSlidingFace_93 : decode M_A_isSlidingFace.2.1 93 = .ok (.ifCond .ne (5), 3) := by decide +kernel
theorem d_A_isSlidingFace_96 : decode M_A_isSlidingFace.2.1 96 = .ok (.iconst (0), 1) := by decide +kernel
theorem d_A_isSlidingFace_97 : decode M_A_isSlidingFace.2.1 97 = .ok (.ireturn, 1) := by decide +kernel
theorem d_A_isSlidingFace_98 : decode M_A_isSlidingFace.2.1 98 = .ok (.aload_n 0, 1) := by decide +kernel
theorem d_A_isSlidingFace_99 : decode M_A_isSlidingFace.2.1 99 = .ok (.iload_n 1, 1) := by decide +kernel
theorem d_A_isSlidingFace_100 : decode M_A_isSlidingFace.2.1 100 = .ok (.invokevirtual 215, 3) := by decide +kernel
theorem d_A_isSlidingFace_103 : decode M_A_isSlidingFace.2.1 103 = .ok (.ifCond .ne (21), 3) := by decide +kernel
theorem d_A_isSlidingFace_106 : decode M_A_isSlidingFace.2.1 106 = .ok (.aload_n 0, 1) := by decide +kernel
theorem d_A_isSlidingFace_107 : decode M_A_isSlidingFace.2.1 107 = .ok (.iload 4, 2) := by decide +kernel
theorem d_A_isSlidingFace_109 : decode M_A_isSlidingFace.2.1 109 = .ok (.invokevirtual 215, 3) := by decide +kernel
theorem d_A_isSlidingFace_112 : decode M_A_isSlidingFace.2.1 112 = .ok (.ifCond .ne (12), 3) := by decide +kernel
theorem d_A_isSlidingFace_115 : decode M_A_isSlidingFace.2.1 115 = .ok (.aload_n 0, 1) := by decide +kernel
theorem d_A_isSlidingFace_116 : decode M_A_isSlidingFace.2.1 116 = .ok (.iload 5, 2) := by decide +kernel
theorem d_A_isSlidingFace_118 : decode M_A_isSlidingFace.2.1 118 = .ok (.invokevirtual 215, 3) := by decide +kernel
theorem d_A_isSlidingFace_121 : decode M_A_isSlidingFace.2.1 121 = .ok (.ifCond .eq (7), 3) := by decide +kernel
theorem d_A_isSlidingFace_124 : decode M_A_isSlidingFace.2.1 124 = .ok (.iconst (1), 1) := by decide +kernel
theorem d_A_isSlidingFace_125 : decode M_A_isSlidingFace.2.1 125 = .ok (.goto (4), 3) := by decide +kernel
theorem d_A_isSlidingFace_128 : decode M_A_isSlidingFace.2.1 128 = .ok (.iconst (0), 1) := by decide +kernel
theorem d_A_isSlidingFace_129 : decode M_A_isSlidingFace.2.1 129 = .ok (.ireturn, 1) := by decide +kernel
theorem d_A_isUpperEdge_0 : decode M_A_isUpperEdge.2.1 0 = .ok (.iload_n 1, 1) := by decide +kernel
theorem d_A_isUpperEdge_1 : decode M_A_isUpperEdge.2.1 1 = .ok (.invokestatic 190, 3) := by decide +kernel
theorem d_A_isUpperEdge_4 : decode M_A_isUpperEdge.2.1 4 = .ok (.ifCond .eq (21), 3) := by decide +kernel
theorem d_A_isUpperEdge_7 : decode M_A_isUpperEdge.2.1 7 = .ok (.aload_n 0, 1) := by decide +kernel
theorem d_A_isUpperEdge_8 : decode M_A_isUpperEdge.2.1 8 = .ok (.getfield 16, 3) := by decide +kernel
theorem d_A_isUpperEdge_11 : decode M_A_isUpperEdge.2.1 11 = .ok (.iload_n 1, 1) := by decide +kernel
theorem d_A_isUpperEdge_12 : decode M_A_isUpperEdge.2.1 12 = .ok (.invokevirtual 193, 3) := by decide +kernel
theorem d_A_isUpperEdge_15 : decode M_A_isUpperEdge.2.1 15 = .ok (.invokestatic 190, 3) := by decide +kernel
theorem d_A_isUpperEdge_18 : decode M_A_isUpperEdge.2.1 18 = .ok (.ifCond .eq (7), 3) := by decide +kernel
theorem d_A_isUpperEdge_21 : decode M_A_isUpperEdge.2.1 21 = .ok (.iconst (1), 1) := by decide +kernel
theorem d_A_isUpperEdge_22 : decode M_A_isUpperEdge.2.1 22 = .ok (.goto (4), 3) := by decide +kernel
theorem d_A_isUpperEdge_25 : decode M_A_isUpperEdge.2.1 25 = .ok (.iconst (0), 1) := by decide +kernel
theorem d_A_isUpperEdge_26 : decode M_A_isUpperEdge.2.1 26 = .ok (.ireturn, 1) := by decide +kernel
theorem d_A_slideFace_0 : decode M_A_slideFace.2.1 0 = .ok (.aload_n 0, 1) := by decide +kernel
theorem d_A_slideFace_1 : decode M_A_slideFace.2.1 1 = .ok (.getfield 19, 3) := by decide +kernel
theorem d_A_slideFace_4 : decode M_A_slideFace.2.1 4 = .ok (.aload_n 0, 1) := by decide +kernel
theorem d_A_slideFace_5 : decode M_A_slideFace.2.1 5 = .ok (.getfield 16, 3) := by decide +kernel
theorem d_A_slideFace_8 : decode M_A_slideFace.2.1 8 = .ok (.invokevirtual 84, 3) := by decide +kernel
theorem d_A_slideFace_11 : decode M_A_slideFace.2.1 11 = .ok (.aload_n 0, 1) := by decide +kernel
theorem d_A_slideFace_12 : decode M_A_slideFace.2.1 12 = .ok (.getfield 19, 3) := by decide +kernel
theorem d_A_slideFace_15 : decode M_A_slideFace.2.1 15 = .ok (.iload_n 1, 1) := by decide +kernel
theorem d_A_slideFace_16 : decode M_A_slideFace.2.1 16 = .ok (.invokevirtual 181, 3) := by decide +kernel
theorem d_A_slideFace_19 : decode M_A_slideFace.2.1 19 = .ok (.istore_n 2, 1) := by decide +kernel
theorem d_A_slideFace_20 : decode M_A_slideFace.2.1 20 = .ok (.aload_n 0, 1) := by decide +kernel
theorem d_A_slideFace_21 : decode M_A_slideFace.2.1 21 = .ok (.iload_n 1, 1) := by decide +kernel
theorem d_A_slideFace_22 : decode M_A_slideFace.2.1 22 = .ok (.invokevirtual 218, 3) := by decide +kernel
theorem d_A_slideFace_25 : decode M_A_slideFace.2.1 25 = .ok (.aload_n 0, 1) := by decide +kernel
theorem d_A_slideFace_26 : decode M_A_slideFace.2.1 26 = .ok (.iload_n 2, 1) := by decide +kernel
theorem d_A_slideFace_27 : decode M_A_slideFace.2.1 27 = .ok (.invokevirtual 218, 3) := by decide +kernel
theorem d_A_slideFace_30 : decode M_A_slideFace.2.1 30 = .ok (.aload_n 0, 1) := by decide +kernel
theorem d_A_slideFace_31 : decode M_A_slideFace.2.1 31 = .ok (.aload_n 0, 1) := by decide +kernel
theorem d_A_slideFace_32 : decode M_A_slideFace.2.1 32 = .ok (.getfield 19, 3) := by decide +kernel
theorem d_A_slideFace_35 : decode M_A_slideFace.2.1 35 = .ok (.iload_n 2, 1) := by decide +kernel
theorem d_A_slideFace_36 : decode M_A_slideFace.2.1 36 = .ok (.invokevirtual 181, 3) := by decide +kernel
theorem d_A_slideFace_39 : decode M_A_slideFace.2.1 39 = .ok (.invokevirtual 218, 3) := by decide +kernel
theorem d_A_slideFace_42 : decode M_A_slideFace.2.1 42 = .ok (.return_, 1) := by decide +kernel
end
section
theorem d_A_slideEdge_0 : decode M_A_slideEdge.2.1 0 = .ok (.aload_n 0, 1) := by decide +kernel
theorem d_A_slideEdge_1 : decode M_A_slideEdge.2.1 1 = .ok (.getfield 19, 3) := by decide +kernel
theorem d_A_slideEdge_4 : decode M_A_slideEdge.2.1 4 = .ok (.iload_n 1, 1) := by decide +kernel
theorem d_A_slideEdge_5 : decode M_A_slideEdge.2.1 5 = .ok (.invokevirtual 129, 3) := by decide +kernel
theorem d_A_slideEdge_8 : decode M_A_slideEdge.2.1 8 = .ok (.istore_n 2, 1) := by decide +kernel
theorem d_A_slideEdge_9 : decode M_A_slideEdge.2.1 9 = .ok (.aload_n 0, 1) := by decide +kernel
theorem d_A_slideEdge_10 : decode M_A_slideEdge.2.1 10 = .ok (.getfield 19, 3) := by decide +kernel
theorem d_A_slideEdge_13 : decode M_A_slideEdge.2.1 13 = .ok (.iload_n 1, 1) := by decide +kernel
theorem d_A_slideEdge_14 : decode M_A_slideEdge.2.1 14 = .ok (.invokevirtual 196, 3) := by decide +kernel
theorem d_A_slideEdge_17 : decode M_A_slideEdge.2.1 17 = .ok (.istore_n 3, 1) := by decide +kernel
theorem d_A_slideEdge_18 : decode M_A_slideEdge.2.1 18 = .ok (.aload_n 0, 1) := by decide +kernel
theorem d_A_slideEdge_19 : decode M_A_slideEdge.2.1 19 = .ok (.getfield 19, 3) := by decide +kernel
theorem d_A_slideEdge_22 : decode M_A_slideEdge.2.1 22 = .ok (.iload_n 1, 1) := by decide +kernel
theorem d_A_slideEdge_23 : decode M_A_slideEdge.2.1 23 = .ok (.invokevirtual 199, 3) := by decide +kernel
theorem d_A_slideEdge_26 : decode M_A_slideEdge.2.1 26 = .ok (.istore 4, 2) := by decide +kernel
theorem d_A_slideEdge_28 : decode M_A_slideEdge.2.1 28 = .ok (.aload_n 0, 1) := by decide +kernel
theorem d_A_slideEdge_29 : decode M_A_slideEdge.2.1 29 = .ok (.getfield 19, 3) := by decide +kernel
theorem d_A_slideEdge_32 : decode M_A_slideEdge.2.1 32 = .ok (.iload_n 1, 1) := by decide +kernel
theorem d_A_slideEdge_33 : decode M_A_slideEdge.2.1 33 = .ok (.invokevirtual 221, 3) := by decide +kernel
theorem d_A_slideEdge_36 : decode M_A_slideEdge.2.1 36 = .ok (.istore 5, 2) := by decide +kernel
theorem d_A_slideEdge_38 : decode M_A_slideEdge.2.1 38 = .ok (.aload_n 0, 1) := by decide +kernel
theorem d_A_slideEdge_39 : decode M_A_slideEdge.2.1 39 = .ok (.getfield 19, 3) := by decide +kernel
theorem d_A_slideEdge_42 : decode M_A_slideEdge.2.1 42 = .ok (.iload_n 1, 1) := by decide +kernel
theorem d_A_slideEdge_43 : decode M_A_slideEdge.2.1 43 = .ok (.invokevirtual 224, 3) := by decide +kernel
theorem d_A_slideEdge_46 : decode M_A_slideEdge.2.1 46 = .ok (.istore 6, 2) := by decide +kernel
theorem d_A_slideEdge_48 : decode M_A_slideEdge.2.1 48 = .ok (.aload_n 0, 1) := by decide +kernel
theorem d_A_slideEdge_49 : decode M_A_slideEdge.2.1 49 = .ok (.getfield 16, 3) := by decide +kernel
theorem d_A_slideEdge_52 : decode M_A_slideEdge.2.1 52 = .ok (.iload 5, 2) := by decide +kernel
theorem d_A_slideEdge_54 : decode M_A_slideEdge.2.1 54 = .ok (.invokestatic 227, 3) := by decide +kernel
theorem d_A_slideEdge_57 : decode M_A_slideEdge.2.1 57 = .ok (.iload_n 2, 1) := by decide +kernel
theorem d_A_slideEdge_58 : decode M_A_slideEdge.2.1 58 = .ok (.invokevirtual 230, 3) := by decide +kernel
theorem d_A_slideEdge_61 : decode M_A_slideEdge.2.1 61 = .ok (.aload_n 0, 1) := by decide +kernel
theorem d_A_slideEdge_62 : decode M_A_slideEdge.2.1 62 = .ok (.getfield 16, 3) := by decide +kernel
theorem d_A_slideEdge_65 : decode M_A_slideEdge.2.1 65 = .ok (.iload 5, 2) := by decide +kernel
theorem d_A_slideEdge_67 : decode M_A_slideEdge.2.1 67 = .ok (.iload 4, 2) := by decide +kernel
theorem d_A_slideEdge_69 : decode M_A_slideEdge.2.1 69 = .ok (.invokevirtual 230, 3) := by decide +kernel
theorem d_A_slideEdge_72 : decode M_A_slideEdge.2.1 72 = .ok (.aload_n 0, 1) := by decide +kernel
theorem d_A_slideEdge_73 : decode M_A_slideEdge.2.1 73 = .ok (.getfield 16, 3) := by decide +kernel
theorem d_A_slideEdge_76 : decode M_A_slideEdge.2.1 76 = .ok (.iload 6, 2) := by decide +kernel
theorem d_A_slideEdge_78 : decode M_A_slideEdge.2.1 78 = .ok (.iload_n 3, 1) := by decide +kernel
theorem d_A_slideEdge_79 : decode M_A_slideEdge.2.1 79 = .ok (.invokevirtual 230, 3) := by decide +kernel
theorem d_A_slideEdge_82 : decode M_A_slideEdge.2.1 82 = .ok (.aload_n 0, 1) := by decide +kernel
theorem d_A_slideEdge_83 : decode M_A_slideEdge.2.1 83 = .ok (.getfield 16, 3) := by decide +kernel
theorem d_A_slideEdge_86 : decode M_A_slideEdge.2.1 86 = .ok (.iload 6, 2) := by decide +kernel
theorem d_A_slideEdge_88 : decode M_A_slideEdge.2.1 88 = .ok (.invokestatic 227, 3) := by decide +kernel
theorem d_A_slideEdge_91 : decode M_A_slideEdge.2.1 91 = .ok (.iload_n 2, 1) := by decide +kernel
theorem d_A_slideEdge_92 : decode M_A_slideEdge.2.1 92 = .ok (.invokevirtual 230, 3) := by decide +kernel
theorem d_A_slideEdge_95 : decode M_A_slideEdge.2.1 95 = .ok (.return_, 1) := by decide +kernel
theorem d_A_join_0 : decode M_A_join.2.1 0 = .ok (.iload_n 1, 1) := by decide +kernel
theorem d_A_join_1 : decode M_A_join.2.1 1 = .ok (.iload_n 2, 1) := by decide +kernel
theorem d_A_join_2 : decode M_A_join.2.1 2 = .ok (.if_icmp .ne (16), 3) := by decide +kernel
theorem d_A_join_5 : decode M_A_join.2.1 5 = .ok (.aload_n 0, 1) := by decide +kernel
theorem d_A_join_6 : decode M_A_join.2.1 6 = .ok (.dup, 1) := by decide +kernel
theorem d_A_join_7 : decode M_A_join.2.1 7 = .ok (.getfield 54, 3) := by decide +kernel
theorem d_A_join_10 : decode M_A_join.2.1 10 = .ok (.iconst (1), 1) := by decide +kernel
theorem d_A_join_11 : decode M_A_join.2.1 11 = .ok (.iadd, 1) := by decide +kernel
theorem d_A_join_12 : decode M_A_join.2.1 12 = .ok (.putfield 54, 3) := by decide +kernel
theorem d_A_join_15 : decode M_A_join.2.1 15 = .ok (.goto (12), 3) := by decide +kernel
theorem d_A_join_18 : decode M_A_join.2.1 18 = .ok (.aload_n 0, 1) := by decide +kernel
theorem d_A_join_19 : decode M_A_join.2.1 19 = .ok (.getfield 16, 3) := by decide +kernel
theorem d_A_join_22 : decode M_A_join.2.1 22 = .ok (.iload_n 1, 1) := by decide +kernel
theorem d_A_join_23 : decode M_A_join.2.1 23 = .ok (.iload_n 2, 1) := by decide +kernel
theorem d_A_join_24 : decode M_A_join.2.1 24 = .ok (.invokevirtual 153, 3) := by decide +kernel
theorem d_A_join_27 : decode M_A_join.2.1 27 = .ok (.return_, 1) := by decide +kernel
theorem d_A_freeEdge_0 : decode M_A_freeEdge.2.1 0 = .ok (.iload_n 1, 1) := by decide +kernel
theorem d_A_freeEdge_1 : decode M_A_freeEdge.2.1 1 = .ok (.istore_n 2, 1) := by decide +kernel
theorem d_A_freeEdge_2 : decode M_A_freeEdge.2.1 2 = .ok (.iconst (1), 1) := by decide +kernel
theorem d_A_freeEdge_3 : decode M_A_freeEdge.2.1 3 = .ok (.istore_n 3, 1) := by decide +kernel
theorem d_A_freeEdge_4 : decode M_A_freeEdge.2.1 4 = .ok (.iload_n 3, 1) := by decide +kernel
theorem d_A_freeEdge_5 : decode M_A_freeEdge.2.1 5 = .ok (.bipush (32), 2) := by decide +kernel
theorem d_A_freeEdge_7 : decode M_A_freeEdge.2.1 7 = .ok (.if_icmp .gt (29), 3) := by decide +kernel
theorem d_A_freeEdge_10 : decode M_A_freeEdge.2.1 10 = .ok (.aload_n 0, 1) := by decide +kernel
theorem d_A_freeEdge_11 : decode M_A_freeEdge.2.1 11 = .ok (.getfield 16, 3) := by decide +kernel
theorem d_A_freeEdge_14 : decode M_A_freeEdge.2.1 14 = .ok (.iload_n 3, 1) := by decide +kernel
theorem d_A_freeEdge_15 : decode M_A_freeEdge.2.1 15 = .ok (.invokevirtual 150, 3) := by decide +kernel
theorem d_A_freeEdge_18 : decode M_A_freeEdge.2.1 18 = .ok (.ifCond .ne (12), 3) := by decide +kernel
theorem d_A_freeEdge_21 : decode M_A_freeEdge.2.1 21 = .ok (.iload_n 2, 1) := by decide +kernel
theorem d_A_freeEdge_22 : decode M_A_freeEdge.2.1 22 = .ok (.ifCond .ne (5), 3) := by decide +kernel
theorem d_A_freeEdge_25 : decode M_A_freeEdge.2.1 25 = .ok (.iload_n 3, 1) := by decide +kernel
theorem d_A_freeEdge_26 : decode M_A_freeEdge.2.1 26 = .ok (.ireturn, 1) := by decide +kernel
theorem d_A_freeEdge_27 : decode M_A_freeEdge.2.1 27 = .ok (.iinc 2 (-1), 3) := by decide +kernel
theorem d_A_freeEdge_30 : decode M_A_freeEdge.2.1 30 = .ok (.iinc 3 (1), 3) := by decide +kernel
theorem d_A_freeEdge_33 : decode M_A_freeEdge.2.1 33 = .ok (.goto (-29), 3) := by decide +kernel
theorem d_A_freeEdge_36 : decode M_A_freeEdge.2.1 36 = .ok (.iconst (0), 1) := by decide +kernel
theorem d_A_freeEdge_37 : decode M_A_freeEdge.2.1 37 = .ok (.ireturn, 1) := by decide +kernel
theorem d_A_crossingOf_0 : decode M_A_crossingOf.2.1 0 = .ok (.iload_n 0, 1) := by decide +kernel
theorem d_A_crossingOf_1 : decode M_A_crossingOf.2.1 1 = .ok (.iconst (2), 1) := by decide +kernel
theorem d_A_crossingOf_2 : decode M_A_crossingOf.2.1 2 = .ok (.ishr, 1) := by decide +kernel
theorem d_A_crossingOf_3 : decode M_A_crossingOf.2.1 3 = .ok (.ireturn, 1) := by decide +kernel
theorem d_A_isUpper_0 : decode M_A_isUpper.2.1 0 = .ok (.iload_n 0, 1) := by decide +kernel
theorem d_A_isUpper_1 : decode M_A_isUpper.2.1 1 = .ok (.iconst (1), 1) := by decide +kernel
theorem d_A_isUpper_2 : decode M_A_isUpper.2.1 2 = .ok (.iand, 1) := by decide +kernel
theorem d_A_isUpper_3 : decode M_A_isUpper.2.1 3 = .ok (.iconst (1), 1) := by decide +kernel
theorem d_A_isUpper_4 : decode M_A_isUpper.2.1 4 = .ok (.if_icmp .ne (7), 3) := by decide +kernel
theorem d_A_isUpper_7 : decode M_A_isUpper.2.1 7 = .ok (.iconst (1), 1) := by decide +kernel
theorem d_A_isUpper_8 : decode M_A_isUpper.2.1 8 = .ok (.goto (4), 3) := by decide +kernel
theorem d_A_isUpper_11 : decode M_A_isUpper.2.1 11 = .ok (.iconst (0), 1) := by decide +kernel
theorem d_A_isUpper_12 : decode M_A_isUpper.2.1 12 = .ok (.ireturn, 1) := by decide +kernel
theorem d_A_opposite_0 : decode M_A_opposite.2.1 0 = .ok (.iload_n 0, 1) := by decide +kernel
theorem d_A_opposite_1 : decode M_A_opposite.2.1 1 = .ok (.iconst (2), 1) := by decide +kernel
theorem d_A_opposite_2 : decode M_A_opposite.2.1 2 = .ok (.ixor, 1) := by decide +kernel
theorem d_A_opposite_3 : decode M_A_opposite.2.1 3 = .ok (.ireturn, 1) := by decide +kernel
theorem d_A_turned_0 : decode M_A_turned.2.1 0 = .ok (.iload_n 0, 1) := by decide +kernel
theorem d_A_turned_1 : decode M_A_turned.2.1 1 = .ok (.bipush (-4), 2) := by decide +kernel
theorem d_A_turned_3 : decode M_A_turned.2.1 3 = .ok (.iand, 1) := by decide +kernel
theorem d_A_turned_4 : decode M_A_turned.2.1 4 = .ok (.iload_n 0, 1) := by decide +kernel
theorem d_A_turned_5 : decode M_A_turned.2.1 5 = .ok (.iload_n 1, 1) := by decide +kernel
theorem d_A_turned_6 : decode M_A_turned.2.1 6 = .ok (.iadd, 1) := by decide +kernel
theorem d_A_turned_7 : decode M_A_turned.2.1 7 = .ok (.iconst (3), 1) := by decide +kernel
theorem d_A_turned_8 : decode M_A_turned.2.1 8 = .ok (.iand, 1) := by decide +kernel
theorem d_A_turned_9 : decode M_A_turned.2.1 9 = .ok (.ior, 1) := by decide +kernel
theorem d_A_turned_10 : decode M_A_turned.2.1 10 = .ok (.ireturn, 1) := by decide +kernel
end
section
theorem d_M_init_0 : decode M_M_init.2.1 0 = .ok (.aload_n 0, 1) := by decide +kernel
theorem d_M_init_1 : decode M_M_init.2.1 1 = .ok (.invokespecial 1, 3) := by decide +kernel
theorem d_M_init_4 : decode M_M_init.2.1 4 = .ok (.aload_n 0, 1) := by decide +kernel
theorem d_M_init_5 : decode M_M_init.2.1 5 = .ok (.bipush (64), 2) := by decide +kernel
theorem d_M_init_7 : decode M_M_init.2.1 7 = .ok (.newarray .int, 2) := by decide +kernel
theorem d_M_init_9 : decode M_M_init.2.1 9 = .ok (.putfield 7, 3) := by decide +kernel
theorem d_M_init_12 : decode M_M_init.2.1 12 = .ok (.aload_n 0, 1) := by decide +kernel
theorem d_M_init_13 : decode M_M_init.2.1 13 = .ok (.bipush (16), 2) := by decide +kernel
theorem d_M_init_15 : decode M_M_init.2.1 15 = .ok (.newarray .boolean, 2) := by decide +kernel
theorem d_M_init_17 : decode M_M_init.2.1 17 = .ok (.putfield 13, 3) := by decide +kernel
theorem d_M_init_20 : decode M_M_init.2.1 20 = .ok (.aload_n 0, 1) := by decide +kernel
theorem d_M_init_21 : decode M_M_init.2.1 21 = .ok (.iconst (1), 1) := by decide +kernel
theorem d_M_init_22 : decode M_M_init.2.1 22 = .ok (.putfield 17, 3) := by decide +kernel
theorem d_M_init_25 : decode M_M_init.2.1 25 = .ok (.aload_n 0, 1) := by decide +kernel
theorem d_M_init_26 : decode M_M_init.2.1 26 = .ok (.bipush (8), 2) := by decide +kernel
theorem d_M_init_28 : decode M_M_init.2.1 28 = .ok (.newarray .int, 2) := by decide +kernel
theorem d_M_init_30 : decode M_M_init.2.1 30 = .ok (.putfield 21, 3) := by decide +kernel
theorem d_M_init_33 : decode M_M_init.2.1 33 = .ok (.aload_n 0, 1) := by decide +kernel
theorem d_M_init_34 : decode M_M_init.2.1 34 = .ok (.bipush (64), 2) := by decide +kernel
theorem d_M_init_36 : decode M_M_init.2.1 36 = .ok (.newarray .boolean, 2) := by decide +kernel
theorem d_M_init_38 : decode M_M_init.2.1 38 = .ok (.putfield 24, 3) := by decide +kernel
theorem d_M_init_41 : decode M_M_init.2.1 41 = .ok (.aload_n 0, 1) := by decide +kernel
theorem d_M_init_42 : decode M_M_init.2.1 42 = .ok (.sipush (257), 3) := by decide +kernel
theorem d_M_init_45 : decode M_M_init.2.1 45 = .ok (.newarray .long, 2) := by decide +kernel
theorem d_M_init_47 : decode M_M_init.2.1 47 = .ok (.putfield 27, 3) := by decide +kernel
theorem d_M_init_50 : decode M_M_init.2.1 50 = .ok (.aload_n 0, 1) := by decide +kernel
theorem d_M_init_51 : decode M_M_init.2.1 51 = .ok (.sipush (257), 3) := by decide +kernel
theorem d_M_init_54 : decode M_M_init.2.1 54 = .ok (.newarray .long, 2) := by decide +kernel
theorem d_M_init_56 : decode M_M_init.2.1 56 = .ok (.putfield 31, 3) := by decide +kernel
theorem d_M_init_59 : decode M_M_init.2.1 59 = .ok (.aload_n 0, 1) := by decide +kernel
theorem d_M_init_60 : decode M_M_init.2.1 60 = .ok (.sipush (257), 3) := by decide +kernel
theorem d_M_init_63 : decode M_M_init.2.1 63 = .ok (.newarray .long, 2) := by decide +kernel
theorem d_M_init_65 : decode M_M_init.2.1 65 = .ok (.putfield 34, 3) := by decide +kernel
theorem d_M_init_68 : decode M_M_init.2.1 68 = .ok (.aload_n 0, 1) := by decide +kernel
theorem d_M_init_69 : decode M_M_init.2.1 69 = .ok (.bipush (33), 2) := by decide +kernel
theorem d_M_init_71 : decode M_M_init.2.1 71 = .ok (.newarray .int, 2) := by decide +kernel
theorem d_M_init_73 : decode M_M_init.2.1 73 = .ok (.putfield 37, 3) := by decide +kernel
theorem d_M_init_76 : decode M_M_init.2.1 76 = .ok (.aload_n 0, 1) := by decide +kernel
theorem d_M_init_77 : decode M_M_init.2.1 77 = .ok (.bipush (64), 2) := by decide +kernel
theorem d_M_init_79 : decode M_M_init.2.1 79 = .ok (.newarray .int, 2) := by decide +kernel
theorem d_M_init_81 : decode M_M_init.2.1 81 = .ok (.putfield 40, 3) := by decide +kernel
theorem d_M_init_84 : decode M_M_init.2.1 84 = .ok (.aload_n 0, 1) := by decide +kernel
theorem d_M_init_85 : decode M_M_init.2.1 85 = .ok (.bipush (64), 2) := by decide +kernel
theorem d_M_init_87 : decode M_M_init.2.1 87 = .ok (.newarray .int, 2) := by decide +kernel
theorem d_M_init_89 : decode M_M_init.2.1 89 = .ok (.putfield 43, 3) := by decide +kernel
theorem d_M_init_92 : decode M_M_init.2.1 92 = .ok (.aload_n 0, 1) := by decide +kernel
theorem d_M_init_93 : decode M_M_init.2.1 93 = .ok (.sipush (2560), 3) := by decide +kernel
theorem d_M_init_96 : decode M_M_init.2.1 96 = .ok (.newarray .long, 2) := by decide +kernel
theorem d_M_init_98 : decode M_M_init.2.1 98 = .ok (.putfield 46, 3) := by decide +kernel
theorem d_M_init_101 : decode M_M_init.2.1 101 = .ok (.aload_n 0, 1) := by decide +kernel
theorem d_M_init_102 : decode M_M_init.2.1 102 = .ok (.bipush (32), 2) := by decide +kernel
theorem d_M_init_104 : decode M_M_init.2.1 104 = .ok (.newarray .int, 2) := by decide +kernel
theorem d_M_init_106 : decode M_M_init.2.1 106 = .ok (.putfield 49, 3) := by decide +kernel
theorem d_M_init_109 : decode M_M_init.2.1 109 = .ok (.return_, 1) := by decide +kernel
theorem d_M_isEdge_0 : decode M_M_isEdge.2.1 0 = .ok (.iload_n 0, 1) := by decide +kernel
theorem d_M_isEdge_1 : decode M_M_isEdge.2.1 1 = .ok (.iconst (1), 1) := by decide +kernel
theorem d_M_isEdge_2 : decode M_M_isEdge.2.1 2 = .ok (.if_icmp .lt (13), 3) := by decide +kernel
theorem d_M_isEdge_5 : decode M_M_isEdge.2.1 5 = .ok (.iload_n 0, 1) := by decide +kernel
theorem d_M_isEdge_6 : decode M_M_isEdge.2.1 6 = .ok (.bipush (32), 2) := by decide +kernel
theorem d_M_isEdge_8 : decode M_M_isEdge.2.1 8 = .ok (.if_icmp .gt (7), 3) := by decide +kernel
theorem d_M_isEdge_11 : decode M_M_isEdge.2.1 11 = .ok (.iconst (1), 1) := by decide +kernel
theorem d_M_isEdge_12 : decode M_M_isEdge.2.1 12 = .ok (.goto (4), 3) := by decide +kernel
theorem d_M_isEdge_15 : decode M_M_isEdge.2.1 15 = .ok (.iconst (0), 1) := by decide +kernel
theorem d_M_isEdge_16 : decode M_M_isEdge.2.1 16 = .ok (.ireturn, 1) := by decide +kernel
theorem d_M_cross_0 : decode M_M_cross.2.1 0 = .ok (.aload_n 0, 1) := by decide +kernel
theorem d_M_cross_1 : decode M_M_cross.2.1 1 = .ok (.getfield 52, 3) := by decide +kernel
theorem d_M_cross_4 : decode M_M_cross.2.1 4 = .ok (.bipush (8), 2) := by decide +kernel
theorem d_M_cross_6 : decode M_M_cross.2.1 6 = .ok (.if_icmp .eq (32), 3) := by decide +kernel
theorem d_M_cross_9 : decode M_M_cross.2.1 9 = .ok (.iload_n 1, 1) := by decide +kernel
theorem d_M_cross_10 : decode M_M_cross.2.1 10 = .ok (.invokestatic 55, 3) := by decide +kernel
theorem d_M_cross_13 : decode M_M_cross.2.1 13 = .ok (.ifCond .eq (25), 3) := by decide +kernel
theorem d_M_cross_16 : decode M_M_cross.2.1 16 = .ok (.iload_n 2, 1) := by decide +kernel
theorem d_M_cross_17 : decode M_M_cross.2.1 17 = .ok (.invokestatic 55, 3) := by decide +kernel
theorem d_M_cross_20 : decode M_M_cross.2.1 20 = .ok (.ifCond .eq (18), 3) := by decide +kernel
theorem d_M_cross_23 : decode M_M_cross.2.1 23 = .ok (.iload_n 3, 1) := by decide +kernel
theorem d_M_cross_24 : decode M_M_cross.2.1 24 = .ok (.invokestatic 55, 3) := by decide +kernel
theorem d_M_cross_27 : decode M_M_cross.2.1 27 = .ok (.ifCond .eq (11), 3) := by decide +kernel
theorem d_M_cross_30 : decode M_M_cross.2.1 30 = .ok (.iload 4, 2) := by decide +kernel
theorem d_M_cross_32 : decode M_M_cross.2.1 32 = .ok (.invokestatic 55, 3) := by decide +kernel
theorem d_M_cross_35 : decode M_M_cross.2.1 35 = .ok (.ifCond .ne (5), 3) := by decide +kernel
theorem d_M_cross_38 : decode M_M_cross.2.1 38 = .ok (.iconst (0), 1) := by decide +kernel
theorem d_M_cross_39 : decode M_M_cross.2.1 39 = .ok (.ireturn, 1) := by decide +kernel
theorem d_M_cross_40 : decode M_M_cross.2.1 40 = .ok (.aload_n 0, 1) := by decide +kernel
theorem d_M_cross_41 : decode M_M_cross.2.1 41 = .ok (.bipush (8), 2) := by decide +kernel
theorem d_M_cross_43 : decode M_M_cross.2.1 43 = .ok (.aload_n 0, 1) := by decide +kernel
theorem d_M_cross_44 : decode M_M_cross.2.1 44 = .ok (.getfield 52, 3) := by decide +kernel
theorem d_M_cross_47 : decode M_M_cross.2.1 47 = .ok (.iadd, 1) := by decide +kernel
theorem d_M_cross_48 : decode M_M_cross.2.1 48 = .ok (.iload_n 1, 1) := by decide +kernel
theorem d_M_cross_49 : decode M_M_cross.2.1 49 = .ok (.iload_n 2, 1) := by decide +kernel
theorem d_M_cross_50 : decode M_M_cross.2.1 50 = .ok (.iload_n 3, 1) := by decide +kernel
theorem d_M_cross_51 : decode M_M_cross.2.1 51 = .ok (.iload 4, 2) := by decide +kernel
theorem d_M_cross_53 : decode M_M_cross.2.1 53 = .ok (.iload 5, 2) := by decide +kernel
theorem d_M_cross_55 : decode M_M_cross.2.1 55 = .ok (.invokevirtual 59, 3) := by decide +kernel
theorem d_M_cross_58 : decode M_M_cross.2.1 58 = .ok (.aload_n 0, 1) := by decide +kernel
theorem d_M_cross_59 : decode M_M_cross.2.1 59 = .ok (.dup, 1) := by decide +kernel
theorem d_M_cross_60 : decode M_M_cross.2.1 60 = .ok (.getfield 52, 3) := by decide +kernel
theorem d_M_cross_63 : decode M_M_cross.2.1 63 = .ok (.iconst (1), 1) := by decide +kernel
theorem d_M_cross_64 : decode M_M_cross.2.1 64 = .ok (.iadd, 1) := by decide +kernel
theorem d_M_cross_65 : decode M_M_cross.2.1 65 = .ok (.putfield 52, 3) := by decide +kernel
theorem d_M_cross_68 : decode M_M_cross.2.1 68 = .ok (.iconst (1), 1) := by decide +kernel
theorem d_M_cross_69 : decode M_M_cross.2.1 69 = .ok (.ireturn, 1) := by decide +kernel
theorem d_M_put_0 : decode M_M_put.2.1 0 = .ok (.aload_n 0, 1) := by decide +kernel
theorem d_M_put_1 : decode M_M_put.2.1 1 = .ok (.getfield 7, 3) := by decide +kernel
theorem d_M_put_4 : decode M_M_put.2.1 4 = .ok (.iconst (4), 1) := by decide +kernel
theorem d_M_put_5 : decode M_M_put.2.1 5 = .ok (.iload_n 1, 1) := by decide +kernel
theorem d_M_put_6 : decode M_M_put.2.1 6 = .ok (.imul, 1) := by decide +kernel
theorem d_M_put_7 : decode M_M_put.2.1 7 = .ok (.iload_n 2, 1) := by decide +kernel
theorem d_M_put_8 : decode M_M_put.2.1 8 = .ok (.iastore, 1) := by decide +kernel
theorem d_M_put_9 : decode M_M_put.2.1 9 = .ok (.aload_n 0, 1) := by decide +kernel
theorem d_M_put_10 : decode M_M_put.2.1 10 = .ok (.getfield 7, 3) := by decide +kernel
theorem d_M_put_13 : decode M_M_put.2.1 13 = .ok (.iconst (4), 1) := by decide +kernel
theorem d_M_put_14 : decode M_M_put.2.1 14 = .ok (.iload_n 1, 1) := by decide +kernel
theorem d_M_put_15 : decode M_M_put.2.1 15 = .ok (.imul, 1) := by decide +kernel
theorem d_M_put_16 : decode M_M_put.2.1 16 = .ok (.iconst (1), 1) := by decide +kernel
theorem d_M_put_17 : decode M_M_put.2.1 17 = .ok (.iadd, 1) := by decide +kernel
theorem d_M_put_18 : decode M_M_put.2.1 18 = .ok (.iload_n 3, 1) := by decide +kernel
theorem d_M_put_19 : decode M_M_put.2.1 19 = .ok (.iastore, 1) := by decide +kernel
theorem d_M_put_20 : decode M_M_put.2.1 20 = .ok (.aload_n 0, 1) := by decide +kernel
theorem d_M_put_21 : decode M_M_put.2.1 21 = .ok (.getfield 7, 3) := by decide +kernel
theorem d_M_put_24 : decode M_M_put.2.1 24 = .ok (.iconst (4), 1) := by decide +kernel
theorem d_M_put_25 : decode M_M_put.2.1 25 = .ok (.iload_n 1, 1) := by decide +kernel
theorem d_M_put_26 : decode M_M_put.2.1 26 = .ok (.imul, 1) := by decide +kernel
theorem d_M_put_27 : decode M_M_put.2.1 27 = .ok (.iconst (2), 1) := by decide +kernel
theorem d_M_put_28 : decode M_M_put.2.1 28 = .ok (.iadd, 1) := by decide +kernel
theorem d_M_put_29 : decode M_M_put.2.1 29 = .ok (.iload 4, 2) := by decide +kernel
theorem d_M_put_31 : decode M_M_put.2.1 31 = .ok (.iastore, 1) := by decide +kernel
theorem d_M_put_32 : decode M_M_put.2.1 32 = .ok (.aload_n 0, 1) := by decide +kernel
theorem d_M_put_33 : decode M_M_put.2.1 33 = .ok (.getfield 7, 3) := by decide +kernel
theorem d_M_put_36 : decode M_M_put.2.1 36 = .ok (.iconst (4), 1) := by decide +kernel
theorem d_M_put_37 : decode M_M_put.2.1 37 = .ok (.iload_n 1, 1) := by decide +kernel
theorem d_M_put_38 : decode M_M_put.2.1 38 = .ok (.imul, 1) := by decide +kernel
theorem d_M_put_39 : decode M_M_put.2.1 39 = .ok (.iconst (3), 1) := by decide +kernel
theorem d_M_put_40 : decode M_M_put.2.1 40 = .ok (.iadd, 1) := by decide +kernel
theorem d_M_put_41 : decode M_M_put.2.1 41 = .ok (.iload 5, 2) := by decide +kernel
theorem d_M_put_43 : decode M_M_put.2.1 43 = .ok (.iastore, 1) := by decide +kernel
theorem d_M_put_44 : decode M_M_put.2.1 44 = .ok (.aload_n 0, 1) := by decide +kernel
theorem d_M_put_45 : decode M_M_put.2.1 45 = .ok (.getfield 13, 3) := by decide +kernel
theorem d_M_put_48 : decode M_M_put.2.1 48 = .ok (.iload_n 1, 1) := by decide +kernel
theorem d_M_put_49 : decode M_M_put.2.1 49 = .ok (.iload 6, 2) := by decide +kernel
theorem d_M_put_51 : decode M_M_put.2.1 51 = .ok (.bastore, 1) := by decide +kernel
theorem d_M_put_52 : decode M_M_put.2.1 52 = .ok (.return_, 1) := by decide +kernel
theorem d_M_drop_0 : decode M_M_drop.2.1 0 = .ok (.aload_n 0, 1) := by decide +kernel
theorem d_M_drop_1 : decode M_M_drop.2.1 1 = .ok (.aload_n 0, 1) := by decide +kernel
theorem d_M_drop_2 : decode M_M_drop.2.1 2 = .ok (.getfield 52, 3) := by decide +kernel
theorem d_M_drop_5 : decode M_M_drop.2.1 5 = .ok (.ifCond .ne (7), 3) := by decide +kernel
theorem d_M_drop_8 : decode M_M_drop.2.1 8 = .ok (.iconst (0), 1) := by decide +kernel
theorem d_M_drop_9 : decode M_M_drop.2.1 9 = .ok (.goto (9), 3) := by decide +kernel
theorem d_M_drop_12 : decode M_M_drop.2.1 12 = .ok (.aload_n 0, 1) := by decide +kernel
theorem d_M_drop_13 : decode M_M_drop.2.1 13 = .ok (.getfield 52, 3) := by decide +kernel
theorem d_M_drop_16 : decode M_M_drop.2.1 16 = .ok (.iconst (1), 1) := by decide +kernel
theorem d_M_drop_17 : decode M_M_drop.2.1 17 = .ok (.isub, 1) := by decide +kernel
theorem d_M_drop_18 : decode M_M_drop.2.1 18 = .ok (.putfield 52, 3) := by decide +kernel
theorem d_M_drop_21 : decode M_M_drop.2.1 21 = .ok (.aload_n 0, 1) := by decide +kernel
theorem d_M_drop_22 : decode M_M_drop.2.1 22 = .ok (.getfield 52, 3) := by decide +kernel
theorem d_M_drop_25 : decode M_M_drop.2.1 25 = .ok (.ireturn, 1) := by decide +kernel
theorem d_M_look_0 : decode M_M_look.2.1 0 = .ok (.aload_n 0, 1) := by decide +kernel
theorem d_M_look_1 : decode M_M_look.2.1 1 = .ok (.iload_n 1, 1) := by decide +kernel
theorem d_M_look_2 : decode M_M_look.2.1 2 = .ok (.ifCond .eq (8), 3) := by decide +kernel
theorem d_M_look_5 : decode M_M_look.2.1 5 = .ok (.bipush (32), 2) := by decide +kernel
theorem d_M_look_7 : decode M_M_look.2.1 7 = .ok (.goto (4), 3) := by decide +kernel
theorem d_M_look_10 : decode M_M_look.2.1 10 = .ok (.iconst (0), 1) := by decide +kernel
theorem d_M_look_11 : decode M_M_look.2.1 11 = .ok (.putfield 63, 3) := by decide +kernel
theorem d_M_look_14 : decode M_M_look.2.1 14 = .ok (.aload_n 0, 1) := by decide +kernel
theorem d_M_look_15 : decode M_M_look.2.1 15 = .ok (.iload_n 1, 1) := by decide +kernel
theorem d_M_look_16 : decode M_M_look.2.1 16 = .ok (.ifCond .eq (10), 3) := by decide +kernel
theorem d_M_look_19 : decode M_M_look.2.1 19 = .ok (.aload_n 0, 1) := by decide +kernel
theorem d_M_look_20 : decode M_M_look.2.1 20 = .ok (.getfield 52, 3) := by decide +kernel
theorem d_M_look_23 : decode M_M_look.2.1 23 = .ok (.goto (7), 3) := by decide +kernel
theorem d_M_look_26 : decode M_M_look.2.1 26 = .ok (.aload_n 0, 1) := by decide +kernel
theorem d_M_look_27 : decode M_M_look.2.1 27 = .ok (.getfield 66, 3) := by decide +kernel
theorem d_M_look_30 : decode M_M_look.2.1 30 = .ok (.putfield 69, 3) := by decide +kernel
theorem d_M_look_33 : decode M_M_look.2.1 33 = .ok (.return_, 1) := by decide +kernel
theorem d_M_in_0 : decode M_M_in.2.1 0 = .ok (.iload_n 1, 1) := by decide +kernel
theorem d_M_in_1 : decode M_M_in.2.1 1 = .ok (.iconst (4), 1) := by decide +kernel
theorem d_M_in_2 : decode M_M_in.2.1 2 = .ok (.irem, 1) := by decide +kernel
theorem d_M_in_3 : decode M_M_in.2.1 3 = .ok (.istore_n 2, 1) := by decide +kernel
theorem d_M_in_4 : decode M_M_in.2.1 4 = .ok (.iload_n 2, 1) := by decide +kernel
theorem d_M_in_5 : decode M_M_in.2.1 5 = .ok (.ifCond .eq (23), 3) := by decide +kernel
theorem d_M_in_8 : decode M_M_in.2.1 8 = .ok (.iload_n 2, 1) := by decide +kernel
theorem d_M_in_9 : decode M_M_in.2.1 9 = .ok (.aload_n 0, 1) := by decide +kernel
theorem d_M_in_10 : decode M_M_in.2.1 10 = .ok (.getfield 13, 3) := by decide +kernel
theorem d_M_in_13 : decode M_M_in.2.1 13 = .ok (.iload_n 1, 1) := by decide +kernel
theorem d_M_in_14 : decode M_M_in.2.1 14 = .ok (.iconst (4), 1) := by decide +kernel
theorem d_M_in_15 : decode M_M_in.2.1 15 = .ok (.idiv, 1) := by decide +kernel
theorem d_M_in_16 : decode M_M_in.2.1 16 = .ok (.baload, 1) := by decide +kernel
theorem d_M_in_17 : decode M_M_in.2.1 17 = .ok (.ifCond .eq (7), 3) := by decide +kernel
theorem d_M_in_20 : decode M_M_in.2.1 20 = .ok (.iconst (3), 1) := by decide +kernel
theorem d_M_in_21 : decode M_M_in.2.1 21 = .ok (.goto (4), 3) := by decide +kernel
theorem d_M_in_24 : decode M_M_in.2.1 24 = .ok (.iconst (1), 1) := by decide +kernel
theorem d_M_in_25 : decode M_M_in.2.1 25 = .ok (.if_icmp .ne (7), 3) := by decide +kernel
theorem d_M_in_28 : decode M_M_in.2.1 28 = .ok (.iconst (1), 1) := by decide +kernel
theorem d_M_in_29 : decode M_M_in.2.1 29 = .ok (.goto (4), 3) := by decide +kernel
theorem d_M_in_32 : decode M_M_in.2.1 32 = .ok (.iconst (0), 1) := by decide +kernel
theorem d_M_in_33 : decode M_M_in.2.1 33 = .ok (.ireturn, 1) := by decide +kernel
theorem d_M_other_0 : decode M_M_other.2.1 0 = .ok (.iconst (-1), 1) := by decide +kernel
theorem d_M_other_1 : decode M_M_other.2.1 1 = .ok (.istore_n 2, 1) := by decide +kernel
theorem d_M_other_2 : decode M_M_other.2.1 2 = .ok (.iconst (0), 1) := by decide +kernel
theorem d_M_other_3 : decode M_M_other.2.1 3 = .ok (.istore_n 3, 1) := by decide +kernel
theorem d_M_other_4 : decode M_M_other.2.1 4 = .ok (.aload_n 0, 1) := by decide +kernel
theorem d_M_other_5 : decode M_M_other.2.1 5 = .ok (.getfield 63, 3) := by decide +kernel
theorem d_M_other_8 : decode M_M_other.2.1 8 = .ok (.istore 4, 2) := by decide +kernel
theorem d_M_other_10 : decode M_M_other.2.1 10 = .ok (.iload 4, 2) := by decide +kernel
theorem d_M_other_12 : decode M_M_other.2.1 12 = .ok (.aload_n 0, 1) := by decide +kernel
theorem d_M_other_13 : decode M_M_other.2.1 13 = .ok (.getfield 63, 3) := by decide +kernel
theorem d_M_other_16 : decode M_M_other.2.1 16 = .ok (.iconst (4), 1) := by decide +kernel
theorem d_M_other_17 : decode M_M_other.2.1 17 = .ok (.aload_n 0, 1) := by decide +kernel
theorem d_M_other_18 : decode M_M_other.2.1 18 = .ok (.getfield 69, 3) := by decide +kernel
theorem d_M_other_21 : decode M_M_other.2.1 21 = .ok (.imul, 1) := by decide +kernel
theorem d_M_other_22 : decode M_M_other.2.1 22 = .ok (.iadd, 1) := by decide +kernel
theorem d_M_other_23 : decode M_M_other.2.1 23 = .ok (.if_icmp .ge (37), 3) := by decide +kernel
theorem d_M_other_26 : decode M_M_other.2.1 26 = .ok (.iload 4, 2) := by decide +kernel
theorem d_M_other_28 : decode M_M_other.2.1 28 = .ok (.iload_n 1, 1) := by decide +kernel
theorem d_M_other_29 : decode M_M_other.2.1 29 = .ok (.if_icmp .eq (25), 3) := by decide +kernel
theorem d_M_other_32 : decode M_M_other.2.1 32 = .ok (.aload_n 0, 1) := by decide +kernel
theorem d_M_other_33 : decode M_M_other.2.1 33 = .ok (.getfield 7, 3) := by decide +kernel
theorem d_M_other_36 : decode M_M_other.2.1 36 = .ok (.iload 4, 2) := by decide +kernel
theorem d_M_other_38 : decode M_M_other.2.1 38 = .ok (.iaload, 1) := by decide +kernel
theorem d_M_other_39 : decode M_M_other.2.1 39 = .ok (.aload_n 0, 1) := by decide +kernel
theorem d_M_other_40 : decode M_M_other.2.1 40 = .ok (.getfield 7, 3) := by decide +kernel
theorem d_M_other_43 : decode M_M_other.2.1 43 = .ok (.iload_n 1, 1) := by decide +kernel
theorem d_M_other_44 : decode M_M_other.2.1 44 = .ok (.iaload, 1) := by decide +kernel
theorem d_M_other_45 : decode M_M_other.2.1 45 = .ok (.if_icmp .ne (9), 3) := by decide +kernel
theorem d_M_other_48 : decode M_M_other.2.1 48 = .ok (.iload 4, 2) := by decide +kernel
theorem d_M_other_50 : decode M_M_other.2.1 50 = .ok (.istore_n 2, 1) := by decide +kernel
theorem d_M_other_51 : decode M_M_other.2.1 51 = .ok (.iinc 3 (1), 3) := by decide +kernel
theorem d_M_other_54 : decode M_M_other.2.1 54 = .ok (.iinc 4 (1), 3) := by decide +kernel
theorem d_M_other_57 : decode M_M_other.2.1 57 = .ok (.goto (-47), 3) := by decide +kernel
theorem d_M_other_60 : decode M_M_other.2.1 60 = .ok (.iload_n 3, 1) := by decide +kernel
theorem d_M_other_61 : decode M_M_other.2.1 61 = .ok (.iconst (1), 1) := by decide +kernel
theorem d_M_other_62 : decode M_M_other.2.1 62 = .ok (.if_icmp .ne (7), 3) := by decide +kernel
theorem d_M_other_65 : decode M_M_other.2.1 65 = .ok (.iload_n 2, 1) := by decide +kernel
theorem d_M_other_66 : decode M_M_other.2.1 66 = .ok (.goto (4), 3) := by decide +kernel
theorem d_M_other_69 : decode M_M_other.2.1 69 = .ok (.iconst (-1), 1) := by decide +kernel
theorem d_M_other_70 : decode M_M_other.2.1 70 = .ok (.ireturn, 1) := by decide +kernel
theorem d_M_fit_0 : decode M_M_fit.2.1 0 = .ok (.aload_n 0, 1) := by decide +kernel
theorem d_M_fit_1 : decode M_M_fit.2.1 1 = .ok (.getfield 63, 3) := by decide +kernel
theorem d_M_fit_4 : decode M_M_fit.2.1 4 = .ok (.istore_n 1, 1) := by decide +kernel
theorem d_M_fit_5 : decode M_M_fit.2.1 5 = .ok (.iload_n 1, 1) := by decide +kernel
theorem d_M_fit_6 : decode M_M_fit.2.1 6 = .ok (.aload_n 0, 1) := by decide +kernel
theorem d_M_fit_7 : decode M_M_fit.2.1 7 = .ok (.getfield 63, 3) := by decide +kernel
theorem d_M_fit_10 : decode M_M_fit.2.1 10 = .ok (.iconst (4), 1) := by decide +kernel
theorem d_M_fit_11 : decode M_M_fit.2.1 11 = .ok (.aload_n 0, 1) := by decide +kernel
theorem d_M_fit_12 : decode M_M_fit.2.1 12 = .ok (.getfield 69, 3) := by decide +kernel
theorem d_M_fit_15 : decode M_M_fit.2.1 15 = .ok (.imul, 1) := by decide +kernel
theorem d_M_fit_16 : decode M_M_fit.2.1 16 = .ok (.iadd, 1) := by decide +kernel
theorem d_M_fit_17 : decode M_M_fit.2.1 17 = .ok (.if_icmp .ge (34), 3) := by decide +kernel
theorem d_M_fit_20 : decode M_M_fit.2.1 20 = .ok (.aload_n 0, 1) := by decide +kernel
theorem d_M_fit_21 : decode M_M_fit.2.1 21 = .ok (.iload_n 1, 1) := by decide +kernel
theorem d_M_fit_22 : decode M_M_fit.2.1 22 = .ok (.invokevirtual 72, 3) := by decide +kernel
theorem d_M_fit_25 : decode M_M_fit.2.1 25 = .ok (.istore_n 2, 1) := by decide +kernel
theorem d_M_fit_26 : decode M_M_fit.2.1 26 = .ok (.iload_n 2, 1) := by decide +kernel
theorem d_M_fit_27 : decode M_M_fit.2.1 27 = .ok (.ifCond .lt (16), 3) := by decide +kernel
theorem d_M_fit_30 : decode M_M_fit.2.1 30 = .ok (.aload_n 0, 1) := by decide +kernel
theorem d_M_fit_31 : decode M_M_fit.2.1 31 = .ok (.iload_n 2, 1) := by decide +kernel
theorem d_M_fit_32 : decode M_M_fit.2.1 32 = .ok (.invokevirtual 76, 3) := by decide +kernel
theorem d_M_fit_35 : decode M_M_fit.2.1 35 = .ok (.aload_n 0, 1) := by decide +kernel
theorem d_M_fit_36 : decode M_M_fit.2.1 36 = .ok (.iload_n 1, 1) := by decide +kernel
theorem d_M_fit_37 : decode M_M_fit.2.1 37 = .ok (.invokevirtual 76, 3) := by decide +kernel
theorem d_M_fit_40 : decode M_M_fit.2.1 40 = .ok (.if_icmp .ne (5), 3) := by decide +kernel
theorem d_M_fit_43 : decode M_M_fit.2.1 43 = .ok (.iconst (0), 1) := by decide +kernel
theorem d_M_fit_44 : decode M_M_fit.2.1 44 = .ok (.ireturn, 1) := by decide +kernel
theorem d_M_fit_45 : decode M_M_fit.2.1 45 = .ok (.iinc 1 (1), 3) := by decide +kernel
theorem d_M_fit_48 : decode M_M_fit.2.1 48 = .ok (.goto (-43), 3) := by decide +kernel
theorem d_M_fit_51 : decode M_M_fit.2.1 51 = .ok (.iconst (1), 1) := by decide +kernel
theorem d_M_fit_52 : decode M_M_fit.2.1 52 = .ok (.ireturn, 1) := by decide +kernel
theorem d_M_follow_0 : decode M_M_follow.2.1 0 = .ok (.aload_n 0, 1) := by decide +kernel
theorem d_M_follow_1 : decode M_M_follow.2.1 1 = .ok (.iload_n 1, 1) := by decide +kernel
theorem d_M_follow_2 : decode M_M_follow.2.1 2 = .ok (.invokevirtual 72, 3) := by decide +kernel
theorem d_M_follow_5 : decode M_M_follow.2.1 5 = .ok (.istore_n 2, 1) := by decide +kernel
theorem d_M_follow_6 : decode M_M_follow.2.1 6 = .ok (.iload_n 2, 1) := by decide +kernel
theorem d_M_follow_7 : decode M_M_follow.2.1 7 = .ok (.iconst (4), 1) := by decide +kernel
theorem d_M_follow_8 : decode M_M_follow.2.1 8 = .ok (.irem, 1) := by decide +kernel
theorem d_M_follow_9 : decode M_M_follow.2.1 9 = .ok (.ifCond .ne (9), 3) := by decide +kernel
theorem d_M_follow_12 : decode M_M_follow.2.1 12 = .ok (.iload_n 2, 1) := by decide +kernel
theorem d_M_follow_13 : decode M_M_follow.2.1 13 = .ok (.iconst (3), 1) := by decide +kernel
theorem d_M_follow_14 : decode M_M_follow.2.1 14 = .ok (.iadd, 1) := by decide +kernel
theorem d_M_follow_15 : decode M_M_follow.2.1 15 = .ok (.goto (6), 3) := by decide +kernel
theorem d_M_follow_18 : decode M_M_follow.2.1 18 = .ok (.iload_n 2, 1) := by decide +kernel
theorem d_M_follow_19 : decode M_M_follow.2.1 19 = .ok (.iconst (1), 1) := by decide +kernel
theorem d_M_follow_20 : decode M_M_follow.2.1 20 = .ok (.isub, 1) := by decide +kernel
theorem d_M_follow_21 : decode M_M_follow.2.1 21 = .ok (.ireturn, 1) := by decide +kernel
theorem d_M_face_0 : decode M_M_face.2.1 0 = .ok (.iload_n 1, 1) := by decide +kernel
theorem d_M_face_1 : decode M_M_face.2.1 1 = .ok (.istore_n 2, 1) := by decide +kernel
theorem d_M_face_2 : decode M_M_face.2.1 2 = .ok (.aload_n 0, 1) := by decide +kernel
theorem d_M_face_3 : decode M_M_face.2.1 3 = .ok (.iload_n 1, 1) := by decide +kernel
theorem d_M_face_4 : decode M_M_face.2.1 4 = .ok (.invokevirtual 79, 3) := by decide +kernel
theorem d_M_face_7 : decode M_M_face.2.1 7 = .ok (.istore_n 3, 1) := by decide +kernel
theorem d_M_face_8 : decode M_M_face.2.1 8 = .ok (.iload_n 3, 1) := by decide +kernel
theorem d_M_face_9 : decode M_M_face.2.1 9 = .ok (.iload_n 1, 1) := by decide +kernel
theorem d_M_face_10 : decode M_M_face.2.1 10 = .ok (.if_icmp .eq (23), 3) := by decide +kernel
theorem d_M_face_13 : decode M_M_face.2.1 13 = .ok (.iload_n 3, 1) := by decide +kernel
theorem d_M_face_14 : decode M_M_face.2.1 14 = .ok (.iload_n 2, 1) := by decide +kernel
theorem d_M_face_15 : decode M_M_face.2.1 15 = .ok (.if_icmp .ge (7), 3) := by decide +kernel
theorem d_M_face_18 : decode M_M_face.2.1 18 = .ok (.iload_n 3, 1) := by decide +kernel
theorem d_M_face_19 : decode M_M_face.2.1 19 = .ok (.goto (4), 3) := by decide +kernel
theorem d_M_face_22 : decode M_M_face.2.1 22 = .ok (.iload_n 2, 1) := by decide +kernel
theorem d_M_face_23 : decode M_M_face.2.1 23 = .ok (.istore_n 2, 1) := by decide +kernel
theorem d_M_face_24 : decode M_M_face.2.1 24 = .ok (.aload_n 0, 1) := by decide +kernel
theorem d_M_face_25 : decode M_M_face.2.1 25 = .ok (.iload_n 3, 1) := by decide +kernel
theorem d_M_face_26 : decode M_M_face.2.1 26 = .ok (.invokevirtual 79, 3) := by decide +kernel
theorem d_M_face_29 : decode M_M_face.2.1 29 = .ok (.istore_n 3, 1) := by decide +kernel
theorem d_M_face_30 : decode M_M_face.2.1 30 = .ok (.goto (-22), 3) := by decide +kernel
theorem d_M_face_33 : decode M_M_face.2.1 33 = .ok (.iload_n 2, 1) := by decide +kernel
theorem d_M_face_34 : decode M_M_face.2.1 34 = .ok (.ireturn, 1) := by decide +kernel
theorem d_M_faces_0 : decode M_M_faces.2.1 0 = .ok (.iconst (0), 1) := by decide +kernel
theorem d_M_faces_1 : decode M_M_faces.2.1 1 = .ok (.istore_n 1, 1) := by decide +kernel
theorem d_M_faces_2 : decode M_M_faces.2.1 2 = .ok (.aload_n 0, 1) := by decide +kernel
theorem d_M_faces_3 : decode M_M_faces.2.1 3 = .ok (.getfield 63, 3) := by decide +kernel
theorem d_M_faces_6 : decode M_M_faces.2.1 6 = .ok (.istore_n 2, 1) := by decide +kernel
theorem d_M_faces_7 : decode M_M_faces.2.1 7 = .ok (.iload_n 2, 1) := by decide +kernel
theorem d_M_faces_8 : decode M_M_faces.2.1 8 = .ok (.aload_n 0, 1) := by decide +kernel
theorem d_M_faces_9 : decode M_M_faces.2.1 9 = .ok (.getfield 63, 3) := by decide +kernel
theorem d_M_faces_12 : decode M_M_faces.2.1 12 = .ok (.iconst (4), 1) := by decide +kernel
theorem d_M_faces_13 : decode M_M_faces.2.1 13 = .ok (.aload_n 0, 1) := by decide +kernel
theorem d_M_faces_14 : decode M_M_faces.2.1 14 = .ok (.getfield 69, 3) := by decide +kernel
theorem d_M_faces_17 : decode M_M_faces.2.1 17 = .ok (.imul, 1) := by decide +kernel
theorem d_M_faces_18 : decode M_M_faces.2.1 18 = .ok (.iadd, 1) := by decide +kernel
theorem d_M_faces_19 : decode M_M_faces.2.1 19 = .ok (.if_icmp .ge (26), 3) := by decide +kernel
theorem d_M_faces_22 : decode M_M_faces.2.1 22 = .ok (.aload_n 0, 1) := by decide +kernel
theorem d_M_faces_23 : decode M_M_faces.2.1 23 = .ok (.iload_n 2, 1) := by decide +kernel
theorem d_M_faces_24 : decode M_M_faces.2.1 24 = .ok (.invokevirtual 82, 3) := by decide +kernel
theorem d_M_faces_27 : decode M_M_faces.2.1 27 = .ok (.iload_n 2, 1) := by decide +kernel
theorem d_M_faces_28 : decode M_M_faces.2.1 28 = .ok (.if_icmp .ne (9), 3) := by decide +kernel
theorem d_M_faces_31 : decode M_M_faces.2.1 31 = .ok (.iload_n 1, 1) := by decide +kernel
theorem d_M_faces_32 : decode M_M_faces.2.1 32 = .ok (.iconst (1), 1) := by decide +kernel
theorem d_M_faces_33 : decode M_M_faces.2.1 33 = .ok (.iadd, 1) := by decide +kernel
theorem d_M_faces_34 : decode M_M_faces.2.1 34 = .ok (.goto (4), 3) := by decide +kernel
theorem d_M_faces_37 : decode M_M_faces.2.1 37 = .ok (.iload_n 1, 1) := by decide +kernel
theorem d_M_faces_38 : decode M_M_faces.2.1 38 = .ok (.istore_n 1, 1) := by decide +kernel
theorem d_M_faces_39 : decode M_M_faces.2.1 39 = .ok (.iinc 2 (1), 3) := by decide +kernel
theorem d_M_faces_42 : decode M_M_faces.2.1 42 = .ok (.goto (-35), 3) := by decide +kernel
theorem d_M_faces_45 : decode M_M_faces.2.1 45 = .ok (.iload_n 1, 1) := by decide +kernel
theorem d_M_faces_46 : decode M_M_faces.2.1 46 = .ok (.ireturn, 1) := by decide +kernel
theorem d_M_spread_0 : decode M_M_spread.2.1 0 = .ok (.aload_n 0, 1) := by decide +kernel
theorem d_M_spread_1 : decode M_M_spread.2.1 1 = .ok (.getfield 24, 3) := by decide +kernel
theorem d_M_spread_4 : decode M_M_spread.2.1 4 = .ok (.iconst (4), 1) := by decide +kernel
theorem d_M_spread_5 : decode M_M_spread.2.1 5 = .ok (.iload_n 1, 1) := by decide +kernel
theorem d_M_spread_6 : decode M_M_spread.2.1 6 = .ok (.imul, 1) := by decide +kernel
theorem d_M_spread_7 : decode M_M_spread.2.1 7 = .ok (.iconst (1), 1) := by decide +kernel
theorem d_M_spread_8 : decode M_M_spread.2.1 8 = .ok (.bastore, 1) := by decide +kernel
theorem d_M_spread_9 : decode M_M_spread.2.1 9 = .ok (.iconst (1), 1) := by decide +kernel
theorem d_M_spread_10 : decode M_M_spread.2.1 10 = .ok (.istore_n 2, 1) := by decide +kernel
theorem d_M_spread_11 : decode M_M_spread.2.1 11 = .ok (.iload_n 2, 1) := by decide +kernel
theorem d_M_spread_12 : decode M_M_spread.2.1 12 = .ok (.ifCond .eq (130), 3) := by decide +kernel
theorem d_M_spread_15 : decode M_M_spread.2.1 15 = .ok (.iconst (0), 1) := by decide +kernel
theorem d_M_spread_16 : decode M_M_spread.2.1 16 = .ok (.istore_n 2, 1) := by decide +kernel
theorem d_M_spread_17 : decode M_M_spread.2.1 17 = .ok (.aload_n 0, 1) := by decide +kernel
theorem d_M_spread_18 : decode M_M_spread.2.1 18 = .ok (.getfield 63, 3) := by decide +kernel
theorem d_M_spread_21 : decode M_M_spread.2.1 21 = .ok (.istore_n 3, 1) := by decide +kernel
theorem d_M_spread_22 : decode M_M_spread.2.1 22 = .ok (.iload_n 3, 1) := by decide +kernel
theorem d_M_spread_23 : decode M_M_spread.2.1 23 = .ok (.aload_n 0, 1) := by decide +kernel
theorem d_M_spread_24 : decode M_M_spread.2.1 24 = .ok (.getfield 63, 3) := by decide +kernel
theorem d_M_spread_27 : decode M_M_spread.2.1 27 = .ok (.iconst (4), 1) := by decide +kernel
theorem d_M_spread_28 : decode M_M_spread.2.1 28 = .ok (.aload_n 0, 1) := by decide +kernel
theorem d_M_spread_29 : decode M_M_spread.2.1 29 = .ok (.getfield 69, 3) := by decide +kernel
theorem d_M_spread_32 : decode M_M_spread.2.1 32 = .ok (.imul, 1) := by decide +kernel
theorem d_M_spread_33 : decode M_M_spread.2.1 33 = .ok (.iadd, 1) := by decide +kernel
theorem d_M_spread_34 : decode M_M_spread.2.1 34 = .ok (.if_icmp .ge (105), 3) := by decide +kernel
theorem d_M_spread_37 : decode M_M_spread.2.1 37 = .ok (.iload_n 3, 1) := by decide +kernel
theorem d_M_spread_38 : decode M_M_spread.2.1 38 = .ok (.iconst (4), 1) := by decide +kernel
theorem d_M_spread_39 : decode M_M_spread.2.1 39 = .ok (.idiv, 1) := by decide +kernel
theorem d_M_spread_40 : decode M_M_spread.2.1 40 = .ok (.iconst (4), 1) := by decide +kernel
theorem d_M_spread_41 : decode M_M_spread.2.1 41 = .ok (.imul, 1) := by decide +kernel
theorem d_M_spread_42 : decode M_M_spread.2.1 42 = .ok (.istore 4, 2) := by decide +kernel
theorem d_M_spread_44 : decode M_M_spread.2.1 44 = .ok (.aload_n 0, 1) := by decide +kernel
theorem d_M_spread_45 : decode M_M_spread.2.1 45 = .ok (.getfield 24, 3) := by decide +kernel
theorem d_M_spread_48 : decode M_M_spread.2.1 48 = .ok (.iload 4, 2) := by decide +kernel
theorem d_M_spread_50 : decode M_M_spread.2.1 50 = .ok (.baload, 1) := by decide +kernel
theorem d_M_spread_51 : decode M_M_spread.2.1 51 = .ok (.ifCond .ne (52), 3) := by decide +kernel
theorem d_M_spread_54 : decode M_M_spread.2.1 54 = .ok (.aload_n 0, 1) := by decide +kernel
theorem d_M_spread_55 : decode M_M_spread.2.1 55 = .ok (.getfield 24, 3) := by decide +kernel
theorem d_M_spread_58 : decode M_M_spread.2.1 58 = .ok (.iload 4, 2) := by decide +kernel
theorem d_M_spread_60 : decode M_M_spread.2.1 60 = .ok (.iconst (1), 1) := by decide +kernel
theorem d_M_spread_61 : decode M_M_spread.2.1 61 = .ok (.iadd, 1) := by decide +kernel
theorem d_M_spread_62 : decode M_M_spread.2.1 62 = .ok (.baload, 1) := by decide +kernel
theorem d_M_spread_63 : decode M_M_spread.2.1 63 = .ok (.ifCond .ne (40), 3) := by decide +kernel
theorem d_M_spread_66 : decode M_M_spread.2.1 66 = .ok (.aload_n 0, 1) := by decide +kernel
theorem d_M_spread_67 : decode M_M_spread.2.1 67 = .ok (.getfield 24, 3) := by decide +kernel
theorem d_M_spread_70 : decode M_M_spread.2.1 70 = .ok (.iload 4, 2) := by decide +kernel
theorem d_M_spread_72 : decode M_M_spread.2.1 72 = .ok (.iconst (2), 1) := by decide +kernel
theorem d_M_spread_73 : decode M_M_spread.2.1 73 = .ok (.iadd, 1) := by decide +kernel
theorem d_M_spread_74 : decode M_M_spread.2.1 74 = .ok (.baload, 1) := by decide +kernel
theorem d_M_spread_75 : decode M_M_spread.2.1 75 = .ok (.ifCond .ne (28), 3) := by decide +kernel
theorem d_M_spread_78 : decode M_M_spread.2.1 78 = .ok (.aload_n 0, 1) := by decide +kernel
theorem d_M_spread_79 : decode M_M_spread.2.1 79 = .ok (.getfield 24, 3) := by decide +kernel
theorem d_M_spread_82 : decode M_M_spread.2.1 82 = .ok (.iload 4, 2) := by decide +kernel
theorem d_M_spread_84 : decode M_M_spread.2.1 84 = .ok (.iconst (3), 1) := by decide +kernel
theorem d_M_spread_85 : decode M_M_spread.2.1 85 = .ok (.iadd, 1) := by decide +kernel
theorem d_M_spread_86 : decode M_M_spread.2.1 86 = .ok (.baload, 1) := by decide +kernel
theorem d_M_spread_87 : decode M_M_spread.2.1 87 = .ok (.ifCond .ne (16), 3) := by decide +kernel
theorem d_M_spread_90 : decode M_M_spread.2.1 90 = .ok (.aload_n 0, 1) := by decide +kernel
theorem d_M_spread_91 : decode M_M_spread.2.1 91 = .ok (.getfield 24, 3) := by decide +kernel
theorem d_M_spread_94 : decode M_M_spread.2.1 94 = .ok (.aload_n 0, 1) := by decide +kernel
theorem d_M_spread_95 : decode M_M_spread.2.1 95 = .ok (.iload_n 3, 1) := by decide +kernel
theorem d_M_spread_96 : decode M_M_spread.2.1 96 = .ok (.invokevirtual 72, 3) := by decide +kernel
theorem d_M_spread_99 : decode M_M_spread.2.1 99 = .ok (.baload, 1) := by decide +kernel
theorem d_M_spread_100 : decode M_M_spread.2.1 100 = .ok (.ifCond .eq (7), 3) := by decide +kernel
theorem d_M_spread_103 : decode M_M_spread.2.1 103 = .ok (.iconst (1), 1) := by decide +kernel
theorem d_M_spread_104 : decode M_M_spread.2.1 104 = .ok (.goto (4), 3) := by decide +kernel
theorem d_M_spread_107 : decode M_M_spread.2.1 107 = .ok (.iconst (0), 1) := by decide +kernel
theorem d_M_spread_108 : decode M_M_spread.2.1 108 = .ok (.istore 5, 2) := by decide +kernel
theorem d_M_spread_110 : decode M_M_spread.2.1 110 = .ok (.iload 5, 2) := by decide +kernel
theorem d_M_spread_112 : decode M_M_spread.2.1 112 = .ok (.ifCond .eq (21), 3) := by decide +kernel
theorem d_M_spread_115 : decode M_M_spread.2.1 115 = .ok (.aload_n 0, 1) := by decide +kernel
theorem d_M_spread_116 : decode M_M_spread.2.1 116 = .ok (.getfield 24, 3) := by decide +kernel
theorem d_M_spread_119 : decode M_M_spread.2.1 119 = .ok (.iload_n 3, 1) := by decide +kernel
theorem d_M_spread_120 : decode M_M_spread.2.1 120 = .ok (.baload, 1) := by decide +kernel
theorem d_M_spread_121 : decode M_M_spread.2.1 121 = .ok (.ifCond .ne (12), 3) := by decide +kernel
theorem d_M_spread_124 : decode M_M_spread.2.1 124 = .ok (.aload_n 0, 1) := by decide +kernel
theorem d_M_spread_125 : decode M_M_spread.2.1 125 = .ok (.getfield 24, 3) := by decide +kernel
theorem d_M_spread_128 : decode M_M_spread.2.1 128 = .ok (.iload_n 3, 1) := by decide +kernel
theorem d_M_spread_129 : decode M_M_spread.2.1 129 = .ok (.iconst (1), 1) := by decide +kernel
theorem d_M_spread_130 : decode M_M_spread.2.1 130 = .ok (.bastore, 1) := by decide +kernel
theorem d_M_spread_131 : decode M_M_spread.2.1 131 = .ok (.iconst (1), 1) := by decide +kernel
theorem d_M_spread_132 : decode M_M_spread.2.1 132 = .ok (.istore_n 2, 1) := by decide +kernel
theorem d_M_spread_133 : decode M_M_spread.2.1 133 = .ok (.iinc 3 (1), 3) := by decide +kernel
theorem d_M_spread_136 : decode M_M_spread.2.1 136 = .ok (.goto (-114), 3) := by decide +kernel
theorem d_M_spread_139 : decode M_M_spread.2.1 139 = .ok (.goto (-128), 3) := by decide +kernel
theorem d_M_spread_142 : decode M_M_spread.2.1 142 = .ok (.return_, 1) := by decide +kernel
theorem d_M_clear_0 : decode M_M_clear.2.1 0 = .ok (.iconst (0), 1) := by decide +kernel
theorem d_M_clear_1 : decode M_M_clear.2.1 1 = .ok (.istore_n 1, 1) := by decide +kernel
theorem d_M_clear_2 : decode M_M_clear.2.1 2 = .ok (.iload_n 1, 1) := by decide +kernel
theorem d_M_clear_3 : decode M_M_clear.2.1 3 = .ok (.bipush (64), 2) := by decide +kernel
theorem d_M_clear_5 : decode M_M_clear.2.1 5 = .ok (.if_icmp .ge (16), 3) := by decide +kernel
theorem d_M_clear_8 : decode M_M_clear.2.1 8 = .ok (.aload_n 0, 1) := by decide +kernel
theorem d_M_clear_9 : decode M_M_clear.2.1 9 = .ok (.getfield 24, 3) := by decide +kernel
theorem d_M_clear_12 : decode M_M_clear.2.1 12 = .ok (.iload_n 1, 1) := by decide +kernel
theorem d_M_clear_13 : decode M_M_clear.2.1 13 = .ok (.iconst (0), 1) := by decide +kernel
theorem d_M_clear_14 : decode M_M_clear.2.1 14 = .ok (.bastore, 1) := by decide +kernel
theorem d_M_clear_15 : decode M_M_clear.2.1 15 = .ok (.iinc 1 (1), 3) := by decide +kernel
theorem d_M_clear_18 : decode M_M_clear.2.1 18 = .ok (.goto (-16), 3) := by decide +kernel
theorem d_M_clear_21 : decode M_M_clear.2.1 21 = .ok (.return_, 1) := by decide +kernel
theorem d_M_pieces_0 : decode M_M_pieces.2.1 0 = .ok (.aload_n 0, 1) := by decide +kernel
theorem d_M_pieces_1 : decode M_M_pieces.2.1 1 = .ok (.invokevirtual 85, 3) := by decide +kernel
theorem d_M_pieces_4 : decode M_M_pieces.2.1 4 = .ok (.iconst (0), 1) := by decide +kernel
theorem d_M_pieces_5 : decode M_M_pieces.2.1 5 = .ok (.istore_n 1, 1) := by decide +kernel
theorem d_M_pieces_6 : decode M_M_pieces.2.1 6 = .ok (.aload_n 0, 1) := by decide +kernel
theorem d_M_pieces_7 : decode M_M_pieces.2.1 7 = .ok (.getfield 63, 3) := by decide +kernel
theorem d_M_pieces_10 : decode M_M_pieces.2.1 10 = .ok (.iconst (4), 1) := by decide +kernel
theorem d_M_pieces_11 : decode M_M_pieces.2.1 11 = .ok (.idiv, 1) := by decide +kernel
theorem d_M_pieces_12 : decode M_M_pieces.2.1 12 = .ok (.istore_n 2, 1) := by decide +kernel
theorem d_M_pieces_13 : decode M_M_pieces.2.1 13 = .ok (.iload_n 2, 1) := by decide +kernel
theorem d_M_pieces_14 : decode M_M_pieces.2.1 14 = .ok (.aload_n 0, 1) := by decide +kernel
theorem d_M_pieces_15 : decode M_M_pieces.2.1 15 = .ok (.getfield 63, 3) := by decide +kernel
theorem d_M_pieces_18 : decode M_M_pieces.2.1 18 = .ok (.iconst (4), 1) := by decide +kernel
theorem d_M_pieces_19 : decode M_M_pieces.2.1 19 = .ok (.idiv, 1) := by decide +kernel
theorem d_M_pieces_20 : decode M_M_pieces.2.1 20 = .ok (.aload_n 0, 1) := by decide +kernel
theorem d_M_pieces_21 : decode M_M_pieces.2.1 21 = .ok (.getfield 69, 3) := by decide +kernel
theorem d_M_pieces_24 : decode M_M_pieces.2.1 24 = .ok (.iadd, 1) := by decide +kernel
theorem d_M_pieces_25 : decode M_M_pieces.2.1 25 = .ok (.if_icmp .ge (28), 3) := by decide +kernel
theorem d_M_pieces_28 : decode M_M_pieces.2.1 28 = .ok (.aload_n 0, 1) := by decide +kernel
theorem d_M_pieces_29 : decode M_M_pieces.2.1 29 = .ok (.getfield 24, 3) := by decide +kernel
theorem d_M_pieces_32 : decode M_M_pieces.2.1 32 = .ok (.iconst (4), 1) := by decide +kernel
theorem d_M_pieces_33 : decode M_M_pieces.2.1 33 = .ok (.iload_n 2, 1) := by decide +kernel
theorem d_M_pieces_34 : decode M_M_pieces.2.1 34 = .ok (.imul, 1) := by decide +kernel
theorem d_M_pieces_35 : decode M_M_pieces.2.1 35 = .ok (.baload, 1) := by decide +kernel
theorem d_M_pieces_36 : decode M_M_pieces.2.1 36 = .ok (.ifCond .ne (11), 3) := by decide +kernel
theorem d_M_pieces_39 : decode M_M_pieces.2.1 39 = .ok (.iinc 1 (1), 3) := by decide +kernel
theorem d_M_pieces_42 : decode M_M_pieces.2.1 42 = .ok (.aload_n 0, 1) := by decide +kernel
theorem d_M_pieces_43 : decode M_M_pieces.2.1 43 = .ok (.iload_n 2, 1) := by decide +kernel
theorem d_M_pieces_44 : decode M_M_pieces.2.1 44 = .ok (.invokevirtual 88, 3) := by decide +kernel
theorem d_M_pieces_47 : decode M_M_pieces.2.1 47 = .ok (.iinc 2 (1), 3) := by decide +kernel
theorem d_M_pieces_50 : decode M_M_pieces.2.1 50 = .ok (.goto (-37), 3) := by decide +kernel
theorem d_M_pieces_53 : decode M_M_pieces.2.1 53 = .ok (.iload_n 1, 1) := by decide +kernel
theorem d_M_pieces_54 : decode M_M_pieces.2.1 54 = .ok (.ireturn, 1) := by decide +kernel
theorem d_M_take_0 : decode M_M_take.2.1 0 = .ok (.iload_n 1, 1) := by decide +kernel
theorem d_M_take_1 : decode M_M_take.2.1 1 = .ok (.ifCond .lt (19), 3) := by decide +kernel
theorem d_M_take_4 : decode M_M_take.2.1 4 = .ok (.iload_n 1, 1) := by decide +kernel
theorem d_M_take_5 : decode M_M_take.2.1 5 = .ok (.iconst (4), 1) := by decide +kernel
theorem d_M_take_6 : decode M_M_take.2.1 6 = .ok (.if_icmp .gt (14), 3) := by decide +kernel
theorem d_M_take_9 : decode M_M_take.2.1 9 = .ok (.iload_n 1, 1) := by decide +kernel
theorem d_M_take_10 : decode M_M_take.2.1 10 = .ok (.ifCond .ne (12), 3) := by decide +kernel
theorem d_M_take_13 : decode M_M_take.2.1 13 = .ok (.aload_n 0, 1) := by decide +kernel
theorem d_M_take_14 : decode M_M_take.2.1 14 = .ok (.getfield 52, 3) := by decide +kernel
theorem d_M_take_17 : decode M_M_take.2.1 17 = .ok (.ifCond .ne (5), 3) := by decide +kernel
theorem d_M_take_20 : decode M_M_take.2.1 20 = .ok (.iconst (1), 1) := by decide +kernel
theorem d_M_take_21 : decode M_M_take.2.1 21 = .ok (.ireturn, 1) := by decide +kernel
theorem d_M_take_22 : decode M_M_take.2.1 22 = .ok (.aload_n 0, 1) := by decide +kernel
theorem d_M_take_23 : decode M_M_take.2.1 23 = .ok (.iconst (1), 1) := by decide +kernel
theorem d_M_take_24 : decode M_M_take.2.1 24 = .ok (.invokevirtual 92, 3) := by decide +kernel
theorem d_M_take_27 : decode M_M_take.2.1 27 = .ok (.aload_n 0, 1) := by decide +kernel
theorem d_M_take_28 : decode M_M_take.2.1 28 = .ok (.invokevirtual 96, 3) := by decide +kernel
theorem d_M_take_31 : decode M_M_take.2.1 31 = .ok (.ifCond .ne (5), 3) := by decide +kernel
theorem d_M_take_34 : decode M_M_take.2.1 34 = .ok (.iconst (2), 1) := by decide +kernel
theorem d_M_take_35 : decode M_M_take.2.1 35 = .ok (.ireturn, 1) := by decide +kernel
theorem d_M_take_36 : decode M_M_take.2.1 36 = .ok (.aload_n 0, 1) := by decide +kernel
theorem d_M_take_37 : decode M_M_take.2.1 37 = .ok (.invokevirtual 100, 3) := by decide +kernel
theorem d_M_take_40 : decode M_M_take.2.1 40 = .ok (.istore_n 2, 1) := by decide +kernel
theorem d_M_take_41 : decode M_M_take.2.1 41 = .ok (.aload_n 0, 1) := by decide +kernel
theorem d_M_take_42 : decode M_M_take.2.1 42 = .ok (.invokevirtual 104, 3) := by decide +kernel
theorem d_M_take_45 : decode M_M_take.2.1 45 = .ok (.istore_n 3, 1) := by decide +kernel
theorem d_M_take_46 : decode M_M_take.2.1 46 = .ok (.iload_n 2, 1) := by decide +kernel
theorem d_M_take_47 : decode M_M_take.2.1 47 = .ok (.aload_n 0, 1) := by decide +kernel
theorem d_M_take_48 : decode M_M_take.2.1 48 = .ok (.getfield 52, 3) := by decide +kernel
theorem d_M_take_51 : decode M_M_take.2.1 51 = .ok (.iconst (2), 1) := by decide +kernel
theorem d_M_take_52 : decode M_M_take.2.1 52 = .ok (.iload_n 3, 1) := by decide +kernel
theorem d_M_take_53 : decode M_M_take.2.1 53 = .ok (.imul, 1) := by decide +kernel
theorem d_M_take_54 : decode M_M_take.2.1 54 = .ok (.iadd, 1) := by decide +kernel
theorem d_M_take_55 : decode M_M_take.2.1 55 = .ok (.if_icmp .eq (5), 3) := by decide +kernel
theorem d_M_take_58 : decode M_M_take.2.1 58 = .ok (.iconst (3), 1) := by decide +kernel
theorem d_M_take_59 : decode M_M_take.2.1 59 = .ok (.ireturn, 1) := by decide +kernel
theorem d_M_take_60 : decode M_M_take.2.1 60 = .ok (.iconst (0), 1) := by decide +kernel
theorem d_M_take_61 : decode M_M_take.2.1 61 = .ok (.istore 4, 2) := by decide +kernel
theorem d_M_take_63 : decode M_M_take.2.1 63 = .ok (.iload 4, 2) := by decide +kernel
theorem d_M_take_65 : decode M_M_take.2.1 65 = .ok (.bipush (32), 2) := by decide +kernel
theorem d_M_take_67 : decode M_M_take.2.1 67 = .ok (.if_icmp .ge (47), 3) := by decide +kernel
theorem d_M_take_70 : decode M_M_take.2.1 70 = .ok (.aload_n 0, 1) := by decide +kernel
theorem d_M_take_71 : decode M_M_take.2.1 71 = .ok (.getfield 7, 3) := by decide +kernel
theorem d_M_take_74 : decode M_M_take.2.1 74 = .ok (.iload 4, 2) := by decide +kernel
theorem d_M_take_76 : decode M_M_take.2.1 76 = .ok (.aload_n 0, 1) := by decide +kernel
theorem d_M_take_77 : decode M_M_take.2.1 77 = .ok (.getfield 7, 3) := by decide +kernel
theorem d_M_take_80 : decode M_M_take.2.1 80 = .ok (.bipush (32), 2) := by decide +kernel
theorem d_M_take_82 : decode M_M_take.2.1 82 = .ok (.iload 4, 2) := by decide +kernel
theorem d_M_take_84 : decode M_M_take.2.1 84 = .ok (.iadd, 1) := by decide +kernel
theorem d_M_take_85 : decode M_M_take.2.1 85 = .ok (.iaload, 1) := by decide +kernel
theorem d_M_take_86 : decode M_M_take.2.1 86 = .ok (.iastore, 1) := by decide +kernel
theorem d_M_take_87 : decode M_M_take.2.1 87 = .ok (.aload_n 0, 1) := by decide +kernel
theorem d_M_take_88 : decode M_M_take.2.1 88 = .ok (.getfield 13, 3) := by decide +kernel
theorem d_M_take_91 : decode M_M_take.2.1 91 = .ok (.iload 4, 2) := by decide +kernel
theorem d_M_take_93 : decode M_M_take.2.1 93 = .ok (.iconst (4), 1) := by decide +kernel
theorem d_M_take_94 : decode M_M_take.2.1 94 = .ok (.idiv, 1) := by decide +kernel
theorem d_M_take_95 : decode M_M_take.2.1 95 = .ok (.aload_n 0, 1) := by decide +kernel
theorem d_M_take_96 : decode M_M_take.2.1 96 = .ok (.getfield 13, 3) := by decide +kernel
theorem d_M_take_99 : decode M_M_take.2.1 99 = .ok (.bipush (8), 2) := by decide +kernel
theorem d_M_take_101 : decode M_M_take.2.1 101 = .ok (.iload 4, 2) := by decide +kernel
theorem d_M_take_103 : decode M_M_take.2.1 103 = .ok (.iconst (4), 1) := by decide +kernel
theorem d_M_take_104 : decode M_M_take.2.1 104 = .ok (.idiv, 1) := by decide +kernel
theorem d_M_take_105 : decode M_M_take.2.1 105 = .ok (.iadd, 1) := by decide +kernel
theorem d_M_take_106 : decode M_M_take.2.1 106 = .ok (.baload, 1) := by decide +kernel
theorem d_M_take_107 : decode M_M_take.2.1 107 = .ok (.bastore, 1) := by decide +kernel
theorem d_M_take_108 : decode M_M_take.2.1 108 = .ok (.iinc 4 (1), 3) := by decide +kernel
theorem d_M_take_111 : decode M_M_take.2.1 111 = .ok (.goto (-48), 3) := by decide +kernel
theorem d_M_take_114 : decode M_M_take.2.1 114 = .ok (.aload_n 0, 1) := by decide +kernel
theorem d_M_take_115 : decode M_M_take.2.1 115 = .ok (.aload_n 0, 1) := by decide +kernel
theorem d_M_take_116 : decode M_M_take.2.1 116 = .ok (.getfield 52, 3) := by decide +kernel
theorem d_M_take_119 : decode M_M_take.2.1 119 = .ok (.putfield 66, 3) := by decide +kernel
theorem d_M_take_122 : decode M_M_take.2.1 122 = .ok (.aload_n 0, 1) := by decide +kernel
theorem d_M_take_123 : decode M_M_take.2.1 123 = .ok (.iconst (0), 1) := by decide +kernel
theorem d_M_take_124 : decode M_M_take.2.1 124 = .ok (.putfield 52, 3) := by decide +kernel
theorem d_M_take_127 : decode M_M_take.2.1 127 = .ok (.aload_n 0, 1) := by decide +kernel
theorem d_M_take_128 : decode M_M_take.2.1 128 = .ok (.iload_n 1, 1) := by decide +kernel
theorem d_M_take_129 : decode M_M_take.2.1 129 = .ok (.putfield 17, 3) := by decide +kernel
theorem d_M_take_132 : decode M_M_take.2.1 132 = .ok (.iconst (0), 1) := by decide +kernel
theorem d_M_take_133 : decode M_M_take.2.1 133 = .ok (.ireturn, 1) := by decide +kernel
theorem d_M_letter_0 : decode M_M_letter.2.1 0 = .ok (.iload_n 1, 1) := by decide +kernel
theorem d_M_letter_1 : decode M_M_letter.2.1 1 = .ok (.ifCond .eq (23), 3) := by decide +kernel
theorem d_M_letter_4 : decode M_M_letter.2.1 4 = .ok (.iload_n 1, 1) := by decide +kernel
theorem d_M_letter_5 : decode M_M_letter.2.1 5 = .ok (.bipush (-3), 2) := by decide +kernel
theorem d_M_letter_7 : decode M_M_letter.2.1 7 = .ok (.if_icmp .lt (17), 3) := by decide +kernel
theorem d_M_letter_10 : decode M_M_letter.2.1 10 = .ok (.iload_n 1, 1) := by decide +kernel
theorem d_M_letter_11 : decode M_M_letter.2.1 11 = .ok (.iconst (3), 1) := by decide +kernel
theorem d_M_letter_12 : decode M_M_letter.2.1 12 = .ok (.if_icmp .gt (12), 3) := by decide +kernel
theorem d_M_letter_15 : decode M_M_letter.2.1 15 = .ok (.aload_n 0, 1) := by decide +kernel
theorem d_M_letter_16 : decode M_M_letter.2.1 16 = .ok (.getfield 107, 3) := by decide +kernel
theorem d_M_letter_19 : decode M_M_letter.2.1 19 = .ok (.bipush (8), 2) := by decide +kernel
theorem d_M_letter_21 : decode M_M_letter.2.1 21 = .ok (.if_icmp .ne (5), 3) := by decide +kernel
theorem d_M_letter_24 : decode M_M_letter.2.1 24 = .ok (.iconst (0), 1) := by decide +kernel
theorem d_M_letter_25 : decode M_M_letter.2.1 25 = .ok (.ireturn, 1) := by decide +kernel
theorem d_M_letter_26 : decode M_M_letter.2.1 26 = .ok (.aload_n 0, 1) := by decide +kernel
theorem d_M_letter_27 : decode M_M_letter.2.1 27 = .ok (.getfield 21, 3) := by decide +kernel
theorem d_M_letter_30 : decode M_M_letter.2.1 30 = .ok (.aload_n 0, 1) := by decide +kernel
theorem d_M_letter_31 : decode M_M_letter.2.1 31 = .ok (.getfield 107, 3) := by decide +kernel
theorem d_M_letter_34 : decode M_M_letter.2.1 34 = .ok (.iload_n 1, 1) := by decide +kernel
theorem d_M_letter_35 : decode M_M_letter.2.1 35 = .ok (.iastore, 1) := by decide +kernel
theorem d_M_letter_36 : decode M_M_letter.2.1 36 = .ok (.aload_n 0, 1) := by decide +kernel
theorem d_M_letter_37 : decode M_M_letter.2.1 37 = .ok (.dup, 1) := by decide +kernel
theorem d_M_letter_38 : decode M_M_letter.2.1 38 = .ok (.getfield 107, 3) := by decide +kernel
theorem d_M_letter_41 : decode M_M_letter.2.1 41 = .ok (.iconst (1), 1) := by decide +kernel
theorem d_M_letter_42 : decode M_M_letter.2.1 42 = .ok (.iadd, 1) := by decide +kernel
theorem d_M_letter_43 : decode M_M_letter.2.1 43 = .ok (.putfield 107, 3) := by decide +kernel
theorem d_M_letter_46 : decode M_M_letter.2.1 46 = .ok (.iconst (1), 1) := by decide +kernel
theorem d_M_letter_47 : decode M_M_letter.2.1 47 = .ok (.ireturn, 1) := by decide +kernel
theorem d_M_size_0 : decode M_M_size.2.1 0 = .ok (.iload_n 0, 1) := by decide +kernel
theorem d_M_size_1 : decode M_M_size.2.1 1 = .ok (.ifCond .ge (8), 3) := by decide +kernel
theorem d_M_size_4 : decode M_M_size.2.1 4 = .ok (.iload_n 0, 1) := by decide +kernel
theorem d_M_size_5 : decode M_M_size.2.1 5 = .ok (.ineg, 1) := by decide +kernel
theorem d_M_size_6 : decode M_M_size.2.1 6 = .ok (.goto (4), 3) := by decide +kernel
theorem d_M_size_9 : decode M_M_size.2.1 9 = .ok (.iload_n 0, 1) := by decide +kernel
theorem d_M_size_10 : decode M_M_size.2.1 10 = .ok (.ireturn, 1) := by decide +kernel
theorem d_M_braid_0 : decode M_M_braid.2.1 0 = .ok (.iload_n 1, 1) := by decide +kernel
theorem d_M_braid_1 : decode M_M_braid.2.1 1 = .ok (.iconst (1), 1) := by decide +kernel
theorem d_M_braid_2 : decode M_M_braid.2.1 2 = .ok (.if_icmp .lt (8), 3) := by decide +kernel
theorem d_M_braid_5 : decode M_M_braid.2.1 5 = .ok (.iload_n 1, 1) := by decide +kernel
theorem d_M_braid_6 : decode M_M_braid.2.1 6 = .ok (.iconst (4), 1) := by decide +kernel
theorem d_M_braid_7 : decode M_M_braid.2.1 7 = .ok (.if_icmp .le (5), 3) := by decide +kernel
theorem d_M_braid_10 : decode M_M_braid.2.1 10 = .ok (.iconst (0), 1) := by decide +kernel
theorem d_M_braid_11 : decode M_M_braid.2.1 11 = .ok (.ireturn, 1) := by decide +kernel
theorem d_M_braid_12 : decode M_M_braid.2.1 12 = .ok (.iconst (0), 1) := by decide +kernel
theorem d_M_braid_13 : decode M_M_braid.2.1 13 = .ok (.istore_n 2, 1) := by decide +kernel
theorem d_M_braid_14 : decode M_M_braid.2.1 14 = .ok (.iload_n 2, 1) := by decide +kernel
theorem d_M_braid_15 : decode M_M_braid.2.1 15 = .ok (.aload_n 0, 1) := by decide +kernel
theorem d_M_braid_16 : decode M_M_braid.2.1 16 = .ok (.getfield 107, 3) := by decide +kernel
theorem d_M_braid_19 : decode M_M_braid.2.1 19 = .ok (.if_icmp .ge (24), 3) := by decide +kernel
theorem d_M_braid_22 : decode M_M_braid.2.1 22 = .ok (.aload_n 0, 1) := by decide +kernel
theorem d_M_braid_23 : decode M_M_braid.2.1 23 = .ok (.getfield 21, 3) := by decide +kernel
theorem d_M_braid_26 : decode M_M_braid.2.1 26 = .ok (.iload_n 2, 1) := by decide +kernel
theorem d_M_braid_27 : decode M_M_braid.2.1 27 = .ok (.iaload, 1) := by decide +kernel
theorem d_M_braid_28 : decode M_M_braid.2.1 28 = .ok (.invokestatic 110, 3) := by decide +kernel
theorem d_M_braid_31 : decode M_M_braid.2.1 31 = .ok (.iload_n 1, 1) := by decide +kernel
theorem d_M_braid_32 : decode M_M_braid.2.1 32 = .ok (.if_icmp .lt (5), 3) := by decide +kernel
theorem d_M_braid_35 : decode M_M_braid.2.1 35 = .ok (.iconst (0), 1) := by decide +kernel
theorem d_M_braid_36 : decode M_M_braid.2.1 36 = .ok (.ireturn, 1) := by decide +kernel
theorem d_M_braid_37 : decode M_M_braid.2.1 37 = .ok (.iinc 2 (1), 3) := by decide +kernel
theorem d_M_braid_40 : decode M_M_braid.2.1 40 = .ok (.goto (-26), 3) := by decide +kernel
theorem d_M_braid_43 : decode M_M_braid.2.1 43 = .ok (.iconst (1), 1) := by decide +kernel
theorem d_M_braid_44 : decode M_M_braid.2.1 44 = .ok (.istore_n 2, 1) := by decide +kernel
theorem d_M_braid_45 : decode M_M_braid.2.1 45 = .ok (.iload_n 2, 1) := by decide +kernel
theorem d_M_braid_46 : decode M_M_braid.2.1 46 = .ok (.iload_n 1, 1) := by decide +kernel
theorem d_M_braid_47 : decode M_M_braid.2.1 47 = .ok (.if_icmp .gt (16), 3) := by decide +kernel
theorem d_M_braid_50 : decode M_M_braid.2.1 50 = .ok (.aload_n 0, 1) := by decide +kernel
theorem d_M_braid_51 : decode M_M_braid.2.1 51 = .ok (.getfield 49, 3) := by decide +kernel
theorem d_M_braid_54 : decode M_M_braid.2.1 54 = .ok (.iload_n 2, 1) := by decide +kernel
theorem d_M_braid_55 : decode M_M_braid.2.1 55 = .ok (.iload_n 2, 1) := by decide +kernel
theorem d_M_braid_56 : decode M_M_braid.2.1 56 = .ok (.iastore, 1) := by decide +kernel
theorem d_M_braid_57 : decode M_M_braid.2.1 57 = .ok (.iinc 2 (1), 3) := by decide +kernel
theorem d_M_braid_60 : decode M_M_braid.2.1 60 = .ok (.goto (-15), 3) := by decide +kernel
theorem d_M_braid_63 : decode M_M_braid.2.1 63 = .ok (.iconst (0), 1) := by decide +kernel
theorem d_M_braid_64 : decode M_M_braid.2.1 64 = .ok (.istore_n 2, 1) := by decide +kernel
theorem d_M_braid_65 : decode M_M_braid.2.1 65 = .ok (.iload_n 2, 1) := by decide +kernel
theorem d_M_braid_66 : decode M_M_braid.2.1 66 = .ok (.aload_n 0, 1) := by decide +kernel
theorem d_M_braid_67 : decode M_M_braid.2.1 67 = .ok (.getfield 107, 3) := by decide +kernel
theorem d_M_braid_70 : decode M_M_braid.2.1 70 = .ok (.if_icmp .ge (110), 3) := by decide +kernel
theorem d_M_braid_73 : decode M_M_braid.2.1 73 = .ok (.aload_n 0, 1) := by decide +kernel
theorem d_M_braid_74 : decode M_M_braid.2.1 74 = .ok (.getfield 21, 3) := by decide +kernel
theorem d_M_braid_77 : decode M_M_braid.2.1 77 = .ok (.iload_n 2, 1) := by decide +kernel
theorem d_M_braid_78 : decode M_M_braid.2.1 78 = .ok (.iaload, 1) := by decide +kernel
theorem d_M_braid_79 : decode M_M_braid.2.1 79 = .ok (.invokestatic 110, 3) := by decide +kernel
theorem d_M_braid_82 : decode M_M_braid.2.1 82 = .ok (.istore_n 3, 1) := by decide +kernel
theorem d_M_braid_83 : decode M_M_braid.2.1 83 = .ok (.aload_n 0, 1) := by decide +kernel
theorem d_M_braid_84 : decode M_M_braid.2.1 84 = .ok (.getfield 49, 3) := by decide +kernel
theorem d_M_braid_87 : decode M_M_braid.2.1 87 = .ok (.iload_n 3, 1) := by decide +kernel
theorem d_M_braid_88 : decode M_M_braid.2.1 88 = .ok (.iaload, 1) := by decide +kernel
theorem d_M_braid_89 : decode M_M_braid.2.1 89 = .ok (.istore 4, 2) := by decide +kernel
theorem d_M_braid_91 : decode M_M_braid.2.1 91 = .ok (.aload_n 0, 1) := by decide +kernel
theorem d_M_braid_92 : decode M_M_braid.2.1 92 = .ok (.getfield 49, 3) := by decide +kernel
theorem d_M_braid_95 : decode M_M_braid.2.1 95 = .ok (.iload_n 3, 1) := by decide +kernel
theorem d_M_braid_96 : decode M_M_braid.2.1 96 = .ok (.iconst (1), 1) := by decide +kernel
theorem d_M_braid_97 : decode M_M_braid.2.1 97 = .ok (.iadd, 1) := by decide +kernel
theorem d_M_braid_98 : decode M_M_braid.2.1 98 = .ok (.iaload, 1) := by decide +kernel
theorem d_M_braid_99 : decode M_M_braid.2.1 99 = .ok (.istore 5, 2) := by decide +kernel
theorem d_M_braid_101 : decode M_M_braid.2.1 101 = .ok (.iload_n 1, 1) := by decide +kernel
theorem d_M_braid_102 : decode M_M_braid.2.1 102 = .ok (.iconst (1), 1) := by decide +kernel
theorem d_M_braid_103 : decode M_M_braid.2.1 103 = .ok (.iadd, 1) := by decide +kernel
theorem d_M_braid_104 : decode M_M_braid.2.1 104 = .ok (.iconst (2), 1) := by decide +kernel
theorem d_M_braid_105 : decode M_M_braid.2.1 105 = .ok (.iload_n 2, 1) := by decide +kernel
theorem d_M_braid_106 : decode M_M_braid.2.1 106 = .ok (.imul, 1) := by decide +kernel
theorem d_M_braid_107 : decode M_M_braid.2.1 107 = .ok (.iadd, 1) := by decide +kernel
theorem d_M_braid_108 : decode M_M_braid.2.1 108 = .ok (.istore 6, 2) := by decide +kernel
theorem d_M_braid_110 : decode M_M_braid.2.1 110 = .ok (.iload 6, 2) := by decide +kernel
theorem d_M_braid_112 : decode M_M_braid.2.1 112 = .ok (.iconst (1), 1) := by decide +kernel
theorem d_M_braid_113 : decode M_M_braid.2.1 113 = .ok (.iadd, 1) := by decide +kernel
theorem d_M_braid_114 : decode M_M_braid.2.1 114 = .ok (.istore 7, 2) := by decide +kernel
theorem d_M_braid_116 : decode M_M_braid.2.1 116 = .ok (.aload_n 0, 1) := by decide +kernel
theorem d_M_braid_117 : decode M_M_braid.2.1 117 = .ok (.getfield 21, 3) := by decide +kernel
theorem d_M_braid_120 : decode M_M_braid.2.1 120 = .ok (.iload_n 2, 1) := by decide +kernel
theorem d_M_braid_121 : decode M_M_braid.2.1 121 = .ok (.iaload, 1) := by decide +kernel
theorem d_M_braid_122 : decode M_M_braid.2.1 122 = .ok (.ifCond .le (20), 3) := by decide +kernel
theorem d_M_braid_125 : decode M_M_braid.2.1 125 = .ok (.aload_n 0, 1) := by decide +kernel
theorem d_M_braid_126 : decode M_M_braid.2.1 126 = .ok (.iload_n 2, 1) := by decide +kernel
theorem d_M_braid_127 : decode M_M_braid.2.1 127 = .ok (.iload 5, 2) := by decide +kernel
theorem d_M_braid_129 : decode M_M_braid.2.1 129 = .ok (.iload 7, 2) := by decide +kernel
theorem d_M_braid_131 : decode M_M_braid.2.1 131 = .ok (.iload 6, 2) := by decide +kernel
theorem d_M_braid_133 : decode M_M_braid.2.1 133 = .ok (.iload 4, 2) := by decide +kernel
theorem d_M_braid_135 : decode M_M_braid.2.1 135 = .ok (.iconst (1), 1) := by decide +kernel
theorem d_M_braid_136 : decode M_M_braid.2.1 136 = .ok (.invokevirtual 59, 3) := by decide +kernel
theorem d_M_braid_139 : decode M_M_braid.2.1 139 = .ok (.goto (17), 3) := by decide +kernel
theorem d_M_braid_142 : decode M_M_braid.2.1 142 = .ok (.aload_n 0, 1) := by decide +kernel
theorem d_M_braid_143 : decode M_M_braid.2.1 143 = .ok (.iload_n 2, 1) := by decide +kernel
theorem d_M_braid_144 : decode M_M_braid.2.1 144 = .ok (.iload 4, 2) := by decide +kernel
theorem d_M_braid_146 : decode M_M_braid.2.1 146 = .ok (.iload 5, 2) := by decide +kernel
theorem d_M_braid_148 : decode M_M_braid.2.1 148 = .ok (.iload 7, 2) := by decide +kernel
theorem d_M_braid_150 : decode M_M_braid.2.1 150 = .ok (.iload 6, 2) := by decide +kernel
theorem d_M_braid_152 : decode M_M_braid.2.1 152 = .ok (.iconst (0), 1) := by decide +kernel
theorem d_M_braid_153 : decode M_M_braid.2.1 153 = .ok (.invokevirtual 59, 3) := by decide +kernel
theorem d_M_braid_156 : decode M_M_braid.2.1 156 = .ok (.aload_n 0, 1) := by decide +kernel
theorem d_M_braid_157 : decode M_M_braid.2.1 157 = .ok (.getfield 49, 3) := by decide +kernel
theorem d_M_braid_160 : decode M_M_braid.2.1 160 = .ok (.iload_n 3, 1) := by decide +kernel
theorem d_M_braid_161 : decode M_M_braid.2.1 161 = .ok (.iload 6, 2) := by decide +kernel
theorem d_M_braid_163 : decode M_M_braid.2.1 163 = .ok (.iastore, 1) := by decide +kernel
theorem d_M_braid_164 : decode M_M_braid.2.1 164 = .ok (.aload_n 0, 1) := by decide +kernel
theorem d_M_braid_165 : decode M_M_braid.2.1 165 = .ok (.getfield 49, 3) := by decide +kernel
theorem d_M_braid_168 : decode M_M_braid.2.1 168 = .ok (.iload_n 3, 1) := by decide +kernel
theorem d_M_braid_169 : decode M_M_braid.2.1 169 = .ok (.iconst (1), 1) := by decide +kernel
theorem d_M_braid_170 : decode M_M_braid.2.1 170 = .ok (.iadd, 1) := by decide +kernel
theorem d_M_braid_171 : decode M_M_braid.2.1 171 = .ok (.iload 7, 2) := by decide +kernel
theorem d_M_braid_173 : decode M_M_braid.2.1 173 = .ok (.iastore, 1) := by decide +kernel
theorem d_M_braid_174 : decode M_M_braid.2.1 174 = .ok (.iinc 2 (1), 3) := by decide +kernel
theorem d_M_braid_177 : decode M_M_braid.2.1 177 = .ok (.goto (-112), 3) := by decide +kernel
theorem d_M_braid_180 : decode M_M_braid.2.1 180 = .ok (.aload_n 0, 1) := by decide +kernel
theorem d_M_braid_181 : decode M_M_braid.2.1 181 = .ok (.aload_n 0, 1) := by decide +kernel
theorem d_M_braid_182 : decode M_M_braid.2.1 182 = .ok (.getfield 107, 3) := by decide +kernel
theorem d_M_braid_185 : decode M_M_braid.2.1 185 = .ok (.putfield 66, 3) := by decide +kernel
theorem d_M_braid_188 : decode M_M_braid.2.1 188 = .ok (.aload_n 0, 1) := by decide +kernel
theorem d_M_braid_189 : decode M_M_braid.2.1 189 = .ok (.iconst (0), 1) := by decide +kernel
theorem d_M_braid_190 : decode M_M_braid.2.1 190 = .ok (.putfield 107, 3) := by decide +kernel
theorem d_M_braid_193 : decode M_M_braid.2.1 193 = .ok (.aload_n 0, 1) := by decide +kernel
theorem d_M_braid_194 : decode M_M_braid.2.1 194 = .ok (.iconst (0), 1) := by decide +kernel
theorem d_M_braid_195 : decode M_M_braid.2.1 195 = .ok (.putfield 17, 3) := by decide +kernel
theorem d_M_braid_198 : decode M_M_braid.2.1 198 = .ok (.iconst (1), 1) := by decide +kernel
theorem d_M_braid_199 : decode M_M_braid.2.1 199 = .ok (.istore_n 2, 1) := by decide +kernel
theorem d_M_braid_200 : decode M_M_braid.2.1 200 = .ok (.iload_n 2, 1) := by decide +kernel
theorem d_M_braid_201 : decode M_M_braid.2.1 201 = .ok (.iload_n 1, 1) := by decide +kernel
theorem d_M_braid_202 : decode M_M_braid.2.1 202 = .ok (.if_icmp .gt (78), 3) := by decide +kernel
theorem d_M_braid_205 : decode M_M_braid.2.1 205 = .ok (.aload_n 0, 1) := by decide +kernel
theorem d_M_braid_206 : decode M_M_braid.2.1 206 = .ok (.getfield 49, 3) := by decide +kernel
theorem d_M_braid_209 : decode M_M_braid.2.1 209 = .ok (.iload_n 2, 1) := by decide +kernel
theorem d_M_braid_210 : decode M_M_braid.2.1 210 = .ok (.iaload, 1) := by decide +kernel
theorem d_M_braid_211 : decode M_M_braid.2.1 211 = .ok (.iload_n 2, 1) := by decide +kernel
theorem d_M_braid_212 : decode M_M_braid.2.1 212 = .ok (.if_icmp .ne (13), 3) := by decide +kernel
theorem d_M_braid_215 : decode M_M_braid.2.1 215 = .ok (.aload_n 0, 1) := by decide +kernel
theorem d_M_braid_216 : decode M_M_braid.2.1 216 = .ok (.dup, 1) := by decide +kernel
theorem d_M_braid_217 : decode M_M_braid.2.1 217 = .ok (.getfield 17, 3) := by decide +kernel
theorem d_M_braid_220 : decode M_M_braid.2.1 220 = .ok (.iconst (1), 1) := by decide +kernel
theorem d_M_braid_221 : decode M_M_braid.2.1 221 = .ok (.iadd, 1) := by decide +kernel
theorem d_M_braid_222 : decode M_M_braid.2.1 222 = .ok (.putfield 17, 3) := by decide +kernel
theorem d_M_braid_225 : decode M_M_braid.2.1 225 = .ok (.iconst (0), 1) := by decide +kernel
theorem d_M_braid_226 : decode M_M_braid.2.1 226 = .ok (.istore_n 3, 1) := by decide +kernel
theorem d_M_braid_227 : decode M_M_braid.2.1 227 = .ok (.iload_n 3, 1) := by decide +kernel
theorem d_M_braid_228 : decode M_M_braid.2.1 228 = .ok (.iconst (4), 1) := by decide +kernel
theorem d_M_braid_229 : decode M_M_braid.2.1 229 = .ok (.aload_n 0, 1) := by decide +kernel
theorem d_M_braid_230 : decode M_M_braid.2.1 230 = .ok (.getfield 66, 3) := by decide +kernel
theorem d_M_braid_233 : decode M_M_braid.2.1 233 = .ok (.imul, 1) := by decide +kernel
theorem d_M_braid_234 : decode M_M_braid.2.1 234 = .ok (.if_icmp .ge (40), 3) := by decide +kernel
theorem d_M_braid_237 : decode M_M_braid.2.1 237 = .ok (.aload_n 0, 1) := by decide +kernel
theorem d_M_braid_238 : decode M_M_braid.2.1 238 = .ok (.getfield 7, 3) := by decide +kernel
theorem d_M_braid_241 : decode M_M_braid.2.1 241 = .ok (.iload_n 3, 1) := by decide +kernel
theorem d_M_braid_242 : decode M_M_braid.2.1 242 = .ok (.aload_n 0, 1) := by decide +kernel
theorem d_M_braid_243 : decode M_M_braid.2.1 243 = .ok (.getfield 7, 3) := by decide +kernel
theorem d_M_braid_246 : decode M_M_braid.2.1 246 = .ok (.iload_n 3, 1) := by decide +kernel
theorem d_M_braid_247 : decode M_M_braid.2.1 247 = .ok (.iaload, 1) := by decide +kernel
theorem d_M_braid_248 : decode M_M_braid.2.1 248 = .ok (.aload_n 0, 1) := by decide +kernel
theorem d_M_braid_249 : decode M_M_braid.2.1 249 = .ok (.getfield 49, 3) := by decide +kernel
theorem d_M_braid_252 : decode M_M_braid.2.1 252 = .ok (.iload_n 2, 1) := by decide +kernel
theorem d_M_braid_253 : decode M_M_braid.2.1 253 = .ok (.iaload, 1) := by decide +kernel
theorem d_M_braid_254 : decode M_M_braid.2.1 254 = .ok (.if_icmp .ne (7), 3) := by decide +kernel
theorem d_M_braid_257 : decode M_M_braid.2.1 257 = .ok (.iload_n 2, 1) := by decide +kernel
theorem d_M_braid_258 : decode M_M_braid.2.1 258 = .ok (.goto (9), 3) := by decide +kernel
theorem d_M_braid_261 : decode M_M_braid.2.1 261 = .ok (.aload_n 0, 1) := by decide +kernel
theorem d_M_braid_262 : decode M_M_braid.2.1 262 = .ok (.getfield 7, 3) := by decide +kernel
theorem d_M_braid_265 : decode M_M_braid.2.1 265 = .ok (.iload_n 3, 1) := by decide +kernel
theorem d_M_braid_266 : decode M_M_braid.2.1 266 = .ok (.iaload, 1) := by decide +kernel
theorem d_M_braid_267 : decode M_M_braid.2.1 267 = .ok (.iastore, 1) := by decide +kernel
theorem d_M_braid_268 : decode M_M_braid.2.1 268 = .ok (.iinc 3 (1), 3) := by decide +kernel
theorem d_M_braid_271 : decode M_M_braid.2.1 271 = .ok (.goto (-44), 3) := by decide +kernel
theorem d_M_braid_274 : decode M_M_braid.2.1 274 = .ok (.iinc 2 (1), 3) := by decide +kernel
theorem d_M_braid_277 : decode M_M_braid.2.1 277 = .ok (.goto (-77), 3) := by decide +kernel
theorem d_M_braid_280 : decode M_M_braid.2.1 280 = .ok (.iconst (1), 1) := by decide +kernel
theorem d_M_braid_281 : decode M_M_braid.2.1 281 = .ok (.ireturn, 1) := by decide +kernel
theorem d_M_rounds_0 : decode M_M_rounds.2.1 0 = .ok (.aload_n 0, 1) := by decide +kernel
theorem d_M_rounds_1 : decode M_M_rounds.2.1 1 = .ok (.iconst (0), 1) := by decide +kernel
theorem d_M_rounds_2 : decode M_M_rounds.2.1 2 = .ok (.invokevirtual 92, 3) := by decide +kernel
theorem d_M_rounds_5 : decode M_M_rounds.2.1 5 = .ok (.aload_n 0, 1) := by decide +kernel
theorem d_M_rounds_6 : decode M_M_rounds.2.1 6 = .ok (.invokevirtual 85, 3) := by decide +kernel
theorem d_M_rounds_9 : decode M_M_rounds.2.1 9 = .ok (.iconst (0), 1) := by decide +kernel
theorem d_M_rounds_10 : decode M_M_rounds.2.1 10 = .ok (.istore_n 2, 1) := by decide +kernel
theorem d_M_rounds_11 : decode M_M_rounds.2.1 11 = .ok (.iconst (0), 1) := by decide +kernel
theorem d_M_rounds_12 : decode M_M_rounds.2.1 12 = .ok (.istore_n 3, 1) := by decide +kernel
theorem d_M_rounds_13 : decode M_M_rounds.2.1 13 = .ok (.iload_n 3, 1) := by decide +kernel
theorem d_M_rounds_14 : decode M_M_rounds.2.1 14 = .ok (.iconst (4), 1) := by decide +kernel
theorem d_M_rounds_15 : decode M_M_rounds.2.1 15 = .ok (.aload_n 0, 1) := by decide +kernel
theorem d_M_rounds_16 : decode M_M_rounds.2.1 16 = .ok (.getfield 66, 3) := by decide +kernel
theorem d_M_rounds_19 : decode M_M_rounds.2.1 19 = .ok (.imul, 1) := by decide +kernel
theorem d_M_rounds_20 : decode M_M_rounds.2.1 20 = .ok (.if_icmp .ge (69), 3) := by decide +kernel
theorem d_M_rounds_23 : decode M_M_rounds.2.1 23 = .ok (.aload_n 0, 1) := by decide +kernel
theorem d_M_rounds_24 : decode M_M_rounds.2.1 24 = .ok (.getfield 24, 3) := by decide +kernel
theorem d_M_rounds_27 : decode M_M_rounds.2.1 27 = .ok (.iload_n 3, 1) := by decide +kernel
theorem d_M_rounds_28 : decode M_M_rounds.2.1 28 = .ok (.baload, 1) := by decide +kernel
theorem d_M_rounds_29 : decode M_M_rounds.2.1 29 = .ok (.ifCond .ne (54), 3) := by decide +kernel
theorem d_M_rounds_32 : decode M_M_rounds.2.1 32 = .ok (.iinc 2 (1), 3) := by decide +kernel
theorem d_M_rounds_35 : decode M_M_rounds.2.1 35 = .ok (.iload_n 3, 1) := by decide +kernel
theorem d_M_rounds_36 : decode M_M_rounds.2.1 36 = .ok (.istore 4, 2) := by decide +kernel
theorem d_M_rounds_38 : decode M_M_rounds.2.1 38 = .ok (.aload_n 0, 1) := by decide +kernel
theorem d_M_rounds_39 : decode M_M_rounds.2.1 39 = .ok (.getfield 24, 3) := by decide +kernel
theorem d_M_rounds_42 : decode M_M_rounds.2.1 42 = .ok (.iload 4, 2) := by decide +kernel
theorem d_M_rounds_44 : decode M_M_rounds.2.1 44 = .ok (.baload, 1) := by decide +kernel
theorem d_M_rounds_45 : decode M_M_rounds.2.1 45 = .ok (.ifCond .ne (38), 3) := by decide +kernel
theorem d_M_rounds_48 : decode M_M_rounds.2.1 48 = .ok (.aload_n 0, 1) := by decide +kernel
theorem d_M_rounds_49 : decode M_M_rounds.2.1 49 = .ok (.getfield 24, 3) := by decide +kernel
theorem d_M_rounds_52 : decode M_M_rounds.2.1 52 = .ok (.iload 4, 2) := by decide +kernel
theorem d_M_rounds_54 : decode M_M_rounds.2.1 54 = .ok (.iconst (1), 1) := by decide +kernel
theorem d_M_rounds_55 : decode M_M_rounds.2.1 55 = .ok (.bastore, 1) := by decide +kernel
theorem d_M_rounds_56 : decode M_M_rounds.2.1 56 = .ok (.aload_n 0, 1) := by decide +kernel
theorem d_M_rounds_57 : decode M_M_rounds.2.1 57 = .ok (.iload 4, 2) := by decide +kernel
theorem d_M_rounds_59 : decode M_M_rounds.2.1 59 = .ok (.invokevirtual 72, 3) := by decide +kernel
theorem d_M_rounds_62 : decode M_M_rounds.2.1 62 = .ok (.istore 5, 2) := by decide +kernel
theorem d_M_rounds_64 : decode M_M_rounds.2.1 64 = .ok (.aload_n 0, 1) := by decide +kernel
theorem d_M_rounds_65 : decode M_M_rounds.2.1 65 = .ok (.getfield 24, 3) := by decide +kernel
theorem d_M_rounds_68 : decode M_M_rounds.2.1 68 = .ok (.iload 5, 2) := by decide +kernel
theorem d_M_rounds_70 : decode M_M_rounds.2.1 70 = .ok (.iconst (1), 1) := by decide +kernel
theorem d_M_rounds_71 : decode M_M_rounds.2.1 71 = .ok (.bastore, 1) := by decide +kernel
theorem d_M_rounds_72 : decode M_M_rounds.2.1 72 = .ok (.iload 5, 2) := by decide +kernel
theorem d_M_rounds_74 : decode M_M_rounds.2.1 74 = .ok (.iload_n 1, 1) := by decide +kernel
theorem d_M_rounds_75 : decode M_M_rounds.2.1 75 = .ok (.invokestatic 113, 3) := by decide +kernel
theorem d_M_rounds_78 : decode M_M_rounds.2.1 78 = .ok (.istore 4, 2) := by decide +kernel
theorem d_M_rounds_80 : decode M_M_rounds.2.1 80 = .ok (.goto (-42), 3) := by decide +kernel
theorem d_M_rounds_83 : decode M_M_rounds.2.1 83 = .ok (.iinc 3 (1), 3) := by decide +kernel
theorem d_M_rounds_86 : decode M_M_rounds.2.1 86 = .ok (.goto (-73), 3) := by decide +kernel
theorem d_M_rounds_89 : decode M_M_rounds.2.1 89 = .ok (.iload_n 2, 1) := by decide +kernel
theorem d_M_rounds_90 : decode M_M_rounds.2.1 90 = .ok (.ireturn, 1) := by decide +kernel
theorem d_M_through_0 : decode M_M_through.2.1 0 = .ok (.iload_n 0, 1) := by decide +kernel
theorem d_M_through_1 : decode M_M_through.2.1 1 = .ok (.iconst (4), 1) := by decide +kernel
theorem d_M_through_2 : decode M_M_through.2.1 2 = .ok (.irem, 1) := by decide +kernel
theorem d_M_through_3 : decode M_M_through.2.1 3 = .ok (.istore_n 2, 1) := by decide +kernel
theorem d_M_through_4 : decode M_M_through.2.1 4 = .ok (.iload_n 1, 1) := by decide +kernel
theorem d_M_through_5 : decode M_M_through.2.1 5 = .ok (.ifCond .ne (13), 3) := by decide +kernel
theorem d_M_through_8 : decode M_M_through.2.1 8 = .ok (.iload_n 0, 1) := by decide +kernel
theorem d_M_through_9 : decode M_M_through.2.1 9 = .ok (.iload_n 2, 1) := by decide +kernel
theorem d_M_through_10 : decode M_M_through.2.1 10 = .ok (.isub, 1) := by decide +kernel
theorem d_M_through_11 : decode M_M_through.2.1 11 = .ok (.iload_n 2, 1) := by decide +kernel
theorem d_M_through_12 : decode M_M_through.2.1 12 = .ok (.iconst (2), 1) := by decide +kernel
theorem d_M_through_13 : decode M_M_through.2.1 13 = .ok (.iadd, 1) := by decide +kernel
theorem d_M_through_14 : decode M_M_through.2.1 14 = .ok (.iconst (4), 1) := by decide +kernel
theorem d_M_through_15 : decode M_M_through.2.1 15 = .ok (.irem, 1) := by decide +kernel
theorem d_M_through_16 : decode M_M_through.2.1 16 = .ok (.iadd, 1) := by decide +kernel
theorem d_M_through_17 : decode M_M_through.2.1 17 = .ok (.ireturn, 1) := by decide +kernel
theorem d_M_through_18 : decode M_M_through.2.1 18 = .ok (.iload_n 1, 1) := by decide +kernel
theorem d_M_through_19 : decode M_M_through.2.1 19 = .ok (.iconst (1), 1) := by decide +kernel
theorem d_M_through_20 : decode M_M_through.2.1 20 = .ok (.isub, 1) := by decide +kernel
theorem d_M_through_21 : decode M_M_through.2.1 21 = .ok (.iload_n 0, 1) := by decide +kernel
theorem d_M_through_22 : decode M_M_through.2.1 22 = .ok (.iconst (4), 1) := by decide +kernel
theorem d_M_through_23 : decode M_M_through.2.1 23 = .ok (.idiv, 1) := by decide +kernel
theorem d_M_through_24 : decode M_M_through.2.1 24 = .ok (.ishr, 1) := by decide +kernel
theorem d_M_through_25 : decode M_M_through.2.1 25 = .ok (.iconst (1), 1) := by decide +kernel
theorem d_M_through_26 : decode M_M_through.2.1 26 = .ok (.iand, 1) := by decide +kernel
theorem d_M_through_27 : decode M_M_through.2.1 27 = .ok (.iconst (1), 1) := by decide +kernel
theorem d_M_through_28 : decode M_M_through.2.1 28 = .ok (.if_icmp .ne (7), 3) := by decide +kernel
theorem d_M_through_31 : decode M_M_through.2.1 31 = .ok (.iconst (1), 1) := by decide +kernel
theorem d_M_through_32 : decode M_M_through.2.1 32 = .ok (.goto (4), 3) := by decide +kernel
theorem d_M_through_35 : decode M_M_through.2.1 35 = .ok (.iconst (0), 1) := by decide +kernel
theorem d_M_through_36 : decode M_M_through.2.1 36 = .ok (.istore_n 3, 1) := by decide +kernel
theorem d_M_through_37 : decode M_M_through.2.1 37 = .ok (.iload_n 3, 1) := by decide +kernel
theorem d_M_through_38 : decode M_M_through.2.1 38 = .ok (.ifCond .eq (25), 3) := by decide +kernel
theorem d_M_through_41 : decode M_M_through.2.1 41 = .ok (.iload_n 0, 1) := by decide +kernel
theorem d_M_through_42 : decode M_M_through.2.1 42 = .ok (.iload_n 2, 1) := by decide +kernel
theorem d_M_through_43 : decode M_M_through.2.1 43 = .ok (.isub, 1) := by decide +kernel
theorem d_M_through_44 : decode M_M_through.2.1 44 = .ok (.iload_n 2, 1) := by decide +kernel
theorem d_M_through_45 : decode M_M_through.2.1 45 = .ok (.iconst (2), 1) := by decide +kernel
theorem d_M_through_46 : decode M_M_through.2.1 46 = .ok (.irem, 1) := by decide +kernel
theorem d_M_through_47 : decode M_M_through.2.1 47 = .ok (.ifCond .ne (9), 3) := by decide +kernel
theorem d_M_through_50 : decode M_M_through.2.1 50 = .ok (.iload_n 2, 1) := by decide +kernel
theorem d_M_through_51 : decode M_M_through.2.1 51 = .ok (.iconst (1), 1) := by decide +kernel
theorem d_M_through_52 : decode M_M_through.2.1 52 = .ok (.iadd, 1) := by decide +kernel
theorem d_M_through_53 : decode M_M_through.2.1 53 = .ok (.goto (6), 3) := by decide +kernel
theorem d_M_through_56 : decode M_M_through.2.1 56 = .ok (.iload_n 2, 1) := by decide +kernel
theorem d_M_through_57 : decode M_M_through.2.1 57 = .ok (.iconst (1), 1) := by decide +kernel
theorem d_M_through_58 : decode M_M_through.2.1 58 = .ok (.isub, 1) := by decide +kernel
theorem d_M_through_59 : decode M_M_through.2.1 59 = .ok (.iadd, 1) := by decide +kernel
theorem d_M_through_60 : decode M_M_through.2.1 60 = .ok (.goto (10), 3) := by decide +kernel
theorem d_M_through_63 : decode M_M_through.2.1 63 = .ok (.iload_n 0, 1) := by decide +kernel
theorem d_M_through_64 : decode M_M_through.2.1 64 = .ok (.iload_n 2, 1) := by decide +kernel
theorem d_M_through_65 : decode M_M_through.2.1 65 = .ok (.isub, 1) := by decide +kernel
theorem d_M_through_66 : decode M_M_through.2.1 66 = .ok (.iconst (3), 1) := by decide +kernel
theorem d_M_through_67 : decode M_M_through.2.1 67 = .ok (.iadd, 1) := by decide +kernel
theorem d_M_through_68 : decode M_M_through.2.1 68 = .ok (.iload_n 2, 1) := by decide +kernel
theorem d_M_through_69 : decode M_M_through.2.1 69 = .ok (.isub, 1) := by decide +kernel
theorem d_M_through_70 : decode M_M_through.2.1 70 = .ok (.ireturn, 1) := by decide +kernel
theorem d_M_writhe_0 : decode M_M_writhe.2.1 0 = .ok (.iconst (0), 1) := by decide +kernel
theorem d_M_writhe_1 : decode M_M_writhe.2.1 1 = .ok (.istore_n 1, 1) := by decide +kernel
theorem d_M_writhe_2 : decode M_M_writhe.2.1 2 = .ok (.iconst (0), 1) := by decide +kernel
theorem d_M_writhe_3 : decode M_M_writhe.2.1 3 = .ok (.istore_n 2, 1) := by decide +kernel
theorem d_M_writhe_4 : decode M_M_writhe.2.1 4 = .ok (.iload_n 2, 1) := by decide +kernel
theorem d_M_writhe_5 : decode M_M_writhe.2.1 5 = .ok (.aload_n 0, 1) := by decide +kernel
theorem d_M_writhe_6 : decode M_M_writhe.2.1 6 = .ok (.getfield 66, 3) := by decide +kernel
theorem d_M_writhe_9 : decode M_M_writhe.2.1 9 = .ok (.if_icmp .ge (28), 3) := by decide +kernel
theorem d_M_writhe_12 : decode M_M_writhe.2.1 12 = .ok (.aload_n 0, 1) := by decide +kernel
theorem d_M_writhe_13 : decode M_M_writhe.2.1 13 = .ok (.getfield 13, 3) := by decide +kernel
theorem d_M_writhe_16 : decode M_M_writhe.2.1 16 = .ok (.iload_n 2, 1) := by decide +kernel
theorem d_M_writhe_17 : decode M_M_writhe.2.1 17 = .ok (.baload, 1) := by decide +kernel
theorem d_M_writhe_18 : decode M_M_writhe.2.1 18 = .ok (.ifCond .eq (9), 3) := by decide +kernel
theorem d_M_writhe_21 : decode M_M_writhe.2.1 21 = .ok (.iload_n 1, 1) := by decide +kernel
theorem d_M_writhe_22 : decode M_M_writhe.2.1 22 = .ok (.iconst (1), 1) := by decide +kernel
theorem d_M_writhe_23 : decode M_M_writhe.2.1 23 = .ok (.iadd, 1) := by decide +kernel
theorem d_M_writhe_24 : decode M_M_writhe.2.1 24 = .ok (.goto (6), 3) := by decide +kernel
theorem d_M_writhe_27 : decode M_M_writhe.2.1 27 = .ok (.iload_n 1, 1) := by decide +kernel
theorem d_M_writhe_28 : decode M_M_writhe.2.1 28 = .ok (.iconst (1), 1) := by decide +kernel
theorem d_M_writhe_29 : decode M_M_writhe.2.1 29 = .ok (.isub, 1) := by decide +kernel
theorem d_M_writhe_30 : decode M_M_writhe.2.1 30 = .ok (.istore_n 1, 1) := by decide +kernel
theorem d_M_writhe_31 : decode M_M_writhe.2.1 31 = .ok (.iinc 2 (1), 3) := by decide +kernel
theorem d_M_writhe_34 : decode M_M_writhe.2.1 34 = .ok (.goto (-30), 3) := by decide +kernel
theorem d_M_writhe_37 : decode M_M_writhe.2.1 37 = .ok (.iload_n 1, 1) := by decide +kernel
theorem d_M_writhe_38 : decode M_M_writhe.2.1 38 = .ok (.ireturn, 1) := by decide +kernel
theorem d_M_count_0 : decode M_M_count.2.1 0 = .ok (.aload_n 0, 1) := by decide +kernel
theorem d_M_count_1 : decode M_M_count.2.1 1 = .ok (.iconst (0), 1) := by decide +kernel
theorem d_M_count_2 : decode M_M_count.2.1 2 = .ok (.invokevirtual 92, 3) := by decide +kernel
theorem d_M_count_5 : decode M_M_count.2.1 5 = .ok (.iload_n 1, 1) := by decide +kernel
theorem d_M_count_6 : decode M_M_count.2.1 6 = .ok (.tableswitch (74) (0) (5) #[38, 43, 48, 59, 64, 69], 38) := by decide +kernel
theorem d_M_count_44 : decode M_M_count.2.1 44 = .ok (.aload_n 0, 1) := by decide +kernel
theorem d_M_count_45 : decode M_M_count.2.1 45 = .ok (.getfield 66, 3) := by decide +kernel
theorem d_M_count_48 : decode M_M_count.2.1 48 = .ok (.ireturn, 1) := by decide +kernel
theorem d_M_count_49 : decode M_M_count.2.1 49 = .ok (.aload_n 0, 1) := by decide +kernel
theorem d_M_count_50 : decode M_M_count.2.1 50 = .ok (.getfield 17, 3) := by decide +kernel
theorem d_M_count_53 : decode M_M_count.2.1 53 = .ok (.ireturn, 1) := by decide +kernel
theorem d_M_count_54 : decode M_M_count.2.1 54 = .ok (.aload_n 0, 1) := by decide +kernel
theorem d_M_count_55 : decode M_M_count.2.1 55 = .ok (.iconst (0), 1) := by decide +kernel
theorem d_M_count_56 : decode M_M_count.2.1 56 = .ok (.invokevirtual 117, 3) := by decide +kernel
theorem d_M_count_59 : decode M_M_count.2.1 59 = .ok (.aload_n 0, 1) := by decide +kernel
theorem d_M_count_60 : decode M_M_count.2.1 60 = .ok (.getfield 17, 3) := by decide +kernel
theorem d_M_count_63 : decode M_M_count.2.1 63 = .ok (.iadd, 1) := by decide +kernel
theorem d_M_count_64 : decode M_M_count.2.1 64 = .ok (.ireturn, 1) := by decide +kernel
theorem d_M_count_65 : decode M_M_count.2.1 65 = .ok (.aload_n 0, 1) := by decide +kernel
theorem d_M_count_66 : decode M_M_count.2.1 66 = .ok (.invokevirtual 120, 3) := by decide +kernel
theorem d_M_count_69 : decode M_M_count.2.1 69 = .ok (.ireturn, 1) := by decide +kernel
theorem d_M_count_70 : decode M_M_count.2.1 70 = .ok (.aload_n 0, 1) := by decide +kernel
theorem d_M_count_71 : decode M_M_count.2.1 71 = .ok (.invokevirtual 100, 3) := by decide +kernel
theorem d_M_count_74 : decode M_M_count.2.1 74 = .ok (.ireturn, 1) := by decide +kernel
theorem d_M_count_75 : decode M_M_count.2.1 75 = .ok (.aload_n 0, 1) := by decide +kernel
theorem d_M_count_76 : decode M_M_count.2.1 76 = .ok (.invokevirtual 104, 3) := by decide +kernel
theorem d_M_count_79 : decode M_M_count.2.1 79 = .ok (.ireturn, 1) := by decide +kernel
theorem d_M_count_80 : decode M_M_count.2.1 80 = .ok (.bipush (-100), 2) := by decide +kernel
theorem d_M_count_82 : decode M_M_count.2.1 82 = .ok (.ireturn, 1) := by decide +kernel
theorem d_M_end_0 : decode M_M_end.2.1 0 = .ok (.iload_n 1, 1) := by decide +kernel
theorem d_M_end_1 : decode M_M_end.2.1 1 = .ok (.ifCond .lt (20), 3) := by decide +kernel
theorem d_M_end_4 : decode M_M_end.2.1 4 = .ok (.iload_n 1, 1) := by decide +kernel
theorem d_M_end_5 : decode M_M_end.2.1 5 = .ok (.aload_n 0, 1) := by decide +kernel
theorem d_M_end_6 : decode M_M_end.2.1 6 = .ok (.getfield 66, 3) := by decide +kernel
theorem d_M_end_9 : decode M_M_end.2.1 9 = .ok (.if_icmp .ge (12), 3) := by decide +kernel
theorem d_M_end_12 : decode M_M_end.2.1 12 = .ok (.iload_n 2, 1) := by decide +kernel
theorem d_M_end_13 : decode M_M_end.2.1 13 = .ok (.ifCond .lt (8), 3) := by decide +kernel
theorem d_M_end_16 : decode M_M_end.2.1 16 = .ok (.iload_n 2, 1) := by decide +kernel
theorem d_M_end_17 : decode M_M_end.2.1 17 = .ok (.iconst (4), 1) := by decide +kernel
theorem d_M_end_18 : decode M_M_end.2.1 18 = .ok (.if_icmp .le (6), 3) := by decide +kernel
theorem d_M_end_21 : decode M_M_end.2.1 21 = .ok (.bipush (-100), 2) := by decide +kernel
theorem d_M_end_23 : decode M_M_end.2.1 23 = .ok (.ireturn, 1) := by decide +kernel
theorem d_M_end_24 : decode M_M_end.2.1 24 = .ok (.iload_n 2, 1) := by decide +kernel
theorem d_M_end_25 : decode M_M_end.2.1 25 = .ok (.iconst (4), 1) := by decide +kernel
theorem d_M_end_26 : decode M_M_end.2.1 26 = .ok (.if_icmp .ge (16), 3) := by decide +kernel
theorem d_M_end_29 : decode M_M_end.2.1 29 = .ok (.aload_n 0, 1) := by decide +kernel
theorem d_M_end_30 : decode M_M_end.2.1 30 = .ok (.getfield 7, 3) := by decide +kernel
theorem d_M_end_33 : decode M_M_end.2.1 33 = .ok (.iconst (4), 1) := by decide +kernel
theorem d_M_end_34 : decode M_M_end.2.1 34 = .ok (.iload_n 1, 1) := by decide +kernel
theorem d_M_end_35 : decode M_M_end.2.1 35 = .ok (.imul, 1) := by decide +kernel
theorem d_M_end_36 : decode M_M_end.2.1 36 = .ok (.iload_n 2, 1) := by decide +kernel
theorem d_M_end_37 : decode M_M_end.2.1 37 = .ok (.iadd, 1) := by decide +kernel
theorem d_M_end_38 : decode M_M_end.2.1 38 = .ok (.iaload, 1) := by decide +kernel
theorem d_M_end_39 : decode M_M_end.2.1 39 = .ok (.goto (17), 3) := by decide +kernel
theorem d_M_end_42 : decode M_M_end.2.1 42 = .ok (.aload_n 0, 1) := by decide +kernel
theorem d_M_end_43 : decode M_M_end.2.1 43 = .ok (.getfield 13, 3) := by decide +kernel
theorem d_M_end_46 : decode M_M_end.2.1 46 = .ok (.iload_n 1, 1) := by decide +kernel
theorem d_M_end_47 : decode M_M_end.2.1 47 = .ok (.baload, 1) := by decide +kernel
theorem d_M_end_48 : decode M_M_end.2.1 48 = .ok (.ifCond .eq (7), 3) := by decide +kernel
theorem d_M_end_51 : decode M_M_end.2.1 51 = .ok (.iconst (1), 1) := by decide +kernel
theorem d_M_end_52 : decode M_M_end.2.1 52 = .ok (.goto (4), 3) := by decide +kernel
theorem d_M_end_55 : decode M_M_end.2.1 55 = .ok (.iconst (-1), 1) := by decide +kernel
theorem d_M_end_56 : decode M_M_end.2.1 56 = .ok (.ireturn, 1) := by decide +kernel
theorem d_M_doubleLoop_0 : decode M_M_doubleLoop.2.1 0 = .ok (.iconst (0), 1) := by decide +kernel
theorem d_M_doubleLoop_1 : decode M_M_doubleLoop.2.1 1 = .ok (.istore_n 1, 1) := by decide +kernel
theorem d_M_doubleLoop_2 : decode M_M_doubleLoop.2.1 2 = .ok (.iload_n 1, 1) := by decide +kernel
theorem d_M_doubleLoop_3 : decode M_M_doubleLoop.2.1 3 = .ok (.sipush (257), 3) := by decide +kernel
theorem d_M_doubleLoop_6 : decode M_M_doubleLoop.2.1 6 = .ok (.if_icmp .ge (59), 3) := by decide +kernel
theorem d_M_doubleLoop_9 : decode M_M_doubleLoop.2.1 9 = .ok (.iload_n 1, 1) := by decide +kernel
theorem d_M_doubleLoop_10 : decode M_M_doubleLoop.2.1 10 = .ok (.iconst (2), 1) := by decide +kernel
theorem d_M_doubleLoop_11 : decode M_M_doubleLoop.2.1 11 = .ok (.if_icmp .lt (14), 3) := by decide +kernel
theorem d_M_doubleLoop_14 : decode M_M_doubleLoop.2.1 14 = .ok (.aload_n 0, 1) := by decide +kernel
theorem d_M_doubleLoop_15 : decode M_M_doubleLoop.2.1 15 = .ok (.getfield 31, 3) := by decide +kernel
theorem d_M_doubleLoop_18 : decode M_M_doubleLoop.2.1 18 = .ok (.iload_n 1, 1) := by decide +kernel
theorem d_M_doubleLoop_19 : decode M_M_doubleLoop.2.1 19 = .ok (.iconst (2), 1) := by decide +kernel
theorem d_M_doubleLoop_20 : decode M_M_doubleLoop.2.1 20 = .ok (.isub, 1) := by decide +kernel
theorem d_M_doubleLoop_21 : decode M_M_doubleLoop.2.1 21 = .ok (.laload, 1) := by decide +kernel
theorem d_M_doubleLoop_22 : decode M_M_doubleLoop.2.1 22 = .ok (.goto (4), 3) := by decide +kernel
theorem d_M_doubleLoop_25 : decode M_M_doubleLoop.2.1 25 = .ok (.lconst 0, 1) := by decide +kernel
theorem d_M_doubleLoop_26 : decode M_M_doubleLoop.2.1 26 = .ok (.lstore_n 2, 1) := by decide +kernel
theorem d_M_doubleLoop_27 : decode M_M_doubleLoop.2.1 27 = .ok (.iload_n 1, 1) := by decide +kernel
theorem d_M_doubleLoop_28 : decode M_M_doubleLoop.2.1 28 = .ok (.sipush (254), 3) := by decide +kernel
theorem d_M_doubleLoop_31 : decode M_M_doubleLoop.2.1 31 = .ok (.if_icmp .gt (14), 3) := by decide +kernel
theorem d_M_doubleLoop_34 : decode M_M_doubleLoop.2.1 34 = .ok (.aload_n 0, 1) := by decide +kernel
theorem d_M_doubleLoop_35 : decode M_M_doubleLoop.2.1 35 = .ok (.getfield 31, 3) := by decide +kernel
theorem d_M_doubleLoop_38 : decode M_M_doubleLoop.2.1 38 = .ok (.iload_n 1, 1) := by decide +kernel
theorem d_M_doubleLoop_39 : decode M_M_doubleLoop.2.1 39 = .ok (.iconst (2), 1) := by decide +kernel
theorem d_M_doubleLoop_40 : decode M_M_doubleLoop.2.1 40 = .ok (.iadd, 1) := by decide +kernel
theorem d_M_doubleLoop_41 : decode M_M_doubleLoop.2.1 41 = .ok (.laload, 1) := by decide +kernel
theorem d_M_doubleLoop_42 : decode M_M_doubleLoop.2.1 42 = .ok (.goto (4), 3) := by decide +kernel
theorem d_M_doubleLoop_45 : decode M_M_doubleLoop.2.1 45 = .ok (.lconst 0, 1) := by decide +kernel
theorem d_M_doubleLoop_46 : decode M_M_doubleLoop.2.1 46 = .ok (.lstore 4, 2) := by decide +kernel
theorem d_M_doubleLoop_48 : decode M_M_doubleLoop.2.1 48 = .ok (.aload_n 0, 1) := by decide +kernel
theorem d_M_doubleLoop_49 : decode M_M_doubleLoop.2.1 49 = .ok (.getfield 34, 3) := by decide +kernel
theorem d_M_doubleLoop_52 : decode M_M_doubleLoop.2.1 52 = .ok (.iload_n 1, 1) := by decide +kernel
theorem d_M_doubleLoop_53 : decode M_M_doubleLoop.2.1 53 = .ok (.lload_n 2, 1) := by decide +kernel
theorem d_M_doubleLoop_54 : decode M_M_doubleLoop.2.1 54 = .ok (.lneg, 1) := by decide +kernel
theorem d_M_doubleLoop_55 : decode M_M_doubleLoop.2.1 55 = .ok (.lload 4, 2) := by decide +kernel
theorem d_M_doubleLoop_57 : decode M_M_doubleLoop.2.1 57 = .ok (.lsub, 1) := by decide +kernel
theorem d_M_doubleLoop_58 : decode M_M_doubleLoop.2.1 58 = .ok (.lastore, 1) := by decide +kernel
theorem d_M_doubleLoop_59 : decode M_M_doubleLoop.2.1 59 = .ok (.iinc 1 (1), 3) := by decide +kernel
theorem d_M_doubleLoop_62 : decode M_M_doubleLoop.2.1 62 = .ok (.goto (-60), 3) := by decide +kernel
theorem d_M_doubleLoop_65 : decode M_M_doubleLoop.2.1 65 = .ok (.iconst (0), 1) := by decide +kernel
theorem d_M_doubleLoop_66 : decode M_M_doubleLoop.2.1 66 = .ok (.istore_n 1, 1) := by decide +kernel
theorem d_M_doubleLoop_67 : decode M_M_doubleLoop.2.1 67 = .ok (.iload_n 1, 1) := by decide +kernel
theorem d_M_doubleLoop_68 : decode M_M_doubleLoop.2.1 68 = .ok (.sipush (257), 3) := by decide +kernel
theorem d_M_doubleLoop_71 : decode M_M_doubleLoop.2.1 71 = .ok (.if_icmp .ge (21), 3) := by decide +kernel
theorem d_M_doubleLoop_74 : decode M_M_doubleLoop.2.1 74 = .ok (.aload_n 0, 1) := by decide +kernel
theorem d_M_doubleLoop_75 : decode M_M_doubleLoop.2.1 75 = .ok (.getfield 31, 3) := by decide +kernel
theorem d_M_doubleLoop_78 : decode M_M_doubleLoop.2.1 78 = .ok (.iload_n 1, 1) := by decide +kernel
theorem d_M_doubleLoop_79 : decode M_M_doubleLoop.2.1 79 = .ok (.aload_n 0, 1) := by decide +kernel
theorem d_M_doubleLoop_80 : decode M_M_doubleLoop.2.1 80 = .ok (.getfield 34, 3) := by decide +kernel
theorem d_M_doubleLoop_83 : decode M_M_doubleLoop.2.1 83 = .ok (.iload_n 1, 1) := by decide +kernel
theorem d_M_doubleLoop_84 : decode M_M_doubleLoop.2.1 84 = .ok (.laload, 1) := by decide +kernel
theorem d_M_doubleLoop_85 : decode M_M_doubleLoop.2.1 85 = .ok (.lastore, 1) := by decide +kernel
theorem d_M_doubleLoop_86 : decode M_M_doubleLoop.2.1 86 = .ok (.iinc 1 (1), 3) := by decide +kernel
theorem d_M_doubleLoop_89 : decode M_M_doubleLoop.2.1 89 = .ok (.goto (-22), 3) := by decide +kernel
theorem d_M_doubleLoop_92 : decode M_M_doubleLoop.2.1 92 = .ok (.return_, 1) := by decide +kernel
theorem d_M_addState_0 : decode M_M_addState.2.1 0 = .ok (.iconst (0), 1) := by decide +kernel
theorem d_M_addState_1 : decode M_M_addState.2.1 1 = .ok (.istore_n 2, 1) := by decide +kernel
theorem d_M_addState_2 : decode M_M_addState.2.1 2 = .ok (.iload_n 2, 1) := by decide +kernel
theorem d_M_addState_3 : decode M_M_addState.2.1 3 = .ok (.sipush (257), 3) := by decide +kernel
theorem d_M_addState_6 : decode M_M_addState.2.1 6 = .ok (.if_icmp .ge (16), 3) := by decide +kernel
theorem d_M_addState_9 : decode M_M_addState.2.1 9 = .ok (.aload_n 0, 1) := by decide +kernel
theorem d_M_addState_10 : decode M_M_addState.2.1 10 = .ok (.getfield 31, 3) := by decide +kernel
theorem d_M_addState_13 : decode M_M_addState.2.1 13 = .ok (.iload_n 2, 1) := by decide +kernel
theorem d_M_addState_14 : decode M_M_addState.2.1 14 = .ok (.lconst 0, 1) := by decide +kernel
theorem d_M_addState_15 : decode M_M_addState.2.1 15 = .ok (.lastore, 1) := by decide +kernel
theorem d_M_addState_16 : decode M_M_addState.2.1 16 = .ok (.iinc 2 (1), 3) := by decide +kernel
theorem d_M_addState_19 : decode M_M_addState.2.1 19 = .ok (.goto (-17), 3) := by decide +kernel
theorem d_M_addState_22 : decode M_M_addState.2.1 22 = .ok (.iconst (0), 1) := by decide +kernel
theorem d_M_addState_23 : decode M_M_addState.2.1 23 = .ok (.istore_n 2, 1) := by decide +kernel
theorem d_M_addState_24 : decode M_M_addState.2.1 24 = .ok (.iconst (0), 1) := by decide +kernel
theorem d_M_addState_25 : decode M_M_addState.2.1 25 = .ok (.istore_n 3, 1) := by decide +kernel
theorem d_M_addState_26 : decode M_M_addState.2.1 26 = .ok (.iload_n 3, 1) := by decide +kernel
theorem d_M_addState_27 : decode M_M_addState.2.1 27 = .ok (.aload_n 0, 1) := by decide +kernel
theorem d_M_addState_28 : decode M_M_addState.2.1 28 = .ok (.getfield 66, 3) := by decide +kernel
theorem d_M_addState_31 : decode M_M_addState.2.1 31 = .ok (.if_icmp .ge (28), 3) := by decide +kernel
theorem d_M_addState_34 : decode M_M_addState.2.1 34 = .ok (.iload_n 1, 1) := by decide +kernel
theorem d_M_addState_35 : decode M_M_addState.2.1 35 = .ok (.iload_n 3, 1) := by decide +kernel
theorem d_M_addState_36 : decode M_M_addState.2.1 36 = .ok (.ishr, 1) := by decide +kernel
theorem d_M_addState_37 : decode M_M_addState.2.1 37 = .ok (.iconst (1), 1) := by decide +kernel
theorem d_M_addState_38 : decode M_M_addState.2.1 38 = .ok (.iand, 1) := by decide +kernel
theorem d_M_addState_39 : decode M_M_addState.2.1 39 = .ok (.iconst (1), 1) := by decide +kernel
theorem d_M_addState_40 : decode M_M_addState.2.1 40 = .ok (.if_icmp .ne (9), 3) := by decide +kernel
theorem d_M_addState_43 : decode M_M_addState.2.1 43 = .ok (.iload_n 2, 1) := by decide +kernel
theorem d_M_addState_44 : decode M_M_addState.2.1 44 = .ok (.iconst (1), 1) := by decide +kernel
theorem d_M_addState_45 : decode M_M_addState.2.1 45 = .ok (.iadd, 1) := by decide +kernel
theorem d_M_addState_46 : decode M_M_addState.2.1 46 = .ok (.goto (6), 3) := by decide +kernel
theorem d_M_addState_49 : decode M_M_addState.2.1 49 = .ok (.iload_n 2, 1) := by decide +kernel
theorem d_M_addState_50 : decode M_M_addState.2.1 50 = .ok (.iconst (1), 1) := by decide +kernel
theorem d_M_addState_51 : decode M_M_addState.2.1 51 = .ok (.isub, 1) := by decide +kernel
theorem d_M_addState_52 : decode M_M_addState.2.1 52 = .ok (.istore_n 2, 1) := by decide +kernel
theorem d_M_addState_53 : decode M_M_addState.2.1 53 = .ok (.iinc 3 (1), 3) := by decide +kernel
theorem d_M_addState_56 : decode M_M_addState.2.1 56 = .ok (.goto (-30), 3) := by decide +kernel
theorem d_M_addState_59 : decode M_M_addState.2.1 59 = .ok (.aload_n 0, 1) := by decide +kernel
theorem d_M_addState_60 : decode M_M_addState.2.1 60 = .ok (.getfield 31, 3) := by decide +kernel
theorem d_M_addState_63 : decode M_M_addState.2.1 63 = .ok (.sipush (128), 3) := by decide +kernel
theorem d_M_addState_66 : decode M_M_addState.2.1 66 = .ok (.iload_n 2, 1) := by decide +kernel
theorem d_M_addState_67 : decode M_M_addState.2.1 67 = .ok (.iadd, 1) := by decide +kernel
theorem d_M_addState_68 : decode M_M_addState.2.1 68 = .ok (.lconst 1, 1) := by decide +kernel
theorem d_M_addState_69 : decode M_M_addState.2.1 69 = .ok (.lastore, 1) := by decide +kernel
theorem d_M_addState_70 : decode M_M_addState.2.1 70 = .ok (.aload_n 0, 1) := by decide +kernel
theorem d_M_addState_71 : decode M_M_addState.2.1 71 = .ok (.iconst (1), 1) := by decide +kernel
theorem d_M_addState_72 : decode M_M_addState.2.1 72 = .ok (.iload_n 1, 1) := by decide +kernel
theorem d_M_addState_73 : decode M_M_addState.2.1 73 = .ok (.iadd, 1) := by decide +kernel
theorem d_M_addState_74 : decode M_M_addState.2.1 74 = .ok (.invokevirtual 117, 3) := by decide +kernel
theorem d_M_addState_77 : decode M_M_addState.2.1 77 = .ok (.aload_n 0, 1) := by decide +kernel
theorem d_M_addState_78 : decode M_M_addState.2.1 78 = .ok (.getfield 17, 3) := by decide +kernel
theorem d_M_addState_81 : decode M_M_addState.2.1 81 = .ok (.iadd, 1) := by decide +kernel
theorem d_M_addState_82 : decode M_M_addState.2.1 82 = .ok (.istore_n 3, 1) := by decide +kernel
theorem d_M_addState_83 : decode M_M_addState.2.1 83 = .ok (.iconst (1), 1) := by decide +kernel
theorem d_M_addState_84 : decode M_M_addState.2.1 84 = .ok (.istore 4, 2) := by decide +kernel
theorem d_M_addState_86 : decode M_M_addState.2.1 86 = .ok (.iload 4, 2) := by decide +kernel
theorem d_M_addState_88 : decode M_M_addState.2.1 88 = .ok (.iload_n 3, 1) := by decide +kernel
theorem d_M_addState_89 : decode M_M_addState.2.1 89 = .ok (.if_icmp .ge (13), 3) := by decide +kernel
theorem d_M_addState_92 : decode M_M_addState.2.1 92 = .ok (.aload_n 0, 1) := by decide +kernel
theorem d_M_addState_93 : decode M_M_addState.2.1 93 = .ok (.invokevirtual 123, 3) := by decide +kernel
theorem d_M_addState_96 : decode M_M_addState.2.1 96 = .ok (.iinc 4 (1), 3) := by decide +kernel
theorem d_M_addState_99 : decode M_M_addState.2.1 99 = .ok (.goto (-13), 3) := by decide +kernel
theorem d_M_addState_102 : decode M_M_addState.2.1 102 = .ok (.iconst (0), 1) := by decide +kernel
theorem d_M_addState_103 : decode M_M_addState.2.1 103 = .ok (.istore 4, 2) := by decide +kernel
theorem d_M_addState_105 : decode M_M_addState.2.1 105 = .ok (.iload 4, 2) := by decide +kernel
theorem d_M_addState_107 : decode M_M_addState.2.1 107 = .ok (.sipush (257), 3) := by decide +kernel
theorem d_M_addState_110 : decode M_M_addState.2.1 110 = .ok (.if_icmp .ge (31), 3) := by decide +kernel
theorem d_M_addState_113 : decode M_M_addState.2.1 113 = .ok (.aload_n 0, 1) := by decide +kernel
theorem d_M_addState_114 : decode M_M_addState.2.1 114 = .ok (.getfield 27, 3) := by decide +kernel
theorem d_M_addState_117 : decode M_M_addState.2.1 117 = .ok (.iload 4, 2) := by decide +kernel
theorem d_M_addState_119 : decode M_M_addState.2.1 119 = .ok (.aload_n 0, 1) := by decide +kernel
theorem d_M_addState_120 : decode M_M_addState.2.1 120 = .ok (.getfield 27, 3) := by decide +kernel
theorem d_M_addState_123 : decode M_M_addState.2.1 123 = .ok (.iload 4, 2) := by decide +kernel
theorem d_M_addState_125 : decode M_M_addState.2.1 125 = .ok (.laload, 1) := by decide +kernel
theorem d_M_addState_126 : decode M_M_addState.2.1 126 = .ok (.aload_n 0, 1) := by decide +kernel
theorem d_M_addState_127 : decode M_M_addState.2.1 127 = .ok (.getfield 31, 3) := by decide +kernel
theorem d_M_addState_130 : decode M_M_addState.2.1 130 = .ok (.iload 4, 2) := by decide +kernel
theorem d_M_addState_132 : decode M_M_addState.2.1 132 = .ok (.laload, 1) := by decide +kernel
theorem d_M_addState_133 : decode M_M_addState.2.1 133 = .ok (.ladd, 1) := by decide +kernel
theorem d_M_addState_134 : decode M_M_addState.2.1 134 = .ok (.lastore, 1) := by decide +kernel
theorem d_M_addState_135 : decode M_M_addState.2.1 135 = .ok (.iinc 4 (1), 3) := by decide +kernel
theorem d_M_addState_138 : decode M_M_addState.2.1 138 = .ok (.goto (-33), 3) := by decide +kernel
theorem d_M_addState_141 : decode M_M_addState.2.1 141 = .ok (.return_, 1) := by decide +kernel
end
section
theorem d_M_first_0 : decode M_M_first.2.1 0 = .ok (.iload_n 1, 1) := by decide +kernel
theorem d_M_first_1 : decode M_M_first.2.1 1 = .ok (.bipush (-128), 2) := by decide +kernel
theorem d_M_first_3 : decode M_M_first.2.1 3 = .ok (.if_icmp .lt (10), 3) := by decide +kernel
theorem d_M_first_6 : decode M_M_first.2.1 6 = .ok (.iload_n 1, 1) := by decide +kernel
theorem d_M_first_7 : decode M_M_first.2.1 7 = .ok (.sipush (128), 3) := by decide +kernel
theorem d_M_first_10 : decode M_M_first.2.1 10 = .ok (.if_icmp .le (5), 3) := by decide +kernel
theorem d_M_first_13 : decode M_M_first.2.1 13 = .ok (.lconst 0, 1) := by decide +kernel
theorem d_M_first_14 : decode M_M_first.2.1 14 = .ok (.lreturn, 1) := by decide +kernel
theorem d_M_first_15 : decode M_M_first.2.1 15 = .ok (.iconst (0), 1) := by decide +kernel
theorem d_M_first_16 : decode M_M_first.2.1 16 = .ok (.istore_n 2, 1) := by decide +kernel
theorem d_M_first_17 : decode M_M_first.2.1 17 = .ok (.iload_n 2, 1) := by decide +kernel
theorem d_M_first_18 : decode M_M_first.2.1 18 = .ok (.sipush (257), 3) := by decide +kernel
theorem d_M_first_21 : decode M_M_first.2.1 21 = .ok (.if_icmp .ge (16), 3) := by decide +kernel
theorem d_M_first_24 : decode M_M_first.2.1 24 = .ok (.aload_n 0, 1) := by decide +kernel
theorem d_M_first_25 : decode M_M_first.2.1 25 = .ok (.getfield 27, 3) := by decide +kernel
theorem d_M_first_28 : decode M_M_first.2.1 28 = .ok (.iload_n 2, 1) := by decide +kernel
theorem d_M_first_29 : decode M_M_first.2.1 29 = .ok (.lconst 0, 1) := by decide +kernel
theorem d_M_first_30 : decode M_M_first.2.1 30 = .ok (.lastore, 1) := by decide +kernel
theorem d_M_first_31 : decode M_M_first.2.1 31 = .ok (.iinc 2 (1), 3) := by decide +kernel
theorem d_M_first_34 : decode M_M_first.2.1 34 = .ok (.goto (-17), 3) := by decide +kernel
theorem d_M_first_37 : decode M_M_first.2.1 37 = .ok (.iconst (0), 1) := by decide +kernel
theorem d_M_first_38 : decode M_M_first.2.1 38 = .ok (.istore_n 2, 1) := by decide +kernel
theorem d_M_first_39 : decode M_M_first.2.1 39 = .ok (.iload_n 2, 1) := by decide +kernel
theorem d_M_first_40 : decode M_M_first.2.1 40 = .ok (.iconst (1), 1) := by decide +kernel
theorem d_M_first_41 : decode M_M_first.2.1 41 = .ok (.aload_n 0, 1) := by decide +kernel
theorem d_M_first_42 : decode M_M_first.2.1 42 = .ok (.getfield 66, 3) := by decide +kernel
theorem d_M_first_45 : decode M_M_first.2.1 45 = .ok (.ishl, 1) := by decide +kernel
theorem d_M_first_46 : decode M_M_first.2.1 46 = .ok (.if_icmp .ge (14), 3) := by decide +kernel
theorem d_M_first_49 : decode M_M_first.2.1 49 = .ok (.aload_n 0, 1) := by decide +kernel
theorem d_M_first_50 : decode M_M_first.2.1 50 = .ok (.iload_n 2, 1) := by decide +kernel
theorem d_M_first_51 : decode M_M_first.2.1 51 = .ok (.invokevirtual 126, 3) := by decide +kernel
theorem d_M_first_54 : decode M_M_first.2.1 54 = .ok (.iinc 2 (1), 3) := by decide +kernel
theorem d_M_first_57 : decode M_M_first.2.1 57 = .ok (.goto (-18), 3) := by decide +kernel
theorem d_M_first_60 : decode M_M_first.2.1 60 = .ok (.aload_n 0, 1) := by decide +kernel
theorem d_M_first_61 : decode M_M_first.2.1 61 = .ok (.invokevirtual 120, 3) := by decide +kernel
theorem d_M_first_64 : decode M_M_first.2.1 64 = .ok (.istore_n 2, 1) := by decide +kernel
theorem d_M_first_65 : decode M_M_first.2.1 65 = .ok (.iload_n 1, 1) := by decide +kernel
theorem d_M_first_66 : decode M_M_first.2.1 66 = .ok (.iconst (3), 1) := by decide +kernel
theorem d_M_first_67 : decode M_M_first.2.1 67 = .ok (.iload_n 2, 1) := by decide +kernel
theorem d_M_first_68 : decode M_M_first.2.1 68 = .ok (.imul, 1) := by decide +kernel
theorem d_M_first_69 : decode M_M_first.2.1 69 = .ok (.iadd, 1) := by decide +kernel
theorem d_M_first_70 : decode M_M_first.2.1 70 = .ok (.sipush (128), 3) := by decide +kernel
theorem d_M_first_73 : decode M_M_first.2.1 73 = .ok (.iadd, 1) := by decide +kernel
theorem d_M_first_74 : decode M_M_first.2.1 74 = .ok (.istore_n 3, 1) := by decide +kernel
theorem d_M_first_75 : decode M_M_first.2.1 75 = .ok (.iload_n 3, 1) := by decide +kernel
theorem d_M_first_76 : decode M_M_first.2.1 76 = .ok (.ifCond .lt (10), 3) := by decide +kernel
theorem d_M_first_79 : decode M_M_first.2.1 79 = .ok (.iload_n 3, 1) := by decide +kernel
theorem d_M_first_80 : decode M_M_first.2.1 80 = .ok (.sipush (256), 3) := by decide +kernel
theorem d_M_first_83 : decode M_M_first.2.1 83 = .ok (.if_icmp .le (7), 3) := by decide +kernel
theorem d_M_first_86 : decode M_M_first.2.1 86 = .ok (.lconst 0, 1) := by decide +kernel
theorem d_M_first_87 : decode M_M_first.2.1 87 = .ok (.goto (9), 3) := by decide +kernel
theorem d_M_first_90 : decode M_M_first.2.1 90 = .ok (.aload_n 0, 1) := by decide +kernel
theorem d_M_first_91 : decode M_M_first.2.1 91 = .ok (.getfield 27, 3) := by decide +kernel
theorem d_M_first_94 : decode M_M_first.2.1 94 = .ok (.iload_n 3, 1) := by decide +kernel
theorem d_M_first_95 : decode M_M_first.2.1 95 = .ok (.laload, 1) := by decide +kernel
theorem d_M_first_96 : decode M_M_first.2.1 96 = .ok (.lstore 4, 2) := by decide +kernel
theorem d_M_first_98 : decode M_M_first.2.1 98 = .ok (.iload_n 2, 1) := by decide +kernel
theorem d_M_first_99 : decode M_M_first.2.1 99 = .ok (.iconst (2), 1) := by decide +kernel
theorem d_M_first_100 : decode M_M_first.2.1 100 = .ok (.irem, 1) := by decide +kernel
theorem d_M_first_101 : decode M_M_first.2.1 101 = .ok (.ifCond .ne (8), 3) := by decide +kernel
theorem d_M_first_104 : decode M_M_first.2.1 104 = .ok (.lload 4, 2) := by decide +kernel
theorem d_M_first_106 : decode M_M_first.2.1 106 = .ok (.goto (6), 3) := by decide +kernel
theorem d_M_first_109 : decode M_M_first.2.1 109 = .ok (.lload 4, 2) := by decide +kernel
theorem d_M_first_111 : decode M_M_first.2.1 111 = .ok (.lneg, 1) := by decide +kernel
theorem d_M_first_112 : decode M_M_first.2.1 112 = .ok (.lreturn, 1) := by decide +kernel
theorem d_M_merge_0 : decode M_M_merge.2.1 0 = .ok (.aload_n 0, 1) := by decide +kernel
theorem d_M_merge_1 : decode M_M_merge.2.1 1 = .ok (.getfield 37, 3) := by decide +kernel
theorem d_M_merge_4 : decode M_M_merge.2.1 4 = .ok (.iload_n 1, 1) := by decide +kernel
theorem d_M_merge_5 : decode M_M_merge.2.1 5 = .ok (.iaload, 1) := by decide +kernel
theorem d_M_merge_6 : decode M_M_merge.2.1 6 = .ok (.aload_n 0, 1) := by decide +kernel
theorem d_M_merge_7 : decode M_M_merge.2.1 7 = .ok (.getfield 37, 3) := by decide +kernel
theorem d_M_merge_10 : decode M_M_merge.2.1 10 = .ok (.iload_n 2, 1) := by decide +kernel
theorem d_M_merge_11 : decode M_M_merge.2.1 11 = .ok (.iaload, 1) := by decide +kernel
theorem d_M_merge_12 : decode M_M_merge.2.1 12 = .ok (.if_icmp .ge (12), 3) := by decide +kernel
theorem d_M_merge_15 : decode M_M_merge.2.1 15 = .ok (.aload_n 0, 1) := by decide +kernel
theorem d_M_merge_16 : decode M_M_merge.2.1 16 = .ok (.getfield 37, 3) := by decide +kernel
theorem d_M_merge_19 : decode M_M_merge.2.1 19 = .ok (.iload_n 1, 1) := by decide +kernel
theorem d_M_merge_20 : decode M_M_merge.2.1 20 = .ok (.iaload, 1) := by decide +kernel
theorem d_M_merge_21 : decode M_M_merge.2.1 21 = .ok (.goto (9), 3) := by decide +kernel
theorem d_M_merge_24 : decode M_M_merge.2.1 24 = .ok (.aload_n 0, 1) := by decide +kernel
theorem d_M_merge_25 : decode M_M_merge.2.1 25 = .ok (.getfield 37, 3) := by decide +kernel
theorem d_M_merge_28 : decode M_M_merge.2.1 28 = .ok (.iload_n 2, 1) := by decide +kernel
theorem d_M_merge_29 : decode M_M_merge.2.1 29 = .ok (.iaload, 1) := by decide +kernel
theorem d_M_merge_30 : decode M_M_merge.2.1 30 = .ok (.istore_n 3, 1) := by decide +kernel
theorem d_M_merge_31 : decode M_M_merge.2.1 31 = .ok (.aload_n 0, 1) := by decide +kernel
theorem d_M_merge_32 : decode M_M_merge.2.1 32 = .ok (.getfield 37, 3) := by decide +kernel
theorem d_M_merge_35 : decode M_M_merge.2.1 35 = .ok (.iload_n 1, 1) := by decide +kernel
theorem d_M_merge_36 : decode M_M_merge.2.1 36 = .ok (.iaload, 1) := by decide +kernel
theorem d_M_merge_37 : decode M_M_merge.2.1 37 = .ok (.aload_n 0, 1) := by decide +kernel
theorem d_M_merge_38 : decode M_M_merge.2.1 38 = .ok (.getfield 37, 3) := by decide +kernel
theorem d_M_merge_41 : decode M_M_merge.2.1 41 = .ok (.iload_n 2, 1) := by decide +kernel
theorem d_M_merge_42 : decode M_M_merge.2.1 42 = .ok (.iaload, 1) := by decide +kernel
theorem d_M_merge_43 : decode M_M_merge.2.1 43 = .ok (.if_icmp .ge (12), 3) := by decide +kernel
theorem d_M_merge_46 : decode M_M_merge.2.1 46 = .ok (.aload_n 0, 1) := by decide +kernel
theorem d_M_merge_47 : decode M_M_merge.2.1 47 = .ok (.getfield 37, 3) := by decide +kernel
theorem d_M_merge_50 : decode M_M_merge.2.1 50 = .ok (.iload_n 2, 1) := by decide +kernel
theorem d_M_merge_51 : decode M_M_merge.2.1 51 = .ok (.iaload, 1) := by decide +kernel
theorem d_M_merge_52 : decode M_M_merge.2.1 52 = .ok (.goto (9), 3) := by decide +kernel
theorem d_M_merge_55 : decode M_M_merge.2.1 55 = .ok (.aload_n 0, 1) := by decide +kernel
theorem d_M_merge_56 : decode M_M_merge.2.1 56 = .ok (.getfield 37, 3) := by decide +kernel
theorem d_M_merge_59 : decode M_M_merge.2.1 59 = .ok (.iload_n 1, 1) := by decide +kernel
theorem d_M_merge_60 : decode M_M_merge.2.1 60 = .ok (.iaload, 1) := by decide +kernel
theorem d_M_merge_61 : decode M_M_merge.2.1 61 = .ok (.istore 4, 2) := by decide +kernel
theorem d_M_merge_63 : decode M_M_merge.2.1 63 = .ok (.iconst (1), 1) := by decide +kernel
theorem d_M_merge_64 : decode M_M_merge.2.1 64 = .ok (.istore 5, 2) := by decide +kernel
theorem d_M_merge_66 : decode M_M_merge.2.1 66 = .ok (.iload 5, 2) := by decide +kernel
theorem d_M_merge_68 : decode M_M_merge.2.1 68 = .ok (.bipush (33), 2) := by decide +kernel
theorem d_M_merge_70 : decode M_M_merge.2.1 70 = .ok (.if_icmp .ge (39), 3) := by decide +kernel
theorem d_M_merge_73 : decode M_M_merge.2.1 73 = .ok (.aload_n 0, 1) := by decide +kernel
theorem d_M_merge_74 : decode M_M_merge.2.1 74 = .ok (.getfield 37, 3) := by decide +kernel
theorem d_M_merge_77 : decode M_M_merge.2.1 77 = .ok (.iload 5, 2) := by decide +kernel
theorem d_M_merge_79 : decode M_M_merge.2.1 79 = .ok (.aload_n 0, 1) := by decide +kernel
theorem d_M_merge_80 : decode M_M_merge.2.1 80 = .ok (.getfield 37, 3) := by decide +kernel
theorem d_M_merge_83 : decode M_M_merge.2.1 83 = .ok (.iload 5, 2) := by decide +kernel
theorem d_M_merge_85 : decode M_M_merge.2.1 85 = .ok (.iaload, 1) := by decide +kernel
theorem d_M_merge_86 : decode M_M_merge.2.1 86 = .ok (.iload 4, 2) := by decide +kernel
theorem d_M_merge_88 : decode M_M_merge.2.1 88 = .ok (.if_icmp .ne (7), 3) := by decide +kernel
theorem d_M_merge_91 : decode M_M_merge.2.1 91 = .ok (.iload_n 3, 1) := by decide +kernel
theorem d_M_merge_92 : decode M_M_merge.2.1 92 = .ok (.goto (10), 3) := by decide +kernel
theorem d_M_merge_95 : decode M_M_merge.2.1 95 = .ok (.aload_n 0, 1) := by decide +kernel
theorem d_M_merge_96 : decode M_M_merge.2.1 96 = .ok (.getfield 37, 3) := by decide +kernel
theorem d_M_merge_99 : decode M_M_merge.2.1 99 = .ok (.iload 5, 2) := by decide +kernel
theorem d_M_merge_101 : decode M_M_merge.2.1 101 = .ok (.iaload, 1) := by decide +kernel
theorem d_M_merge_102 : decode M_M_merge.2.1 102 = .ok (.iastore, 1) := by decide +kernel
theorem d_M_merge_103 : decode M_M_merge.2.1 103 = .ok (.iinc 5 (1), 3) := by decide +kernel
theorem d_M_merge_106 : decode M_M_merge.2.1 106 = .ok (.goto (-40), 3) := by decide +kernel
theorem d_M_merge_109 : decode M_M_merge.2.1 109 = .ok (.return_, 1) := by decide +kernel
theorem d_M_occurs_0 : decode M_M_occurs.2.1 0 = .ok (.iconst (0), 1) := by decide +kernel
theorem d_M_occurs_1 : decode M_M_occurs.2.1 1 = .ok (.istore_n 2, 1) := by decide +kernel
theorem d_M_occurs_2 : decode M_M_occurs.2.1 2 = .ok (.iload_n 2, 1) := by decide +kernel
theorem d_M_occurs_3 : decode M_M_occurs.2.1 3 = .ok (.iconst (4), 1) := by decide +kernel
theorem d_M_occurs_4 : decode M_M_occurs.2.1 4 = .ok (.aload_n 0, 1) := by decide +kernel
theorem d_M_occurs_5 : decode M_M_occurs.2.1 5 = .ok (.getfield 66, 3) := by decide +kernel
theorem d_M_occurs_8 : decode M_M_occurs.2.1 8 = .ok (.imul, 1) := by decide +kernel
theorem d_M_occurs_9 : decode M_M_occurs.2.1 9 = .ok (.if_icmp .ge (21), 3) := by decide +kernel
theorem d_M_occurs_12 : decode M_M_occurs.2.1 12 = .ok (.aload_n 0, 1) := by decide +kernel
theorem d_M_occurs_13 : decode M_M_occurs.2.1 13 = .ok (.getfield 7, 3) := by decide +kernel
theorem d_M_occurs_16 : decode M_M_occurs.2.1 16 = .ok (.iload_n 2, 1) := by decide +kernel
theorem d_M_occurs_17 : decode M_M_occurs.2.1 17 = .ok (.iaload, 1) := by decide +kernel
theorem d_M_occurs_18 : decode M_M_occurs.2.1 18 = .ok (.iload_n 1, 1) := by decide +kernel
theorem d_M_occurs_19 : decode M_M_occurs.2.1 19 = .ok (.if_icmp .ne (5), 3) := by decide +kernel
theorem d_M_occurs_22 : decode M_M_occurs.2.1 22 = .ok (.iconst (1), 1) := by decide +kernel
theorem d_M_occurs_23 : decode M_M_occurs.2.1 23 = .ok (.ireturn, 1) := by decide +kernel
theorem d_M_occurs_24 : decode M_M_occurs.2.1 24 = .ok (.iinc 2 (1), 3) := by decide +kernel
theorem d_M_occurs_27 : decode M_M_occurs.2.1 27 = .ok (.goto (-25), 3) := by decide +kernel
theorem d_M_occurs_30 : decode M_M_occurs.2.1 30 = .ok (.iconst (0), 1) := by decide +kernel
theorem d_M_occurs_31 : decode M_M_occurs.2.1 31 = .ok (.ireturn, 1) := by decide +kernel
theorem d_M_number_0 : decode M_M_number.2.1 0 = .ok (.iconst (0), 1) := by decide +kernel
theorem d_M_number_1 : decode M_M_number.2.1 1 = .ok (.istore_n 1, 1) := by decide +kernel
theorem d_M_number_2 : decode M_M_number.2.1 2 = .ok (.iload_n 1, 1) := by decide +kernel
theorem d_M_number_3 : decode M_M_number.2.1 3 = .ok (.bipush (33), 2) := by decide +kernel
theorem d_M_number_5 : decode M_M_number.2.1 5 = .ok (.if_icmp .ge (19), 3) := by decide +kernel
theorem d_M_number_8 : decode M_M_number.2.1 8 = .ok (.aload_n 0, 1) := by decide +kernel
theorem d_M_number_9 : decode M_M_number.2.1 9 = .ok (.getfield 37, 3) := by decide +kernel
theorem d_M_number_12 : decode M_M_number.2.1 12 = .ok (.iload_n 1, 1) := by decide +kernel
theorem d_M_number_13 : decode M_M_number.2.1 13 = .ok (.bipush (100), 2) := by decide +kernel
theorem d_M_number_15 : decode M_M_number.2.1 15 = .ok (.iload_n 1, 1) := by decide +kernel
theorem d_M_number_16 : decode M_M_number.2.1 16 = .ok (.iadd, 1) := by decide +kernel
theorem d_M_number_17 : decode M_M_number.2.1 17 = .ok (.iastore, 1) := by decide +kernel
theorem d_M_number_18 : decode M_M_number.2.1 18 = .ok (.iinc 1 (1), 3) := by decide +kernel
theorem d_M_number_21 : decode M_M_number.2.1 21 = .ok (.goto (-19), 3) := by decide +kernel
theorem d_M_number_24 : decode M_M_number.2.1 24 = .ok (.iconst (0), 1) := by decide +kernel
theorem d_M_number_25 : decode M_M_number.2.1 25 = .ok (.istore_n 1, 1) := by decide +kernel
theorem d_M_number_26 : decode M_M_number.2.1 26 = .ok (.iload_n 1, 1) := by decide +kernel
theorem d_M_number_27 : decode M_M_number.2.1 27 = .ok (.aload_n 0, 1) := by decide +kernel
theorem d_M_number_28 : decode M_M_number.2.1 28 = .ok (.getfield 66, 3) := by decide +kernel
theorem d_M_number_31 : decode M_M_number.2.1 31 = .ok (.if_icmp .ge (33), 3) := by decide +kernel
theorem d_M_number_34 : decode M_M_number.2.1 34 = .ok (.aload_n 0, 1) := by decide +kernel
theorem d_M_number_35 : decode M_M_number.2.1 35 = .ok (.aload_n 0, 1) := by decide +kernel
theorem d_M_number_36 : decode M_M_number.2.1 36 = .ok (.getfield 7, 3) := by decide +kernel
theorem d_M_number_39 : decode M_M_number.2.1 39 = .ok (.iconst (4), 1) := by decide +kernel
theorem d_M_number_40 : decode M_M_number.2.1 40 = .ok (.iload_n 1, 1) := by decide +kernel
theorem d_M_number_41 : decode M_M_number.2.1 41 = .ok (.imul, 1) := by decide +kernel
theorem d_M_number_42 : decode M_M_number.2.1 42 = .ok (.iconst (1), 1) := by decide +kernel
theorem d_M_number_43 : decode M_M_number.2.1 43 = .ok (.iadd, 1) := by decide +kernel
theorem d_M_number_44 : decode M_M_number.2.1 44 = .ok (.iaload, 1) := by decide +kernel
theorem d_M_number_45 : decode M_M_number.2.1 45 = .ok (.aload_n 0, 1) := by decide +kernel
theorem d_M_number_46 : decode M_M_number.2.1 46 = .ok (.getfield 7, 3) := by decide +kernel
theorem d_M_number_49 : decode M_M_number.2.1 49 = .ok (.iconst (4), 1) := by decide +kernel
theorem d_M_number_50 : decode M_M_number.2.1 50 = .ok (.iload_n 1, 1) := by decide +kernel
theorem d_M_number_51 : decode M_M_number.2.1 51 = .ok (.imul, 1) := by decide +kernel
theorem d_M_number_52 : decode M_M_number.2.1 52 = .ok (.iconst (3), 1) := by decide +kernel
theorem d_M_number_53 : decode M_M_number.2.1 53 = .ok (.iadd, 1) := by decide +kernel
theorem d_M_number_54 : decode M_M_number.2.1 54 = .ok (.iaload, 1) := by decide +kernel
theorem d_M_number_55 : decode M_M_number.2.1 55 = .ok (.invokevirtual 129, 3) := by decide +kernel
theorem d_M_number_58 : decode M_M_number.2.1 58 = .ok (.iinc 1 (1), 3) := by decide +kernel
theorem d_M_number_61 : decode M_M_number.2.1 61 = .ok (.goto (-35), 3) := by decide +kernel
theorem d_M_number_64 : decode M_M_number.2.1 64 = .ok (.aload_n 0, 1) := by decide +kernel
theorem d_M_number_65 : decode M_M_number.2.1 65 = .ok (.iconst (0), 1) := by decide +kernel
theorem d_M_number_66 : decode M_M_number.2.1 66 = .ok (.putfield 133, 3) := by decide +kernel
theorem d_M_number_69 : decode M_M_number.2.1 69 = .ok (.iconst (1), 1) := by decide +kernel
theorem d_M_number_70 : decode M_M_number.2.1 70 = .ok (.istore_n 1, 1) := by decide +kernel
theorem d_M_number_71 : decode M_M_number.2.1 71 = .ok (.iload_n 1, 1) := by decide +kernel
theorem d_M_number_72 : decode M_M_number.2.1 72 = .ok (.bipush (33), 2) := by decide +kernel
theorem d_M_number_74 : decode M_M_number.2.1 74 = .ok (.if_icmp .ge (86), 3) := by decide +kernel
theorem d_M_number_77 : decode M_M_number.2.1 77 = .ok (.aload_n 0, 1) := by decide +kernel
theorem d_M_number_78 : decode M_M_number.2.1 78 = .ok (.getfield 37, 3) := by decide +kernel
theorem d_M_number_81 : decode M_M_number.2.1 81 = .ok (.iload_n 1, 1) := by decide +kernel
theorem d_M_number_82 : decode M_M_number.2.1 82 = .ok (.iaload, 1) := by decide +kernel
theorem d_M_number_83 : decode M_M_number.2.1 83 = .ok (.bipush (100), 2) := by decide +kernel
theorem d_M_number_85 : decode M_M_number.2.1 85 = .ok (.iload_n 1, 1) := by decide +kernel
theorem d_M_number_86 : decode M_M_number.2.1 86 = .ok (.iadd, 1) := by decide +kernel
theorem d_M_number_87 : decode M_M_number.2.1 87 = .ok (.if_icmp .ne (67), 3) := by decide +kernel
theorem d_M_number_90 : decode M_M_number.2.1 90 = .ok (.aload_n 0, 1) := by decide +kernel
theorem d_M_number_91 : decode M_M_number.2.1 91 = .ok (.iload_n 1, 1) := by decide +kernel
theorem d_M_number_92 : decode M_M_number.2.1 92 = .ok (.invokevirtual 136, 3) := by decide +kernel
theorem d_M_number_95 : decode M_M_number.2.1 95 = .ok (.ifCond .eq (59), 3) := by decide +kernel
theorem d_M_number_98 : decode M_M_number.2.1 98 = .ok (.iload_n 1, 1) := by decide +kernel
theorem d_M_number_99 : decode M_M_number.2.1 99 = .ok (.istore_n 2, 1) := by decide +kernel
theorem d_M_number_100 : decode M_M_number.2.1 100 = .ok (.iload_n 2, 1) := by decide +kernel
theorem d_M_number_101 : decode M_M_number.2.1 101 = .ok (.bipush (33), 2) := by decide +kernel
theorem d_M_number_103 : decode M_M_number.2.1 103 = .ok (.if_icmp .ge (41), 3) := by decide +kernel
theorem d_M_number_106 : decode M_M_number.2.1 106 = .ok (.aload_n 0, 1) := by decide +kernel
theorem d_M_number_107 : decode M_M_number.2.1 107 = .ok (.getfield 37, 3) := by decide +kernel
theorem d_M_number_110 : decode M_M_number.2.1 110 = .ok (.iload_n 2, 1) := by decide +kernel
theorem d_M_number_111 : decode M_M_number.2.1 111 = .ok (.aload_n 0, 1) := by decide +kernel
theorem d_M_number_112 : decode M_M_number.2.1 112 = .ok (.getfield 37, 3) := by decide +kernel
theorem d_M_number_115 : decode M_M_number.2.1 115 = .ok (.iload_n 2, 1) := by decide +kernel
theorem d_M_number_116 : decode M_M_number.2.1 116 = .ok (.iaload, 1) := by decide +kernel
theorem d_M_number_117 : decode M_M_number.2.1 117 = .ok (.bipush (100), 2) := by decide +kernel
theorem d_M_number_119 : decode M_M_number.2.1 119 = .ok (.iload_n 1, 1) := by decide +kernel
theorem d_M_number_120 : decode M_M_number.2.1 120 = .ok (.iadd, 1) := by decide +kernel
theorem d_M_number_121 : decode M_M_number.2.1 121 = .ok (.if_icmp .ne (10), 3) := by decide +kernel
theorem d_M_number_124 : decode M_M_number.2.1 124 = .ok (.aload_n 0, 1) := by decide +kernel
theorem d_M_number_125 : decode M_M_number.2.1 125 = .ok (.getfield 133, 3) := by decide +kernel
theorem d_M_number_128 : decode M_M_number.2.1 128 = .ok (.goto (9), 3) := by decide +kernel
theorem d_M_number_131 : decode M_M_number.2.1 131 = .ok (.aload_n 0, 1) := by decide +kernel
theorem d_M_number_132 : decode M_M_number.2.1 132 = .ok (.getfield 37, 3) := by decide +kernel
theorem d_M_number_135 : decode M_M_number.2.1 135 = .ok (.iload_n 2, 1) := by decide +kernel
theorem d_M_number_136 : decode M_M_number.2.1 136 = .ok (.iaload, 1) := by decide +kernel
theorem d_M_number_137 : decode M_M_number.2.1 137 = .ok (.iastore, 1) := by decide +kernel
theorem d_M_number_138 : decode M_M_number.2.1 138 = .ok (.iinc 2 (1), 3) := by decide +kernel
theorem d_M_number_141 : decode M_M_number.2.1 141 = .ok (.goto (-41), 3) := by decide +kernel
theorem d_M_number_144 : decode M_M_number.2.1 144 = .ok (.aload_n 0, 1) := by decide +kernel
theorem d_M_number_145 : decode M_M_number.2.1 145 = .ok (.dup, 1) := by decide +kernel
theorem d_M_number_146 : decode M_M_number.2.1 146 = .ok (.getfield 133, 3) := by decide +kernel
theorem d_M_number_149 : decode M_M_number.2.1 149 = .ok (.iconst (1), 1) := by decide +kernel
theorem d_M_number_150 : decode M_M_number.2.1 150 = .ok (.iadd, 1) := by decide +kernel
theorem d_M_number_151 : decode M_M_number.2.1 151 = .ok (.putfield 133, 3) := by decide +kernel
theorem d_M_number_154 : decode M_M_number.2.1 154 = .ok (.iinc 1 (1), 3) := by decide +kernel
theorem d_M_number_157 : decode M_M_number.2.1 157 = .ok (.goto (-86), 3) := by decide +kernel
theorem d_M_number_160 : decode M_M_number.2.1 160 = .ok (.aload_n 0, 1) := by decide +kernel
theorem d_M_number_161 : decode M_M_number.2.1 161 = .ok (.aload_n 0, 1) := by decide +kernel
theorem d_M_number_162 : decode M_M_number.2.1 162 = .ok (.getfield 133, 3) := by decide +kernel
theorem d_M_number_165 : decode M_M_number.2.1 165 = .ok (.aload_n 0, 1) := by decide +kernel
theorem d_M_number_166 : decode M_M_number.2.1 166 = .ok (.getfield 17, 3) := by decide +kernel
theorem d_M_number_169 : decode M_M_number.2.1 169 = .ok (.iadd, 1) := by decide +kernel
theorem d_M_number_170 : decode M_M_number.2.1 170 = .ok (.putfield 133, 3) := by decide +kernel
theorem d_M_number_173 : decode M_M_number.2.1 173 = .ok (.return_, 1) := by decide +kernel
theorem d_M_entries_0 : decode M_M_entries.2.1 0 = .ok (.iconst (0), 1) := by decide +kernel
theorem d_M_entries_1 : decode M_M_entries.2.1 1 = .ok (.istore_n 2, 1) := by decide +kernel
theorem d_M_entries_2 : decode M_M_entries.2.1 2 = .ok (.iload_n 2, 1) := by decide +kernel
theorem d_M_entries_3 : decode M_M_entries.2.1 3 = .ok (.bipush (64), 2) := by decide +kernel
theorem d_M_entries_5 : decode M_M_entries.2.1 5 = .ok (.if_icmp .ge (23), 3) := by decide +kernel
theorem d_M_entries_8 : decode M_M_entries.2.1 8 = .ok (.aload_n 0, 1) := by decide +kernel
theorem d_M_entries_9 : decode M_M_entries.2.1 9 = .ok (.getfield 40, 3) := by decide +kernel
theorem d_M_entries_12 : decode M_M_entries.2.1 12 = .ok (.iload_n 2, 1) := by decide +kernel
theorem d_M_entries_13 : decode M_M_entries.2.1 13 = .ok (.iconst (0), 1) := by decide +kernel
theorem d_M_entries_14 : decode M_M_entries.2.1 14 = .ok (.iastore, 1) := by decide +kernel
theorem d_M_entries_15 : decode M_M_entries.2.1 15 = .ok (.aload_n 0, 1) := by decide +kernel
theorem d_M_entries_16 : decode M_M_entries.2.1 16 = .ok (.getfield 43, 3) := by decide +kernel
theorem d_M_entries_19 : decode M_M_entries.2.1 19 = .ok (.iload_n 2, 1) := by decide +kernel
theorem d_M_entries_20 : decode M_M_entries.2.1 20 = .ok (.iconst (0), 1) := by decide +kernel
theorem d_M_entries_21 : decode M_M_entries.2.1 21 = .ok (.iastore, 1) := by decide +kernel
theorem d_M_entries_22 : decode M_M_entries.2.1 22 = .ok (.iinc 2 (1), 3) := by decide +kernel
theorem d_M_entries_25 : decode M_M_entries.2.1 25 = .ok (.goto (-23), 3) := by decide +kernel
theorem d_M_entries_28 : decode M_M_entries.2.1 28 = .ok (.iconst (0), 1) := by decide +kernel
theorem d_M_entries_29 : decode M_M_entries.2.1 29 = .ok (.istore_n 2, 1) := by decide +kernel
theorem d_M_entries_30 : decode M_M_entries.2.1 30 = .ok (.iload_n 2, 1) := by decide +kernel
theorem d_M_entries_31 : decode M_M_entries.2.1 31 = .ok (.iload_n 1, 1) := by decide +kernel
theorem d_M_entries_32 : decode M_M_entries.2.1 32 = .ok (.if_icmp .ge (168), 3) := by decide +kernel
theorem d_M_entries_35 : decode M_M_entries.2.1 35 = .ok (.aload_n 0, 1) := by decide +kernel
theorem d_M_entries_36 : decode M_M_entries.2.1 36 = .ok (.getfield 37, 3) := by decide +kernel
theorem d_M_entries_39 : decode M_M_entries.2.1 39 = .ok (.aload_n 0, 1) := by decide +kernel
theorem d_M_entries_40 : decode M_M_entries.2.1 40 = .ok (.getfield 7, 3) := by decide +kernel
theorem d_M_entries_43 : decode M_M_entries.2.1 43 = .ok (.iconst (4), 1) := by decide +kernel
theorem d_M_entries_44 : decode M_M_entries.2.1 44 = .ok (.iload_n 2, 1) := by decide +kernel
theorem d_M_entries_45 : decode M_M_entries.2.1 45 = .ok (.imul, 1) := by decide +kernel
theorem d_M_entries_46 : decode M_M_entries.2.1 46 = .ok (.iconst (1), 1) := by decide +kernel
theorem d_M_entries_47 : decode M_M_entries.2.1 47 = .ok (.iadd, 1) := by decide +kernel
theorem d_M_entries_48 : decode M_M_entries.2.1 48 = .ok (.iaload, 1) := by decide +kernel
theorem d_M_entries_49 : decode M_M_entries.2.1 49 = .ok (.iaload, 1) := by decide +kernel
theorem d_M_entries_50 : decode M_M_entries.2.1 50 = .ok (.istore_n 3, 1) := by decide +kernel
theorem d_M_entries_51 : decode M_M_entries.2.1 51 = .ok (.aload_n 0, 1) := by decide +kernel
theorem d_M_entries_52 : decode M_M_entries.2.1 52 = .ok (.getfield 37, 3) := by decide +kernel
theorem d_M_entries_55 : decode M_M_entries.2.1 55 = .ok (.aload_n 0, 1) := by decide +kernel
theorem d_M_entries_56 : decode M_M_entries.2.1 56 = .ok (.getfield 7, 3) := by decide +kernel
theorem d_M_entries_59 : decode M_M_entries.2.1 59 = .ok (.aload_n 0, 1) := by decide +kernel
theorem d_M_entries_60 : decode M_M_entries.2.1 60 = .ok (.getfield 13, 3) := by decide +kernel
theorem d_M_entries_63 : decode M_M_entries.2.1 63 = .ok (.iload_n 2, 1) := by decide +kernel
theorem d_M_entries_64 : decode M_M_entries.2.1 64 = .ok (.baload, 1) := by decide +kernel
theorem d_M_entries_65 : decode M_M_entries.2.1 65 = .ok (.ifCond .eq (9), 3) := by decide +kernel
theorem d_M_entries_68 : decode M_M_entries.2.1 68 = .ok (.iconst (4), 1) := by decide +kernel
theorem d_M_entries_69 : decode M_M_entries.2.1 69 = .ok (.iload_n 2, 1) := by decide +kernel
theorem d_M_entries_70 : decode M_M_entries.2.1 70 = .ok (.imul, 1) := by decide +kernel
theorem d_M_entries_71 : decode M_M_entries.2.1 71 = .ok (.goto (8), 3) := by decide +kernel
theorem d_M_entries_74 : decode M_M_entries.2.1 74 = .ok (.iconst (4), 1) := by decide +kernel
theorem d_M_entries_75 : decode M_M_entries.2.1 75 = .ok (.iload_n 2, 1) := by decide +kernel
theorem d_M_entries_76 : decode M_M_entries.2.1 76 = .ok (.imul, 1) := by decide +kernel
theorem d_M_entries_77 : decode M_M_entries.2.1 77 = .ok (.iconst (2), 1) := by decide +kernel
theorem d_M_entries_78 : decode M_M_entries.2.1 78 = .ok (.iadd, 1) := by decide +kernel
theorem d_M_entries_79 : decode M_M_entries.2.1 79 = .ok (.iaload, 1) := by decide +kernel
theorem d_M_entries_80 : decode M_M_entries.2.1 80 = .ok (.iaload, 1) := by decide +kernel
theorem d_M_entries_81 : decode M_M_entries.2.1 81 = .ok (.istore 4, 2) := by decide +kernel
theorem d_M_entries_83 : decode M_M_entries.2.1 83 = .ok (.aload_n 0, 1) := by decide +kernel
theorem d_M_entries_84 : decode M_M_entries.2.1 84 = .ok (.getfield 37, 3) := by decide +kernel
theorem d_M_entries_87 : decode M_M_entries.2.1 87 = .ok (.aload_n 0, 1) := by decide +kernel
theorem d_M_entries_88 : decode M_M_entries.2.1 88 = .ok (.getfield 7, 3) := by decide +kernel
theorem d_M_entries_91 : decode M_M_entries.2.1 91 = .ok (.aload_n 0, 1) := by decide +kernel
theorem d_M_entries_92 : decode M_M_entries.2.1 92 = .ok (.getfield 13, 3) := by decide +kernel
theorem d_M_entries_95 : decode M_M_entries.2.1 95 = .ok (.iload_n 2, 1) := by decide +kernel
theorem d_M_entries_96 : decode M_M_entries.2.1 96 = .ok (.baload, 1) := by decide +kernel
theorem d_M_entries_97 : decode M_M_entries.2.1 97 = .ok (.ifCond .eq (11), 3) := by decide +kernel
theorem d_M_entries_100 : decode M_M_entries.2.1 100 = .ok (.iconst (4), 1) := by decide +kernel
theorem d_M_entries_101 : decode M_M_entries.2.1 101 = .ok (.iload_n 2, 1) := by decide +kernel
theorem d_M_entries_102 : decode M_M_entries.2.1 102 = .ok (.imul, 1) := by decide +kernel
theorem d_M_entries_103 : decode M_M_entries.2.1 103 = .ok (.iconst (2), 1) := by decide +kernel
theorem d_M_entries_104 : decode M_M_entries.2.1 104 = .ok (.iadd, 1) := by decide +kernel
theorem d_M_entries_105 : decode M_M_entries.2.1 105 = .ok (.goto (6), 3) := by decide +kernel
theorem d_M_entries_108 : decode M_M_entries.2.1 108 = .ok (.iconst (4), 1) := by decide +kernel
theorem d_M_entries_109 : decode M_M_entries.2.1 109 = .ok (.iload_n 2, 1) := by decide +kernel
theorem d_M_entries_110 : decode M_M_entries.2.1 110 = .ok (.imul, 1) := by decide +kernel
theorem d_M_entries_111 : decode M_M_entries.2.1 111 = .ok (.iaload, 1) := by decide +kernel
theorem d_M_entries_112 : decode M_M_entries.2.1 112 = .ok (.iaload, 1) := by decide +kernel
theorem d_M_entries_113 : decode M_M_entries.2.1 113 = .ok (.istore 5, 2) := by decide +kernel
theorem d_M_entries_115 : decode M_M_entries.2.1 115 = .ok (.iload_n 3, 1) := by decide +kernel
theorem d_M_entries_116 : decode M_M_entries.2.1 116 = .ok (.iload_n 1, 1) := by decide +kernel
theorem d_M_entries_117 : decode M_M_entries.2.1 117 = .ok (.if_icmp .ge (33), 3) := by decide +kernel
theorem d_M_entries_120 : decode M_M_entries.2.1 120 = .ok (.aload_n 0, 1) := by decide +kernel
theorem d_M_entries_121 : decode M_M_entries.2.1 121 = .ok (.getfield 40, 3) := by decide +kernel
theorem d_M_entries_124 : decode M_M_entries.2.1 124 = .ok (.bipush (8), 2) := by decide +kernel
theorem d_M_entries_126 : decode M_M_entries.2.1 126 = .ok (.iload_n 2, 1) := by decide +kernel
theorem d_M_entries_127 : decode M_M_entries.2.1 127 = .ok (.imul, 1) := by decide +kernel
theorem d_M_entries_128 : decode M_M_entries.2.1 128 = .ok (.iload_n 3, 1) := by decide +kernel
theorem d_M_entries_129 : decode M_M_entries.2.1 129 = .ok (.iadd, 1) := by decide +kernel
theorem d_M_entries_130 : decode M_M_entries.2.1 130 = .ok (.dup2, 1) := by decide +kernel
theorem d_M_entries_131 : decode M_M_entries.2.1 131 = .ok (.iaload, 1) := by decide +kernel
theorem d_M_entries_132 : decode M_M_entries.2.1 132 = .ok (.iconst (1), 1) := by decide +kernel
theorem d_M_entries_133 : decode M_M_entries.2.1 133 = .ok (.iadd, 1) := by decide +kernel
theorem d_M_entries_134 : decode M_M_entries.2.1 134 = .ok (.iastore, 1) := by decide +kernel
theorem d_M_entries_135 : decode M_M_entries.2.1 135 = .ok (.aload_n 0, 1) := by decide +kernel
theorem d_M_entries_136 : decode M_M_entries.2.1 136 = .ok (.getfield 43, 3) := by decide +kernel
theorem d_M_entries_139 : decode M_M_entries.2.1 139 = .ok (.bipush (8), 2) := by decide +kernel
theorem d_M_entries_141 : decode M_M_entries.2.1 141 = .ok (.iload_n 2, 1) := by decide +kernel
theorem d_M_entries_142 : decode M_M_entries.2.1 142 = .ok (.imul, 1) := by decide +kernel
theorem d_M_entries_143 : decode M_M_entries.2.1 143 = .ok (.iload_n 3, 1) := by decide +kernel
theorem d_M_entries_144 : decode M_M_entries.2.1 144 = .ok (.iadd, 1) := by decide +kernel
theorem d_M_entries_145 : decode M_M_entries.2.1 145 = .ok (.dup2, 1) := by decide +kernel
theorem d_M_entries_146 : decode M_M_entries.2.1 146 = .ok (.iaload, 1) := by decide +kernel
theorem d_M_entries_147 : decode M_M_entries.2.1 147 = .ok (.iconst (1), 1) := by decide +kernel
theorem d_M_entries_148 : decode M_M_entries.2.1 148 = .ok (.isub, 1) := by decide +kernel
theorem d_M_entries_149 : decode M_M_entries.2.1 149 = .ok (.iastore, 1) := by decide +kernel
theorem d_M_entries_150 : decode M_M_entries.2.1 150 = .ok (.iload 4, 2) := by decide +kernel
theorem d_M_entries_152 : decode M_M_entries.2.1 152 = .ok (.iload_n 1, 1) := by decide +kernel
theorem d_M_entries_153 : decode M_M_entries.2.1 153 = .ok (.if_icmp .ge (19), 3) := by decide +kernel
theorem d_M_entries_156 : decode M_M_entries.2.1 156 = .ok (.aload_n 0, 1) := by decide +kernel
theorem d_M_entries_157 : decode M_M_entries.2.1 157 = .ok (.getfield 43, 3) := by decide +kernel
theorem d_M_entries_160 : decode M_M_entries.2.1 160 = .ok (.bipush (8), 2) := by decide +kernel
theorem d_M_entries_162 : decode M_M_entries.2.1 162 = .ok (.iload_n 2, 1) := by decide +kernel
theorem d_M_entries_163 : decode M_M_entries.2.1 163 = .ok (.imul, 1) := by decide +kernel
theorem d_M_entries_164 : decode M_M_entries.2.1 164 = .ok (.iload 4, 2) := by decide +kernel
theorem d_M_entries_166 : decode M_M_entries.2.1 166 = .ok (.iadd, 1) := by decide +kernel
theorem d_M_entries_167 : decode M_M_entries.2.1 167 = .ok (.dup2, 1) := by decide +kernel
theorem d_M_entries_168 : decode M_M_entries.2.1 168 = .ok (.iaload, 1) := by decide +kernel
theorem d_M_entries_169 : decode M_M_entries.2.1 169 = .ok (.iconst (1), 1) := by decide +kernel
theorem d_M_entries_170 : decode M_M_entries.2.1 170 = .ok (.iadd, 1) := by decide +kernel
theorem d_M_entries_171 : decode M_M_entries.2.1 171 = .ok (.iastore, 1) := by decide +kernel
theorem d_M_entries_172 : decode M_M_entries.2.1 172 = .ok (.iload 5, 2) := by decide +kernel
theorem d_M_entries_174 : decode M_M_entries.2.1 174 = .ok (.iload_n 1, 1) := by decide +kernel
theorem d_M_entries_175 : decode M_M_entries.2.1 175 = .ok (.if_icmp .ge (19), 3) := by decide +kernel
theorem d_M_entries_178 : decode M_M_entries.2.1 178 = .ok (.aload_n 0, 1) := by decide +kernel
theorem d_M_entries_179 : decode M_M_entries.2.1 179 = .ok (.getfield 40, 3) := by decide +kernel
theorem d_M_entries_182 : decode M_M_entries.2.1 182 = .ok (.bipush (8), 2) := by decide +kernel
theorem d_M_entries_184 : decode M_M_entries.2.1 184 = .ok (.iload_n 2, 1) := by decide +kernel
theorem d_M_entries_185 : decode M_M_entries.2.1 185 = .ok (.imul, 1) := by decide +kernel
theorem d_M_entries_186 : decode M_M_entries.2.1 186 = .ok (.iload 5, 2) := by decide +kernel
theorem d_M_entries_188 : decode M_M_entries.2.1 188 = .ok (.iadd, 1) := by decide +kernel
theorem d_M_entries_189 : decode M_M_entries.2.1 189 = .ok (.dup2, 1) := by decide +kernel
theorem d_M_entries_190 : decode M_M_entries.2.1 190 = .ok (.iaload, 1) := by decide +kernel
theorem d_M_entries_191 : decode M_M_entries.2.1 191 = .ok (.iconst (1), 1) := by decide +kernel
theorem d_M_entries_192 : decode M_M_entries.2.1 192 = .ok (.isub, 1) := by decide +kernel
theorem d_M_entries_193 : decode M_M_entries.2.1 193 = .ok (.iastore, 1) := by decide +kernel
theorem d_M_entries_194 : decode M_M_entries.2.1 194 = .ok (.iinc 2 (1), 3) := by decide +kernel
theorem d_M_entries_197 : decode M_M_entries.2.1 197 = .ok (.goto (-167), 3) := by decide +kernel
theorem d_M_entries_200 : decode M_M_entries.2.1 200 = .ok (.return_, 1) := by decide +kernel
theorem d_M_expand_0 : decode M_M_expand.2.1 0 = .ok (.iconst (0), 1) := by decide +kernel
theorem d_M_expand_1 : decode M_M_expand.2.1 1 = .ok (.istore 4, 2) := by decide +kernel
theorem d_M_expand_3 : decode M_M_expand.2.1 3 = .ok (.iload_n 3, 1) := by decide +kernel
theorem d_M_expand_4 : decode M_M_expand.2.1 4 = .ok (.iconst (1), 1) := by decide +kernel
theorem d_M_expand_5 : decode M_M_expand.2.1 5 = .ok (.iadd, 1) := by decide +kernel
theorem d_M_expand_6 : decode M_M_expand.2.1 6 = .ok (.istore 5, 2) := by decide +kernel
theorem d_M_expand_8 : decode M_M_expand.2.1 8 = .ok (.iload 5, 2) := by decide +kernel
theorem d_M_expand_10 : decode M_M_expand.2.1 10 = .ok (.bipush (8), 2) := by decide +kernel
theorem d_M_expand_12 : decode M_M_expand.2.1 12 = .ok (.if_icmp .ge (30), 3) := by decide +kernel
theorem d_M_expand_15 : decode M_M_expand.2.1 15 = .ok (.iload_n 1, 1) := by decide +kernel
theorem d_M_expand_16 : decode M_M_expand.2.1 16 = .ok (.iload 5, 2) := by decide +kernel
theorem d_M_expand_18 : decode M_M_expand.2.1 18 = .ok (.ishr, 1) := by decide +kernel
theorem d_M_expand_19 : decode M_M_expand.2.1 19 = .ok (.iconst (1), 1) := by decide +kernel
theorem d_M_expand_20 : decode M_M_expand.2.1 20 = .ok (.iand, 1) := by decide +kernel
theorem d_M_expand_21 : decode M_M_expand.2.1 21 = .ok (.iconst (1), 1) := by decide +kernel
theorem d_M_expand_22 : decode M_M_expand.2.1 22 = .ok (.if_icmp .ne (10), 3) := by decide +kernel
theorem d_M_expand_25 : decode M_M_expand.2.1 25 = .ok (.iload 4, 2) := by decide +kernel
theorem d_M_expand_27 : decode M_M_expand.2.1 27 = .ok (.iconst (1), 1) := by decide +kernel
theorem d_M_expand_28 : decode M_M_expand.2.1 28 = .ok (.iadd, 1) := by decide +kernel
theorem d_M_expand_29 : decode M_M_expand.2.1 29 = .ok (.goto (5), 3) := by decide +kernel
theorem d_M_expand_32 : decode M_M_expand.2.1 32 = .ok (.iload 4, 2) := by decide +kernel
theorem d_M_expand_34 : decode M_M_expand.2.1 34 = .ok (.istore 4, 2) := by decide +kernel
theorem d_M_expand_36 : decode M_M_expand.2.1 36 = .ok (.iinc 5 (1), 3) := by decide +kernel
theorem d_M_expand_39 : decode M_M_expand.2.1 39 = .ok (.goto (-31), 3) := by decide +kernel
theorem d_M_expand_42 : decode M_M_expand.2.1 42 = .ok (.iload 4, 2) := by decide +kernel
theorem d_M_expand_44 : decode M_M_expand.2.1 44 = .ok (.iconst (2), 1) := by decide +kernel
theorem d_M_expand_45 : decode M_M_expand.2.1 45 = .ok (.irem, 1) := by decide +kernel
theorem d_M_expand_46 : decode M_M_expand.2.1 46 = .ok (.ifCond .ne (7), 3) := by decide +kernel
theorem d_M_expand_49 : decode M_M_expand.2.1 49 = .ok (.lconst 1, 1) := by decide +kernel
theorem d_M_expand_50 : decode M_M_expand.2.1 50 = .ok (.goto (6), 3) := by decide +kernel
theorem d_M_expand_53 : decode M_M_expand.2.1 53 = .ok (.ldc2_w 139, 3) := by decide +kernel
theorem d_M_expand_56 : decode M_M_expand.2.1 56 = .ok (.lstore 5, 2) := by decide +kernel
theorem d_M_expand_58 : decode M_M_expand.2.1 58 = .ok (.bipush (10), 2) := by decide +kernel
theorem d_M_expand_60 : decode M_M_expand.2.1 60 = .ok (.iload_n 1, 1) := by decide +kernel
theorem d_M_expand_61 : decode M_M_expand.2.1 61 = .ok (.iconst (1), 1) := by decide +kernel
theorem d_M_expand_62 : decode M_M_expand.2.1 62 = .ok (.iload_n 3, 1) := by decide +kernel
theorem d_M_expand_63 : decode M_M_expand.2.1 63 = .ok (.ishl, 1) := by decide +kernel
theorem d_M_expand_64 : decode M_M_expand.2.1 64 = .ok (.ior, 1) := by decide +kernel
theorem d_M_expand_65 : decode M_M_expand.2.1 65 = .ok (.imul, 1) := by decide +kernel
theorem d_M_expand_66 : decode M_M_expand.2.1 66 = .ok (.istore 7, 2) := by decide +kernel
theorem d_M_expand_68 : decode M_M_expand.2.1 68 = .ok (.iconst (0), 1) := by decide +kernel
theorem d_M_expand_69 : decode M_M_expand.2.1 69 = .ok (.istore 8, 2) := by decide +kernel
theorem d_M_expand_71 : decode M_M_expand.2.1 71 = .ok (.iload 8, 2) := by decide +kernel
theorem d_M_expand_73 : decode M_M_expand.2.1 73 = .ok (.bipush (9), 2) := by decide +kernel
theorem d_M_expand_75 : decode M_M_expand.2.1 75 = .ok (.if_icmp .ge (102), 3) := by decide +kernel
theorem d_M_expand_78 : decode M_M_expand.2.1 78 = .ok (.lload 5, 2) := by decide +kernel
theorem d_M_expand_80 : decode M_M_expand.2.1 80 = .ok (.aload_n 0, 1) := by decide +kernel
theorem d_M_expand_81 : decode M_M_expand.2.1 81 = .ok (.getfield 46, 3) := by decide +kernel
theorem d_M_expand_84 : decode M_M_expand.2.1 84 = .ok (.bipush (10), 2) := by decide +kernel
theorem d_M_expand_86 : decode M_M_expand.2.1 86 = .ok (.iload_n 1, 1) := by decide +kernel
theorem d_M_expand_87 : decode M_M_expand.2.1 87 = .ok (.imul, 1) := by decide +kernel
theorem d_M_expand_88 : decode M_M_expand.2.1 88 = .ok (.iload 8, 2) := by decide +kernel
theorem d_M_expand_90 : decode M_M_expand.2.1 90 = .ok (.iadd, 1) := by decide +kernel
theorem d_M_expand_91 : decode M_M_expand.2.1 91 = .ok (.laload, 1) := by decide +kernel
theorem d_M_expand_92 : decode M_M_expand.2.1 92 = .ok (.lmul, 1) := by decide +kernel
theorem d_M_expand_93 : decode M_M_expand.2.1 93 = .ok (.lstore 9, 2) := by decide +kernel
theorem d_M_expand_95 : decode M_M_expand.2.1 95 = .ok (.aload_n 0, 1) := by decide +kernel
theorem d_M_expand_96 : decode M_M_expand.2.1 96 = .ok (.getfield 46, 3) := by decide +kernel
theorem d_M_expand_99 : decode M_M_expand.2.1 99 = .ok (.iload 7, 2) := by decide +kernel
theorem d_M_expand_101 : decode M_M_expand.2.1 101 = .ok (.iload 8, 2) := by decide +kernel
theorem d_M_expand_103 : decode M_M_expand.2.1 103 = .ok (.iadd, 1) := by decide +kernel
theorem d_M_expand_104 : decode M_M_expand.2.1 104 = .ok (.aload_n 0, 1) := by decide +kernel
theorem d_M_expand_105 : decode M_M_expand.2.1 105 = .ok (.getfield 46, 3) := by decide +kernel
theorem d_M_expand_108 : decode M_M_expand.2.1 108 = .ok (.iload 7, 2) := by decide +kernel
theorem d_M_expand_110 : decode M_M_expand.2.1 110 = .ok (.iload 8, 2) := by decide +kernel
theorem d_M_expand_112 : decode M_M_expand.2.1 112 = .ok (.iadd, 1) := by decide +kernel
theorem d_M_expand_113 : decode M_M_expand.2.1 113 = .ok (.laload, 1) := by decide +kernel
theorem d_M_expand_114 : decode M_M_expand.2.1 114 = .ok (.lload 9, 2) := by decide +kernel
theorem d_M_expand_116 : decode M_M_expand.2.1 116 = .ok (.aload_n 0, 1) := by decide +kernel
theorem d_M_expand_117 : decode M_M_expand.2.1 117 = .ok (.getfield 40, 3) := by decide +kernel
theorem d_M_expand_120 : decode M_M_expand.2.1 120 = .ok (.bipush (8), 2) := by decide +kernel
theorem d_M_expand_122 : decode M_M_expand.2.1 122 = .ok (.iload_n 2, 1) := by decide +kernel
theorem d_M_expand_123 : decode M_M_expand.2.1 123 = .ok (.imul, 1) := by decide +kernel
theorem d_M_expand_124 : decode M_M_expand.2.1 124 = .ok (.iload_n 3, 1) := by decide +kernel
theorem d_M_expand_125 : decode M_M_expand.2.1 125 = .ok (.iadd, 1) := by decide +kernel
theorem d_M_expand_126 : decode M_M_expand.2.1 126 = .ok (.iaload, 1) := by decide +kernel
theorem d_M_expand_127 : decode M_M_expand.2.1 127 = .ok (.i2l, 1) := by decide +kernel
theorem d_M_expand_128 : decode M_M_expand.2.1 128 = .ok (.lmul, 1) := by decide +kernel
theorem d_M_expand_129 : decode M_M_expand.2.1 129 = .ok (.ladd, 1) := by decide +kernel
theorem d_M_expand_130 : decode M_M_expand.2.1 130 = .ok (.lastore, 1) := by decide +kernel
theorem d_M_expand_131 : decode M_M_expand.2.1 131 = .ok (.aload_n 0, 1) := by decide +kernel
theorem d_M_expand_132 : decode M_M_expand.2.1 132 = .ok (.getfield 46, 3) := by decide +kernel
theorem d_M_expand_135 : decode M_M_expand.2.1 135 = .ok (.iload 7, 2) := by decide +kernel
theorem d_M_expand_137 : decode M_M_expand.2.1 137 = .ok (.iload 8, 2) := by decide +kernel
theorem d_M_expand_139 : decode M_M_expand.2.1 139 = .ok (.iadd, 1) := by decide +kernel
theorem d_M_expand_140 : decode M_M_expand.2.1 140 = .ok (.iconst (1), 1) := by decide +kernel
theorem d_M_expand_141 : decode M_M_expand.2.1 141 = .ok (.iadd, 1) := by decide +kernel
theorem d_M_expand_142 : decode M_M_expand.2.1 142 = .ok (.aload_n 0, 1) := by decide +kernel
theorem d_M_expand_143 : decode M_M_expand.2.1 143 = .ok (.getfield 46, 3) := by decide +kernel
theorem d_M_expand_146 : decode M_M_expand.2.1 146 = .ok (.iload 7, 2) := by decide +kernel
theorem d_M_expand_148 : decode M_M_expand.2.1 148 = .ok (.iload 8, 2) := by decide +kernel
theorem d_M_expand_150 : decode M_M_expand.2.1 150 = .ok (.iadd, 1) := by decide +kernel
theorem d_M_expand_151 : decode M_M_expand.2.1 151 = .ok (.iconst (1), 1) := by decide +kernel
theorem d_M_expand_152 : decode M_M_expand.2.1 152 = .ok (.iadd, 1) := by decide +kernel
theorem d_M_expand_153 : decode M_M_expand.2.1 153 = .ok (.laload, 1) := by decide +kernel
theorem d_M_expand_154 : decode M_M_expand.2.1 154 = .ok (.lload 9, 2) := by decide +kernel
theorem d_M_expand_156 : decode M_M_expand.2.1 156 = .ok (.aload_n 0, 1) := by decide +kernel
theorem d_M_expand_157 : decode M_M_expand.2.1 157 = .ok (.getfield 43, 3) := by decide +kernel
theorem d_M_expand_160 : decode M_M_expand.2.1 160 = .ok (.bipush (8), 2) := by decide +kernel
theorem d_M_expand_162 : decode M_M_expand.2.1 162 = .ok (.iload_n 2, 1) := by decide +kernel
theorem d_M_expand_163 : decode M_M_expand.2.1 163 = .ok (.imul, 1) := by decide +kernel
theorem d_M_expand_164 : decode M_M_expand.2.1 164 = .ok (.iload_n 3, 1) := by decide +kernel
theorem d_M_expand_165 : decode M_M_expand.2.1 165 = .ok (.iadd, 1) := by decide +kernel
theorem d_M_expand_166 : decode M_M_expand.2.1 166 = .ok (.iaload, 1) := by decide +kernel
theorem d_M_expand_167 : decode M_M_expand.2.1 167 = .ok (.i2l, 1) := by decide +kernel
theorem d_M_expand_168 : decode M_M_expand.2.1 168 = .ok (.lmul, 1) := by decide +kernel
theorem d_M_expand_169 : decode M_M_expand.2.1 169 = .ok (.ladd, 1) := by decide +kernel
theorem d_M_expand_170 : decode M_M_expand.2.1 170 = .ok (.lastore, 1) := by decide +kernel
theorem d_M_expand_171 : decode M_M_expand.2.1 171 = .ok (.iinc 8 (1), 3) := by decide +kernel
theorem d_M_expand_174 : decode M_M_expand.2.1 174 = .ok (.goto (-103), 3) := by decide +kernel
theorem d_M_expand_177 : decode M_M_expand.2.1 177 = .ok (.return_, 1) := by decide +kernel
theorem d_M_ones_0 : decode M_M_ones.2.1 0 = .ok (.iconst (0), 1) := by decide +kernel
theorem d_M_ones_1 : decode M_M_ones.2.1 1 = .ok (.istore_n 1, 1) := by decide +kernel
theorem d_M_ones_2 : decode M_M_ones.2.1 2 = .ok (.iconst (0), 1) := by decide +kernel
theorem d_M_ones_3 : decode M_M_ones.2.1 3 = .ok (.istore_n 2, 1) := by decide +kernel
theorem d_M_ones_4 : decode M_M_ones.2.1 4 = .ok (.iload_n 2, 1) := by decide +kernel
theorem d_M_ones_5 : decode M_M_ones.2.1 5 = .ok (.bipush (8), 2) := by decide +kernel
theorem d_M_ones_7 : decode M_M_ones.2.1 7 = .ok (.if_icmp .ge (17), 3) := by decide +kernel
theorem d_M_ones_10 : decode M_M_ones.2.1 10 = .ok (.iload_n 1, 1) := by decide +kernel
theorem d_M_ones_11 : decode M_M_ones.2.1 11 = .ok (.iload_n 0, 1) := by decide +kernel
theorem d_M_ones_12 : decode M_M_ones.2.1 12 = .ok (.iload_n 2, 1) := by decide +kernel
theorem d_M_ones_13 : decode M_M_ones.2.1 13 = .ok (.ishr, 1) := by decide +kernel
theorem d_M_ones_14 : decode M_M_ones.2.1 14 = .ok (.iconst (1), 1) := by decide +kernel
theorem d_M_ones_15 : decode M_M_ones.2.1 15 = .ok (.iand, 1) := by decide +kernel
theorem d_M_ones_16 : decode M_M_ones.2.1 16 = .ok (.iadd, 1) := by decide +kernel
theorem d_M_ones_17 : decode M_M_ones.2.1 17 = .ok (.istore_n 1, 1) := by decide +kernel
theorem d_M_ones_18 : decode M_M_ones.2.1 18 = .ok (.iinc 2 (1), 3) := by decide +kernel
theorem d_M_ones_21 : decode M_M_ones.2.1 21 = .ok (.goto (-17), 3) := by decide +kernel
theorem d_M_ones_24 : decode M_M_ones.2.1 24 = .ok (.iload_n 1, 1) := by decide +kernel
theorem d_M_ones_25 : decode M_M_ones.2.1 25 = .ok (.ireturn, 1) := by decide +kernel
theorem d_M_second_0 : decode M_M_second.2.1 0 = .ok (.aload_n 0, 1) := by decide +kernel
theorem d_M_second_1 : decode M_M_second.2.1 1 = .ok (.invokevirtual 141, 3) := by decide +kernel
theorem d_M_second_4 : decode M_M_second.2.1 4 = .ok (.aload_n 0, 1) := by decide +kernel
theorem d_M_second_5 : decode M_M_second.2.1 5 = .ok (.getfield 133, 3) := by decide +kernel
theorem d_M_second_8 : decode M_M_second.2.1 8 = .ok (.iconst (1), 1) := by decide +kernel
theorem d_M_second_9 : decode M_M_second.2.1 9 = .ok (.isub, 1) := by decide +kernel
theorem d_M_second_10 : decode M_M_second.2.1 10 = .ok (.istore_n 2, 1) := by decide +kernel
theorem d_M_second_11 : decode M_M_second.2.1 11 = .ok (.iload_n 2, 1) := by decide +kernel
theorem d_M_second_12 : decode M_M_second.2.1 12 = .ok (.aload_n 0, 1) := by decide +kernel
theorem d_M_second_13 : decode M_M_second.2.1 13 = .ok (.getfield 66, 3) := by decide +kernel
theorem d_M_second_16 : decode M_M_second.2.1 16 = .ok (.if_icmp .gt (13), 3) := by decide +kernel
theorem d_M_second_19 : decode M_M_second.2.1 19 = .ok (.iload_n 1, 1) := by decide +kernel
theorem d_M_second_20 : decode M_M_second.2.1 20 = .ok (.ifCond .lt (9), 3) := by decide +kernel
theorem d_M_second_23 : decode M_M_second.2.1 23 = .ok (.iload_n 1, 1) := by decide +kernel
theorem d_M_second_24 : decode M_M_second.2.1 24 = .ok (.bipush (9), 2) := by decide +kernel
theorem d_M_second_26 : decode M_M_second.2.1 26 = .ok (.if_icmp .le (5), 3) := by decide +kernel
theorem d_M_second_29 : decode M_M_second.2.1 29 = .ok (.lconst 0, 1) := by decide +kernel
theorem d_M_second_30 : decode M_M_second.2.1 30 = .ok (.lreturn, 1) := by decide +kernel
theorem d_M_second_31 : decode M_M_second.2.1 31 = .ok (.aload_n 0, 1) := by decide +kernel
theorem d_M_second_32 : decode M_M_second.2.1 32 = .ok (.iload_n 2, 1) := by decide +kernel
theorem d_M_second_33 : decode M_M_second.2.1 33 = .ok (.invokevirtual 144, 3) := by decide +kernel
theorem d_M_second_36 : decode M_M_second.2.1 36 = .ok (.iconst (0), 1) := by decide +kernel
theorem d_M_second_37 : decode M_M_second.2.1 37 = .ok (.istore_n 3, 1) := by decide +kernel
theorem d_M_second_38 : decode M_M_second.2.1 38 = .ok (.iload_n 3, 1) := by decide +kernel
theorem d_M_second_39 : decode M_M_second.2.1 39 = .ok (.sipush (2560), 3) := by decide +kernel
theorem d_M_second_42 : decode M_M_second.2.1 42 = .ok (.if_icmp .ge (16), 3) := by decide +kernel
theorem d_M_second_45 : decode M_M_second.2.1 45 = .ok (.aload_n 0, 1) := by decide +kernel
theorem d_M_second_46 : decode M_M_second.2.1 46 = .ok (.getfield 46, 3) := by decide +kernel
theorem d_M_second_49 : decode M_M_second.2.1 49 = .ok (.iload_n 3, 1) := by decide +kernel
theorem d_M_second_50 : decode M_M_second.2.1 50 = .ok (.lconst 0, 1) := by decide +kernel
theorem d_M_second_51 : decode M_M_second.2.1 51 = .ok (.lastore, 1) := by decide +kernel
theorem d_M_second_52 : decode M_M_second.2.1 52 = .ok (.iinc 3 (1), 3) := by decide +kernel
theorem d_M_second_55 : decode M_M_second.2.1 55 = .ok (.goto (-17), 3) := by decide +kernel
theorem d_M_second_58 : decode M_M_second.2.1 58 = .ok (.aload_n 0, 1) := by decide +kernel
theorem d_M_second_59 : decode M_M_second.2.1 59 = .ok (.getfield 46, 3) := by decide +kernel
theorem d_M_second_62 : decode M_M_second.2.1 62 = .ok (.iconst (0), 1) := by decide +kernel
theorem d_M_second_63 : decode M_M_second.2.1 63 = .ok (.lconst 1, 1) := by decide +kernel
theorem d_M_second_64 : decode M_M_second.2.1 64 = .ok (.lastore, 1) := by decide +kernel
theorem d_M_second_65 : decode M_M_second.2.1 65 = .ok (.iconst (0), 1) := by decide +kernel
theorem d_M_second_66 : decode M_M_second.2.1 66 = .ok (.istore_n 3, 1) := by decide +kernel
theorem d_M_second_67 : decode M_M_second.2.1 67 = .ok (.iload_n 3, 1) := by decide +kernel
theorem d_M_second_68 : decode M_M_second.2.1 68 = .ok (.iconst (1), 1) := by decide +kernel
theorem d_M_second_69 : decode M_M_second.2.1 69 = .ok (.iload_n 2, 1) := by decide +kernel
theorem d_M_second_70 : decode M_M_second.2.1 70 = .ok (.ishl, 1) := by decide +kernel
theorem d_M_second_71 : decode M_M_second.2.1 71 = .ok (.iconst (1), 1) := by decide +kernel
theorem d_M_second_72 : decode M_M_second.2.1 72 = .ok (.isub, 1) := by decide +kernel
theorem d_M_second_73 : decode M_M_second.2.1 73 = .ok (.if_icmp .ge (48), 3) := by decide +kernel
theorem d_M_second_76 : decode M_M_second.2.1 76 = .ok (.iload_n 3, 1) := by decide +kernel
theorem d_M_second_77 : decode M_M_second.2.1 77 = .ok (.invokestatic 147, 3) := by decide +kernel
theorem d_M_second_80 : decode M_M_second.2.1 80 = .ok (.istore 4, 2) := by decide +kernel
theorem d_M_second_82 : decode M_M_second.2.1 82 = .ok (.iconst (0), 1) := by decide +kernel
theorem d_M_second_83 : decode M_M_second.2.1 83 = .ok (.istore 5, 2) := by decide +kernel
theorem d_M_second_85 : decode M_M_second.2.1 85 = .ok (.iload 5, 2) := by decide +kernel
theorem d_M_second_87 : decode M_M_second.2.1 87 = .ok (.iload_n 2, 1) := by decide +kernel
theorem d_M_second_88 : decode M_M_second.2.1 88 = .ok (.if_icmp .ge (27), 3) := by decide +kernel
theorem d_M_second_91 : decode M_M_second.2.1 91 = .ok (.iload_n 3, 1) := by decide +kernel
theorem d_M_second_92 : decode M_M_second.2.1 92 = .ok (.iload 5, 2) := by decide +kernel
theorem d_M_second_94 : decode M_M_second.2.1 94 = .ok (.ishr, 1) := by decide +kernel
theorem d_M_second_95 : decode M_M_second.2.1 95 = .ok (.iconst (1), 1) := by decide +kernel
theorem d_M_second_96 : decode M_M_second.2.1 96 = .ok (.iand, 1) := by decide +kernel
theorem d_M_second_97 : decode M_M_second.2.1 97 = .ok (.ifCond .ne (12), 3) := by decide +kernel
theorem d_M_second_100 : decode M_M_second.2.1 100 = .ok (.aload_n 0, 1) := by decide +kernel
theorem d_M_second_101 : decode M_M_second.2.1 101 = .ok (.iload_n 3, 1) := by decide +kernel
theorem d_M_second_102 : decode M_M_second.2.1 102 = .ok (.iload 4, 2) := by decide +kernel
theorem d_M_second_104 : decode M_M_second.2.1 104 = .ok (.iload 5, 2) := by decide +kernel
theorem d_M_second_106 : decode M_M_second.2.1 106 = .ok (.invokevirtual 150, 3) := by decide +kernel
theorem d_M_second_109 : decode M_M_second.2.1 109 = .ok (.iinc 5 (1), 3) := by decide +kernel
theorem d_M_second_112 : decode M_M_second.2.1 112 = .ok (.goto (-27), 3) := by decide +kernel
theorem d_M_second_115 : decode M_M_second.2.1 115 = .ok (.iinc 3 (1), 3) := by decide +kernel
theorem d_M_second_118 : decode M_M_second.2.1 118 = .ok (.goto (-51), 3) := by decide +kernel
theorem d_M_second_121 : decode M_M_second.2.1 121 = .ok (.bipush (10), 2) := by decide +kernel
theorem d_M_second_123 : decode M_M_second.2.1 123 = .ok (.iconst (1), 1) := by decide +kernel
theorem d_M_second_124 : decode M_M_second.2.1 124 = .ok (.iload_n 2, 1) := by decide +kernel
theorem d_M_second_125 : decode M_M_second.2.1 125 = .ok (.ishl, 1) := by decide +kernel
theorem d_M_second_126 : decode M_M_second.2.1 126 = .ok (.iconst (1), 1) := by decide +kernel
theorem d_M_second_127 : decode M_M_second.2.1 127 = .ok (.isub, 1) := by decide +kernel
theorem d_M_second_128 : decode M_M_second.2.1 128 = .ok (.imul, 1) := by decide +kernel
theorem d_M_second_129 : decode M_M_second.2.1 129 = .ok (.istore_n 3, 1) := by decide +kernel
theorem d_M_second_130 : decode M_M_second.2.1 130 = .ok (.iconst (0), 1) := by decide +kernel
theorem d_M_second_131 : decode M_M_second.2.1 131 = .ok (.istore 4, 2) := by decide +kernel
theorem d_M_second_133 : decode M_M_second.2.1 133 = .ok (.iconst (-1), 1) := by decide +kernel
theorem d_M_second_134 : decode M_M_second.2.1 134 = .ok (.istore 5, 2) := by decide +kernel
theorem d_M_second_136 : decode M_M_second.2.1 136 = .ok (.bipush (9), 2) := by decide +kernel
theorem d_M_second_138 : decode M_M_second.2.1 138 = .ok (.istore 6, 2) := by decide +kernel
theorem d_M_second_140 : decode M_M_second.2.1 140 = .ok (.iload 6, 2) := by decide +kernel
theorem d_M_second_142 : decode M_M_second.2.1 142 = .ok (.ifCond .lt (60), 3) := by decide +kernel
theorem d_M_second_145 : decode M_M_second.2.1 145 = .ok (.aload_n 0, 1) := by decide +kernel
theorem d_M_second_146 : decode M_M_second.2.1 146 = .ok (.getfield 46, 3) := by decide +kernel
theorem d_M_second_149 : decode M_M_second.2.1 149 = .ok (.iload_n 3, 1) := by decide +kernel
theorem d_M_second_150 : decode M_M_second.2.1 150 = .ok (.iload 6, 2) := by decide +kernel
theorem d_M_second_152 : decode M_M_second.2.1 152 = .ok (.iadd, 1) := by decide +kernel
theorem d_M_second_153 : decode M_M_second.2.1 153 = .ok (.laload, 1) := by decide +kernel
theorem d_M_second_154 : decode M_M_second.2.1 154 = .ok (.lconst 0, 1) := by decide +kernel
theorem d_M_second_155 : decode M_M_second.2.1 155 = .ok (.lcmp, 1) := by decide +kernel
theorem d_M_second_156 : decode M_M_second.2.1 156 = .ok (.ifCond .eq (8), 3) := by decide +kernel
theorem d_M_second_159 : decode M_M_second.2.1 159 = .ok (.iload 6, 2) := by decide +kernel
theorem d_M_second_161 : decode M_M_second.2.1 161 = .ok (.goto (5), 3) := by decide +kernel
theorem d_M_second_164 : decode M_M_second.2.1 164 = .ok (.iload 4, 2) := by decide +kernel
theorem d_M_second_166 : decode M_M_second.2.1 166 = .ok (.istore 4, 2) := by decide +kernel
theorem d_M_second_168 : decode M_M_second.2.1 168 = .ok (.iload 5, 2) := by decide +kernel
theorem d_M_second_170 : decode M_M_second.2.1 170 = .ok (.ifCond .ge (22), 3) := by decide +kernel
theorem d_M_second_173 : decode M_M_second.2.1 173 = .ok (.aload_n 0, 1) := by decide +kernel
theorem d_M_second_174 : decode M_M_second.2.1 174 = .ok (.getfield 46, 3) := by decide +kernel
theorem d_M_second_177 : decode M_M_second.2.1 177 = .ok (.iload_n 3, 1) := by decide +kernel
theorem d_M_second_178 : decode M_M_second.2.1 178 = .ok (.iload 6, 2) := by decide +kernel
theorem d_M_second_180 : decode M_M_second.2.1 180 = .ok (.iadd, 1) := by decide +kernel
theorem d_M_second_181 : decode M_M_second.2.1 181 = .ok (.laload, 1) := by decide +kernel
theorem d_M_second_182 : decode M_M_second.2.1 182 = .ok (.lconst 0, 1) := by decide +kernel
theorem d_M_second_183 : decode M_M_second.2.1 183 = .ok (.lcmp, 1) := by decide +kernel
theorem d_M_second_184 : decode M_M_second.2.1 184 = .ok (.ifCond .eq (8), 3) := by decide +kernel
theorem d_M_second_187 : decode M_M_second.2.1 187 = .ok (.iload 6, 2) := by decide +kernel
theorem d_M_second_189 : decode M_M_second.2.1 189 = .ok (.goto (5), 3) := by decide +kernel
theorem d_M_second_192 : decode M_M_second.2.1 192 = .ok (.iload 5, 2) := by decide +kernel
theorem d_M_second_194 : decode M_M_second.2.1 194 = .ok (.istore 5, 2) := by decide +kernel
theorem d_M_second_196 : decode M_M_second.2.1 196 = .ok (.iinc 6 (-1), 3) := by decide +kernel
theorem d_M_second_199 : decode M_M_second.2.1 199 = .ok (.goto (-59), 3) := by decide +kernel
theorem d_M_second_202 : decode M_M_second.2.1 202 = .ok (.iload 5, 2) := by decide +kernel
theorem d_M_second_204 : decode M_M_second.2.1 204 = .ok (.ifCond .lt (12), 3) := by decide +kernel
theorem d_M_second_207 : decode M_M_second.2.1 207 = .ok (.iload 4, 2) := by decide +kernel
theorem d_M_second_209 : decode M_M_second.2.1 209 = .ok (.iload_n 1, 1) := by decide +kernel
theorem d_M_second_210 : decode M_M_second.2.1 210 = .ok (.iadd, 1) := by decide +kernel
theorem d_M_second_211 : decode M_M_second.2.1 211 = .ok (.bipush (9), 2) := by decide +kernel
theorem d_M_second_213 : decode M_M_second.2.1 213 = .ok (.if_icmp .le (5), 3) := by decide +kernel
theorem d_M_second_216 : decode M_M_second.2.1 216 = .ok (.lconst 0, 1) := by decide +kernel
theorem d_M_second_217 : decode M_M_second.2.1 217 = .ok (.lreturn, 1) := by decide +kernel
theorem d_M_second_218 : decode M_M_second.2.1 218 = .ok (.aload_n 0, 1) := by decide +kernel
theorem d_M_second_219 : decode M_M_second.2.1 219 = .ok (.getfield 46, 3) := by decide +kernel
theorem d_M_second_222 : decode M_M_second.2.1 222 = .ok (.iload_n 3, 1) := by decide +kernel
theorem d_M_second_223 : decode M_M_second.2.1 223 = .ok (.iload 5, 2) := by decide +kernel
theorem d_M_second_225 : decode M_M_second.2.1 225 = .ok (.iadd, 1) := by decide +kernel
theorem d_M_second_226 : decode M_M_second.2.1 226 = .ok (.laload, 1) := by decide +kernel
theorem d_M_second_227 : decode M_M_second.2.1 227 = .ok (.lconst 0, 1) := by decide +kernel
theorem d_M_second_228 : decode M_M_second.2.1 228 = .ok (.lcmp, 1) := by decide +kernel
theorem d_M_second_229 : decode M_M_second.2.1 229 = .ok (.ifCond .ge (18), 3) := by decide +kernel
theorem d_M_second_232 : decode M_M_second.2.1 232 = .ok (.aload_n 0, 1) := by decide +kernel
theorem d_M_second_233 : decode M_M_second.2.1 233 = .ok (.getfield 46, 3) := by decide +kernel
theorem d_M_second_236 : decode M_M_second.2.1 236 = .ok (.iload_n 3, 1) := by decide +kernel
theorem d_M_second_237 : decode M_M_second.2.1 237 = .ok (.iload 4, 2) := by decide +kernel
theorem d_M_second_239 : decode M_M_second.2.1 239 = .ok (.iadd, 1) := by decide +kernel
theorem d_M_second_240 : decode M_M_second.2.1 240 = .ok (.iload_n 1, 1) := by decide +kernel
theorem d_M_second_241 : decode M_M_second.2.1 241 = .ok (.iadd, 1) := by decide +kernel
theorem d_M_second_242 : decode M_M_second.2.1 242 = .ok (.laload, 1) := by decide +kernel
theorem d_M_second_243 : decode M_M_second.2.1 243 = .ok (.lneg, 1) := by decide +kernel
theorem d_M_second_244 : decode M_M_second.2.1 244 = .ok (.goto (14), 3) := by decide +kernel
theorem d_M_second_247 : decode M_M_second.2.1 247 = .ok (.aload_n 0, 1) := by decide +kernel
theorem d_M_second_248 : decode M_M_second.2.1 248 = .ok (.getfield 46, 3) := by decide +kernel
theorem d_M_second_251 : decode M_M_second.2.1 251 = .ok (.iload_n 3, 1) := by decide +kernel
theorem d_M_second_252 : decode M_M_second.2.1 252 = .ok (.iload 4, 2) := by decide +kernel
theorem d_M_second_254 : decode M_M_second.2.1 254 = .ok (.iadd, 1) := by decide +kernel
theorem d_M_second_255 : decode M_M_second.2.1 255 = .ok (.iload_n 1, 1) := by decide +kernel
theorem d_M_second_256 : decode M_M_second.2.1 256 = .ok (.iadd, 1) := by decide +kernel
theorem d_M_second_257 : decode M_M_second.2.1 257 = .ok (.laload, 1) := by decide +kernel
theorem d_M_second_258 : decode M_M_second.2.1 258 = .ok (.lreturn, 1) := by decide +kernel
theorem d_M_free_0 : decode M_M_free.2.1 0 = .ok (.iload_n 1, 1) := by decide +kernel
theorem d_M_free_1 : decode M_M_free.2.1 1 = .ok (.istore_n 2, 1) := by decide +kernel
theorem d_M_free_2 : decode M_M_free.2.1 2 = .ok (.iconst (1), 1) := by decide +kernel
theorem d_M_free_3 : decode M_M_free.2.1 3 = .ok (.istore_n 3, 1) := by decide +kernel
theorem d_M_free_4 : decode M_M_free.2.1 4 = .ok (.iload_n 3, 1) := by decide +kernel
theorem d_M_free_5 : decode M_M_free.2.1 5 = .ok (.bipush (33), 2) := by decide +kernel
theorem d_M_free_7 : decode M_M_free.2.1 7 = .ok (.if_icmp .ge (40), 3) := by decide +kernel
theorem d_M_free_10 : decode M_M_free.2.1 10 = .ok (.aload_n 0, 1) := by decide +kernel
theorem d_M_free_11 : decode M_M_free.2.1 11 = .ok (.iload_n 3, 1) := by decide +kernel
theorem d_M_free_12 : decode M_M_free.2.1 12 = .ok (.invokevirtual 136, 3) := by decide +kernel
theorem d_M_free_15 : decode M_M_free.2.1 15 = .ok (.istore 4, 2) := by decide +kernel
theorem d_M_free_17 : decode M_M_free.2.1 17 = .ok (.iload 4, 2) := by decide +kernel
theorem d_M_free_19 : decode M_M_free.2.1 19 = .ok (.ifCond .ne (9), 3) := by decide +kernel
theorem d_M_free_22 : decode M_M_free.2.1 22 = .ok (.iload_n 2, 1) := by decide +kernel
theorem d_M_free_23 : decode M_M_free.2.1 23 = .ok (.ifCond .ne (5), 3) := by decide +kernel
theorem d_M_free_26 : decode M_M_free.2.1 26 = .ok (.iload_n 3, 1) := by decide +kernel
theorem d_M_free_27 : decode M_M_free.2.1 27 = .ok (.ireturn, 1) := by decide +kernel
theorem d_M_free_28 : decode M_M_free.2.1 28 = .ok (.iload 4, 2) := by decide +kernel
theorem d_M_free_30 : decode M_M_free.2.1 30 = .ok (.ifCond .eq (7), 3) := by decide +kernel
theorem d_M_free_33 : decode M_M_free.2.1 33 = .ok (.iload_n 2, 1) := by decide +kernel
theorem d_M_free_34 : decode M_M_free.2.1 34 = .ok (.goto (6), 3) := by decide +kernel
theorem d_M_free_37 : decode M_M_free.2.1 37 = .ok (.iload_n 2, 1) := by decide +kernel
theorem d_M_free_38 : decode M_M_free.2.1 38 = .ok (.iconst (1), 1) := by decide +kernel
theorem d_M_free_39 : decode M_M_free.2.1 39 = .ok (.isub, 1) := by decide +kernel
theorem d_M_free_40 : decode M_M_free.2.1 40 = .ok (.istore_n 2, 1) := by decide +kernel
theorem d_M_free_41 : decode M_M_free.2.1 41 = .ok (.iinc 3 (1), 3) := by decide +kernel
theorem d_M_free_44 : decode M_M_free.2.1 44 = .ok (.goto (-40), 3) := by decide +kernel
theorem d_M_free_47 : decode M_M_free.2.1 47 = .ok (.iconst (0), 1) := by decide +kernel
theorem d_M_free_48 : decode M_M_free.2.1 48 = .ok (.ireturn, 1) := by decide +kernel
theorem d_M_endOf_0 : decode M_M_endOf.2.1 0 = .ok (.iconst (0), 1) := by decide +kernel
theorem d_M_endOf_1 : decode M_M_endOf.2.1 1 = .ok (.istore_n 3, 1) := by decide +kernel
theorem d_M_endOf_2 : decode M_M_endOf.2.1 2 = .ok (.iload_n 3, 1) := by decide +kernel
theorem d_M_endOf_3 : decode M_M_endOf.2.1 3 = .ok (.iconst (4), 1) := by decide +kernel
theorem d_M_endOf_4 : decode M_M_endOf.2.1 4 = .ok (.aload_n 0, 1) := by decide +kernel
theorem d_M_endOf_5 : decode M_M_endOf.2.1 5 = .ok (.getfield 66, 3) := by decide +kernel
theorem d_M_endOf_8 : decode M_M_endOf.2.1 8 = .ok (.imul, 1) := by decide +kernel
theorem d_M_endOf_9 : decode M_M_endOf.2.1 9 = .ok (.if_icmp .ge (30), 3) := by decide +kernel
theorem d_M_endOf_12 : decode M_M_endOf.2.1 12 = .ok (.aload_n 0, 1) := by decide +kernel
theorem d_M_endOf_13 : decode M_M_endOf.2.1 13 = .ok (.getfield 7, 3) := by decide +kernel
theorem d_M_endOf_16 : decode M_M_endOf.2.1 16 = .ok (.iload_n 3, 1) := by decide +kernel
theorem d_M_endOf_17 : decode M_M_endOf.2.1 17 = .ok (.iaload, 1) := by decide +kernel
theorem d_M_endOf_18 : decode M_M_endOf.2.1 18 = .ok (.iload_n 1, 1) := by decide +kernel
theorem d_M_endOf_19 : decode M_M_endOf.2.1 19 = .ok (.if_icmp .ne (14), 3) := by decide +kernel
theorem d_M_endOf_22 : decode M_M_endOf.2.1 22 = .ok (.aload_n 0, 1) := by decide +kernel
theorem d_M_endOf_23 : decode M_M_endOf.2.1 23 = .ok (.iload_n 3, 1) := by decide +kernel
theorem d_M_endOf_24 : decode M_M_endOf.2.1 24 = .ok (.invokevirtual 76, 3) := by decide +kernel
theorem d_M_endOf_27 : decode M_M_endOf.2.1 27 = .ok (.iload_n 2, 1) := by decide +kernel
theorem d_M_endOf_28 : decode M_M_endOf.2.1 28 = .ok (.if_icmp .ne (5), 3) := by decide +kernel
theorem d_M_endOf_31 : decode M_M_endOf.2.1 31 = .ok (.iload_n 3, 1) := by decide +kernel
theorem d_M_endOf_32 : decode M_M_endOf.2.1 32 = .ok (.ireturn, 1) := by decide +kernel
theorem d_M_endOf_33 : decode M_M_endOf.2.1 33 = .ok (.iinc 3 (1), 3) := by decide +kernel
theorem d_M_endOf_36 : decode M_M_endOf.2.1 36 = .ok (.goto (-34), 3) := by decide +kernel
theorem d_M_endOf_39 : decode M_M_endOf.2.1 39 = .ok (.iconst (-1), 1) := by decide +kernel
theorem d_M_endOf_40 : decode M_M_endOf.2.1 40 = .ok (.ireturn, 1) := by decide +kernel
theorem d_M_instead_0 : decode M_M_instead.2.1 0 = .ok (.aload_n 0, 1) := by decide +kernel
theorem d_M_instead_1 : decode M_M_instead.2.1 1 = .ok (.iload_n 2, 1) := by decide +kernel
theorem d_M_instead_2 : decode M_M_instead.2.1 2 = .ok (.iconst (1), 1) := by decide +kernel
theorem d_M_instead_3 : decode M_M_instead.2.1 3 = .ok (.invokevirtual 154, 3) := by decide +kernel
theorem d_M_instead_6 : decode M_M_instead.2.1 6 = .ok (.istore_n 3, 1) := by decide +kernel
theorem d_M_instead_7 : decode M_M_instead.2.1 7 = .ok (.iload_n 3, 1) := by decide +kernel
theorem d_M_instead_8 : decode M_M_instead.2.1 8 = .ok (.ifCond .lt (10), 3) := by decide +kernel
theorem d_M_instead_11 : decode M_M_instead.2.1 11 = .ok (.aload_n 0, 1) := by decide +kernel
theorem d_M_instead_12 : decode M_M_instead.2.1 12 = .ok (.getfield 7, 3) := by decide +kernel
theorem d_M_instead_15 : decode M_M_instead.2.1 15 = .ok (.iload_n 3, 1) := by decide +kernel
theorem d_M_instead_16 : decode M_M_instead.2.1 16 = .ok (.iload_n 1, 1) := by decide +kernel
theorem d_M_instead_17 : decode M_M_instead.2.1 17 = .ok (.iastore, 1) := by decide +kernel
theorem d_M_instead_18 : decode M_M_instead.2.1 18 = .ok (.return_, 1) := by decide +kernel
theorem d_M_join_0 : decode M_M_join.2.1 0 = .ok (.iload_n 1, 1) := by decide +kernel
theorem d_M_join_1 : decode M_M_join.2.1 1 = .ok (.iload_n 2, 1) := by decide +kernel
theorem d_M_join_2 : decode M_M_join.2.1 2 = .ok (.if_icmp .ne (16), 3) := by decide +kernel
theorem d_M_join_5 : decode M_M_join.2.1 5 = .ok (.aload_n 0, 1) := by decide +kernel
theorem d_M_join_6 : decode M_M_join.2.1 6 = .ok (.dup, 1) := by decide +kernel
theorem d_M_join_7 : decode M_M_join.2.1 7 = .ok (.getfield 17, 3) := by decide +kernel
theorem d_M_join_10 : decode M_M_join.2.1 10 = .ok (.iconst (1), 1) := by decide +kernel
theorem d_M_join_11 : decode M_M_join.2.1 11 = .ok (.iadd, 1) := by decide +kernel
theorem d_M_join_12 : decode M_M_join.2.1 12 = .ok (.putfield 17, 3) := by decide +kernel
theorem d_M_join_15 : decode M_M_join.2.1 15 = .ok (.goto (9), 3) := by decide +kernel
theorem d_M_join_18 : decode M_M_join.2.1 18 = .ok (.aload_n 0, 1) := by decide +kernel
theorem d_M_join_19 : decode M_M_join.2.1 19 = .ok (.iload_n 1, 1) := by decide +kernel
theorem d_M_join_20 : decode M_M_join.2.1 20 = .ok (.iload_n 2, 1) := by decide +kernel
theorem d_M_join_21 : decode M_M_join.2.1 21 = .ok (.invokevirtual 158, 3) := by decide +kernel
theorem d_M_join_24 : decode M_M_join.2.1 24 = .ok (.return_, 1) := by decide +kernel
theorem d_M_takeOut_0 : decode M_M_takeOut.2.1 0 = .ok (.iconst (4), 1) := by decide +kernel
theorem d_M_takeOut_1 : decode M_M_takeOut.2.1 1 = .ok (.iload_n 1, 1) := by decide +kernel
theorem d_M_takeOut_2 : decode M_M_takeOut.2.1 2 = .ok (.imul, 1) := by decide +kernel
theorem d_M_takeOut_3 : decode M_M_takeOut.2.1 3 = .ok (.istore_n 2, 1) := by decide +kernel
theorem d_M_takeOut_4 : decode M_M_takeOut.2.1 4 = .ok (.iload_n 2, 1) := by decide +kernel
theorem d_M_takeOut_5 : decode M_M_takeOut.2.1 5 = .ok (.bipush (28), 2) := by decide +kernel
theorem d_M_takeOut_7 : decode M_M_takeOut.2.1 7 = .ok (.if_icmp .ge (23), 3) := by decide +kernel
theorem d_M_takeOut_10 : decode M_M_takeOut.2.1 10 = .ok (.aload_n 0, 1) := by decide +kernel
theorem d_M_takeOut_11 : decode M_M_takeOut.2.1 11 = .ok (.getfield 7, 3) := by decide +kernel
theorem d_M_takeOut_14 : decode M_M_takeOut.2.1 14 = .ok (.iload_n 2, 1) := by decide +kernel
theorem d_M_takeOut_15 : decode M_M_takeOut.2.1 15 = .ok (.aload_n 0, 1) := by decide +kernel
theorem d_M_takeOut_16 : decode M_M_takeOut.2.1 16 = .ok (.getfield 7, 3) := by decide +kernel
theorem d_M_takeOut_19 : decode M_M_takeOut.2.1 19 = .ok (.iload_n 2, 1) := by decide +kernel
theorem d_M_takeOut_20 : decode M_M_takeOut.2.1 20 = .ok (.iconst (4), 1) := by decide +kernel
theorem d_M_takeOut_21 : decode M_M_takeOut.2.1 21 = .ok (.iadd, 1) := by decide +kernel
theorem d_M_takeOut_22 : decode M_M_takeOut.2.1 22 = .ok (.iaload, 1) := by decide +kernel
theorem d_M_takeOut_23 : decode M_M_takeOut.2.1 23 = .ok (.iastore, 1) := by decide +kernel
theorem d_M_takeOut_24 : decode M_M_takeOut.2.1 24 = .ok (.iinc 2 (1), 3) := by decide +kernel
theorem d_M_takeOut_27 : decode M_M_takeOut.2.1 27 = .ok (.goto (-23), 3) := by decide +kernel
theorem d_M_takeOut_30 : decode M_M_takeOut.2.1 30 = .ok (.iload_n 1, 1) := by decide +kernel
theorem d_M_takeOut_31 : decode M_M_takeOut.2.1 31 = .ok (.istore_n 2, 1) := by decide +kernel
theorem d_M_takeOut_32 : decode M_M_takeOut.2.1 32 = .ok (.iload_n 2, 1) := by decide +kernel
theorem d_M_takeOut_33 : decode M_M_takeOut.2.1 33 = .ok (.bipush (7), 2) := by decide +kernel
theorem d_M_takeOut_35 : decode M_M_takeOut.2.1 35 = .ok (.if_icmp .ge (23), 3) := by decide +kernel
theorem d_M_takeOut_38 : decode M_M_takeOut.2.1 38 = .ok (.aload_n 0, 1) := by decide +kernel
theorem d_M_takeOut_39 : decode M_M_takeOut.2.1 39 = .ok (.getfield 13, 3) := by decide +kernel
theorem d_M_takeOut_42 : decode M_M_takeOut.2.1 42 = .ok (.iload_n 2, 1) := by decide +kernel
theorem d_M_takeOut_43 : decode M_M_takeOut.2.1 43 = .ok (.aload_n 0, 1) := by decide +kernel
theorem d_M_takeOut_44 : decode M_M_takeOut.2.1 44 = .ok (.getfield 13, 3) := by decide +kernel
theorem d_M_takeOut_47 : decode M_M_takeOut.2.1 47 = .ok (.iload_n 2, 1) := by decide +kernel
theorem d_M_takeOut_48 : decode M_M_takeOut.2.1 48 = .ok (.iconst (1), 1) := by decide +kernel
theorem d_M_takeOut_49 : decode M_M_takeOut.2.1 49 = .ok (.iadd, 1) := by decide +kernel
theorem d_M_takeOut_50 : decode M_M_takeOut.2.1 50 = .ok (.baload, 1) := by decide +kernel
theorem d_M_takeOut_51 : decode M_M_takeOut.2.1 51 = .ok (.bastore, 1) := by decide +kernel
theorem d_M_takeOut_52 : decode M_M_takeOut.2.1 52 = .ok (.iinc 2 (1), 3) := by decide +kernel
theorem d_M_takeOut_55 : decode M_M_takeOut.2.1 55 = .ok (.goto (-23), 3) := by decide +kernel
theorem d_M_takeOut_58 : decode M_M_takeOut.2.1 58 = .ok (.aload_n 0, 1) := by decide +kernel
theorem d_M_takeOut_59 : decode M_M_takeOut.2.1 59 = .ok (.dup, 1) := by decide +kernel
theorem d_M_takeOut_60 : decode M_M_takeOut.2.1 60 = .ok (.getfield 66, 3) := by decide +kernel
theorem d_M_takeOut_63 : decode M_M_takeOut.2.1 63 = .ok (.iconst (1), 1) := by decide +kernel
theorem d_M_takeOut_64 : decode M_M_takeOut.2.1 64 = .ok (.isub, 1) := by decide +kernel
theorem d_M_takeOut_65 : decode M_M_takeOut.2.1 65 = .ok (.putfield 66, 3) := by decide +kernel
theorem d_M_takeOut_68 : decode M_M_takeOut.2.1 68 = .ok (.return_, 1) := by decide +kernel
theorem d_M_kink_0 : decode M_M_kink.2.1 0 = .ok (.aload_n 0, 1) := by decide +kernel
theorem d_M_kink_1 : decode M_M_kink.2.1 1 = .ok (.getfield 66, 3) := by decide +kernel
theorem d_M_kink_4 : decode M_M_kink.2.1 4 = .ok (.istore 5, 2) := by decide +kernel
theorem d_M_kink_6 : decode M_M_kink.2.1 6 = .ok (.iload_n 1, 1) := by decide +kernel
theorem d_M_kink_7 : decode M_M_kink.2.1 7 = .ok (.ifCond .ne (18), 3) := by decide +kernel
theorem d_M_kink_10 : decode M_M_kink.2.1 10 = .ok (.aload_n 0, 1) := by decide +kernel
theorem d_M_kink_11 : decode M_M_kink.2.1 11 = .ok (.iload 5, 2) := by decide +kernel
theorem d_M_kink_13 : decode M_M_kink.2.1 13 = .ok (.iload_n 2, 1) := by decide +kernel
theorem d_M_kink_14 : decode M_M_kink.2.1 14 = .ok (.iload 4, 2) := by decide +kernel
theorem d_M_kink_16 : decode M_M_kink.2.1 16 = .ok (.iload_n 3, 1) := by decide +kernel
theorem d_M_kink_17 : decode M_M_kink.2.1 17 = .ok (.iload_n 3, 1) := by decide +kernel
theorem d_M_kink_18 : decode M_M_kink.2.1 18 = .ok (.iconst (1), 1) := by decide +kernel
theorem d_M_kink_19 : decode M_M_kink.2.1 19 = .ok (.invokevirtual 59, 3) := by decide +kernel
theorem d_M_kink_22 : decode M_M_kink.2.1 22 = .ok (.goto (55), 3) := by decide +kernel
theorem d_M_kink_25 : decode M_M_kink.2.1 25 = .ok (.iload_n 1, 1) := by decide +kernel
theorem d_M_kink_26 : decode M_M_kink.2.1 26 = .ok (.iconst (1), 1) := by decide +kernel
theorem d_M_kink_27 : decode M_M_kink.2.1 27 = .ok (.if_icmp .ne (18), 3) := by decide +kernel
theorem d_M_kink_30 : decode M_M_kink.2.1 30 = .ok (.aload_n 0, 1) := by decide +kernel
theorem d_M_kink_31 : decode M_M_kink.2.1 31 = .ok (.iload 5, 2) := by decide +kernel
theorem d_M_kink_33 : decode M_M_kink.2.1 33 = .ok (.iload_n 2, 1) := by decide +kernel
theorem d_M_kink_34 : decode M_M_kink.2.1 34 = .ok (.iload_n 3, 1) := by decide +kernel
theorem d_M_kink_35 : decode M_M_kink.2.1 35 = .ok (.iload_n 3, 1) := by decide +kernel
theorem d_M_kink_36 : decode M_M_kink.2.1 36 = .ok (.iload 4, 2) := by decide +kernel
theorem d_M_kink_38 : decode M_M_kink.2.1 38 = .ok (.iconst (0), 1) := by decide +kernel
theorem d_M_kink_39 : decode M_M_kink.2.1 39 = .ok (.invokevirtual 59, 3) := by decide +kernel
theorem d_M_kink_42 : decode M_M_kink.2.1 42 = .ok (.goto (35), 3) := by decide +kernel
theorem d_M_kink_45 : decode M_M_kink.2.1 45 = .ok (.iload_n 1, 1) := by decide +kernel
theorem d_M_kink_46 : decode M_M_kink.2.1 46 = .ok (.iconst (2), 1) := by decide +kernel
theorem d_M_kink_47 : decode M_M_kink.2.1 47 = .ok (.if_icmp .ne (18), 3) := by decide +kernel
theorem d_M_kink_50 : decode M_M_kink.2.1 50 = .ok (.aload_n 0, 1) := by decide +kernel
theorem d_M_kink_51 : decode M_M_kink.2.1 51 = .ok (.iload 5, 2) := by decide +kernel
theorem d_M_kink_53 : decode M_M_kink.2.1 53 = .ok (.iload_n 3, 1) := by decide +kernel
theorem d_M_kink_54 : decode M_M_kink.2.1 54 = .ok (.iload_n 3, 1) := by decide +kernel
theorem d_M_kink_55 : decode M_M_kink.2.1 55 = .ok (.iload 4, 2) := by decide +kernel
theorem d_M_kink_57 : decode M_M_kink.2.1 57 = .ok (.iload_n 2, 1) := by decide +kernel
theorem d_M_kink_58 : decode M_M_kink.2.1 58 = .ok (.iconst (1), 1) := by decide +kernel
theorem d_M_kink_59 : decode M_M_kink.2.1 59 = .ok (.invokevirtual 59, 3) := by decide +kernel
theorem d_M_kink_62 : decode M_M_kink.2.1 62 = .ok (.goto (15), 3) := by decide +kernel
theorem d_M_kink_65 : decode M_M_kink.2.1 65 = .ok (.aload_n 0, 1) := by decide +kernel
theorem d_M_kink_66 : decode M_M_kink.2.1 66 = .ok (.iload 5, 2) := by decide +kernel
theorem d_M_kink_68 : decode M_M_kink.2.1 68 = .ok (.iload_n 3, 1) := by decide +kernel
theorem d_M_kink_69 : decode M_M_kink.2.1 69 = .ok (.iload_n 2, 1) := by decide +kernel
theorem d_M_kink_70 : decode M_M_kink.2.1 70 = .ok (.iload 4, 2) := by decide +kernel
theorem d_M_kink_72 : decode M_M_kink.2.1 72 = .ok (.iload_n 3, 1) := by decide +kernel
theorem d_M_kink_73 : decode M_M_kink.2.1 73 = .ok (.iconst (0), 1) := by decide +kernel
theorem d_M_kink_74 : decode M_M_kink.2.1 74 = .ok (.invokevirtual 59, 3) := by decide +kernel
theorem d_M_kink_77 : decode M_M_kink.2.1 77 = .ok (.aload_n 0, 1) := by decide +kernel
theorem d_M_kink_78 : decode M_M_kink.2.1 78 = .ok (.dup, 1) := by decide +kernel
theorem d_M_kink_79 : decode M_M_kink.2.1 79 = .ok (.getfield 66, 3) := by decide +kernel
theorem d_M_kink_82 : decode M_M_kink.2.1 82 = .ok (.iconst (1), 1) := by decide +kernel
theorem d_M_kink_83 : decode M_M_kink.2.1 83 = .ok (.iadd, 1) := by decide +kernel
theorem d_M_kink_84 : decode M_M_kink.2.1 84 = .ok (.putfield 66, 3) := by decide +kernel
theorem d_M_kink_87 : decode M_M_kink.2.1 87 = .ok (.return_, 1) := by decide +kernel
theorem d_M_twist_0 : decode M_M_twist.2.1 0 = .ok (.aload_n 0, 1) := by decide +kernel
theorem d_M_twist_1 : decode M_M_twist.2.1 1 = .ok (.getfield 66, 3) := by decide +kernel
theorem d_M_twist_4 : decode M_M_twist.2.1 4 = .ok (.bipush (8), 2) := by decide +kernel
theorem d_M_twist_6 : decode M_M_twist.2.1 6 = .ok (.if_icmp .eq (41), 3) := by decide +kernel
theorem d_M_twist_9 : decode M_M_twist.2.1 9 = .ok (.iload_n 2, 1) := by decide +kernel
theorem d_M_twist_10 : decode M_M_twist.2.1 10 = .ok (.ifCond .lt (37), 3) := by decide +kernel
theorem d_M_twist_13 : decode M_M_twist.2.1 13 = .ok (.iload_n 2, 1) := by decide +kernel
theorem d_M_twist_14 : decode M_M_twist.2.1 14 = .ok (.iconst (3), 1) := by decide +kernel
theorem d_M_twist_15 : decode M_M_twist.2.1 15 = .ok (.if_icmp .gt (32), 3) := by decide +kernel
theorem d_M_twist_18 : decode M_M_twist.2.1 18 = .ok (.iload_n 1, 1) := by decide +kernel
theorem d_M_twist_19 : decode M_M_twist.2.1 19 = .ok (.ifCond .ne (13), 3) := by decide +kernel
theorem d_M_twist_22 : decode M_M_twist.2.1 22 = .ok (.aload_n 0, 1) := by decide +kernel
theorem d_M_twist_23 : decode M_M_twist.2.1 23 = .ok (.getfield 17, 3) := by decide +kernel
theorem d_M_twist_26 : decode M_M_twist.2.1 26 = .ok (.ifCond .ne (23), 3) := by decide +kernel
theorem d_M_twist_29 : decode M_M_twist.2.1 29 = .ok (.goto (18), 3) := by decide +kernel
theorem d_M_twist_32 : decode M_M_twist.2.1 32 = .ok (.iload_n 1, 1) := by decide +kernel
theorem d_M_twist_33 : decode M_M_twist.2.1 33 = .ok (.invokestatic 55, 3) := by decide +kernel
theorem d_M_twist_36 : decode M_M_twist.2.1 36 = .ok (.ifCond .eq (11), 3) := by decide +kernel
theorem d_M_twist_39 : decode M_M_twist.2.1 39 = .ok (.aload_n 0, 1) := by decide +kernel
theorem d_M_twist_40 : decode M_M_twist.2.1 40 = .ok (.iload_n 1, 1) := by decide +kernel
theorem d_M_twist_41 : decode M_M_twist.2.1 41 = .ok (.invokevirtual 136, 3) := by decide +kernel
theorem d_M_twist_44 : decode M_M_twist.2.1 44 = .ok (.ifCond .ne (5), 3) := by decide +kernel
theorem d_M_twist_47 : decode M_M_twist.2.1 47 = .ok (.iconst (0), 1) := by decide +kernel
theorem d_M_twist_48 : decode M_M_twist.2.1 48 = .ok (.ireturn, 1) := by decide +kernel
theorem d_M_twist_49 : decode M_M_twist.2.1 49 = .ok (.aload_n 0, 1) := by decide +kernel
theorem d_M_twist_50 : decode M_M_twist.2.1 50 = .ok (.iconst (0), 1) := by decide +kernel
theorem d_M_twist_51 : decode M_M_twist.2.1 51 = .ok (.invokevirtual 161, 3) := by decide +kernel
theorem d_M_twist_54 : decode M_M_twist.2.1 54 = .ok (.istore_n 3, 1) := by decide +kernel
theorem d_M_twist_55 : decode M_M_twist.2.1 55 = .ok (.aload_n 0, 1) := by decide +kernel
theorem d_M_twist_56 : decode M_M_twist.2.1 56 = .ok (.iconst (1), 1) := by decide +kernel
theorem d_M_twist_57 : decode M_M_twist.2.1 57 = .ok (.invokevirtual 161, 3) := by decide +kernel
theorem d_M_twist_60 : decode M_M_twist.2.1 60 = .ok (.istore 4, 2) := by decide +kernel
theorem d_M_twist_62 : decode M_M_twist.2.1 62 = .ok (.iload_n 1, 1) := by decide +kernel
theorem d_M_twist_63 : decode M_M_twist.2.1 63 = .ok (.ifCond .ne (25), 3) := by decide +kernel
theorem d_M_twist_66 : decode M_M_twist.2.1 66 = .ok (.aload_n 0, 1) := by decide +kernel
theorem d_M_twist_67 : decode M_M_twist.2.1 67 = .ok (.dup, 1) := by decide +kernel
theorem d_M_twist_68 : decode M_M_twist.2.1 68 = .ok (.getfield 17, 3) := by decide +kernel
theorem d_M_twist_71 : decode M_M_twist.2.1 71 = .ok (.iconst (1), 1) := by decide +kernel
theorem d_M_twist_72 : decode M_M_twist.2.1 72 = .ok (.isub, 1) := by decide +kernel
theorem d_M_twist_73 : decode M_M_twist.2.1 73 = .ok (.putfield 17, 3) := by decide +kernel
theorem d_M_twist_76 : decode M_M_twist.2.1 76 = .ok (.aload_n 0, 1) := by decide +kernel
theorem d_M_twist_77 : decode M_M_twist.2.1 77 = .ok (.iload_n 2, 1) := by decide +kernel
theorem d_M_twist_78 : decode M_M_twist.2.1 78 = .ok (.iload_n 3, 1) := by decide +kernel
theorem d_M_twist_79 : decode M_M_twist.2.1 79 = .ok (.iload 4, 2) := by decide +kernel
theorem d_M_twist_81 : decode M_M_twist.2.1 81 = .ok (.iload_n 3, 1) := by decide +kernel
theorem d_M_twist_82 : decode M_M_twist.2.1 82 = .ok (.invokevirtual 164, 3) := by decide +kernel
theorem d_M_twist_85 : decode M_M_twist.2.1 85 = .ok (.goto (19), 3) := by decide +kernel
theorem d_M_twist_88 : decode M_M_twist.2.1 88 = .ok (.aload_n 0, 1) := by decide +kernel
theorem d_M_twist_89 : decode M_M_twist.2.1 89 = .ok (.iload 4, 2) := by decide +kernel
theorem d_M_twist_91 : decode M_M_twist.2.1 91 = .ok (.iload_n 1, 1) := by decide +kernel
theorem d_M_twist_92 : decode M_M_twist.2.1 92 = .ok (.invokevirtual 158, 3) := by decide +kernel
theorem d_M_twist_95 : decode M_M_twist.2.1 95 = .ok (.aload_n 0, 1) := by decide +kernel
theorem d_M_twist_96 : decode M_M_twist.2.1 96 = .ok (.iload_n 2, 1) := by decide +kernel
theorem d_M_twist_97 : decode M_M_twist.2.1 97 = .ok (.iload_n 1, 1) := by decide +kernel
theorem d_M_twist_98 : decode M_M_twist.2.1 98 = .ok (.iload_n 3, 1) := by decide +kernel
theorem d_M_twist_99 : decode M_M_twist.2.1 99 = .ok (.iload 4, 2) := by decide +kernel
theorem d_M_twist_101 : decode M_M_twist.2.1 101 = .ok (.invokevirtual 164, 3) := by decide +kernel
theorem d_M_twist_104 : decode M_M_twist.2.1 104 = .ok (.iconst (1), 1) := by decide +kernel
theorem d_M_twist_105 : decode M_M_twist.2.1 105 = .ok (.ireturn, 1) := by decide +kernel
theorem d_M_isCrossing_0 : decode M_M_isCrossing.2.1 0 = .ok (.iload_n 1, 1) := by decide +kernel
theorem d_M_isCrossing_1 : decode M_M_isCrossing.2.1 1 = .ok (.ifCond .lt (15), 3) := by decide +kernel
theorem d_M_isCrossing_4 : decode M_M_isCrossing.2.1 4 = .ok (.iload_n 1, 1) := by decide +kernel
theorem d_M_isCrossing_5 : decode M_M_isCrossing.2.1 5 = .ok (.aload_n 0, 1) := by decide +kernel
theorem d_M_isCrossing_6 : decode M_M_isCrossing.2.1 6 = .ok (.getfield 66, 3) := by decide +kernel
theorem d_M_isCrossing_9 : decode M_M_isCrossing.2.1 9 = .ok (.if_icmp .ge (7), 3) := by decide +kernel
theorem d_M_isCrossing_12 : decode M_M_isCrossing.2.1 12 = .ok (.iconst (1), 1) := by decide +kernel
theorem d_M_isCrossing_13 : decode M_M_isCrossing.2.1 13 = .ok (.goto (4), 3) := by decide +kernel
theorem d_M_isCrossing_16 : decode M_M_isCrossing.2.1 16 = .ok (.iconst (0), 1) := by decide +kernel
theorem d_M_isCrossing_17 : decode M_M_isCrossing.2.1 17 = .ok (.ireturn, 1) := by decide +kernel
theorem d_M_untwist_0 : decode M_M_untwist.2.1 0 = .ok (.aload_n 0, 1) := by decide +kernel
theorem d_M_untwist_1 : decode M_M_untwist.2.1 1 = .ok (.iload_n 1, 1) := by decide +kernel
theorem d_M_untwist_2 : decode M_M_untwist.2.1 2 = .ok (.invokevirtual 168, 3) := by decide +kernel
theorem d_M_untwist_5 : decode M_M_untwist.2.1 5 = .ok (.ifCond .ne (5), 3) := by decide +kernel
theorem d_M_untwist_8 : decode M_M_untwist.2.1 8 = .ok (.iconst (0), 1) := by decide +kernel
theorem d_M_untwist_9 : decode M_M_untwist.2.1 9 = .ok (.ireturn, 1) := by decide +kernel
theorem d_M_untwist_10 : decode M_M_untwist.2.1 10 = .ok (.iconst (0), 1) := by decide +kernel
theorem d_M_untwist_11 : decode M_M_untwist.2.1 11 = .ok (.istore_n 2, 1) := by decide +kernel
theorem d_M_untwist_12 : decode M_M_untwist.2.1 12 = .ok (.iload_n 2, 1) := by decide +kernel
theorem d_M_untwist_13 : decode M_M_untwist.2.1 13 = .ok (.iconst (4), 1) := by decide +kernel
theorem d_M_untwist_14 : decode M_M_untwist.2.1 14 = .ok (.if_icmp .ge (124), 3) := by decide +kernel
theorem d_M_untwist_17 : decode M_M_untwist.2.1 17 = .ok (.aload_n 0, 1) := by decide +kernel
theorem d_M_untwist_18 : decode M_M_untwist.2.1 18 = .ok (.getfield 7, 3) := by decide +kernel
theorem d_M_untwist_21 : decode M_M_untwist.2.1 21 = .ok (.iconst (4), 1) := by decide +kernel
theorem d_M_untwist_22 : decode M_M_untwist.2.1 22 = .ok (.iload_n 1, 1) := by decide +kernel
theorem d_M_untwist_23 : decode M_M_untwist.2.1 23 = .ok (.imul, 1) := by decide +kernel
theorem d_M_untwist_24 : decode M_M_untwist.2.1 24 = .ok (.iload_n 2, 1) := by decide +kernel
theorem d_M_untwist_25 : decode M_M_untwist.2.1 25 = .ok (.iadd, 1) := by decide +kernel
theorem d_M_untwist_26 : decode M_M_untwist.2.1 26 = .ok (.iaload, 1) := by decide +kernel
theorem d_M_untwist_27 : decode M_M_untwist.2.1 27 = .ok (.aload_n 0, 1) := by decide +kernel
theorem d_M_untwist_28 : decode M_M_untwist.2.1 28 = .ok (.getfield 7, 3) := by decide +kernel
theorem d_M_untwist_31 : decode M_M_untwist.2.1 31 = .ok (.iconst (4), 1) := by decide +kernel
theorem d_M_untwist_32 : decode M_M_untwist.2.1 32 = .ok (.iload_n 1, 1) := by decide +kernel
theorem d_M_untwist_33 : decode M_M_untwist.2.1 33 = .ok (.imul, 1) := by decide +kernel
theorem d_M_untwist_34 : decode M_M_untwist.2.1 34 = .ok (.iload_n 2, 1) := by decide +kernel
theorem d_M_untwist_35 : decode M_M_untwist.2.1 35 = .ok (.iconst (1), 1) := by decide +kernel
theorem d_M_untwist_36 : decode M_M_untwist.2.1 36 = .ok (.iadd, 1) := by decide +kernel
theorem d_M_untwist_37 : decode M_M_untwist.2.1 37 = .ok (.iconst (4), 1) := by decide +kernel
theorem d_M_untwist_38 : decode M_M_untwist.2.1 38 = .ok (.irem, 1) := by decide +kernel
theorem d_M_untwist_39 : decode M_M_untwist.2.1 39 = .ok (.iadd, 1) := by decide +kernel
theorem d_M_untwist_40 : decode M_M_untwist.2.1 40 = .ok (.iaload, 1) := by decide +kernel
theorem d_M_untwist_41 : decode M_M_untwist.2.1 41 = .ok (.if_icmp .ne (91), 3) := by decide +kernel
theorem d_M_untwist_44 : decode M_M_untwist.2.1 44 = .ok (.iconst (4), 1) := by decide +kernel
theorem d_M_untwist_45 : decode M_M_untwist.2.1 45 = .ok (.iload_n 1, 1) := by decide +kernel
theorem d_M_untwist_46 : decode M_M_untwist.2.1 46 = .ok (.imul, 1) := by decide +kernel
theorem d_M_untwist_47 : decode M_M_untwist.2.1 47 = .ok (.iload_n 2, 1) := by decide +kernel
theorem d_M_untwist_48 : decode M_M_untwist.2.1 48 = .ok (.iconst (2), 1) := by decide +kernel
theorem d_M_untwist_49 : decode M_M_untwist.2.1 49 = .ok (.iadd, 1) := by decide +kernel
theorem d_M_untwist_50 : decode M_M_untwist.2.1 50 = .ok (.iconst (4), 1) := by decide +kernel
theorem d_M_untwist_51 : decode M_M_untwist.2.1 51 = .ok (.irem, 1) := by decide +kernel
theorem d_M_untwist_52 : decode M_M_untwist.2.1 52 = .ok (.iadd, 1) := by decide +kernel
theorem d_M_untwist_53 : decode M_M_untwist.2.1 53 = .ok (.istore_n 3, 1) := by decide +kernel
theorem d_M_untwist_54 : decode M_M_untwist.2.1 54 = .ok (.iconst (4), 1) := by decide +kernel
theorem d_M_untwist_55 : decode M_M_untwist.2.1 55 = .ok (.iload_n 1, 1) := by decide +kernel
theorem d_M_untwist_56 : decode M_M_untwist.2.1 56 = .ok (.imul, 1) := by decide +kernel
theorem d_M_untwist_57 : decode M_M_untwist.2.1 57 = .ok (.iload_n 2, 1) := by decide +kernel
theorem d_M_untwist_58 : decode M_M_untwist.2.1 58 = .ok (.iconst (3), 1) := by decide +kernel
theorem d_M_untwist_59 : decode M_M_untwist.2.1 59 = .ok (.iadd, 1) := by decide +kernel
theorem d_M_untwist_60 : decode M_M_untwist.2.1 60 = .ok (.iconst (4), 1) := by decide +kernel
theorem d_M_untwist_61 : decode M_M_untwist.2.1 61 = .ok (.irem, 1) := by decide +kernel
theorem d_M_untwist_62 : decode M_M_untwist.2.1 62 = .ok (.iadd, 1) := by decide +kernel
theorem d_M_untwist_63 : decode M_M_untwist.2.1 63 = .ok (.istore 4, 2) := by decide +kernel
theorem d_M_untwist_65 : decode M_M_untwist.2.1 65 = .ok (.aload_n 0, 1) := by decide +kernel
theorem d_M_untwist_66 : decode M_M_untwist.2.1 66 = .ok (.iload_n 3, 1) := by decide +kernel
theorem d_M_untwist_67 : decode M_M_untwist.2.1 67 = .ok (.invokevirtual 76, 3) := by decide +kernel
theorem d_M_untwist_70 : decode M_M_untwist.2.1 70 = .ok (.ifCond .eq (12), 3) := by decide +kernel
theorem d_M_untwist_73 : decode M_M_untwist.2.1 73 = .ok (.aload_n 0, 1) := by decide +kernel
theorem d_M_untwist_74 : decode M_M_untwist.2.1 74 = .ok (.getfield 7, 3) := by decide +kernel
theorem d_M_untwist_77 : decode M_M_untwist.2.1 77 = .ok (.iload_n 3, 1) := by decide +kernel
theorem d_M_untwist_78 : decode M_M_untwist.2.1 78 = .ok (.iaload, 1) := by decide +kernel
theorem d_M_untwist_79 : decode M_M_untwist.2.1 79 = .ok (.goto (10), 3) := by decide +kernel
theorem d_M_untwist_82 : decode M_M_untwist.2.1 82 = .ok (.aload_n 0, 1) := by decide +kernel
theorem d_M_untwist_83 : decode M_M_untwist.2.1 83 = .ok (.getfield 7, 3) := by decide +kernel
theorem d_M_untwist_86 : decode M_M_untwist.2.1 86 = .ok (.iload 4, 2) := by decide +kernel
theorem d_M_untwist_88 : decode M_M_untwist.2.1 88 = .ok (.iaload, 1) := by decide +kernel
theorem d_M_untwist_89 : decode M_M_untwist.2.1 89 = .ok (.istore 5, 2) := by decide +kernel
theorem d_M_untwist_91 : decode M_M_untwist.2.1 91 = .ok (.aload_n 0, 1) := by decide +kernel
theorem d_M_untwist_92 : decode M_M_untwist.2.1 92 = .ok (.iload_n 3, 1) := by decide +kernel
theorem d_M_untwist_93 : decode M_M_untwist.2.1 93 = .ok (.invokevirtual 76, 3) := by decide +kernel
theorem d_M_untwist_96 : decode M_M_untwist.2.1 96 = .ok (.ifCond .eq (13), 3) := by decide +kernel
theorem d_M_untwist_99 : decode M_M_untwist.2.1 99 = .ok (.aload_n 0, 1) := by decide +kernel
theorem d_M_untwist_100 : decode M_M_untwist.2.1 100 = .ok (.getfield 7, 3) := by decide +kernel
theorem d_M_untwist_103 : decode M_M_untwist.2.1 103 = .ok (.iload 4, 2) := by decide +kernel
theorem d_M_untwist_105 : decode M_M_untwist.2.1 105 = .ok (.iaload, 1) := by decide +kernel
theorem d_M_untwist_106 : decode M_M_untwist.2.1 106 = .ok (.goto (9), 3) := by decide +kernel
theorem d_M_untwist_109 : decode M_M_untwist.2.1 109 = .ok (.aload_n 0, 1) := by decide +kernel
theorem d_M_untwist_110 : decode M_M_untwist.2.1 110 = .ok (.getfield 7, 3) := by decide +kernel
theorem d_M_untwist_113 : decode M_M_untwist.2.1 113 = .ok (.iload_n 3, 1) := by decide +kernel
theorem d_M_untwist_114 : decode M_M_untwist.2.1 114 = .ok (.iaload, 1) := by decide +kernel
theorem d_M_untwist_115 : decode M_M_untwist.2.1 115 = .ok (.istore 6, 2) := by decide +kernel
theorem d_M_untwist_117 : decode M_M_untwist.2.1 117 = .ok (.aload_n 0, 1) := by decide +kernel
theorem d_M_untwist_118 : decode M_M_untwist.2.1 118 = .ok (.iload_n 1, 1) := by decide +kernel
theorem d_M_untwist_119 : decode M_M_untwist.2.1 119 = .ok (.invokevirtual 171, 3) := by decide +kernel
theorem d_M_untwist_122 : decode M_M_untwist.2.1 122 = .ok (.aload_n 0, 1) := by decide +kernel
theorem d_M_untwist_123 : decode M_M_untwist.2.1 123 = .ok (.iload 5, 2) := by decide +kernel
theorem d_M_untwist_125 : decode M_M_untwist.2.1 125 = .ok (.iload 6, 2) := by decide +kernel
theorem d_M_untwist_127 : decode M_M_untwist.2.1 127 = .ok (.invokevirtual 174, 3) := by decide +kernel
theorem d_M_untwist_130 : decode M_M_untwist.2.1 130 = .ok (.iconst (1), 1) := by decide +kernel
theorem d_M_untwist_131 : decode M_M_untwist.2.1 131 = .ok (.ireturn, 1) := by decide +kernel
theorem d_M_untwist_132 : decode M_M_untwist.2.1 132 = .ok (.iinc 2 (1), 3) := by decide +kernel
theorem d_M_untwist_135 : decode M_M_untwist.2.1 135 = .ok (.goto (-123), 3) := by decide +kernel
theorem d_M_untwist_138 : decode M_M_untwist.2.1 138 = .ok (.iconst (0), 1) := by decide +kernel
theorem d_M_untwist_139 : decode M_M_untwist.2.1 139 = .ok (.ireturn, 1) := by decide +kernel
end
section
theorem d_M_poke_0 : decode M_M_poke.2.1 0 = .ok (.aload_n 0, 1) := by decide +kernel
theorem d_M_poke_1 : decode M_M_poke.2.1 1 = .ok (.getfield 66, 3) := by decide +kernel
theorem d_M_poke_4 : decode M_M_poke.2.1 4 = .ok (.bipush (6), 2) := by decide +kernel
theorem d_M_poke_6 : decode M_M_poke.2.1 6 = .ok (.if_icmp .gt (26), 3) := by decide +kernel
theorem d_M_poke_9 : decode M_M_poke.2.1 9 = .ok (.iload_n 1, 1) := by decide +kernel
theorem d_M_poke_10 : decode M_M_poke.2.1 10 = .ok (.iload_n 3, 1) := by decide +kernel
theorem d_M_poke_11 : decode M_M_poke.2.1 11 = .ok (.if_icmp .eq (21), 3) := by decide +kernel
theorem d_M_poke_14 : decode M_M_poke.2.1 14 = .ok (.aload_n 0, 1) := by decide +kernel
theorem d_M_poke_15 : decode M_M_poke.2.1 15 = .ok (.iload_n 1, 1) := by decide +kernel
theorem d_M_poke_16 : decode M_M_poke.2.1 16 = .ok (.iconst (1), 1) := by decide +kernel
theorem d_M_poke_17 : decode M_M_poke.2.1 17 = .ok (.invokevirtual 154, 3) := by decide +kernel
theorem d_M_poke_20 : decode M_M_poke.2.1 20 = .ok (.ifCond .lt (12), 3) := by decide +kernel
theorem d_M_poke_23 : decode M_M_poke.2.1 23 = .ok (.aload_n 0, 1) := by decide +kernel
theorem d_M_poke_24 : decode M_M_poke.2.1 24 = .ok (.iload_n 3, 1) := by decide +kernel
theorem d_M_poke_25 : decode M_M_poke.2.1 25 = .ok (.iconst (1), 1) := by decide +kernel
theorem d_M_poke_26 : decode M_M_poke.2.1 26 = .ok (.invokevirtual 154, 3) := by decide +kernel
theorem d_M_poke_29 : decode M_M_poke.2.1 29 = .ok (.ifCond .ge (5), 3) := by decide +kernel
theorem d_M_poke_32 : decode M_M_poke.2.1 32 = .ok (.iconst (0), 1) := by decide +kernel
theorem d_M_poke_33 : decode M_M_poke.2.1 33 = .ok (.ireturn, 1) := by decide +kernel
theorem d_M_poke_34 : decode M_M_poke.2.1 34 = .ok (.aload_n 0, 1) := by decide +kernel
theorem d_M_poke_35 : decode M_M_poke.2.1 35 = .ok (.iconst (0), 1) := by decide +kernel
theorem d_M_poke_36 : decode M_M_poke.2.1 36 = .ok (.invokevirtual 92, 3) := by decide +kernel
theorem d_M_poke_39 : decode M_M_poke.2.1 39 = .ok (.aload_n 0, 1) := by decide +kernel
theorem d_M_poke_40 : decode M_M_poke.2.1 40 = .ok (.aload_n 0, 1) := by decide +kernel
theorem d_M_poke_41 : decode M_M_poke.2.1 41 = .ok (.iload_n 1, 1) := by decide +kernel
theorem d_M_poke_42 : decode M_M_poke.2.1 42 = .ok (.iload_n 2, 1) := by decide +kernel
theorem d_M_poke_43 : decode M_M_poke.2.1 43 = .ok (.invokevirtual 154, 3) := by decide +kernel
theorem d_M_poke_46 : decode M_M_poke.2.1 46 = .ok (.invokevirtual 82, 3) := by decide +kernel
theorem d_M_poke_49 : decode M_M_poke.2.1 49 = .ok (.aload_n 0, 1) := by decide +kernel
theorem d_M_poke_50 : decode M_M_poke.2.1 50 = .ok (.aload_n 0, 1) := by decide +kernel
theorem d_M_poke_51 : decode M_M_poke.2.1 51 = .ok (.iload_n 3, 1) := by decide +kernel
theorem d_M_poke_52 : decode M_M_poke.2.1 52 = .ok (.iload 4, 2) := by decide +kernel
theorem d_M_poke_54 : decode M_M_poke.2.1 54 = .ok (.invokevirtual 154, 3) := by decide +kernel
theorem d_M_poke_57 : decode M_M_poke.2.1 57 = .ok (.invokevirtual 82, 3) := by decide +kernel
theorem d_M_poke_60 : decode M_M_poke.2.1 60 = .ok (.if_icmp .eq (5), 3) := by decide +kernel
theorem d_M_poke_63 : decode M_M_poke.2.1 63 = .ok (.iconst (0), 1) := by decide +kernel
theorem d_M_poke_64 : decode M_M_poke.2.1 64 = .ok (.ireturn, 1) := by decide +kernel
theorem d_M_poke_65 : decode M_M_poke.2.1 65 = .ok (.aload_n 0, 1) := by decide +kernel
theorem d_M_poke_66 : decode M_M_poke.2.1 66 = .ok (.iconst (0), 1) := by decide +kernel
theorem d_M_poke_67 : decode M_M_poke.2.1 67 = .ok (.invokevirtual 161, 3) := by decide +kernel
theorem d_M_poke_70 : decode M_M_poke.2.1 70 = .ok (.istore 5, 2) := by decide +kernel
theorem d_M_poke_72 : decode M_M_poke.2.1 72 = .ok (.aload_n 0, 1) := by decide +kernel
theorem d_M_poke_73 : decode M_M_poke.2.1 73 = .ok (.iconst (1), 1) := by decide +kernel
theorem d_M_poke_74 : decode M_M_poke.2.1 74 = .ok (.invokevirtual 161, 3) := by decide +kernel
theorem d_M_poke_77 : decode M_M_poke.2.1 77 = .ok (.istore 6, 2) := by decide +kernel
theorem d_M_poke_79 : decode M_M_poke.2.1 79 = .ok (.aload_n 0, 1) := by decide +kernel
theorem d_M_poke_80 : decode M_M_poke.2.1 80 = .ok (.iconst (2), 1) := by decide +kernel
theorem d_M_poke_81 : decode M_M_poke.2.1 81 = .ok (.invokevirtual 161, 3) := by decide +kernel
theorem d_M_poke_84 : decode M_M_poke.2.1 84 = .ok (.istore 7, 2) := by decide +kernel
theorem d_M_poke_86 : decode M_M_poke.2.1 86 = .ok (.aload_n 0, 1) := by decide +kernel
theorem d_M_poke_87 : decode M_M_poke.2.1 87 = .ok (.iconst (3), 1) := by decide +kernel
theorem d_M_poke_88 : decode M_M_poke.2.1 88 = .ok (.invokevirtual 161, 3) := by decide +kernel
theorem d_M_poke_91 : decode M_M_poke.2.1 91 = .ok (.istore 8, 2) := by decide +kernel
theorem d_M_poke_93 : decode M_M_poke.2.1 93 = .ok (.aload_n 0, 1) := by decide +kernel
theorem d_M_poke_94 : decode M_M_poke.2.1 94 = .ok (.iload 6, 2) := by decide +kernel
theorem d_M_poke_96 : decode M_M_poke.2.1 96 = .ok (.iload_n 1, 1) := by decide +kernel
theorem d_M_poke_97 : decode M_M_poke.2.1 97 = .ok (.invokevirtual 158, 3) := by decide +kernel
theorem d_M_poke_100 : decode M_M_poke.2.1 100 = .ok (.aload_n 0, 1) := by decide +kernel
theorem d_M_poke_101 : decode M_M_poke.2.1 101 = .ok (.iload 8, 2) := by decide +kernel
theorem d_M_poke_103 : decode M_M_poke.2.1 103 = .ok (.iload_n 3, 1) := by decide +kernel
theorem d_M_poke_104 : decode M_M_poke.2.1 104 = .ok (.invokevirtual 158, 3) := by decide +kernel
theorem d_M_poke_107 : decode M_M_poke.2.1 107 = .ok (.aload_n 0, 1) := by decide +kernel
theorem d_M_poke_108 : decode M_M_poke.2.1 108 = .ok (.getfield 66, 3) := by decide +kernel
theorem d_M_poke_111 : decode M_M_poke.2.1 111 = .ok (.istore 9, 2) := by decide +kernel
theorem d_M_poke_113 : decode M_M_poke.2.1 113 = .ok (.iload_n 2, 1) := by decide +kernel
theorem d_M_poke_114 : decode M_M_poke.2.1 114 = .ok (.ifCond .eq (41), 3) := by decide +kernel
theorem d_M_poke_117 : decode M_M_poke.2.1 117 = .ok (.iload 4, 2) := by decide +kernel
theorem d_M_poke_119 : decode M_M_poke.2.1 119 = .ok (.ifCond .eq (36), 3) := by decide +kernel
theorem d_M_poke_122 : decode M_M_poke.2.1 122 = .ok (.aload_n 0, 1) := by decide +kernel
theorem d_M_poke_123 : decode M_M_poke.2.1 123 = .ok (.iload 9, 2) := by decide +kernel
theorem d_M_poke_125 : decode M_M_poke.2.1 125 = .ok (.iload 7, 2) := by decide +kernel
theorem d_M_poke_127 : decode M_M_poke.2.1 127 = .ok (.iload_n 1, 1) := by decide +kernel
theorem d_M_poke_128 : decode M_M_poke.2.1 128 = .ok (.iload 8, 2) := by decide +kernel
theorem d_M_poke_130 : decode M_M_poke.2.1 130 = .ok (.iload 5, 2) := by decide +kernel
theorem d_M_poke_132 : decode M_M_poke.2.1 132 = .ok (.iconst (0), 1) := by decide +kernel
theorem d_M_poke_133 : decode M_M_poke.2.1 133 = .ok (.invokevirtual 59, 3) := by decide +kernel
theorem d_M_poke_136 : decode M_M_poke.2.1 136 = .ok (.aload_n 0, 1) := by decide +kernel
theorem d_M_poke_137 : decode M_M_poke.2.1 137 = .ok (.iload 9, 2) := by decide +kernel
theorem d_M_poke_139 : decode M_M_poke.2.1 139 = .ok (.iconst (1), 1) := by decide +kernel
theorem d_M_poke_140 : decode M_M_poke.2.1 140 = .ok (.iadd, 1) := by decide +kernel
theorem d_M_poke_141 : decode M_M_poke.2.1 141 = .ok (.iload_n 3, 1) := by decide +kernel
theorem d_M_poke_142 : decode M_M_poke.2.1 142 = .ok (.iload 6, 2) := by decide +kernel
theorem d_M_poke_144 : decode M_M_poke.2.1 144 = .ok (.iload 7, 2) := by decide +kernel
theorem d_M_poke_146 : decode M_M_poke.2.1 146 = .ok (.iload 5, 2) := by decide +kernel
theorem d_M_poke_148 : decode M_M_poke.2.1 148 = .ok (.iconst (1), 1) := by decide +kernel
theorem d_M_poke_149 : decode M_M_poke.2.1 149 = .ok (.invokevirtual 59, 3) := by decide +kernel
theorem d_M_poke_152 : decode M_M_poke.2.1 152 = .ok (.goto (108), 3) := by decide +kernel
theorem d_M_poke_155 : decode M_M_poke.2.1 155 = .ok (.iload_n 2, 1) := by decide +kernel
theorem d_M_poke_156 : decode M_M_poke.2.1 156 = .ok (.ifCond .eq (36), 3) := by decide +kernel
theorem d_M_poke_159 : decode M_M_poke.2.1 159 = .ok (.aload_n 0, 1) := by decide +kernel
theorem d_M_poke_160 : decode M_M_poke.2.1 160 = .ok (.iload 9, 2) := by decide +kernel
theorem d_M_poke_162 : decode M_M_poke.2.1 162 = .ok (.iload_n 3, 1) := by decide +kernel
theorem d_M_poke_163 : decode M_M_poke.2.1 163 = .ok (.iload 5, 2) := by decide +kernel
theorem d_M_poke_165 : decode M_M_poke.2.1 165 = .ok (.iload 7, 2) := by decide +kernel
theorem d_M_poke_167 : decode M_M_poke.2.1 167 = .ok (.iload_n 1, 1) := by decide +kernel
theorem d_M_poke_168 : decode M_M_poke.2.1 168 = .ok (.iconst (1), 1) := by decide +kernel
theorem d_M_poke_169 : decode M_M_poke.2.1 169 = .ok (.invokevirtual 59, 3) := by decide +kernel
theorem d_M_poke_172 : decode M_M_poke.2.1 172 = .ok (.aload_n 0, 1) := by decide +kernel
theorem d_M_poke_173 : decode M_M_poke.2.1 173 = .ok (.iload 9, 2) := by decide +kernel
theorem d_M_poke_175 : decode M_M_poke.2.1 175 = .ok (.iconst (1), 1) := by decide +kernel
theorem d_M_poke_176 : decode M_M_poke.2.1 176 = .ok (.iadd, 1) := by decide +kernel
theorem d_M_poke_177 : decode M_M_poke.2.1 177 = .ok (.iload 7, 2) := by decide +kernel
theorem d_M_poke_179 : decode M_M_poke.2.1 179 = .ok (.iload 5, 2) := by decide +kernel
theorem d_M_poke_181 : decode M_M_poke.2.1 181 = .ok (.iload 8, 2) := by decide +kernel
theorem d_M_poke_183 : decode M_M_poke.2.1 183 = .ok (.iload 6, 2) := by decide +kernel
theorem d_M_poke_185 : decode M_M_poke.2.1 185 = .ok (.iconst (0), 1) := by decide +kernel
theorem d_M_poke_186 : decode M_M_poke.2.1 186 = .ok (.invokevirtual 59, 3) := by decide +kernel
theorem d_M_poke_189 : decode M_M_poke.2.1 189 = .ok (.goto (71), 3) := by decide +kernel
theorem d_M_poke_192 : decode M_M_poke.2.1 192 = .ok (.iload 4, 2) := by decide +kernel
theorem d_M_poke_194 : decode M_M_poke.2.1 194 = .ok (.ifCond .eq (36), 3) := by decide +kernel
theorem d_M_poke_197 : decode M_M_poke.2.1 197 = .ok (.aload_n 0, 1) := by decide +kernel
theorem d_M_poke_198 : decode M_M_poke.2.1 198 = .ok (.iload 9, 2) := by decide +kernel
theorem d_M_poke_200 : decode M_M_poke.2.1 200 = .ok (.iload_n 3, 1) := by decide +kernel
theorem d_M_poke_201 : decode M_M_poke.2.1 201 = .ok (.iload_n 1, 1) := by decide +kernel
theorem d_M_poke_202 : decode M_M_poke.2.1 202 = .ok (.iload 7, 2) := by decide +kernel
theorem d_M_poke_204 : decode M_M_poke.2.1 204 = .ok (.iload 5, 2) := by decide +kernel
theorem d_M_poke_206 : decode M_M_poke.2.1 206 = .ok (.iconst (0), 1) := by decide +kernel
theorem d_M_poke_207 : decode M_M_poke.2.1 207 = .ok (.invokevirtual 59, 3) := by decide +kernel
theorem d_M_poke_210 : decode M_M_poke.2.1 210 = .ok (.aload_n 0, 1) := by decide +kernel
theorem d_M_poke_211 : decode M_M_poke.2.1 211 = .ok (.iload 9, 2) := by decide +kernel
theorem d_M_poke_213 : decode M_M_poke.2.1 213 = .ok (.iconst (1), 1) := by decide +kernel
theorem d_M_poke_214 : decode M_M_poke.2.1 214 = .ok (.iadd, 1) := by decide +kernel
theorem d_M_poke_215 : decode M_M_poke.2.1 215 = .ok (.iload 7, 2) := by decide +kernel
theorem d_M_poke_217 : decode M_M_poke.2.1 217 = .ok (.iload 6, 2) := by decide +kernel
theorem d_M_poke_219 : decode M_M_poke.2.1 219 = .ok (.iload 8, 2) := by decide +kernel
theorem d_M_poke_221 : decode M_M_poke.2.1 221 = .ok (.iload 5, 2) := by decide +kernel
theorem d_M_poke_223 : decode M_M_poke.2.1 223 = .ok (.iconst (1), 1) := by decide +kernel
theorem d_M_poke_224 : decode M_M_poke.2.1 224 = .ok (.invokevirtual 59, 3) := by decide +kernel
theorem d_M_poke_227 : decode M_M_poke.2.1 227 = .ok (.goto (33), 3) := by decide +kernel
theorem d_M_poke_230 : decode M_M_poke.2.1 230 = .ok (.aload_n 0, 1) := by decide +kernel
theorem d_M_poke_231 : decode M_M_poke.2.1 231 = .ok (.iload 9, 2) := by decide +kernel
theorem d_M_poke_233 : decode M_M_poke.2.1 233 = .ok (.iload 7, 2) := by decide +kernel
theorem d_M_poke_235 : decode M_M_poke.2.1 235 = .ok (.iload 5, 2) := by decide +kernel
theorem d_M_poke_237 : decode M_M_poke.2.1 237 = .ok (.iload 8, 2) := by decide +kernel
theorem d_M_poke_239 : decode M_M_poke.2.1 239 = .ok (.iload_n 1, 1) := by decide +kernel
theorem d_M_poke_240 : decode M_M_poke.2.1 240 = .ok (.iconst (1), 1) := by decide +kernel
theorem d_M_poke_241 : decode M_M_poke.2.1 241 = .ok (.invokevirtual 59, 3) := by decide +kernel
theorem d_M_poke_244 : decode M_M_poke.2.1 244 = .ok (.aload_n 0, 1) := by decide +kernel
theorem d_M_poke_245 : decode M_M_poke.2.1 245 = .ok (.iload 9, 2) := by decide +kernel
theorem d_M_poke_247 : decode M_M_poke.2.1 247 = .ok (.iconst (1), 1) := by decide +kernel
theorem d_M_poke_248 : decode M_M_poke.2.1 248 = .ok (.iadd, 1) := by decide +kernel
theorem d_M_poke_249 : decode M_M_poke.2.1 249 = .ok (.iload_n 3, 1) := by decide +kernel
theorem d_M_poke_250 : decode M_M_poke.2.1 250 = .ok (.iload 5, 2) := by decide +kernel
theorem d_M_poke_252 : decode M_M_poke.2.1 252 = .ok (.iload 7, 2) := by decide +kernel
theorem d_M_poke_254 : decode M_M_poke.2.1 254 = .ok (.iload 6, 2) := by decide +kernel
theorem d_M_poke_256 : decode M_M_poke.2.1 256 = .ok (.iconst (0), 1) := by decide +kernel
theorem d_M_poke_257 : decode M_M_poke.2.1 257 = .ok (.invokevirtual 59, 3) := by decide +kernel
theorem d_M_poke_260 : decode M_M_poke.2.1 260 = .ok (.aload_n 0, 1) := by decide +kernel
theorem d_M_poke_261 : decode M_M_poke.2.1 261 = .ok (.iload 9, 2) := by decide +kernel
theorem d_M_poke_263 : decode M_M_poke.2.1 263 = .ok (.iconst (2), 1) := by decide +kernel
theorem d_M_poke_264 : decode M_M_poke.2.1 264 = .ok (.iadd, 1) := by decide +kernel
theorem d_M_poke_265 : decode M_M_poke.2.1 265 = .ok (.putfield 66, 3) := by decide +kernel
theorem d_M_poke_268 : decode M_M_poke.2.1 268 = .ok (.iconst (1), 1) := by decide +kernel
theorem d_M_poke_269 : decode M_M_poke.2.1 269 = .ok (.ireturn, 1) := by decide +kernel
theorem d_M_opposite_0 : decode M_M_opposite.2.1 0 = .ok (.iload_n 0, 1) := by decide +kernel
theorem d_M_opposite_1 : decode M_M_opposite.2.1 1 = .ok (.iconst (4), 1) := by decide +kernel
theorem d_M_opposite_2 : decode M_M_opposite.2.1 2 = .ok (.irem, 1) := by decide +kernel
theorem d_M_opposite_3 : decode M_M_opposite.2.1 3 = .ok (.iconst (2), 1) := by decide +kernel
theorem d_M_opposite_4 : decode M_M_opposite.2.1 4 = .ok (.if_icmp .ge (9), 3) := by decide +kernel
theorem d_M_opposite_7 : decode M_M_opposite.2.1 7 = .ok (.iload_n 0, 1) := by decide +kernel
theorem d_M_opposite_8 : decode M_M_opposite.2.1 8 = .ok (.iconst (2), 1) := by decide +kernel
theorem d_M_opposite_9 : decode M_M_opposite.2.1 9 = .ok (.iadd, 1) := by decide +kernel
theorem d_M_opposite_10 : decode M_M_opposite.2.1 10 = .ok (.goto (6), 3) := by decide +kernel
theorem d_M_opposite_13 : decode M_M_opposite.2.1 13 = .ok (.iload_n 0, 1) := by decide +kernel
theorem d_M_opposite_14 : decode M_M_opposite.2.1 14 = .ok (.iconst (2), 1) := by decide +kernel
theorem d_M_opposite_15 : decode M_M_opposite.2.1 15 = .ok (.isub, 1) := by decide +kernel
theorem d_M_opposite_16 : decode M_M_opposite.2.1 16 = .ok (.ireturn, 1) := by decide +kernel
theorem d_M_level_0 : decode M_M_level.2.1 0 = .ok (.aload_n 0, 1) := by decide +kernel
theorem d_M_level_1 : decode M_M_level.2.1 1 = .ok (.iload_n 1, 1) := by decide +kernel
theorem d_M_level_2 : decode M_M_level.2.1 2 = .ok (.invokevirtual 72, 3) := by decide +kernel
theorem d_M_level_5 : decode M_M_level.2.1 5 = .ok (.istore_n 3, 1) := by decide +kernel
theorem d_M_level_6 : decode M_M_level.2.1 6 = .ok (.iload_n 2, 1) := by decide +kernel
theorem d_M_level_7 : decode M_M_level.2.1 7 = .ok (.ifCond .eq (7), 3) := by decide +kernel
theorem d_M_level_10 : decode M_M_level.2.1 10 = .ok (.iconst (1), 1) := by decide +kernel
theorem d_M_level_11 : decode M_M_level.2.1 11 = .ok (.goto (4), 3) := by decide +kernel
theorem d_M_level_14 : decode M_M_level.2.1 14 = .ok (.iconst (0), 1) := by decide +kernel
theorem d_M_level_15 : decode M_M_level.2.1 15 = .ok (.istore 4, 2) := by decide +kernel
theorem d_M_level_17 : decode M_M_level.2.1 17 = .ok (.iload_n 1, 1) := by decide +kernel
theorem d_M_level_18 : decode M_M_level.2.1 18 = .ok (.iconst (2), 1) := by decide +kernel
theorem d_M_level_19 : decode M_M_level.2.1 19 = .ok (.irem, 1) := by decide +kernel
theorem d_M_level_20 : decode M_M_level.2.1 20 = .ok (.iload 4, 2) := by decide +kernel
theorem d_M_level_22 : decode M_M_level.2.1 22 = .ok (.if_icmp .ne (15), 3) := by decide +kernel
theorem d_M_level_25 : decode M_M_level.2.1 25 = .ok (.iload_n 3, 1) := by decide +kernel
theorem d_M_level_26 : decode M_M_level.2.1 26 = .ok (.iconst (2), 1) := by decide +kernel
theorem d_M_level_27 : decode M_M_level.2.1 27 = .ok (.irem, 1) := by decide +kernel
theorem d_M_level_28 : decode M_M_level.2.1 28 = .ok (.iload 4, 2) := by decide +kernel
theorem d_M_level_30 : decode M_M_level.2.1 30 = .ok (.if_icmp .ne (7), 3) := by decide +kernel
theorem d_M_level_33 : decode M_M_level.2.1 33 = .ok (.iconst (1), 1) := by decide +kernel
theorem d_M_level_34 : decode M_M_level.2.1 34 = .ok (.goto (4), 3) := by decide +kernel
theorem d_M_level_37 : decode M_M_level.2.1 37 = .ok (.iconst (0), 1) := by decide +kernel
theorem d_M_level_38 : decode M_M_level.2.1 38 = .ok (.ireturn, 1) := by decide +kernel
theorem d_M_beyond_0 : decode M_M_beyond.2.1 0 = .ok (.aload_n 0, 1) := by decide +kernel
theorem d_M_beyond_1 : decode M_M_beyond.2.1 1 = .ok (.iload_n 1, 1) := by decide +kernel
theorem d_M_beyond_2 : decode M_M_beyond.2.1 2 = .ok (.invokevirtual 72, 3) := by decide +kernel
theorem d_M_beyond_5 : decode M_M_beyond.2.1 5 = .ok (.istore_n 3, 1) := by decide +kernel
theorem d_M_beyond_6 : decode M_M_beyond.2.1 6 = .ok (.aload_n 0, 1) := by decide +kernel
theorem d_M_beyond_7 : decode M_M_beyond.2.1 7 = .ok (.iload_n 1, 1) := by decide +kernel
theorem d_M_beyond_8 : decode M_M_beyond.2.1 8 = .ok (.invokevirtual 76, 3) := by decide +kernel
theorem d_M_beyond_11 : decode M_M_beyond.2.1 11 = .ok (.iload_n 2, 1) := by decide +kernel
theorem d_M_beyond_12 : decode M_M_beyond.2.1 12 = .ok (.if_icmp .ne (7), 3) := by decide +kernel
theorem d_M_beyond_15 : decode M_M_beyond.2.1 15 = .ok (.iload_n 3, 1) := by decide +kernel
theorem d_M_beyond_16 : decode M_M_beyond.2.1 16 = .ok (.goto (4), 3) := by decide +kernel
theorem d_M_beyond_19 : decode M_M_beyond.2.1 19 = .ok (.iload_n 1, 1) := by decide +kernel
theorem d_M_beyond_20 : decode M_M_beyond.2.1 20 = .ok (.istore 4, 2) := by decide +kernel
theorem d_M_beyond_22 : decode M_M_beyond.2.1 22 = .ok (.aload_n 0, 1) := by decide +kernel
theorem d_M_beyond_23 : decode M_M_beyond.2.1 23 = .ok (.getfield 7, 3) := by decide +kernel
theorem d_M_beyond_26 : decode M_M_beyond.2.1 26 = .ok (.iload 4, 2) := by decide +kernel
theorem d_M_beyond_28 : decode M_M_beyond.2.1 28 = .ok (.invokestatic 177, 3) := by decide +kernel
theorem d_M_beyond_31 : decode M_M_beyond.2.1 31 = .ok (.iaload, 1) := by decide +kernel
theorem d_M_beyond_32 : decode M_M_beyond.2.1 32 = .ok (.ireturn, 1) := by decide +kernel
theorem d_M_unpoke_0 : decode M_M_unpoke.2.1 0 = .ok (.iload_n 1, 1) := by decide +kernel
theorem d_M_unpoke_1 : decode M_M_unpoke.2.1 1 = .ok (.iload_n 2, 1) := by decide +kernel
theorem d_M_unpoke_2 : decode M_M_unpoke.2.1 2 = .ok (.if_icmp .eq (19), 3) := by decide +kernel
theorem d_M_unpoke_5 : decode M_M_unpoke.2.1 5 = .ok (.aload_n 0, 1) := by decide +kernel
theorem d_M_unpoke_6 : decode M_M_unpoke.2.1 6 = .ok (.iload_n 1, 1) := by decide +kernel
theorem d_M_unpoke_7 : decode M_M_unpoke.2.1 7 = .ok (.invokevirtual 168, 3) := by decide +kernel
theorem d_M_unpoke_10 : decode M_M_unpoke.2.1 10 = .ok (.ifCond .eq (11), 3) := by decide +kernel
theorem d_M_unpoke_13 : decode M_M_unpoke.2.1 13 = .ok (.aload_n 0, 1) := by decide +kernel
theorem d_M_unpoke_14 : decode M_M_unpoke.2.1 14 = .ok (.iload_n 2, 1) := by decide +kernel
theorem d_M_unpoke_15 : decode M_M_unpoke.2.1 15 = .ok (.invokevirtual 168, 3) := by decide +kernel
theorem d_M_unpoke_18 : decode M_M_unpoke.2.1 18 = .ok (.ifCond .ne (5), 3) := by decide +kernel
theorem d_M_unpoke_21 : decode M_M_unpoke.2.1 21 = .ok (.iconst (0), 1) := by decide +kernel
theorem d_M_unpoke_22 : decode M_M_unpoke.2.1 22 = .ok (.ireturn, 1) := by decide +kernel
theorem d_M_unpoke_23 : decode M_M_unpoke.2.1 23 = .ok (.aload_n 0, 1) := by decide +kernel
theorem d_M_unpoke_24 : decode M_M_unpoke.2.1 24 = .ok (.iconst (0), 1) := by decide +kernel
theorem d_M_unpoke_25 : decode M_M_unpoke.2.1 25 = .ok (.invokevirtual 92, 3) := by decide +kernel
theorem d_M_unpoke_28 : decode M_M_unpoke.2.1 28 = .ok (.iconst (4), 1) := by decide +kernel
theorem d_M_unpoke_29 : decode M_M_unpoke.2.1 29 = .ok (.iload_n 1, 1) := by decide +kernel
theorem d_M_unpoke_30 : decode M_M_unpoke.2.1 30 = .ok (.imul, 1) := by decide +kernel
theorem d_M_unpoke_31 : decode M_M_unpoke.2.1 31 = .ok (.istore_n 3, 1) := by decide +kernel
theorem d_M_unpoke_32 : decode M_M_unpoke.2.1 32 = .ok (.iload_n 3, 1) := by decide +kernel
theorem d_M_unpoke_33 : decode M_M_unpoke.2.1 33 = .ok (.iconst (4), 1) := by decide +kernel
theorem d_M_unpoke_34 : decode M_M_unpoke.2.1 34 = .ok (.iload_n 1, 1) := by decide +kernel
theorem d_M_unpoke_35 : decode M_M_unpoke.2.1 35 = .ok (.imul, 1) := by decide +kernel
theorem d_M_unpoke_36 : decode M_M_unpoke.2.1 36 = .ok (.iconst (4), 1) := by decide +kernel
theorem d_M_unpoke_37 : decode M_M_unpoke.2.1 37 = .ok (.iadd, 1) := by decide +kernel
theorem d_M_unpoke_38 : decode M_M_unpoke.2.1 38 = .ok (.if_icmp .ge (122), 3) := by decide +kernel
theorem d_M_unpoke_41 : decode M_M_unpoke.2.1 41 = .ok (.aload_n 0, 1) := by decide +kernel
theorem d_M_unpoke_42 : decode M_M_unpoke.2.1 42 = .ok (.iload_n 3, 1) := by decide +kernel
theorem d_M_unpoke_43 : decode M_M_unpoke.2.1 43 = .ok (.invokevirtual 79, 3) := by decide +kernel
theorem d_M_unpoke_46 : decode M_M_unpoke.2.1 46 = .ok (.istore 4, 2) := by decide +kernel
theorem d_M_unpoke_48 : decode M_M_unpoke.2.1 48 = .ok (.iload 4, 2) := by decide +kernel
theorem d_M_unpoke_50 : decode M_M_unpoke.2.1 50 = .ok (.iconst (4), 1) := by decide +kernel
theorem d_M_unpoke_51 : decode M_M_unpoke.2.1 51 = .ok (.idiv, 1) := by decide +kernel
theorem d_M_unpoke_52 : decode M_M_unpoke.2.1 52 = .ok (.iload_n 2, 1) := by decide +kernel
theorem d_M_unpoke_53 : decode M_M_unpoke.2.1 53 = .ok (.if_icmp .ne (17), 3) := by decide +kernel
theorem d_M_unpoke_56 : decode M_M_unpoke.2.1 56 = .ok (.aload_n 0, 1) := by decide +kernel
theorem d_M_unpoke_57 : decode M_M_unpoke.2.1 57 = .ok (.iload 4, 2) := by decide +kernel
theorem d_M_unpoke_59 : decode M_M_unpoke.2.1 59 = .ok (.invokevirtual 79, 3) := by decide +kernel
theorem d_M_unpoke_62 : decode M_M_unpoke.2.1 62 = .ok (.iload_n 3, 1) := by decide +kernel
theorem d_M_unpoke_63 : decode M_M_unpoke.2.1 63 = .ok (.if_icmp .ne (7), 3) := by decide +kernel
theorem d_M_unpoke_66 : decode M_M_unpoke.2.1 66 = .ok (.iconst (1), 1) := by decide +kernel
theorem d_M_unpoke_67 : decode M_M_unpoke.2.1 67 = .ok (.goto (4), 3) := by decide +kernel
theorem d_M_unpoke_70 : decode M_M_unpoke.2.1 70 = .ok (.iconst (0), 1) := by decide +kernel
theorem d_M_unpoke_71 : decode M_M_unpoke.2.1 71 = .ok (.istore 5, 2) := by decide +kernel
theorem d_M_unpoke_73 : decode M_M_unpoke.2.1 73 = .ok (.iload 5, 2) := by decide +kernel
theorem d_M_unpoke_75 : decode M_M_unpoke.2.1 75 = .ok (.ifCond .eq (79), 3) := by decide +kernel
theorem d_M_unpoke_78 : decode M_M_unpoke.2.1 78 = .ok (.aload_n 0, 1) := by decide +kernel
theorem d_M_unpoke_79 : decode M_M_unpoke.2.1 79 = .ok (.iload_n 3, 1) := by decide +kernel
theorem d_M_unpoke_80 : decode M_M_unpoke.2.1 80 = .ok (.iconst (1), 1) := by decide +kernel
theorem d_M_unpoke_81 : decode M_M_unpoke.2.1 81 = .ok (.invokevirtual 180, 3) := by decide +kernel
theorem d_M_unpoke_84 : decode M_M_unpoke.2.1 84 = .ok (.ifCond .eq (13), 3) := by decide +kernel
theorem d_M_unpoke_87 : decode M_M_unpoke.2.1 87 = .ok (.aload_n 0, 1) := by decide +kernel
theorem d_M_unpoke_88 : decode M_M_unpoke.2.1 88 = .ok (.iload 4, 2) := by decide +kernel
theorem d_M_unpoke_90 : decode M_M_unpoke.2.1 90 = .ok (.iconst (0), 1) := by decide +kernel
theorem d_M_unpoke_91 : decode M_M_unpoke.2.1 91 = .ok (.invokevirtual 180, 3) := by decide +kernel
theorem d_M_unpoke_94 : decode M_M_unpoke.2.1 94 = .ok (.ifCond .ne (22), 3) := by decide +kernel
theorem d_M_unpoke_97 : decode M_M_unpoke.2.1 97 = .ok (.aload_n 0, 1) := by decide +kernel
theorem d_M_unpoke_98 : decode M_M_unpoke.2.1 98 = .ok (.iload_n 3, 1) := by decide +kernel
theorem d_M_unpoke_99 : decode M_M_unpoke.2.1 99 = .ok (.iconst (0), 1) := by decide +kernel
theorem d_M_unpoke_100 : decode M_M_unpoke.2.1 100 = .ok (.invokevirtual 180, 3) := by decide +kernel
theorem d_M_unpoke_103 : decode M_M_unpoke.2.1 103 = .ok (.ifCond .eq (51), 3) := by decide +kernel
theorem d_M_unpoke_106 : decode M_M_unpoke.2.1 106 = .ok (.aload_n 0, 1) := by decide +kernel
theorem d_M_unpoke_107 : decode M_M_unpoke.2.1 107 = .ok (.iload 4, 2) := by decide +kernel
theorem d_M_unpoke_109 : decode M_M_unpoke.2.1 109 = .ok (.iconst (1), 1) := by decide +kernel
theorem d_M_unpoke_110 : decode M_M_unpoke.2.1 110 = .ok (.invokevirtual 180, 3) := by decide +kernel
theorem d_M_unpoke_113 : decode M_M_unpoke.2.1 113 = .ok (.ifCond .eq (41), 3) := by decide +kernel
theorem d_M_unpoke_116 : decode M_M_unpoke.2.1 116 = .ok (.aload_n 0, 1) := by decide +kernel
theorem d_M_unpoke_117 : decode M_M_unpoke.2.1 117 = .ok (.aload_n 0, 1) := by decide +kernel
theorem d_M_unpoke_118 : decode M_M_unpoke.2.1 118 = .ok (.iload_n 3, 1) := by decide +kernel
theorem d_M_unpoke_119 : decode M_M_unpoke.2.1 119 = .ok (.iconst (1), 1) := by decide +kernel
theorem d_M_unpoke_120 : decode M_M_unpoke.2.1 120 = .ok (.invokevirtual 180, 3) := by decide +kernel
theorem d_M_unpoke_123 : decode M_M_unpoke.2.1 123 = .ok (.ifCond .eq (7), 3) := by decide +kernel
theorem d_M_unpoke_126 : decode M_M_unpoke.2.1 126 = .ok (.iload_n 3, 1) := by decide +kernel
theorem d_M_unpoke_127 : decode M_M_unpoke.2.1 127 = .ok (.goto (5), 3) := by decide +kernel
theorem d_M_unpoke_130 : decode M_M_unpoke.2.1 130 = .ok (.iload 4, 2) := by decide +kernel
theorem d_M_unpoke_132 : decode M_M_unpoke.2.1 132 = .ok (.aload_n 0, 1) := by decide +kernel
theorem d_M_unpoke_133 : decode M_M_unpoke.2.1 133 = .ok (.iload_n 3, 1) := by decide +kernel
theorem d_M_unpoke_134 : decode M_M_unpoke.2.1 134 = .ok (.iconst (1), 1) := by decide +kernel
theorem d_M_unpoke_135 : decode M_M_unpoke.2.1 135 = .ok (.invokevirtual 180, 3) := by decide +kernel
theorem d_M_unpoke_138 : decode M_M_unpoke.2.1 138 = .ok (.ifCond .eq (8), 3) := by decide +kernel
theorem d_M_unpoke_141 : decode M_M_unpoke.2.1 141 = .ok (.iload 4, 2) := by decide +kernel
theorem d_M_unpoke_143 : decode M_M_unpoke.2.1 143 = .ok (.goto (4), 3) := by decide +kernel
theorem d_M_unpoke_146 : decode M_M_unpoke.2.1 146 = .ok (.iload_n 3, 1) := by decide +kernel
theorem d_M_unpoke_147 : decode M_M_unpoke.2.1 147 = .ok (.iload_n 1, 1) := by decide +kernel
theorem d_M_unpoke_148 : decode M_M_unpoke.2.1 148 = .ok (.iload_n 2, 1) := by decide +kernel
theorem d_M_unpoke_149 : decode M_M_unpoke.2.1 149 = .ok (.invokevirtual 184, 3) := by decide +kernel
theorem d_M_unpoke_152 : decode M_M_unpoke.2.1 152 = .ok (.iconst (1), 1) := by decide +kernel
theorem d_M_unpoke_153 : decode M_M_unpoke.2.1 153 = .ok (.ireturn, 1) := by decide +kernel
theorem d_M_unpoke_154 : decode M_M_unpoke.2.1 154 = .ok (.iinc 3 (1), 3) := by decide +kernel
theorem d_M_unpoke_157 : decode M_M_unpoke.2.1 157 = .ok (.goto (-125), 3) := by decide +kernel
theorem d_M_unpoke_160 : decode M_M_unpoke.2.1 160 = .ok (.iconst (0), 1) := by decide +kernel
theorem d_M_unpoke_161 : decode M_M_unpoke.2.1 161 = .ok (.ireturn, 1) := by decide +kernel
theorem d_M_pull_0 : decode M_M_pull.2.1 0 = .ok (.aload_n 0, 1) := by decide +kernel
theorem d_M_pull_1 : decode M_M_pull.2.1 1 = .ok (.iload_n 1, 1) := by decide +kernel
theorem d_M_pull_2 : decode M_M_pull.2.1 2 = .ok (.iconst (1), 1) := by decide +kernel
theorem d_M_pull_3 : decode M_M_pull.2.1 3 = .ok (.invokevirtual 187, 3) := by decide +kernel
theorem d_M_pull_6 : decode M_M_pull.2.1 6 = .ok (.istore 5, 2) := by decide +kernel
theorem d_M_pull_8 : decode M_M_pull.2.1 8 = .ok (.aload_n 0, 1) := by decide +kernel
theorem d_M_pull_9 : decode M_M_pull.2.1 9 = .ok (.iload_n 1, 1) := by decide +kernel
theorem d_M_pull_10 : decode M_M_pull.2.1 10 = .ok (.iconst (0), 1) := by decide +kernel
theorem d_M_pull_11 : decode M_M_pull.2.1 11 = .ok (.invokevirtual 187, 3) := by decide +kernel
theorem d_M_pull_14 : decode M_M_pull.2.1 14 = .ok (.istore 6, 2) := by decide +kernel
theorem d_M_pull_16 : decode M_M_pull.2.1 16 = .ok (.aload_n 0, 1) := by decide +kernel
theorem d_M_pull_17 : decode M_M_pull.2.1 17 = .ok (.iload_n 2, 1) := by decide +kernel
theorem d_M_pull_18 : decode M_M_pull.2.1 18 = .ok (.iconst (1), 1) := by decide +kernel
theorem d_M_pull_19 : decode M_M_pull.2.1 19 = .ok (.invokevirtual 187, 3) := by decide +kernel
theorem d_M_pull_22 : decode M_M_pull.2.1 22 = .ok (.istore 7, 2) := by decide +kernel
theorem d_M_pull_24 : decode M_M_pull.2.1 24 = .ok (.aload_n 0, 1) := by decide +kernel
theorem d_M_pull_25 : decode M_M_pull.2.1 25 = .ok (.iload_n 2, 1) := by decide +kernel
theorem d_M_pull_26 : decode M_M_pull.2.1 26 = .ok (.iconst (0), 1) := by decide +kernel
theorem d_M_pull_27 : decode M_M_pull.2.1 27 = .ok (.invokevirtual 187, 3) := by decide +kernel
theorem d_M_pull_30 : decode M_M_pull.2.1 30 = .ok (.istore 8, 2) := by decide +kernel
theorem d_M_pull_32 : decode M_M_pull.2.1 32 = .ok (.aload_n 0, 1) := by decide +kernel
theorem d_M_pull_33 : decode M_M_pull.2.1 33 = .ok (.iload_n 3, 1) := by decide +kernel
theorem d_M_pull_34 : decode M_M_pull.2.1 34 = .ok (.iload 4, 2) := by decide +kernel
theorem d_M_pull_36 : decode M_M_pull.2.1 36 = .ok (.if_icmp .le (7), 3) := by decide +kernel
theorem d_M_pull_39 : decode M_M_pull.2.1 39 = .ok (.iload_n 3, 1) := by decide +kernel
theorem d_M_pull_40 : decode M_M_pull.2.1 40 = .ok (.goto (5), 3) := by decide +kernel
theorem d_M_pull_43 : decode M_M_pull.2.1 43 = .ok (.iload 4, 2) := by decide +kernel
theorem d_M_pull_45 : decode M_M_pull.2.1 45 = .ok (.invokevirtual 171, 3) := by decide +kernel
theorem d_M_pull_48 : decode M_M_pull.2.1 48 = .ok (.aload_n 0, 1) := by decide +kernel
theorem d_M_pull_49 : decode M_M_pull.2.1 49 = .ok (.iload_n 3, 1) := by decide +kernel
theorem d_M_pull_50 : decode M_M_pull.2.1 50 = .ok (.iload 4, 2) := by decide +kernel
theorem d_M_pull_52 : decode M_M_pull.2.1 52 = .ok (.if_icmp .le (8), 3) := by decide +kernel
theorem d_M_pull_55 : decode M_M_pull.2.1 55 = .ok (.iload 4, 2) := by decide +kernel
theorem d_M_pull_57 : decode M_M_pull.2.1 57 = .ok (.goto (4), 3) := by decide +kernel
theorem d_M_pull_60 : decode M_M_pull.2.1 60 = .ok (.iload_n 3, 1) := by decide +kernel
theorem d_M_pull_61 : decode M_M_pull.2.1 61 = .ok (.invokevirtual 171, 3) := by decide +kernel
theorem d_M_pull_64 : decode M_M_pull.2.1 64 = .ok (.aload_n 0, 1) := by decide +kernel
theorem d_M_pull_65 : decode M_M_pull.2.1 65 = .ok (.iload 5, 2) := by decide +kernel
theorem d_M_pull_67 : decode M_M_pull.2.1 67 = .ok (.iload 6, 2) := by decide +kernel
theorem d_M_pull_69 : decode M_M_pull.2.1 69 = .ok (.invokevirtual 174, 3) := by decide +kernel
theorem d_M_pull_72 : decode M_M_pull.2.1 72 = .ok (.iload 7, 2) := by decide +kernel
theorem d_M_pull_74 : decode M_M_pull.2.1 74 = .ok (.iload 6, 2) := by decide +kernel
theorem d_M_pull_76 : decode M_M_pull.2.1 76 = .ok (.if_icmp .ne (8), 3) := by decide +kernel
theorem d_M_pull_79 : decode M_M_pull.2.1 79 = .ok (.iload 5, 2) := by decide +kernel
theorem d_M_pull_81 : decode M_M_pull.2.1 81 = .ok (.goto (5), 3) := by decide +kernel
theorem d_M_pull_84 : decode M_M_pull.2.1 84 = .ok (.iload 7, 2) := by decide +kernel
theorem d_M_pull_86 : decode M_M_pull.2.1 86 = .ok (.istore 7, 2) := by decide +kernel
theorem d_M_pull_88 : decode M_M_pull.2.1 88 = .ok (.iload 8, 2) := by decide +kernel
theorem d_M_pull_90 : decode M_M_pull.2.1 90 = .ok (.iload 6, 2) := by decide +kernel
theorem d_M_pull_92 : decode M_M_pull.2.1 92 = .ok (.if_icmp .ne (8), 3) := by decide +kernel
theorem d_M_pull_95 : decode M_M_pull.2.1 95 = .ok (.iload 5, 2) := by decide +kernel
theorem d_M_pull_97 : decode M_M_pull.2.1 97 = .ok (.goto (5), 3) := by decide +kernel
theorem d_M_pull_100 : decode M_M_pull.2.1 100 = .ok (.iload 8, 2) := by decide +kernel
theorem d_M_pull_102 : decode M_M_pull.2.1 102 = .ok (.istore 8, 2) := by decide +kernel
theorem d_M_pull_104 : decode M_M_pull.2.1 104 = .ok (.aload_n 0, 1) := by decide +kernel
theorem d_M_pull_105 : decode M_M_pull.2.1 105 = .ok (.iload 7, 2) := by decide +kernel
theorem d_M_pull_107 : decode M_M_pull.2.1 107 = .ok (.iload 8, 2) := by decide +kernel
theorem d_M_pull_109 : decode M_M_pull.2.1 109 = .ok (.invokevirtual 174, 3) := by decide +kernel
theorem d_M_pull_112 : decode M_M_pull.2.1 112 = .ok (.return_, 1) := by decide +kernel
theorem d_M_slideEdge_0 : decode M_M_slideEdge.2.1 0 = .ok (.aload_n 0, 1) := by decide +kernel
theorem d_M_slideEdge_1 : decode M_M_slideEdge.2.1 1 = .ok (.iload_n 1, 1) := by decide +kernel
theorem d_M_slideEdge_2 : decode M_M_slideEdge.2.1 2 = .ok (.invokevirtual 72, 3) := by decide +kernel
theorem d_M_slideEdge_5 : decode M_M_slideEdge.2.1 5 = .ok (.istore_n 2, 1) := by decide +kernel
theorem d_M_slideEdge_6 : decode M_M_slideEdge.2.1 6 = .ok (.aload_n 0, 1) := by decide +kernel
theorem d_M_slideEdge_7 : decode M_M_slideEdge.2.1 7 = .ok (.iload_n 1, 1) := by decide +kernel
theorem d_M_slideEdge_8 : decode M_M_slideEdge.2.1 8 = .ok (.invokevirtual 76, 3) := by decide +kernel
theorem d_M_slideEdge_11 : decode M_M_slideEdge.2.1 11 = .ok (.ifCond .eq (7), 3) := by decide +kernel
theorem d_M_slideEdge_14 : decode M_M_slideEdge.2.1 14 = .ok (.iload_n 2, 1) := by decide +kernel
theorem d_M_slideEdge_15 : decode M_M_slideEdge.2.1 15 = .ok (.goto (4), 3) := by decide +kernel
theorem d_M_slideEdge_18 : decode M_M_slideEdge.2.1 18 = .ok (.iload_n 1, 1) := by decide +kernel
theorem d_M_slideEdge_19 : decode M_M_slideEdge.2.1 19 = .ok (.istore_n 3, 1) := by decide +kernel
theorem d_M_slideEdge_20 : decode M_M_slideEdge.2.1 20 = .ok (.aload_n 0, 1) := by decide +kernel
theorem d_M_slideEdge_21 : decode M_M_slideEdge.2.1 21 = .ok (.iload_n 1, 1) := by decide +kernel
theorem d_M_slideEdge_22 : decode M_M_slideEdge.2.1 22 = .ok (.invokevirtual 76, 3) := by decide +kernel
theorem d_M_slideEdge_25 : decode M_M_slideEdge.2.1 25 = .ok (.ifCond .eq (7), 3) := by decide +kernel
theorem d_M_slideEdge_28 : decode M_M_slideEdge.2.1 28 = .ok (.iload_n 1, 1) := by decide +kernel
theorem d_M_slideEdge_29 : decode M_M_slideEdge.2.1 29 = .ok (.goto (4), 3) := by decide +kernel
theorem d_M_slideEdge_32 : decode M_M_slideEdge.2.1 32 = .ok (.iload_n 2, 1) := by decide +kernel
theorem d_M_slideEdge_33 : decode M_M_slideEdge.2.1 33 = .ok (.istore 4, 2) := by decide +kernel
theorem d_M_slideEdge_35 : decode M_M_slideEdge.2.1 35 = .ok (.aload_n 0, 1) := by decide +kernel
theorem d_M_slideEdge_36 : decode M_M_slideEdge.2.1 36 = .ok (.getfield 49, 3) := by decide +kernel
theorem d_M_slideEdge_39 : decode M_M_slideEdge.2.1 39 = .ok (.iload_n 3, 1) := by decide +kernel
theorem d_M_slideEdge_40 : decode M_M_slideEdge.2.1 40 = .ok (.invokestatic 177, 3) := by decide +kernel
theorem d_M_slideEdge_43 : decode M_M_slideEdge.2.1 43 = .ok (.aload_n 0, 1) := by decide +kernel
theorem d_M_slideEdge_44 : decode M_M_slideEdge.2.1 44 = .ok (.getfield 7, 3) := by decide +kernel
theorem d_M_slideEdge_47 : decode M_M_slideEdge.2.1 47 = .ok (.iload_n 3, 1) := by decide +kernel
theorem d_M_slideEdge_48 : decode M_M_slideEdge.2.1 48 = .ok (.iaload, 1) := by decide +kernel
theorem d_M_slideEdge_49 : decode M_M_slideEdge.2.1 49 = .ok (.iastore, 1) := by decide +kernel
theorem d_M_slideEdge_50 : decode M_M_slideEdge.2.1 50 = .ok (.aload_n 0, 1) := by decide +kernel
theorem d_M_slideEdge_51 : decode M_M_slideEdge.2.1 51 = .ok (.getfield 49, 3) := by decide +kernel
theorem d_M_slideEdge_54 : decode M_M_slideEdge.2.1 54 = .ok (.iload_n 3, 1) := by decide +kernel
theorem d_M_slideEdge_55 : decode M_M_slideEdge.2.1 55 = .ok (.aload_n 0, 1) := by decide +kernel
theorem d_M_slideEdge_56 : decode M_M_slideEdge.2.1 56 = .ok (.getfield 7, 3) := by decide +kernel
theorem d_M_slideEdge_59 : decode M_M_slideEdge.2.1 59 = .ok (.iload 4, 2) := by decide +kernel
theorem d_M_slideEdge_61 : decode M_M_slideEdge.2.1 61 = .ok (.invokestatic 177, 3) := by decide +kernel
theorem d_M_slideEdge_64 : decode M_M_slideEdge.2.1 64 = .ok (.iaload, 1) := by decide +kernel
theorem d_M_slideEdge_65 : decode M_M_slideEdge.2.1 65 = .ok (.iastore, 1) := by decide +kernel
theorem d_M_slideEdge_66 : decode M_M_slideEdge.2.1 66 = .ok (.aload_n 0, 1) := by decide +kernel
theorem d_M_slideEdge_67 : decode M_M_slideEdge.2.1 67 = .ok (.getfield 49, 3) := by decide +kernel
theorem d_M_slideEdge_70 : decode M_M_slideEdge.2.1 70 = .ok (.iload 4, 2) := by decide +kernel
theorem d_M_slideEdge_72 : decode M_M_slideEdge.2.1 72 = .ok (.aload_n 0, 1) := by decide +kernel
theorem d_M_slideEdge_73 : decode M_M_slideEdge.2.1 73 = .ok (.getfield 7, 3) := by decide +kernel
theorem d_M_slideEdge_76 : decode M_M_slideEdge.2.1 76 = .ok (.iload_n 3, 1) := by decide +kernel
theorem d_M_slideEdge_77 : decode M_M_slideEdge.2.1 77 = .ok (.invokestatic 177, 3) := by decide +kernel
theorem d_M_slideEdge_80 : decode M_M_slideEdge.2.1 80 = .ok (.iaload, 1) := by decide +kernel
theorem d_M_slideEdge_81 : decode M_M_slideEdge.2.1 81 = .ok (.iastore, 1) := by decide +kernel
theorem d_M_slideEdge_82 : decode M_M_slideEdge.2.1 82 = .ok (.aload_n 0, 1) := by decide +kernel
theorem d_M_slideEdge_83 : decode M_M_slideEdge.2.1 83 = .ok (.getfield 49, 3) := by decide +kernel
theorem d_M_slideEdge_86 : decode M_M_slideEdge.2.1 86 = .ok (.iload 4, 2) := by decide +kernel
theorem d_M_slideEdge_88 : decode M_M_slideEdge.2.1 88 = .ok (.invokestatic 177, 3) := by decide +kernel
theorem d_M_slideEdge_91 : decode M_M_slideEdge.2.1 91 = .ok (.aload_n 0, 1) := by decide +kernel
theorem d_M_slideEdge_92 : decode M_M_slideEdge.2.1 92 = .ok (.getfield 7, 3) := by decide +kernel
theorem d_M_slideEdge_95 : decode M_M_slideEdge.2.1 95 = .ok (.iload 4, 2) := by decide +kernel
theorem d_M_slideEdge_97 : decode M_M_slideEdge.2.1 97 = .ok (.iaload, 1) := by decide +kernel
theorem d_M_slideEdge_98 : decode M_M_slideEdge.2.1 98 = .ok (.iastore, 1) := by decide +kernel
theorem d_M_slideEdge_99 : decode M_M_slideEdge.2.1 99 = .ok (.return_, 1) := by decide +kernel
theorem d_M_slide_0 : decode M_M_slide.2.1 0 = .ok (.iload_n 1, 1) := by decide +kernel
theorem d_M_slide_1 : decode M_M_slide.2.1 1 = .ok (.iload_n 2, 1) := by decide +kernel
theorem d_M_slide_2 : decode M_M_slide.2.1 2 = .ok (.if_icmp .eq (37), 3) := by decide +kernel
theorem d_M_slide_5 : decode M_M_slide.2.1 5 = .ok (.iload_n 2, 1) := by decide +kernel
theorem d_M_slide_6 : decode M_M_slide.2.1 6 = .ok (.iload_n 3, 1) := by decide +kernel
theorem d_M_slide_7 : decode M_M_slide.2.1 7 = .ok (.if_icmp .eq (32), 3) := by decide +kernel
theorem d_M_slide_10 : decode M_M_slide.2.1 10 = .ok (.iload_n 1, 1) := by decide +kernel
theorem d_M_slide_11 : decode M_M_slide.2.1 11 = .ok (.iload_n 3, 1) := by decide +kernel
theorem d_M_slide_12 : decode M_M_slide.2.1 12 = .ok (.if_icmp .eq (27), 3) := by decide +kernel
theorem d_M_slide_15 : decode M_M_slide.2.1 15 = .ok (.aload_n 0, 1) := by decide +kernel
theorem d_M_slide_16 : decode M_M_slide.2.1 16 = .ok (.iload_n 1, 1) := by decide +kernel
theorem d_M_slide_17 : decode M_M_slide.2.1 17 = .ok (.invokevirtual 168, 3) := by decide +kernel
theorem d_M_slide_20 : decode M_M_slide.2.1 20 = .ok (.ifCond .eq (19), 3) := by decide +kernel
theorem d_M_slide_23 : decode M_M_slide.2.1 23 = .ok (.aload_n 0, 1) := by decide +kernel
theorem d_M_slide_24 : decode M_M_slide.2.1 24 = .ok (.iload_n 2, 1) := by decide +kernel
theorem d_M_slide_25 : decode M_M_slide.2.1 25 = .ok (.invokevirtual 168, 3) := by decide +kernel
theorem d_M_slide_28 : decode M_M_slide.2.1 28 = .ok (.ifCond .eq (11), 3) := by decide +kernel
theorem d_M_slide_31 : decode M_M_slide.2.1 31 = .ok (.aload_n 0, 1) := by decide +kernel
theorem d_M_slide_32 : decode M_M_slide.2.1 32 = .ok (.iload_n 3, 1) := by decide +kernel
theorem d_M_slide_33 : decode M_M_slide.2.1 33 = .ok (.invokevirtual 168, 3) := by decide +kernel
theorem d_M_slide_36 : decode M_M_slide.2.1 36 = .ok (.ifCond .ne (5), 3) := by decide +kernel
theorem d_M_slide_39 : decode M_M_slide.2.1 39 = .ok (.iconst (0), 1) := by decide +kernel
theorem d_M_slide_40 : decode M_M_slide.2.1 40 = .ok (.ireturn, 1) := by decide +kernel
theorem d_M_slide_41 : decode M_M_slide.2.1 41 = .ok (.aload_n 0, 1) := by decide +kernel
theorem d_M_slide_42 : decode M_M_slide.2.1 42 = .ok (.iconst (0), 1) := by decide +kernel
theorem d_M_slide_43 : decode M_M_slide.2.1 43 = .ok (.invokevirtual 92, 3) := by decide +kernel
theorem d_M_slide_46 : decode M_M_slide.2.1 46 = .ok (.iconst (4), 1) := by decide +kernel
theorem d_M_slide_47 : decode M_M_slide.2.1 47 = .ok (.iload_n 1, 1) := by decide +kernel
theorem d_M_slide_48 : decode M_M_slide.2.1 48 = .ok (.imul, 1) := by decide +kernel
theorem d_M_slide_49 : decode M_M_slide.2.1 49 = .ok (.istore 4, 2) := by decide +kernel
theorem d_M_slide_51 : decode M_M_slide.2.1 51 = .ok (.iload 4, 2) := by decide +kernel
theorem d_M_slide_53 : decode M_M_slide.2.1 53 = .ok (.iconst (4), 1) := by decide +kernel
theorem d_M_slide_54 : decode M_M_slide.2.1 54 = .ok (.iload_n 1, 1) := by decide +kernel
theorem d_M_slide_55 : decode M_M_slide.2.1 55 = .ok (.imul, 1) := by decide +kernel
theorem d_M_slide_56 : decode M_M_slide.2.1 56 = .ok (.iconst (4), 1) := by decide +kernel
theorem d_M_slide_57 : decode M_M_slide.2.1 57 = .ok (.iadd, 1) := by decide +kernel
theorem d_M_slide_58 : decode M_M_slide.2.1 58 = .ok (.if_icmp .ge (190), 3) := by decide +kernel
theorem d_M_slide_61 : decode M_M_slide.2.1 61 = .ok (.aload_n 0, 1) := by decide +kernel
theorem d_M_slide_62 : decode M_M_slide.2.1 62 = .ok (.iload 4, 2) := by decide +kernel
theorem d_M_slide_64 : decode M_M_slide.2.1 64 = .ok (.invokevirtual 79, 3) := by decide +kernel
theorem d_M_slide_67 : decode M_M_slide.2.1 67 = .ok (.istore 5, 2) := by decide +kernel
theorem d_M_slide_69 : decode M_M_slide.2.1 69 = .ok (.aload_n 0, 1) := by decide +kernel
theorem d_M_slide_70 : decode M_M_slide.2.1 70 = .ok (.iload 5, 2) := by decide +kernel
theorem d_M_slide_72 : decode M_M_slide.2.1 72 = .ok (.invokevirtual 79, 3) := by decide +kernel
theorem d_M_slide_75 : decode M_M_slide.2.1 75 = .ok (.istore 6, 2) := by decide +kernel
theorem d_M_slide_77 : decode M_M_slide.2.1 77 = .ok (.aload_n 0, 1) := by decide +kernel
theorem d_M_slide_78 : decode M_M_slide.2.1 78 = .ok (.iload 6, 2) := by decide +kernel
theorem d_M_slide_80 : decode M_M_slide.2.1 80 = .ok (.invokevirtual 79, 3) := by decide +kernel
theorem d_M_slide_83 : decode M_M_slide.2.1 83 = .ok (.iload 4, 2) := by decide +kernel
theorem d_M_slide_85 : decode M_M_slide.2.1 85 = .ok (.if_icmp .ne (39), 3) := by decide +kernel
theorem d_M_slide_88 : decode M_M_slide.2.1 88 = .ok (.iload 5, 2) := by decide +kernel
theorem d_M_slide_90 : decode M_M_slide.2.1 90 = .ok (.iconst (4), 1) := by decide +kernel
theorem d_M_slide_91 : decode M_M_slide.2.1 91 = .ok (.idiv, 1) := by decide +kernel
theorem d_M_slide_92 : decode M_M_slide.2.1 92 = .ok (.iload_n 2, 1) := by decide +kernel
theorem d_M_slide_93 : decode M_M_slide.2.1 93 = .ok (.if_icmp .ne (11), 3) := by decide +kernel
theorem d_M_slide_96 : decode M_M_slide.2.1 96 = .ok (.iload 6, 2) := by decide +kernel
theorem d_M_slide_98 : decode M_M_slide.2.1 98 = .ok (.iconst (4), 1) := by decide +kernel
theorem d_M_slide_99 : decode M_M_slide.2.1 99 = .ok (.idiv, 1) := by decide +kernel
theorem d_M_slide_100 : decode M_M_slide.2.1 100 = .ok (.iload_n 3, 1) := by decide +kernel
theorem d_M_slide_101 : decode M_M_slide.2.1 101 = .ok (.if_icmp .eq (19), 3) := by decide +kernel
theorem d_M_slide_104 : decode M_M_slide.2.1 104 = .ok (.iload 5, 2) := by decide +kernel
theorem d_M_slide_106 : decode M_M_slide.2.1 106 = .ok (.iconst (4), 1) := by decide +kernel
theorem d_M_slide_107 : decode M_M_slide.2.1 107 = .ok (.idiv, 1) := by decide +kernel
theorem d_M_slide_108 : decode M_M_slide.2.1 108 = .ok (.iload_n 3, 1) := by decide +kernel
theorem d_M_slide_109 : decode M_M_slide.2.1 109 = .ok (.if_icmp .ne (15), 3) := by decide +kernel
theorem d_M_slide_112 : decode M_M_slide.2.1 112 = .ok (.iload 6, 2) := by decide +kernel
theorem d_M_slide_114 : decode M_M_slide.2.1 114 = .ok (.iconst (4), 1) := by decide +kernel
theorem d_M_slide_115 : decode M_M_slide.2.1 115 = .ok (.idiv, 1) := by decide +kernel
theorem d_M_slide_116 : decode M_M_slide.2.1 116 = .ok (.iload_n 2, 1) := by decide +kernel
theorem d_M_slide_117 : decode M_M_slide.2.1 117 = .ok (.if_icmp .ne (7), 3) := by decide +kernel
theorem d_M_slide_120 : decode M_M_slide.2.1 120 = .ok (.iconst (1), 1) := by decide +kernel
theorem d_M_slide_121 : decode M_M_slide.2.1 121 = .ok (.goto (4), 3) := by decide +kernel
theorem d_M_slide_124 : decode M_M_slide.2.1 124 = .ok (.iconst (0), 1) := by decide +kernel
theorem d_M_slide_125 : decode M_M_slide.2.1 125 = .ok (.istore 7, 2) := by decide +kernel
theorem d_M_slide_127 : decode M_M_slide.2.1 127 = .ok (.iload 7, 2) := by decide +kernel
theorem d_M_slide_129 : decode M_M_slide.2.1 129 = .ok (.ifCond .eq (113), 3) := by decide +kernel
theorem d_M_slide_132 : decode M_M_slide.2.1 132 = .ok (.aload_n 0, 1) := by decide +kernel
theorem d_M_slide_133 : decode M_M_slide.2.1 133 = .ok (.iload 4, 2) := by decide +kernel
theorem d_M_slide_135 : decode M_M_slide.2.1 135 = .ok (.iconst (1), 1) := by decide +kernel
theorem d_M_slide_136 : decode M_M_slide.2.1 136 = .ok (.invokevirtual 180, 3) := by decide +kernel
theorem d_M_slide_139 : decode M_M_slide.2.1 139 = .ok (.ifCond .ne (23), 3) := by decide +kernel
theorem d_M_slide_142 : decode M_M_slide.2.1 142 = .ok (.aload_n 0, 1) := by decide +kernel
theorem d_M_slide_143 : decode M_M_slide.2.1 143 = .ok (.iload 5, 2) := by decide +kernel
theorem d_M_slide_145 : decode M_M_slide.2.1 145 = .ok (.iconst (1), 1) := by decide +kernel
theorem d_M_slide_146 : decode M_M_slide.2.1 146 = .ok (.invokevirtual 180, 3) := by decide +kernel
theorem d_M_slide_149 : decode M_M_slide.2.1 149 = .ok (.ifCond .ne (13), 3) := by decide +kernel
theorem d_M_slide_152 : decode M_M_slide.2.1 152 = .ok (.aload_n 0, 1) := by decide +kernel
theorem d_M_slide_153 : decode M_M_slide.2.1 153 = .ok (.iload 6, 2) := by decide +kernel
theorem d_M_slide_155 : decode M_M_slide.2.1 155 = .ok (.iconst (1), 1) := by decide +kernel
theorem d_M_slide_156 : decode M_M_slide.2.1 156 = .ok (.invokevirtual 180, 3) := by decide +kernel
theorem d_M_slide_159 : decode M_M_slide.2.1 159 = .ok (.ifCond .eq (83), 3) := by decide +kernel
theorem d_M_slide_162 : decode M_M_slide.2.1 162 = .ok (.iconst (0), 1) := by decide +kernel
theorem d_M_slide_163 : decode M_M_slide.2.1 163 = .ok (.istore 8, 2) := by decide +kernel
theorem d_M_slide_165 : decode M_M_slide.2.1 165 = .ok (.iload 8, 2) := by decide +kernel
theorem d_M_slide_167 : decode M_M_slide.2.1 167 = .ok (.bipush (32), 2) := by decide +kernel
theorem d_M_slide_169 : decode M_M_slide.2.1 169 = .ok (.if_icmp .ge (23), 3) := by decide +kernel
theorem d_M_slide_172 : decode M_M_slide.2.1 172 = .ok (.aload_n 0, 1) := by decide +kernel
theorem d_M_slide_173 : decode M_M_slide.2.1 173 = .ok (.getfield 49, 3) := by decide +kernel
theorem d_M_slide_176 : decode M_M_slide.2.1 176 = .ok (.iload 8, 2) := by decide +kernel
theorem d_M_slide_178 : decode M_M_slide.2.1 178 = .ok (.aload_n 0, 1) := by decide +kernel
theorem d_M_slide_179 : decode M_M_slide.2.1 179 = .ok (.getfield 7, 3) := by decide +kernel
theorem d_M_slide_182 : decode M_M_slide.2.1 182 = .ok (.iload 8, 2) := by decide +kernel
theorem d_M_slide_184 : decode M_M_slide.2.1 184 = .ok (.iaload, 1) := by decide +kernel
theorem d_M_slide_185 : decode M_M_slide.2.1 185 = .ok (.iastore, 1) := by decide +kernel
theorem d_M_slide_186 : decode M_M_slide.2.1 186 = .ok (.iinc 8 (1), 3) := by decide +kernel
theorem d_M_slide_189 : decode M_M_slide.2.1 189 = .ok (.goto (-24), 3) := by decide +kernel
theorem d_M_slide_192 : decode M_M_slide.2.1 192 = .ok (.aload_n 0, 1) := by decide +kernel
theorem d_M_slide_193 : decode M_M_slide.2.1 193 = .ok (.iload 4, 2) := by decide +kernel
theorem d_M_slide_195 : decode M_M_slide.2.1 195 = .ok (.invokevirtual 190, 3) := by decide +kernel
theorem d_M_slide_198 : decode M_M_slide.2.1 198 = .ok (.aload_n 0, 1) := by decide +kernel
theorem d_M_slide_199 : decode M_M_slide.2.1 199 = .ok (.iload 5, 2) := by decide +kernel
theorem d_M_slide_201 : decode M_M_slide.2.1 201 = .ok (.invokevirtual 190, 3) := by decide +kernel
theorem d_M_slide_204 : decode M_M_slide.2.1 204 = .ok (.aload_n 0, 1) := by decide +kernel
theorem d_M_slide_205 : decode M_M_slide.2.1 205 = .ok (.iload 6, 2) := by decide +kernel
theorem d_M_slide_207 : decode M_M_slide.2.1 207 = .ok (.invokevirtual 190, 3) := by decide +kernel
theorem d_M_slide_210 : decode M_M_slide.2.1 210 = .ok (.iconst (0), 1) := by decide +kernel
theorem d_M_slide_211 : decode M_M_slide.2.1 211 = .ok (.istore 8, 2) := by decide +kernel
theorem d_M_slide_213 : decode M_M_slide.2.1 213 = .ok (.iload 8, 2) := by decide +kernel
theorem d_M_slide_215 : decode M_M_slide.2.1 215 = .ok (.bipush (32), 2) := by decide +kernel
theorem d_M_slide_217 : decode M_M_slide.2.1 217 = .ok (.if_icmp .ge (23), 3) := by decide +kernel
theorem d_M_slide_220 : decode M_M_slide.2.1 220 = .ok (.aload_n 0, 1) := by decide +kernel
theorem d_M_slide_221 : decode M_M_slide.2.1 221 = .ok (.getfield 7, 3) := by decide +kernel
theorem d_M_slide_224 : decode M_M_slide.2.1 224 = .ok (.iload 8, 2) := by decide +kernel
theorem d_M_slide_226 : decode M_M_slide.2.1 226 = .ok (.aload_n 0, 1) := by decide +kernel
theorem d_M_slide_227 : decode M_M_slide.2.1 227 = .ok (.getfield 49, 3) := by decide +kernel
theorem d_M_slide_230 : decode M_M_slide.2.1 230 = .ok (.iload 8, 2) := by decide +kernel
theorem d_M_slide_232 : decode M_M_slide.2.1 232 = .ok (.iaload, 1) := by decide +kernel
theorem d_M_slide_233 : decode M_M_slide.2.1 233 = .ok (.iastore, 1) := by decide +kernel
theorem d_M_slide_234 : decode M_M_slide.2.1 234 = .ok (.iinc 8 (1), 3) := by decide +kernel
theorem d_M_slide_237 : decode M_M_slide.2.1 237 = .ok (.goto (-24), 3) := by decide +kernel
theorem d_M_slide_240 : decode M_M_slide.2.1 240 = .ok (.iconst (1), 1) := by decide +kernel
theorem d_M_slide_241 : decode M_M_slide.2.1 241 = .ok (.ireturn, 1) := by decide +kernel
theorem d_M_slide_242 : decode M_M_slide.2.1 242 = .ok (.iinc 4 (1), 3) := by decide +kernel
theorem d_M_slide_245 : decode M_M_slide.2.1 245 = .ok (.goto (-194), 3) := by decide +kernel
theorem d_M_slide_248 : decode M_M_slide.2.1 248 = .ok (.iconst (0), 1) := by decide +kernel
theorem d_M_slide_249 : decode M_M_slide.2.1 249 = .ok (.ireturn, 1) := by decide +kernel
end
section
theorem d_L_law_0 : decode M_L_law.2.1 0 = .ok (.new 7, 3) := by decide +kernel
theorem d_L_law_3 : decode M_L_law.2.1 3 = .ok (.dup, 1) := by decide +kernel
theorem d_L_law_4 : decode M_L_law.2.1 4 = .ok (.invokespecial 9, 3) := by decide +kernel
theorem d_L_law_7 : decode M_L_law.2.1 7 = .ok (.astore_n 1, 1) := by decide +kernel
theorem d_L_law_8 : decode M_L_law.2.1 8 = .ok (.new 10, 3) := by decide +kernel
theorem d_L_law_11 : decode M_L_law.2.1 11 = .ok (.dup, 1) := by decide +kernel
theorem d_L_law_12 : decode M_L_law.2.1 12 = .ok (.invokespecial 12, 3) := by decide +kernel
theorem d_L_law_15 : decode M_L_law.2.1 15 = .ok (.astore_n 2, 1) := by decide +kernel
theorem d_L_law_16 : decode M_L_law.2.1 16 = .ok (.iconst (0), 1) := by decide +kernel
theorem d_L_law_17 : decode M_L_law.2.1 17 = .ok (.istore_n 3, 1) := by decide +kernel
theorem d_L_law_18 : decode M_L_law.2.1 18 = .ok (.iload_n 3, 1) := by decide +kernel
theorem d_L_law_19 : decode M_L_law.2.1 19 = .ok (.aload_n 0, 1) := by decide +kernel
theorem d_L_law_20 : decode M_L_law.2.1 20 = .ok (.arraylength, 1) := by decide +kernel
theorem d_L_law_21 : decode M_L_law.2.1 21 = .ok (.bipush (6), 2) := by decide +kernel
theorem d_L_law_23 : decode M_L_law.2.1 23 = .ok (.isub, 1) := by decide +kernel
theorem d_L_law_24 : decode M_L_law.2.1 24 = .ok (.if_icmp .gt (568), 3) := by decide +kernel
theorem d_L_law_27 : decode M_L_law.2.1 27 = .ok (.aload_n 0, 1) := by decide +kernel
theorem d_L_law_28 : decode M_L_law.2.1 28 = .ok (.iload_n 3, 1) := by decide +kernel
theorem d_L_law_29 : decode M_L_law.2.1 29 = .ok (.iaload, 1) := by decide +kernel
theorem d_L_law_30 : decode M_L_law.2.1 30 = .ok (.bipush (15), 2) := by decide +kernel
theorem d_L_law_32 : decode M_L_law.2.1 32 = .ok (.iand, 1) := by decide +kernel
theorem d_L_law_33 : decode M_L_law.2.1 33 = .ok (.tableswitch (553) (0) (13) #[71, 150, 163, 186, 209, 232, 255, 288, 312, 336, 369, 392, 477, 510], 71) := by decide +kernel
theorem d_L_law_104 : decode M_L_law.2.1 104 = .ok (.aload_n 1, 1) := by decide +kernel
theorem d_L_law_105 : decode M_L_law.2.1 105 = .ok (.aload_n 0, 1) := by decide +kernel
theorem d_L_law_106 : decode M_L_law.2.1 106 = .ok (.iload_n 3, 1) := by decide +kernel
theorem d_L_law_107 : decode M_L_law.2.1 107 = .ok (.iconst (1), 1) := by decide +kernel
theorem d_L_law_108 : decode M_L_law.2.1 108 = .ok (.iadd, 1) := by decide +kernel
theorem d_L_law_109 : decode M_L_law.2.1 109 = .ok (.iaload, 1) := by decide +kernel
theorem d_L_law_110 : decode M_L_law.2.1 110 = .ok (.aload_n 0, 1) := by decide +kernel
theorem d_L_law_111 : decode M_L_law.2.1 111 = .ok (.iload_n 3, 1) := by decide +kernel
theorem d_L_law_112 : decode M_L_law.2.1 112 = .ok (.iconst (2), 1) := by decide +kernel
theorem d_L_law_113 : decode M_L_law.2.1 113 = .ok (.iadd, 1) := by decide +kernel
theorem d_L_law_114 : decode M_L_law.2.1 114 = .ok (.iaload, 1) := by decide +kernel
theorem d_L_law_115 : decode M_L_law.2.1 115 = .ok (.aload_n 0, 1) := by decide +kernel
theorem d_L_law_116 : decode M_L_law.2.1 116 = .ok (.iload_n 3, 1) := by decide +kernel
theorem d_L_law_117 : decode M_L_law.2.1 117 = .ok (.iconst (3), 1) := by decide +kernel
theorem d_L_law_118 : decode M_L_law.2.1 118 = .ok (.iadd, 1) := by decide +kernel
theorem d_L_law_119 : decode M_L_law.2.1 119 = .ok (.iaload, 1) := by decide +kernel
theorem d_L_law_120 : decode M_L_law.2.1 120 = .ok (.aload_n 0, 1) := by decide +kernel
theorem d_L_law_121 : decode M_L_law.2.1 121 = .ok (.iload_n 3, 1) := by decide +kernel
theorem d_L_law_122 : decode M_L_law.2.1 122 = .ok (.iconst (4), 1) := by decide +kernel
theorem d_L_law_123 : decode M_L_law.2.1 123 = .ok (.iadd, 1) := by decide +kernel
theorem d_L_law_124 : decode M_L_law.2.1 124 = .ok (.iaload, 1) := by decide +kernel
theorem d_L_law_125 : decode M_L_law.2.1 125 = .ok (.aload_n 0, 1) := by decide +kernel
theorem d_L_law_126 : decode M_L_law.2.1 126 = .ok (.iload_n 3, 1) := by decide +kernel
theorem d_L_law_127 : decode M_L_law.2.1 127 = .ok (.iconst (5), 1) := by decide +kernel
theorem d_L_law_128 : decode M_L_law.2.1 128 = .ok (.iadd, 1) := by decide +kernel
theorem d_L_law_129 : decode M_L_law.2.1 129 = .ok (.iaload, 1) := by decide +kernel
theorem d_L_law_130 : decode M_L_law.2.1 130 = .ok (.ifCond .eq (7), 3) := by decide +kernel
theorem d_L_law_133 : decode M_L_law.2.1 133 = .ok (.iconst (1), 1) := by decide +kernel
theorem d_L_law_134 : decode M_L_law.2.1 134 = .ok (.goto (4), 3) := by decide +kernel
theorem d_L_law_137 : decode M_L_law.2.1 137 = .ok (.iconst (0), 1) := by decide +kernel
theorem d_L_law_138 : decode M_L_law.2.1 138 = .ok (.invokevirtual 13, 3) := by decide +kernel
theorem d_L_law_141 : decode M_L_law.2.1 141 = .ok (.aload_n 2, 1) := by decide +kernel
theorem d_L_law_142 : decode M_L_law.2.1 142 = .ok (.aload_n 0, 1) := by decide +kernel
theorem d_L_law_143 : decode M_L_law.2.1 143 = .ok (.iload_n 3, 1) := by decide +kernel
theorem d_L_law_144 : decode M_L_law.2.1 144 = .ok (.iconst (1), 1) := by decide +kernel
theorem d_L_law_145 : decode M_L_law.2.1 145 = .ok (.iadd, 1) := by decide +kernel
theorem d_L_law_146 : decode M_L_law.2.1 146 = .ok (.iaload, 1) := by decide +kernel
theorem d_L_law_147 : decode M_L_law.2.1 147 = .ok (.aload_n 0, 1) := by decide +kernel
theorem d_L_law_148 : decode M_L_law.2.1 148 = .ok (.iload_n 3, 1) := by decide +kernel
theorem d_L_law_149 : decode M_L_law.2.1 149 = .ok (.iconst (2), 1) := by decide +kernel
theorem d_L_law_150 : decode M_L_law.2.1 150 = .ok (.iadd, 1) := by decide +kernel
theorem d_L_law_151 : decode M_L_law.2.1 151 = .ok (.iaload, 1) := by decide +kernel
theorem d_L_law_152 : decode M_L_law.2.1 152 = .ok (.aload_n 0, 1) := by decide +kernel
theorem d_L_law_153 : decode M_L_law.2.1 153 = .ok (.iload_n 3, 1) := by decide +kernel
theorem d_L_law_154 : decode M_L_law.2.1 154 = .ok (.iconst (3), 1) := by decide +kernel
theorem d_L_law_155 : decode M_L_law.2.1 155 = .ok (.iadd, 1) := by decide +kernel
theorem d_L_law_156 : decode M_L_law.2.1 156 = .ok (.iaload, 1) := by decide +kernel
theorem d_L_law_157 : decode M_L_law.2.1 157 = .ok (.aload_n 0, 1) := by decide +kernel
theorem d_L_law_158 : decode M_L_law.2.1 158 = .ok (.iload_n 3, 1) := by decide +kernel
theorem d_L_law_159 : decode M_L_law.2.1 159 = .ok (.iconst (4), 1) := by decide +kernel
theorem d_L_law_160 : decode M_L_law.2.1 160 = .ok (.iadd, 1) := by decide +kernel
theorem d_L_law_161 : decode M_L_law.2.1 161 = .ok (.iaload, 1) := by decide +kernel
theorem d_L_law_162 : decode M_L_law.2.1 162 = .ok (.aload_n 0, 1) := by decide +kernel
theorem d_L_law_163 : decode M_L_law.2.1 163 = .ok (.iload_n 3, 1) := by decide +kernel
theorem d_L_law_164 : decode M_L_law.2.1 164 = .ok (.iconst (5), 1) := by decide +kernel
theorem d_L_law_165 : decode M_L_law.2.1 165 = .ok (.iadd, 1) := by decide +kernel
theorem d_L_law_166 : decode M_L_law.2.1 166 = .ok (.iaload, 1) := by decide +kernel
theorem d_L_law_167 : decode M_L_law.2.1 167 = .ok (.ifCond .eq (7), 3) := by decide +kernel
theorem d_L_law_170 : decode M_L_law.2.1 170 = .ok (.iconst (1), 1) := by decide +kernel
theorem d_L_law_171 : decode M_L_law.2.1 171 = .ok (.goto (4), 3) := by decide +kernel
theorem d_L_law_174 : decode M_L_law.2.1 174 = .ok (.iconst (0), 1) := by decide +kernel
theorem d_L_law_175 : decode M_L_law.2.1 175 = .ok (.invokevirtual 17, 3) := by decide +kernel
theorem d_L_law_178 : decode M_L_law.2.1 178 = .ok (.if_icmp .eq (408), 3) := by decide +kernel
theorem d_L_law_181 : decode M_L_law.2.1 181 = .ok (.iconst (0), 1) := by decide +kernel
theorem d_L_law_182 : decode M_L_law.2.1 182 = .ok (.ireturn, 1) := by decide +kernel
theorem d_L_law_183 : decode M_L_law.2.1 183 = .ok (.aload_n 1, 1) := by decide +kernel
theorem d_L_law_184 : decode M_L_law.2.1 184 = .ok (.invokevirtual 18, 3) := by decide +kernel
theorem d_L_law_187 : decode M_L_law.2.1 187 = .ok (.aload_n 2, 1) := by decide +kernel
theorem d_L_law_188 : decode M_L_law.2.1 188 = .ok (.invokevirtual 22, 3) := by decide +kernel
theorem d_L_law_191 : decode M_L_law.2.1 191 = .ok (.if_icmp .eq (395), 3) := by decide +kernel
theorem d_L_law_194 : decode M_L_law.2.1 194 = .ok (.iconst (0), 1) := by decide +kernel
theorem d_L_law_195 : decode M_L_law.2.1 195 = .ok (.ireturn, 1) := by decide +kernel
theorem d_L_law_196 : decode M_L_law.2.1 196 = .ok (.aload_n 1, 1) := by decide +kernel
theorem d_L_law_197 : decode M_L_law.2.1 197 = .ok (.aload_n 0, 1) := by decide +kernel
theorem d_L_law_198 : decode M_L_law.2.1 198 = .ok (.iload_n 3, 1) := by decide +kernel
theorem d_L_law_199 : decode M_L_law.2.1 199 = .ok (.iconst (1), 1) := by decide +kernel
theorem d_L_law_200 : decode M_L_law.2.1 200 = .ok (.iadd, 1) := by decide +kernel
theorem d_L_law_201 : decode M_L_law.2.1 201 = .ok (.iaload, 1) := by decide +kernel
theorem d_L_law_202 : decode M_L_law.2.1 202 = .ok (.invokevirtual 23, 3) := by decide +kernel
theorem d_L_law_205 : decode M_L_law.2.1 205 = .ok (.aload_n 2, 1) := by decide +kernel
theorem d_L_law_206 : decode M_L_law.2.1 206 = .ok (.aload_n 0, 1) := by decide +kernel
theorem d_L_law_207 : decode M_L_law.2.1 207 = .ok (.iload_n 3, 1) := by decide +kernel
theorem d_L_law_208 : decode M_L_law.2.1 208 = .ok (.iconst (1), 1) := by decide +kernel
theorem d_L_law_209 : decode M_L_law.2.1 209 = .ok (.iadd, 1) := by decide +kernel
theorem d_L_law_210 : decode M_L_law.2.1 210 = .ok (.iaload, 1) := by decide +kernel
theorem d_L_law_211 : decode M_L_law.2.1 211 = .ok (.invokevirtual 27, 3) := by decide +kernel
theorem d_L_law_214 : decode M_L_law.2.1 214 = .ok (.if_icmp .eq (372), 3) := by decide +kernel
theorem d_L_law_217 : decode M_L_law.2.1 217 = .ok (.iconst (0), 1) := by decide +kernel
theorem d_L_law_218 : decode M_L_law.2.1 218 = .ok (.ireturn, 1) := by decide +kernel
theorem d_L_law_219 : decode M_L_law.2.1 219 = .ok (.aload_n 1, 1) := by decide +kernel
theorem d_L_law_220 : decode M_L_law.2.1 220 = .ok (.aload_n 0, 1) := by decide +kernel
theorem d_L_law_221 : decode M_L_law.2.1 221 = .ok (.iload_n 3, 1) := by decide +kernel
theorem d_L_law_222 : decode M_L_law.2.1 222 = .ok (.iconst (1), 1) := by decide +kernel
theorem d_L_law_223 : decode M_L_law.2.1 223 = .ok (.iadd, 1) := by decide +kernel
theorem d_L_law_224 : decode M_L_law.2.1 224 = .ok (.iaload, 1) := by decide +kernel
theorem d_L_law_225 : decode M_L_law.2.1 225 = .ok (.invokevirtual 28, 3) := by decide +kernel
theorem d_L_law_228 : decode M_L_law.2.1 228 = .ok (.aload_n 2, 1) := by decide +kernel
theorem d_L_law_229 : decode M_L_law.2.1 229 = .ok (.aload_n 0, 1) := by decide +kernel
theorem d_L_law_230 : decode M_L_law.2.1 230 = .ok (.iload_n 3, 1) := by decide +kernel
theorem d_L_law_231 : decode M_L_law.2.1 231 = .ok (.iconst (1), 1) := by decide +kernel
theorem d_L_law_232 : decode M_L_law.2.1 232 = .ok (.iadd, 1) := by decide +kernel
theorem d_L_law_233 : decode M_L_law.2.1 233 = .ok (.iaload, 1) := by decide +kernel
theorem d_L_law_234 : decode M_L_law.2.1 234 = .ok (.invokevirtual 32, 3) := by decide +kernel
theorem d_L_law_237 : decode M_L_law.2.1 237 = .ok (.if_icmp .eq (349), 3) := by decide +kernel
theorem d_L_law_240 : decode M_L_law.2.1 240 = .ok (.iconst (0), 1) := by decide +kernel
theorem d_L_law_241 : decode M_L_law.2.1 241 = .ok (.ireturn, 1) := by decide +kernel
theorem d_L_law_242 : decode M_L_law.2.1 242 = .ok (.aload_n 1, 1) := by decide +kernel
theorem d_L_law_243 : decode M_L_law.2.1 243 = .ok (.aload_n 0, 1) := by decide +kernel
theorem d_L_law_244 : decode M_L_law.2.1 244 = .ok (.iload_n 3, 1) := by decide +kernel
theorem d_L_law_245 : decode M_L_law.2.1 245 = .ok (.iconst (1), 1) := by decide +kernel
theorem d_L_law_246 : decode M_L_law.2.1 246 = .ok (.iadd, 1) := by decide +kernel
theorem d_L_law_247 : decode M_L_law.2.1 247 = .ok (.iaload, 1) := by decide +kernel
theorem d_L_law_248 : decode M_L_law.2.1 248 = .ok (.invokevirtual 33, 3) := by decide +kernel
theorem d_L_law_251 : decode M_L_law.2.1 251 = .ok (.aload_n 2, 1) := by decide +kernel
theorem d_L_law_252 : decode M_L_law.2.1 252 = .ok (.aload_n 0, 1) := by decide +kernel
theorem d_L_law_253 : decode M_L_law.2.1 253 = .ok (.iload_n 3, 1) := by decide +kernel
theorem d_L_law_254 : decode M_L_law.2.1 254 = .ok (.iconst (1), 1) := by decide +kernel
theorem d_L_law_255 : decode M_L_law.2.1 255 = .ok (.iadd, 1) := by decide +kernel
theorem d_L_law_256 : decode M_L_law.2.1 256 = .ok (.iaload, 1) := by decide +kernel
theorem d_L_law_257 : decode M_L_law.2.1 257 = .ok (.invokevirtual 36, 3) := by decide +kernel
theorem d_L_law_260 : decode M_L_law.2.1 260 = .ok (.if_icmp .eq (326), 3) := by decide +kernel
theorem d_L_law_263 : decode M_L_law.2.1 263 = .ok (.iconst (0), 1) := by decide +kernel
theorem d_L_law_264 : decode M_L_law.2.1 264 = .ok (.ireturn, 1) := by decide +kernel
theorem d_L_law_265 : decode M_L_law.2.1 265 = .ok (.aload_n 1, 1) := by decide +kernel
theorem d_L_law_266 : decode M_L_law.2.1 266 = .ok (.aload_n 0, 1) := by decide +kernel
theorem d_L_law_267 : decode M_L_law.2.1 267 = .ok (.iload_n 3, 1) := by decide +kernel
theorem d_L_law_268 : decode M_L_law.2.1 268 = .ok (.iconst (1), 1) := by decide +kernel
theorem d_L_law_269 : decode M_L_law.2.1 269 = .ok (.iadd, 1) := by decide +kernel
theorem d_L_law_270 : decode M_L_law.2.1 270 = .ok (.iaload, 1) := by decide +kernel
theorem d_L_law_271 : decode M_L_law.2.1 271 = .ok (.invokevirtual 37, 3) := by decide +kernel
theorem d_L_law_274 : decode M_L_law.2.1 274 = .ok (.aload_n 2, 1) := by decide +kernel
theorem d_L_law_275 : decode M_L_law.2.1 275 = .ok (.aload_n 0, 1) := by decide +kernel
theorem d_L_law_276 : decode M_L_law.2.1 276 = .ok (.iload_n 3, 1) := by decide +kernel
theorem d_L_law_277 : decode M_L_law.2.1 277 = .ok (.iconst (1), 1) := by decide +kernel
theorem d_L_law_278 : decode M_L_law.2.1 278 = .ok (.iadd, 1) := by decide +kernel
theorem d_L_law_279 : decode M_L_law.2.1 279 = .ok (.iaload, 1) := by decide +kernel
theorem d_L_law_280 : decode M_L_law.2.1 280 = .ok (.invokevirtual 40, 3) := by decide +kernel
theorem d_L_law_283 : decode M_L_law.2.1 283 = .ok (.if_icmp .eq (303), 3) := by decide +kernel
theorem d_L_law_286 : decode M_L_law.2.1 286 = .ok (.iconst (0), 1) := by decide +kernel
theorem d_L_law_287 : decode M_L_law.2.1 287 = .ok (.ireturn, 1) := by decide +kernel
theorem d_L_law_288 : decode M_L_law.2.1 288 = .ok (.aload_n 1, 1) := by decide +kernel
theorem d_L_law_289 : decode M_L_law.2.1 289 = .ok (.aload_n 0, 1) := by decide +kernel
theorem d_L_law_290 : decode M_L_law.2.1 290 = .ok (.iload_n 3, 1) := by decide +kernel
theorem d_L_law_291 : decode M_L_law.2.1 291 = .ok (.iconst (1), 1) := by decide +kernel
theorem d_L_law_292 : decode M_L_law.2.1 292 = .ok (.iadd, 1) := by decide +kernel
theorem d_L_law_293 : decode M_L_law.2.1 293 = .ok (.iaload, 1) := by decide +kernel
theorem d_L_law_294 : decode M_L_law.2.1 294 = .ok (.aload_n 0, 1) := by decide +kernel
theorem d_L_law_295 : decode M_L_law.2.1 295 = .ok (.iload_n 3, 1) := by decide +kernel
theorem d_L_law_296 : decode M_L_law.2.1 296 = .ok (.iconst (2), 1) := by decide +kernel
theorem d_L_law_297 : decode M_L_law.2.1 297 = .ok (.iadd, 1) := by decide +kernel
theorem d_L_law_298 : decode M_L_law.2.1 298 = .ok (.iaload, 1) := by decide +kernel
theorem d_L_law_299 : decode M_L_law.2.1 299 = .ok (.invokevirtual 41, 3) := by decide +kernel
theorem d_L_law_302 : decode M_L_law.2.1 302 = .ok (.aload_n 2, 1) := by decide +kernel
theorem d_L_law_303 : decode M_L_law.2.1 303 = .ok (.aload_n 0, 1) := by decide +kernel
theorem d_L_law_304 : decode M_L_law.2.1 304 = .ok (.iload_n 3, 1) := by decide +kernel
theorem d_L_law_305 : decode M_L_law.2.1 305 = .ok (.iconst (1), 1) := by decide +kernel
theorem d_L_law_306 : decode M_L_law.2.1 306 = .ok (.iadd, 1) := by decide +kernel
theorem d_L_law_307 : decode M_L_law.2.1 307 = .ok (.iaload, 1) := by decide +kernel
theorem d_L_law_308 : decode M_L_law.2.1 308 = .ok (.aload_n 0, 1) := by decide +kernel
theorem d_L_law_309 : decode M_L_law.2.1 309 = .ok (.iload_n 3, 1) := by decide +kernel
theorem d_L_law_310 : decode M_L_law.2.1 310 = .ok (.iconst (2), 1) := by decide +kernel
theorem d_L_law_311 : decode M_L_law.2.1 311 = .ok (.iadd, 1) := by decide +kernel
theorem d_L_law_312 : decode M_L_law.2.1 312 = .ok (.iaload, 1) := by decide +kernel
theorem d_L_law_313 : decode M_L_law.2.1 313 = .ok (.invokevirtual 45, 3) := by decide +kernel
theorem d_L_law_316 : decode M_L_law.2.1 316 = .ok (.if_icmp .eq (270), 3) := by decide +kernel
theorem d_L_law_319 : decode M_L_law.2.1 319 = .ok (.iconst (0), 1) := by decide +kernel
theorem d_L_law_320 : decode M_L_law.2.1 320 = .ok (.ireturn, 1) := by decide +kernel
theorem d_L_law_321 : decode M_L_law.2.1 321 = .ok (.aload_n 1, 1) := by decide +kernel
theorem d_L_law_322 : decode M_L_law.2.1 322 = .ok (.aload_n 0, 1) := by decide +kernel
theorem d_L_law_323 : decode M_L_law.2.1 323 = .ok (.iload_n 3, 1) := by decide +kernel
theorem d_L_law_324 : decode M_L_law.2.1 324 = .ok (.iconst (1), 1) := by decide +kernel
theorem d_L_law_325 : decode M_L_law.2.1 325 = .ok (.iadd, 1) := by decide +kernel
theorem d_L_law_326 : decode M_L_law.2.1 326 = .ok (.iaload, 1) := by decide +kernel
theorem d_L_law_327 : decode M_L_law.2.1 327 = .ok (.invokevirtual 46, 3) := by decide +kernel
theorem d_L_law_330 : decode M_L_law.2.1 330 = .ok (.aload_n 2, 1) := by decide +kernel
theorem d_L_law_331 : decode M_L_law.2.1 331 = .ok (.aload_n 0, 1) := by decide +kernel
theorem d_L_law_332 : decode M_L_law.2.1 332 = .ok (.iload_n 3, 1) := by decide +kernel
theorem d_L_law_333 : decode M_L_law.2.1 333 = .ok (.iconst (1), 1) := by decide +kernel
theorem d_L_law_334 : decode M_L_law.2.1 334 = .ok (.iadd, 1) := by decide +kernel
theorem d_L_law_335 : decode M_L_law.2.1 335 = .ok (.iaload, 1) := by decide +kernel
theorem d_L_law_336 : decode M_L_law.2.1 336 = .ok (.invokevirtual 50, 3) := by decide +kernel
theorem d_L_law_339 : decode M_L_law.2.1 339 = .ok (.lcmp, 1) := by decide +kernel
theorem d_L_law_340 : decode M_L_law.2.1 340 = .ok (.ifCond .eq (246), 3) := by decide +kernel
theorem d_L_law_343 : decode M_L_law.2.1 343 = .ok (.iconst (0), 1) := by decide +kernel
theorem d_L_law_344 : decode M_L_law.2.1 344 = .ok (.ireturn, 1) := by decide +kernel
theorem d_L_law_345 : decode M_L_law.2.1 345 = .ok (.aload_n 1, 1) := by decide +kernel
theorem d_L_law_346 : decode M_L_law.2.1 346 = .ok (.aload_n 0, 1) := by decide +kernel
theorem d_L_law_347 : decode M_L_law.2.1 347 = .ok (.iload_n 3, 1) := by decide +kernel
theorem d_L_law_348 : decode M_L_law.2.1 348 = .ok (.iconst (1), 1) := by decide +kernel
theorem d_L_law_349 : decode M_L_law.2.1 349 = .ok (.iadd, 1) := by decide +kernel
theorem d_L_law_350 : decode M_L_law.2.1 350 = .ok (.iaload, 1) := by decide +kernel
theorem d_L_law_351 : decode M_L_law.2.1 351 = .ok (.invokevirtual 51, 3) := by decide +kernel
theorem d_L_law_354 : decode M_L_law.2.1 354 = .ok (.aload_n 2, 1) := by decide +kernel
theorem d_L_law_355 : decode M_L_law.2.1 355 = .ok (.aload_n 0, 1) := by decide +kernel
theorem d_L_law_356 : decode M_L_law.2.1 356 = .ok (.iload_n 3, 1) := by decide +kernel
theorem d_L_law_357 : decode M_L_law.2.1 357 = .ok (.iconst (1), 1) := by decide +kernel
theorem d_L_law_358 : decode M_L_law.2.1 358 = .ok (.iadd, 1) := by decide +kernel
theorem d_L_law_359 : decode M_L_law.2.1 359 = .ok (.iaload, 1) := by decide +kernel
theorem d_L_law_360 : decode M_L_law.2.1 360 = .ok (.invokevirtual 54, 3) := by decide +kernel
theorem d_L_law_363 : decode M_L_law.2.1 363 = .ok (.lcmp, 1) := by decide +kernel
theorem d_L_law_364 : decode M_L_law.2.1 364 = .ok (.ifCond .eq (222), 3) := by decide +kernel
theorem d_L_law_367 : decode M_L_law.2.1 367 = .ok (.iconst (0), 1) := by decide +kernel
theorem d_L_law_368 : decode M_L_law.2.1 368 = .ok (.ireturn, 1) := by decide +kernel
theorem d_L_law_369 : decode M_L_law.2.1 369 = .ok (.aload_n 1, 1) := by decide +kernel
theorem d_L_law_370 : decode M_L_law.2.1 370 = .ok (.aload_n 0, 1) := by decide +kernel
theorem d_L_law_371 : decode M_L_law.2.1 371 = .ok (.iload_n 3, 1) := by decide +kernel
theorem d_L_law_372 : decode M_L_law.2.1 372 = .ok (.iconst (1), 1) := by decide +kernel
theorem d_L_law_373 : decode M_L_law.2.1 373 = .ok (.iadd, 1) := by decide +kernel
theorem d_L_law_374 : decode M_L_law.2.1 374 = .ok (.iaload, 1) := by decide +kernel
theorem d_L_law_375 : decode M_L_law.2.1 375 = .ok (.aload_n 0, 1) := by decide +kernel
theorem d_L_law_376 : decode M_L_law.2.1 376 = .ok (.iload_n 3, 1) := by decide +kernel
theorem d_L_law_377 : decode M_L_law.2.1 377 = .ok (.iconst (2), 1) := by decide +kernel
theorem d_L_law_378 : decode M_L_law.2.1 378 = .ok (.iadd, 1) := by decide +kernel
theorem d_L_law_379 : decode M_L_law.2.1 379 = .ok (.iaload, 1) := by decide +kernel
theorem d_L_law_380 : decode M_L_law.2.1 380 = .ok (.invokevirtual 55, 3) := by decide +kernel
theorem d_L_law_383 : decode M_L_law.2.1 383 = .ok (.aload_n 2, 1) := by decide +kernel
theorem d_L_law_384 : decode M_L_law.2.1 384 = .ok (.aload_n 0, 1) := by decide +kernel
theorem d_L_law_385 : decode M_L_law.2.1 385 = .ok (.iload_n 3, 1) := by decide +kernel
theorem d_L_law_386 : decode M_L_law.2.1 386 = .ok (.iconst (1), 1) := by decide +kernel
theorem d_L_law_387 : decode M_L_law.2.1 387 = .ok (.iadd, 1) := by decide +kernel
theorem d_L_law_388 : decode M_L_law.2.1 388 = .ok (.iaload, 1) := by decide +kernel
theorem d_L_law_389 : decode M_L_law.2.1 389 = .ok (.aload_n 0, 1) := by decide +kernel
theorem d_L_law_390 : decode M_L_law.2.1 390 = .ok (.iload_n 3, 1) := by decide +kernel
theorem d_L_law_391 : decode M_L_law.2.1 391 = .ok (.iconst (2), 1) := by decide +kernel
theorem d_L_law_392 : decode M_L_law.2.1 392 = .ok (.iadd, 1) := by decide +kernel
theorem d_L_law_393 : decode M_L_law.2.1 393 = .ok (.iaload, 1) := by decide +kernel
theorem d_L_law_394 : decode M_L_law.2.1 394 = .ok (.invokevirtual 59, 3) := by decide +kernel
theorem d_L_law_397 : decode M_L_law.2.1 397 = .ok (.if_icmp .eq (189), 3) := by decide +kernel
theorem d_L_law_400 : decode M_L_law.2.1 400 = .ok (.iconst (0), 1) := by decide +kernel
theorem d_L_law_401 : decode M_L_law.2.1 401 = .ok (.ireturn, 1) := by decide +kernel
theorem d_L_law_402 : decode M_L_law.2.1 402 = .ok (.aload_n 1, 1) := by decide +kernel
theorem d_L_law_403 : decode M_L_law.2.1 403 = .ok (.aload_n 0, 1) := by decide +kernel
theorem d_L_law_404 : decode M_L_law.2.1 404 = .ok (.iload_n 3, 1) := by decide +kernel
theorem d_L_law_405 : decode M_L_law.2.1 405 = .ok (.iconst (1), 1) := by decide +kernel
theorem d_L_law_406 : decode M_L_law.2.1 406 = .ok (.iadd, 1) := by decide +kernel
theorem d_L_law_407 : decode M_L_law.2.1 407 = .ok (.iaload, 1) := by decide +kernel
theorem d_L_law_408 : decode M_L_law.2.1 408 = .ok (.invokevirtual 60, 3) := by decide +kernel
theorem d_L_law_411 : decode M_L_law.2.1 411 = .ok (.aload_n 2, 1) := by decide +kernel
theorem d_L_law_412 : decode M_L_law.2.1 412 = .ok (.aload_n 0, 1) := by decide +kernel
theorem d_L_law_413 : decode M_L_law.2.1 413 = .ok (.iload_n 3, 1) := by decide +kernel
theorem d_L_law_414 : decode M_L_law.2.1 414 = .ok (.iconst (1), 1) := by decide +kernel
theorem d_L_law_415 : decode M_L_law.2.1 415 = .ok (.iadd, 1) := by decide +kernel
theorem d_L_law_416 : decode M_L_law.2.1 416 = .ok (.iaload, 1) := by decide +kernel
theorem d_L_law_417 : decode M_L_law.2.1 417 = .ok (.invokevirtual 63, 3) := by decide +kernel
theorem d_L_law_420 : decode M_L_law.2.1 420 = .ok (.if_icmp .eq (166), 3) := by decide +kernel
theorem d_L_law_423 : decode M_L_law.2.1 423 = .ok (.iconst (0), 1) := by decide +kernel
theorem d_L_law_424 : decode M_L_law.2.1 424 = .ok (.ireturn, 1) := by decide +kernel
theorem d_L_law_425 : decode M_L_law.2.1 425 = .ok (.aload_n 1, 1) := by decide +kernel
theorem d_L_law_426 : decode M_L_law.2.1 426 = .ok (.aload_n 0, 1) := by decide +kernel
theorem d_L_law_427 : decode M_L_law.2.1 427 = .ok (.iload_n 3, 1) := by decide +kernel
theorem d_L_law_428 : decode M_L_law.2.1 428 = .ok (.iconst (1), 1) := by decide +kernel
theorem d_L_law_429 : decode M_L_law.2.1 429 = .ok (.iadd, 1) := by decide +kernel
theorem d_L_law_430 : decode M_L_law.2.1 430 = .ok (.iaload, 1) := by decide +kernel
theorem d_L_law_431 : decode M_L_law.2.1 431 = .ok (.aload_n 0, 1) := by decide +kernel
theorem d_L_law_432 : decode M_L_law.2.1 432 = .ok (.iload_n 3, 1) := by decide +kernel
theorem d_L_law_433 : decode M_L_law.2.1 433 = .ok (.iconst (2), 1) := by decide +kernel
theorem d_L_law_434 : decode M_L_law.2.1 434 = .ok (.iadd, 1) := by decide +kernel
theorem d_L_law_435 : decode M_L_law.2.1 435 = .ok (.iaload, 1) := by decide +kernel
theorem d_L_law_436 : decode M_L_law.2.1 436 = .ok (.ifCond .eq (7), 3) := by decide +kernel
theorem d_L_law_439 : decode M_L_law.2.1 439 = .ok (.iconst (1), 1) := by decide +kernel
theorem d_L_law_440 : decode M_L_law.2.1 440 = .ok (.goto (4), 3) := by decide +kernel
theorem d_L_law_443 : decode M_L_law.2.1 443 = .ok (.iconst (0), 1) := by decide +kernel
theorem d_L_law_444 : decode M_L_law.2.1 444 = .ok (.aload_n 0, 1) := by decide +kernel
theorem d_L_law_445 : decode M_L_law.2.1 445 = .ok (.iload_n 3, 1) := by decide +kernel
theorem d_L_law_446 : decode M_L_law.2.1 446 = .ok (.iconst (3), 1) := by decide +kernel
theorem d_L_law_447 : decode M_L_law.2.1 447 = .ok (.iadd, 1) := by decide +kernel
theorem d_L_law_448 : decode M_L_law.2.1 448 = .ok (.iaload, 1) := by decide +kernel
theorem d_L_law_449 : decode M_L_law.2.1 449 = .ok (.aload_n 0, 1) := by decide +kernel
theorem d_L_law_450 : decode M_L_law.2.1 450 = .ok (.iload_n 3, 1) := by decide +kernel
theorem d_L_law_451 : decode M_L_law.2.1 451 = .ok (.iconst (4), 1) := by decide +kernel
theorem d_L_law_452 : decode M_L_law.2.1 452 = .ok (.iadd, 1) := by decide +kernel
theorem d_L_law_453 : decode M_L_law.2.1 453 = .ok (.iaload, 1) := by decide +kernel
theorem d_L_law_454 : decode M_L_law.2.1 454 = .ok (.ifCond .eq (7), 3) := by decide +kernel
theorem d_L_law_457 : decode M_L_law.2.1 457 = .ok (.iconst (1), 1) := by decide +kernel
theorem d_L_law_458 : decode M_L_law.2.1 458 = .ok (.goto (4), 3) := by decide +kernel
theorem d_L_law_461 : decode M_L_law.2.1 461 = .ok (.iconst (0), 1) := by decide +kernel
theorem d_L_law_462 : decode M_L_law.2.1 462 = .ok (.invokevirtual 64, 3) := by decide +kernel
theorem d_L_law_465 : decode M_L_law.2.1 465 = .ok (.aload_n 2, 1) := by decide +kernel
theorem d_L_law_466 : decode M_L_law.2.1 466 = .ok (.aload_n 0, 1) := by decide +kernel
theorem d_L_law_467 : decode M_L_law.2.1 467 = .ok (.iload_n 3, 1) := by decide +kernel
theorem d_L_law_468 : decode M_L_law.2.1 468 = .ok (.iconst (1), 1) := by decide +kernel
theorem d_L_law_469 : decode M_L_law.2.1 469 = .ok (.iadd, 1) := by decide +kernel
theorem d_L_law_470 : decode M_L_law.2.1 470 = .ok (.iaload, 1) := by decide +kernel
theorem d_L_law_471 : decode M_L_law.2.1 471 = .ok (.aload_n 0, 1) := by decide +kernel
theorem d_L_law_472 : decode M_L_law.2.1 472 = .ok (.iload_n 3, 1) := by decide +kernel
theorem d_L_law_473 : decode M_L_law.2.1 473 = .ok (.iconst (2), 1) := by decide +kernel
theorem d_L_law_474 : decode M_L_law.2.1 474 = .ok (.iadd, 1) := by decide +kernel
theorem d_L_law_475 : decode M_L_law.2.1 475 = .ok (.iaload, 1) := by decide +kernel
theorem d_L_law_476 : decode M_L_law.2.1 476 = .ok (.ifCond .eq (7), 3) := by decide +kernel
theorem d_L_law_479 : decode M_L_law.2.1 479 = .ok (.iconst (1), 1) := by decide +kernel
theorem d_L_law_480 : decode M_L_law.2.1 480 = .ok (.goto (4), 3) := by decide +kernel
theorem d_L_law_483 : decode M_L_law.2.1 483 = .ok (.iconst (0), 1) := by decide +kernel
theorem d_L_law_484 : decode M_L_law.2.1 484 = .ok (.aload_n 0, 1) := by decide +kernel
theorem d_L_law_485 : decode M_L_law.2.1 485 = .ok (.iload_n 3, 1) := by decide +kernel
theorem d_L_law_486 : decode M_L_law.2.1 486 = .ok (.iconst (3), 1) := by decide +kernel
theorem d_L_law_487 : decode M_L_law.2.1 487 = .ok (.iadd, 1) := by decide +kernel
theorem d_L_law_488 : decode M_L_law.2.1 488 = .ok (.iaload, 1) := by decide +kernel
theorem d_L_law_489 : decode M_L_law.2.1 489 = .ok (.aload_n 0, 1) := by decide +kernel
theorem d_L_law_490 : decode M_L_law.2.1 490 = .ok (.iload_n 3, 1) := by decide +kernel
theorem d_L_law_491 : decode M_L_law.2.1 491 = .ok (.iconst (4), 1) := by decide +kernel
theorem d_L_law_492 : decode M_L_law.2.1 492 = .ok (.iadd, 1) := by decide +kernel
theorem d_L_law_493 : decode M_L_law.2.1 493 = .ok (.iaload, 1) := by decide +kernel
theorem d_L_law_494 : decode M_L_law.2.1 494 = .ok (.ifCond .eq (7), 3) := by decide +kernel
theorem d_L_law_497 : decode M_L_law.2.1 497 = .ok (.iconst (1), 1) := by decide +kernel
theorem d_L_law_498 : decode M_L_law.2.1 498 = .ok (.goto (4), 3) := by decide +kernel
theorem d_L_law_501 : decode M_L_law.2.1 501 = .ok (.iconst (0), 1) := by decide +kernel
theorem d_L_law_502 : decode M_L_law.2.1 502 = .ok (.invokevirtual 68, 3) := by decide +kernel
theorem d_L_law_505 : decode M_L_law.2.1 505 = .ok (.if_icmp .eq (81), 3) := by decide +kernel
theorem d_L_law_508 : decode M_L_law.2.1 508 = .ok (.iconst (0), 1) := by decide +kernel
theorem d_L_law_509 : decode M_L_law.2.1 509 = .ok (.ireturn, 1) := by decide +kernel
theorem d_L_law_510 : decode M_L_law.2.1 510 = .ok (.aload_n 1, 1) := by decide +kernel
theorem d_L_law_511 : decode M_L_law.2.1 511 = .ok (.aload_n 0, 1) := by decide +kernel
theorem d_L_law_512 : decode M_L_law.2.1 512 = .ok (.iload_n 3, 1) := by decide +kernel
theorem d_L_law_513 : decode M_L_law.2.1 513 = .ok (.iconst (1), 1) := by decide +kernel
theorem d_L_law_514 : decode M_L_law.2.1 514 = .ok (.iadd, 1) := by decide +kernel
theorem d_L_law_515 : decode M_L_law.2.1 515 = .ok (.iaload, 1) := by decide +kernel
theorem d_L_law_516 : decode M_L_law.2.1 516 = .ok (.aload_n 0, 1) := by decide +kernel
theorem d_L_law_517 : decode M_L_law.2.1 517 = .ok (.iload_n 3, 1) := by decide +kernel
theorem d_L_law_518 : decode M_L_law.2.1 518 = .ok (.iconst (2), 1) := by decide +kernel
theorem d_L_law_519 : decode M_L_law.2.1 519 = .ok (.iadd, 1) := by decide +kernel
theorem d_L_law_520 : decode M_L_law.2.1 520 = .ok (.iaload, 1) := by decide +kernel
theorem d_L_law_521 : decode M_L_law.2.1 521 = .ok (.invokevirtual 69, 3) := by decide +kernel
theorem d_L_law_524 : decode M_L_law.2.1 524 = .ok (.aload_n 2, 1) := by decide +kernel
theorem d_L_law_525 : decode M_L_law.2.1 525 = .ok (.aload_n 0, 1) := by decide +kernel
theorem d_L_law_526 : decode M_L_law.2.1 526 = .ok (.iload_n 3, 1) := by decide +kernel
theorem d_L_law_527 : decode M_L_law.2.1 527 = .ok (.iconst (1), 1) := by decide +kernel
theorem d_L_law_528 : decode M_L_law.2.1 528 = .ok (.iadd, 1) := by decide +kernel
theorem d_L_law_529 : decode M_L_law.2.1 529 = .ok (.iaload, 1) := by decide +kernel
theorem d_L_law_530 : decode M_L_law.2.1 530 = .ok (.aload_n 0, 1) := by decide +kernel
theorem d_L_law_531 : decode M_L_law.2.1 531 = .ok (.iload_n 3, 1) := by decide +kernel
theorem d_L_law_532 : decode M_L_law.2.1 532 = .ok (.iconst (2), 1) := by decide +kernel
theorem d_L_law_533 : decode M_L_law.2.1 533 = .ok (.iadd, 1) := by decide +kernel
theorem d_L_law_534 : decode M_L_law.2.1 534 = .ok (.iaload, 1) := by decide +kernel
theorem d_L_law_535 : decode M_L_law.2.1 535 = .ok (.invokevirtual 72, 3) := by decide +kernel
theorem d_L_law_538 : decode M_L_law.2.1 538 = .ok (.if_icmp .eq (48), 3) := by decide +kernel
theorem d_L_law_541 : decode M_L_law.2.1 541 = .ok (.iconst (0), 1) := by decide +kernel
theorem d_L_law_542 : decode M_L_law.2.1 542 = .ok (.ireturn, 1) := by decide +kernel
theorem d_L_law_543 : decode M_L_law.2.1 543 = .ok (.aload_n 1, 1) := by decide +kernel
theorem d_L_law_544 : decode M_L_law.2.1 544 = .ok (.aload_n 0, 1) := by decide +kernel
theorem d_L_law_545 : decode M_L_law.2.1 545 = .ok (.iload_n 3, 1) := by decide +kernel
theorem d_L_law_546 : decode M_L_law.2.1 546 = .ok (.iconst (1), 1) := by decide +kernel
theorem d_L_law_547 : decode M_L_law.2.1 547 = .ok (.iadd, 1) := by decide +kernel
theorem d_L_law_548 : decode M_L_law.2.1 548 = .ok (.iaload, 1) := by decide +kernel
theorem d_L_law_549 : decode M_L_law.2.1 549 = .ok (.aload_n 0, 1) := by decide +kernel
theorem d_L_law_550 : decode M_L_law.2.1 550 = .ok (.iload_n 3, 1) := by decide +kernel
theorem d_L_law_551 : decode M_L_law.2.1 551 = .ok (.iconst (2), 1) := by decide +kernel
theorem d_L_law_552 : decode M_L_law.2.1 552 = .ok (.iadd, 1) := by decide +kernel
theorem d_L_law_553 : decode M_L_law.2.1 553 = .ok (.iaload, 1) := by decide +kernel
theorem d_L_law_554 : decode M_L_law.2.1 554 = .ok (.aload_n 0, 1) := by decide +kernel
theorem d_L_law_555 : decode M_L_law.2.1 555 = .ok (.iload_n 3, 1) := by decide +kernel
theorem d_L_law_556 : decode M_L_law.2.1 556 = .ok (.iconst (3), 1) := by decide +kernel
theorem d_L_law_557 : decode M_L_law.2.1 557 = .ok (.iadd, 1) := by decide +kernel
theorem d_L_law_558 : decode M_L_law.2.1 558 = .ok (.iaload, 1) := by decide +kernel
theorem d_L_law_559 : decode M_L_law.2.1 559 = .ok (.invokevirtual 73, 3) := by decide +kernel
theorem d_L_law_562 : decode M_L_law.2.1 562 = .ok (.aload_n 2, 1) := by decide +kernel
theorem d_L_law_563 : decode M_L_law.2.1 563 = .ok (.aload_n 0, 1) := by decide +kernel
theorem d_L_law_564 : decode M_L_law.2.1 564 = .ok (.iload_n 3, 1) := by decide +kernel
theorem d_L_law_565 : decode M_L_law.2.1 565 = .ok (.iconst (1), 1) := by decide +kernel
theorem d_L_law_566 : decode M_L_law.2.1 566 = .ok (.iadd, 1) := by decide +kernel
theorem d_L_law_567 : decode M_L_law.2.1 567 = .ok (.iaload, 1) := by decide +kernel
theorem d_L_law_568 : decode M_L_law.2.1 568 = .ok (.aload_n 0, 1) := by decide +kernel
theorem d_L_law_569 : decode M_L_law.2.1 569 = .ok (.iload_n 3, 1) := by decide +kernel
theorem d_L_law_570 : decode M_L_law.2.1 570 = .ok (.iconst (2), 1) := by decide +kernel
theorem d_L_law_571 : decode M_L_law.2.1 571 = .ok (.iadd, 1) := by decide +kernel
theorem d_L_law_572 : decode M_L_law.2.1 572 = .ok (.iaload, 1) := by decide +kernel
theorem d_L_law_573 : decode M_L_law.2.1 573 = .ok (.aload_n 0, 1) := by decide +kernel
theorem d_L_law_574 : decode M_L_law.2.1 574 = .ok (.iload_n 3, 1) := by decide +kernel
theorem d_L_law_575 : decode M_L_law.2.1 575 = .ok (.iconst (3), 1) := by decide +kernel
theorem d_L_law_576 : decode M_L_law.2.1 576 = .ok (.iadd, 1) := by decide +kernel
theorem d_L_law_577 : decode M_L_law.2.1 577 = .ok (.iaload, 1) := by decide +kernel
theorem d_L_law_578 : decode M_L_law.2.1 578 = .ok (.invokevirtual 77, 3) := by decide +kernel
theorem d_L_law_581 : decode M_L_law.2.1 581 = .ok (.if_icmp .eq (5), 3) := by decide +kernel
theorem d_L_law_584 : decode M_L_law.2.1 584 = .ok (.iconst (0), 1) := by decide +kernel
theorem d_L_law_585 : decode M_L_law.2.1 585 = .ok (.ireturn, 1) := by decide +kernel
theorem d_L_law_586 : decode M_L_law.2.1 586 = .ok (.iinc 3 (6), 3) := by decide +kernel
theorem d_L_law_589 : decode M_L_law.2.1 589 = .ok (.goto (-571), 3) := by decide +kernel
theorem d_L_law_592 : decode M_L_law.2.1 592 = .ok (.iconst (1), 1) := by decide +kernel
theorem d_L_law_593 : decode M_L_law.2.1 593 = .ok (.ireturn, 1) := by decide +kernel
end
section
def zb (b : Bool) : Int32 := match b with
  | true => 1
  | false => 0
theorem zb_r (b : Bool) : narrow .boolean (.int (zb b)) = .int (zb b) := by cases b <;> decide
theorem zb_0 (b : Bool) : zb b = 0 ↔ b = false := by cases b <;> decide
theorem zb_n0 (b : Bool) : ¬ zb b = 0 ↔ b = true := by cases b <;> decide
theorem zb_eq (a b : Bool) : zb a = zb b ↔ a = b := by cases a <;> cases b <;> decide
theorem zr0 : narrow .boolean (.int 0) = .int 0 := by decide
theorem zr1 : narrow .boolean (.int 1) = .int 1 := by decide
theorem z_ne {w : zW} {i j : Nat} {a b : zE} (h1 : w[i]? = some a) (h2 : w[j]? = some b) (hab : a ≠ b) : i ≠ j := by
  intro h
  subst h
  exact hab (Option.some.inj (h1.symm.trans h2))
theorem z_shr2 {e : Nat} (h : e < 2 ^ 31) : nI e >>> ((2 : Int32) &&& 31) = nI (e / 4) := pk_shrN h _ 2 (by decide)
theorem z_and1 {e : Nat} (h : e < 2 ^ 31) : nI e &&& 1 = nI (e % 2) := pk_andN (Nat.lt_of_lt_of_le h (by decide)) 1 (by decide)
theorem z_and3 {e : Nat} (h : e < 2 ^ 31) : nI e &&& 3 = nI (e % 4) := pk_andN (Nat.lt_of_lt_of_le h (by decide)) 2 (by decide)
theorem z_n1 {e : Nat} (h : e < 2 ^ 31) : nI e = 1 ↔ e = 1 := nI_eq (b := 1) h (by decide)
theorem z_n3 {e : Nat} (h : e < 2 ^ 31) : nI e = 3 ↔ e = 3 := nI_eq (b := 3) h (by decide)
theorem z_nz {e : Nat} (h : e < 2 ^ 31) : nI e = 0 ↔ e = 0 := nI_eq (b := 0) h (by decide)
theorem z_m4 (n : Nat) : (4 : Int32) * nI n = nI (4 * n) := pk_mul 4 n
theorem z_opp : ∀ e, e < 32 → nI e ^^^ 2 = nI (e / 4 * 4 + (e + 2) % 4) := by decide +kernel
theorem z_turn (k : Nat) (hk : k < 4) : ∀ e, e < 32 → (nI e &&& (-4)) ||| ((nI e + nI k) &&& 3) = nI (e / 4 * 4 + (e + k) % 4) := by
  match k, hk with
  | 0, _ => decide +kernel
  | 1, _ => decide +kernel
  | 2, _ => decide +kernel
  | 3, _ => decide +kernel
-- the statics of the class
theorem sp_A_crossingOf (w : zW) {e : Nat} (he : e < 2 ^ 31) : Sp M_A_crossingOf [.int (nI e)] w (some (.int (nI (e / 4)))) w := by
  refine Sp.of (by decide) (Nat.le_of_ble_eq_true rfl) ?_
  refine ev_iload_n 0 d_A_crossingOf_0 rfl rfl ?_
  refine ev_iconst (v := 2) d_A_crossingOf_1 (by decide) ?_
  refine ev_ishr d_A_crossingOf_2 ?_
  rw [z_shr2 he]
  exact ev_iret d_A_crossingOf_3 rfl rfl (Nat.le_of_ble_eq_true rfl) (Nat.le_of_ble_eq_true rfl)
theorem sp_A_isUpper (w : zW) {e : Nat} (he : e < 2 ^ 31) : Sp M_A_isUpper [.int (nI e)] w (some (.int (zb (e % 2 == 1)))) w := by
  refine Sp.of (by decide) (Nat.le_of_ble_eq_true rfl) ?_
  refine ev_iload_n 0 d_A_isUpper_0 rfl rfl ?_
  refine ev_iconst (v := 1) d_A_isUpper_1 (by decide) ?_
  refine ev_iand d_A_isUpper_2 ?_
  rw [z_and1 he]
  refine ev_iconst (v := 1) d_A_isUpper_3 (by decide) ?_
  refine ev_icmp_ne 11 d_A_isUpper_4 (by decide) (fun h => ?_) (fun h => ?_)
  · have h1 : (e % 2 == 1) = false := by
      have := mt (z_n1 (e := e % 2) (by omega)).mpr h
      simpa using this
    rw [h1]
    refine ev_iconst (v := 0) d_A_isUpper_11 (by decide) ?_
    exact ev_iret d_A_isUpper_12 rfl zr0 (Nat.le_of_ble_eq_true rfl) (Nat.le_of_ble_eq_true rfl)
  · have h1 : (e % 2 == 1) = true := by
      have := (z_n1 (e := e % 2) (by omega)).mp h
      simpa using this
    rw [h1]
    refine ev_iconst (v := 1) d_A_isUpper_7 (by decide) ?_
    refine ev_goto 12 d_A_isUpper_8 (by decide) ?_
    exact ev_iret d_A_isUpper_12 rfl zr1 (Nat.le_of_ble_eq_true rfl) (Nat.le_of_ble_eq_true rfl)
theorem sp_A_opposite (w : zW) {e : Nat} (he : e < 32) : Sp M_A_opposite [.int (nI e)] w (some (.int (nI (e / 4 * 4 + (e + 2) % 4)))) w := by
  refine Sp.of (by decide) (Nat.le_of_ble_eq_true rfl) ?_
  refine ev_iload_n 0 d_A_opposite_0 rfl rfl ?_
  refine ev_iconst (v := 2) d_A_opposite_1 (by decide) ?_
  refine ev_ixor d_A_opposite_2 ?_
  rw [z_opp e he]
  exact ev_iret d_A_opposite_3 rfl rfl (Nat.le_of_ble_eq_true rfl) (Nat.le_of_ble_eq_true rfl)
theorem sp_A_turned (w : zW) {e k : Nat} (he : e < 32) (hk : k < 4) : Sp M_A_turned [.int (nI e), .int (nI k)] w (some (.int (nI (e / 4 * 4 + (e + k) % 4)))) w := by
  refine Sp.of (by decide) (Nat.le_of_ble_eq_true rfl) ?_
  refine ev_iload_n 0 d_A_turned_0 rfl rfl ?_
  refine ev_bipush (v := -4) d_A_turned_1 (by decide) ?_
  refine ev_iand d_A_turned_3 ?_
  refine ev_iload_n 0 d_A_turned_4 rfl rfl ?_
  refine ev_iload_n 1 d_A_turned_5 rfl rfl ?_
  refine ev_iadd d_A_turned_6 ?_
  refine ev_iconst (v := 3) d_A_turned_7 (by decide) ?_
  refine ev_iand d_A_turned_8 ?_
  refine ev_ior d_A_turned_9 ?_
  rw [z_turn k hk e he]
  exact ev_iret d_A_turned_10 rfl rfl (Nat.le_of_ble_eq_true rfl) (Nat.le_of_ble_eq_true rfl)
theorem sp_A_isEdge (w : zW) (x : Int32) : Sp M_A_isEdge [.int x] w (some (.int (zb (decide (1 ≤ x ∧ x ≤ 32))))) w := by
  refine Sp.of (by decide) (Nat.le_of_ble_eq_true rfl) ?_
  refine ev_iload_n 0 d_A_isEdge_0 rfl rfl ?_
  refine ev_iconst (v := 1) d_A_isEdge_1 (by decide) ?_
  refine ev_icmp_lt 15 d_A_isEdge_2 (by decide) (fun h => ?_) (fun h => ?_)
  · have h1 : decide (1 ≤ x ∧ x ≤ 32) = false := by
      apply decide_eq_false
      intro ⟨a, _⟩
      exact absurd a (by rw [Int32.le_iff_toInt_le]; rw [Int32.lt_iff_toInt_lt] at h; omega)
    rw [h1]
    refine ev_iconst (v := 0) d_A_isEdge_15 (by decide) ?_
    exact ev_iret d_A_isEdge_16 rfl zr0 (Nat.le_of_ble_eq_true rfl) (Nat.le_of_ble_eq_true rfl)
  · refine ev_iload_n 0 d_A_isEdge_5 rfl rfl ?_
    refine ev_bipush (v := 32) d_A_isEdge_6 (by decide) ?_
    refine ev_icmp_gt 15 d_A_isEdge_8 (by decide) (fun h2 => ?_) (fun h2 => ?_)
    · have h1 : decide (1 ≤ x ∧ x ≤ 32) = false := by
        apply decide_eq_false
        intro ⟨_, a⟩
        exact absurd a (by rw [Int32.le_iff_toInt_le]; rw [Int32.lt_iff_toInt_lt] at h2; omega)
      rw [h1]
      refine ev_iconst (v := 0) d_A_isEdge_15 (by decide) ?_
      exact ev_iret d_A_isEdge_16 rfl zr0 (Nat.le_of_ble_eq_true rfl) (Nat.le_of_ble_eq_true rfl)
    · have h1 : decide (1 ≤ x ∧ x ≤ 32) = true := by
        apply decide_eq_true
        rw [Int32.lt_iff_toInt_lt] at h h2
        rw [Int32.le_iff_toInt_le, Int32.le_iff_toInt_le]
        omega
      rw [h1]
      refine ev_iconst (v := 1) d_A_isEdge_11 (by decide) ?_
      refine ev_goto 16 d_A_isEdge_12 (by decide) ?_
      exact ev_iret d_A_isEdge_16 rfl zr1 (Nat.le_of_ble_eq_true rfl) (Nat.le_of_ble_eq_true rfl)
section Cr
variable {w : zW} {j je jg n : Nat} {f g : Nat → Int32}
theorem sp_C_size (hO : w[j]? = some (.inr (2, [.ref je, .ref jg, .int (nI n)]))) : Sp M_C_size [.ref j] w (some (.int (nI n))) w := by
  refine Sp.of (by decide) (Nat.le_of_ble_eq_true rfl) ?_
  refine ev_aload_n 0 d_C_size_0 rfl rfl ?_
  refine ev_get f_C_18 d_C_size_1 hO rfl ?_
  exact ev_iret d_C_size_4 rfl rfl (Nat.le_of_ble_eq_true rfl) (Nat.le_of_ble_eq_true rfl)
theorem sp_C_ends (hO : w[j]? = some (.inr (2, [.ref je, .ref jg, .int (nI n)]))) : Sp M_C_ends [.ref j] w (some (.int (nI (4 * n)))) w := by
  refine Sp.of (by decide) (Nat.le_of_ble_eq_true rfl) ?_
  refine ev_iconst (v := 4) d_C_ends_0 (by decide) ?_
  refine ev_aload_n 0 d_C_ends_1 rfl rfl ?_
  refine ev_get f_C_18 d_C_ends_2 hO rfl ?_
  refine ev_imul d_C_ends_5 ?_
  rw [z_m4]
  exact ev_iret d_C_ends_6 rfl rfl (Nat.le_of_ble_eq_true rfl) (Nat.le_of_ble_eq_true rfl)
theorem sp_C_isFull (hO : w[j]? = some (.inr (2, [.ref je, .ref jg, .int (nI n)]))) (hn : n ≤ 8) : Sp M_C_isFull [.ref j] w (some (.int (zb (decide (8 ≤ n))))) w := by
  refine Sp.of (by decide) (Nat.le_of_ble_eq_true rfl) ?_
  refine ev_aload_n 0 d_C_isFull_0 rfl rfl ?_
  refine ev_get f_C_18 d_C_isFull_1 hO rfl ?_
  refine ev_bipush (v := 8) d_C_isFull_4 (by decide) ?_
  refine ev_icmp_lt 13 d_C_isFull_6 (by decide) (fun h => ?_) (fun h => ?_)
  · have h1 : n < 8 := (nI_ltI (b := 8) (by omega) (by decide)).mp h
    rw [decide_eq_false (by omega)]
    refine ev_iconst (v := 0) d_C_isFull_13 (by decide) ?_
    exact ev_iret d_C_isFull_14 rfl zr0 (Nat.le_of_ble_eq_true rfl) (Nat.le_of_ble_eq_true rfl)
  · have h1 : ¬ n < 8 := fun q => h ((nI_ltI (b := 8) (by omega) (by decide)).mpr q)
    rw [decide_eq_true (by omega)]
    refine ev_iconst (v := 1) d_C_isFull_9 (by decide) ?_
    refine ev_goto 14 d_C_isFull_10 (by decide) ?_
    exact ev_iret d_C_isFull_14 rfl zr1 (Nat.le_of_ble_eq_true rfl) (Nat.le_of_ble_eq_true rfl)
theorem sp_C_has (hO : w[j]? = some (.inr (2, [.ref je, .ref jg, .int (nI n)]))) (x : Int32) : Sp M_C_has [.ref j, .int x] w (some (.int (zb (decide (¬ x < 0 ∧ x < nI n))))) w := by
  refine Sp.of (by decide) (Nat.le_of_ble_eq_true rfl) ?_
  refine ev_iload_n 1 d_C_has_0 rfl rfl ?_
  refine ev_if_lt 16 d_C_has_1 (by decide) (fun h => ?_) (fun h => ?_)
  · rw [decide_eq_false (fun q => q.1 h)]
    refine ev_iconst (v := 0) d_C_has_16 (by decide) ?_
    exact ev_iret d_C_has_17 rfl zr0 (Nat.le_of_ble_eq_true rfl) (Nat.le_of_ble_eq_true rfl)
  · refine ev_iload_n 1 d_C_has_4 rfl rfl ?_
    refine ev_aload_n 0 d_C_has_5 rfl rfl ?_
    refine ev_get f_C_18 d_C_has_6 hO rfl ?_
    refine ev_icmp_ge 16 d_C_has_9 (by decide) (fun h2 => ?_) (fun h2 => ?_)
    · rw [decide_eq_false (fun q => absurd q.2 (by rw [Int32.lt_iff_toInt_lt]; rw [Int32.le_iff_toInt_le] at h2; omega))]
      refine ev_iconst (v := 0) d_C_has_16 (by decide) ?_
      exact ev_iret d_C_has_17 rfl zr0 (Nat.le_of_ble_eq_true rfl) (Nat.le_of_ble_eq_true rfl)
    · rw [decide_eq_true ⟨h, by rw [Int32.lt_iff_toInt_lt]; rw [Int32.le_iff_toInt_le] at h2; omega⟩]
      refine ev_iconst (v := 1) d_C_has_12 (by decide) ?_
      refine ev_goto 17 d_C_has_13 (by decide) ?_
      exact ev_iret d_C_has_17 rfl zr1 (Nat.le_of_ble_eq_true rfl) (Nat.le_of_ble_eq_true rfl)
theorem sp_C_edgeAt (hO : w[j]? = some (.inr (2, [.ref je, .ref jg, .int (nI n)]))) (hE : w[je]? = some (.inl (.int, 32, .inl f))) {e : Nat} (he : e < 32) : Sp M_C_edgeAt [.ref j, .int (nI e)] w (some (.int (f e))) w := by
  refine Sp.of (by decide) (Nat.le_of_ble_eq_true rfl) ?_
  refine ev_aload_n 0 d_C_edgeAt_0 rfl rfl ?_
  refine ev_get f_C_9 d_C_edgeAt_1 hO rfl ?_
  refine ev_iload_n 1 d_C_edgeAt_4 rfl rfl ?_
  refine ev_iald d_C_edgeAt_5 hE (vp_in_nI (by omega) (by omega)) ?_
  rw [nI_clamp (by omega)]
  exact ev_iret d_C_edgeAt_6 rfl rfl (Nat.le_of_ble_eq_true rfl) (Nat.le_of_ble_eq_true rfl)
theorem sp_C_setEdge (hO : w[j]? = some (.inr (2, [.ref je, .ref jg, .int (nI n)]))) (hE : w[je]? = some (.inl (.int, 32, .inl f))) {e : Nat} (he : e < 32) (x : Int32) : Sp M_C_setEdge [.ref j, .int (nI e), .int x] w none (w.set je (.inl (.int, 32, .inl (upd f e x)))) := by
  refine Sp.of (by decide) (Nat.le_of_ble_eq_true rfl) ?_
  refine ev_aload_n 0 d_C_setEdge_0 rfl rfl ?_
  refine ev_get f_C_9 d_C_setEdge_1 hO rfl ?_
  refine ev_iload_n 1 d_C_setEdge_4 rfl rfl ?_
  refine ev_iload_n 2 d_C_setEdge_5 rfl rfl ?_
  refine ev_iast d_C_setEdge_6 hE (vp_in_nI (by omega) (by omega)) ?_
  rw [nI_clamp (by omega)]
  exact ev_ret d_C_setEdge_7 rfl (Nat.le_of_ble_eq_true rfl) (Nat.le_of_ble_eq_true rfl)
theorem sp_C_isPositive (hO : w[j]? = some (.inr (2, [.ref je, .ref jg, .int (nI n)]))) (hS : w[jg]? = some (.inl (.int, 8, .inl g))) {x : Nat} (hx : x < 8) : Sp M_C_isPositive [.ref j, .int (nI x)] w (some (.int (zb (decide (0 < g x))))) w := by
  refine Sp.of (by decide) (Nat.le_of_ble_eq_true rfl) ?_
  refine ev_aload_n 0 d_C_isPositive_0 rfl rfl ?_
  refine ev_get f_C_15 d_C_isPositive_1 hO rfl ?_
  refine ev_iload_n 1 d_C_isPositive_4 rfl rfl ?_
  refine ev_iald d_C_isPositive_5 hS (vp_in_nI (by omega) (by omega)) ?_
  rw [nI_clamp (by omega)]
  refine ev_if_le 13 d_C_isPositive_6 (by decide) (fun h => ?_) (fun h => ?_)
  · rw [decide_eq_false (fun q => absurd q (by rw [Int32.lt_iff_toInt_lt]; rw [Int32.le_iff_toInt_le] at h; omega))]
    refine ev_iconst (v := 0) d_C_isPositive_13 (by decide) ?_
    exact ev_iret d_C_isPositive_14 rfl zr0 (Nat.le_of_ble_eq_true rfl) (Nat.le_of_ble_eq_true rfl)
  · rw [decide_eq_true (show 0 < g x by rw [Int32.lt_iff_toInt_lt]; rw [Int32.le_iff_toInt_le] at h; omega)]
    refine ev_iconst (v := 1) d_C_isPositive_9 (by decide) ?_
    refine ev_goto 14 d_C_isPositive_10 (by decide) ?_
    exact ev_iret d_C_isPositive_14 rfl zr1 (Nat.le_of_ble_eq_true rfl) (Nat.le_of_ble_eq_true rfl)
theorem sp_C_clear (hO : w[j]? = some (.inr (2, [.ref je, .ref jg, .int (nI n)]))) : Sp M_C_clear [.ref j] w none (w.set j (.inr (2, [.ref je, .ref jg, .int (nI 0)]))) := by
  refine Sp.of (by decide) (Nat.le_of_ble_eq_true rfl) ?_
  refine ev_aload_n 0 d_C_clear_0 rfl rfl ?_
  refine ev_iconst (v := 0) d_C_clear_1 (by decide) ?_
  refine ev_put p_C_18 d_C_clear_2 hO (fun _ _ => ⟨rfl, rfl⟩) (Nat.le_of_ble_eq_true rfl) ?_
  exact ev_ret d_C_clear_5 rfl (Nat.le_of_ble_eq_true rfl) (Nat.le_of_ble_eq_true rfl)
end Cr
end
section
def wrI (g : Nat → Int32) : Nat → Nat → Int32 → Int32
  | _, 0, acc => acc
  | i, k + 1, acc => wrI g (i + 1) k (acc + g i)
def cin (g : Nat → Int32) (e : Nat) : Bool := if e % 2 = 1 then decide (e % 4 = 3) == decide (0 < g (e / 4)) else decide (e % 4 = 0)
def occ (f : Nat → Int32) (x : Int32) : Nat → Nat → Bool
  | _, 0 => false
  | i, k + 1 => if f i = x then true else occ f x (i + 1) k
def oEnd (f : Nat → Int32) (e : Nat) : Nat → Nat → Nat
  | _, 0 => e
  | i, k + 1 => if i ≠ e ∧ f i = f e then i else oEnd f e (i + 1) k
def fol (f : Nat → Int32) (n e : Nat) : Nat := oEnd f e 0 (4 * n) / 4 * 4 + (oEnd f e 0 (4 * n) + 3) % 4
def opp (e : Nat) : Nat := e / 4 * 4 + (e + 2) % 4
def eOn (f g : Nat → Int32) (x : Int32) (b : Bool) : Nat → Nat → Option Nat
  | _, 0 => none
  | i, k + 1 => if f i = x ∧ cin g i = b then some i else eOn f g x b (i + 1) k
def oI (o : Option Nat) : Int32 := match o with
  | none => -1
  | some i => nI i
def renA (a b : Int32) : (Nat → Int32) → Nat → Nat → Nat → Int32
  | f, _, 0 => f
  | f, i, k + 1 => renA a b (if f i = a then upd f i b else f) (i + 1) k
theorem oEnd_lt {f : Nat → Int32} {e N : Nat} (he : e < N) : ∀ k i, i + k ≤ N → oEnd f e i k < N := by
  intro k
  induction k with
  | zero => intro i _; exact he
  | succ k ih =>
    intro i hi
    unfold oEnd
    split
    · omega
    · exact ih (i + 1) (by omega)
theorem opp_lt {e : Nat} (h : e < 32) : opp e < 32 := by unfold opp; omega
theorem fol_lt {f : Nat → Int32} {n e : Nat} (hn : n ≤ 8) (he : e < 32) : fol f n e < 32 := by
  have := oEnd_lt (f := f) (N := 32) he (4 * n) 0 (by omega)
  unfold fol
  omega
theorem eOn_lt {f g : Nat → Int32} {x : Int32} {b : Bool} {N : Nat} : ∀ k i e, i + k ≤ N → eOn f g x b i k = some e → e < N := by
  intro k
  induction k with
  | zero => intro i e _ h; cases h
  | succ k ih =>
    intro i e hi h
    unfold eOn at h
    split at h
    · cases h; omega
    · exact ih (i + 1) e (by omega) h
section Cr
variable {w : zW} {j je jg n : Nat} {f g : Nat → Int32}
theorem lp_C_writhe (hO : w[j]? = some (.inr (2, [.ref je, .ref jg, .int (nI n)]))) (hS : w[jg]? = some (.inl (.int, 8, .inl g))) (hn : n ≤ 8) : ∀ k i acc, i + k = n → Ev M_C_writhe none (some (.int (wrI g i k acc))) w 4 [(0, .ref j), (1, .int acc), (2, .int (nI i))] [] w 0 0 := by
  intro k
  induction k with
  | zero =>
    intro i acc hi
    refine ev_iload_n 2 d_C_writhe_4 rfl rfl ?_
    refine ev_aload_n 0 d_C_writhe_5 rfl rfl ?_
    refine ev_get f_C_18 d_C_writhe_6 hO rfl ?_
    refine ev_icmp_ge 27 d_C_writhe_9 (by decide) (fun h => ?_) (fun h => ?_)
    · refine ev_iload_n 1 d_C_writhe_27 rfl rfl ?_
      exact ev_iret d_C_writhe_28 rfl rfl (Nat.le_of_ble_eq_true rfl) (Nat.le_of_ble_eq_true rfl)
    · exact absurd (nI_le (by omega) (by omega)) h
  | succ k ih =>
    intro i acc hi
    refine ev_iload_n 2 d_C_writhe_4 rfl rfl ?_
    refine ev_aload_n 0 d_C_writhe_5 rfl rfl ?_
    refine ev_get f_C_18 d_C_writhe_6 hO rfl ?_
    refine ev_icmp_ge 27 d_C_writhe_9 (by decide) (fun h => ?_) (fun h => ?_)
    · exact absurd h (nI_ge (by omega) (by omega))
    · refine ev_iload_n 1 d_C_writhe_12 rfl rfl ?_
      refine ev_aload_n 0 d_C_writhe_13 rfl rfl ?_
      refine ev_get f_C_15 d_C_writhe_14 hO rfl ?_
      refine ev_iload_n 2 d_C_writhe_17 rfl rfl ?_
      refine ev_iald d_C_writhe_18 hS (vp_in_nI (by omega) (by omega)) ?_
      refine ev_iadd d_C_writhe_19 ?_
      refine ev_istore_n 1 d_C_writhe_20 rfl (Nat.le_of_ble_eq_true rfl) rfl ?_
      refine ev_iinc (v := _ + 1) d_C_writhe_21 rfl rfl (Nat.le_of_ble_eq_true rfl) rfl ?_
      rw [nI_clamp (by omega), nI_1]
      refine ev_goto 4 d_C_writhe_24 (by decide) ?_
      exact ih (i + 1) (acc + g i) (by omega)
theorem sp_C_writhe (hO : w[j]? = some (.inr (2, [.ref je, .ref jg, .int (nI n)]))) (hS : w[jg]? = some (.inl (.int, 8, .inl g))) (hn : n ≤ 8) : Sp M_C_writhe [.ref j] w (some (.int (wrI g 0 n 0))) w := by
  refine Sp.of (by decide) (Nat.le_of_ble_eq_true rfl) ?_
  refine ev_iconst (v := 0) d_C_writhe_0 (by decide) ?_
  refine ev_istore_n 1 d_C_writhe_1 rfl (Nat.le_of_ble_eq_true rfl) rfl ?_
  refine ev_iconst (v := 0) d_C_writhe_2 (by decide) ?_
  refine ev_istore_n 2 d_C_writhe_3 rfl (Nat.le_of_ble_eq_true rfl) rfl ?_
  exact lp_C_writhe hO hS hn n 0 0 (by omega)
theorem sp_C_comesIn (hO : w[j]? = some (.inr (2, [.ref je, .ref jg, .int (nI n)]))) (hS : w[jg]? = some (.inl (.int, 8, .inl g))) {e : Nat} (he : e < 32) : Sp M_C_comesIn [.ref j, .int (nI e)] w (some (.int (zb (cin g e)))) w := by
  refine Sp.of (by decide) (Nat.le_of_ble_eq_true rfl) ?_
  refine ev_iload_n 1 d_C_comesIn_0 rfl rfl ?_
  refine ev_iconst (v := 3) d_C_comesIn_1 (by decide) ?_
  refine ev_iand d_C_comesIn_2 ?_
  rw [z_and3 (by omega)]
  refine ev_istore_n 2 d_C_comesIn_3 rfl (Nat.le_of_ble_eq_true rfl) rfl ?_
  refine ev_iload_n 2 d_C_comesIn_4 rfl rfl ?_
  refine ev_callS M_A_isUpper [_] (sp_A_isUpper w (by omega)) c_C_36 d_C_comesIn_5 rfl (by decide) (Nat.le_of_ble_eq_true rfl) ⟨rfl, rfl⟩ rfl ?_
  have key : e % 2 = 1 → ∀ b : Bool, b = decide (e % 4 = 3) → Ev M_C_comesIn none (some (.int (zb (cin g e)))) w 21 [(0, .ref j), (1, .int (nI e)), (2, .int (nI (e % 4)))] [.int (zb b)] w 0 0 := by
    intro h2 b hb
    have hc : cin g e = (b == decide (0 < g (e / 4))) := by unfold cin; rw [if_pos h2, hb]
    rw [hc]
    refine ev_aload_n 0 d_C_comesIn_21 rfl rfl ?_
    refine ev_iload_n 1 d_C_comesIn_22 rfl rfl ?_
    refine ev_callS M_A_crossingOf [_] (sp_A_crossingOf w (by omega)) c_C_39 d_C_comesIn_23 rfl (by decide) (Nat.le_of_ble_eq_true rfl) ⟨rfl, rfl⟩ rfl ?_
    refine ev_callV M_C_isPositive [_] (sp_C_isPositive hO hS (by omega)) c_C_43 d_C_comesIn_26 hO rfl (by decide) (Nat.le_of_ble_eq_true rfl) ⟨rfl, rfl⟩ rfl ?_
    refine ev_icmp_ne 36 d_C_comesIn_29 (by decide) (fun h3 => ?_) (fun h3 => ?_)
    · have h4 : (b == decide (0 < g (e / 4))) = false := by
        have := mt (zb_eq _ _).mpr h3
        simpa using this
      rw [h4]
      refine ev_iconst (v := 0) d_C_comesIn_36 (by decide) ?_
      exact ev_iret d_C_comesIn_37 rfl zr0 (Nat.le_of_ble_eq_true rfl) (Nat.le_of_ble_eq_true rfl)
    · have h4 : (b == decide (0 < g (e / 4))) = true := by
        have := (zb_eq _ _).mp h3
        simpa using this
      rw [h4]
      refine ev_iconst (v := 1) d_C_comesIn_32 (by decide) ?_
      refine ev_goto 37 d_C_comesIn_33 (by decide) ?_
      exact ev_iret d_C_comesIn_37 rfl zr1 (Nat.le_of_ble_eq_true rfl) (Nat.le_of_ble_eq_true rfl)
  refine ev_if_eq 38 d_C_comesIn_8 (by decide) (fun h => ?_) (fun h => ?_)
  · have h2 : ¬ e % 2 = 1 := by
      have := (zb_0 _).mp h
      have h5 : e % 4 % 2 = e % 2 := by omega
      rw [h5] at this
      simpa using this
    have hc : cin g e = decide (e % 4 = 0) := by unfold cin; rw [if_neg h2]
    rw [hc]
    refine ev_iload_n 2 d_C_comesIn_38 rfl rfl ?_
    refine ev_if_ne 46 d_C_comesIn_39 (by decide) (fun h3 => ?_) (fun h3 => ?_)
    · rw [decide_eq_false (fun q => h3 ((z_nz (by omega)).mpr q))]
      refine ev_iconst (v := 0) d_C_comesIn_46 (by decide) ?_
      exact ev_iret d_C_comesIn_47 rfl zr0 (Nat.le_of_ble_eq_true rfl) (Nat.le_of_ble_eq_true rfl)
    · rw [decide_eq_true ((z_nz (by omega)).mp h3)]
      refine ev_iconst (v := 1) d_C_comesIn_42 (by decide) ?_
      refine ev_goto 47 d_C_comesIn_43 (by decide) ?_
      exact ev_iret d_C_comesIn_47 rfl zr1 (Nat.le_of_ble_eq_true rfl) (Nat.le_of_ble_eq_true rfl)
  · have h2 : e % 2 = 1 := by
      have := (zb_n0 _).mp h
      have h5 : e % 4 % 2 = e % 2 := by omega
      rw [h5] at this
      simpa using this
    refine ev_iload_n 2 d_C_comesIn_11 rfl rfl ?_
    refine ev_iconst (v := 3) d_C_comesIn_12 (by decide) ?_
    refine ev_icmp_ne 20 d_C_comesIn_13 (by decide) (fun h3 => ?_) (fun h3 => ?_)
    · refine ev_iconst (v := 0) d_C_comesIn_20 (by decide) ?_
      exact key h2 false (decide_eq_false (fun q => h3 ((z_n3 (by omega)).mpr q))).symm
    · refine ev_iconst (v := 1) d_C_comesIn_16 (by decide) ?_
      refine ev_goto 21 d_C_comesIn_17 (by decide) ?_
      exact key h2 true (decide_eq_true ((z_n3 (by omega)).mp h3)).symm
theorem lp_C_occurs (hO : w[j]? = some (.inr (2, [.ref je, .ref jg, .int (nI n)]))) (hE : w[je]? = some (.inl (.int, 32, .inl f))) (hn : n ≤ 8) (x : Int32) : ∀ k i, i + k = 4 * n → Ev M_C_occurs none (some (.int (zb (occ f x i k)))) w 2 [(0, .ref j), (1, .int x), (2, .int (nI i))] [] w 0 0 := by
  intro k
  induction k with
  | zero =>
    intro i hi
    refine ev_iload_n 2 d_C_occurs_2 rfl rfl ?_
    refine ev_aload_n 0 d_C_occurs_3 rfl rfl ?_
    refine ev_callV M_C_ends [] (sp_C_ends hO) c_C_46 d_C_occurs_4 hO rfl (by decide) (Nat.le_of_ble_eq_true rfl) ⟨rfl, rfl⟩ rfl ?_
    refine ev_icmp_ge 28 d_C_occurs_7 (by decide) (fun h => ?_) (fun h => ?_)
    · refine ev_iconst (v := 0) d_C_occurs_28 (by decide) ?_
      exact ev_iret d_C_occurs_29 rfl zr0 (Nat.le_of_ble_eq_true rfl) (Nat.le_of_ble_eq_true rfl)
    · exact absurd (nI_le (by omega) (by omega)) h
  | succ k ih =>
    intro i hi
    refine ev_iload_n 2 d_C_occurs_2 rfl rfl ?_
    refine ev_aload_n 0 d_C_occurs_3 rfl rfl ?_
    refine ev_callV M_C_ends [] (sp_C_ends hO) c_C_46 d_C_occurs_4 hO rfl (by decide) (Nat.le_of_ble_eq_true rfl) ⟨rfl, rfl⟩ rfl ?_
    refine ev_icmp_ge 28 d_C_occurs_7 (by decide) (fun h => ?_) (fun h => ?_)
    · exact absurd h (nI_ge (by omega) (by omega))
    · refine ev_aload_n 0 d_C_occurs_10 rfl rfl ?_
      refine ev_get f_C_9 d_C_occurs_11 hO rfl ?_
      refine ev_iload_n 2 d_C_occurs_14 rfl rfl ?_
      refine ev_iald d_C_occurs_15 hE (vp_in_nI (by omega) (by omega)) ?_
      rw [nI_clamp (by omega)]
      refine ev_iload_n 1 d_C_occurs_16 rfl rfl ?_
      refine ev_icmp_ne 22 d_C_occurs_17 (by decide) (fun h2 => ?_) (fun h2 => ?_)
      · unfold occ
        rw [if_neg h2]
        refine ev_iinc (v := _ + 1) d_C_occurs_22 rfl rfl (Nat.le_of_ble_eq_true rfl) rfl ?_
        rw [nI_1]
        refine ev_goto 2 d_C_occurs_25 (by decide) ?_
        exact ih (i + 1) (by omega)
      · unfold occ
        rw [if_pos h2]
        refine ev_iconst (v := 1) d_C_occurs_20 (by decide) ?_
        exact ev_iret d_C_occurs_21 rfl zr1 (Nat.le_of_ble_eq_true rfl) (Nat.le_of_ble_eq_true rfl)
theorem sp_C_occurs (hO : w[j]? = some (.inr (2, [.ref je, .ref jg, .int (nI n)]))) (hE : w[je]? = some (.inl (.int, 32, .inl f))) (hn : n ≤ 8) (x : Int32) : Sp M_C_occurs [.ref j, .int x] w (some (.int (zb (occ f x 0 (4 * n))))) w := by
  refine Sp.of (by decide) (Nat.le_of_ble_eq_true rfl) ?_
  refine ev_iconst (v := 0) d_C_occurs_0 (by decide) ?_
  refine ev_istore_n 2 d_C_occurs_1 rfl (Nat.le_of_ble_eq_true rfl) rfl ?_
  exact lp_C_occurs hO hE hn x (4 * n) 0 (by omega)
theorem lp_C_otherEnd (hO : w[j]? = some (.inr (2, [.ref je, .ref jg, .int (nI n)]))) (hE : w[je]? = some (.inl (.int, 32, .inl f))) (hn : n ≤ 8) {e : Nat} (he : e < 32) : ∀ k i, i + k = 4 * n → Ev M_C_otherEnd none (some (.int (nI (oEnd f e i k)))) w 2 [(0, .ref j), (1, .int (nI e)), (2, .int (nI i))] [] w 0 0 := by
  intro k
  induction k with
  | zero =>
    intro i hi
    refine ev_iload_n 2 d_C_otherEnd_2 rfl rfl ?_
    refine ev_aload_n 0 d_C_otherEnd_3 rfl rfl ?_
    refine ev_callV M_C_ends [] (sp_C_ends hO) c_C_46 d_C_otherEnd_4 hO rfl (by decide) (Nat.le_of_ble_eq_true rfl) ⟨rfl, rfl⟩ rfl ?_
    refine ev_icmp_ge 38 d_C_otherEnd_7 (by decide) (fun h => ?_) (fun h => ?_)
    · refine ev_iload_n 1 d_C_otherEnd_38 rfl rfl ?_
      exact ev_iret d_C_otherEnd_39 rfl rfl (Nat.le_of_ble_eq_true rfl) (Nat.le_of_ble_eq_true rfl)
    · exact absurd (nI_le (by omega) (by omega)) h
  | succ k ih =>
    intro i hi
    have step : ¬ (i ≠ e ∧ f i = f e) → Ev M_C_otherEnd none (some (.int (nI (oEnd f e i (k + 1))))) w 32 [(0, .ref j), (1, .int (nI e)), (2, .int (nI i))] [] w 0 0 := by
      intro h3
      unfold oEnd
      rw [if_neg h3]
      refine ev_iinc (v := _ + 1) d_C_otherEnd_32 rfl rfl (Nat.le_of_ble_eq_true rfl) rfl ?_
      rw [nI_1]
      refine ev_goto 2 d_C_otherEnd_35 (by decide) ?_
      exact ih (i + 1) (by omega)
    refine ev_iload_n 2 d_C_otherEnd_2 rfl rfl ?_
    refine ev_aload_n 0 d_C_otherEnd_3 rfl rfl ?_
    refine ev_callV M_C_ends [] (sp_C_ends hO) c_C_46 d_C_otherEnd_4 hO rfl (by decide) (Nat.le_of_ble_eq_true rfl) ⟨rfl, rfl⟩ rfl ?_
    refine ev_icmp_ge 38 d_C_otherEnd_7 (by decide) (fun h => ?_) (fun h => ?_)
    · exact absurd h (nI_ge (by omega) (by omega))
    · refine ev_iload_n 2 d_C_otherEnd_10 rfl rfl ?_
      refine ev_iload_n 1 d_C_otherEnd_11 rfl rfl ?_
      refine ev_icmp_eq 32 d_C_otherEnd_12 (by decide) (fun h2 => ?_) (fun h2 => ?_)
      · exact step (fun q => q.1 ((nI_eq (by omega) (by omega)).mp h2))
      · refine ev_aload_n 0 d_C_otherEnd_15 rfl rfl ?_
        refine ev_get f_C_9 d_C_otherEnd_16 hO rfl ?_
        refine ev_iload_n 2 d_C_otherEnd_19 rfl rfl ?_
        refine ev_iald d_C_otherEnd_20 hE (vp_in_nI (by omega) (by omega)) ?_
        refine ev_aload_n 0 d_C_otherEnd_21 rfl rfl ?_
        refine ev_get f_C_9 d_C_otherEnd_22 hO rfl ?_
        refine ev_iload_n 1 d_C_otherEnd_25 rfl rfl ?_
        refine ev_iald d_C_otherEnd_26 hE (vp_in_nI (by omega) (by omega)) ?_
        rw [nI_clamp (by omega), nI_clamp (by omega)]
        refine ev_icmp_ne 32 d_C_otherEnd_27 (by decide) (fun h3 => ?_) (fun h3 => ?_)
        · exact step (fun q => h3 q.2)
        · unfold oEnd
          rw [if_pos ⟨fun q => h2 (by rw [q]), h3⟩]
          refine ev_iload_n 2 d_C_otherEnd_30 rfl rfl ?_
          exact ev_iret d_C_otherEnd_31 rfl rfl (Nat.le_of_ble_eq_true rfl) (Nat.le_of_ble_eq_true rfl)
theorem sp_C_otherEnd (hO : w[j]? = some (.inr (2, [.ref je, .ref jg, .int (nI n)]))) (hE : w[je]? = some (.inl (.int, 32, .inl f))) (hn : n ≤ 8) {e : Nat} (he : e < 32) : Sp M_C_otherEnd [.ref j, .int (nI e)] w (some (.int (nI (oEnd f e 0 (4 * n))))) w := by
  refine Sp.of (by decide) (Nat.le_of_ble_eq_true rfl) ?_
  refine ev_iconst (v := 0) d_C_otherEnd_0 (by decide) ?_
  refine ev_istore_n 2 d_C_otherEnd_1 rfl (Nat.le_of_ble_eq_true rfl) rfl ?_
  exact lp_C_otherEnd hO hE hn he (4 * n) 0 (by omega)
theorem sp_C_follow (hO : w[j]? = some (.inr (2, [.ref je, .ref jg, .int (nI n)]))) (hE : w[je]? = some (.inl (.int, 32, .inl f))) (hn : n ≤ 8) {e : Nat} (he : e < 32) : Sp M_C_follow [.ref j, .int (nI e)] w (some (.int (nI (fol f n e)))) w := by
  refine Sp.of (by decide) (Nat.le_of_ble_eq_true rfl) ?_
  refine ev_aload_n 0 d_C_follow_0 rfl rfl ?_
  refine ev_iload_n 1 d_C_follow_1 rfl rfl ?_
  refine ev_callV M_C_otherEnd [_] (sp_C_otherEnd hO hE hn he) c_C_50 d_C_follow_2 hO rfl (by decide) (Nat.le_of_ble_eq_true rfl) ⟨rfl, rfl⟩ rfl ?_
  refine ev_iconst (v := 3) d_C_follow_5 (by decide) ?_
  refine ev_callS M_A_turned [_, _] (sp_A_turned w (k := 3) (oEnd_lt he (4 * n) 0 (by omega)) (by decide)) c_C_53 d_C_follow_6 rfl (by decide) (Nat.le_of_ble_eq_true rfl) ⟨rfl, rfl⟩ rfl ?_
  exact ev_iret d_C_follow_9 rfl rfl (Nat.le_of_ble_eq_true rfl) (Nat.le_of_ble_eq_true rfl)
end Cr
end
section
abbrev aI (N : Nat) (f : Nat → Int32) : zE := .inl (.int, N, .inl f)
abbrev aZ (N : Nat) (f : Nat → Int32) : zE := .inl (.boolean, N, .inl f)
abbrev aL (N : Nat) (f : Nat → Int64) : zE := .inl (.long, N, .inr (.inl f))
abbrev oC (je jg n : Nat) : zE := .inr (2, [.ref je, .ref jg, .int (nI n)])
theorem z_set_self {w : zW} {j : Nat} {c : zE} (h : w[j]? = some c) : w.set j c = w := by
  apply List.ext_getElem?
  intro k
  rw [List.getElem?_set]
  by_cases hk : j = k
  · subst hk
    rw [if_pos rfl, if_pos (List.getElem?_eq_some_iff.mp h).1, h]
  · rw [if_neg hk]
def inc (f g : Nat → Int32) (n e : Nat) : Nat := if cin g e = true then e else oEnd f e 0 (4 * n)
def outg (f g : Nat → Int32) (n e : Nat) : Nat := if cin g e = true then oEnd f e 0 (4 * n) else e
theorem inc_lt {f g : Nat → Int32} {n e : Nat} (hn : n ≤ 8) (he : e < 32) : inc f g n e < 32 := by
  have := oEnd_lt (f := f) (N := 32) he (4 * n) 0 (by omega)
  unfold inc
  split <;> omega
theorem outg_lt {f g : Nat → Int32} {n e : Nat} (hn : n ≤ 8) (he : e < 32) : outg f g n e < 32 := by
  have := oEnd_lt (f := f) (N := 32) he (4 * n) 0 (by omega)
  unfold outg
  split <;> omega
def brA (f g : Nat → Int32) (n : Nat) (p q : Int32) : Nat → Int32 := match eOn f g q true 0 (4 * n) with
  | none => f
  | some i => upd f i p
section Cr
variable {w : zW} {j je jg n : Nat} {f g : Nat → Int32}
theorem sp_C_incoming (hO : w[j]? = some (oC je jg n)) (hE : w[je]? = some (aI 32 f)) (hS : w[jg]? = some (aI 8 g)) (hn : n ≤ 8) {e : Nat} (he : e < 32) : Sp M_C_incoming [.ref j, .int (nI e)] w (some (.int (nI (inc f g n e)))) w := by
  refine Sp.of (by decide) (Nat.le_of_ble_eq_true rfl) ?_
  refine ev_aload_n 0 d_C_incoming_0 rfl rfl ?_
  refine ev_iload_n 1 d_C_incoming_1 rfl rfl ?_
  refine ev_callV M_C_comesIn [_] (sp_C_comesIn hO hS he) c_C_57 d_C_incoming_2 hO rfl (by decide) (Nat.le_of_ble_eq_true rfl) ⟨rfl, rfl⟩ rfl ?_
  refine ev_if_eq 12 d_C_incoming_5 (by decide) (fun h => ?_) (fun h => ?_)
  · have h1 : inc f g n e = oEnd f e 0 (4 * n) := by unfold inc; rw [(zb_0 _).mp h]; rfl
    rw [h1]
    refine ev_aload_n 0 d_C_incoming_12 rfl rfl ?_
    refine ev_iload_n 1 d_C_incoming_13 rfl rfl ?_
    refine ev_callV M_C_otherEnd [_] (sp_C_otherEnd hO hE hn he) c_C_50 d_C_incoming_14 hO rfl (by decide) (Nat.le_of_ble_eq_true rfl) ⟨rfl, rfl⟩ rfl ?_
    exact ev_iret d_C_incoming_17 rfl rfl (Nat.le_of_ble_eq_true rfl) (Nat.le_of_ble_eq_true rfl)
  · have h1 : inc f g n e = e := by unfold inc; rw [(zb_n0 _).mp h]; rfl
    rw [h1]
    refine ev_iload_n 1 d_C_incoming_8 rfl rfl ?_
    refine ev_goto 17 d_C_incoming_9 (by decide) ?_
    exact ev_iret d_C_incoming_17 rfl rfl (Nat.le_of_ble_eq_true rfl) (Nat.le_of_ble_eq_true rfl)
theorem sp_C_outgoing (hO : w[j]? = some (oC je jg n)) (hE : w[je]? = some (aI 32 f)) (hS : w[jg]? = some (aI 8 g)) (hn : n ≤ 8) {e : Nat} (he : e < 32) : Sp M_C_outgoing [.ref j, .int (nI e)] w (some (.int (nI (outg f g n e)))) w := by
  refine Sp.of (by decide) (Nat.le_of_ble_eq_true rfl) ?_
  refine ev_aload_n 0 d_C_outgoing_0 rfl rfl ?_
  refine ev_iload_n 1 d_C_outgoing_1 rfl rfl ?_
  refine ev_callV M_C_comesIn [_] (sp_C_comesIn hO hS he) c_C_57 d_C_outgoing_2 hO rfl (by decide) (Nat.le_of_ble_eq_true rfl) ⟨rfl, rfl⟩ rfl ?_
  refine ev_if_eq 16 d_C_outgoing_5 (by decide) (fun h => ?_) (fun h => ?_)
  · have h1 : outg f g n e = e := by unfold outg; rw [(zb_0 _).mp h]; rfl
    rw [h1]
    refine ev_iload_n 1 d_C_outgoing_16 rfl rfl ?_
    exact ev_iret d_C_outgoing_17 rfl rfl (Nat.le_of_ble_eq_true rfl) (Nat.le_of_ble_eq_true rfl)
  · have h1 : outg f g n e = oEnd f e 0 (4 * n) := by unfold outg; rw [(zb_n0 _).mp h]; rfl
    rw [h1]
    refine ev_aload_n 0 d_C_outgoing_8 rfl rfl ?_
    refine ev_iload_n 1 d_C_outgoing_9 rfl rfl ?_
    refine ev_callV M_C_otherEnd [_] (sp_C_otherEnd hO hE hn he) c_C_50 d_C_outgoing_10 hO rfl (by decide) (Nat.le_of_ble_eq_true rfl) ⟨rfl, rfl⟩ rfl ?_
    refine ev_goto 17 d_C_outgoing_13 (by decide) ?_
    exact ev_iret d_C_outgoing_17 rfl rfl (Nat.le_of_ble_eq_true rfl) (Nat.le_of_ble_eq_true rfl)
theorem sp_C_edgeBefore (hO : w[j]? = some (oC je jg n)) (hE : w[je]? = some (aI 32 f)) (hS : w[jg]? = some (aI 8 g)) (hn : n ≤ 8) {e : Nat} (he : e < 32) : Sp M_C_edgeBefore [.ref j, .int (nI e)] w (some (.int (f (opp (outg f g n e))))) w := by
  refine Sp.of (by decide) (Nat.le_of_ble_eq_true rfl) ?_
  have h1 := outg_lt (f := f) (g := g) hn he
  have h2 : opp (outg f g n e) < 32 := opp_lt h1
  refine ev_aload_n 0 d_C_edgeBefore_0 rfl rfl ?_
  refine ev_get f_C_9 d_C_edgeBefore_1 hO rfl ?_
  refine ev_aload_n 0 d_C_edgeBefore_4 rfl rfl ?_
  refine ev_iload_n 1 d_C_edgeBefore_5 rfl rfl ?_
  refine ev_callV M_C_outgoing [_] (sp_C_outgoing hO hE hS hn he) c_C_60 d_C_edgeBefore_6 hO rfl (by decide) (Nat.le_of_ble_eq_true rfl) ⟨rfl, rfl⟩ rfl ?_
  refine ev_callS M_A_opposite [_] (sp_A_opposite w h1) c_C_63 d_C_edgeBefore_9 rfl (by decide) (Nat.le_of_ble_eq_true rfl) ⟨rfl, rfl⟩ rfl ?_
  refine ev_iald d_C_edgeBefore_12 hE (vp_in_nI (n := opp (outg f g n e)) h2 (by omega)) ?_
  rw [nI_clamp (n := outg f g n e / 4 * 4 + (outg f g n e + 2) % 4) (by unfold opp at h2; omega)]
  exact ev_iret d_C_edgeBefore_13 rfl rfl (Nat.le_of_ble_eq_true rfl) (Nat.le_of_ble_eq_true rfl)
theorem sp_C_edgeBehind (hO : w[j]? = some (oC je jg n)) (hE : w[je]? = some (aI 32 f)) (hS : w[jg]? = some (aI 8 g)) (hn : n ≤ 8) {e : Nat} (he : e < 32) : Sp M_C_edgeBehind [.ref j, .int (nI e)] w (some (.int (f (opp (inc f g n e))))) w := by
  refine Sp.of (by decide) (Nat.le_of_ble_eq_true rfl) ?_
  have h1 := inc_lt (f := f) (g := g) hn he
  have h2 : opp (inc f g n e) < 32 := opp_lt h1
  refine ev_aload_n 0 d_C_edgeBehind_0 rfl rfl ?_
  refine ev_get f_C_9 d_C_edgeBehind_1 hO rfl ?_
  refine ev_aload_n 0 d_C_edgeBehind_4 rfl rfl ?_
  refine ev_iload_n 1 d_C_edgeBehind_5 rfl rfl ?_
  refine ev_callV M_C_incoming [_] (sp_C_incoming hO hE hS hn he) c_C_66 d_C_edgeBehind_6 hO rfl (by decide) (Nat.le_of_ble_eq_true rfl) ⟨rfl, rfl⟩ rfl ?_
  refine ev_callS M_A_opposite [_] (sp_A_opposite w h1) c_C_63 d_C_edgeBehind_9 rfl (by decide) (Nat.le_of_ble_eq_true rfl) ⟨rfl, rfl⟩ rfl ?_
  refine ev_iald d_C_edgeBehind_12 hE (vp_in_nI (n := opp (inc f g n e)) h2 (by omega)) ?_
  rw [nI_clamp (n := inc f g n e / 4 * 4 + (inc f g n e + 2) % 4) (by unfold opp at h2; omega)]
  exact ev_iret d_C_edgeBehind_13 rfl rfl (Nat.le_of_ble_eq_true rfl) (Nat.le_of_ble_eq_true rfl)
theorem lp_C_endOn (hO : w[j]? = some (oC je jg n)) (hE : w[je]? = some (aI 32 f)) (hS : w[jg]? = some (aI 8 g)) (hn : n ≤ 8) (x : Int32) (b : Bool) : ∀ k i, i + k = 4 * n → Ev M_C_endOn none (some (.int (oI (eOn f g x b i k)))) w 2 [(0, .ref j), (1, .int x), (2, .int (zb b)), (3, .int (nI i))] [] w 0 0 := by
  intro k
  induction k with
  | zero =>
    intro i hi
    refine ev_iload_n 3 d_C_endOn_2 rfl rfl ?_
    refine ev_aload_n 0 d_C_endOn_3 rfl rfl ?_
    refine ev_callV M_C_ends [] (sp_C_ends hO) c_C_46 d_C_endOn_4 hO rfl (by decide) (Nat.le_of_ble_eq_true rfl) ⟨rfl, rfl⟩ rfl ?_
    refine ev_icmp_ge 37 d_C_endOn_7 (by decide) (fun h => ?_) (fun h => ?_)
    · refine ev_iconst (v := -1) d_C_endOn_37 (by decide) ?_
      exact ev_iret d_C_endOn_38 rfl rfl (Nat.le_of_ble_eq_true rfl) (Nat.le_of_ble_eq_true rfl)
    · exact absurd (nI_le (by omega) (by omega)) h
  | succ k ih =>
    intro i hi
    have step : ¬ (f i = x ∧ cin g i = b) → Ev M_C_endOn none (some (.int (oI (eOn f g x b i (k + 1))))) w 31 [(0, .ref j), (1, .int x), (2, .int (zb b)), (3, .int (nI i))] [] w 0 0 := by
      intro h3
      unfold eOn
      rw [if_neg h3]
      refine ev_iinc (v := _ + 1) d_C_endOn_31 rfl rfl (Nat.le_of_ble_eq_true rfl) rfl ?_
      rw [nI_1]
      refine ev_goto 2 d_C_endOn_34 (by decide) ?_
      exact ih (i + 1) (by omega)
    refine ev_iload_n 3 d_C_endOn_2 rfl rfl ?_
    refine ev_aload_n 0 d_C_endOn_3 rfl rfl ?_
    refine ev_callV M_C_ends [] (sp_C_ends hO) c_C_46 d_C_endOn_4 hO rfl (by decide) (Nat.le_of_ble_eq_true rfl) ⟨rfl, rfl⟩ rfl ?_
    refine ev_icmp_ge 37 d_C_endOn_7 (by decide) (fun h => ?_) (fun h => ?_)
    · exact absurd h (nI_ge (by omega) (by omega))
    · refine ev_aload_n 0 d_C_endOn_10 rfl rfl ?_
      refine ev_get f_C_9 d_C_endOn_11 hO rfl ?_
      refine ev_iload_n 3 d_C_endOn_14 rfl rfl ?_
      refine ev_iald d_C_endOn_15 hE (vp_in_nI (by omega) (by omega)) ?_
      rw [nI_clamp (by omega)]
      refine ev_iload_n 1 d_C_endOn_16 rfl rfl ?_
      refine ev_icmp_ne 31 d_C_endOn_17 (by decide) (fun h2 => ?_) (fun h2 => ?_)
      · exact step (fun q => h2 q.1)
      · refine ev_aload_n 0 d_C_endOn_20 rfl rfl ?_
        refine ev_iload_n 3 d_C_endOn_21 rfl rfl ?_
        refine ev_callV M_C_comesIn [_] (sp_C_comesIn hO hS (by omega)) c_C_57 d_C_endOn_22 hO rfl (by decide) (Nat.le_of_ble_eq_true rfl) ⟨rfl, rfl⟩ rfl ?_
        refine ev_iload_n 2 d_C_endOn_25 rfl rfl ?_
        refine ev_icmp_ne 31 d_C_endOn_26 (by decide) (fun h3 => ?_) (fun h3 => ?_)
        · exact step (fun q => h3 (by rw [q.2]))
        · unfold eOn
          rw [if_pos ⟨h2, (zb_eq _ _).mp h3⟩]
          refine ev_iload_n 3 d_C_endOn_29 rfl rfl ?_
          exact ev_iret d_C_endOn_30 rfl rfl (Nat.le_of_ble_eq_true rfl) (Nat.le_of_ble_eq_true rfl)
theorem sp_C_endOn (hO : w[j]? = some (oC je jg n)) (hE : w[je]? = some (aI 32 f)) (hS : w[jg]? = some (aI 8 g)) (hn : n ≤ 8) (x : Int32) (b : Bool) : Sp M_C_endOn [.ref j, .int x, .int (zb b)] w (some (.int (oI (eOn f g x b 0 (4 * n))))) w := by
  refine Sp.of (by decide) (Nat.le_of_ble_eq_true rfl) ?_
  refine ev_iconst (v := 0) d_C_endOn_0 (by decide) ?_
  refine ev_istore_n 3 d_C_endOn_1 rfl (Nat.le_of_ble_eq_true rfl) rfl ?_
  exact lp_C_endOn hO hE hS hn x b (4 * n) 0 (by omega)
theorem nI_nm1 {i : Nat} (h : i < 2 ^ 31) : ¬ nI i = -1 := by
  intro q
  have h1 := nI_toInt h
  rw [q] at h1
  have h2 : (-1 : Int32).toInt = -1 := by decide
  omega
theorem sp_C_bringIn (hO : w[j]? = some (oC je jg n)) (hE : w[je]? = some (aI 32 f)) (hS : w[jg]? = some (aI 8 g)) (hn : n ≤ 8) (p q : Int32) : Sp M_C_bringIn [.ref j, .int p, .int q] w none (w.set je (aI 32 (brA f g n p q))) := by
  refine Sp.of (by decide) (Nat.le_of_ble_eq_true rfl) ?_
  refine ev_aload_n 0 d_C_bringIn_0 rfl rfl ?_
  refine ev_iload_n 2 d_C_bringIn_1 rfl rfl ?_
  refine ev_iconst (v := 1) d_C_bringIn_2 (by decide) ?_
  refine ev_callV M_C_endOn [_, _] (sp_C_endOn hO hE hS hn q true) c_C_69 d_C_bringIn_3 hO rfl (by decide) (Nat.le_of_ble_eq_true rfl) ⟨rfl, rfl⟩ rfl ?_
  cases ho : eOn f g q true 0 (4 * n) with
  | none =>
    have h1 : brA f g n p q = f := by unfold brA; rw [ho]
    rw [h1, z_set_self hE]
    refine ev_istore_n 3 d_C_bringIn_6 rfl (Nat.le_of_ble_eq_true rfl) rfl ?_
    refine ev_iload_n 3 d_C_bringIn_7 rfl rfl ?_
    refine ev_iconst (v := -1) d_C_bringIn_8 (by decide) ?_
    refine ev_icmp_eq 19 d_C_bringIn_9 (by decide) (fun h => ?_) (fun h => ?_)
    · exact ev_ret d_C_bringIn_19 rfl (Nat.le_of_ble_eq_true rfl) (Nat.le_of_ble_eq_true rfl)
    · exact absurd rfl h
  | some i =>
    have h1 : brA f g n p q = upd f i p := by unfold brA; rw [ho]
    have h2 := eOn_lt (N := 32) _ _ _ (by omega) ho
    rw [h1]
    refine ev_istore_n 3 d_C_bringIn_6 rfl (Nat.le_of_ble_eq_true rfl) rfl ?_
    refine ev_iload_n 3 d_C_bringIn_7 rfl rfl ?_
    refine ev_iconst (v := -1) d_C_bringIn_8 (by decide) ?_
    refine ev_icmp_eq 19 d_C_bringIn_9 (by decide) (fun h => ?_) (fun h => ?_)
    · exact absurd h (nI_nm1 (by omega))
    · refine ev_aload_n 0 d_C_bringIn_12 rfl rfl ?_
      refine ev_get f_C_9 d_C_bringIn_13 hO rfl ?_
      refine ev_iload_n 3 d_C_bringIn_16 rfl rfl ?_
      refine ev_iload_n 1 d_C_bringIn_17 rfl rfl ?_
      refine ev_iast d_C_bringIn_18 hE (vp_in_nI h2 (by omega)) ?_
      show Ev _ _ _ _ _ _ _ (w.set je (aI 32 (upd f (nI i).toNatClampNeg p))) _ _
      rw [nI_clamp (by omega)]
      exact ev_ret d_C_bringIn_19 rfl (Nat.le_of_ble_eq_true rfl) (Nat.le_of_ble_eq_true rfl)
theorem lp_C_rename (hn : n ≤ 8) (a b : Int32) : ∀ k i (w : zW) (f : Nat → Int32), i + k = 4 * n → w[j]? = some (oC je jg n) → w[je]? = some (aI 32 f) → Ev M_C_rename none none (w.set je (aI 32 (renA a b f i k))) 2 [(0, .ref j), (1, .int a), (2, .int b), (3, .int (nI i))] [] w 0 0 := by
  intro k
  induction k with
  | zero =>
    intro i w f hi hO hE
    have h1 : renA a b f i 0 = f := by unfold renA; rfl
    rw [h1, z_set_self hE]
    refine ev_iload_n 3 d_C_rename_2 rfl rfl ?_
    refine ev_aload_n 0 d_C_rename_3 rfl rfl ?_
    refine ev_callV M_C_ends [] (sp_C_ends hO) c_C_46 d_C_rename_4 hO rfl (by decide) (Nat.le_of_ble_eq_true rfl) ⟨rfl, rfl⟩ rfl ?_
    refine ev_icmp_ge 33 d_C_rename_7 (by decide) (fun h => ?_) (fun h => ?_)
    · exact ev_ret d_C_rename_33 rfl (Nat.le_of_ble_eq_true rfl) (Nat.le_of_ble_eq_true rfl)
    · exact absurd (nI_le (by omega) (by omega)) h
  | succ k ih =>
    intro i w f hi hO hE
    refine ev_iload_n 3 d_C_rename_2 rfl rfl ?_
    refine ev_aload_n 0 d_C_rename_3 rfl rfl ?_
    refine ev_callV M_C_ends [] (sp_C_ends hO) c_C_46 d_C_rename_4 hO rfl (by decide) (Nat.le_of_ble_eq_true rfl) ⟨rfl, rfl⟩ rfl ?_
    refine ev_icmp_ge 33 d_C_rename_7 (by decide) (fun h => ?_) (fun h => ?_)
    · exact absurd h (nI_ge (by omega) (by omega))
    · refine ev_aload_n 0 d_C_rename_10 rfl rfl ?_
      refine ev_get f_C_9 d_C_rename_11 hO rfl ?_
      refine ev_iload_n 3 d_C_rename_14 rfl rfl ?_
      refine ev_iald d_C_rename_15 hE (vp_in_nI (by omega) (by omega)) ?_
      rw [nI_clamp (by omega)]
      refine ev_iload_n 1 d_C_rename_16 rfl rfl ?_
      refine ev_icmp_ne 27 d_C_rename_17 (by decide) (fun h2 => ?_) (fun h2 => ?_)
      · have h3 : renA a b f i (k + 1) = renA a b f (i + 1) k := by rw [renA, if_neg h2]
        rw [h3]
        refine ev_iinc (v := _ + 1) d_C_rename_27 rfl rfl (Nat.le_of_ble_eq_true rfl) rfl ?_
        rw [nI_1]
        refine ev_goto 2 d_C_rename_30 (by decide) ?_
        exact ih (i + 1) w f (by omega) hO hE
      · have h3 : renA a b f i (k + 1) = renA a b (upd f i b) (i + 1) k := by rw [renA, if_pos h2]
        rw [h3]
        refine ev_aload_n 0 d_C_rename_20 rfl rfl ?_
        refine ev_get f_C_9 d_C_rename_21 hO rfl ?_
        refine ev_iload_n 3 d_C_rename_24 rfl rfl ?_
        refine ev_iload_n 2 d_C_rename_25 rfl rfl ?_
        refine ev_iast d_C_rename_26 hE (vp_in_nI (by omega) (by omega)) ?_
        refine ev_iinc (v := _ + 1) d_C_rename_27 rfl rfl (Nat.le_of_ble_eq_true rfl) rfl ?_
        rw [nI_clamp (by omega), nI_1]
        refine ev_goto 2 d_C_rename_30 (by decide) ?_
        have h4 := ih (i + 1) (w.set je (aI 32 (upd f i b))) (upd f i b) (by omega) (zs_ne (z_ne hE hO (by intro h; cases h)) hO) (zs_self hE)
        rw [List.set_set] at h4
        exact h4
theorem sp_C_rename (hO : w[j]? = some (oC je jg n)) (hE : w[je]? = some (aI 32 f)) (hn : n ≤ 8) (a b : Int32) : Sp M_C_rename [.ref j, .int a, .int b] w none (w.set je (aI 32 (renA a b f 0 (4 * n)))) := by
  refine Sp.of (by decide) (Nat.le_of_ble_eq_true rfl) ?_
  refine ev_iconst (v := 0) d_C_rename_0 (by decide) ?_
  refine ev_istore_n 3 d_C_rename_1 rfl (Nat.le_of_ble_eq_true rfl) rfl ?_
  exact lp_C_rename hn a b (4 * n) 0 w f (by omega) hO hE
end Cr
end
section
theorem z_p2 (a : Nat) : nI a + 2 = nI (a + 2) := nI_add a 2
theorem z_p3 (a : Nat) : nI a + 3 = nI (a + 3) := nI_add a 3
theorem z_p4 (a : Nat) : nI a + 4 = nI (a + 4) := nI_add a 4
def sgn (b : Bool) : Int32 := match b with
  | true => 1
  | false => -1
def apE (f : Nat → Int32) (n : Nat) (a b c d : Int32) : Nat → Int32 := upd (upd (upd (upd f (4 * n) a) (4 * n + 1) b) (4 * n + 2) c) (4 * n + 3) d
def rmE (f : Nat → Int32) (n k : Nat) : Nat → Int32 := va_cpy f f (4 * k + 4) (4 * k) (4 * (n - k - 1))
def rmS (g : Nat → Int32) (n k : Nat) : Nat → Int32 := va_cpy g g (k + 1) k (n - k - 1)
section LDC
variable {M : zM} {X : Option (Nat × (Nat → Int32))} {r : Option Value} {wf : zW} {pc : Nat} {lv : List (Nat × Value)} {st : List Value} {w : zW} {nc ns : Nat}
theorem ev_ldcw {index : Nat} {v : Int32} (hw : Cond.constant M.1.cls index v ∈ zG) (hd : decode M.2.1 pc = .ok (.ldc_w index, 3)) (k : Ev M X r wf (pc + 3) lv (.int v :: st) w nc ns) : Ev M X r wf pc lv st w nc ns := fun p l e s m args below meth c Q D dA b A ad0 C E H locs ad ls B hl => lv_ldcw C.1 C.2.1 C.2.2.2.2.1 (C.2.2.2.1 _ hw) hd (k p l e s m args below meth c Q D dA b A ad0 C E H locs ad ls B hl)
end LDC
section Cr
variable {w : zW} {j je jg n : Nat} {f g : Nat → Int32}
theorem sp_C_append (hO : w[j]? = some (oC je jg n)) (hE : w[je]? = some (aI 32 f)) (hS : w[jg]? = some (aI 8 g)) (hn : n < 8) (a b c d : Int32) (pos : Bool) : Sp M_C_append [.ref j, .int a, .int b, .int c, .int d, .int (zb pos)] w none (((w.set je (aI 32 (apE f n a b c d))).set jg (aI 8 (upd g n (sgn pos)))).set j (oC je jg (n + 1))) := by
  refine Sp.of (by decide) (Nat.le_of_ble_eq_true rfl) ?_
  have n1 : je ≠ j := z_ne hE hO (by intro h; cases h)
  have n2 : jg ≠ j := z_ne hS hO (by intro h; cases h)
  have n3 : je ≠ jg := z_ne hE hS (by intro h; cases h)
  refine ev_aload_n 0 d_C_append_0 rfl rfl ?_
  refine ev_callV M_C_isFull [] (sp_C_isFull hO (by omega)) c_C_22 d_C_append_1 hO rfl (by decide) (Nat.le_of_ble_eq_true rfl) ⟨rfl, rfl⟩ rfl ?_
  refine ev_if_eq 8 d_C_append_4 (by decide) (fun h => ?_) (fun h => ?_)
  · refine ev_iconst (v := 4) d_C_append_8 (by decide) ?_
    refine ev_aload_n 0 d_C_append_9 rfl rfl ?_
    refine ev_get f_C_18 d_C_append_10 hO rfl ?_
    refine ev_imul d_C_append_13 ?_
    rw [z_m4]
    refine ev_istore d_C_append_14 (Nat.le_of_ble_eq_true rfl) rfl ?_
    refine ev_aload_n 0 d_C_append_16 rfl rfl ?_
    refine ev_get f_C_9 d_C_append_17 hO rfl ?_
    refine ev_iload d_C_append_20 rfl ?_
    refine ev_iload_n 1 d_C_append_22 rfl rfl ?_
    refine ev_iast d_C_append_23 hE (vp_in_nI (by omega) (by omega)) ?_
    rw [nI_clamp (by omega)]
    refine ev_aload_n 0 d_C_append_24 rfl rfl ?_
    refine ev_get f_C_9 d_C_append_25 (zs_ne (by assumption) hO) rfl ?_
    refine ev_iload d_C_append_28 rfl ?_
    refine ev_iconst (v := 1) d_C_append_30 (by decide) ?_
    refine ev_iadd d_C_append_31 ?_
    rw [nI_1]
    refine ev_iload_n 2 d_C_append_32 rfl rfl ?_
    refine ev_iast d_C_append_33 (zs_self hE) (vp_in_nI (by omega) (by omega)) ?_
    rw [nI_clamp (by omega), List.set_set]
    refine ev_aload_n 0 d_C_append_34 rfl rfl ?_
    refine ev_get f_C_9 d_C_append_35 (zs_ne n1 hO) rfl ?_
    refine ev_iload d_C_append_38 rfl ?_
    refine ev_iconst (v := 2) d_C_append_40 (by decide) ?_
    refine ev_iadd d_C_append_41 ?_
    rw [z_p2]
    refine ev_iload_n 3 d_C_append_42 rfl rfl ?_
    refine ev_iast d_C_append_43 (zs_self hE) (vp_in_nI (by omega) (by omega)) ?_
    rw [nI_clamp (by omega), List.set_set]
    refine ev_aload_n 0 d_C_append_44 rfl rfl ?_
    refine ev_get f_C_9 d_C_append_45 (zs_ne n1 hO) rfl ?_
    refine ev_iload d_C_append_48 rfl ?_
    refine ev_iconst (v := 3) d_C_append_50 (by decide) ?_
    refine ev_iadd d_C_append_51 ?_
    rw [z_p3]
    refine ev_iload d_C_append_52 rfl ?_
    refine ev_iast d_C_append_54 (zs_self hE) (vp_in_nI (by omega) (by omega)) ?_
    rw [nI_clamp (by omega), List.set_set]
    have key : Ev M_C_append none none (((w.set je (aI 32 (apE f n a b c d))).set jg (aI 8 (upd g n (sgn pos)))).set j (oC je jg (n + 1))) 73 [(0, .ref j), (1, .int a), (2, .int b), (3, .int c), (4, .int d), (5, .int (zb pos)), (6, .int (nI (4 * n)))] [.int (sgn pos), .int (nI n), .ref jg] (w.set je (aI 32 (apE f n a b c d))) 0 0 := by
      have hO1 : (w.set je (aI 32 (apE f n a b c d)))[j]? = some (oC je jg n) := zs_ne n1 hO
      have hS1 : (w.set je (aI 32 (apE f n a b c d)))[jg]? = some (aI 8 g) := zs_ne n3 hS
      refine ev_iast d_C_append_73 hS1 (vp_in_nI (by omega) (by omega)) ?_
      rw [nI_clamp (by omega)]
      refine ev_aload_n 0 d_C_append_74 rfl rfl ?_
      refine ev_dup d_C_append_75 rfl ?_
      refine ev_get f_C_18 d_C_append_76 (zs_ne (by assumption) hO1) rfl ?_
      refine ev_iconst (v := 1) d_C_append_79 (by decide) ?_
      refine ev_iadd d_C_append_80 ?_
      rw [nI_1]
      refine ev_put p_C_18 d_C_append_81 (zs_ne (by assumption) hO1) (fun _ _ => ⟨rfl, rfl⟩) (Nat.le_of_ble_eq_true rfl) ?_
      exact ev_ret d_C_append_84 rfl (Nat.le_of_ble_eq_true rfl) (Nat.le_of_ble_eq_true rfl)
    refine ev_aload_n 0 d_C_append_55 rfl rfl ?_
    refine ev_get f_C_15 d_C_append_56 (zs_ne n1 hO) rfl ?_
    refine ev_aload_n 0 d_C_append_59 rfl rfl ?_
    refine ev_get f_C_18 d_C_append_60 (zs_ne n1 hO) rfl ?_
    refine ev_iload d_C_append_63 rfl ?_
    refine ev_if_eq 72 d_C_append_65 (by decide) (fun h2 => ?_) (fun h2 => ?_)
    · have h3 : pos = false := (zb_0 _).mp h2
      subst h3
      refine ev_iconst (v := -1) d_C_append_72 (by decide) ?_
      exact key
    · have h3 : pos = true := (zb_n0 _).mp h2
      subst h3
      refine ev_iconst (v := 1) d_C_append_68 (by decide) ?_
      refine ev_goto 73 d_C_append_69 (by decide) ?_
      exact key
  · rw [decide_eq_false (by omega)] at h
    exact absurd rfl h
theorem sp_C_remove_no (hO : w[j]? = some (oC je jg n)) {x : Int32} (hx : ¬ (¬ x < 0 ∧ x < nI n)) : Sp M_C_remove [.ref j, .int x] w none w := by
  refine Sp.of (by decide) (Nat.le_of_ble_eq_true rfl) ?_
  refine ev_aload_n 0 d_C_remove_0 rfl rfl ?_
  refine ev_iload_n 1 d_C_remove_1 rfl rfl ?_
  refine ev_callV M_C_has [_] (sp_C_has hO x) c_C_26 d_C_remove_2 hO rfl (by decide) (Nat.le_of_ble_eq_true rfl) ⟨rfl, rfl⟩ rfl ?_
  rw [decide_eq_false hx]
  refine ev_if_ne 9 d_C_remove_5 (by decide) (fun h => ?_) (fun h => ?_)
  · exact absurd rfl h
  · exact ev_ret d_C_remove_8 rfl (Nat.le_of_ble_eq_true rfl) (Nat.le_of_ble_eq_true rfl)
theorem sp_C_remove (hO : w[j]? = some (oC je jg n)) (hE : w[je]? = some (aI 32 f)) (hS : w[jg]? = some (aI 8 g)) (hn : n ≤ 8) {k : Nat} (hk : k < n) : Sp M_C_remove [.ref j, .int (nI k)] w none (((w.set je (aI 32 (rmE f n k))).set jg (aI 8 (rmS g n k))).set j (oC je jg (n - 1))) := by
  refine Sp.of (by decide) (Nat.le_of_ble_eq_true rfl) ?_
  have n1 : je ≠ j := z_ne hE hO (by intro h; cases h)
  have n2 : jg ≠ j := z_ne hS hO (by intro h; cases h)
  have n3 : je ≠ jg := z_ne hE hS (by intro h; cases h)
  refine ev_aload_n 0 d_C_remove_0 rfl rfl ?_
  refine ev_iload_n 1 d_C_remove_1 rfl rfl ?_
  refine ev_callV M_C_has [_] (sp_C_has hO (nI k)) c_C_26 d_C_remove_2 hO rfl (by decide) (Nat.le_of_ble_eq_true rfl) ⟨rfl, rfl⟩ rfl ?_
  rw [decide_eq_true ⟨nI_pos (by omega), nI_lt hk (by omega)⟩]
  refine ev_if_ne 9 d_C_remove_5 (by decide) (fun h => ?_) (fun h => ?_)
  · refine ev_aload_n 0 d_C_remove_9 rfl rfl ?_
    refine ev_get f_C_18 d_C_remove_10 hO rfl ?_
    refine ev_iload_n 1 d_C_remove_13 rfl rfl ?_
    refine ev_isub d_C_remove_14 ?_
    refine ev_iconst (v := 1) d_C_remove_15 (by decide) ?_
    refine ev_isub d_C_remove_16 ?_
    have e1 : nI n - nI k - 1 = nI (n - k - 1) := by
      rw [pk_sub (by omega), show n - k = n - k - 1 + 1 by omega, nI_pred]
      rfl
    rw [e1]
    refine ev_istore_n 2 d_C_remove_17 rfl (Nat.le_of_ble_eq_true rfl) rfl ?_
    refine ev_aload_n 0 d_C_remove_18 rfl rfl ?_
    refine ev_get f_C_9 d_C_remove_19 hO rfl ?_
    refine ev_iconst (v := 4) d_C_remove_22 (by decide) ?_
    refine ev_iload_n 1 d_C_remove_23 rfl rfl ?_
    refine ev_imul d_C_remove_24 ?_
    rw [z_m4]
    refine ev_iconst (v := 4) d_C_remove_25 (by decide) ?_
    refine ev_iadd d_C_remove_26 ?_
    rw [z_p4]
    refine ev_aload_n 0 d_C_remove_27 rfl rfl ?_
    refine ev_get f_C_9 d_C_remove_28 hO rfl ?_
    refine ev_iconst (v := 4) d_C_remove_31 (by decide) ?_
    refine ev_iload_n 1 d_C_remove_32 rfl rfl ?_
    refine ev_imul d_C_remove_33 ?_
    rw [z_m4]
    refine ev_iconst (v := 4) d_C_remove_34 (by decide) ?_
    refine ev_iload_n 2 d_C_remove_35 rfl rfl ?_
    refine ev_imul d_C_remove_36 ?_
    rw [z_m4]
    refine ev_copyi c_C_30 wc_n wc_s wc_i d_C_remove_37 hE hE (nI_pos (by omega)) (nI_pos (by omega)) (nI_pos (by omega)) (by rw [nI_clamp (by omega), nI_clamp (by omega)]; omega) (by rw [nI_clamp (by omega), nI_clamp (by omega)]; omega) (by decide) (by decide) ?_
    rw [nI_clamp (by omega), nI_clamp (by omega), nI_clamp (by omega)]
    have hO1 : (w.set je (aI 32 (rmE f n k)))[j]? = some (oC je jg n) := zs_ne n1 hO
    have hS1 : (w.set je (aI 32 (rmE f n k)))[jg]? = some (aI 8 g) := zs_ne n3 hS
    show Ev _ _ _ _ _ _ _ (w.set je (aI 32 (rmE f n k))) _ _
    refine ev_aload_n 0 d_C_remove_40 rfl rfl ?_
    refine ev_get f_C_15 d_C_remove_41 hO1 rfl ?_
    refine ev_iload_n 1 d_C_remove_44 rfl rfl ?_
    refine ev_iconst (v := 1) d_C_remove_45 (by decide) ?_
    refine ev_iadd d_C_remove_46 ?_
    rw [nI_1]
    refine ev_aload_n 0 d_C_remove_47 rfl rfl ?_
    refine ev_get f_C_15 d_C_remove_48 hO1 rfl ?_
    refine ev_iload_n 1 d_C_remove_51 rfl rfl ?_
    refine ev_iload_n 2 d_C_remove_52 rfl rfl ?_
    refine ev_copyi c_C_30 wc_n wc_s wc_i d_C_remove_53 hS1 hS1 (nI_pos (by omega)) (nI_pos (by omega)) (nI_pos (by omega)) (by rw [nI_clamp (by omega), nI_clamp (by omega)]; omega) (by rw [nI_clamp (by omega), nI_clamp (by omega)]; omega) (by decide) (by decide) ?_
    rw [nI_clamp (by omega), nI_clamp (by omega), nI_clamp (by omega)]
    have hO2 : ((w.set je (aI 32 (rmE f n k))).set jg (aI 8 (rmS g n k)))[j]? = some (oC je jg n) := zs_ne n2 hO1
    show Ev _ _ _ _ _ _ _ ((w.set je (aI 32 (rmE f n k))).set jg (aI 8 (rmS g n k))) _ _
    refine ev_aload_n 0 d_C_remove_56 rfl rfl ?_
    refine ev_dup d_C_remove_57 rfl ?_
    refine ev_get f_C_18 d_C_remove_58 hO2 rfl ?_
    refine ev_iconst (v := 1) d_C_remove_61 (by decide) ?_
    refine ev_isub d_C_remove_62 ?_
    have e2 : nI n - 1 = nI (n - 1) := by
      rw [show n = n - 1 + 1 by omega, nI_pred]
      rfl
    rw [e2]
    refine ev_put p_C_18 d_C_remove_63 hO2 (fun _ _ => ⟨rfl, rfl⟩) (Nat.le_of_ble_eq_true rfl) ?_
    exact ev_ret d_C_remove_66 rfl (Nat.le_of_ble_eq_true rfl) (Nat.le_of_ble_eq_true rfl)
  · exact absurd h (by decide)
theorem sp_C_copyFrom {k ke kg m : Nat} {f2 g2 : Nat → Int32} (hO : w[j]? = some (oC je jg n)) (hE : w[je]? = some (aI 32 f)) (hS : w[jg]? = some (aI 8 g)) (hO2 : w[k]? = some (oC ke kg m)) (hE2 : w[ke]? = some (aI 32 f2)) (hS2 : w[kg]? = some (aI 8 g2)) : Sp M_C_copyFrom [.ref j, .ref k] w none (((w.set je (aI 32 (va_cpy f2 f 0 0 32))).set jg (aI 8 (va_cpy g2 g 0 0 8))).set j (oC je jg m)) := by
  refine Sp.of (by decide) (Nat.le_of_ble_eq_true rfl) ?_
  have n1 : je ≠ j := z_ne hE hO (by intro h; cases h)
  have n2 : jg ≠ j := z_ne hS hO (by intro h; cases h)
  have n3 : je ≠ jg := z_ne hE hS (by intro h; cases h)
  have n4 : je ≠ k := z_ne hE hO2 (by intro h; cases h)
  have n5 : jg ≠ k := z_ne hS hO2 (by intro h; cases h)
  have n6 : je ≠ kg := z_ne hE hS2 (by intro h; cases h)
  refine ev_aload_n 1 d_C_copyFrom_0 rfl rfl ?_
  refine ev_get f_C_9 d_C_copyFrom_1 hO2 rfl ?_
  refine ev_iconst (v := 0) d_C_copyFrom_4 (by decide) ?_
  refine ev_aload_n 0 d_C_copyFrom_5 rfl rfl ?_
  refine ev_get f_C_9 d_C_copyFrom_6 hO rfl ?_
  refine ev_iconst (v := 0) d_C_copyFrom_9 (by decide) ?_
  refine ev_bipush (v := 32) d_C_copyFrom_10 (by decide) ?_
  refine ev_copyi c_C_30 wc_n wc_s wc_i d_C_copyFrom_12 hE2 hE (by decide) (by decide) (by decide) (by decide) (by decide) (by decide) (by decide) ?_
  have hO' := zs_ne (c := aI 32 (va_cpy f2 f 0 0 32)) n1 hO
  have hOo := zs_ne (c := aI 32 (va_cpy f2 f 0 0 32)) n4 hO2
  have hS' := zs_ne (c := aI 32 (va_cpy f2 f 0 0 32)) n3 hS
  have hSo := zs_ne (c := aI 32 (va_cpy f2 f 0 0 32)) n6 hS2
  show Ev _ _ _ _ _ _ _ (w.set je (aI 32 (va_cpy f2 f 0 0 32))) _ _
  refine ev_aload_n 1 d_C_copyFrom_15 rfl rfl ?_
  refine ev_get f_C_15 d_C_copyFrom_16 hOo rfl ?_
  refine ev_iconst (v := 0) d_C_copyFrom_19 (by decide) ?_
  refine ev_aload_n 0 d_C_copyFrom_20 rfl rfl ?_
  refine ev_get f_C_15 d_C_copyFrom_21 hO' rfl ?_
  refine ev_iconst (v := 0) d_C_copyFrom_24 (by decide) ?_
  refine ev_bipush (v := 8) d_C_copyFrom_25 (by decide) ?_
  refine ev_copyi c_C_30 wc_n wc_s wc_i d_C_copyFrom_27 hSo hS' (by decide) (by decide) (by decide) (by decide) (by decide) (by decide) (by decide) ?_
  have hO3 := zs_ne (c := aI 8 (va_cpy g2 g 0 0 8)) n2 hO'
  have hO4 := zs_ne (c := aI 8 (va_cpy g2 g 0 0 8)) n5 hOo
  show Ev _ _ _ _ _ _ _ ((w.set je (aI 32 (va_cpy f2 f 0 0 32))).set jg (aI 8 (va_cpy g2 g 0 0 8))) _ _
  refine ev_aload_n 0 d_C_copyFrom_30 rfl rfl ?_
  refine ev_aload_n 1 d_C_copyFrom_31 rfl rfl ?_
  refine ev_get f_C_18 d_C_copyFrom_32 hO4 rfl ?_
  refine ev_put p_C_18 d_C_copyFrom_35 hO3 (fun _ _ => ⟨rfl, rfl⟩) (Nat.le_of_ble_eq_true rfl) ?_
  exact ev_ret d_C_copyFrom_38 rfl (Nat.le_of_ble_eq_true rfl) (Nat.le_of_ble_eq_true rfl)
end Cr
-- Arrays.fill
theorem lp_F_fillI {ja N : Nat} (hN : N < 2 ^ 31) (v : Int32) : ∀ k i (w : zW) (h : Nat → Int32), i + k = N → w[ja]? = some (aI N h) → Ev M_F_fillI none none (w.set ja (aI N (fun t => if i ≤ t ∧ t < N then v else h t))) 5 [(0, .ref ja), (1, .int v), (2, .int (nI i)), (3, .int (nI N))] [] w 0 0 := by
  intro k
  induction k with
  | zero =>
    intro i w h hi hA
    have e1 : (fun t => if i ≤ t ∧ t < N then v else h t) = h := by
      funext t
      rw [if_neg (by omega)]
    rw [e1, z_set_self hA]
    refine ev_iload_n 2 d_F_fillI_5 rfl rfl ?_
    refine ev_iload_n 3 d_F_fillI_6 rfl rfl ?_
    refine ev_icmp_ge 20 d_F_fillI_7 (by decide) (fun h1 => ?_) (fun h1 => ?_)
    · exact ev_ret d_F_fillI_20 rfl (Nat.le_of_ble_eq_true rfl) (Nat.le_of_ble_eq_true rfl)
    · exact absurd (nI_le (by omega) (by omega)) h1
  | succ k ih =>
    intro i w h hi hA
    refine ev_iload_n 2 d_F_fillI_5 rfl rfl ?_
    refine ev_iload_n 3 d_F_fillI_6 rfl rfl ?_
    refine ev_icmp_ge 20 d_F_fillI_7 (by decide) (fun h1 => ?_) (fun h1 => ?_)
    · exact absurd h1 (nI_ge (by omega) (by omega))
    · refine ev_aload_n 0 d_F_fillI_10 rfl rfl ?_
      refine ev_iload_n 2 d_F_fillI_11 rfl rfl ?_
      refine ev_iload_n 1 d_F_fillI_12 rfl rfl ?_
      refine ev_iast d_F_fillI_13 hA (vp_in_nI (by omega) (by omega)) ?_
      refine ev_iinc (v := _ + 1) d_F_fillI_14 rfl rfl (Nat.le_of_ble_eq_true rfl) rfl ?_
      rw [nI_clamp (by omega), nI_1]
      refine ev_goto 5 d_F_fillI_17 (by decide) ?_
      have h4 := ih (i + 1) (w.set ja (aI N (upd h i v))) (upd h i v) (by omega) (zs_self hA)
      rw [List.set_set] at h4
      have e1 : (fun t => if i + 1 ≤ t ∧ t < N then v else upd h i v t) = (fun t => if i ≤ t ∧ t < N then v else h t) := by
        funext t
        by_cases h5 : t = i
        · subst h5
          rw [if_neg (by omega), if_pos (by omega)]
          exact pk_us
        · rw [pk_un h5]
          by_cases h6 : i + 1 ≤ t ∧ t < N
          · rw [if_pos h6, if_pos (by omega)]
          · rw [if_neg h6, if_neg (by omega)]
      rw [e1] at h4
      exact h4
theorem sp_F_fillI {w : zW} {ja N : Nat} {h : Nat → Int32} (hN : N < 2 ^ 31) (hA : w[ja]? = some (aI N h)) (v : Int32) : Sp M_F_fillI [.ref ja, .int v] w none (w.set ja (aI N (fun t => if t < N then v else h t))) := by
  refine Sp.of (by decide) (Nat.le_of_ble_eq_true rfl) ?_
  refine ev_iconst (v := 0) d_F_fillI_0 (by decide) ?_
  refine ev_istore_n 2 d_F_fillI_1 rfl (Nat.le_of_ble_eq_true rfl) rfl ?_
  refine ev_aload_n 0 d_F_fillI_2 rfl rfl ?_
  refine ev_alen d_F_fillI_3 hA rfl ?_
  refine ev_istore_n 3 d_F_fillI_4 rfl (Nat.le_of_ble_eq_true rfl) rfl ?_
  have h1 := lp_F_fillI hN v N 0 w h (by omega) hA
  have e1 : (fun t => if 0 ≤ t ∧ t < N then v else h t) = (fun t => if t < N then v else h t) := by
    funext t
    congr 1
    simp
  rw [e1] at h1
  exact h1
theorem lp_F_fillL {ja N : Nat} (hN : N < 2 ^ 31) (v : Int64) : ∀ k i (w : zW) (h : Nat → Int64), i + k = N → w[ja]? = some (aL N h) → Ev M_F_fillL none none (w.set ja (aL N (fun t => if i ≤ t ∧ t < N then v else h t))) 6 [(0, .ref ja), (1, .long v), (3, .int (nI i)), (4, .int (nI N))] [] w 0 0 := by
  intro k
  induction k with
  | zero =>
    intro i w h hi hA
    have e1 : (fun t => if i ≤ t ∧ t < N then v else h t) = h := by
      funext t
      rw [if_neg (by omega)]
    rw [e1, z_set_self hA]
    refine ev_iload_n 3 d_F_fillL_6 rfl rfl ?_
    refine ev_iload d_F_fillL_7 rfl ?_
    refine ev_icmp_ge 22 d_F_fillL_9 (by decide) (fun h1 => ?_) (fun h1 => ?_)
    · exact ev_ret d_F_fillL_22 rfl (Nat.le_of_ble_eq_true rfl) (Nat.le_of_ble_eq_true rfl)
    · exact absurd (nI_le (by omega) (by omega)) h1
  | succ k ih =>
    intro i w h hi hA
    refine ev_iload_n 3 d_F_fillL_6 rfl rfl ?_
    refine ev_iload d_F_fillL_7 rfl ?_
    refine ev_icmp_ge 22 d_F_fillL_9 (by decide) (fun h1 => ?_) (fun h1 => ?_)
    · exact absurd h1 (nI_ge (by omega) (by omega))
    · refine ev_aload_n 0 d_F_fillL_12 rfl rfl ?_
      refine ev_iload_n 3 d_F_fillL_13 rfl rfl ?_
      refine ev_lload_n 1 d_F_fillL_14 rfl rfl ?_
      refine ev_last d_F_fillL_15 hA (vp_in_nI (by omega) (by omega)) ?_
      refine ev_iinc (v := _ + 1) d_F_fillL_16 rfl rfl (Nat.le_of_ble_eq_true rfl) rfl ?_
      rw [nI_clamp (by omega), nI_1]
      refine ev_goto 6 d_F_fillL_19 (by decide) ?_
      have h4 := ih (i + 1) (w.set ja (aL N (vp_updL h i v))) (vp_updL h i v) (by omega) (zs_self hA)
      rw [List.set_set] at h4
      have e1 : (fun t => if i + 1 ≤ t ∧ t < N then v else vp_updL h i v t) = (fun t => if i ≤ t ∧ t < N then v else h t) := by
        funext t
        by_cases h5 : t = i
        · subst h5
          rw [if_neg (by omega), if_pos (by omega)]
          exact pk_uLs
        · rw [pk_uLn h5]
          by_cases h6 : i + 1 ≤ t ∧ t < N
          · rw [if_pos h6, if_pos (by omega)]
          · rw [if_neg h6, if_neg (by omega)]
      rw [e1] at h4
      exact h4
theorem sp_F_fillL {w : zW} {ja N : Nat} {h : Nat → Int64} (hN : N < 2 ^ 31) (hA : w[ja]? = some (aL N h)) (v : Int64) : Sp M_F_fillL [.ref ja, .long v] w none (w.set ja (aL N (fun t => if t < N then v else h t))) := by
  refine Sp.of (by decide) (Nat.le_of_ble_eq_true rfl) ?_
  refine ev_iconst (v := 0) d_F_fillL_0 (by decide) ?_
  refine ev_istore_n 3 d_F_fillL_1 rfl (Nat.le_of_ble_eq_true rfl) rfl ?_
  refine ev_aload_n 0 d_F_fillL_2 rfl rfl ?_
  refine ev_alen d_F_fillL_3 hA rfl ?_
  refine ev_istore d_F_fillL_4 (Nat.le_of_ble_eq_true rfl) rfl ?_
  have h1 := lp_F_fillL hN v N 0 w h (by omega) hA
  have e1 : (fun t => if 0 ≤ t ∧ t < N then v else h t) = (fun t => if t < N then v else h t) := by
    funext t
    congr 1
    simp
  rw [e1] at h1
  exact h1
end
section
def ftA (f g : Nat → Int32) (e : Nat) : Nat → Nat → Int32 → Int32 → Bool
  | _, 0, b, c => decide (b = 2) && decide (c = 1)
  | i, k + 1, b, c => if f i = f e then ftA f g e (i + 1) k (b + 1) (c + zb (cin g i)) else ftA f g e (i + 1) k b c
def ftAll (f g : Nat → Int32) (n : Nat) : Nat → Nat → Bool
  | _, 0 => true
  | i, k + 1 => if ftA f g i 0 (4 * n) 0 0 = true then ftAll f g n (i + 1) k else false
def mkF (nx : Nat → Nat) : Nat → (Nat → Int32) → Nat → Nat → Int32
  | 0, s, _ => s
  | k + 1, s, e => if s e = 0 then mkF nx k (upd s e 1) (nx e) else s
def fcs (p : Nat → Bool) (nx : Nat → Nat) : Nat → Nat → (Nat → Int32) → Int32 → Int32 × (Nat → Int32)
  | _, 0, s, c => (c, s)
  | i, k + 1, s, c => if p i = true ∧ s i = 0 then fcs p nx (i + 1) k (mkF nx 32 s i) (c + 1) else fcs p nx (i + 1) k s c
def piI : (Nat → Int32) → Nat → Nat → Nat → Int32
  | q, _, 0 => q
  | q, i, k + 1 => piI (upd q i (nI i)) (i + 1) k
def pcs (oe : Nat → Nat) : Nat → Nat → (Nat → Int32) → Int32 → Int32 × (Nat → Int32)
  | _, 0, q, c => (c, q)
  | i, k + 1, q, c => if q (i / 4) = q (oe i / 4) then pcs oe (i + 1) k q c else pcs oe (i + 1) k (renA (q (oe i / 4)) (q (i / 4)) q 0 8) (c + (-1))
def oth (f : Nat → Int32) (n e : Nat) : Nat := oEnd f e 0 (4 * n)
theorem oth_lt {f : Nat → Int32} {n e : Nat} (hn : n ≤ 8) (he : e < 32) : oth f n e < 32 := oEnd_lt he _ _ (by omega)
def fl0 (s : Nat → Int32) (N : Nat) : Nat → Int32 := fun t => if t < N then 0 else s t
abbrev oS (js jp : Nat) : zE := .inr (3, [.ref js, .ref jp])
abbrev zCr (w : zW) (j je jg n : Nat) (f g : Nat → Int32) : Prop := w[j]? = some (oC je jg n) ∧ w[je]? = some (aI 32 f) ∧ w[jg]? = some (aI 8 g) ∧ n ≤ 8
abbrev zSh (w : zW) (jS js jp : Nat) (s q : Nat → Int32) : Prop := w[jS]? = some (oS js jp) ∧ w[js]? = some (aI 32 s) ∧ w[jp]? = some (aI 8 q)
theorem zCr_set {w : zW} {j je jg n i : Nat} {f g : Nat → Int32} {c : zE} (h : zCr w j je jg n f g) (h1 : i ≠ j) (h2 : i ≠ je) (h3 : i ≠ jg) : zCr (w.set i c) j je jg n f g := ⟨zs_ne h1 h.1, zs_ne h2 h.2.1, zs_ne h3 h.2.2.1, h.2.2.2⟩
section Sh
variable {j je jg n jS js jp : Nat} {f g : Nat → Int32}
theorem zCr_seen {w : zW} {s s' q : Nat → Int32} (h : zCr w j je jg n f g) (h2 : zSh w jS js jp s q) (hne : js ≠ je) : zCr (w.set js (aI 32 s')) j je jg n f g :=
  zCr_set h (z_ne h2.2.1 h.1 (by intro h; cases h)) hne (z_ne h2.2.1 h.2.2.1 (by intro h; cases h))
theorem zSh_seen {w : zW} {s s' q : Nat → Int32} (h2 : zSh w jS js jp s q) : zSh (w.set js (aI 32 s')) jS js jp s' q :=
  ⟨zs_ne (z_ne h2.2.1 h2.1 (by intro h; cases h)) h2.1, zs_self h2.2.1, zs_ne (z_ne h2.2.1 h2.2.2 (by intro h; cases h)) h2.2.2⟩
theorem zCr_pie {w : zW} {s q q' : Nat → Int32} (h : zCr w j je jg n f g) (h2 : zSh w jS js jp s q) (hne : jp ≠ jg) : zCr (w.set jp (aI 8 q')) j je jg n f g :=
  zCr_set h (z_ne h2.2.2 h.1 (by intro h; cases h)) (z_ne h2.2.2 h.2.1 (by intro h; cases h)) hne
theorem zSh_pie {w : zW} {s q q' : Nat → Int32} (h2 : zSh w jS js jp s q) : zSh (w.set jp (aI 8 q')) jS js jp s q' :=
  ⟨zs_ne (z_ne h2.2.2 h2.1 (by intro h; cases h)) h2.1, zs_ne (z_ne h2.2.2 h2.2.1 (by intro h; cases h)) h2.2.1, zs_self h2.2.2⟩
theorem lp_S_fitsAt {w : zW} (hC : zCr w j je jg n f g) {e : Nat} (he : e < 32) (jx : Nat) : ∀ k i b c, i + k = 4 * n → Ev M_S_fitsAt none (some (.int (zb (ftA f g e i k b c)))) w 8 [(0, .ref jx), (1, .ref j), (2, .int (nI e)), (3, .int b), (4, .int c), (5, .int (nI i))] [] w 0 0 := by
  obtain ⟨hO, hE, hS, hn⟩ := hC
  intro k
  induction k with
  | zero =>
    intro i b c hi
    refine ev_iload d_S_fitsAt_8 rfl ?_
    refine ev_aload_n 1 d_S_fitsAt_10 rfl rfl ?_
    refine ev_callV M_C_ends [] (sp_C_ends hO) c_S_18 d_S_fitsAt_11 hO rfl (by decide) (Nat.le_of_ble_eq_true rfl) ⟨rfl, rfl⟩ rfl ?_
    have e0 : ftA f g e i 0 b c = (decide (b = 2) && decide (c = 1)) := by rw [ftA]
    rw [e0]
    refine ev_icmp_ge 59 d_S_fitsAt_14 (by decide) (fun h => ?_) (fun h => ?_)
    · refine ev_iload_n 3 d_S_fitsAt_59 rfl rfl ?_
      refine ev_iconst (v := 2) d_S_fitsAt_60 (by decide) ?_
      refine ev_icmp_ne 74 d_S_fitsAt_61 (by decide) (fun h2 => ?_) (fun h2 => ?_)
      · rw [decide_eq_false h2]
        refine ev_iconst (v := 0) d_S_fitsAt_74 (by decide) ?_
        exact ev_iret d_S_fitsAt_75 rfl zr0 (Nat.le_of_ble_eq_true rfl) (Nat.le_of_ble_eq_true rfl)
      · refine ev_iload d_S_fitsAt_64 rfl ?_
        refine ev_iconst (v := 1) d_S_fitsAt_66 (by decide) ?_
        refine ev_icmp_ne 74 d_S_fitsAt_67 (by decide) (fun h3 => ?_) (fun h3 => ?_)
        · rw [decide_eq_false h3, Bool.and_false]
          refine ev_iconst (v := 0) d_S_fitsAt_74 (by decide) ?_
          exact ev_iret d_S_fitsAt_75 rfl zr0 (Nat.le_of_ble_eq_true rfl) (Nat.le_of_ble_eq_true rfl)
        · rw [decide_eq_true h2, decide_eq_true h3]
          refine ev_iconst (v := 1) d_S_fitsAt_70 (by decide) ?_
          refine ev_goto 75 d_S_fitsAt_71 (by decide) ?_
          exact ev_iret d_S_fitsAt_75 rfl zr1 (Nat.le_of_ble_eq_true rfl) (Nat.le_of_ble_eq_true rfl)
    · exact absurd (nI_le (by omega) (by omega)) h
  | succ k ih =>
    intro i b c hi
    refine ev_iload d_S_fitsAt_8 rfl ?_
    refine ev_aload_n 1 d_S_fitsAt_10 rfl rfl ?_
    refine ev_callV M_C_ends [] (sp_C_ends hO) c_S_18 d_S_fitsAt_11 hO rfl (by decide) (Nat.le_of_ble_eq_true rfl) ⟨rfl, rfl⟩ rfl ?_
    refine ev_icmp_ge 59 d_S_fitsAt_14 (by decide) (fun h => ?_) (fun h => ?_)
    · exact absurd h (nI_ge (by omega) (by omega))
    · refine ev_aload_n 1 d_S_fitsAt_17 rfl rfl ?_
      refine ev_iload d_S_fitsAt_18 rfl ?_
      refine ev_callV M_C_edgeAt [_] (sp_C_edgeAt hO hE (by omega)) c_S_28 d_S_fitsAt_20 hO rfl (by decide) (Nat.le_of_ble_eq_true rfl) ⟨rfl, rfl⟩ rfl ?_
      refine ev_aload_n 1 d_S_fitsAt_23 rfl rfl ?_
      refine ev_iload_n 2 d_S_fitsAt_24 rfl rfl ?_
      refine ev_callV M_C_edgeAt [_] (sp_C_edgeAt hO hE he) c_S_28 d_S_fitsAt_25 hO rfl (by decide) (Nat.le_of_ble_eq_true rfl) ⟨rfl, rfl⟩ rfl ?_
      refine ev_icmp_ne 53 d_S_fitsAt_28 (by decide) (fun h2 => ?_) (fun h2 => ?_)
      · have e0 : ftA f g e i (k + 1) b c = ftA f g e (i + 1) k b c := by rw [ftA, if_neg h2]
        rw [e0]
        refine ev_iinc (v := _ + 1) d_S_fitsAt_53 rfl rfl (Nat.le_of_ble_eq_true rfl) rfl ?_
        rw [nI_1]
        refine ev_goto 8 d_S_fitsAt_56 (by decide) ?_
        exact ih (i + 1) b c (by omega)
      · have e0 : ftA f g e i (k + 1) b c = ftA f g e (i + 1) k (b + 1) (c + zb (cin g i)) := by rw [ftA, if_pos h2]
        rw [e0]
        refine ev_iinc (v := _ + 1) d_S_fitsAt_31 rfl rfl (Nat.le_of_ble_eq_true rfl) rfl ?_
        refine ev_iload d_S_fitsAt_34 rfl ?_
        refine ev_aload_n 1 d_S_fitsAt_36 rfl rfl ?_
        refine ev_iload d_S_fitsAt_37 rfl ?_
        refine ev_callV M_C_comesIn [_] (sp_C_comesIn hO hS (by omega)) c_S_32 d_S_fitsAt_39 hO rfl (by decide) (Nat.le_of_ble_eq_true rfl) ⟨rfl, rfl⟩ rfl ?_
        have key : Ev M_S_fitsAt none (some (.int (zb (ftA f g e (i + 1) k (b + 1) (c + zb (cin g i)))))) w 50 [(0, .ref jx), (1, .ref j), (2, .int (nI e)), (3, .int (b + 1)), (4, .int c), (5, .int (nI i))] [.int (zb (cin g i)), .int c] w 0 0 := by
          refine ev_iadd d_S_fitsAt_50 ?_
          refine ev_istore d_S_fitsAt_51 (Nat.le_of_ble_eq_true rfl) rfl ?_
          refine ev_iinc (v := _ + 1) d_S_fitsAt_53 rfl rfl (Nat.le_of_ble_eq_true rfl) rfl ?_
          rw [nI_1]
          refine ev_goto 8 d_S_fitsAt_56 (by decide) ?_
          exact ih (i + 1) (b + 1) (c + zb (cin g i)) (by omega)
        refine ev_if_eq 49 d_S_fitsAt_42 (by decide) (fun h3 => ?_) (fun h3 => ?_)
        · rw [(zb_0 _).mp h3] at key ⊢
          refine ev_iconst (v := 0) d_S_fitsAt_49 (by decide) ?_
          exact key
        · rw [(zb_n0 _).mp h3] at key ⊢
          refine ev_iconst (v := 1) d_S_fitsAt_45 (by decide) ?_
          refine ev_goto 50 d_S_fitsAt_46 (by decide) ?_
          exact key
theorem sp_S_fitsAt {w : zW} (hC : zCr w j je jg n f g) {e : Nat} (he : e < 32) (jx : Nat) : Sp M_S_fitsAt [.ref jx, .ref j, .int (nI e)] w (some (.int (zb (ftA f g e 0 (4 * n) 0 0)))) w := by
  refine Sp.of (by decide) (Nat.le_of_ble_eq_true rfl) ?_
  refine ev_iconst (v := 0) d_S_fitsAt_0 (by decide) ?_
  refine ev_istore_n 3 d_S_fitsAt_1 rfl (Nat.le_of_ble_eq_true rfl) rfl ?_
  refine ev_iconst (v := 0) d_S_fitsAt_2 (by decide) ?_
  refine ev_istore d_S_fitsAt_3 (Nat.le_of_ble_eq_true rfl) rfl ?_
  refine ev_iconst (v := 0) d_S_fitsAt_5 (by decide) ?_
  refine ev_istore d_S_fitsAt_6 (Nat.le_of_ble_eq_true rfl) rfl ?_
  exact lp_S_fitsAt hC he jx (4 * n) 0 0 0 (by omega)
theorem lp_S_fits {w : zW} (hC : zCr w j je jg n f g) {s q : Nat → Int32} (hT : zSh w jS js jp s q) : ∀ k i, i + k = 4 * n → Ev M_S_fits none (some (.int (zb (ftAll f g n i k)))) w 2 [(0, .ref jS), (1, .ref j), (2, .int (nI i))] [] w 0 0 := by
  have hn := hC.2.2.2
  intro k
  induction k with
  | zero =>
    intro i hi
    refine ev_iload_n 2 d_S_fits_2 rfl rfl ?_
    refine ev_aload_n 1 d_S_fits_3 rfl rfl ?_
    refine ev_callV M_C_ends [] (sp_C_ends hC.1) c_S_18 d_S_fits_4 hC.1 rfl (by decide) (Nat.le_of_ble_eq_true rfl) ⟨rfl, rfl⟩ rfl ?_
    refine ev_icmp_ge 27 d_S_fits_7 (by decide) (fun h => ?_) (fun h => ?_)
    · refine ev_iconst (v := 1) d_S_fits_27 (by decide) ?_
      exact ev_iret d_S_fits_28 rfl zr1 (Nat.le_of_ble_eq_true rfl) (Nat.le_of_ble_eq_true rfl)
    · exact absurd (nI_le (by omega) (by omega)) h
  | succ k ih =>
    intro i hi
    refine ev_iload_n 2 d_S_fits_2 rfl rfl ?_
    refine ev_aload_n 1 d_S_fits_3 rfl rfl ?_
    refine ev_callV M_C_ends [] (sp_C_ends hC.1) c_S_18 d_S_fits_4 hC.1 rfl (by decide) (Nat.le_of_ble_eq_true rfl) ⟨rfl, rfl⟩ rfl ?_
    refine ev_icmp_ge 27 d_S_fits_7 (by decide) (fun h => ?_) (fun h => ?_)
    · exact absurd h (nI_ge (by omega) (by omega))
    · refine ev_aload_n 0 d_S_fits_10 rfl rfl ?_
      refine ev_aload_n 1 d_S_fits_11 rfl rfl ?_
      refine ev_iload_n 2 d_S_fits_12 rfl rfl ?_
      refine ev_callV M_S_fitsAt [_, _] (sp_S_fitsAt hC (by omega) jS) c_S_24 d_S_fits_13 hT.1 rfl (by decide) (Nat.le_of_ble_eq_true rfl) ⟨rfl, rfl⟩ rfl ?_
      refine ev_if_ne 21 d_S_fits_16 (by decide) (fun h2 => ?_) (fun h2 => ?_)
      · have e0 : ftAll f g n i (k + 1) = ftAll f g n (i + 1) k := by rw [ftAll, if_pos ((zb_n0 _).mp h2)]
        rw [e0]
        refine ev_iinc (v := _ + 1) d_S_fits_21 rfl rfl (Nat.le_of_ble_eq_true rfl) rfl ?_
        rw [nI_1]
        refine ev_goto 2 d_S_fits_24 (by decide) ?_
        exact ih (i + 1) (by omega)
      · have e0 : ftAll f g n i (k + 1) = false := by rw [ftAll, if_neg (by rw [(zb_0 _).mp h2]; decide)]
        rw [e0]
        refine ev_iconst (v := 0) d_S_fits_19 (by decide) ?_
        exact ev_iret d_S_fits_20 rfl zr0 (Nat.le_of_ble_eq_true rfl) (Nat.le_of_ble_eq_true rfl)
theorem sp_S_fits {w : zW} (hC : zCr w j je jg n f g) {s q : Nat → Int32} (hT : zSh w jS js jp s q) : Sp M_S_fits [.ref jS, .ref j] w (some (.int (zb (ftAll f g n 0 (4 * n))))) w := by
  refine Sp.of (by decide) (Nat.le_of_ble_eq_true rfl) ?_
  refine ev_iconst (v := 0) d_S_fits_0 (by decide) ?_
  refine ev_istore_n 2 d_S_fits_1 rfl (Nat.le_of_ble_eq_true rfl) rfl ?_
  exact lp_S_fits hC hT (4 * n) 0 (by omega)
theorem lp_S_markFace (hne : js ≠ je) {q : Nat → Int32} (v : Int32) : ∀ k (w : zW) (s : Nat → Int32) (e : Nat), k ≤ 32 → e < 32 → zCr w j je jg n f g → zSh w jS js jp s q → Ev M_S_markFace none none (w.set js (aI 32 (mkF (fol f n) k s e))) 5 [(0, .ref jS), (1, .ref j), (2, .int v), (3, .int (nI e)), (4, .int (nI (32 - k)))] [] w 0 0 := by
  intro k
  induction k with
  | zero =>
    intro w s e hk he hC hT
    have e0 : mkF (fol f n) 0 s e = s := by rw [mkF]
    rw [e0, z_set_self hT.2.1]
    refine ev_iload d_S_markFace_5 rfl ?_
    refine ev_bipush (v := 32) d_S_markFace_7 (by decide) ?_
    refine ev_icmp_ge 40 d_S_markFace_9 (by decide) (fun h => ?_) (fun h => ?_)
    · exact ev_ret d_S_markFace_40 rfl (Nat.le_of_ble_eq_true rfl) (Nat.le_of_ble_eq_true rfl)
    · exact absurd (nI_le (a := 32) (b := 32) (by omega) (by omega)) h
  | succ k ih =>
    intro w s e hk he hC hT
    refine ev_iload d_S_markFace_5 rfl ?_
    refine ev_bipush (v := 32) d_S_markFace_7 (by decide) ?_
    refine ev_icmp_ge 40 d_S_markFace_9 (by decide) (fun h => ?_) (fun h => ?_)
    · exact absurd h (nI_ge (b := 32) (by omega) (by omega))
    · refine ev_aload_n 0 d_S_markFace_12 rfl rfl ?_
      refine ev_get f_S_9 d_S_markFace_13 hT.1 rfl ?_
      refine ev_iload_n 3 d_S_markFace_16 rfl rfl ?_
      refine ev_iald d_S_markFace_17 hT.2.1 (vp_in_nI (by omega) (by omega)) ?_
      rw [nI_clamp (by omega)]
      refine ev_if_ne 40 d_S_markFace_18 (by decide) (fun h2 => ?_) (fun h2 => ?_)
      · have e0 : mkF (fol f n) (k + 1) s e = s := by rw [mkF, if_neg h2]
        rw [e0, z_set_self hT.2.1]
        exact ev_ret d_S_markFace_40 rfl (Nat.le_of_ble_eq_true rfl) (Nat.le_of_ble_eq_true rfl)
      · have e0 : mkF (fol f n) (k + 1) s e = mkF (fol f n) k (upd s e 1) (fol f n e) := by rw [mkF, if_pos h2]
        rw [e0]
        refine ev_aload_n 0 d_S_markFace_21 rfl rfl ?_
        refine ev_get f_S_9 d_S_markFace_22 hT.1 rfl ?_
        refine ev_iload_n 3 d_S_markFace_25 rfl rfl ?_
        refine ev_iconst (v := 1) d_S_markFace_26 (by decide) ?_
        refine ev_iast d_S_markFace_27 hT.2.1 (vp_in_nI (by omega) (by omega)) ?_
        rw [nI_clamp (by omega)]
        have hC1 := zCr_seen (s' := upd s e 1) hC hT hne
        have hT1 := zSh_seen (s' := upd s e 1) hT
        refine ev_aload_n 1 d_S_markFace_28 rfl rfl ?_
        refine ev_iload_n 3 d_S_markFace_29 rfl rfl ?_
        refine ev_callV M_C_follow [_] (sp_C_follow hC1.1 hC1.2.1 hC1.2.2.2 he) c_S_56 d_S_markFace_30 hC1.1 rfl (by decide) (Nat.le_of_ble_eq_true rfl) ⟨rfl, rfl⟩ rfl ?_
        refine ev_istore_n 3 d_S_markFace_33 rfl (Nat.le_of_ble_eq_true rfl) rfl ?_
        refine ev_iinc (v := _ + 1) d_S_markFace_34 rfl rfl (Nat.le_of_ble_eq_true rfl) rfl ?_
        rw [nI_1, show 32 - (k + 1) + 1 = 32 - k by omega]
        refine ev_goto 5 d_S_markFace_37 (by decide) ?_
        have h4 := ih (w.set js (aI 32 (upd s e 1))) (upd s e 1) (fol f n e) (by omega) (fol_lt hC.2.2.2 he) hC1 hT1
        rw [List.set_set] at h4
        exact h4
theorem sp_S_markFace {w : zW} (hne : js ≠ je) {s q : Nat → Int32} (hC : zCr w j je jg n f g) (hT : zSh w jS js jp s q) {e : Nat} (he : e < 32) : Sp M_S_markFace [.ref jS, .ref j, .int (nI e)] w none (w.set js (aI 32 (mkF (fol f n) 32 s e))) := by
  refine Sp.of (by decide) (Nat.le_of_ble_eq_true rfl) ?_
  refine ev_iload_n 2 d_S_markFace_0 rfl rfl ?_
  refine ev_istore_n 3 d_S_markFace_1 rfl (Nat.le_of_ble_eq_true rfl) rfl ?_
  refine ev_iconst (v := 0) d_S_markFace_2 (by decide) ?_
  refine ev_istore d_S_markFace_3 (Nat.le_of_ble_eq_true rfl) rfl ?_
  exact lp_S_markFace hne (nI e) 32 w s e (by omega) he hC hT
theorem lp_S_markStrand (hne : js ≠ je) {q : Nat → Int32} (v : Int32) : ∀ k (w : zW) (s : Nat → Int32) (e : Nat), k ≤ 32 → e < 32 → zCr w j je jg n f g → zSh w jS js jp s q → Ev M_S_markStrand none none (w.set js (aI 32 (mkF (fun e => oth f n (opp e)) k s e))) 5 [(0, .ref jS), (1, .ref j), (2, .int v), (3, .int (nI e)), (4, .int (nI (32 - k)))] [] w 0 0 := by
  intro k
  induction k with
  | zero =>
    intro w s e hk he hC hT
    have e0 : mkF (fun e => oth f n (opp e)) 0 s e = s := by rw [mkF]
    rw [e0, z_set_self hT.2.1]
    refine ev_iload d_S_markStrand_5 rfl ?_
    refine ev_bipush (v := 32) d_S_markStrand_7 (by decide) ?_
    refine ev_icmp_ge 43 d_S_markStrand_9 (by decide) (fun h => ?_) (fun h => ?_)
    · exact ev_ret d_S_markStrand_43 rfl (Nat.le_of_ble_eq_true rfl) (Nat.le_of_ble_eq_true rfl)
    · exact absurd (nI_le (a := 32) (b := 32) (by omega) (by omega)) h
  | succ k ih =>
    intro w s e hk he hC hT
    refine ev_iload d_S_markStrand_5 rfl ?_
    refine ev_bipush (v := 32) d_S_markStrand_7 (by decide) ?_
    refine ev_icmp_ge 43 d_S_markStrand_9 (by decide) (fun h => ?_) (fun h => ?_)
    · exact absurd h (nI_ge (b := 32) (by omega) (by omega))
    · refine ev_aload_n 0 d_S_markStrand_12 rfl rfl ?_
      refine ev_get f_S_9 d_S_markStrand_13 hT.1 rfl ?_
      refine ev_iload_n 3 d_S_markStrand_16 rfl rfl ?_
      refine ev_iald d_S_markStrand_17 hT.2.1 (vp_in_nI (by omega) (by omega)) ?_
      rw [nI_clamp (by omega)]
      refine ev_if_ne 43 d_S_markStrand_18 (by decide) (fun h2 => ?_) (fun h2 => ?_)
      · have e0 : mkF (fun e => oth f n (opp e)) (k + 1) s e = s := by rw [mkF, if_neg h2]
        rw [e0, z_set_self hT.2.1]
        exact ev_ret d_S_markStrand_43 rfl (Nat.le_of_ble_eq_true rfl) (Nat.le_of_ble_eq_true rfl)
      · have e0 : mkF (fun e => oth f n (opp e)) (k + 1) s e = mkF (fun e => oth f n (opp e)) k (upd s e 1) (oth f n (opp e)) := by rw [mkF, if_pos h2]
        rw [e0]
        refine ev_aload_n 0 d_S_markStrand_21 rfl rfl ?_
        refine ev_get f_S_9 d_S_markStrand_22 hT.1 rfl ?_
        refine ev_iload_n 3 d_S_markStrand_25 rfl rfl ?_
        refine ev_iconst (v := 1) d_S_markStrand_26 (by decide) ?_
        refine ev_iast d_S_markStrand_27 hT.2.1 (vp_in_nI (by omega) (by omega)) ?_
        rw [nI_clamp (by omega)]
        have hC1 := zCr_seen (s' := upd s e 1) hC hT hne
        have hT1 := zSh_seen (s' := upd s e 1) hT
        refine ev_aload_n 1 d_S_markStrand_28 rfl rfl ?_
        refine ev_iload_n 3 d_S_markStrand_29 rfl rfl ?_
        refine ev_callS M_A_opposite [_] (sp_A_opposite _ he) c_S_72 d_S_markStrand_30 rfl (by decide) (Nat.le_of_ble_eq_true rfl) ⟨rfl, rfl⟩ rfl ?_
        refine ev_callV M_C_otherEnd [_] (sp_C_otherEnd (e := opp e) hC1.1 hC1.2.1 hC1.2.2.2 (opp_lt he)) c_S_62 d_S_markStrand_33 hC1.1 rfl (by decide) (Nat.le_of_ble_eq_true rfl) ⟨rfl, rfl⟩ rfl ?_
        refine ev_istore_n 3 d_S_markStrand_36 rfl (Nat.le_of_ble_eq_true rfl) rfl ?_
        refine ev_iinc (v := _ + 1) d_S_markStrand_37 rfl rfl (Nat.le_of_ble_eq_true rfl) rfl ?_
        rw [nI_1, show 32 - (k + 1) + 1 = 32 - k by omega]
        refine ev_goto 5 d_S_markStrand_40 (by decide) ?_
        have h4 := ih (w.set js (aI 32 (upd s e 1))) (upd s e 1) (oth f n (opp e)) (by omega) (oth_lt hC.2.2.2 (opp_lt he)) hC1 hT1
        rw [List.set_set] at h4
        exact h4
theorem sp_S_markStrand {w : zW} (hne : js ≠ je) {s q : Nat → Int32} (hC : zCr w j je jg n f g) (hT : zSh w jS js jp s q) {e : Nat} (he : e < 32) : Sp M_S_markStrand [.ref jS, .ref j, .int (nI e)] w none (w.set js (aI 32 (mkF (fun e => oth f n (opp e)) 32 s e))) := by
  refine Sp.of (by decide) (Nat.le_of_ble_eq_true rfl) ?_
  refine ev_iload_n 2 d_S_markStrand_0 rfl rfl ?_
  refine ev_istore_n 3 d_S_markStrand_1 rfl (Nat.le_of_ble_eq_true rfl) rfl ?_
  refine ev_iconst (v := 0) d_S_markStrand_2 (by decide) ?_
  refine ev_istore d_S_markStrand_3 (Nat.le_of_ble_eq_true rfl) rfl ?_
  exact lp_S_markStrand hne (nI e) 32 w s e (by omega) he hC hT
theorem lp_S_faces (hne : js ≠ je) {q : Nat → Int32} : ∀ k i (w : zW) (s : Nat → Int32) (c : Int32), i + k = 4 * n → zCr w j je jg n f g → zSh w jS js jp s q → Ev M_S_faces none (some (.int (fcs (fun _ => true) (fol f n) i k s c).1)) (w.set js (aI 32 (fcs (fun _ => true) (fol f n) i k s c).2)) 12 [(0, .ref jS), (1, .ref j), (2, .int c), (3, .int (nI i))] [] w 0 0 := by
  intro k
  induction k with
  | zero =>
    intro i w s c hi hC hT
    have hn := hC.2.2.2
    have e0 : fcs (fun _ => true) (fol f n) i 0 s c = (c, s) := by rw [fcs]
    rw [e0, z_set_self hT.2.1]
    refine ev_iload_n 3 d_S_faces_12 rfl rfl ?_
    refine ev_aload_n 1 d_S_faces_13 rfl rfl ?_
    refine ev_callV M_C_ends [] (sp_C_ends hC.1) c_S_18 d_S_faces_14 hC.1 rfl (by decide) (Nat.le_of_ble_eq_true rfl) ⟨rfl, rfl⟩ rfl ?_
    refine ev_icmp_ge 44 d_S_faces_17 (by decide) (fun h => ?_) (fun h => ?_)
    · refine ev_iload_n 2 d_S_faces_44 rfl rfl ?_
      exact ev_iret d_S_faces_45 rfl rfl (Nat.le_of_ble_eq_true rfl) (Nat.le_of_ble_eq_true rfl)
    · exact absurd (nI_le (by omega) (by omega)) h
  | succ k ih =>
    intro i w s c hi hC hT
    have hn := hC.2.2.2
    refine ev_iload_n 3 d_S_faces_12 rfl rfl ?_
    refine ev_aload_n 1 d_S_faces_13 rfl rfl ?_
    refine ev_callV M_C_ends [] (sp_C_ends hC.1) c_S_18 d_S_faces_14 hC.1 rfl (by decide) (Nat.le_of_ble_eq_true rfl) ⟨rfl, rfl⟩ rfl ?_
    refine ev_icmp_ge 44 d_S_faces_17 (by decide) (fun h => ?_) (fun h => ?_)
    · exact absurd h (nI_ge (by omega) (by omega))
    · refine ev_aload_n 0 d_S_faces_20 rfl rfl ?_
      refine ev_get f_S_9 d_S_faces_21 hT.1 rfl ?_
      refine ev_iload_n 3 d_S_faces_24 rfl rfl ?_
      refine ev_iald d_S_faces_25 hT.2.1 (vp_in_nI (by omega) (by omega)) ?_
      rw [nI_clamp (by omega)]
      refine ev_if_ne 38 d_S_faces_26 (by decide) (fun h2 => ?_) (fun h2 => ?_)
      · have e0 : fcs (fun _ => true) (fol f n) i (k + 1) s c = fcs (fun _ => true) (fol f n) (i + 1) k s c := by rw [fcs, if_neg (fun q => h2 q.2)]
        rw [e0]
        refine ev_iinc (v := _ + 1) d_S_faces_38 rfl rfl (Nat.le_of_ble_eq_true rfl) rfl ?_
        rw [nI_1]
        refine ev_goto 12 d_S_faces_41 (by decide) ?_
        exact ih (i + 1) w s c (by omega) hC hT
      · have e0 : fcs (fun _ => true) (fol f n) i (k + 1) s c = fcs (fun _ => true) (fol f n) (i + 1) k (mkF (fol f n) 32 s i) (c + 1) := by rw [fcs, if_pos ⟨rfl, h2⟩]
        rw [e0]
        refine ev_iinc (v := _ + 1) d_S_faces_29 rfl rfl (Nat.le_of_ble_eq_true rfl) rfl ?_
        refine ev_aload_n 0 d_S_faces_32 rfl rfl ?_
        refine ev_aload_n 1 d_S_faces_33 rfl rfl ?_
        refine ev_iload_n 3 d_S_faces_34 rfl rfl ?_
        refine ev_callV M_S_markFace [_, _] (sp_S_markFace hne hC hT (by omega)) c_S_52 d_S_faces_35 hT.1 rfl (by decide) (Nat.le_of_ble_eq_true rfl) ⟨rfl, rfl⟩ (List.length_set) ?_
        refine ev_iinc (v := _ + 1) d_S_faces_38 rfl rfl (Nat.le_of_ble_eq_true rfl) rfl ?_
        rw [nI_1]
        refine ev_goto 12 d_S_faces_41 (by decide) ?_
        have h4 := ih (i + 1) _ (mkF (fol f n) 32 s i) (c + 1) (by omega) (zCr_seen (s' := mkF (fol f n) 32 s i) hC hT hne) (zSh_seen hT)
        rw [List.set_set] at h4
        exact h4
theorem sp_S_faces {w : zW} (hne : js ≠ je) {s q : Nat → Int32} (hC : zCr w j je jg n f g) (hT : zSh w jS js jp s q) : Sp M_S_faces [.ref jS, .ref j] w (some (.int (fcs (fun _ => true) (fol f n) 0 (4 * n) (fl0 s 32) 0).1)) (w.set js (aI 32 (fcs (fun _ => true) (fol f n) 0 (4 * n) (fl0 s 32) 0).2)) := by
  refine Sp.of (by decide) (Nat.le_of_ble_eq_true rfl) ?_
  refine ev_aload_n 0 d_S_faces_0 rfl rfl ?_
  refine ev_get f_S_9 d_S_faces_1 hT.1 rfl ?_
  refine ev_iconst (v := 0) d_S_faces_4 (by decide) ?_
  refine ev_callS M_F_fillI [_, _] (sp_F_fillI (by omega) hT.2.1 0) c_S_46 d_S_faces_5 rfl (by decide) (Nat.le_of_ble_eq_true rfl) ⟨rfl, rfl⟩ (List.length_set) ?_
  refine ev_iconst (v := 0) d_S_faces_8 (by decide) ?_
  refine ev_istore_n 2 d_S_faces_9 rfl (Nat.le_of_ble_eq_true rfl) rfl ?_
  refine ev_iconst (v := 0) d_S_faces_10 (by decide) ?_
  refine ev_istore_n 3 d_S_faces_11 rfl (Nat.le_of_ble_eq_true rfl) rfl ?_
  have h4 := lp_S_faces hne (4 * n) 0 _ (fl0 s 32) 0 (by omega) (zCr_seen (s' := fl0 s 32) hC hT hne) (zSh_seen hT)
  rw [List.set_set] at h4
  exact h4
theorem lp_S_strands (hne : js ≠ je) {q : Nat → Int32} : ∀ k i (w : zW) (s : Nat → Int32) (c : Int32), i + k = 4 * n → zCr w j je jg n f g → zSh w jS js jp s q → Ev M_S_strands none (some (.int (fcs (cin g) (fun e => oth f n (opp e)) i k s c).1)) (w.set js (aI 32 (fcs (cin g) (fun e => oth f n (opp e)) i k s c).2)) 12 [(0, .ref jS), (1, .ref j), (2, .int c), (3, .int (nI i))] [] w 0 0 := by
  intro k
  induction k with
  | zero =>
    intro i w s c hi hC hT
    have hn := hC.2.2.2
    have e0 : fcs (cin g) (fun e => oth f n (opp e)) i 0 s c = (c, s) := by rw [fcs]
    rw [e0, z_set_self hT.2.1]
    refine ev_iload_n 3 d_S_strands_12 rfl rfl ?_
    refine ev_aload_n 1 d_S_strands_13 rfl rfl ?_
    refine ev_callV M_C_ends [] (sp_C_ends hC.1) c_S_18 d_S_strands_14 hC.1 rfl (by decide) (Nat.le_of_ble_eq_true rfl) ⟨rfl, rfl⟩ rfl ?_
    refine ev_icmp_ge 52 d_S_strands_17 (by decide) (fun h => ?_) (fun h => ?_)
    · refine ev_iload_n 2 d_S_strands_52 rfl rfl ?_
      exact ev_iret d_S_strands_53 rfl rfl (Nat.le_of_ble_eq_true rfl) (Nat.le_of_ble_eq_true rfl)
    · exact absurd (nI_le (by omega) (by omega)) h
  | succ k ih =>
    intro i w s c hi hC hT
    have hn := hC.2.2.2
    have step : ¬ (cin g i = true ∧ s i = 0) → Ev M_S_strands none (some (.int (fcs (cin g) (fun e => oth f n (opp e)) i (k + 1) s c).1)) (w.set js (aI 32 (fcs (cin g) (fun e => oth f n (opp e)) i (k + 1) s c).2)) 46 [(0, .ref jS), (1, .ref j), (2, .int c), (3, .int (nI i))] [] w 0 0 := by
      intro h2
      have e0 : fcs (cin g) (fun e => oth f n (opp e)) i (k + 1) s c = fcs (cin g) (fun e => oth f n (opp e)) (i + 1) k s c := by rw [fcs, if_neg h2]
      rw [e0]
      refine ev_iinc (v := _ + 1) d_S_strands_46 rfl rfl (Nat.le_of_ble_eq_true rfl) rfl ?_
      rw [nI_1]
      refine ev_goto 12 d_S_strands_49 (by decide) ?_
      exact ih (i + 1) w s c (by omega) hC hT
    refine ev_iload_n 3 d_S_strands_12 rfl rfl ?_
    refine ev_aload_n 1 d_S_strands_13 rfl rfl ?_
    refine ev_callV M_C_ends [] (sp_C_ends hC.1) c_S_18 d_S_strands_14 hC.1 rfl (by decide) (Nat.le_of_ble_eq_true rfl) ⟨rfl, rfl⟩ rfl ?_
    refine ev_icmp_ge 52 d_S_strands_17 (by decide) (fun h => ?_) (fun h => ?_)
    · exact absurd h (nI_ge (by omega) (by omega))
    · refine ev_aload_n 1 d_S_strands_20 rfl rfl ?_
      refine ev_iload_n 3 d_S_strands_21 rfl rfl ?_
      refine ev_callV M_C_comesIn [_] (sp_C_comesIn hC.1 hC.2.2.1 (by omega)) c_S_32 d_S_strands_22 hC.1 rfl (by decide) (Nat.le_of_ble_eq_true rfl) ⟨rfl, rfl⟩ rfl ?_
      refine ev_if_eq 46 d_S_strands_25 (by decide) (fun h3 => ?_) (fun h3 => ?_)
      · exact step (fun q => by rw [(zb_0 _).mp h3] at q; exact absurd q.1 (by decide))
      · refine ev_aload_n 0 d_S_strands_28 rfl rfl ?_
        refine ev_get f_S_9 d_S_strands_29 hT.1 rfl ?_
        refine ev_iload_n 3 d_S_strands_32 rfl rfl ?_
        refine ev_iald d_S_strands_33 hT.2.1 (vp_in_nI (by omega) (by omega)) ?_
        rw [nI_clamp (by omega)]
        refine ev_if_ne 46 d_S_strands_34 (by decide) (fun h2 => ?_) (fun h2 => ?_)
        · exact step (fun q => h2 q.2)
        · have e0 : fcs (cin g) (fun e => oth f n (opp e)) i (k + 1) s c = fcs (cin g) (fun e => oth f n (opp e)) (i + 1) k (mkF (fun e => oth f n (opp e)) 32 s i) (c + 1) := by rw [fcs, if_pos ⟨(zb_n0 _).mp h3, h2⟩]
          rw [e0]
          refine ev_iinc (v := _ + 1) d_S_strands_37 rfl rfl (Nat.le_of_ble_eq_true rfl) rfl ?_
          refine ev_aload_n 0 d_S_strands_40 rfl rfl ?_
          refine ev_aload_n 1 d_S_strands_41 rfl rfl ?_
          refine ev_iload_n 3 d_S_strands_42 rfl rfl ?_
          refine ev_callV M_S_markStrand [_, _] (sp_S_markStrand hne hC hT (by omega)) c_S_69 d_S_strands_43 hT.1 rfl (by decide) (Nat.le_of_ble_eq_true rfl) ⟨rfl, rfl⟩ (List.length_set) ?_
          refine ev_iinc (v := _ + 1) d_S_strands_46 rfl rfl (Nat.le_of_ble_eq_true rfl) rfl ?_
          rw [nI_1]
          refine ev_goto 12 d_S_strands_49 (by decide) ?_
          have h4 := ih (i + 1) _ (mkF (fun e => oth f n (opp e)) 32 s i) (c + 1) (by omega) (zCr_seen (s' := mkF (fun e => oth f n (opp e)) 32 s i) hC hT hne) (zSh_seen hT)
          rw [List.set_set] at h4
          exact h4
theorem sp_S_strands {w : zW} (hne : js ≠ je) {s q : Nat → Int32} (hC : zCr w j je jg n f g) (hT : zSh w jS js jp s q) : Sp M_S_strands [.ref jS, .ref j] w (some (.int (fcs (cin g) (fun e => oth f n (opp e)) 0 (4 * n) (fl0 s 32) 0).1)) (w.set js (aI 32 (fcs (cin g) (fun e => oth f n (opp e)) 0 (4 * n) (fl0 s 32) 0).2)) := by
  refine Sp.of (by decide) (Nat.le_of_ble_eq_true rfl) ?_
  refine ev_aload_n 0 d_S_strands_0 rfl rfl ?_
  refine ev_get f_S_9 d_S_strands_1 hT.1 rfl ?_
  refine ev_iconst (v := 0) d_S_strands_4 (by decide) ?_
  refine ev_callS M_F_fillI [_, _] (sp_F_fillI (by omega) hT.2.1 0) c_S_46 d_S_strands_5 rfl (by decide) (Nat.le_of_ble_eq_true rfl) ⟨rfl, rfl⟩ (List.length_set) ?_
  refine ev_iconst (v := 0) d_S_strands_8 (by decide) ?_
  refine ev_istore_n 2 d_S_strands_9 rfl (Nat.le_of_ble_eq_true rfl) rfl ?_
  refine ev_iconst (v := 0) d_S_strands_10 (by decide) ?_
  refine ev_istore_n 3 d_S_strands_11 rfl (Nat.le_of_ble_eq_true rfl) rfl ?_
  have h4 := lp_S_strands hne (4 * n) 0 _ (fl0 s 32) 0 (by omega) (zCr_seen (s' := fl0 s 32) hC hT hne) (zSh_seen hT)
  rw [List.set_set] at h4
  exact h4
end Sh
end
section
section Sh
variable {j je jg n jS js jp : Nat} {f g : Nat → Int32}
theorem lp_S_mergePieces (one two : Int32) {s : Nat → Int32} : ∀ k i (w : zW) (q : Nat → Int32), i + k = 8 → zSh w jS js jp s q → Ev M_S_mergePieces none none (w.set jp (aI 8 (renA two one q i k))) 2 [(0, .ref jS), (1, .int one), (2, .int two), (3, .int (nI i))] [] w 0 0 := by
  intro k
  induction k with
  | zero =>
    intro i w q hi hT
    have e0 : renA two one q i 0 = q := by rw [renA]
    rw [e0, z_set_self hT.2.2]
    refine ev_iload_n 3 d_S_mergePieces_2 rfl rfl ?_
    refine ev_bipush (v := 8) d_S_mergePieces_3 (by decide) ?_
    refine ev_icmp_ge 31 d_S_mergePieces_5 (by decide) (fun h => ?_) (fun h => ?_)
    · exact ev_ret d_S_mergePieces_31 rfl (Nat.le_of_ble_eq_true rfl) (Nat.le_of_ble_eq_true rfl)
    · exact absurd (nI_le (a := 8) (b := i) (by omega) (by omega)) h
  | succ k ih =>
    intro i w q hi hT
    refine ev_iload_n 3 d_S_mergePieces_2 rfl rfl ?_
    refine ev_bipush (v := 8) d_S_mergePieces_3 (by decide) ?_
    refine ev_icmp_ge 31 d_S_mergePieces_5 (by decide) (fun h => ?_) (fun h => ?_)
    · exact absurd h (nI_ge (b := 8) (by omega) (by omega))
    · refine ev_aload_n 0 d_S_mergePieces_8 rfl rfl ?_
      refine ev_get f_S_15 d_S_mergePieces_9 hT.1 rfl ?_
      refine ev_iload_n 3 d_S_mergePieces_12 rfl rfl ?_
      refine ev_iald d_S_mergePieces_13 hT.2.2 (vp_in_nI (by omega) (by omega)) ?_
      rw [nI_clamp (by omega)]
      refine ev_iload_n 2 d_S_mergePieces_14 rfl rfl ?_
      refine ev_icmp_ne 25 d_S_mergePieces_15 (by decide) (fun h2 => ?_) (fun h2 => ?_)
      · have e0 : renA two one q i (k + 1) = renA two one q (i + 1) k := by rw [renA, if_neg h2]
        rw [e0]
        refine ev_iinc (v := _ + 1) d_S_mergePieces_25 rfl rfl (Nat.le_of_ble_eq_true rfl) rfl ?_
        rw [nI_1]
        refine ev_goto 2 d_S_mergePieces_28 (by decide) ?_
        exact ih (i + 1) w q (by omega) hT
      · have e0 : renA two one q i (k + 1) = renA two one (upd q i one) (i + 1) k := by rw [renA, if_pos h2]
        rw [e0]
        refine ev_aload_n 0 d_S_mergePieces_18 rfl rfl ?_
        refine ev_get f_S_15 d_S_mergePieces_19 hT.1 rfl ?_
        refine ev_iload_n 3 d_S_mergePieces_22 rfl rfl ?_
        refine ev_iload_n 1 d_S_mergePieces_23 rfl rfl ?_
        refine ev_iast d_S_mergePieces_24 hT.2.2 (vp_in_nI (by omega) (by omega)) ?_
        refine ev_iinc (v := _ + 1) d_S_mergePieces_25 rfl rfl (Nat.le_of_ble_eq_true rfl) rfl ?_
        rw [nI_clamp (by omega), nI_1]
        refine ev_goto 2 d_S_mergePieces_28 (by decide) ?_
        have h4 := ih (i + 1) (w.set jp (aI 8 (upd q i one))) (upd q i one) (by omega) (zSh_pie hT)
        rw [List.set_set] at h4
        exact h4
theorem sp_S_mergePieces {w : zW} {s q : Nat → Int32} (hT : zSh w jS js jp s q) (one two : Int32) : Sp M_S_mergePieces [.ref jS, .int one, .int two] w none (w.set jp (aI 8 (renA two one q 0 8))) := by
  refine Sp.of (by decide) (Nat.le_of_ble_eq_true rfl) ?_
  refine ev_iconst (v := 0) d_S_mergePieces_0 (by decide) ?_
  refine ev_istore_n 3 d_S_mergePieces_1 rfl (Nat.le_of_ble_eq_true rfl) rfl ?_
  exact lp_S_mergePieces one two 8 0 w q (by omega) hT
theorem lp_S_pieces2 (hne : jp ≠ jg) {s : Nat → Int32} : ∀ k i (w : zW) (q : Nat → Int32) (c : Int32), i + k = 4 * n → zCr w j je jg n f g → zSh w jS js jp s q → Ev M_S_pieces none (some (.int (pcs (oth f n) i k q c).1)) (w.set jp (aI 8 (pcs (oth f n) i k q c).2)) 30 [(0, .ref jS), (1, .ref j), (2, .int c), (3, .int (nI i))] [] w 0 0 := by
  intro k
  induction k with
  | zero =>
    intro i w q c hi hC hT
    have hn := hC.2.2.2
    have e0 : pcs (oth f n) i 0 q c = (c, q) := by rw [pcs]
    rw [e0, z_set_self hT.2.2]
    refine ev_iload_n 3 d_S_pieces_30 rfl rfl ?_
    refine ev_aload_n 1 d_S_pieces_31 rfl rfl ?_
    refine ev_callV M_C_ends [] (sp_C_ends hC.1) c_S_18 d_S_pieces_32 hC.1 rfl (by decide) (Nat.le_of_ble_eq_true rfl) ⟨rfl, rfl⟩ rfl ?_
    refine ev_icmp_ge 88 d_S_pieces_35 (by decide) (fun h => ?_) (fun h => ?_)
    · refine ev_iload_n 2 d_S_pieces_88 rfl rfl ?_
      exact ev_iret d_S_pieces_89 rfl rfl (Nat.le_of_ble_eq_true rfl) (Nat.le_of_ble_eq_true rfl)
    · exact absurd (nI_le (by omega) (by omega)) h
  | succ k ih =>
    intro i w q c hi hC hT
    have hn := hC.2.2.2
    have ho := oth_lt (f := f) (n := n) (e := i) hn (by omega)
    refine ev_iload_n 3 d_S_pieces_30 rfl rfl ?_
    refine ev_aload_n 1 d_S_pieces_31 rfl rfl ?_
    refine ev_callV M_C_ends [] (sp_C_ends hC.1) c_S_18 d_S_pieces_32 hC.1 rfl (by decide) (Nat.le_of_ble_eq_true rfl) ⟨rfl, rfl⟩ rfl ?_
    refine ev_icmp_ge 88 d_S_pieces_35 (by decide) (fun h => ?_) (fun h => ?_)
    · exact absurd h (nI_ge (by omega) (by omega))
    · refine ev_aload_n 0 d_S_pieces_38 rfl rfl ?_
      refine ev_get f_S_15 d_S_pieces_39 hT.1 rfl ?_
      refine ev_iload_n 3 d_S_pieces_42 rfl rfl ?_
      refine ev_callS M_A_crossingOf [_] (sp_A_crossingOf w (by omega)) c_S_59 d_S_pieces_43 rfl (by decide) (Nat.le_of_ble_eq_true rfl) ⟨rfl, rfl⟩ rfl ?_
      refine ev_iald d_S_pieces_46 hT.2.2 (vp_in_nI (by omega) (by omega)) ?_
      rw [nI_clamp (by omega)]
      refine ev_istore d_S_pieces_47 (Nat.le_of_ble_eq_true rfl) rfl ?_
      refine ev_aload_n 0 d_S_pieces_49 rfl rfl ?_
      refine ev_get f_S_15 d_S_pieces_50 hT.1 rfl ?_
      refine ev_aload_n 1 d_S_pieces_53 rfl rfl ?_
      refine ev_iload_n 3 d_S_pieces_54 rfl rfl ?_
      refine ev_callV M_C_otherEnd [_] (sp_C_otherEnd hC.1 hC.2.1 hn (by omega)) c_S_62 d_S_pieces_55 hC.1 rfl (by decide) (Nat.le_of_ble_eq_true rfl) ⟨rfl, rfl⟩ rfl ?_
      refine ev_callS M_A_crossingOf [_] (sp_A_crossingOf w (e := oth f n i) (by omega)) c_S_59 d_S_pieces_58 rfl (by decide) (Nat.le_of_ble_eq_true rfl) ⟨rfl, rfl⟩ rfl ?_
      refine ev_iald d_S_pieces_61 hT.2.2 (vp_in_nI (n := oth f n i / 4) (by omega) (by omega)) ?_
      rw [nI_clamp (n := oth f n i / 4) (by omega)]
      refine ev_istore d_S_pieces_62 (Nat.le_of_ble_eq_true rfl) rfl ?_
      refine ev_iload d_S_pieces_64 rfl ?_
      refine ev_iload d_S_pieces_66 rfl ?_
      refine ev_icmp_eq 82 d_S_pieces_68 (by decide) (fun h2 => ?_) (fun h2 => ?_)
      · have e0 : pcs (oth f n) i (k + 1) q c = pcs (oth f n) (i + 1) k q c := by rw [pcs, if_pos h2]
        rw [e0]
        refine ev_iinc (v := _ + 1) d_S_pieces_82 rfl rfl (Nat.le_of_ble_eq_true rfl) rfl ?_
        rw [nI_1]
        refine ev_goto 30 d_S_pieces_85 (by decide) ?_
        refine ev_sub (lv' := [(0, .ref jS), (1, .ref j), (2, .int c), (3, .int (nI (i + 1)))]) ?_ (ih (i + 1) w q c (by omega) hC hT)
        intro x hx
        simp only [List.mem_cons, List.not_mem_nil, or_false] at hx
        rcases hx with rfl | rfl | rfl | rfl <;> simp [z_put, lv_args]
      · have e0 : pcs (oth f n) i (k + 1) q c = pcs (oth f n) (i + 1) k (renA (q (oth f n i / 4)) (q (i / 4)) q 0 8) (c + (-1)) := by rw [pcs, if_neg h2]
        rw [e0]
        refine ev_aload_n 0 d_S_pieces_71 rfl rfl ?_
        refine ev_iload d_S_pieces_72 rfl ?_
        refine ev_iload d_S_pieces_74 rfl ?_
        refine ev_callV M_S_mergePieces [_, _] (sp_S_mergePieces hT _ _) c_S_65 d_S_pieces_76 hT.1 rfl (by decide) (Nat.le_of_ble_eq_true rfl) ⟨rfl, rfl⟩ (List.length_set) ?_
        refine ev_iinc (v := _ + (-1)) d_S_pieces_79 rfl rfl (Nat.le_of_ble_eq_true rfl) rfl ?_
        refine ev_iinc (v := _ + 1) d_S_pieces_82 rfl rfl (Nat.le_of_ble_eq_true rfl) rfl ?_
        rw [nI_1]
        refine ev_goto 30 d_S_pieces_85 (by decide) ?_
        have h4 := ih (i + 1) _ (renA (q (oth f n i / 4)) (q (i / 4)) q 0 8) (c + (-1)) (by omega) (zCr_pie (q' := renA (q (oth f n i / 4)) (q (i / 4)) q 0 8) hC hT hne) (zSh_pie hT)
        rw [List.set_set] at h4
        refine ev_sub (lv' := [(0, .ref jS), (1, .ref j), (2, .int (c + (-1))), (3, .int (nI (i + 1)))]) ?_ h4
        intro x hx
        simp only [List.mem_cons, List.not_mem_nil, or_false] at hx
        rcases hx with rfl | rfl | rfl | rfl <;> simp [z_put, lv_args]
theorem lp_S_pieces0 (hne : jp ≠ jg) {s : Nat → Int32} : ∀ k i (w : zW) (q : Nat → Int32), i + k = n → zCr w j je jg n f g → zSh w jS js jp s q → Ev M_S_pieces none (some (.int (pcs (oth f n) 0 (4 * n) (piI q i k) (nI n)).1)) (w.set jp (aI 8 (pcs (oth f n) 0 (4 * n) (piI q i k) (nI n)).2)) 2 [(0, .ref jS), (1, .ref j), (2, .int (nI i))] [] w 0 0 := by
  intro k
  induction k with
  | zero =>
    intro i w q hi hC hT
    have hn := hC.2.2.2
    have e0 : piI q i 0 = q := by rw [piI]
    rw [e0]
    refine ev_iload_n 2 d_S_pieces_2 rfl rfl ?_
    refine ev_aload_n 1 d_S_pieces_3 rfl rfl ?_
    refine ev_callV M_C_size [] (sp_C_size hC.1) c_S_40 d_S_pieces_4 hC.1 rfl (by decide) (Nat.le_of_ble_eq_true rfl) ⟨rfl, rfl⟩ rfl ?_
    refine ev_icmp_ge 23 d_S_pieces_7 (by decide) (fun h => ?_) (fun h => ?_)
    · refine ev_aload_n 1 d_S_pieces_23 rfl rfl ?_
      refine ev_callV M_C_size [] (sp_C_size hC.1) c_S_40 d_S_pieces_24 hC.1 rfl (by decide) (Nat.le_of_ble_eq_true rfl) ⟨rfl, rfl⟩ rfl ?_
      refine ev_istore_n 2 d_S_pieces_27 rfl (Nat.le_of_ble_eq_true rfl) rfl ?_
      refine ev_iconst (v := 0) d_S_pieces_28 (by decide) ?_
      refine ev_istore_n 3 d_S_pieces_29 rfl (Nat.le_of_ble_eq_true rfl) rfl ?_
      exact lp_S_pieces2 hne (4 * n) 0 w q (nI n) (by omega) hC hT
    · exact absurd (nI_le (by omega) (by omega)) h
  | succ k ih =>
    intro i w q hi hC hT
    have hn := hC.2.2.2
    have e0 : piI q i (k + 1) = piI (upd q i (nI i)) (i + 1) k := by rw [piI]
    rw [e0]
    refine ev_iload_n 2 d_S_pieces_2 rfl rfl ?_
    refine ev_aload_n 1 d_S_pieces_3 rfl rfl ?_
    refine ev_callV M_C_size [] (sp_C_size hC.1) c_S_40 d_S_pieces_4 hC.1 rfl (by decide) (Nat.le_of_ble_eq_true rfl) ⟨rfl, rfl⟩ rfl ?_
    refine ev_icmp_ge 23 d_S_pieces_7 (by decide) (fun h => ?_) (fun h => ?_)
    · exact absurd h (nI_ge (by omega) (by omega))
    · refine ev_aload_n 0 d_S_pieces_10 rfl rfl ?_
      refine ev_get f_S_15 d_S_pieces_11 hT.1 rfl ?_
      refine ev_iload_n 2 d_S_pieces_14 rfl rfl ?_
      refine ev_iload_n 2 d_S_pieces_15 rfl rfl ?_
      refine ev_iast d_S_pieces_16 hT.2.2 (vp_in_nI (by omega) (by omega)) ?_
      refine ev_iinc (v := _ + 1) d_S_pieces_17 rfl rfl (Nat.le_of_ble_eq_true rfl) rfl ?_
      rw [nI_clamp (by omega), nI_1]
      refine ev_goto 2 d_S_pieces_20 (by decide) ?_
      have h4 := ih (i + 1) _ (upd q i (nI i)) (by omega) (zCr_pie (q' := upd q i (nI i)) hC hT hne) (zSh_pie hT)
      rw [List.set_set] at h4
      exact h4
theorem sp_S_pieces {w : zW} (hne : jp ≠ jg) {s q : Nat → Int32} (hC : zCr w j je jg n f g) (hT : zSh w jS js jp s q) : Sp M_S_pieces [.ref jS, .ref j] w (some (.int (pcs (oth f n) 0 (4 * n) (piI q 0 n) (nI n)).1)) (w.set jp (aI 8 (pcs (oth f n) 0 (4 * n) (piI q 0 n) (nI n)).2)) := by
  refine Sp.of (by decide) (Nat.le_of_ble_eq_true rfl) ?_
  refine ev_iconst (v := 0) d_S_pieces_0 (by decide) ?_
  refine ev_istore_n 2 d_S_pieces_1 rfl (Nat.le_of_ble_eq_true rfl) rfl ?_
  exact lp_S_pieces0 hne n 0 w q (by omega) hC hT
theorem sp_S_isFlat {w : zW} (hne : js ≠ je) (hne2 : jp ≠ jg) {s q : Nat → Int32} (hC : zCr w j je jg n f g) (hT : zSh w jS js jp s q) : Sp M_S_isFlat [.ref jS, .ref j] w (some (.int (zb (decide ((fcs (fun _ => true) (fol f n) 0 (4 * n) (fl0 s 32) 0).1 = nI n + 2 * (pcs (oth f n) 0 (4 * n) (piI q 0 n) (nI n)).1))))) ((w.set js (aI 32 (fcs (fun _ => true) (fol f n) 0 (4 * n) (fl0 s 32) 0).2)).set jp (aI 8 (pcs (oth f n) 0 (4 * n) (piI q 0 n) (nI n)).2)) := by
  refine Sp.of (by decide) (Nat.le_of_ble_eq_true rfl) ?_
  have hC1 := zCr_seen (s' := (fcs (fun _ => true) (fol f n) 0 (4 * n) (fl0 s 32) 0).2) hC hT hne
  have hT1 := zSh_seen (s' := (fcs (fun _ => true) (fol f n) 0 (4 * n) (fl0 s 32) 0).2) hT
  refine ev_aload_n 0 d_S_isFlat_0 rfl rfl ?_
  refine ev_aload_n 1 d_S_isFlat_1 rfl rfl ?_
  refine ev_callV M_S_faces [_] (sp_S_faces hne hC hT) c_S_36 d_S_isFlat_2 hT.1 rfl (by decide) (Nat.le_of_ble_eq_true rfl) ⟨rfl, rfl⟩ (List.length_set) ?_
  refine ev_aload_n 1 d_S_isFlat_5 rfl rfl ?_
  refine ev_callV M_C_size [] (sp_C_size hC1.1) c_S_40 d_S_isFlat_6 hC1.1 rfl (by decide) (Nat.le_of_ble_eq_true rfl) ⟨rfl, rfl⟩ rfl ?_
  refine ev_iconst (v := 2) d_S_isFlat_9 (by decide) ?_
  refine ev_aload_n 0 d_S_isFlat_10 rfl rfl ?_
  refine ev_aload_n 1 d_S_isFlat_11 rfl rfl ?_
  refine ev_callV M_S_pieces [_] (sp_S_pieces hne2 hC1 hT1) c_S_43 d_S_isFlat_12 hT1.1 rfl (by decide) (Nat.le_of_ble_eq_true rfl) ⟨rfl, rfl⟩ (List.length_set) ?_
  refine ev_imul d_S_isFlat_15 ?_
  refine ev_iadd d_S_isFlat_16 ?_
  refine ev_icmp_ne 24 d_S_isFlat_17 (by decide) (fun h => ?_) (fun h => ?_)
  · rw [decide_eq_false h]
    refine ev_iconst (v := 0) d_S_isFlat_24 (by decide) ?_
    exact ev_iret d_S_isFlat_25 rfl zr0 (Nat.le_of_ble_eq_true rfl) (Nat.le_of_ble_eq_true rfl)
  · rw [decide_eq_true h]
    refine ev_iconst (v := 1) d_S_isFlat_20 (by decide) ?_
    refine ev_goto 25 d_S_isFlat_21 (by decide) ?_
    exact ev_iret d_S_isFlat_25 rfl zr1 (Nat.le_of_ble_eq_true rfl) (Nat.le_of_ble_eq_true rfl)
theorem sp_S_sameFace_no {w : zW} {a b : Int32} (h : a = -1 ∨ b = -1) (jx jy : Nat) : Sp M_S_sameFace [.ref jx, .ref jy, .int a, .int b] w (some (.int (zb false))) w := by
  refine Sp.of (by decide) (Nat.le_of_ble_eq_true rfl) ?_
  refine ev_iload_n 2 d_S_sameFace_0 rfl rfl ?_
  refine ev_iconst (v := -1) d_S_sameFace_1 (by decide) ?_
  refine ev_icmp_eq 10 d_S_sameFace_2 (by decide) (fun h1 => ?_) (fun h1 => ?_)
  · refine ev_iconst (v := 0) d_S_sameFace_10 (by decide) ?_
    exact ev_iret d_S_sameFace_11 rfl zr0 (Nat.le_of_ble_eq_true rfl) (Nat.le_of_ble_eq_true rfl)
  · refine ev_iload_n 3 d_S_sameFace_5 rfl rfl ?_
    refine ev_iconst (v := -1) d_S_sameFace_6 (by decide) ?_
    refine ev_icmp_ne 12 d_S_sameFace_7 (by decide) (fun h2 => ?_) (fun h2 => ?_)
    · exact absurd (h.resolve_left h1) h2
    · refine ev_iconst (v := 0) d_S_sameFace_10 (by decide) ?_
      exact ev_iret d_S_sameFace_11 rfl zr0 (Nat.le_of_ble_eq_true rfl) (Nat.le_of_ble_eq_true rfl)
theorem sp_S_sameFace {w : zW} (hne : js ≠ je) {s q : Nat → Int32} (hC : zCr w j je jg n f g) (hT : zSh w jS js jp s q) {a b : Nat} (ha : a < 32) (hb : b < 32) : Sp M_S_sameFace [.ref jS, .ref j, .int (nI a), .int (nI b)] w (some (.int (zb (decide (mkF (fol f n) 32 (fl0 s 32) a b = 1))))) (w.set js (aI 32 (mkF (fol f n) 32 (fl0 s 32) a))) := by
  refine Sp.of (by decide) (Nat.le_of_ble_eq_true rfl) ?_
  have hC1 := zCr_seen (s' := fl0 s 32) hC hT hne
  have hT1 := zSh_seen (s' := fl0 s 32) hT
  have hT2 := zSh_seen (s' := mkF (fol f n) 32 (fl0 s 32) a) hT
  have go : Ev M_S_sameFace none (some (.int (zb (decide (mkF (fol f n) 32 (fl0 s 32) a b = 1))))) (w.set js (aI 32 (mkF (fol f n) 32 (fl0 s 32) a))) 12 [(0, .ref jS), (1, .ref j), (2, .int (nI a)), (3, .int (nI b))] [] w 0 0 := by
    refine ev_aload_n 0 d_S_sameFace_12 rfl rfl ?_
    refine ev_get f_S_9 d_S_sameFace_13 hT.1 rfl ?_
    refine ev_iconst (v := 0) d_S_sameFace_16 (by decide) ?_
    refine ev_callS M_F_fillI [_, _] (sp_F_fillI (by omega) hT.2.1 0) c_S_46 d_S_sameFace_17 rfl (by decide) (Nat.le_of_ble_eq_true rfl) ⟨rfl, rfl⟩ (List.length_set) ?_
    refine ev_aload_n 0 d_S_sameFace_20 rfl rfl ?_
    refine ev_aload_n 1 d_S_sameFace_21 rfl rfl ?_
    refine ev_iload_n 2 d_S_sameFace_22 rfl rfl ?_
    refine ev_callV M_S_markFace [_, _] (sp_S_markFace hne hC1 hT1 ha) c_S_52 d_S_sameFace_23 hT1.1 rfl (by decide) (Nat.le_of_ble_eq_true rfl) ⟨rfl, rfl⟩ (List.length_set) ?_
    rw [List.set_set]
    refine ev_aload_n 0 d_S_sameFace_26 rfl rfl ?_
    refine ev_get f_S_9 d_S_sameFace_27 hT2.1 rfl ?_
    refine ev_iload_n 3 d_S_sameFace_30 rfl rfl ?_
    refine ev_iald d_S_sameFace_31 hT2.2.1 (vp_in_nI (by omega) (by omega)) ?_
    rw [nI_clamp (by omega)]
    refine ev_iconst (v := 1) d_S_sameFace_32 (by decide) ?_
    refine ev_icmp_ne 40 d_S_sameFace_33 (by decide) (fun h => ?_) (fun h => ?_)
    · rw [decide_eq_false h]
      refine ev_iconst (v := 0) d_S_sameFace_40 (by decide) ?_
      exact ev_iret d_S_sameFace_41 rfl zr0 (Nat.le_of_ble_eq_true rfl) (Nat.le_of_ble_eq_true rfl)
    · rw [decide_eq_true h]
      refine ev_iconst (v := 1) d_S_sameFace_36 (by decide) ?_
      refine ev_goto 41 d_S_sameFace_37 (by decide) ?_
      exact ev_iret d_S_sameFace_41 rfl zr1 (Nat.le_of_ble_eq_true rfl) (Nat.le_of_ble_eq_true rfl)
  refine ev_iload_n 2 d_S_sameFace_0 rfl rfl ?_
  refine ev_iconst (v := -1) d_S_sameFace_1 (by decide) ?_
  refine ev_icmp_eq 10 d_S_sameFace_2 (by decide) (fun h1 => ?_) (fun h1 => ?_)
  · exact absurd h1 (nI_nm1 (by omega))
  · refine ev_iload_n 3 d_S_sameFace_5 rfl rfl ?_
    refine ev_iconst (v := -1) d_S_sameFace_6 (by decide) ?_
    refine ev_icmp_ne 12 d_S_sameFace_7 (by decide) (fun h2 => ?_) (fun h2 => ?_)
    · exact go
    · exact absurd h2 (nI_nm1 (by omega))
end Sh
end
section
def bcI (x0 : Int32) : Int32 :=
  let x1 := x0 - ((x0.toUInt32 >>> ((1 : Int32).toUInt32 &&& Int32.toUInt32 31)).toInt32 &&& 1431655765)
  let x2 := (x1 &&& 858993459) + ((x1.toUInt32 >>> ((2 : Int32).toUInt32 &&& Int32.toUInt32 31)).toInt32 &&& 858993459)
  let x3 := (x2 + (x2.toUInt32 >>> ((4 : Int32).toUInt32 &&& Int32.toUInt32 31)).toInt32) &&& 252645135
  let x4 := x3 + (x3.toUInt32 >>> ((8 : Int32).toUInt32 &&& Int32.toUInt32 31)).toInt32
  let x5 := x4 + (x4.toUInt32 >>> ((16 : Int32).toUInt32 &&& Int32.toUInt32 31)).toInt32
  x5 &&& 63
def pc8 (i : Nat) : Nat := i % 2 + i / 2 % 2 + i / 4 % 2 + i / 8 % 2 + i / 16 % 2 + i / 32 % 2 + i / 64 % 2 + i / 128 % 2
theorem bc_pc : ∀ i, i < 256 → bcI (nI i) = nI (pc8 i) := by decide +kernel
theorem pc8_le (i : Nat) : pc8 i ≤ 8 := by unfold pc8; omega
theorem sp_I_bitCount (w : zW) (x : Int32) : Sp M_I_bitCount [.int x] w (some (.int (bcI x))) w := by
  refine Sp.of (by decide) (Nat.le_of_ble_eq_true rfl) ?_
  refine ev_iload_n 0 d_I_bitCount_0 rfl rfl ?_
  refine ev_iload_n 0 d_I_bitCount_1 rfl rfl ?_
  refine ev_iconst (v := 1) d_I_bitCount_2 (by decide) ?_
  refine ev_iushr d_I_bitCount_3 rfl ?_
  refine ev_ldcw (v := 1431655765) k_I_265 d_I_bitCount_4 ?_
  refine ev_iand d_I_bitCount_7 ?_
  refine ev_isub d_I_bitCount_8 ?_
  refine ev_istore_n 0 d_I_bitCount_9 rfl (Nat.le_of_ble_eq_true rfl) rfl ?_
  refine ev_iload_n 0 d_I_bitCount_10 rfl rfl ?_
  refine ev_ldcw (v := 858993459) k_I_266 d_I_bitCount_11 ?_
  refine ev_iand d_I_bitCount_14 ?_
  refine ev_iload_n 0 d_I_bitCount_15 rfl rfl ?_
  refine ev_iconst (v := 2) d_I_bitCount_16 (by decide) ?_
  refine ev_iushr d_I_bitCount_17 rfl ?_
  refine ev_ldcw (v := 858993459) k_I_266 d_I_bitCount_18 ?_
  refine ev_iand d_I_bitCount_21 ?_
  refine ev_iadd d_I_bitCount_22 ?_
  refine ev_istore_n 0 d_I_bitCount_23 rfl (Nat.le_of_ble_eq_true rfl) rfl ?_
  refine ev_iload_n 0 d_I_bitCount_24 rfl rfl ?_
  refine ev_iload_n 0 d_I_bitCount_25 rfl rfl ?_
  refine ev_iconst (v := 4) d_I_bitCount_26 (by decide) ?_
  refine ev_iushr d_I_bitCount_27 rfl ?_
  refine ev_iadd d_I_bitCount_28 ?_
  refine ev_ldcw (v := 252645135) k_I_267 d_I_bitCount_29 ?_
  refine ev_iand d_I_bitCount_32 ?_
  refine ev_istore_n 0 d_I_bitCount_33 rfl (Nat.le_of_ble_eq_true rfl) rfl ?_
  refine ev_iload_n 0 d_I_bitCount_34 rfl rfl ?_
  refine ev_iload_n 0 d_I_bitCount_35 rfl rfl ?_
  refine ev_bipush (v := 8) d_I_bitCount_36 (by decide) ?_
  refine ev_iushr d_I_bitCount_38 rfl ?_
  refine ev_iadd d_I_bitCount_39 ?_
  refine ev_istore_n 0 d_I_bitCount_40 rfl (Nat.le_of_ble_eq_true rfl) rfl ?_
  refine ev_iload_n 0 d_I_bitCount_41 rfl rfl ?_
  refine ev_iload_n 0 d_I_bitCount_42 rfl rfl ?_
  refine ev_bipush (v := 16) d_I_bitCount_43 (by decide) ?_
  refine ev_iushr d_I_bitCount_45 rfl ?_
  refine ev_iadd d_I_bitCount_46 ?_
  refine ev_istore_n 0 d_I_bitCount_47 rfl (Nat.le_of_ble_eq_true rfl) rfl ?_
  refine ev_iload_n 0 d_I_bitCount_48 rfl rfl ?_
  refine ev_bipush (v := 63) d_I_bitCount_49 (by decide) ?_
  refine ev_iand d_I_bitCount_51 ?_
  exact ev_iret d_I_bitCount_52 rfl rfl (Nat.le_of_ble_eq_true rfl) (Nat.le_of_ble_eq_true rfl)
def al (x : Nat) : Nat := x / 2 * 2 + (x + 1) % 2
def ac (x : Nat) : Nat := x / 4 * 4 + (3 - x % 4)
theorem z_al : ∀ x, x < 32 → nI x ^^^ 1 = nI (al x) := by decide +kernel
theorem z_ac : ∀ x, x < 32 → nI x ^^^ 3 = nI (ac x) := by decide +kernel
def thr (st : Int32) (x : Nat) : Nat := if (st >>> (nI (x / 4) &&& 31)) &&& 1 = 1 then al x else ac x
def swc (o : Nat → Nat) (st : Int32) : Nat → Int32 → Nat → Int32
  | 0, s, _ => s
  | k + 1, s, e => if (s >>> (nI e &&& 31)) &&& 1 = 0 then swc o st k (s ||| ((1 <<< (nI e &&& 31)) ||| (1 <<< (nI (o e) &&& 31)))) (thr st (o e)) else s
def cvs (o : Nat → Nat) (st : Int32) : Nat → Nat → Int32 → Nat → Nat
  | _, 0, _, c => c
  | i, k + 1, s, c => if (s >>> (nI i &&& 31)) &&& 1 = 0 then cvs o st (i + 1) k (swc o st 32 s i) (c + 1) else cvs o st (i + 1) k s c
def tal (o : Nat → Nat) (n cc : Nat) : Nat → Nat → (Nat → Int32) → Nat → Int32
  | _, 0, t => t
  | i, k + 1, t => tal o n cc (i + 1) k (if cvs o (nI i) 0 (4 * n) 0 0 + cc ≤ 28 then upd t ((cvs o (nI i) 0 (4 * n) 0 0 + cc) * 9 + pc8 i) (t ((cvs o (nI i) 0 (4 * n) 0 0 + cc) * 9 + pc8 i) + 1) else t)
def mbc : Nat → Nat → (Nat → Int64) → Int64 → Int64 → Nat → Int64
  | _, 0, m, _, _ => m
  | i, k + 1, m, tb, ob => mbc (i + 1) k (vp_updL m i (-tb - (if i + 2 < 125 then m (i + 2) else 0))) ob (m i)
def ads (t : Nat → Int32) (c n : Nat) : Nat → Nat → (Nat → Int64) → Nat → Int64
  | _, 0, m => m
  | i, k + 1, m => ads t c n (i + 1) k (vp_updL m (62 + 2 * i - n) (m (62 + 2 * i - n) + (t (c * 9 + i)).toInt64))
def hor (t : Nat → Int32) (n : Nat) : Nat → (Nat → Int64) → Nat → Int64
  | 0, m => m
  | c + 1, m => hor t n c (ads t (c + 1) n 0 (n + 1) (mbc 0 125 m 0 0))
theorem thr_lt {st : Int32} {x N : Nat} (h4 : N % 4 = 0) (hx : x < N) : thr st x < N := by
  unfold thr al ac
  split <;> omega
theorem cvs_le {o : Nat → Nat} {st : Int32} : ∀ k i s c, cvs o st i k s c ≤ c + k := by
  intro k
  induction k with
  | zero => intro i s c; rw [cvs]; omega
  | succ k ih =>
    intro i s c
    rw [cvs]
    split
    · have := ih (i + 1) (swc o st 32 s i) (c + 1); omega
    · have := ih (i + 1) s c; omega
abbrev oB (jo jt jm : Nat) : zE := .inr (1, [.ref jo, .ref jt, .ref jm])
abbrev zBr (w : zW) (jB jo jt jm : Nat) (oe t : Nat → Int32) (m : Nat → Int64) : Prop := w[jB]? = some (oB jo jt jm) ∧ w[jo]? = some (aI 32 oe) ∧ w[jt]? = some (aI 261 t) ∧ w[jm]? = some (aL 125 m)
theorem ev_drop {M : zM} {X : Option (Nat × (Nat → Int32))} {r : Option Value} {wf : zW} {pc : Nat} {st : List Value} {w : zW} {nc ns : Nat} {lv' ext : List (Nat × Value)} (k : Ev M X r wf pc lv' st w nc ns) : Ev M X r wf pc (lv' ++ ext) st w nc ns := ev_sub (fun _ hq => List.mem_append_left _ hq) k
section Br
variable {j je jg n jB jo jt jm : Nat} {f g oe t : Nat → Int32} {m : Nat → Int64}
theorem zBr_oe {w : zW} {oe' : Nat → Int32} (h : zBr w jB jo jt jm oe t m) : zBr (w.set jo (aI 32 oe')) jB jo jt jm oe' t m :=
  ⟨zs_ne (z_ne h.2.1 h.1 (by intro h; cases h)) h.1, zs_self h.2.1, zs_ne (z_ne h.2.1 h.2.2.1 (by intro h; cases h)) h.2.2.1, zs_ne (z_ne h.2.1 h.2.2.2 (by intro h; cases h)) h.2.2.2⟩
theorem zBr_t {w : zW} {t' : Nat → Int32} (h : zBr w jB jo jt jm oe t m) : zBr (w.set jt (aI 261 t')) jB jo jt jm oe t' m :=
  ⟨zs_ne (z_ne h.2.2.1 h.1 (by intro h; cases h)) h.1, zs_ne (z_ne h.2.2.1 h.2.1 (by intro h; cases h)) h.2.1, zs_self h.2.2.1, zs_ne (z_ne h.2.2.1 h.2.2.2 (by intro h; cases h)) h.2.2.2⟩
theorem zBr_m {w : zW} {m' : Nat → Int64} (h : zBr w jB jo jt jm oe t m) : zBr (w.set jm (aL 125 m')) jB jo jt jm oe t m' :=
  ⟨zs_ne (z_ne h.2.2.2 h.1 (by intro h; cases h)) h.1, zs_ne (z_ne h.2.2.2 h.2.1 (by intro h; cases h)) h.2.1, zs_ne (z_ne h.2.2.2 h.2.2.1 (by intro h; cases h)) h.2.2.1, zs_self h.2.2.2⟩
theorem zCr_oe {w : zW} {oe' : Nat → Int32} (hC : zCr w j je jg n f g) (h : zBr w jB jo jt jm oe t m) (hne : jo ≠ je) : zCr (w.set jo (aI 32 oe')) j je jg n f g :=
  zCr_set hC (z_ne h.2.1 hC.1 (by intro h; cases h)) hne (z_ne h.2.1 hC.2.2.1 (by intro h; cases h))
theorem zCr_t {w : zW} {t' : Nat → Int32} (hC : zCr w j je jg n f g) (h : zBr w jB jo jt jm oe t m) : zCr (w.set jt (aI 261 t')) j je jg n f g :=
  zCr_set hC (z_ne h.2.2.1 hC.1 (by intro h; cases h)) (z_ne h.2.2.1 hC.2.1 (by intro h; cases h)) (z_ne h.2.2.1 hC.2.2.1 (by intro h; cases h))
theorem zCr_m {w : zW} {m' : Nat → Int64} (hC : zCr w j je jg n f g) (h : zBr w jB jo jt jm oe t m) : zCr (w.set jm (aL 125 m')) j je jg n f g :=
  zCr_set hC (z_ne h.2.2.2 hC.1 (by intro h; cases h)) (z_ne h.2.2.2 hC.2.1 (by intro h; cases h)) (z_ne h.2.2.2 hC.2.2.1 (by intro h; cases h))
theorem lp_B_seen {w : zW} (hB : zBr w jB jo jt jm oe t m) {o : Nat → Nat} {N : Nat} (hN : N ≤ 32) (h4 : N % 4 = 0) (ho : ∀ e, e < N → oe e = nI (o e) ∧ o e < N) (st v1 v2 : Int32) : ∀ k (s : Int32) (e : Nat), k ≤ 32 → e < N → Ev M_B_seenWithCurve none (some (.int (swc o st k s e))) w 9 [(0, .ref jB), (1, .int v1), (2, .int v2), (3, .int st), (4, .int s), (5, .int (nI e)), (6, .int (nI (32 - k)))] [] w 0 0 := by
  intro k
  induction k with
  | zero =>
    intro s e hk he
    have e0 : swc o st 0 s e = s := by rw [swc]
    rw [e0]
    refine ev_iload d_B_seenWithCurve_9 rfl ?_
    refine ev_bipush (v := 32) d_B_seenWithCurve_11 (by decide) ?_
    refine ev_icmp_ge 93 d_B_seenWithCurve_13 (by decide) (fun h => ?_) (fun h => ?_)
    · refine ev_iload d_B_seenWithCurve_93 rfl ?_
      exact ev_iret d_B_seenWithCurve_95 rfl rfl (Nat.le_of_ble_eq_true rfl) (Nat.le_of_ble_eq_true rfl)
    · exact absurd (nI_le (a := 32) (b := 32) (by omega) (by omega)) h
  | succ k ih =>
    intro s e hk he
    refine ev_iload d_B_seenWithCurve_9 rfl ?_
    refine ev_bipush (v := 32) d_B_seenWithCurve_11 (by decide) ?_
    refine ev_icmp_ge 93 d_B_seenWithCurve_13 (by decide) (fun h => ?_) (fun h => ?_)
    · exact absurd h (nI_ge (b := 32) (by omega) (by omega))
    · refine ev_iload d_B_seenWithCurve_16 rfl ?_
      refine ev_iload d_B_seenWithCurve_18 rfl ?_
      refine ev_ishr d_B_seenWithCurve_20 ?_
      refine ev_iconst (v := 1) d_B_seenWithCurve_21 (by decide) ?_
      refine ev_iand d_B_seenWithCurve_22 ?_
      refine ev_if_ne 93 d_B_seenWithCurve_23 (by decide) (fun h2 => ?_) (fun h2 => ?_)
      · have e0 : swc o st (k + 1) s e = s := by rw [swc, if_neg h2]
        rw [e0]
        refine ev_iload d_B_seenWithCurve_93 rfl ?_
        exact ev_iret d_B_seenWithCurve_95 rfl rfl (Nat.le_of_ble_eq_true rfl) (Nat.le_of_ble_eq_true rfl)
      · have e0 : swc o st (k + 1) s e = swc o st k (s ||| ((1 <<< (nI e &&& 31)) ||| (1 <<< (nI (o e) &&& 31)))) (thr st (o e)) := by rw [swc, if_pos h2]
        rw [e0]
        obtain ⟨ho1, ho2⟩ := ho e he
        have key : ∀ v8 : Int32, Ev M_B_seenWithCurve none (some (.int (swc o st k (s ||| ((1 <<< (nI e &&& 31)) ||| (1 <<< (nI (o e) &&& 31)))) (thr st (o e))))) w 85 [(0, .ref jB), (1, .int v1), (2, .int v2), (3, .int st), (4, .int (s ||| ((1 <<< (nI e &&& 31)) ||| (1 <<< (nI (o e) &&& 31))))), (5, .int (nI e)), (6, .int (nI (32 - (k + 1)))), (7, .int (nI (o e))), (8, .int v8)] [.int (nI (thr st (o e)))] w 0 0 := by
          intro v8
          refine ev_istore d_B_seenWithCurve_85 (Nat.le_of_ble_eq_true rfl) rfl ?_
          refine ev_iinc (v := _ + 1) d_B_seenWithCurve_87 rfl rfl (Nat.le_of_ble_eq_true rfl) rfl ?_
          rw [nI_1, show 32 - (k + 1) + 1 = 32 - k by omega]
          refine ev_goto 9 d_B_seenWithCurve_90 (by decide) ?_
          exact ev_drop (lv' := [(0, .ref jB), (1, .int v1), (2, .int v2), (3, .int st), (4, .int (s ||| ((1 <<< (nI e &&& 31)) ||| (1 <<< (nI (o e) &&& 31))))), (5, .int (nI (thr st (o e)))), (6, .int (nI (32 - k)))]) (ext := [_, _]) (ih _ (thr st (o e)) (by omega) (thr_lt h4 ho2))
        refine ev_aload_n 0 d_B_seenWithCurve_26 rfl rfl ?_
        refine ev_get f_B_11 d_B_seenWithCurve_27 hB.1 rfl ?_
        refine ev_iload d_B_seenWithCurve_30 rfl ?_
        refine ev_iald d_B_seenWithCurve_32 hB.2.1 (vp_in_nI (by omega) (by omega)) ?_
        rw [nI_clamp (by omega), ho1]
        refine ev_istore d_B_seenWithCurve_33 (Nat.le_of_ble_eq_true rfl) rfl ?_
        refine ev_iload d_B_seenWithCurve_35 rfl ?_
        refine ev_iconst (v := 1) d_B_seenWithCurve_37 (by decide) ?_
        refine ev_iload d_B_seenWithCurve_38 rfl ?_
        refine ev_ishl d_B_seenWithCurve_40 ?_
        refine ev_iconst (v := 1) d_B_seenWithCurve_41 (by decide) ?_
        refine ev_iload d_B_seenWithCurve_42 rfl ?_
        refine ev_ishl d_B_seenWithCurve_44 ?_
        refine ev_ior d_B_seenWithCurve_45 ?_
        refine ev_ior d_B_seenWithCurve_46 ?_
        refine ev_istore d_B_seenWithCurve_47 (Nat.le_of_ble_eq_true rfl) rfl ?_
        refine ev_iload_n 3 d_B_seenWithCurve_49 rfl rfl ?_
        refine ev_iload d_B_seenWithCurve_50 rfl ?_
        refine ev_callS M_A_crossingOf [_] (sp_A_crossingOf w (by omega)) c_B_72 d_B_seenWithCurve_52 rfl (by decide) (Nat.le_of_ble_eq_true rfl) ⟨rfl, rfl⟩ rfl ?_
        refine ev_ishr d_B_seenWithCurve_55 ?_
        refine ev_iconst (v := 1) d_B_seenWithCurve_56 (by decide) ?_
        refine ev_iand d_B_seenWithCurve_57 ?_
        refine ev_iconst (v := 1) d_B_seenWithCurve_58 (by decide) ?_
        refine ev_icmp_ne 66 d_B_seenWithCurve_59 (by decide) (fun h3 => ?_) (fun h3 => ?_)
        · refine ev_iconst (v := 0) d_B_seenWithCurve_66 (by decide) ?_
          refine ev_istore d_B_seenWithCurve_67 (Nat.le_of_ble_eq_true rfl) rfl ?_
          refine ev_iload d_B_seenWithCurve_69 rfl ?_
          refine ev_if_eq 81 d_B_seenWithCurve_71 (by decide) (fun h5 => ?_) (fun h5 => ?_)
          · refine ev_iload d_B_seenWithCurve_81 rfl ?_
            refine ev_iconst (v := 3) d_B_seenWithCurve_83 (by decide) ?_
            refine ev_ixor d_B_seenWithCurve_84 ?_
            rw [z_ac _ (by omega)]
            have h6 : thr st (o e) = ac (o e) := by unfold thr; rw [if_neg h3]
            have k1 := key 0
            rw [h6] at k1 ⊢
            exact k1
          · exact absurd rfl h5
        · refine ev_iconst (v := 1) d_B_seenWithCurve_62 (by decide) ?_
          refine ev_goto 67 d_B_seenWithCurve_63 (by decide) ?_
          refine ev_istore d_B_seenWithCurve_67 (Nat.le_of_ble_eq_true rfl) rfl ?_
          refine ev_iload d_B_seenWithCurve_69 rfl ?_
          refine ev_if_eq 81 d_B_seenWithCurve_71 (by decide) (fun h5 => ?_) (fun h5 => ?_)
          · exact absurd h5 (by decide)
          · refine ev_iload d_B_seenWithCurve_74 rfl ?_
            refine ev_iconst (v := 1) d_B_seenWithCurve_76 (by decide) ?_
            refine ev_ixor d_B_seenWithCurve_77 ?_
            rw [z_al _ (by omega)]
            have h6 : thr st (o e) = al (o e) := by unfold thr; rw [if_pos h3]
            have k1 := key 1
            rw [h6] at k1 ⊢
            refine ev_goto 85 d_B_seenWithCurve_78 (by decide) ?_
            exact k1
theorem sp_B_seenWithCurve {w : zW} (hB : zBr w jB jo jt jm oe t m) {o : Nat → Nat} {N : Nat} (hN : N ≤ 32) (h4 : N % 4 = 0) (ho : ∀ e, e < N → oe e = nI (o e) ∧ o e < N) (s st : Int32) {e : Nat} (he : e < N) : Sp M_B_seenWithCurve [.ref jB, .int s, .int (nI e), .int st] w (some (.int (swc o st 32 s e))) w := by
  refine Sp.of (by decide) (Nat.le_of_ble_eq_true rfl) ?_
  refine ev_iload_n 1 d_B_seenWithCurve_0 rfl rfl ?_
  refine ev_istore d_B_seenWithCurve_1 (Nat.le_of_ble_eq_true rfl) rfl ?_
  refine ev_iload_n 2 d_B_seenWithCurve_3 rfl rfl ?_
  refine ev_istore d_B_seenWithCurve_4 (Nat.le_of_ble_eq_true rfl) rfl ?_
  refine ev_iconst (v := 0) d_B_seenWithCurve_6 (by decide) ?_
  refine ev_istore d_B_seenWithCurve_7 (Nat.le_of_ble_eq_true rfl) rfl ?_
  exact lp_B_seen hB hN h4 ho st s (nI e) 32 s e (by omega) he
theorem lp_B_curvesOf {w : zW} (hB : zBr w jB jo jt jm oe t m) {o : Nat → Nat} {N : Nat} (hN : N ≤ 32) (h4 : N % 4 = 0) (ho : ∀ e, e < N → oe e = nI (o e) ∧ o e < N) (st : Int32) : ∀ k i (s : Int32) (c : Nat), i + k = N → Ev M_B_curvesOf none (some (.int (nI (cvs o st i k s c)))) w 8 [(0, .ref jB), (1, .int st), (2, .int (nI N)), (3, .int (nI c)), (4, .int s), (5, .int (nI i))] [] w 0 0 := by
  intro k
  induction k with
  | zero =>
    intro i s c hi
    have e0 : cvs o st i 0 s c = c := by rw [cvs]
    rw [e0]
    refine ev_iload d_B_curvesOf_8 rfl ?_
    refine ev_iload_n 2 d_B_curvesOf_10 rfl rfl ?_
    refine ev_icmp_ge 44 d_B_curvesOf_11 (by decide) (fun h => ?_) (fun h => ?_)
    · refine ev_iload_n 3 d_B_curvesOf_44 rfl rfl ?_
      exact ev_iret d_B_curvesOf_45 rfl rfl (Nat.le_of_ble_eq_true rfl) (Nat.le_of_ble_eq_true rfl)
    · exact absurd (nI_le (by omega) (by omega)) h
  | succ k ih =>
    intro i s c hi
    refine ev_iload d_B_curvesOf_8 rfl ?_
    refine ev_iload_n 2 d_B_curvesOf_10 rfl rfl ?_
    refine ev_icmp_ge 44 d_B_curvesOf_11 (by decide) (fun h => ?_) (fun h => ?_)
    · exact absurd h (nI_ge (by omega) (by omega))
    · refine ev_iload d_B_curvesOf_14 rfl ?_
      refine ev_iload d_B_curvesOf_16 rfl ?_
      refine ev_ishr d_B_curvesOf_18 ?_
      refine ev_iconst (v := 1) d_B_curvesOf_19 (by decide) ?_
      refine ev_iand d_B_curvesOf_20 ?_
      refine ev_if_ne 38 d_B_curvesOf_21 (by decide) (fun h2 => ?_) (fun h2 => ?_)
      · have e0 : cvs o st i (k + 1) s c = cvs o st (i + 1) k s c := by rw [cvs, if_neg h2]
        rw [e0]
        refine ev_iinc (v := _ + 1) d_B_curvesOf_38 rfl rfl (Nat.le_of_ble_eq_true rfl) rfl ?_
        rw [nI_1]
        refine ev_goto 8 d_B_curvesOf_41 (by decide) ?_
        exact ih (i + 1) s c (by omega)
      · have e0 : cvs o st i (k + 1) s c = cvs o st (i + 1) k (swc o st 32 s i) (c + 1) := by rw [cvs, if_pos h2]
        rw [e0]
        refine ev_iinc (v := _ + 1) d_B_curvesOf_24 rfl rfl (Nat.le_of_ble_eq_true rfl) rfl ?_
        rw [nI_1]
        refine ev_aload_n 0 d_B_curvesOf_27 rfl rfl ?_
        refine ev_iload d_B_curvesOf_28 rfl ?_
        refine ev_iload d_B_curvesOf_30 rfl ?_
        refine ev_iload_n 1 d_B_curvesOf_32 rfl rfl ?_
        refine ev_callV M_B_seenWithCurve [_, _, _] (sp_B_seenWithCurve hB hN h4 ho s st (by omega)) c_B_68 d_B_curvesOf_33 hB.1 rfl (by decide) (Nat.le_of_ble_eq_true rfl) ⟨rfl, rfl⟩ rfl ?_
        refine ev_istore d_B_curvesOf_36 (Nat.le_of_ble_eq_true rfl) rfl ?_
        refine ev_iinc (v := _ + 1) d_B_curvesOf_38 rfl rfl (Nat.le_of_ble_eq_true rfl) rfl ?_
        rw [nI_1]
        refine ev_goto 8 d_B_curvesOf_41 (by decide) ?_
        exact ih (i + 1) (swc o st 32 s i) (c + 1) (by omega)
theorem sp_B_curvesOf {w : zW} (hB : zBr w jB jo jt jm oe t m) {o : Nat → Nat} {N : Nat} (hN : N ≤ 32) (h4 : N % 4 = 0) (ho : ∀ e, e < N → oe e = nI (o e) ∧ o e < N) (st : Int32) : Sp M_B_curvesOf [.ref jB, .int st, .int (nI N)] w (some (.int (nI (cvs o st 0 N 0 0)))) w := by
  refine Sp.of (by decide) (Nat.le_of_ble_eq_true rfl) ?_
  refine ev_iconst (v := 0) d_B_curvesOf_0 (by decide) ?_
  refine ev_istore_n 3 d_B_curvesOf_1 rfl (Nat.le_of_ble_eq_true rfl) rfl ?_
  refine ev_iconst (v := 0) d_B_curvesOf_2 (by decide) ?_
  refine ev_istore d_B_curvesOf_3 (Nat.le_of_ble_eq_true rfl) rfl ?_
  refine ev_iconst (v := 0) d_B_curvesOf_5 (by decide) ?_
  refine ev_istore d_B_curvesOf_6 (Nat.le_of_ble_eq_true rfl) rfl ?_
  exact lp_B_curvesOf hB hN h4 ho st N 0 0 0 (by omega)
theorem lp_B_mult : ∀ k i (w : zW) (m : Nat → Int64) (tb ob : Int64), i + k = 125 → zBr w jB jo jt jm oe t m → Ev M_B_multiplyByCurve none none (w.set jm (aL 125 (mbc i k m tb ob))) 7 [(0, .ref jB), (1, .long tb), (3, .long ob), (5, .int (nI i))] [] w 0 0 := by
  intro k
  induction k with
  | zero =>
    intro i w m tb ob hi hB
    have e0 : mbc i 0 m tb ob = m := by rw [mbc]
    rw [e0, z_set_self hB.2.2.2]
    refine ev_iload d_B_multiplyByCurve_7 rfl ?_
    refine ev_aload_n 0 d_B_multiplyByCurve_9 rfl rfl ?_
    refine ev_get f_B_18 d_B_multiplyByCurve_10 hB.1 rfl ?_
    refine ev_alen d_B_multiplyByCurve_13 hB.2.2.2 rfl ?_
    refine ev_icmp_ge 76 d_B_multiplyByCurve_14 (by decide) (fun h => ?_) (fun h => ?_)
    · exact ev_ret d_B_multiplyByCurve_76 rfl (Nat.le_of_ble_eq_true rfl) (Nat.le_of_ble_eq_true rfl)
    · exact absurd (nI_le (a := 125) (b := i) (by omega) (by omega)) h
  | succ k ih =>
    intro i w m tb ob hi hB
    have e0 : mbc i (k + 1) m tb ob = mbc (i + 1) k (vp_updL m i (-tb - (if i + 2 < 125 then m (i + 2) else 0))) ob (m i) := by rw [mbc]
    rw [e0]
    have key : ∀ ta : Int64, ta = (if i + 2 < 125 then m (i + 2) else 0) → Ev M_B_multiplyByCurve none none (w.set jm (aL 125 (mbc (i + 1) k (vp_updL m i (-tb - (if i + 2 < 125 then m (i + 2) else 0))) ob (m i)))) 51 [(0, .ref jB), (1, .long tb), (3, .long ob), (5, .int (nI i)), (6, .long (m i))] [.long ta] w 0 0 := by
      intro ta hta
      rw [← hta]
      refine ev_lstore d_B_multiplyByCurve_51 (Nat.le_of_ble_eq_true rfl) rfl ?_
      refine ev_aload_n 0 d_B_multiplyByCurve_53 rfl rfl ?_
      refine ev_get f_B_18 d_B_multiplyByCurve_54 hB.1 rfl ?_
      refine ev_iload d_B_multiplyByCurve_57 rfl ?_
      refine ev_lload_n 1 d_B_multiplyByCurve_59 rfl rfl ?_
      refine ev_lneg d_B_multiplyByCurve_60 ?_
      refine ev_lload d_B_multiplyByCurve_61 rfl ?_
      refine ev_lsub d_B_multiplyByCurve_63 ?_
      refine ev_last d_B_multiplyByCurve_64 hB.2.2.2 (vp_in_nI (by omega) (by omega)) ?_
      rw [nI_clamp (by omega)]
      refine ev_lload_n 3 d_B_multiplyByCurve_65 rfl rfl ?_
      refine ev_lstore_n 1 d_B_multiplyByCurve_66 rfl (Nat.le_of_ble_eq_true rfl) rfl ?_
      refine ev_lload d_B_multiplyByCurve_67 rfl ?_
      refine ev_lstore_n 3 d_B_multiplyByCurve_69 rfl (Nat.le_of_ble_eq_true rfl) rfl ?_
      refine ev_iinc (v := _ + 1) d_B_multiplyByCurve_70 rfl rfl (Nat.le_of_ble_eq_true rfl) rfl ?_
      rw [nI_1]
      refine ev_goto 7 d_B_multiplyByCurve_73 (by decide) ?_
      have h4 := ih (i + 1) _ (vp_updL m i (-tb - ta)) ob (m i) (by omega) (zBr_m (m' := vp_updL m i (-tb - ta)) hB)
      rw [List.set_set] at h4
      exact ev_drop (lv' := [(0, .ref jB), (1, .long ob), (3, .long (m i)), (5, .int (nI (i + 1)))]) (ext := [_, _]) h4
    refine ev_iload d_B_multiplyByCurve_7 rfl ?_
    refine ev_aload_n 0 d_B_multiplyByCurve_9 rfl rfl ?_
    refine ev_get f_B_18 d_B_multiplyByCurve_10 hB.1 rfl ?_
    refine ev_alen d_B_multiplyByCurve_13 hB.2.2.2 rfl ?_
    refine ev_icmp_ge 76 d_B_multiplyByCurve_14 (by decide) (fun h => ?_) (fun h => ?_)
    · exact absurd h (nI_ge (b := 125) (by omega) (by omega))
    · refine ev_aload_n 0 d_B_multiplyByCurve_17 rfl rfl ?_
      refine ev_get f_B_18 d_B_multiplyByCurve_18 hB.1 rfl ?_
      refine ev_iload d_B_multiplyByCurve_21 rfl ?_
      refine ev_lald d_B_multiplyByCurve_23 hB.2.2.2 (vp_in_nI (by omega) (by omega)) ?_
      rw [nI_clamp (by omega)]
      refine ev_lstore d_B_multiplyByCurve_24 (Nat.le_of_ble_eq_true rfl) rfl ?_
      refine ev_iload d_B_multiplyByCurve_26 rfl ?_
      refine ev_iconst (v := 2) d_B_multiplyByCurve_28 (by decide) ?_
      refine ev_iadd d_B_multiplyByCurve_29 ?_
      rw [z_p2]
      refine ev_aload_n 0 d_B_multiplyByCurve_30 rfl rfl ?_
      refine ev_get f_B_18 d_B_multiplyByCurve_31 hB.1 rfl ?_
      refine ev_alen d_B_multiplyByCurve_34 hB.2.2.2 rfl ?_
      refine ev_icmp_ge 50 d_B_multiplyByCurve_35 (by decide) (fun h2 => ?_) (fun h2 => ?_)
      · refine ev_lconst (v := 0) d_B_multiplyByCurve_50 (by decide) ?_
        refine key 0 ?_
        rw [if_neg (fun q => absurd h2 (nI_ge (b := 125) q (by omega)))]
      · have h3 : i + 2 < 125 := Nat.not_le.mp (fun q => h2 (nI_le (a := 125) q (by omega)))
        refine ev_aload_n 0 d_B_multiplyByCurve_38 rfl rfl ?_
        refine ev_get f_B_18 d_B_multiplyByCurve_39 hB.1 rfl ?_
        refine ev_iload d_B_multiplyByCurve_42 rfl ?_
        refine ev_iconst (v := 2) d_B_multiplyByCurve_44 (by decide) ?_
        refine ev_iadd d_B_multiplyByCurve_45 ?_
        rw [z_p2]
        refine ev_lald d_B_multiplyByCurve_46 hB.2.2.2 (vp_in_nI (by omega) (by omega)) ?_
        rw [nI_clamp (by omega)]
        refine ev_goto 51 d_B_multiplyByCurve_47 (by decide) ?_
        refine key (m (i + 2)) ?_
        rw [if_pos h3]
theorem sp_B_multiplyByCurve {w : zW} (hB : zBr w jB jo jt jm oe t m) : Sp M_B_multiplyByCurve [.ref jB] w none (w.set jm (aL 125 (mbc 0 125 m 0 0))) := by
  refine Sp.of (by decide) (Nat.le_of_ble_eq_true rfl) ?_
  refine ev_lconst (v := 0) d_B_multiplyByCurve_0 (by decide) ?_
  refine ev_lstore_n 1 d_B_multiplyByCurve_1 rfl (Nat.le_of_ble_eq_true rfl) rfl ?_
  refine ev_lconst (v := 0) d_B_multiplyByCurve_2 (by decide) ?_
  refine ev_lstore_n 3 d_B_multiplyByCurve_3 rfl (Nat.le_of_ble_eq_true rfl) rfl ?_
  refine ev_iconst (v := 0) d_B_multiplyByCurve_4 (by decide) ?_
  refine ev_istore d_B_multiplyByCurve_5 (Nat.le_of_ble_eq_true rfl) rfl ?_
  exact lp_B_mult 125 0 w m 0 0 (by omega) hB
theorem lp_B_addStates {c : Nat} (hc : c ≤ 28) (hn : n ≤ 8) : ∀ k i (w : zW) (m : Nat → Int64), i + k = n + 1 → zBr w jB jo jt jm oe t m → Ev M_B_addStates none none (w.set jm (aL 125 (ads t c n i k m))) 2 [(0, .ref jB), (1, .int (nI c)), (2, .int (nI n)), (3, .int (nI i))] [] w 0 0 := by
  intro k
  induction k with
  | zero =>
    intro i w m hi hB
    have e0 : ads t c n i 0 m = m := by rw [ads]
    rw [e0, z_set_self hB.2.2.2]
    refine ev_iload_n 3 d_B_addStates_2 rfl rfl ?_
    refine ev_iload_n 2 d_B_addStates_3 rfl rfl ?_
    refine ev_icmp_gt 41 d_B_addStates_4 (by decide) (fun h => ?_) (fun h => ?_)
    · exact ev_ret d_B_addStates_41 rfl (Nat.le_of_ble_eq_true rfl) (Nat.le_of_ble_eq_true rfl)
    · exact absurd (nI_lt (by omega) (by omega)) h
  | succ k ih =>
    intro i w m hi hB
    have e0 : ads t c n i (k + 1) m = ads t c n (i + 1) k (vp_updL m (62 + 2 * i - n) (m (62 + 2 * i - n) + (t (c * 9 + i)).toInt64)) := by rw [ads]
    rw [e0]
    have e1 : (62 : Int32) + 2 * nI i - nI n = nI (62 + 2 * i - n) := by
      rw [show (2 : Int32) * nI i = nI (2 * i) from pk_mul 2 i, show (62 : Int32) + nI (2 * i) = nI (62 + 2 * i) from nI_add 62 (2 * i), pk_sub (by omega)]
    have e2 : nI c * (9 : Int32) + nI i = nI (c * 9 + i) := by
      rw [show nI c * (9 : Int32) = nI (c * 9) from pk_mul c 9, nI_add]
    refine ev_iload_n 3 d_B_addStates_2 rfl rfl ?_
    refine ev_iload_n 2 d_B_addStates_3 rfl rfl ?_
    refine ev_icmp_gt 41 d_B_addStates_4 (by decide) (fun h => ?_) (fun h => ?_)
    · exact absurd h (nI_nlt (by omega) (by omega))
    · refine ev_aload_n 0 d_B_addStates_7 rfl rfl ?_
      refine ev_get f_B_18 d_B_addStates_8 hB.1 rfl ?_
      refine ev_bipush (v := 62) d_B_addStates_11 (by decide) ?_
      refine ev_iconst (v := 2) d_B_addStates_13 (by decide) ?_
      refine ev_iload_n 3 d_B_addStates_14 rfl rfl ?_
      refine ev_imul d_B_addStates_15 ?_
      refine ev_iadd d_B_addStates_16 ?_
      refine ev_iload_n 2 d_B_addStates_17 rfl rfl ?_
      refine ev_isub d_B_addStates_18 ?_
      rw [e1]
      refine ev_dup2 d_B_addStates_19 rfl rfl ?_
      refine ev_lald d_B_addStates_20 hB.2.2.2 (vp_in_nI (by omega) (by omega)) ?_
      rw [nI_clamp (by omega)]
      refine ev_aload_n 0 d_B_addStates_21 rfl rfl ?_
      refine ev_get f_B_15 d_B_addStates_22 hB.1 rfl ?_
      refine ev_iload_n 1 d_B_addStates_25 rfl rfl ?_
      refine ev_bipush (v := 9) d_B_addStates_26 (by decide) ?_
      refine ev_imul d_B_addStates_28 ?_
      refine ev_iload_n 3 d_B_addStates_29 rfl rfl ?_
      refine ev_iadd d_B_addStates_30 ?_
      rw [e2]
      refine ev_iald d_B_addStates_31 hB.2.2.1 (vp_in_nI (by omega) (by omega)) ?_
      rw [nI_clamp (by omega)]
      refine ev_i2l d_B_addStates_32 rfl ?_
      refine ev_ladd d_B_addStates_33 ?_
      refine ev_last d_B_addStates_34 hB.2.2.2 (vp_in_nI (by omega) (by omega)) ?_
      rw [nI_clamp (by omega)]
      refine ev_iinc (v := _ + 1) d_B_addStates_35 rfl rfl (Nat.le_of_ble_eq_true rfl) rfl ?_
      rw [nI_1]
      refine ev_goto 2 d_B_addStates_38 (by decide) ?_
      have h4 := ih (i + 1) _ _ (by omega) (zBr_m (m' := vp_updL m (62 + 2 * i - n) (m (62 + 2 * i - n) + (t (c * 9 + i)).toInt64)) hB)
      rw [List.set_set] at h4
      exact h4
theorem sp_B_addStates {w : zW} {c : Nat} (hc : c ≤ 28) (hn : n ≤ 8) (hB : zBr w jB jo jt jm oe t m) : Sp M_B_addStates [.ref jB, .int (nI c), .int (nI n)] w none (w.set jm (aL 125 (ads t c n 0 (n + 1) m))) := by
  refine Sp.of (by decide) (Nat.le_of_ble_eq_true rfl) ?_
  refine ev_iconst (v := 0) d_B_addStates_0 (by decide) ?_
  refine ev_istore_n 3 d_B_addStates_1 rfl (Nat.le_of_ble_eq_true rfl) rfl ?_
  exact lp_B_addStates hc hn (n + 1) 0 w m (by omega) hB
end Br
end
section
theorem z_shl1 : ∀ n, n < 9 → (1 : Int32) <<< (nI n &&& 31) = nI (2 ^ n) := by decide +kernel
theorem p2_le : ∀ n, n < 9 → 2 ^ n ≤ 256 := by decide
def oeF (f : Nat → Int32) (n : Nat) (oe : Nat → Int32) : Nat → Int32 := fun e => if e < 4 * n then nI (oth f n e) else oe e
def fl0L (m : Nat → Int64) (N : Nat) : Nat → Int64 := fun t => if t < N then 0 else m t
section Br
variable {j je jg n jB jo jt jm : Nat} {f g oe : Nat → Int32} {m : Nat → Int64}
theorem oth_lt4 {e : Nat} (he : e < 4 * n) : oth f n e < 4 * n := oEnd_lt he _ _ (by omega)
theorem lp_B_tally2 (ho : ∀ e, e < 4 * n → oe e = nI (oth f n e) ∧ oth f n e < 4 * n) {cc : Nat} (hcc : cc < 1000000) : ∀ k i (w : zW) (t : Nat → Int32), i + k = 2 ^ n → zCr w j je jg n f g → zBr w jB jo jt jm oe t m → Ev M_B_tallyStates none none (w.set jt (aI 261 (tal (oth f n) n cc i k t))) 37 [(0, .ref jB), (1, .ref j), (2, .int (nI cc)), (3, .int (nI i))] [] w 0 0 := by
  intro k
  induction k with
  | zero =>
    intro i w t hi hC hB
    have hn := hC.2.2.2
    have hp := p2_le n (by omega)
    have e0 : tal (oth f n) n cc i 0 t = t := by rw [tal]
    rw [e0, z_set_self hB.2.2.1]
    refine ev_iload_n 3 d_B_tallyStates_37 rfl rfl ?_
    refine ev_iconst (v := 1) d_B_tallyStates_38 (by decide) ?_
    refine ev_aload_n 1 d_B_tallyStates_39 rfl rfl ?_
    refine ev_callV M_C_size [] (sp_C_size hC.1) c_B_39 d_B_tallyStates_40 hC.1 rfl (by decide) (Nat.le_of_ble_eq_true rfl) ⟨rfl, rfl⟩ rfl ?_
    refine ev_ishl d_B_tallyStates_43 ?_
    rw [z_shl1 n (by omega)]
    refine ev_icmp_ge 92 d_B_tallyStates_44 (by decide) (fun h => ?_) (fun h => ?_)
    · exact ev_ret d_B_tallyStates_92 rfl (Nat.le_of_ble_eq_true rfl) (Nat.le_of_ble_eq_true rfl)
    · exact absurd (nI_le (by omega) (by omega)) h
  | succ k ih =>
    intro i w t hi hC hB
    have hn := hC.2.2.2
    have hp := p2_le n (by omega)
    have hcv := cvs_le (o := oth f n) (st := nI i) (4 * n) 0 0 0
    have hpc := pc8_le i
    refine ev_iload_n 3 d_B_tallyStates_37 rfl rfl ?_
    refine ev_iconst (v := 1) d_B_tallyStates_38 (by decide) ?_
    refine ev_aload_n 1 d_B_tallyStates_39 rfl rfl ?_
    refine ev_callV M_C_size [] (sp_C_size hC.1) c_B_39 d_B_tallyStates_40 hC.1 rfl (by decide) (Nat.le_of_ble_eq_true rfl) ⟨rfl, rfl⟩ rfl ?_
    refine ev_ishl d_B_tallyStates_43 ?_
    rw [z_shl1 n (by omega)]
    refine ev_icmp_ge 92 d_B_tallyStates_44 (by decide) (fun h => ?_) (fun h => ?_)
    · exact absurd h (nI_ge (by omega) (by omega))
    · refine ev_aload_n 0 d_B_tallyStates_47 rfl rfl ?_
      refine ev_iload_n 3 d_B_tallyStates_48 rfl rfl ?_
      refine ev_aload_n 1 d_B_tallyStates_49 rfl rfl ?_
      refine ev_callV M_C_ends [] (sp_C_ends hC.1) c_B_52 d_B_tallyStates_50 hC.1 rfl (by decide) (Nat.le_of_ble_eq_true rfl) ⟨rfl, rfl⟩ rfl ?_
      refine ev_callV M_B_curvesOf [_, _] (sp_B_curvesOf hB (o := oth f n) (N := 4 * n) (by omega) (by omega) ho (nI i)) c_B_59 d_B_tallyStates_53 hB.1 rfl (by decide) (Nat.le_of_ble_eq_true rfl) ⟨rfl, rfl⟩ rfl ?_
      refine ev_iload_n 2 d_B_tallyStates_56 rfl rfl ?_
      refine ev_iadd d_B_tallyStates_57 ?_
      rw [nI_add]
      refine ev_istore d_B_tallyStates_58 (Nat.le_of_ble_eq_true rfl) rfl ?_
      refine ev_iload d_B_tallyStates_60 rfl ?_
      refine ev_bipush (v := 28) d_B_tallyStates_62 (by decide) ?_
      refine ev_icmp_gt 86 d_B_tallyStates_64 (by decide) (fun h2 => ?_) (fun h2 => ?_)
      · have h3 : ¬ cvs (oth f n) (nI i) 0 (4 * n) 0 0 + cc ≤ 28 := fun q => absurd h2 (nI_nlt (b := cvs (oth f n) (nI i) 0 (4 * n) 0 0 + cc) (a := 28) q (by omega))
        have e0 : tal (oth f n) n cc i (k + 1) t = tal (oth f n) n cc (i + 1) k t := by rw [tal, if_neg h3]
        rw [e0]
        refine ev_iinc (v := _ + 1) d_B_tallyStates_86 rfl rfl (Nat.le_of_ble_eq_true rfl) rfl ?_
        rw [nI_1]
        refine ev_goto 37 d_B_tallyStates_89 (by decide) ?_
        exact ev_drop (lv' := [(0, .ref jB), (1, .ref j), (2, .int (nI cc)), (3, .int (nI (i + 1)))]) (ext := [_]) (ih (i + 1) w t (by omega) hC hB)
      · have h3 : cvs (oth f n) (nI i) 0 (4 * n) 0 0 + cc ≤ 28 := Nat.not_lt.mp (fun q => h2 (nI_lt (a := 28) q (by omega)))
        have e0 : tal (oth f n) n cc i (k + 1) t = tal (oth f n) n cc (i + 1) k (upd t ((cvs (oth f n) (nI i) 0 (4 * n) 0 0 + cc) * 9 + pc8 i) (t ((cvs (oth f n) (nI i) 0 (4 * n) 0 0 + cc) * 9 + pc8 i) + 1)) := by rw [tal, if_pos h3]
        rw [e0]
        generalize hcv2 : cvs (oth f n) (nI i) 0 (4 * n) 0 0 + cc = cv at h3 ⊢
        refine ev_aload_n 0 d_B_tallyStates_67 rfl rfl ?_
        refine ev_get f_B_15 d_B_tallyStates_68 hB.1 rfl ?_
        refine ev_iload d_B_tallyStates_71 rfl ?_
        refine ev_bipush (v := 9) d_B_tallyStates_73 (by decide) ?_
        refine ev_imul d_B_tallyStates_75 ?_
        refine ev_iload_n 3 d_B_tallyStates_76 rfl rfl ?_
        refine ev_callS M_I_bitCount [_] (sp_I_bitCount w (nI i)) c_B_63 d_B_tallyStates_77 rfl (by decide) (Nat.le_of_ble_eq_true rfl) ⟨rfl, rfl⟩ rfl ?_
        rw [bc_pc i (by omega)]
        have e2 : nI cv * (9 : Int32) + nI (pc8 i) = nI (cv * 9 + pc8 i) := by
          rw [show nI cv * (9 : Int32) = nI (cv * 9) from pk_mul cv 9, nI_add]
        refine ev_iadd d_B_tallyStates_80 ?_
        rw [e2]
        refine ev_dup2 d_B_tallyStates_81 rfl rfl ?_
        refine ev_iald d_B_tallyStates_82 hB.2.2.1 (vp_in_nI (by omega) (by omega)) ?_
        rw [nI_clamp (by omega)]
        refine ev_iconst (v := 1) d_B_tallyStates_83 (by decide) ?_
        refine ev_iadd d_B_tallyStates_84 ?_
        refine ev_iast d_B_tallyStates_85 hB.2.2.1 (vp_in_nI (by omega) (by omega)) ?_
        rw [nI_clamp (by omega)]
        refine ev_iinc (v := _ + 1) d_B_tallyStates_86 rfl rfl (Nat.le_of_ble_eq_true rfl) rfl ?_
        rw [nI_1]
        refine ev_goto 37 d_B_tallyStates_89 (by decide) ?_
        have h4 := ih (i + 1) _ _ (by omega) (zCr_t (t' := upd t (cv * 9 + pc8 i) (t (cv * 9 + pc8 i) + 1)) hC hB) (zBr_t hB)
        rw [List.set_set] at h4
        exact ev_drop (lv' := [(0, .ref jB), (1, .ref j), (2, .int (nI cc)), (3, .int (nI (i + 1)))]) (ext := [_]) h4
theorem lp_B_tally1 (hne : jo ≠ je) {t : Nat → Int32} {cc : Nat} (hcc : cc < 1000000) : ∀ k i (w : zW) (oe : Nat → Int32), i + k = 4 * n → (∀ e, e < i → oe e = nI (oth f n e)) → zCr w j je jg n f g → zBr w jB jo jt jm oe t m → Ev M_B_tallyStates none none ((w.set jo (aI 32 (fun e => if i ≤ e ∧ e < 4 * n then nI (oth f n e) else oe e))).set jt (aI 261 (tal (oth f n) n cc 0 (2 ^ n) t))) 10 [(0, .ref jB), (1, .ref j), (2, .int (nI cc)), (3, .int (nI i))] [] w 0 0 := by
  intro k
  induction k with
  | zero =>
    intro i w oe hi hoe hC hB
    have hn := hC.2.2.2
    have e0 : (fun e => if i ≤ e ∧ e < 4 * n then nI (oth f n e) else oe e) = oe := by
      funext e
      rw [if_neg (by omega)]
    rw [e0, z_set_self hB.2.1]
    refine ev_iload_n 3 d_B_tallyStates_10 rfl rfl ?_
    refine ev_aload_n 1 d_B_tallyStates_11 rfl rfl ?_
    refine ev_callV M_C_ends [] (sp_C_ends hC.1) c_B_52 d_B_tallyStates_12 hC.1 rfl (by decide) (Nat.le_of_ble_eq_true rfl) ⟨rfl, rfl⟩ rfl ?_
    refine ev_icmp_ge 35 d_B_tallyStates_15 (by decide) (fun h => ?_) (fun h => ?_)
    · refine ev_iconst (v := 0) d_B_tallyStates_35 (by decide) ?_
      refine ev_istore_n 3 d_B_tallyStates_36 rfl (Nat.le_of_ble_eq_true rfl) rfl ?_
      exact lp_B_tally2 (fun e he => ⟨hoe e (by omega), oth_lt4 he⟩) hcc (2 ^ n) 0 w t (by omega) hC hB
    · exact absurd (nI_le (by omega) (by omega)) h
  | succ k ih =>
    intro i w oe hi hoe hC hB
    have hn := hC.2.2.2
    refine ev_iload_n 3 d_B_tallyStates_10 rfl rfl ?_
    refine ev_aload_n 1 d_B_tallyStates_11 rfl rfl ?_
    refine ev_callV M_C_ends [] (sp_C_ends hC.1) c_B_52 d_B_tallyStates_12 hC.1 rfl (by decide) (Nat.le_of_ble_eq_true rfl) ⟨rfl, rfl⟩ rfl ?_
    refine ev_icmp_ge 35 d_B_tallyStates_15 (by decide) (fun h => ?_) (fun h => ?_)
    · exact absurd h (nI_ge (by omega) (by omega))
    · refine ev_aload_n 0 d_B_tallyStates_18 rfl rfl ?_
      refine ev_get f_B_11 d_B_tallyStates_19 hB.1 rfl ?_
      refine ev_iload_n 3 d_B_tallyStates_22 rfl rfl ?_
      refine ev_aload_n 1 d_B_tallyStates_23 rfl rfl ?_
      refine ev_iload_n 3 d_B_tallyStates_24 rfl rfl ?_
      refine ev_callV M_C_otherEnd [_] (sp_C_otherEnd hC.1 hC.2.1 hn (by omega)) c_B_55 d_B_tallyStates_25 hC.1 rfl (by decide) (Nat.le_of_ble_eq_true rfl) ⟨rfl, rfl⟩ rfl ?_
      refine ev_iast d_B_tallyStates_28 hB.2.1 (vp_in_nI (by omega) (by omega)) ?_
      rw [nI_clamp (by omega)]
      refine ev_iinc (v := _ + 1) d_B_tallyStates_29 rfl rfl (Nat.le_of_ble_eq_true rfl) rfl ?_
      rw [nI_1]
      refine ev_goto 10 d_B_tallyStates_32 (by decide) ?_
      have h4 := ih (i + 1) _ (upd oe i (nI (oth f n i))) (by omega) (by
        intro e he
        by_cases h5 : e = i
        · rw [h5, pk_us]
        · rw [pk_un h5]; exact hoe e (by omega)) (zCr_oe (oe' := upd oe i (nI (oth f n i))) hC hB hne) (zBr_oe hB)
      rw [List.set_set] at h4
      have e1 : (fun e => if i + 1 ≤ e ∧ e < 4 * n then nI (oth f n e) else upd oe i (nI (oth f n i)) e) = (fun e => if i ≤ e ∧ e < 4 * n then nI (oth f n e) else oe e) := by
        funext e
        by_cases h5 : e = i
        · subst h5
          rw [if_neg (by omega), if_pos (by omega)]
          exact pk_us
        · rw [pk_un h5]
          by_cases h6 : i + 1 ≤ e ∧ e < 4 * n
          · rw [if_pos h6, if_pos (by omega)]
          · rw [if_neg h6, if_neg (by omega)]
      rw [e1] at h4
      exact h4
theorem sp_B_tallyStates {w : zW} (hne : jo ≠ je) {t : Nat → Int32} {cc : Nat} (hcc : cc < 1000000) (hC : zCr w j je jg n f g) (hB : zBr w jB jo jt jm oe t m) : Sp M_B_tallyStates [.ref jB, .ref j, .int (nI cc)] w none ((w.set jo (aI 32 (oeF f n oe))).set jt (aI 261 (tal (oth f n) n cc 0 (2 ^ n) (fl0 t 261)))) := by
  refine Sp.of (by decide) (Nat.le_of_ble_eq_true rfl) ?_
  refine ev_aload_n 0 d_B_tallyStates_0 rfl rfl ?_
  refine ev_get f_B_15 d_B_tallyStates_1 hB.1 rfl ?_
  refine ev_iconst (v := 0) d_B_tallyStates_4 (by decide) ?_
  refine ev_callS M_F_fillI [_, _] (sp_F_fillI (by omega) hB.2.2.1 0) c_B_49 d_B_tallyStates_5 rfl (by decide) (Nat.le_of_ble_eq_true rfl) ⟨rfl, rfl⟩ (List.length_set) ?_
  refine ev_iconst (v := 0) d_B_tallyStates_8 (by decide) ?_
  refine ev_istore_n 3 d_B_tallyStates_9 rfl (Nat.le_of_ble_eq_true rfl) rfl ?_
  have h4 := lp_B_tally1 hne hcc (4 * n) 0 _ oe (by omega) (fun e he => absurd he (by omega)) (zCr_t (t' := fl0 t 261) hC hB) (zBr_t hB)
  have e1 : (fun e => if 0 ≤ e ∧ e < 4 * n then nI (oth f n e) else oe e) = oeF f n oe := by
    funext e
    unfold oeF
    congr 1
    simp
  rw [e1] at h4
  have e2 : (((w.set jt (aI 261 (fl0 t 261))).set jo (aI 32 (oeF f n oe))).set jt (aI 261 (tal (oth f n) n cc 0 (2 ^ n) (fl0 t 261)))) = ((w.set jo (aI 32 (oeF f n oe))).set jt (aI 261 (tal (oth f n) n cc 0 (2 ^ n) (fl0 t 261)))) := by
    rw [List.set_comm _ _ (z_ne hB.2.2.1 hB.2.1 (by intro h; cases h)), List.set_set]
  rw [e2] at h4
  exact h4
theorem lp_B_coefficient {t : Nat → Int32} {cc : Int32} {p : Int64} (hp : vp_in (62 + p.toInt32) 125) : ∀ c (w : zW) (m : Nat → Int64), c ≤ 28 → zCr w j je jg n f g → zBr w jB jo jt jm oe t m → Ev M_B_coefficient none (some (.long (hor t n c m (62 + p.toInt32).toNatClampNeg))) (w.set jm (aL 125 (hor t n c m))) 36 [(0, .ref jB), (1, .ref j), (2, .int cc), (3, .long p), (5, .int (nI c))] [] w 0 0 := by
  intro c
  induction c with
  | zero =>
    intro w m hc hC hB
    have e0 : hor t n 0 m = m := by rw [hor]
    rw [e0, z_set_self hB.2.2.2]
    refine ev_iload d_B_coefficient_36 rfl ?_
    refine ev_iconst (v := 1) d_B_coefficient_38 (by decide) ?_
    refine ev_icmp_lt 62 d_B_coefficient_39 (by decide) (fun h => ?_) (fun h => ?_)
    · refine ev_aload_n 0 d_B_coefficient_62 rfl rfl ?_
      refine ev_get f_B_18 d_B_coefficient_63 hB.1 rfl ?_
      refine ev_bipush (v := 62) d_B_coefficient_66 (by decide) ?_
      refine ev_lload_n 3 d_B_coefficient_68 rfl rfl ?_
      refine ev_l2i d_B_coefficient_69 rfl ?_
      refine ev_iadd d_B_coefficient_70 ?_
      refine ev_lald d_B_coefficient_71 hB.2.2.2 hp ?_
      exact ev_lret d_B_coefficient_72 rfl (Nat.le_of_ble_eq_true rfl) (Nat.le_of_ble_eq_true rfl)
    · exact absurd (by decide) h
  | succ c ih =>
    intro w m hc hC hB
    have hn := hC.2.2.2
    have e0 : hor t n (c + 1) m = hor t n c (ads t (c + 1) n 0 (n + 1) (mbc 0 125 m 0 0)) := by rw [hor]
    rw [e0]
    have hC1 := zCr_m (m' := mbc 0 125 m 0 0) hC hB
    have hB1 := zBr_m (m' := mbc 0 125 m 0 0) hB
    refine ev_iload d_B_coefficient_36 rfl ?_
    refine ev_iconst (v := 1) d_B_coefficient_38 (by decide) ?_
    refine ev_icmp_lt 62 d_B_coefficient_39 (by decide) (fun h => ?_) (fun h => ?_)
    · exact absurd h (nI_nlt (a := c + 1) (b := 1) (by omega) (by omega))
    · refine ev_aload_n 0 d_B_coefficient_42 rfl rfl ?_
      refine ev_callV M_B_multiplyByCurve [] (sp_B_multiplyByCurve hB) c_B_36 d_B_coefficient_43 hB.1 rfl (by decide) (Nat.le_of_ble_eq_true rfl) ⟨rfl, rfl⟩ (List.length_set) ?_
      refine ev_aload_n 0 d_B_coefficient_46 rfl rfl ?_
      refine ev_iload d_B_coefficient_47 rfl ?_
      refine ev_aload_n 1 d_B_coefficient_49 rfl rfl ?_
      refine ev_callV M_C_size [] (sp_C_size hC1.1) c_B_39 d_B_coefficient_50 hC1.1 rfl (by decide) (Nat.le_of_ble_eq_true rfl) ⟨rfl, rfl⟩ rfl ?_
      refine ev_callV M_B_addStates [_, _] (sp_B_addStates hc hn hB1) c_B_45 d_B_coefficient_53 hB1.1 rfl (by decide) (Nat.le_of_ble_eq_true rfl) ⟨rfl, rfl⟩ (List.length_set) ?_
      rw [List.set_set]
      refine ev_iinc (v := _ + (-1)) d_B_coefficient_56 rfl rfl (Nat.le_of_ble_eq_true rfl) rfl ?_
      rw [pk_m1]
      refine ev_goto 36 d_B_coefficient_59 (by decide) ?_
      have h4 := ih _ _ (by omega) (zCr_m (m' := ads t (c + 1) n 0 (n + 1) (mbc 0 125 m 0 0)) hC hB) (zBr_m hB)
      rw [List.set_set] at h4
      exact h4
theorem z_l2i {x : Int64} (h1 : ¬ x < -62) (h2 : x ≤ 62) : vp_in (62 + x.toInt32) 125 ∧ ((62 + x.toInt32).toNatClampNeg : Int) = 62 + x.toInt := by
  rw [Int64.lt_iff_toInt_lt] at h1
  rw [Int64.le_iff_toInt_le] at h2
  have a1 : (-62 : Int64).toInt = -62 := by decide
  have a2 : (62 : Int64).toInt = 62 := by decide
  have a3 : (62 : Int32).toInt = 62 := by decide
  rw [a1] at h1
  rw [a2] at h2
  have e1 : x.toInt32.toInt = x.toInt := by
    rw [Int64.toInt_toInt32]
    exact Int.bmod_eq_of_le (by omega) (by omega)
  have e2 : (62 + x.toInt32).toInt = 62 + x.toInt := by
    rw [Int32.toInt_add, a3, e1]
    exact Int.bmod_eq_of_le (by omega) (by omega)
  have e3 : ((62 + x.toInt32).toNatClampNeg : Int) = 62 + x.toInt := by
    rw [Int32.toNatClampNeg, e2]
    omega
  refine ⟨?_, e3⟩
  intro h
  rcases h with h | h
  · rw [Int32.lt_iff_toInt_lt, e2, Int32.toInt_zero] at h
    omega
  · omega
theorem sp_B_coefficient_no {w : zW} {p : Int64} (hp : p < -62 ∨ 62 < p) (jx jy : Nat) (cc : Int32) : Sp M_B_coefficient [.ref jx, .ref jy, .int cc, .long p] w (some (.long 0)) w := by
  refine Sp.of (by decide) (Nat.le_of_ble_eq_true rfl) ?_
  refine ev_lload_n 3 d_B_coefficient_0 rfl rfl ?_
  refine ev_ldc2 (v := -62) k_B_22 d_B_coefficient_1 ?_
  refine ev_lcmp d_B_coefficient_4 ?_
  refine ev_if_lt 16 d_B_coefficient_5 (by decide) (fun h => ?_) (fun h => ?_)
  · refine ev_lconst (v := 0) d_B_coefficient_16 (by decide) ?_
    exact ev_lret d_B_coefficient_17 rfl (Nat.le_of_ble_eq_true rfl) (Nat.le_of_ble_eq_true rfl)
  · refine ev_lload_n 3 d_B_coefficient_8 rfl rfl ?_
    refine ev_ldc2 (v := 62) k_B_24 d_B_coefficient_9 ?_
    refine ev_lcmp d_B_coefficient_12 ?_
    refine ev_if_le 18 d_B_coefficient_13 (by decide) (fun h2 => ?_) (fun h2 => ?_)
    · have h1 : ¬ p < -62 := fun q => h ((lg_cmp_lt _ _).mpr q)
      have h3 := (lg_cmp_le _ _).mp h2
      exact absurd (hp.resolve_left h1) (Int64.not_lt.mpr h3)
    · refine ev_lconst (v := 0) d_B_coefficient_16 (by decide) ?_
      exact ev_lret d_B_coefficient_17 rfl (Nat.le_of_ble_eq_true rfl) (Nat.le_of_ble_eq_true rfl)
theorem sp_B_coefficient {w : zW} (hne : jo ≠ je) {t : Nat → Int32} {cc : Nat} (hcc : cc < 1000000) (hC : zCr w j je jg n f g) (hB : zBr w jB jo jt jm oe t m) {p : Int64} (h1 : ¬ p < -62) (h2 : p ≤ 62) : Sp M_B_coefficient [.ref jB, .ref j, .int (nI cc), .long p] w (some (.long (hor (tal (oth f n) n cc 0 (2 ^ n) (fl0 t 261)) n 28 (fl0L m 125) (62 + p.toInt32).toNatClampNeg))) (((w.set jo (aI 32 (oeF f n oe))).set jt (aI 261 (tal (oth f n) n cc 0 (2 ^ n) (fl0 t 261)))).set jm (aL 125 (hor (tal (oth f n) n cc 0 (2 ^ n) (fl0 t 261)) n 28 (fl0L m 125)))) := by
  refine Sp.of (by decide) (Nat.le_of_ble_eq_true rfl) ?_
  have hC1 := zCr_oe (oe' := oeF f n oe) hC hB hne
  have hB1 := zBr_oe (oe' := oeF f n oe) hB
  have hC2 := zCr_t (t' := tal (oth f n) n cc 0 (2 ^ n) (fl0 t 261)) hC1 hB1
  have hB2 := zBr_t (t' := tal (oth f n) n cc 0 (2 ^ n) (fl0 t 261)) hB1
  have go : Ev M_B_coefficient none (some (.long (hor (tal (oth f n) n cc 0 (2 ^ n) (fl0 t 261)) n 28 (fl0L m 125) (62 + p.toInt32).toNatClampNeg))) (((w.set jo (aI 32 (oeF f n oe))).set jt (aI 261 (tal (oth f n) n cc 0 (2 ^ n) (fl0 t 261)))).set jm (aL 125 (hor (tal (oth f n) n cc 0 (2 ^ n) (fl0 t 261)) n 28 (fl0L m 125)))) 18 [(0, .ref jB), (1, .ref j), (2, .int (nI cc)), (3, .long p)] [] w 0 0 := by
    refine ev_aload_n 0 d_B_coefficient_18 rfl rfl ?_
    refine ev_aload_n 1 d_B_coefficient_19 rfl rfl ?_
    refine ev_iload_n 2 d_B_coefficient_20 rfl rfl ?_
    refine ev_callV M_B_tallyStates [_, _] (sp_B_tallyStates hne hcc hC hB) c_B_26 d_B_coefficient_21 hB.1 rfl (by decide) (Nat.le_of_ble_eq_true rfl) ⟨rfl, rfl⟩ (by rw [List.length_set, List.length_set]) ?_
    refine ev_aload_n 0 d_B_coefficient_24 rfl rfl ?_
    refine ev_get f_B_18 d_B_coefficient_25 hB2.1 rfl ?_
    refine ev_lconst (v := 0) d_B_coefficient_28 (by decide) ?_
    refine ev_callS M_F_fillL [_, _] (sp_F_fillL (by omega) hB2.2.2.2 0) c_B_30 d_B_coefficient_29 rfl (by decide) (Nat.le_of_ble_eq_true rfl) ⟨rfl, rfl⟩ (List.length_set) ?_
    refine ev_bipush (v := 28) d_B_coefficient_32 (by decide) ?_
    refine ev_istore d_B_coefficient_34 (Nat.le_of_ble_eq_true rfl) rfl ?_
    have h4 := lp_B_coefficient (cc := nI cc) (z_l2i h1 h2).1 28 _ (fl0L m 125) (by omega) (zCr_m (m' := fl0L m 125) hC2 hB2) (zBr_m hB2)
    rw [List.set_set] at h4
    exact h4
  refine ev_lload_n 3 d_B_coefficient_0 rfl rfl ?_
  refine ev_ldc2 (v := -62) k_B_22 d_B_coefficient_1 ?_
  refine ev_lcmp d_B_coefficient_4 ?_
  refine ev_if_lt 16 d_B_coefficient_5 (by decide) (fun h => ?_) (fun h => ?_)
  · exact absurd ((lg_cmp_lt _ _).mp h) h1
  · refine ev_lload_n 3 d_B_coefficient_8 rfl rfl ?_
    refine ev_ldc2 (v := 62) k_B_24 d_B_coefficient_9 ?_
    refine ev_lcmp d_B_coefficient_12 ?_
    refine ev_if_le 18 d_B_coefficient_13 (by decide) (fun h3 => ?_) (fun h3 => ?_)
    · exact go
    · exact absurd ((lg_cmp_le _ _).mpr h2) h3
end Br
end
section
def ed (f : Nat → Int32) (e : Nat) : Nat := (f e).toNatClampNeg
def mgA (a b lo : Int32) : (Nat → Int32) → Nat → Nat → Nat → Int32
  | l, _, 0 => l
  | l, i, k + 1 => mgA a b lo (if l i = a ∨ l i = b then upd l i lo else l) (i + 1) k
def mnI (x y : Int32) : Int32 := if y < x then y else x
def mgL (l : Nat → Int32) (a b : Int32) : Nat → Int32 := mgA a b (mnI a b) l 1 32
def itN {α : Type} (g : Nat → α → α) : Nat → Nat → α → α
  | _, 0, x => x
  | i, k + 1, x => itN g (i + 1) k (g i x)
theorem itN_0 {α : Type} (g : Nat → α → α) (i : Nat) (x : α) : itN g i 0 x = x := by rw [itN]
theorem itN_s {α : Type} (g : Nat → α → α) (i k : Nat) (x : α) : itN g i (k + 1) x = itN g (i + 1) k (g i x) := by rw [itN]
def arS (f : Nat → Int32) (i : Nat) (l : Nat → Int32) : Nat → Int32 := mgL l (l (ed f (4 * i + 1))) (l (ed f (4 * i + 3)))
def arM (f l : Nat → Int32) (i k : Nat) : Nat → Int32 := itN (arS f) i k l
theorem arM_0 (f l : Nat → Int32) (i : Nat) : arM f l i 0 = l := itN_0 _ _ _
theorem arM_s (f l : Nat → Int32) (i k : Nat) : arM f l i (k + 1) = arM f (arS f i l) (i + 1) k := itN_s _ _ _ _
def nuA (f : Nat → Int32) (n : Nat) (l : Nat → Int32) : Nat → Nat → (Nat → Int32) → Nat → Nat × (Nat → Int32)
  | _, 0, u, a => (a, u)
  | i, k + 1, u, a => if l i = nI i ∧ occ f (nI i) 0 (4 * n) = true then nuA f n l (i + 1) k (upd u i (nI a)) (a + 1) else nuA f n l (i + 1) k u a
/-- all of the first N are small numbers -/
def sml (B : Nat) (N : Nat) (l : Nat → Int32) : Prop := ∀ d, d < N → ∃ x, x < B ∧ l d = nI x
/-- the edges of the first N ends -/
def edg (N : Nat) (f : Nat → Int32) : Prop := ∀ e, e < N → ∃ x, 1 ≤ x ∧ x ≤ 32 ∧ f e = nI x
theorem sml_upd {B N i : Nat} {l : Nat → Int32} {x : Int32} (h : sml B N l) (hx : ∃ y, y < B ∧ x = nI y) : sml B N (upd l i x) := by
  intro d hd
  by_cases h1 : d = i
  · rw [h1, pk_us]; exact hx
  · rw [pk_un h1]; exact h d hd
theorem edg_ed {N e : Nat} {f : Nat → Int32} (h : edg N f) (he : e < N) : f e = nI (ed f e) ∧ 1 ≤ ed f e ∧ ed f e ≤ 32 := by
  obtain ⟨x, h1, h2, h3⟩ := h e he
  have h4 : ed f e = x := by unfold ed; rw [h3, nI_clamp (by omega)]
  rw [h4]
  exact ⟨h3, h1, h2⟩
theorem sml_mgA {B N : Nat} {a b lo : Int32} (hlo : ∃ y, y < B ∧ lo = nI y) : ∀ k i l, sml B N l → sml B N (mgA a b lo l i k) := by
  intro k
  induction k with
  | zero => intro i l h; rw [mgA]; exact h
  | succ k ih =>
    intro i l h
    rw [mgA]
    apply ih
    split
    · exact sml_upd h hlo
    · exact h
theorem sml_arM {n : Nat} {f : Nat → Int32} (hf : edg (4 * n) f) : ∀ k i l, i + k = n → sml 33 33 l → sml 33 33 (arM f l i k) := by
  intro k
  induction k with
  | zero => intro i l _ h; rw [arM_0]; exact h
  | succ k ih =>
    intro i l hi h
    rw [arM_s]
    apply ih _ _ (by omega)
    unfold arS mgL
    apply sml_mgA _ _ _ _ h
    have h1 := h _ (by have := edg_ed hf (e := 4 * i + 1) (by omega); omega : ed f (4 * i + 1) < 33)
    have h2 := h _ (by have := edg_ed hf (e := 4 * i + 3) (by omega); omega : ed f (4 * i + 3) < 33)
    unfold mnI
    split
    · exact h2
    · exact h1
theorem sml_piI {B N : Nat} : ∀ k i q, i + k ≤ B → (∀ d, d < N → i + k ≤ d ∨ d < i → ∃ x, x < B ∧ q d = nI x) → sml B N (piI q i k) := by
  intro k
  induction k with
  | zero => intro i q hi h d hd; rw [piI]; exact h d hd (by omega)
  | succ k ih =>
    intro i q hi h
    rw [piI]
    refine ih (i + 1) _ (by omega) (fun d hd h3 => ?_)
    by_cases h1 : d = i
    · rw [h1, pk_us]; exact ⟨i, by omega, rfl⟩
    · rw [pk_un h1]; exact h d hd (by omega)
theorem sml_nuA {B N : Nat} {f : Nat → Int32} {n : Nat} {l : Nat → Int32} : ∀ k i u a, a + k ≤ B → sml B N u → sml B N (nuA f n l i k u a).2 ∧ (nuA f n l i k u a).1 ≤ a + k := by
  intro k
  induction k with
  | zero => intro i u a _ h; rw [nuA]; exact ⟨h, by omega⟩
  | succ k ih =>
    intro i u a ha h
    rw [nuA]
    split
    · obtain ⟨h1, h2⟩ := ih (i + 1) (upd u i (nI a)) (a + 1) (by omega) (sml_upd h ⟨a, by omega, rfl⟩)
      exact ⟨h1, by omega⟩
    · obtain ⟨h1, h2⟩ := ih (i + 1) u a (by omega) h
      exact ⟨h1, by omega⟩
abbrev oR (jl ju jc jn jM : Nat) : zE := .inr (0, [.ref jl, .ref ju, .ref jc, .ref jn, .ref jM])
abbrev zAr (w : zW) (jR jl ju jc jn jM : Nat) (l u c ln : Nat → Int32) (mi : Nat → Int64) : Prop := w[jR]? = some (oR jl ju jc jn jM) ∧ w[jl]? = some (aI 33 l) ∧ w[ju]? = some (aI 33 u) ∧ w[jc]? = some (aI 64 c) ∧ w[jn]? = some (aI 64 ln) ∧ w[jM]? = some (aL 2304 mi) ∧ jl ≠ ju ∧ jc ≠ jn
section Ar
variable {j je jg n jR jl ju jc jn jM : Nat} {f g l u c ln : Nat → Int32} {mi : Nat → Int64}
theorem zAr_set {w : zW} {i : Nat} {x : zE} (h : zAr w jR jl ju jc jn jM l u c ln mi) (h0 : i ≠ jR) : (i ≠ jl → (w.set i x)[jl]? = some (aI 33 l)) ∧ (i ≠ ju → (w.set i x)[ju]? = some (aI 33 u)) ∧ (i ≠ jc → (w.set i x)[jc]? = some (aI 64 c)) ∧ (i ≠ jn → (w.set i x)[jn]? = some (aI 64 ln)) ∧ (i ≠ jM → (w.set i x)[jM]? = some (aL 2304 mi)) :=
  ⟨fun q => zs_ne q h.2.1, fun q => zs_ne q h.2.2.1, fun q => zs_ne q h.2.2.2.1, fun q => zs_ne q h.2.2.2.2.1, fun q => zs_ne q h.2.2.2.2.2.1⟩
theorem zAr_l {w : zW} {l' : Nat → Int32} (h : zAr w jR jl ju jc jn jM l u c ln mi) : zAr (w.set jl (aI 33 l')) jR jl ju jc jn jM l' u c ln mi := by
  obtain ⟨h0, h1, h2, h3, h4, h5, h6, h7⟩ := h
  exact ⟨zs_ne (z_ne h1 h0 (by intro h; cases h)) h0, zs_self h1, zs_ne h6 h2, zs_ne (z_ne h1 h3 (by intro h; cases h)) h3, zs_ne (z_ne h1 h4 (by intro h; cases h)) h4, zs_ne (z_ne h1 h5 (by intro h; cases h)) h5, h6, h7⟩
theorem zAr_u {w : zW} {u' : Nat → Int32} (h : zAr w jR jl ju jc jn jM l u c ln mi) : zAr (w.set ju (aI 33 u')) jR jl ju jc jn jM l u' c ln mi := by
  obtain ⟨h0, h1, h2, h3, h4, h5, h6, h7⟩ := h
  exact ⟨zs_ne (z_ne h2 h0 (by intro h; cases h)) h0, zs_ne (Ne.symm h6) h1, zs_self h2, zs_ne (z_ne h2 h3 (by intro h; cases h)) h3, zs_ne (z_ne h2 h4 (by intro h; cases h)) h4, zs_ne (z_ne h2 h5 (by intro h; cases h)) h5, h6, h7⟩
theorem zAr_c {w : zW} {c' : Nat → Int32} (h : zAr w jR jl ju jc jn jM l u c ln mi) : zAr (w.set jc (aI 64 c')) jR jl ju jc jn jM l u c' ln mi := by
  obtain ⟨h0, h1, h2, h3, h4, h5, h6, h7⟩ := h
  exact ⟨zs_ne (z_ne h3 h0 (by intro h; cases h)) h0, zs_ne (z_ne h3 h1 (by intro h; cases h)) h1, zs_ne (z_ne h3 h2 (by intro h; cases h)) h2, zs_self h3, zs_ne h7 h4, zs_ne (z_ne h3 h5 (by intro h; cases h)) h5, h6, h7⟩
theorem zAr_n {w : zW} {n' : Nat → Int32} (h : zAr w jR jl ju jc jn jM l u c ln mi) : zAr (w.set jn (aI 64 n')) jR jl ju jc jn jM l u c n' mi := by
  obtain ⟨h0, h1, h2, h3, h4, h5, h6, h7⟩ := h
  exact ⟨zs_ne (z_ne h4 h0 (by intro h; cases h)) h0, zs_ne (z_ne h4 h1 (by intro h; cases h)) h1, zs_ne (z_ne h4 h2 (by intro h; cases h)) h2, zs_ne (Ne.symm h7) h3, zs_self h4, zs_ne (z_ne h4 h5 (by intro h; cases h)) h5, h6, h7⟩
theorem zAr_m {w : zW} {m' : Nat → Int64} (h : zAr w jR jl ju jc jn jM l u c ln mi) : zAr (w.set jM (aL 2304 m')) jR jl ju jc jn jM l u c ln m' := by
  obtain ⟨h0, h1, h2, h3, h4, h5, h6, h7⟩ := h
  exact ⟨zs_ne (z_ne h5 h0 (by intro h; cases h)) h0, zs_ne (z_ne h5 h1 (by intro h; cases h)) h1, zs_ne (z_ne h5 h2 (by intro h; cases h)) h2, zs_ne (z_ne h5 h3 (by intro h; cases h)) h3, zs_ne (z_ne h5 h4 (by intro h; cases h)) h4, zs_self h5, h6, h7⟩
theorem zCr_a33 {w : zW} {i : Nat} {x x' : Nat → Int32} (hC : zCr w j je jg n f g) (h : w[i]? = some (aI 33 x)) : zCr (w.set i (aI 33 x')) j je jg n f g :=
  zCr_set hC (z_ne h hC.1 (by intro h; cases h)) (z_ne h hC.2.1 (by intro h; cases h)) (z_ne h hC.2.2.1 (by intro h; cases h))
theorem zCr_a64 {w : zW} {i : Nat} {x x' : Nat → Int32} (hC : zCr w j je jg n f g) (h : w[i]? = some (aI 64 x)) : zCr (w.set i (aI 64 x')) j je jg n f g :=
  zCr_set hC (z_ne h hC.1 (by intro h; cases h)) (z_ne h hC.2.1 (by intro h; cases h)) (z_ne h hC.2.2.1 (by intro h; cases h))
theorem lp_R_mergeArcs (a b lo : Int32) : ∀ k i (w : zW) (l : Nat → Int32), i + k = 33 → zAr w jR jl ju jc jn jM l u c ln mi → Ev M_R_mergeArcs none none (w.set jl (aI 33 (mgA a b lo l i k))) 9 [(0, .ref jR), (1, .int a), (2, .int b), (3, .int lo), (4, .int (nI i))] [] w 0 0 := by
  intro k
  induction k with
  | zero =>
    intro i w l hi hA
    have e0 : mgA a b lo l i 0 = l := by rw [mgA]
    rw [e0, z_set_self hA.2.1]
    refine ev_iload d_R_mergeArcs_9 rfl ?_
    refine ev_bipush (v := 32) d_R_mergeArcs_11 (by decide) ?_
    refine ev_icmp_gt 52 d_R_mergeArcs_13 (by decide) (fun h => ?_) (fun h => ?_)
    · exact ev_ret d_R_mergeArcs_52 rfl (Nat.le_of_ble_eq_true rfl) (Nat.le_of_ble_eq_true rfl)
    · exact absurd (nI_lt (a := 32) (b := i) (by omega) (by omega)) h
  | succ k ih =>
    intro i w l hi hA
    have yes : (l i = a ∨ l i = b) → Ev M_R_mergeArcs none none (w.set jl (aI 33 (mgA a b lo l i (k + 1)))) 38 [(0, .ref jR), (1, .int a), (2, .int b), (3, .int lo), (4, .int (nI i))] [] w 0 0 := by
      intro h2
      have e0 : mgA a b lo l i (k + 1) = mgA a b lo (upd l i lo) (i + 1) k := by rw [mgA, if_pos h2]
      rw [e0]
      refine ev_aload_n 0 d_R_mergeArcs_38 rfl rfl ?_
      refine ev_get f_R_11 d_R_mergeArcs_39 hA.1 rfl ?_
      refine ev_iload d_R_mergeArcs_42 rfl ?_
      refine ev_iload_n 3 d_R_mergeArcs_44 rfl rfl ?_
      refine ev_iast d_R_mergeArcs_45 hA.2.1 (vp_in_nI (by omega) (by omega)) ?_
      refine ev_iinc (v := _ + 1) d_R_mergeArcs_46 rfl rfl (Nat.le_of_ble_eq_true rfl) rfl ?_
      rw [nI_clamp (by omega), nI_1]
      refine ev_goto 9 d_R_mergeArcs_49 (by decide) ?_
      have h4 := ih (i + 1) _ _ (by omega) (zAr_l (l' := upd l i lo) hA)
      rw [List.set_set] at h4
      exact h4
    refine ev_iload d_R_mergeArcs_9 rfl ?_
    refine ev_bipush (v := 32) d_R_mergeArcs_11 (by decide) ?_
    refine ev_icmp_gt 52 d_R_mergeArcs_13 (by decide) (fun h => ?_) (fun h => ?_)
    · exact absurd h (nI_nlt (a := 32) (b := i) (by omega) (by omega))
    · refine ev_aload_n 0 d_R_mergeArcs_16 rfl rfl ?_
      refine ev_get f_R_11 d_R_mergeArcs_17 hA.1 rfl ?_
      refine ev_iload d_R_mergeArcs_20 rfl ?_
      refine ev_iald d_R_mergeArcs_22 hA.2.1 (vp_in_nI (by omega) (by omega)) ?_
      rw [nI_clamp (by omega)]
      refine ev_iload_n 1 d_R_mergeArcs_23 rfl rfl ?_
      refine ev_icmp_eq 38 d_R_mergeArcs_24 (by decide) (fun h2 => ?_) (fun h2 => ?_)
      · exact yes (Or.inl h2)
      · refine ev_aload_n 0 d_R_mergeArcs_27 rfl rfl ?_
        refine ev_get f_R_11 d_R_mergeArcs_28 hA.1 rfl ?_
        refine ev_iload d_R_mergeArcs_31 rfl ?_
        refine ev_iald d_R_mergeArcs_33 hA.2.1 (vp_in_nI (by omega) (by omega)) ?_
        rw [nI_clamp (by omega)]
        refine ev_iload_n 2 d_R_mergeArcs_34 rfl rfl ?_
        refine ev_icmp_ne 46 d_R_mergeArcs_35 (by decide) (fun h3 => ?_) (fun h3 => ?_)
        · have e0 : mgA a b lo l i (k + 1) = mgA a b lo l (i + 1) k := by rw [mgA, if_neg (fun q => q.elim h2 h3)]
          rw [e0]
          refine ev_iinc (v := _ + 1) d_R_mergeArcs_46 rfl rfl (Nat.le_of_ble_eq_true rfl) rfl ?_
          rw [nI_1]
          refine ev_goto 9 d_R_mergeArcs_49 (by decide) ?_
          exact ih (i + 1) w l (by omega) hA
        · exact yes (Or.inr h3)
theorem sp_R_mergeArcs {w : zW} (hA : zAr w jR jl ju jc jn jM l u c ln mi) (a b : Int32) : Sp M_R_mergeArcs [.ref jR, .int a, .int b] w none (w.set jl (aI 33 (mgL l a b))) := by
  refine Sp.of (by decide) (Nat.le_of_ble_eq_true rfl) ?_
  refine ev_iload_n 1 d_R_mergeArcs_0 rfl rfl ?_
  refine ev_iload_n 2 d_R_mergeArcs_1 rfl rfl ?_
  refine ev_mmin c_R_62 wm_min_s wm_i wm_min_c d_R_mergeArcs_2 (by decide) (by decide) (by decide) (by decide) ?_
  refine ev_istore_n 3 d_R_mergeArcs_5 rfl (Nat.le_of_ble_eq_true rfl) rfl ?_
  refine ev_iconst (v := 1) d_R_mergeArcs_6 (by decide) ?_
  refine ev_istore d_R_mergeArcs_7 (Nat.le_of_ble_eq_true rfl) rfl ?_
  exact lp_R_mergeArcs a b (mnI a b) 32 1 w l (by omega) hA
end Ar
end
