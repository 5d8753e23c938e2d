section
-- ===== PART A: goes FIRST, ahead of the names: the tables' words, and 'selects' of the private methods out of them =====
/-- a private method of a class that the tables say can be made, by its rows of tables_1 -/
def lw_okq (q : MethodName × Nat) : Prop := (q.1.cls ≠ "java/lang/invoke/MethodHandle" ∧ q.1.cls ≠ "java/lang/invoke/VarHandle") ∧ Cond.instantiable q.1.cls q.2 ∈ tables_1 ∧ Cond.privateMethod q.1 ∈ tables_1 ∧ Cond.instanceMethod q.1 ∈ tables_1
theorem lw_p0 : lw_okq (⟨"LinkDiagram$Shape", "fitsAt", "(LLinkDiagram$Crossings;I)Z"⟩, 2) := ⟨⟨by decide +kernel, by decide +kernel⟩, List.mem_of_getElem? (i := 37) (by decide +kernel), List.mem_of_getElem? (i := 167) (by decide +kernel), List.mem_of_getElem? (i := 168) (by decide +kernel)⟩
theorem lw_p1 : lw_okq (⟨"LinkDiagram$Shape", "markFace", "(LLinkDiagram$Crossings;I)V"⟩, 2) := ⟨⟨by decide +kernel, by decide +kernel⟩, List.mem_of_getElem? (i := 37) (by decide +kernel), List.mem_of_getElem? (i := 200) (by decide +kernel), List.mem_of_getElem? (i := 201) (by decide +kernel)⟩
theorem lw_p2 : lw_okq (⟨"LinkDiagram$Shape", "mergePieces", "(II)V"⟩, 2) := ⟨⟨by decide +kernel, by decide +kernel⟩, List.mem_of_getElem? (i := 37) (by decide +kernel), List.mem_of_getElem? (i := 223) (by decide +kernel), List.mem_of_getElem? (i := 224) (by decide +kernel)⟩
theorem lw_p3 : lw_okq (⟨"LinkDiagram", "wordIsBelow", "(I)Z"⟩, 10) := ⟨⟨by decide +kernel, by decide +kernel⟩, List.mem_of_getElem? (i := 12) (by decide +kernel), List.mem_of_getElem? (i := 243) (by decide +kernel), List.mem_of_getElem? (i := 244) (by decide +kernel)⟩
theorem lw_p4 : lw_okq (⟨"LinkDiagram", "weave", "(II)V"⟩, 10) := ⟨⟨by decide +kernel, by decide +kernel⟩, List.mem_of_getElem? (i := 12) (by decide +kernel), List.mem_of_getElem? (i := 250) (by decide +kernel), List.mem_of_getElem? (i := 251) (by decide +kernel)⟩
theorem lw_p5 : lw_okq (⟨"LinkDiagram", "closePlace", "(I)V"⟩, 10) := ⟨⟨by decide +kernel, by decide +kernel⟩, List.mem_of_getElem? (i := 12) (by decide +kernel), List.mem_of_getElem? (i := 254) (by decide +kernel), List.mem_of_getElem? (i := 255) (by decide +kernel)⟩
theorem lw_p6 : lw_okq (⟨"LinkDiagram$Shape", "markStrand", "(LLinkDiagram$Crossings;I)V"⟩, 2) := ⟨⟨by decide +kernel, by decide +kernel⟩, List.mem_of_getElem? (i := 37) (by decide +kernel), List.mem_of_getElem? (i := 270) (by decide +kernel), List.mem_of_getElem? (i := 271) (by decide +kernel)⟩
theorem lw_p7 : lw_okq (⟨"LinkDiagram$Bracket", "tallyStates", "(LLinkDiagram$Crossings;I)V"⟩, 3) := ⟨⟨by decide +kernel, by decide +kernel⟩, List.mem_of_getElem? (i := 50) (by decide +kernel), List.mem_of_getElem? (i := 301) (by decide +kernel), List.mem_of_getElem? (i := 302) (by decide +kernel)⟩
theorem lw_p8 : lw_okq (⟨"LinkDiagram$Bracket", "curvesOf", "(II)I"⟩, 3) := ⟨⟨by decide +kernel, by decide +kernel⟩, List.mem_of_getElem? (i := 50) (by decide +kernel), List.mem_of_getElem? (i := 309) (by decide +kernel), List.mem_of_getElem? (i := 310) (by decide +kernel)⟩
theorem lw_p9 : lw_okq (⟨"LinkDiagram$Bracket", "seenWithCurve", "(III)I"⟩, 3) := ⟨⟨by decide +kernel, by decide +kernel⟩, List.mem_of_getElem? (i := 50) (by decide +kernel), List.mem_of_getElem? (i := 313) (by decide +kernel), List.mem_of_getElem? (i := 314) (by decide +kernel)⟩
theorem lw_p10 : lw_okq (⟨"LinkDiagram$Bracket", "multiplyByCurve", "()V"⟩, 3) := ⟨⟨by decide +kernel, by decide +kernel⟩, List.mem_of_getElem? (i := 50) (by decide +kernel), List.mem_of_getElem? (i := 327) (by decide +kernel), List.mem_of_getElem? (i := 328) (by decide +kernel)⟩
theorem lw_p11 : lw_okq (⟨"LinkDiagram$Bracket", "addStates", "(II)V"⟩, 3) := ⟨⟨by decide +kernel, by decide +kernel⟩, List.mem_of_getElem? (i := 50) (by decide +kernel), List.mem_of_getElem? (i := 331) (by decide +kernel), List.mem_of_getElem? (i := 332) (by decide +kernel)⟩
theorem lw_p12 : lw_okq (⟨"LinkDiagram$ArcMatrix", "numberArcs", "(LLinkDiagram$Crossings;)I"⟩, 5) := ⟨⟨by decide +kernel, by decide +kernel⟩, List.mem_of_getElem? (i := 67) (by decide +kernel), List.mem_of_getElem? (i := 344) (by decide +kernel), List.mem_of_getElem? (i := 345) (by decide +kernel)⟩
theorem lw_p13 : lw_okq (⟨"LinkDiagram$ArcMatrix", "mergeArcs", "(II)V"⟩, 5) := ⟨⟨by decide +kernel, by decide +kernel⟩, List.mem_of_getElem? (i := 67) (by decide +kernel), List.mem_of_getElem? (i := 350) (by decide +kernel), List.mem_of_getElem? (i := 351) (by decide +kernel)⟩
theorem lw_p14 : lw_okq (⟨"LinkDiagram$ArcMatrix", "fillMatrix", "(LLinkDiagram$Crossings;I)V"⟩, 5) := ⟨⟨by decide +kernel, by decide +kernel⟩, List.mem_of_getElem? (i := 67) (by decide +kernel), List.mem_of_getElem? (i := 361) (by decide +kernel), List.mem_of_getElem? (i := 362) (by decide +kernel)⟩
theorem lw_p15 : lw_okq (⟨"LinkDiagram$ArcMatrix", "addEntry", "(LLinkDiagram$Crossings;IIII)V"⟩, 5) := ⟨⟨by decide +kernel, by decide +kernel⟩, List.mem_of_getElem? (i := 67) (by decide +kernel), List.mem_of_getElem? (i := 367) (by decide +kernel), List.mem_of_getElem? (i := 368) (by decide +kernel)⟩
def lw_privs_1 : List (MethodName × Nat) := [(⟨"LinkDiagram$Shape", "fitsAt", "(LLinkDiagram$Crossings;I)Z"⟩, 2), (⟨"LinkDiagram$Shape", "markFace", "(LLinkDiagram$Crossings;I)V"⟩, 2), (⟨"LinkDiagram$Shape", "mergePieces", "(II)V"⟩, 2), (⟨"LinkDiagram", "wordIsBelow", "(I)Z"⟩, 10), (⟨"LinkDiagram", "weave", "(II)V"⟩, 10), (⟨"LinkDiagram", "closePlace", "(I)V"⟩, 10), (⟨"LinkDiagram$Shape", "markStrand", "(LLinkDiagram$Crossings;I)V"⟩, 2), (⟨"LinkDiagram$Bracket", "tallyStates", "(LLinkDiagram$Crossings;I)V"⟩, 3), (⟨"LinkDiagram$Bracket", "curvesOf", "(II)I"⟩, 3), (⟨"LinkDiagram$Bracket", "seenWithCurve", "(III)I"⟩, 3), (⟨"LinkDiagram$Bracket", "multiplyByCurve", "()V"⟩, 3), (⟨"LinkDiagram$Bracket", "addStates", "(II)V"⟩, 3), (⟨"LinkDiagram$ArcMatrix", "numberArcs", "(LLinkDiagram$Crossings;)I"⟩, 5), (⟨"LinkDiagram$ArcMatrix", "mergeArcs", "(II)V"⟩, 5), (⟨"LinkDiagram$ArcMatrix", "fillMatrix", "(LLinkDiagram$Crossings;I)V"⟩, 5), (⟨"LinkDiagram$ArcMatrix", "addEntry", "(LLinkDiagram$Crossings;IIII)V"⟩, 5)]
theorem lw_r1 : ∀ q ∈ lw_privs_1, lw_okq q := List.forall_mem_cons.mpr ⟨lw_p0, List.forall_mem_cons.mpr ⟨lw_p1, List.forall_mem_cons.mpr ⟨lw_p2, List.forall_mem_cons.mpr ⟨lw_p3, List.forall_mem_cons.mpr ⟨lw_p4, List.forall_mem_cons.mpr ⟨lw_p5, List.forall_mem_cons.mpr ⟨lw_p6, List.forall_mem_cons.mpr ⟨lw_p7, List.forall_mem_cons.mpr ⟨lw_p8, List.forall_mem_cons.mpr ⟨lw_p9, List.forall_mem_cons.mpr ⟨lw_p10, List.forall_mem_cons.mpr ⟨lw_p11, List.forall_mem_cons.mpr ⟨lw_p12, List.forall_mem_cons.mpr ⟨lw_p13, List.forall_mem_cons.mpr ⟨lw_p14, List.forall_mem_cons.mpr ⟨lw_p15, fun _ h => absurd h List.not_mem_nil⟩⟩⟩⟩⟩⟩⟩⟩⟩⟩⟩⟩⟩⟩⟩⟩
theorem lw_p16 : lw_okq (⟨"LinkDiagram$ArcMatrix", "expandMinors", "(I)V"⟩, 5) := ⟨⟨by decide +kernel, by decide +kernel⟩, List.mem_of_getElem? (i := 67) (by decide +kernel), List.mem_of_getElem? (i := 373) (by decide +kernel), List.mem_of_getElem? (i := 374) (by decide +kernel)⟩
theorem lw_p17 : lw_okq (⟨"LinkDiagram$ArcMatrix", "addProduct", "(III)V"⟩, 5) := ⟨⟨by decide +kernel, by decide +kernel⟩, List.mem_of_getElem? (i := 67) (by decide +kernel), List.mem_of_getElem? (i := 379) (by decide +kernel), List.mem_of_getElem? (i := 380) (by decide +kernel)⟩
theorem lw_p18 : lw_okq (⟨"LinkDiagram$ArcMatrix", "normalCoefficient", "(II)J"⟩, 5) := ⟨⟨by decide +kernel, by decide +kernel⟩, List.mem_of_getElem? (i := 67) (by decide +kernel), List.mem_of_getElem? (i := 383) (by decide +kernel), List.mem_of_getElem? (i := 384) (by decide +kernel)⟩
theorem lw_p19 : lw_okq (⟨"LinkDiagram", "freeEdge", "(I)I"⟩, 10) := ⟨⟨by decide +kernel, by decide +kernel⟩, List.mem_of_getElem? (i := 12) (by decide +kernel), List.mem_of_getElem? (i := 391) (by decide +kernel), List.mem_of_getElem? (i := 392) (by decide +kernel)⟩
theorem lw_p20 : lw_okq (⟨"LinkDiagram", "appendTwist", "(IIII)V"⟩, 10) := ⟨⟨by decide +kernel, by decide +kernel⟩, List.mem_of_getElem? (i := 12) (by decide +kernel), List.mem_of_getElem? (i := 396) (by decide +kernel), List.mem_of_getElem? (i := 397) (by decide +kernel)⟩
theorem lw_p21 : lw_okq (⟨"LinkDiagram", "loopEnd", "(I)I"⟩, 10) := ⟨⟨by decide +kernel, by decide +kernel⟩, List.mem_of_getElem? (i := 12) (by decide +kernel), List.mem_of_getElem? (i := 413) (by decide +kernel), List.mem_of_getElem? (i := 414) (by decide +kernel)⟩
theorem lw_p22 : lw_okq (⟨"LinkDiagram", "join", "(II)V"⟩, 10) := ⟨⟨by decide +kernel, by decide +kernel⟩, List.mem_of_getElem? (i := 12) (by decide +kernel), List.mem_of_getElem? (i := 419) (by decide +kernel), List.mem_of_getElem? (i := 420) (by decide +kernel)⟩
theorem lw_p23 : lw_okq (⟨"LinkDiagram", "isPokedFace", "(II)Z"⟩, 10) := ⟨⟨by decide +kernel, by decide +kernel⟩, List.mem_of_getElem? (i := 12) (by decide +kernel), List.mem_of_getElem? (i := 436) (by decide +kernel), List.mem_of_getElem? (i := 437) (by decide +kernel)⟩
theorem lw_p24 : lw_okq (⟨"LinkDiagram", "pullApart", "(II)V"⟩, 10) := ⟨⟨by decide +kernel, by decide +kernel⟩, List.mem_of_getElem? (i := 12) (by decide +kernel), List.mem_of_getElem? (i := 444) (by decide +kernel), List.mem_of_getElem? (i := 445) (by decide +kernel)⟩
theorem lw_p25 : lw_okq (⟨"LinkDiagram", "isSlidingFace", "(III)Z"⟩, 10) := ⟨⟨by decide +kernel, by decide +kernel⟩, List.mem_of_getElem? (i := 12) (by decide +kernel), List.mem_of_getElem? (i := 473) (by decide +kernel), List.mem_of_getElem? (i := 474) (by decide +kernel)⟩
theorem lw_p26 : lw_okq (⟨"LinkDiagram", "isUpperEdge", "(I)Z"⟩, 10) := ⟨⟨by decide +kernel, by decide +kernel⟩, List.mem_of_getElem? (i := 12) (by decide +kernel), List.mem_of_getElem? (i := 477) (by decide +kernel), List.mem_of_getElem? (i := 478) (by decide +kernel)⟩
theorem lw_p27 : lw_okq (⟨"LinkDiagram", "slideFace", "(I)V"⟩, 10) := ⟨⟨by decide +kernel, by decide +kernel⟩, List.mem_of_getElem? (i := 12) (by decide +kernel), List.mem_of_getElem? (i := 481) (by decide +kernel), List.mem_of_getElem? (i := 482) (by decide +kernel)⟩
theorem lw_p28 : lw_okq (⟨"LinkDiagram", "slideEdge", "(I)V"⟩, 10) := ⟨⟨by decide +kernel, by decide +kernel⟩, List.mem_of_getElem? (i := 12) (by decide +kernel), List.mem_of_getElem? (i := 485) (by decide +kernel), List.mem_of_getElem? (i := 486) (by decide +kernel)⟩
theorem lw_p29 : lw_okq (⟨"LinkDiagramModel", "put", "(IIIIIZ)V"⟩, 19) := ⟨⟨by decide +kernel, by decide +kernel⟩, List.mem_of_getElem? (i := 496) (by decide +kernel), List.mem_of_getElem? (i := 568) (by decide +kernel), List.mem_of_getElem? (i := 569) (by decide +kernel)⟩
theorem lw_p30 : lw_okq (⟨"LinkDiagramModel", "look", "(Z)V"⟩, 19) := ⟨⟨by decide +kernel, by decide +kernel⟩, List.mem_of_getElem? (i := 496) (by decide +kernel), List.mem_of_getElem? (i := 580) (by decide +kernel), List.mem_of_getElem? (i := 581) (by decide +kernel)⟩
theorem lw_p31 : lw_okq (⟨"LinkDiagramModel", "fit", "()Z"⟩, 19) := ⟨⟨by decide +kernel, by decide +kernel⟩, List.mem_of_getElem? (i := 496) (by decide +kernel), List.mem_of_getElem? (i := 584) (by decide +kernel), List.mem_of_getElem? (i := 585) (by decide +kernel)⟩
def lw_privs_2 : List (MethodName × Nat) := [(⟨"LinkDiagram$ArcMatrix", "expandMinors", "(I)V"⟩, 5), (⟨"LinkDiagram$ArcMatrix", "addProduct", "(III)V"⟩, 5), (⟨"LinkDiagram$ArcMatrix", "normalCoefficient", "(II)J"⟩, 5), (⟨"LinkDiagram", "freeEdge", "(I)I"⟩, 10), (⟨"LinkDiagram", "appendTwist", "(IIII)V"⟩, 10), (⟨"LinkDiagram", "loopEnd", "(I)I"⟩, 10), (⟨"LinkDiagram", "join", "(II)V"⟩, 10), (⟨"LinkDiagram", "isPokedFace", "(II)Z"⟩, 10), (⟨"LinkDiagram", "pullApart", "(II)V"⟩, 10), (⟨"LinkDiagram", "isSlidingFace", "(III)Z"⟩, 10), (⟨"LinkDiagram", "isUpperEdge", "(I)Z"⟩, 10), (⟨"LinkDiagram", "slideFace", "(I)V"⟩, 10), (⟨"LinkDiagram", "slideEdge", "(I)V"⟩, 10), (⟨"LinkDiagramModel", "put", "(IIIIIZ)V"⟩, 19), (⟨"LinkDiagramModel", "look", "(Z)V"⟩, 19), (⟨"LinkDiagramModel", "fit", "()Z"⟩, 19)]
theorem lw_r2 : ∀ q ∈ lw_privs_2, lw_okq q := List.forall_mem_cons.mpr ⟨lw_p16, List.forall_mem_cons.mpr ⟨lw_p17, List.forall_mem_cons.mpr ⟨lw_p18, List.forall_mem_cons.mpr ⟨lw_p19, List.forall_mem_cons.mpr ⟨lw_p20, List.forall_mem_cons.mpr ⟨lw_p21, List.forall_mem_cons.mpr ⟨lw_p22, List.forall_mem_cons.mpr ⟨lw_p23, List.forall_mem_cons.mpr ⟨lw_p24, List.forall_mem_cons.mpr ⟨lw_p25, List.forall_mem_cons.mpr ⟨lw_p26, List.forall_mem_cons.mpr ⟨lw_p27, List.forall_mem_cons.mpr ⟨lw_p28, List.forall_mem_cons.mpr ⟨lw_p29, List.forall_mem_cons.mpr ⟨lw_p30, List.forall_mem_cons.mpr ⟨lw_p31, fun _ h => absurd h List.not_mem_nil⟩⟩⟩⟩⟩⟩⟩⟩⟩⟩⟩⟩⟩⟩⟩⟩
theorem lw_p32 : lw_okq (⟨"LinkDiagramModel", "other", "(I)I"⟩, 19) := ⟨⟨by decide +kernel, by decide +kernel⟩, List.mem_of_getElem? (i := 496) (by decide +kernel), List.mem_of_getElem? (i := 588) (by decide +kernel), List.mem_of_getElem? (i := 589) (by decide +kernel)⟩
theorem lw_p33 : lw_okq (⟨"LinkDiagramModel", "in", "(I)Z"⟩, 19) := ⟨⟨by decide +kernel, by decide +kernel⟩, List.mem_of_getElem? (i := 496) (by decide +kernel), List.mem_of_getElem? (i := 592) (by decide +kernel), List.mem_of_getElem? (i := 593) (by decide +kernel)⟩
theorem lw_p34 : lw_okq (⟨"LinkDiagramModel", "faces", "()I"⟩, 19) := ⟨⟨by decide +kernel, by decide +kernel⟩, List.mem_of_getElem? (i := 496) (by decide +kernel), List.mem_of_getElem? (i := 596) (by decide +kernel), List.mem_of_getElem? (i := 597) (by decide +kernel)⟩
theorem lw_p35 : lw_okq (⟨"LinkDiagramModel", "face", "(I)I"⟩, 19) := ⟨⟨by decide +kernel, by decide +kernel⟩, List.mem_of_getElem? (i := 496) (by decide +kernel), List.mem_of_getElem? (i := 600) (by decide +kernel), List.mem_of_getElem? (i := 601) (by decide +kernel)⟩
theorem lw_p36 : lw_okq (⟨"LinkDiagramModel", "follow", "(I)I"⟩, 19) := ⟨⟨by decide +kernel, by decide +kernel⟩, List.mem_of_getElem? (i := 496) (by decide +kernel), List.mem_of_getElem? (i := 604) (by decide +kernel), List.mem_of_getElem? (i := 605) (by decide +kernel)⟩
theorem lw_p37 : lw_okq (⟨"LinkDiagramModel", "pieces", "()I"⟩, 19) := ⟨⟨by decide +kernel, by decide +kernel⟩, List.mem_of_getElem? (i := 496) (by decide +kernel), List.mem_of_getElem? (i := 608) (by decide +kernel), List.mem_of_getElem? (i := 609) (by decide +kernel)⟩
theorem lw_p38 : lw_okq (⟨"LinkDiagramModel", "clear", "()V"⟩, 19) := ⟨⟨by decide +kernel, by decide +kernel⟩, List.mem_of_getElem? (i := 496) (by decide +kernel), List.mem_of_getElem? (i := 612) (by decide +kernel), List.mem_of_getElem? (i := 613) (by decide +kernel)⟩
theorem lw_p39 : lw_okq (⟨"LinkDiagramModel", "spread", "(I)V"⟩, 19) := ⟨⟨by decide +kernel, by decide +kernel⟩, List.mem_of_getElem? (i := 496) (by decide +kernel), List.mem_of_getElem? (i := 616) (by decide +kernel), List.mem_of_getElem? (i := 617) (by decide +kernel)⟩
theorem lw_p40 : lw_okq (⟨"LinkDiagramModel", "rounds", "(I)I"⟩, 19) := ⟨⟨by decide +kernel, by decide +kernel⟩, List.mem_of_getElem? (i := 496) (by decide +kernel), List.mem_of_getElem? (i := 635) (by decide +kernel), List.mem_of_getElem? (i := 636) (by decide +kernel)⟩
theorem lw_p41 : lw_okq (⟨"LinkDiagramModel", "writhe", "()I"⟩, 19) := ⟨⟨by decide +kernel, by decide +kernel⟩, List.mem_of_getElem? (i := 496) (by decide +kernel), List.mem_of_getElem? (i := 642) (by decide +kernel), List.mem_of_getElem? (i := 643) (by decide +kernel)⟩
theorem lw_p42 : lw_okq (⟨"LinkDiagramModel", "addState", "(I)V"⟩, 19) := ⟨⟨by decide +kernel, by decide +kernel⟩, List.mem_of_getElem? (i := 496) (by decide +kernel), List.mem_of_getElem? (i := 654) (by decide +kernel), List.mem_of_getElem? (i := 655) (by decide +kernel)⟩
theorem lw_p43 : lw_okq (⟨"LinkDiagramModel", "doubleLoop", "()V"⟩, 19) := ⟨⟨by decide +kernel, by decide +kernel⟩, List.mem_of_getElem? (i := 496) (by decide +kernel), List.mem_of_getElem? (i := 658) (by decide +kernel), List.mem_of_getElem? (i := 659) (by decide +kernel)⟩
theorem lw_p44 : lw_okq (⟨"LinkDiagramModel", "number", "()V"⟩, 19) := ⟨⟨by decide +kernel, by decide +kernel⟩, List.mem_of_getElem? (i := 496) (by decide +kernel), List.mem_of_getElem? (i := 666) (by decide +kernel), List.mem_of_getElem? (i := 667) (by decide +kernel)⟩
theorem lw_p45 : lw_okq (⟨"LinkDiagramModel", "merge", "(II)V"⟩, 19) := ⟨⟨by decide +kernel, by decide +kernel⟩, List.mem_of_getElem? (i := 496) (by decide +kernel), List.mem_of_getElem? (i := 670) (by decide +kernel), List.mem_of_getElem? (i := 671) (by decide +kernel)⟩
theorem lw_p46 : lw_okq (⟨"LinkDiagramModel", "occurs", "(I)Z"⟩, 19) := ⟨⟨by decide +kernel, by decide +kernel⟩, List.mem_of_getElem? (i := 496) (by decide +kernel), List.mem_of_getElem? (i := 674) (by decide +kernel), List.mem_of_getElem? (i := 675) (by decide +kernel)⟩
theorem lw_p47 : lw_okq (⟨"LinkDiagramModel", "entries", "(I)V"⟩, 19) := ⟨⟨by decide +kernel, by decide +kernel⟩, List.mem_of_getElem? (i := 496) (by decide +kernel), List.mem_of_getElem? (i := 678) (by decide +kernel), List.mem_of_getElem? (i := 679) (by decide +kernel)⟩
def lw_privs_3 : List (MethodName × Nat) := [(⟨"LinkDiagramModel", "other", "(I)I"⟩, 19), (⟨"LinkDiagramModel", "in", "(I)Z"⟩, 19), (⟨"LinkDiagramModel", "faces", "()I"⟩, 19), (⟨"LinkDiagramModel", "face", "(I)I"⟩, 19), (⟨"LinkDiagramModel", "follow", "(I)I"⟩, 19), (⟨"LinkDiagramModel", "pieces", "()I"⟩, 19), (⟨"LinkDiagramModel", "clear", "()V"⟩, 19), (⟨"LinkDiagramModel", "spread", "(I)V"⟩, 19), (⟨"LinkDiagramModel", "rounds", "(I)I"⟩, 19), (⟨"LinkDiagramModel", "writhe", "()I"⟩, 19), (⟨"LinkDiagramModel", "addState", "(I)V"⟩, 19), (⟨"LinkDiagramModel", "doubleLoop", "()V"⟩, 19), (⟨"LinkDiagramModel", "number", "()V"⟩, 19), (⟨"LinkDiagramModel", "merge", "(II)V"⟩, 19), (⟨"LinkDiagramModel", "occurs", "(I)Z"⟩, 19), (⟨"LinkDiagramModel", "entries", "(I)V"⟩, 19)]
theorem lw_r3 : ∀ q ∈ lw_privs_3, lw_okq q := List.forall_mem_cons.mpr ⟨lw_p32, List.forall_mem_cons.mpr ⟨lw_p33, List.forall_mem_cons.mpr ⟨lw_p34, List.forall_mem_cons.mpr ⟨lw_p35, List.forall_mem_cons.mpr ⟨lw_p36, List.forall_mem_cons.mpr ⟨lw_p37, List.forall_mem_cons.mpr ⟨lw_p38, List.forall_mem_cons.mpr ⟨lw_p39, List.forall_mem_cons.mpr ⟨lw_p40, List.forall_mem_cons.mpr ⟨lw_p41, List.forall_mem_cons.mpr ⟨lw_p42, List.forall_mem_cons.mpr ⟨lw_p43, List.forall_mem_cons.mpr ⟨lw_p44, List.forall_mem_cons.mpr ⟨lw_p45, List.forall_mem_cons.mpr ⟨lw_p46, List.forall_mem_cons.mpr ⟨lw_p47, fun _ h => absurd h List.not_mem_nil⟩⟩⟩⟩⟩⟩⟩⟩⟩⟩⟩⟩⟩⟩⟩⟩
theorem lw_p48 : lw_okq (⟨"LinkDiagramModel", "expand", "(III)V"⟩, 19) := ⟨⟨by decide +kernel, by decide +kernel⟩, List.mem_of_getElem? (i := 496) (by decide +kernel), List.mem_of_getElem? (i := 685) (by decide +kernel), List.mem_of_getElem? (i := 686) (by decide +kernel)⟩
theorem lw_p49 : lw_okq (⟨"LinkDiagramModel", "free", "(I)I"⟩, 19) := ⟨⟨by decide +kernel, by decide +kernel⟩, List.mem_of_getElem? (i := 496) (by decide +kernel), List.mem_of_getElem? (i := 694) (by decide +kernel), List.mem_of_getElem? (i := 695) (by decide +kernel)⟩
theorem lw_p50 : lw_okq (⟨"LinkDiagramModel", "kink", "(IIII)V"⟩, 19) := ⟨⟨by decide +kernel, by decide +kernel⟩, List.mem_of_getElem? (i := 496) (by decide +kernel), List.mem_of_getElem? (i := 698) (by decide +kernel), List.mem_of_getElem? (i := 699) (by decide +kernel)⟩
theorem lw_p51 : lw_okq (⟨"LinkDiagramModel", "instead", "(II)V"⟩, 19) := ⟨⟨by decide +kernel, by decide +kernel⟩, List.mem_of_getElem? (i := 496) (by decide +kernel), List.mem_of_getElem? (i := 702) (by decide +kernel), List.mem_of_getElem? (i := 703) (by decide +kernel)⟩
theorem lw_p52 : lw_okq (⟨"LinkDiagramModel", "endOf", "(IZ)I"⟩, 19) := ⟨⟨by decide +kernel, by decide +kernel⟩, List.mem_of_getElem? (i := 496) (by decide +kernel), List.mem_of_getElem? (i := 706) (by decide +kernel), List.mem_of_getElem? (i := 707) (by decide +kernel)⟩
theorem lw_p53 : lw_okq (⟨"LinkDiagramModel", "isCrossing", "(I)Z"⟩, 19) := ⟨⟨by decide +kernel, by decide +kernel⟩, List.mem_of_getElem? (i := 496) (by decide +kernel), List.mem_of_getElem? (i := 714) (by decide +kernel), List.mem_of_getElem? (i := 715) (by decide +kernel)⟩
theorem lw_p54 : lw_okq (⟨"LinkDiagramModel", "takeOut", "(I)V"⟩, 19) := ⟨⟨by decide +kernel, by decide +kernel⟩, List.mem_of_getElem? (i := 496) (by decide +kernel), List.mem_of_getElem? (i := 718) (by decide +kernel), List.mem_of_getElem? (i := 719) (by decide +kernel)⟩
theorem lw_p55 : lw_okq (⟨"LinkDiagramModel", "join", "(II)V"⟩, 19) := ⟨⟨by decide +kernel, by decide +kernel⟩, List.mem_of_getElem? (i := 496) (by decide +kernel), List.mem_of_getElem? (i := 722) (by decide +kernel), List.mem_of_getElem? (i := 723) (by decide +kernel)⟩
theorem lw_p56 : lw_okq (⟨"LinkDiagramModel", "level", "(IZ)Z"⟩, 19) := ⟨⟨by decide +kernel, by decide +kernel⟩, List.mem_of_getElem? (i := 496) (by decide +kernel), List.mem_of_getElem? (i := 734) (by decide +kernel), List.mem_of_getElem? (i := 735) (by decide +kernel)⟩
theorem lw_p57 : lw_okq (⟨"LinkDiagramModel", "pull", "(IIII)V"⟩, 19) := ⟨⟨by decide +kernel, by decide +kernel⟩, List.mem_of_getElem? (i := 496) (by decide +kernel), List.mem_of_getElem? (i := 738) (by decide +kernel), List.mem_of_getElem? (i := 739) (by decide +kernel)⟩
theorem lw_p58 : lw_okq (⟨"LinkDiagramModel", "beyond", "(IZ)I"⟩, 19) := ⟨⟨by decide +kernel, by decide +kernel⟩, List.mem_of_getElem? (i := 496) (by decide +kernel), List.mem_of_getElem? (i := 742) (by decide +kernel), List.mem_of_getElem? (i := 743) (by decide +kernel)⟩
theorem lw_p59 : lw_okq (⟨"LinkDiagramModel", "slideEdge", "(I)V"⟩, 19) := ⟨⟨by decide +kernel, by decide +kernel⟩, List.mem_of_getElem? (i := 496) (by decide +kernel), List.mem_of_getElem? (i := 753) (by decide +kernel), List.mem_of_getElem? (i := 754) (by decide +kernel)⟩
def lw_privs_4 : List (MethodName × Nat) := [(⟨"LinkDiagramModel", "expand", "(III)V"⟩, 19), (⟨"LinkDiagramModel", "free", "(I)I"⟩, 19), (⟨"LinkDiagramModel", "kink", "(IIII)V"⟩, 19), (⟨"LinkDiagramModel", "instead", "(II)V"⟩, 19), (⟨"LinkDiagramModel", "endOf", "(IZ)I"⟩, 19), (⟨"LinkDiagramModel", "isCrossing", "(I)Z"⟩, 19), (⟨"LinkDiagramModel", "takeOut", "(I)V"⟩, 19), (⟨"LinkDiagramModel", "join", "(II)V"⟩, 19), (⟨"LinkDiagramModel", "level", "(IZ)Z"⟩, 19), (⟨"LinkDiagramModel", "pull", "(IIII)V"⟩, 19), (⟨"LinkDiagramModel", "beyond", "(IZ)I"⟩, 19), (⟨"LinkDiagramModel", "slideEdge", "(I)V"⟩, 19)]
theorem lw_r4 : ∀ q ∈ lw_privs_4, lw_okq q := List.forall_mem_cons.mpr ⟨lw_p48, List.forall_mem_cons.mpr ⟨lw_p49, List.forall_mem_cons.mpr ⟨lw_p50, List.forall_mem_cons.mpr ⟨lw_p51, List.forall_mem_cons.mpr ⟨lw_p52, List.forall_mem_cons.mpr ⟨lw_p53, List.forall_mem_cons.mpr ⟨lw_p54, List.forall_mem_cons.mpr ⟨lw_p55, List.forall_mem_cons.mpr ⟨lw_p56, List.forall_mem_cons.mpr ⟨lw_p57, List.forall_mem_cons.mpr ⟨lw_p58, List.forall_mem_cons.mpr ⟨lw_p59, fun _ h => absurd h List.not_mem_nil⟩⟩⟩⟩⟩⟩⟩⟩⟩⟩⟩⟩
def lw_privs : List (MethodName × Nat) := lw_privs_1 ++ (lw_privs_2 ++ (lw_privs_3 ++ (lw_privs_4)))
def lw_tbl : List Cond := k2_sels lw_privs ++ tables_1
theorem lw_privs_ok : ∀ q ∈ lw_privs, lw_okq q := by
  show ∀ q ∈ lw_privs_1 ++ (lw_privs_2 ++ (lw_privs_3 ++ (lw_privs_4))), lw_okq q
  exact List.forall_mem_append.mpr ⟨lw_r1, List.forall_mem_append.mpr ⟨lw_r2, List.forall_mem_append.mpr ⟨lw_r3, lw_r4⟩⟩⟩
end
section
abbrev zM : Type := MethodName × ByteArray × Nat × Option FieldType × Room
def T_R : u_T := fun k => match k with
  | 0 => ("LinkDiagram$ArcMatrix", "leastEdge", "[I", true)
  | 1 => ("LinkDiagram$ArcMatrix", "numberOf", "[I", true)
  | 2 => ("LinkDiagram$ArcMatrix", "constants", "[I", true)
  | 3 => ("LinkDiagram$ArcMatrix", "linears", "[I", true)
  | _ => ("LinkDiagram$ArcMatrix", "minors", "[J", true)
def t_R : Nat → FieldType := fun k => match k with
  | 0 => .array .int
  | 1 => .array .int
  | 2 => .array .int
  | 3 => .array .int
  | _ => .array .long
theorem nm_R : ∀ a, a < 5 → ∀ b, b < 5 → a ≠ b → (T_R a).2.1 ≠ (T_R b).2.1 := by decide +kernel
theorem ty_R : ∀ k, k < 5 → parseFieldDescriptor (T_R k).2.2.1 = some (t_R k) := by decide +kernel
def T_B : u_T := fun k => match k with
  | 0 => ("LinkDiagram$Bracket", "otherEnds", "[I", true)
  | 1 => ("LinkDiagram$Bracket", "states", "[I", true)
  | _ => ("LinkDiagram$Bracket", "sum", "[J", true)
def t_B : Nat → FieldType := fun k => match k with
  | 0 => .array .int
  | 1 => .array .int
  | _ => .array .long
theorem nm_B : ∀ a, a < 3 → ∀ b, b < 3 → a ≠ b → (T_B a).2.1 ≠ (T_B b).2.1 := by decide +kernel
theorem ty_B : ∀ k, k < 3 → parseFieldDescriptor (T_B k).2.2.1 = some (t_B k) := by decide +kernel
def T_C : u_T := fun k => match k with
  | 0 => ("LinkDiagram$Crossings", "edges", "[I", true)
  | 1 => ("LinkDiagram$Crossings", "signs", "[I", true)
  | _ => ("LinkDiagram$Crossings", "size", "I", false)
def t_C : Nat → FieldType := fun k => match k with
  | 0 => .array .int
  | 1 => .array .int
  | _ => .int
theorem nm_C : ∀ a, a < 3 → ∀ b, b < 3 → a ≠ b → (T_C a).2.1 ≠ (T_C b).2.1 := by decide +kernel
theorem ty_C : ∀ k, k < 3 → parseFieldDescriptor (T_C k).2.2.1 = some (t_C k) := by decide +kernel
def T_S : u_T := fun k => match k with
  | 0 => ("LinkDiagram$Shape", "seen", "[I", true)
  | _ => ("LinkDiagram$Shape", "pieceOf", "[I", true)
def t_S : Nat → FieldType := fun k => match k with
  | 0 => .array .int
  | _ => .array .int
theorem nm_S : ∀ a, a < 2 → ∀ b, b < 2 → a ≠ b → (T_S a).2.1 ≠ (T_S b).2.1 := by decide +kernel
theorem ty_S : ∀ k, k < 2 → parseFieldDescriptor (T_S k).2.2.1 = some (t_S k) := by decide +kernel
def T_A : u_T := fun k => match k with
  | 0 => ("LinkDiagram", "draft", "LLinkDiagram$Crossings;", true)
  | 1 => ("LinkDiagram", "diagram", "LLinkDiagram$Crossings;", true)
  | 2 => ("LinkDiagram", "former", "LLinkDiagram$Crossings;", true)
  | 3 => ("LinkDiagram", "shape", "LLinkDiagram$Shape;", true)
  | 4 => ("LinkDiagram", "bracket", "LLinkDiagram$Bracket;", true)
  | 5 => ("LinkDiagram", "arcMatrix", "LLinkDiagram$ArcMatrix;", true)
  | 6 => ("LinkDiagram", "word", "[I", true)
  | 7 => ("LinkDiagram", "places", "[I", true)
  | 8 => ("LinkDiagram", "letters", "I", false)
  | _ => ("LinkDiagram", "circles", "I", false)
def t_A : Nat → FieldType := fun k => match k with
  | 0 => .object "LinkDiagram$Crossings"
  | 1 => .object "LinkDiagram$Crossings"
  | 2 => .object "LinkDiagram$Crossings"
  | 3 => .object "LinkDiagram$Shape"
  | 4 => .object "LinkDiagram$Bracket"
  | 5 => .object "LinkDiagram$ArcMatrix"
  | 6 => .array .int
  | 7 => .array .int
  | 8 => .int
  | _ => .int
theorem nm_A : ∀ a, a < 10 → ∀ b, b < 10 → a ≠ b → (T_A a).2.1 ≠ (T_A b).2.1 := by decide +kernel
theorem ty_A : ∀ k, k < 10 → parseFieldDescriptor (T_A k).2.2.1 = some (t_A k) := by decide +kernel
def T_M : u_T := fun k => match k with
  | 0 => ("LinkDiagramModel", "edge", "[I", true)
  | 1 => ("LinkDiagramModel", "plus", "[Z", true)
  | 2 => ("LinkDiagramModel", "crossings", "I", false)
  | 3 => ("LinkDiagramModel", "drafted", "I", false)
  | 4 => ("LinkDiagramModel", "circles", "I", false)
  | 5 => ("LinkDiagramModel", "word", "[I", true)
  | 6 => ("LinkDiagramModel", "letters", "I", false)
  | 7 => ("LinkDiagramModel", "view", "I", false)
  | 8 => ("LinkDiagramModel", "many", "I", false)
  | 9 => ("LinkDiagramModel", "met", "[Z", true)
  | 10 => ("LinkDiagramModel", "sum", "[J", true)
  | 11 => ("LinkDiagramModel", "power", "[J", true)
  | 12 => ("LinkDiagramModel", "shifted", "[J", true)
  | 13 => ("LinkDiagramModel", "arc", "[I", true)
  | 14 => ("LinkDiagramModel", "arcs", "I", false)
  | 15 => ("LinkDiagramModel", "constant", "[I", true)
  | 16 => ("LinkDiagramModel", "linear", "[I", true)
  | 17 => ("LinkDiagramModel", "minor", "[J", true)
  | _ => ("LinkDiagramModel", "next", "[I", true)
def t_M : Nat → FieldType := fun k => match k with
  | 0 => .array .int
  | 1 => .array .boolean
  | 2 => .int
  | 3 => .int
  | 4 => .int
  | 5 => .array .int
  | 6 => .int
  | 7 => .int
  | 8 => .int
  | 9 => .array .boolean
  | 10 => .array .long
  | 11 => .array .long
  | 12 => .array .long
  | 13 => .array .int
  | 14 => .int
  | 15 => .array .int
  | 16 => .array .int
  | 17 => .array .long
  | _ => .array .int
theorem nm_M : ∀ a, a < 19 → ∀ b, b < 19 → a ≠ b → (T_M a).2.1 ≠ (T_M b).2.1 := by decide +kernel
theorem ty_M : ∀ k, k < 19 → parseFieldDescriptor (T_M k).2.2.1 = some (t_M k) := by decide +kernel
abbrev vwCl : List vw_C := [("LinkDiagram$ArcMatrix", T_R, 5), ("LinkDiagram$Bracket", T_B, 3), ("LinkDiagram$Crossings", T_C, 3), ("LinkDiagram$Shape", T_S, 2), ("LinkDiagram", T_A, 10), ("LinkDiagramModel", T_M, 19)]
def zNl : List (String × Nat × MethodName × String) := [("LinkDiagram", 9, ⟨"LinkDiagram$Crossings", "<init>", "()V"⟩, "LinkDiagram"), ("LinkDiagram", 24, ⟨"LinkDiagram$Shape", "<init>", "()V"⟩, "LinkDiagram"), ("LinkDiagram", 31, ⟨"LinkDiagram$Bracket", "<init>", "()V"⟩, "LinkDiagram"), ("LinkDiagram", 38, ⟨"LinkDiagram$ArcMatrix", "<init>", "()V"⟩, "LinkDiagram"), ("LinkDiagram$Crossings", 36, ⟨"LinkDiagram", "isUpper", "(I)Z"⟩, "LinkDiagram"), ("LinkDiagram$Crossings", 39, ⟨"LinkDiagram", "crossingOf", "(I)I"⟩, "LinkDiagram"), ("LinkDiagram$Crossings", 53, ⟨"LinkDiagram", "turned", "(II)I"⟩, "LinkDiagram"), ("LinkDiagram$Shape", 59, ⟨"LinkDiagram", "crossingOf", "(I)I"⟩, "LinkDiagram"), ("LinkDiagram$Shape", 72, ⟨"LinkDiagram", "opposite", "(I)I"⟩, "LinkDiagram"), ("LinkDiagram$Bracket", 72, ⟨"LinkDiagram", "crossingOf", "(I)I"⟩, "LinkDiagram"), ("LinkDiagram$ArcMatrix", 84, ⟨"LinkDiagram", "crossingOf", "(I)I"⟩, "LinkDiagram"), ("LinkDiagram$ArcMatrix", 81, ⟨"LinkDiagram", "opposite", "(I)I"⟩, "LinkDiagram"), ("LinkDiagram$Crossings", 63, ⟨"LinkDiagram", "opposite", "(I)I"⟩, "LinkDiagram")]
def zN : List Cond := zNl.map (fun q => Cond.methodLinkNest q.1 q.2.1 q.2.2.1 q.2.2.2)
theorem zN_on : ∀ u ∈ zN, u.onTables = true := by
  intro u hu
  obtain ⟨q, -, rfl⟩ := List.mem_map.mp hu
  rfl
theorem zN_warm {s U : State} (hW : s.WarmedH U.vm) : ∀ u ∈ zN, va_Nw u s → va_Nw u U := by
  intro u hu h
  obtain ⟨q, -, rfl⟩ := List.mem_map.mp hu
  exact va_Nw.warmM hW h

theorem zN_tbl0 : ∀ q ∈ zNl, Cond.methodLinkNest q.1 q.2.1 q.2.2.1 q.2.2.2 ∈ lw_tbl := List.forall_mem_cons.mpr ⟨(List.mem_append_right _ (List.mem_of_getElem? (i := 21) (by decide +kernel))), List.forall_mem_cons.mpr ⟨(List.mem_append_right _ (List.mem_of_getElem? (i := 38) (by decide +kernel))), List.forall_mem_cons.mpr ⟨(List.mem_append_right _ (List.mem_of_getElem? (i := 51) (by decide +kernel))), List.forall_mem_cons.mpr ⟨(List.mem_append_right _ (List.mem_of_getElem? (i := 68) (by decide +kernel))), List.forall_mem_cons.mpr ⟨(List.mem_append_right _ (List.mem_of_getElem? (i := 178) (by decide +kernel))), List.forall_mem_cons.mpr ⟨(List.mem_append_right _ (List.mem_of_getElem? (i := 181) (by decide +kernel))), List.forall_mem_cons.mpr ⟨(List.mem_append_right _ (List.mem_of_getElem? (i := 212) (by decide +kernel))), List.forall_mem_cons.mpr ⟨(List.mem_append_right _ (List.mem_of_getElem? (i := 220) (by decide +kernel))), List.forall_mem_cons.mpr ⟨(List.mem_append_right _ (List.mem_of_getElem? (i := 273) (by decide +kernel))), List.forall_mem_cons.mpr ⟨(List.mem_append_right _ (List.mem_of_getElem? (i := 316) (by decide +kernel))), List.forall_mem_cons.mpr ⟨(List.mem_append_right _ (List.mem_of_getElem? (i := 370) (by decide +kernel))), List.forall_mem_cons.mpr ⟨(List.mem_append_right _ (List.mem_of_getElem? (i := 371) (by decide +kernel))), List.forall_mem_cons.mpr ⟨(List.mem_append_right _ (List.mem_of_getElem? (i := 455) (by decide +kernel))), fun _ h => absurd h List.not_mem_nil⟩⟩⟩⟩⟩⟩⟩⟩⟩⟩⟩⟩⟩
theorem zN_tbl : ∀ u ∈ zN, u ∈ lw_tbl := by
  intro u hu
  obtain ⟨q, hq, rfl⟩ := List.mem_map.mp hu
  exact zN_tbl0 q hq
abbrev M_A_appendTwist : zM := (⟨"LinkDiagram", "appendTwist", "(IIII)V"⟩, prog_1_method_16_code, 5, none, { frames := 2, cells := 0, slots := 0, locals := 46 })
abbrev M_A_braid : zM := (⟨"LinkDiagram", "braid", "(I)Z"⟩, prog_1_method_7_code, 3, some .boolean, { frames := 3, cells := 0, slots := 0, locals := 72 })
abbrev M_A_closePlace : zM := (⟨"LinkDiagram", "closePlace", "(I)V"⟩, prog_1_method_10_code, 2, none, { frames := 2, cells := 0, slots := 0, locals := 43 })
abbrev M_A_count : zM := (⟨"LinkDiagram", "count", "(I)I"⟩, prog_1_method_11_code, 2, some .int, { frames := 5, cells := 0, slots := 0, locals := 110 })
abbrev M_A_cross : zM := (⟨"LinkDiagram", "cross", "(IIIIZ)Z"⟩, prog_1_method_2_code, 6, some .boolean, { frames := 2, cells := 0, slots := 0, locals := 46 })
abbrev M_A_crossingOf : zM := (⟨"LinkDiagram", "crossingOf", "(I)I"⟩, prog_1_method_30_code, 1, some .int, { frames := 0, cells := 0, slots := 0, locals := 0 })
abbrev M_A_drop : zM := (⟨"LinkDiagram", "drop", "()I"⟩, prog_1_method_3_code, 1, some .int, { frames := 2, cells := 0, slots := 0, locals := 52 })
abbrev M_A_end : zM := (⟨"LinkDiagram", "end", "(II)I"⟩, prog_1_method_12_code, 3, some .int, { frames := 1, cells := 0, slots := 0, locals := 21 })
abbrev M_A_first : zM := (⟨"LinkDiagram", "first", "(I)J"⟩, prog_1_method_13_code, 6, some .long, { frames := 5, cells := 0, slots := 0, locals := 122 })
abbrev M_A_freeEdge : zM := (⟨"LinkDiagram", "freeEdge", "(I)I"⟩, prog_1_method_29_code, 4, some .int, { frames := 2, cells := 0, slots := 0, locals := 42 })
abbrev M_A_init : zM := (⟨"LinkDiagram", "<init>", "()V"⟩, prog_1_method_1_code, 1, none, { frames := 2, cells := 24, slots := 3108, locals := 40 })
abbrev M_A_isEdge : zM := (⟨"LinkDiagram", "isEdge", "(I)Z"⟩, prog_1_method_5_code, 1, some .boolean, { frames := 0, cells := 0, slots := 0, locals := 0 })
abbrev M_A_isPokedFace : zM := (⟨"LinkDiagram", "isPokedFace", "(II)Z"⟩, prog_1_method_21_code, 4, some .boolean, { frames := 3, cells := 0, slots := 0, locals := 63 })
abbrev M_A_isSlidingFace : zM := (⟨"LinkDiagram", "isSlidingFace", "(III)Z"⟩, prog_1_method_24_code, 8, some .boolean, { frames := 3, cells := 0, slots := 0, locals := 63 })
abbrev M_A_isUpper : zM := (⟨"LinkDiagram", "isUpper", "(I)Z"⟩, prog_1_method_31_code, 1, some .boolean, { frames := 0, cells := 0, slots := 0, locals := 0 })
abbrev M_A_isUpperEdge : zM := (⟨"LinkDiagram", "isUpperEdge", "(I)Z"⟩, prog_1_method_25_code, 2, some .boolean, { frames := 2, cells := 0, slots := 0, locals := 42 })
abbrev M_A_join : zM := (⟨"LinkDiagram", "join", "(II)V"⟩, prog_1_method_28_code, 3, none, { frames := 4, cells := 0, slots := 0, locals := 89 })
abbrev M_A_letter : zM := (⟨"LinkDiagram", "letter", "(I)Z"⟩, prog_1_method_6_code, 3, some .boolean, { frames := 0, cells := 0, slots := 0, locals := 0 })
abbrev M_A_loopEnd : zM := (⟨"LinkDiagram", "loopEnd", "(I)I"⟩, prog_1_method_18_code, 3, some .int, { frames := 1, cells := 0, slots := 0, locals := 21 })
abbrev M_A_opposite : zM := (⟨"LinkDiagram", "opposite", "(I)I"⟩, prog_1_method_32_code, 1, some .int, { frames := 0, cells := 0, slots := 0, locals := 0 })
abbrev M_A_poke : zM := (⟨"LinkDiagram", "poke", "(IZIZ)Z"⟩, prog_1_method_19_code, 9, some .boolean, { frames := 5, cells := 0, slots := 0, locals := 110 })
abbrev M_A_pullApart : zM := (⟨"LinkDiagram", "pullApart", "(II)V"⟩, prog_1_method_22_code, 9, none, { frames := 5, cells := 0, slots := 0, locals := 111 })
abbrev M_A_second : zM := (⟨"LinkDiagram", "second", "(I)J"⟩, prog_1_method_14_code, 2, some .long, { frames := 4, cells := 0, slots := 0, locals := 99 })
abbrev M_A_slide : zM := (⟨"LinkDiagram", "slide", "(III)Z"⟩, prog_1_method_23_code, 5, some .boolean, { frames := 6, cells := 0, slots := 0, locals := 133 })
abbrev M_A_slideEdge : zM := (⟨"LinkDiagram", "slideEdge", "(I)V"⟩, prog_1_method_27_code, 7, none, { frames := 4, cells := 0, slots := 0, locals := 85 })
abbrev M_A_slideFace : zM := (⟨"LinkDiagram", "slideFace", "(I)V"⟩, prog_1_method_26_code, 3, none, { frames := 5, cells := 0, slots := 0, locals := 111 })
abbrev M_A_take : zM := (⟨"LinkDiagram", "take", "(I)I"⟩, prog_1_method_4_code, 2, some .int, { frames := 6, cells := 0, slots := 0, locals := 131 })
abbrev M_A_turned : zM := (⟨"LinkDiagram", "turned", "(II)I"⟩, prog_1_method_33_code, 2, some .int, { frames := 0, cells := 0, slots := 0, locals := 0 })
abbrev M_A_twist : zM := (⟨"LinkDiagram", "twist", "(II)Z"⟩, prog_1_method_15_code, 5, some .boolean, { frames := 4, cells := 0, slots := 0, locals := 89 })
abbrev M_A_unpoke : zM := (⟨"LinkDiagram", "unpoke", "(II)Z"⟩, prog_1_method_20_code, 4, some .boolean, { frames := 6, cells := 0, slots := 0, locals := 139 })
abbrev M_A_untwist : zM := (⟨"LinkDiagram", "untwist", "(I)Z"⟩, prog_1_method_17_code, 8, some .boolean, { frames := 5, cells := 0, slots := 0, locals := 111 })
abbrev M_A_weave : zM := (⟨"LinkDiagram", "weave", "(II)V"⟩, prog_1_method_9_code, 7, none, { frames := 2, cells := 0, slots := 0, locals := 46 })
abbrev M_A_wordIsBelow : zM := (⟨"LinkDiagram", "wordIsBelow", "(I)Z"⟩, prog_1_method_8_code, 3, some .boolean, { frames := 1, cells := 0, slots := 0, locals := 21 })
abbrev M_B_addStates : zM := (⟨"LinkDiagram$Bracket", "addStates", "(II)V"⟩, prog_3_method_7_code, 4, none, { frames := 0, cells := 0, slots := 0, locals := 0 })
abbrev M_B_coefficient : zM := (⟨"LinkDiagram$Bracket", "coefficient", "(LLinkDiagram$Crossings;IJ)J"⟩, prog_3_method_2_code, 6, some .long, { frames := 4, cells := 0, slots := 0, locals := 97 })
abbrev M_B_curvesOf : zM := (⟨"LinkDiagram$Bracket", "curvesOf", "(II)I"⟩, prog_3_method_4_code, 6, some .int, { frames := 2, cells := 0, slots := 0, locals := 48 })
abbrev M_B_init : zM := (⟨"LinkDiagram$Bracket", "<init>", "()V"⟩, prog_3_method_1_code, 1, none, { frames := 1, cells := 3, slots := 418, locals := 20 })
abbrev M_B_multiplyByCurve : zM := (⟨"LinkDiagram$Bracket", "multiplyByCurve", "()V"⟩, prog_3_method_6_code, 10, none, { frames := 0, cells := 0, slots := 0, locals := 0 })
abbrev M_B_seenWithCurve : zM := (⟨"LinkDiagram$Bracket", "seenWithCurve", "(III)I"⟩, prog_3_method_5_code, 9, some .int, { frames := 1, cells := 0, slots := 0, locals := 20 })
abbrev M_B_tallyStates : zM := (⟨"LinkDiagram$Bracket", "tallyStates", "(LLinkDiagram$Crossings;I)V"⟩, prog_3_method_3_code, 5, none, { frames := 3, cells := 0, slots := 0, locals := 73 })
abbrev M_C_append : zM := (⟨"LinkDiagram$Crossings", "append", "(IIIIZ)V"⟩, prog_4_method_9_code, 7, none, { frames := 1, cells := 0, slots := 0, locals := 20 })
abbrev M_C_bringIn : zM := (⟨"LinkDiagram$Crossings", "bringIn", "(II)V"⟩, prog_4_method_23_code, 4, none, { frames := 3, cells := 0, slots := 0, locals := 66 })
abbrev M_C_clear : zM := (⟨"LinkDiagram$Crossings", "clear", "()V"⟩, prog_4_method_11_code, 1, none, { frames := 0, cells := 0, slots := 0, locals := 0 })
abbrev M_C_comesIn : zM := (⟨"LinkDiagram$Crossings", "comesIn", "(I)Z"⟩, prog_4_method_14_code, 3, some .boolean, { frames := 1, cells := 0, slots := 0, locals := 21 })
abbrev M_C_copyFrom : zM := (⟨"LinkDiagram$Crossings", "copyFrom", "(LLinkDiagram$Crossings;)V"⟩, prog_4_method_12_code, 2, none, { frames := 1, cells := 0, slots := 0, locals := 30 })
abbrev M_C_edgeAt : zM := (⟨"LinkDiagram$Crossings", "edgeAt", "(I)I"⟩, prog_4_method_6_code, 2, some .int, { frames := 0, cells := 0, slots := 0, locals := 0 })
abbrev M_C_edgeBefore : zM := (⟨"LinkDiagram$Crossings", "edgeBefore", "(I)I"⟩, prog_4_method_20_code, 2, some .int, { frames := 3, cells := 0, slots := 0, locals := 64 })
abbrev M_C_edgeBehind : zM := (⟨"LinkDiagram$Crossings", "edgeBehind", "(I)I"⟩, prog_4_method_21_code, 2, some .int, { frames := 3, cells := 0, slots := 0, locals := 64 })
abbrev M_C_endOn : zM := (⟨"LinkDiagram$Crossings", "endOn", "(IZ)I"⟩, prog_4_method_22_code, 4, some .int, { frames := 2, cells := 0, slots := 0, locals := 43 })
abbrev M_C_ends : zM := (⟨"LinkDiagram$Crossings", "ends", "()I"⟩, prog_4_method_3_code, 1, some .int, { frames := 0, cells := 0, slots := 0, locals := 0 })
abbrev M_C_follow : zM := (⟨"LinkDiagram$Crossings", "follow", "(I)I"⟩, prog_4_method_17_code, 2, some .int, { frames := 2, cells := 0, slots := 0, locals := 42 })
abbrev M_C_has : zM := (⟨"LinkDiagram$Crossings", "has", "(I)Z"⟩, prog_4_method_5_code, 2, some .boolean, { frames := 0, cells := 0, slots := 0, locals := 0 })
abbrev M_C_incoming : zM := (⟨"LinkDiagram$Crossings", "incoming", "(I)I"⟩, prog_4_method_18_code, 2, some .int, { frames := 2, cells := 0, slots := 0, locals := 43 })
abbrev M_C_init : zM := (⟨"LinkDiagram$Crossings", "<init>", "()V"⟩, prog_4_method_1_code, 1, none, { frames := 1, cells := 2, slots := 40, locals := 20 })
abbrev M_C_isFull : zM := (⟨"LinkDiagram$Crossings", "isFull", "()Z"⟩, prog_4_method_4_code, 1, some .boolean, { frames := 0, cells := 0, slots := 0, locals := 0 })
abbrev M_C_isPositive : zM := (⟨"LinkDiagram$Crossings", "isPositive", "(I)Z"⟩, prog_4_method_8_code, 2, some .boolean, { frames := 0, cells := 0, slots := 0, locals := 0 })
abbrev M_C_occurs : zM := (⟨"LinkDiagram$Crossings", "occurs", "(I)Z"⟩, prog_4_method_15_code, 3, some .boolean, { frames := 1, cells := 0, slots := 0, locals := 20 })
abbrev M_C_otherEnd : zM := (⟨"LinkDiagram$Crossings", "otherEnd", "(I)I"⟩, prog_4_method_16_code, 3, some .int, { frames := 1, cells := 0, slots := 0, locals := 20 })
abbrev M_C_outgoing : zM := (⟨"LinkDiagram$Crossings", "outgoing", "(I)I"⟩, prog_4_method_19_code, 2, some .int, { frames := 2, cells := 0, slots := 0, locals := 43 })
abbrev M_C_remove : zM := (⟨"LinkDiagram$Crossings", "remove", "(I)V"⟩, prog_4_method_10_code, 3, none, { frames := 1, cells := 0, slots := 0, locals := 30 })
abbrev M_C_rename : zM := (⟨"LinkDiagram$Crossings", "rename", "(II)V"⟩, prog_4_method_24_code, 4, none, { frames := 1, cells := 0, slots := 0, locals := 20 })
abbrev M_C_setEdge : zM := (⟨"LinkDiagram$Crossings", "setEdge", "(II)V"⟩, prog_4_method_7_code, 3, none, { frames := 0, cells := 0, slots := 0, locals := 0 })
abbrev M_C_size : zM := (⟨"LinkDiagram$Crossings", "size", "()I"⟩, prog_4_method_2_code, 1, some .int, { frames := 0, cells := 0, slots := 0, locals := 0 })
abbrev M_C_writhe : zM := (⟨"LinkDiagram$Crossings", "writhe", "()I"⟩, prog_4_method_13_code, 3, some .int, { frames := 0, cells := 0, slots := 0, locals := 0 })
abbrev M_F_fillI : zM := (⟨"java/util/Arrays", "fill", "([II)V"⟩, prog_11_method_103_code, 4, none, { frames := 0, cells := 0, slots := 0, locals := 0 })
abbrev M_F_fillL : zM := (⟨"java/util/Arrays", "fill", "([JJ)V"⟩, prog_11_method_101_code, 5, none, { frames := 0, cells := 0, slots := 0, locals := 0 })
abbrev M_I_bitCount : zM := (⟨"java/lang/Integer", "bitCount", "(I)I"⟩, prog_8_method_49_code, 1, some .int, { frames := 0, cells := 0, slots := 0, locals := 0 })
abbrev M_L_law : zM := (⟨"LinkDiagramLaw", "law", "([I)Z"⟩, code, 4, some .boolean, room_1)
abbrev M_M_addState : zM := (⟨"LinkDiagramModel", "addState", "(I)V"⟩, prog_7_method_27_code, 5, none, { frames := 2, cells := 0, slots := 0, locals := 49 })
abbrev M_M_beyond : zM := (⟨"LinkDiagramModel", "beyond", "(IZ)I"⟩, prog_7_method_48_code, 5, some .int, { frames := 1, cells := 0, slots := 0, locals := 24 })
abbrev M_M_braid : zM := (⟨"LinkDiagramModel", "braid", "(I)Z"⟩, prog_7_method_20_code, 8, some .boolean, { frames := 1, cells := 0, slots := 0, locals := 26 })
abbrev M_M_clear : zM := (⟨"LinkDiagramModel", "clear", "()V"⟩, prog_7_method_15_code, 2, none, { frames := 0, cells := 0, slots := 0, locals := 0 })
abbrev M_M_count : zM := (⟨"LinkDiagramModel", "count", "(I)I"⟩, prog_7_method_24_code, 2, some .int, { frames := 4, cells := 0, slots := 0, locals := 91 })
abbrev M_M_cross : zM := (⟨"LinkDiagramModel", "cross", "(IIIIZ)Z"⟩, prog_7_method_3_code, 6, some .boolean, { frames := 1, cells := 0, slots := 0, locals := 26 })
abbrev M_M_doubleLoop : zM := (⟨"LinkDiagramModel", "doubleLoop", "()V"⟩, prog_7_method_26_code, 6, none, { frames := 0, cells := 0, slots := 0, locals := 0 })
abbrev M_M_drop : zM := (⟨"LinkDiagramModel", "drop", "()I"⟩, prog_7_method_5_code, 1, some .int, { frames := 0, cells := 0, slots := 0, locals := 0 })
abbrev M_M_end : zM := (⟨"LinkDiagramModel", "end", "(II)I"⟩, prog_7_method_25_code, 3, some .int, { frames := 0, cells := 0, slots := 0, locals := 0 })
abbrev M_M_endOf : zM := (⟨"LinkDiagramModel", "endOf", "(IZ)I"⟩, prog_7_method_37_code, 4, some .int, { frames := 1, cells := 0, slots := 0, locals := 22 })
abbrev M_M_entries : zM := (⟨"LinkDiagramModel", "entries", "(I)V"⟩, prog_7_method_32_code, 6, none, { frames := 0, cells := 0, slots := 0, locals := 0 })
abbrev M_M_expand : zM := (⟨"LinkDiagramModel", "expand", "(III)V"⟩, prog_7_method_33_code, 11, none, { frames := 0, cells := 0, slots := 0, locals := 0 })
abbrev M_M_face : zM := (⟨"LinkDiagramModel", "face", "(I)I"⟩, prog_7_method_11_code, 4, some .int, { frames := 2, cells := 0, slots := 0, locals := 46 })
abbrev M_M_faces : zM := (⟨"LinkDiagramModel", "faces", "()I"⟩, prog_7_method_13_code, 3, some .int, { frames := 3, cells := 0, slots := 0, locals := 69 })
abbrev M_M_first : zM := (⟨"LinkDiagramModel", "first", "(I)J"⟩, prog_7_method_28_code, 6, some .long, { frames := 3, cells := 0, slots := 0, locals := 73 })
abbrev M_M_fit : zM := (⟨"LinkDiagramModel", "fit", "()Z"⟩, prog_7_method_9_code, 3, some .boolean, { frames := 1, cells := 0, slots := 0, locals := 24 })
abbrev M_M_follow : zM := (⟨"LinkDiagramModel", "follow", "(I)I"⟩, prog_7_method_10_code, 3, some .int, { frames := 1, cells := 0, slots := 0, locals := 24 })
abbrev M_M_free : zM := (⟨"LinkDiagramModel", "free", "(I)I"⟩, prog_7_method_36_code, 5, some .int, { frames := 1, cells := 0, slots := 0, locals := 22 })
abbrev M_M_in : zM := (⟨"LinkDiagramModel", "in", "(I)Z"⟩, prog_7_method_7_code, 3, some .boolean, { frames := 0, cells := 0, slots := 0, locals := 0 })
abbrev M_M_init : zM := (⟨"LinkDiagramModel", "<init>", "()V"⟩, prog_7_method_1_code, 1, none, { frames := 1, cells := 12, slots := 3676, locals := 20 })
abbrev M_M_instead : zM := (⟨"LinkDiagramModel", "instead", "(II)V"⟩, prog_7_method_38_code, 4, none, { frames := 2, cells := 0, slots := 0, locals := 45 })
abbrev M_M_isCrossing : zM := (⟨"LinkDiagramModel", "isCrossing", "(I)Z"⟩, prog_7_method_43_code, 2, some .boolean, { frames := 0, cells := 0, slots := 0, locals := 0 })
abbrev M_M_isEdge : zM := (⟨"LinkDiagramModel", "isEdge", "(I)Z"⟩, prog_7_method_2_code, 1, some .boolean, { frames := 0, cells := 0, slots := 0, locals := 0 })
abbrev M_M_join : zM := (⟨"LinkDiagramModel", "join", "(II)V"⟩, prog_7_method_39_code, 3, none, { frames := 3, cells := 0, slots := 0, locals := 68 })
abbrev M_M_kink : zM := (⟨"LinkDiagramModel", "kink", "(IIII)V"⟩, prog_7_method_41_code, 6, none, { frames := 1, cells := 0, slots := 0, locals := 26 })
abbrev M_M_letter : zM := (⟨"LinkDiagramModel", "letter", "(I)Z"⟩, prog_7_method_18_code, 2, some .boolean, { frames := 0, cells := 0, slots := 0, locals := 0 })
abbrev M_M_level : zM := (⟨"LinkDiagramModel", "level", "(IZ)Z"⟩, prog_7_method_47_code, 5, some .boolean, { frames := 1, cells := 0, slots := 0, locals := 24 })
abbrev M_M_look : zM := (⟨"LinkDiagramModel", "look", "(Z)V"⟩, prog_7_method_6_code, 2, none, { frames := 0, cells := 0, slots := 0, locals := 0 })
abbrev M_M_merge : zM := (⟨"LinkDiagramModel", "merge", "(II)V"⟩, prog_7_method_29_code, 6, none, { frames := 0, cells := 0, slots := 0, locals := 0 })
abbrev M_M_number : zM := (⟨"LinkDiagramModel", "number", "()V"⟩, prog_7_method_31_code, 3, none, { frames := 1, cells := 0, slots := 0, locals := 25 })
abbrev M_M_occurs : zM := (⟨"LinkDiagramModel", "occurs", "(I)Z"⟩, prog_7_method_30_code, 3, some .boolean, { frames := 0, cells := 0, slots := 0, locals := 0 })
abbrev M_M_ones : zM := (⟨"LinkDiagramModel", "ones", "(I)I"⟩, prog_7_method_34_code, 3, some .int, { frames := 0, cells := 0, slots := 0, locals := 0 })
abbrev M_M_opposite : zM := (⟨"LinkDiagramModel", "opposite", "(I)I"⟩, prog_7_method_46_code, 1, some .int, { frames := 0, cells := 0, slots := 0, locals := 0 })
abbrev M_M_other : zM := (⟨"LinkDiagramModel", "other", "(I)I"⟩, prog_7_method_8_code, 5, some .int, { frames := 0, cells := 0, slots := 0, locals := 0 })
abbrev M_M_pieces : zM := (⟨"LinkDiagramModel", "pieces", "()I"⟩, prog_7_method_16_code, 3, some .int, { frames := 2, cells := 0, slots := 0, locals := 49 })
abbrev M_M_poke : zM := (⟨"LinkDiagramModel", "poke", "(IZIZ)Z"⟩, prog_7_method_45_code, 10, some .boolean, { frames := 3, cells := 0, slots := 0, locals := 69 })
abbrev M_M_pull : zM := (⟨"LinkDiagramModel", "pull", "(IIII)V"⟩, prog_7_method_50_code, 9, none, { frames := 4, cells := 0, slots := 0, locals := 90 })
abbrev M_M_put : zM := (⟨"LinkDiagramModel", "put", "(IIIIIZ)V"⟩, prog_7_method_4_code, 7, none, { frames := 0, cells := 0, slots := 0, locals := 0 })
abbrev M_M_rounds : zM := (⟨"LinkDiagramModel", "rounds", "(I)I"⟩, prog_7_method_21_code, 6, some .int, { frames := 1, cells := 0, slots := 0, locals := 24 })
abbrev M_M_second : zM := (⟨"LinkDiagramModel", "second", "(I)J"⟩, prog_7_method_35_code, 7, some .long, { frames := 2, cells := 0, slots := 0, locals := 47 })
abbrev M_M_size : zM := (⟨"LinkDiagramModel", "size", "(I)I"⟩, prog_7_method_19_code, 1, some .int, { frames := 0, cells := 0, slots := 0, locals := 0 })
abbrev M_M_slide : zM := (⟨"LinkDiagramModel", "slide", "(III)Z"⟩, prog_7_method_52_code, 9, some .boolean, { frames := 2, cells := 0, slots := 0, locals := 48 })
abbrev M_M_slideEdge : zM := (⟨"LinkDiagramModel", "slideEdge", "(I)V"⟩, prog_7_method_51_code, 5, none, { frames := 1, cells := 0, slots := 0, locals := 24 })
abbrev M_M_spread : zM := (⟨"LinkDiagramModel", "spread", "(I)V"⟩, prog_7_method_14_code, 6, none, { frames := 1, cells := 0, slots := 0, locals := 24 })
abbrev M_M_take : zM := (⟨"LinkDiagramModel", "take", "(I)I"⟩, prog_7_method_17_code, 5, some .int, { frames := 4, cells := 0, slots := 0, locals := 91 })
abbrev M_M_takeOut : zM := (⟨"LinkDiagramModel", "takeOut", "(I)V"⟩, prog_7_method_40_code, 3, none, { frames := 0, cells := 0, slots := 0, locals := 0 })
abbrev M_M_through : zM := (⟨"LinkDiagramModel", "through", "(II)I"⟩, prog_7_method_22_code, 4, some .int, { frames := 0, cells := 0, slots := 0, locals := 0 })
abbrev M_M_twist : zM := (⟨"LinkDiagramModel", "twist", "(II)Z"⟩, prog_7_method_42_code, 5, some .boolean, { frames := 3, cells := 0, slots := 0, locals := 68 })
abbrev M_M_unpoke : zM := (⟨"LinkDiagramModel", "unpoke", "(II)Z"⟩, prog_7_method_49_code, 6, some .boolean, { frames := 5, cells := 0, slots := 0, locals := 118 })
abbrev M_M_untwist : zM := (⟨"LinkDiagramModel", "untwist", "(I)Z"⟩, prog_7_method_44_code, 7, some .boolean, { frames := 4, cells := 0, slots := 0, locals := 90 })
abbrev M_M_writhe : zM := (⟨"LinkDiagramModel", "writhe", "()I"⟩, prog_7_method_23_code, 3, some .int, { frames := 0, cells := 0, slots := 0, locals := 0 })
abbrev M_R_addEntry : zM := (⟨"LinkDiagram$ArcMatrix", "addEntry", "(LLinkDiagram$Crossings;IIII)V"⟩, prog_2_method_6_code, 8, none, { frames := 1, cells := 0, slots := 0, locals := 21 })
abbrev M_R_addProduct : zM := (⟨"LinkDiagram$ArcMatrix", "addProduct", "(III)V"⟩, prog_2_method_8_code, 12, none, { frames := 1, cells := 0, slots := 0, locals := 20 })
abbrev M_R_coefficient : zM := (⟨"LinkDiagram$ArcMatrix", "coefficient", "(LLinkDiagram$Crossings;II)J"⟩, prog_2_method_2_code, 5, some .long, { frames := 3, cells := 0, slots := 0, locals := 75 })
abbrev M_R_expandMinors : zM := (⟨"LinkDiagram$ArcMatrix", "expandMinors", "(I)V"⟩, prog_2_method_7_code, 5, none, { frames := 2, cells := 0, slots := 0, locals := 51 })
abbrev M_R_fillMatrix : zM := (⟨"LinkDiagram$ArcMatrix", "fillMatrix", "(LLinkDiagram$Crossings;I)V"⟩, prog_2_method_5_code, 5, none, { frames := 2, cells := 0, slots := 0, locals := 48 })
abbrev M_R_init : zM := (⟨"LinkDiagram$ArcMatrix", "<init>", "()V"⟩, prog_2_method_1_code, 1, none, { frames := 1, cells := 5, slots := 2498, locals := 20 })
abbrev M_R_mergeArcs : zM := (⟨"LinkDiagram$ArcMatrix", "mergeArcs", "(II)V"⟩, prog_2_method_4_code, 5, none, { frames := 1, cells := 0, slots := 0, locals := 21 })
abbrev M_R_normalCoefficient : zM := (⟨"LinkDiagram$ArcMatrix", "normalCoefficient", "(II)J"⟩, prog_2_method_9_code, 7, some .long, { frames := 0, cells := 0, slots := 0, locals := 0 })
abbrev M_R_numberArcs : zM := (⟨"LinkDiagram$ArcMatrix", "numberArcs", "(LLinkDiagram$Crossings;)I"⟩, prog_2_method_3_code, 4, some .int, { frames := 2, cells := 0, slots := 0, locals := 45 })
abbrev M_S_faces : zM := (⟨"LinkDiagram$Shape", "faces", "(LLinkDiagram$Crossings;)I"⟩, prog_5_method_5_code, 4, some .int, { frames := 4, cells := 0, slots := 0, locals := 87 })
abbrev M_S_fits : zM := (⟨"LinkDiagram$Shape", "fits", "(LLinkDiagram$Crossings;)Z"⟩, prog_5_method_2_code, 3, some .boolean, { frames := 3, cells := 0, slots := 0, locals := 68 })
abbrev M_S_fitsAt : zM := (⟨"LinkDiagram$Shape", "fitsAt", "(LLinkDiagram$Crossings;I)Z"⟩, prog_5_method_3_code, 6, some .boolean, { frames := 2, cells := 0, slots := 0, locals := 43 })
abbrev M_S_init : zM := (⟨"LinkDiagram$Shape", "<init>", "()V"⟩, prog_5_method_1_code, 1, none, { frames := 1, cells := 2, slots := 40, locals := 20 })
abbrev M_S_isFlat : zM := (⟨"LinkDiagram$Shape", "isFlat", "(LLinkDiagram$Crossings;)Z"⟩, prog_5_method_4_code, 2, some .boolean, { frames := 5, cells := 0, slots := 0, locals := 110 })
abbrev M_S_markFace : zM := (⟨"LinkDiagram$Shape", "markFace", "(LLinkDiagram$Crossings;I)V"⟩, prog_5_method_6_code, 5, none, { frames := 3, cells := 0, slots := 0, locals := 63 })
abbrev M_S_markStrand : zM := (⟨"LinkDiagram$Shape", "markStrand", "(LLinkDiagram$Crossings;I)V"⟩, prog_5_method_11_code, 5, none, { frames := 2, cells := 0, slots := 0, locals := 42 })
abbrev M_S_mergePieces : zM := (⟨"LinkDiagram$Shape", "mergePieces", "(II)V"⟩, prog_5_method_9_code, 4, none, { frames := 0, cells := 0, slots := 0, locals := 0 })
abbrev M_S_pieces : zM := (⟨"LinkDiagram$Shape", "pieces", "(LLinkDiagram$Crossings;)I"⟩, prog_5_method_8_code, 6, some .int, { frames := 2, cells := 0, slots := 0, locals := 42 })
abbrev M_S_sameFace : zM := (⟨"LinkDiagram$Shape", "sameFace", "(LLinkDiagram$Crossings;II)Z"⟩, prog_5_method_7_code, 4, some .boolean, { frames := 4, cells := 0, slots := 0, locals := 87 })
abbrev M_S_strands : zM := (⟨"LinkDiagram$Shape", "strands", "(LLinkDiagram$Crossings;)I"⟩, prog_5_method_10_code, 4, some .int, { frames := 3, cells := 0, slots := 0, locals := 66 })
end
section
abbrev zE : Type := (FieldType × vp_A) ⊕ (Nat × List Value)
abbrev zW : Type := List zE
def z_v (b : Nat) (ad : List Nat) (v : Value) : Value := match v with
  | .ref j => .ref (ad.getD j b)
  | v => v
def z_c (b : Nat) (ad : List Nat) (dA : FieldType → ClassId) (c : zE) : va_E := match c with
  | .inl a => .inl (dA a.1, a.2)
  | .inr o => .inr (o.1, o.2.map (z_v b ad))
def z_w (b : Nat) (ad : List Nat) (dA : FieldType → ClassId) (w : zW) : va_W := List.zipWith (fun a c => (a, z_c b ad dA c)) ad w
def zG : List Cond := lw_tbl.filter goodWord
def z_ws (M : zM) : List Cond := Cond.code M.1 M.2.1 M.2.2.1 M.2.2.2.1 :: zG
theorem zG_mem {w : Cond} (h : w ∈ lw_tbl) (hg : goodWord w = true) : w ∈ zG := List.mem_filter.mpr ⟨h, hg⟩
theorem zG_good {w : Cond} (h : w ∈ zG) : (w.onTables && w.keeps) = true ∨ ∃ ty, w = .arrayClass ty := good_of_word (List.mem_filter.mp h).2
theorem z_goodIn {M : zM} (h : Cond.code M.1 M.2.1 M.2.2.1 M.2.2.2.1 ∈ zG) : GoodIn zG (z_ws M) := by
  intro w hw
  rcases List.mem_cons.mp hw with rfl | h1
  · exact ⟨h, zG_good h⟩
  · exact ⟨h1, zG_good h1⟩
theorem z_v_cat (b : Nat) (ad : List Nat) (v : Value) : (z_v b ad v).category = v.category := by cases v <;> rfl
theorem z_w_at {b : Nat} {ad : List Nat} {dA : FieldType → ClassId} {w : zW} {j : Nat} {c : zE} (hl : ad.length = w.length) (h : w[j]? = some c) : ad[j]? = some (ad.getD j b) ∧ (z_w b ad dA w)[j]? = some (ad.getD j b, z_c b ad dA c) := by
  have hj : j < w.length := (List.getElem?_eq_some_iff.mp h).1
  have h1 : ad[j]? = some (ad.getD j b) := by
    rw [List.getD_eq_getElem?_getD, List.getElem?_eq_getElem (show j < ad.length by omega)]; rfl
  refine ⟨h1, ?_⟩
  unfold z_w
  rw [List.getElem?_zipWith, h1, h]
theorem z_w_set {b : Nat} {ad : List Nat} {dA : FieldType → ClassId} {w : zW} {j : Nat} {c0 c : zE} (hl : ad.length = w.length) (h : w[j]? = some c0) : (z_w b ad dA w).set j (ad.getD j b, z_c b ad dA c) = z_w b ad dA (w.set j c) := by
  have hj : j < w.length := (List.getElem?_eq_some_iff.mp h).1
  have ha := (z_w_at (b := b) (dA := dA) hl h).1
  apply List.ext_getElem?
  intro k
  unfold z_w
  rw [List.getElem?_set, List.getElem?_zipWith, List.getElem?_zipWith, List.getElem?_set]
  by_cases hk : j = k
  · subst hk
    have h2 : j < (List.zipWith (fun a c => (a, z_c b ad dA c)) ad w).length := by rw [List.length_zipWith]; omega
    rw [if_pos rfl, if_pos h2, if_pos rfl, if_pos hj, ha]
  · rw [if_neg hk, if_neg hk]
/-- a value that keeps its meaning when the n-th place comes -/
def z_ok (n : Nat) (v : Value) : Bool := match v with
  | .ref j => Nat.blt j n || Nat.ble 1000000 j
  | _ => true
def z_nr (v : Value) : Bool := match v with
  | .ref _ => false
  | _ => true
def z_okc (n : Nat) (c : zE) : Bool := match c with
  | .inl _ => true
  | .inr o => o.2.all (z_ok n)
theorem z_far0 {b : Nat} {ad ad2 : List Nat} (hb : (ad ++ ad2).length < 1000000) (k : Nat) (h : k < ad.length ∨ 1000000 ≤ k) : (ad ++ ad2).getD k b = ad.getD k b := by
  rw [List.length_append] at hb
  rw [List.getD_eq_getElem?_getD, List.getD_eq_getElem?_getD]
  rcases h with h1 | h1
  · rw [List.getElem?_append_left h1]
  · rw [List.getElem?_eq_none (by rw [List.length_append]; omega), List.getElem?_eq_none (by omega)]
theorem z_ok_ref {n : Nat} {k : Nat} (h : z_ok n (.ref k) = true) : k < n ∨ 1000000 ≤ k := by
  unfold z_ok at h
  rw [Bool.or_eq_true] at h
  rcases h with h | h
  · exact Or.inl (Nat.le_of_ble_eq_true h)
  · exact Or.inr (Nat.le_of_ble_eq_true h)
theorem z_over {b : Nat} {ad ad2 : List Nat} (n : Nat) (hn : ad.length = n) (hb : (ad ++ ad2).length < 1000000) {v : Value} (h : z_ok n v = true) : z_v b (ad ++ ad2) v = z_v b ad v := by
  cases v with
  | ref j =>
    show Value.ref _ = Value.ref _
    congr 1
    exact z_far0 hb j (by rw [hn]; exact z_ok_ref h)
  | _ => rfl
theorem z_v_more {b : Nat} {ad : List Nat} {q : Nat} (hb : ad.length + 1 < 1000000) {v : Value} (h : z_ok ad.length v = true) : z_v b (ad ++ [q]) v = z_v b ad v := z_over _ rfl (by rw [List.length_append]; exact hb) h
theorem z_map_more {b : Nat} {ad : List Nat} {q : Nat} (hb : ad.length + 1 < 1000000) {st : List Value} (h : st.all (z_ok ad.length) = true) : st.map (z_v b (ad ++ [q])) = st.map (z_v b ad) := by
  apply List.map_congr_left
  intro v hv
  exact z_v_more hb (List.all_eq_true.mp h v hv)
theorem z_c_more {b : Nat} {ad : List Nat} {q : Nat} {dA : FieldType → ClassId} (hb : ad.length + 1 < 1000000) {c : zE} (h : z_okc ad.length c = true) : z_c b (ad ++ [q]) dA c = z_c b ad dA c := by
  cases c with
  | inl a => rfl
  | inr o =>
    show Sum.inr (o.1, o.2.map (z_v b (ad ++ [q]))) = Sum.inr (o.1, o.2.map (z_v b ad))
    rw [z_map_more hb h]
theorem z_w_push {b : Nat} {ad : List Nat} {q : Nat} {dA : FieldType → ClassId} {w : zW} {c : zE} (hl : ad.length = w.length) (hb : ad.length + 1 < 1000000) (h : w.all (z_okc w.length) = true) : z_w b (ad ++ [q]) dA (w ++ [c]) = z_w b ad dA w ++ [(q, z_c b (ad ++ [q]) dA c)] := by
  unfold z_w
  rw [List.zipWith_append hl]
  congr 1
  apply List.ext_getElem?
  intro k
  rw [List.getElem?_zipWith, List.getElem?_zipWith]
  cases hk : w[k]? with
  | none => cases ad[k]? <;> rfl
  | some c0 =>
    cases ad[k]? with
    | none => rfl
    | some a =>
      show some (a, z_c b (ad ++ [q]) dA c0) = some (a, z_c b ad dA c0)
      rw [z_c_more hb (by rw [hl]; exact List.all_eq_true.mp h c0 (List.mem_of_getElem? hk))]
/-- the tables, at a state -/
def z_K0 (D : va_G) (dA : FieldType → ClassId) (s : State) : Prop := va_K D vwCl [] s ∧ (∀ (ty : FieldType) (cA : ClassId), s.vm.findClass ("[" ++ ty.toString) = some cA → cA = dA ty) ∧ ∀ u ∈ zN, va_Nw u s
/-- the arrays of a world are of their classes -/
def z_K1 (dA : FieldType → ClassId) (w : zW) (s : State) : Prop := ∀ (j : Nat) (ty : FieldType) (a : vp_A), w[j]? = some (.inl (ty, a)) → ArrOfT s (dA ty) ty ∧ va_RA s (dA ty) ty
theorem z_K0.moved {D : va_G} {dA : FieldType → ClassId} {s U : State} (hW : s.WarmedH U.vm) (h : z_K0 D dA s) : z_K0 D dA U := by
  refine ⟨va_K.moved hW.alike h.1, fun ty cA hc => h.2.1 ty cA ?_, fun u hu => zN_warm hW u hu (h.2.2 u hu)⟩
  rw [hW.alike.findClass] at hc
  exact hc
theorem z_K0.same {D : va_G} {dA : FieldType → ClassId} {s U : State} (hv : s.vm = U.vm) (h : z_K0 D dA s) : z_K0 D dA U := by
  refine ⟨va_K.moved (by rw [hv]; exact Vm.Alike.refl _) h.1, fun ty cA hc => h.2.1 ty cA ?_, fun u hu => va_Nw.same (zN_on u hu) hv (h.2.2 u hu)⟩
  rw [hv]
  exact hc
theorem z_K1.moved {dA : FieldType → ClassId} {w : zW} {s U : State} (hvm : s.vm.Alike U.vm) (h : z_K1 dA w s) : z_K1 dA w U := fun j ty a hj => ⟨arrOfT_moved hvm (h j ty a hj).1, (h j ty a hj).2.moved hvm⟩
theorem z_K1.set {dA : FieldType → ClassId} {w : zW} {s : State} (h : z_K1 dA w s) {j : Nat} {c : zE} (hc : ∀ (ty : FieldType) (a : vp_A), c = .inl (ty, a) → ∃ (i : Nat) (a' : vp_A), w[i]? = some (.inl (ty, a'))) : z_K1 dA (w.set j c) s := by
  intro k ty a hk
  rw [List.getElem?_set] at hk
  by_cases hjk : j = k
  · rw [if_pos hjk] at hk
    split at hk
    · obtain ⟨i, a', hi⟩ := hc ty a (Option.some.inj hk)
      exact h i ty a' hi
    · cases hk
  · rw [if_neg hjk] at hk
    exact h k ty a hk
theorem z_K1.one {D : va_G} {dA : FieldType → ClassId} {w : zW} {s : State} (h0 : va_K D vwCl [] s) (h : z_K1 dA w s) {j : Nat} {ty : FieldType} {a : vp_A} (hj : w[j]? = some (.inl (ty, a))) : va_K D vwCl [(dA ty, ty)] s := by
  refine ⟨h0.1, fun k q hk => ?_⟩
  have hz : k < 1 := (List.getElem?_eq_some_iff.mp hk).1
  rw [show k = 0 by omega] at hk
  cases hk
  exact h j ty a hj
def zB (D : va_G) (dA : FieldType → ClassId) (b : Nat) (ad0 ad : List Nat) (w : zW) (s : State) (H : Heap) (locs : List Loc) (A : Nat → Prop) : Prop :=
  ad.length = w.length ∧ ad.length < 1000000 ∧ (∃ ad2, ad = ad0 ++ ad2) ∧ va_P D vwCl (z_w b ad dA w) H ∧ va_D A (z_w b ad dA w) ∧ z_K1 dA w s ∧ va_S A s.heap H locs
def zC (M : zM) (X : Option (Nat × (Nat → Int32))) (p : Program) (s : State) (m : MethodId) (args : Array Value) (meth : Method) (c : Code) (D : va_G) (dA : FieldType → ClassId) (b : Nat) (A : Nat → Prop) : Prop :=
  p.tables.exec = Jvm.exec ∧ c.code = M.2.1 ∧ c.maxLocals = M.2.2.1 ∧ (∀ w ∈ zG, w.before args s = true) ∧ s.vm.findClass M.1.cls = some m.cls ∧ meth.name = M.1.name ∧ (∀ q, s.heap.size ≤ q → A q) ∧ (∀ (L : Nat) (xs : Nat → Int32), X = some (L, xs) → va_X b L xs s s.heap ∧ b < s.heap.size ∧ ¬ A b) ∧ z_K0 D dA s
def zRet (M : zM) (pc : Nat) (r : Option Value) : Prop := match r with
  | none => decode M.2.1 pc = .ok (.return_, 1) ∧ M.2.2.2.1 = none
  | some (.int v) => decode M.2.1 pc = .ok (.ireturn, 1) ∧ ∃ ty, M.2.2.2.1 = some ty ∧ narrow ty (.int v) = .int v
  | some (.long _) => decode M.2.1 pc = .ok (.lreturn, 1) ∧ M.2.2.2.1 = some .long
  | _ => False
/-- the method M, at pc with these locals, stack and world, comes to its end with the answer r and the world wf -/
def Ev (M : zM) (X : Option (Nat × (Nat → Int32))) (r : Option Value) (wf : zW) (pc : Nat) (lv : List (Nat × Value)) (st : List Value) (w : zW) (nc ns : Nat) : Prop :=
  ∀ (p : Program) (l : Launch) (e : Env) (s : State) (m : MethodId) (args : Array Value) (below : List Frame) (meth : Method) (c : Code) (Q : State → Prop) (D : va_G) (dA : FieldType → ClassId) (b : Nat) (A : Nat → Prop) (ad0 : List Nat),
    zC M X p s m args meth c D dA b A →
    (∀ (pc' nc' ns' : Nat) (ls : Array Slot) (H : Heap) (locs : List Loc) (ad : List Nat), zRet M pc' r → nc' ≤ M.2.2.2.2.cells → ns' ≤ M.2.2.2.2.slots → zB D dA b ad0 ad wf s H locs A → W p l e M.2.2.2.2 s m args below meth c H locs nc' ns' Q (F0 m pc' ls ((r.map (z_v b ad)).toList))) →
    ∀ (H : Heap) (locs : List Loc) (ad : List Nat) (ls : Array Slot), zB D dA b ad0 ad w s H locs A → lv_has ls M.2.2.1 (lv.map (fun q => (q.1, z_v b ad q.2))) →
      W p l e M.2.2.2.2 s m args below meth c H locs nc ns Q (F0 m pc ls (st.map (z_v b ad)))
def z_Q (D : va_G) (dA : FieldType → ClassId) (b : Nat) (ad : List Nat) (w : zW) (sz : Nat) (r : Option Value) (w' : zW) : Array Value → State → Outcome → State → Prop := fun _ st oc t =>
  (∃ ad' : List Nat, (∃ ad2, ad' = ad ++ ad2) ∧ ad'.length = w'.length ∧ ad'.length < 1000000 ∧ oc = .returned (r.map (z_v b ad')) ∧ va_P D vwCl (z_w b ad' dA w') t.heap ∧ z_K1 dA w' t ∧ va_D (va_A (z_w b ad dA w) sz) (z_w b ad' dA w')) ∧ va_F (va_A (z_w b ad dA w) sz) st t
def z_P (D : va_G) (dA : FieldType → ClassId) (b : Nat) (ad : List Nat) (w : zW) (sz : Nat) : State → Prop := fun U => U.heap.size = sz ∧ va_P D vwCl (z_w b ad dA w) U.heap ∧ z_K0 D dA U ∧ z_K1 dA w U ∧ va_D (fun _ => True) (z_w b ad dA w)
/-- the method M, called with these arguments in the world w, answers r and leaves the world w' -/
def Sp (M : zM) (as : List Value) (w : zW) (r : Option Value) (w' : zW) : Prop :=
  ∀ (l : Launch) (D : va_G) (dA : FieldType → ClassId) (b : Nat) (ad : List Nat) (sz : Nat), ad.length = w.length → ad.length < 1000000 →
    Met l M.1 (z_ws M) M.2.2.2.2 (va_Pc (as.map (z_v b ad)) (z_P D dA b ad w sz)) (z_Q D dA b ad w sz r w') M.2.2.2.2.cells M.2.2.2.2.slots (va_A (z_w b ad dA w) sz)
theorem z_lv_args (b : Nat) (ad : List Nat) (as : List Value) : ∀ i : Nat, lv_args i (as.map (z_v b ad)) = (lv_args i as).map (fun q => (q.1, z_v b ad q.2)) := by
  induction as with
  | nil => intro i; rfl
  | cons v t ih =>
    intro i
    show (i, z_v b ad v) :: lv_args (if (z_v b ad v).category = 2 then i + 2 else i + 1) (t.map (z_v b ad)) = (i, z_v b ad v) :: (lv_args (if v.category = 2 then i + 2 else i + 1) t).map (fun q => (q.1, z_v b ad q.2))
    rw [z_v_cat, ih]
theorem z_lg_sl (b : Nat) (ad : List Nat) (as : List Value) : (lg_sl (as.map (z_v b ad))).length = (lg_sl as).length := by
  induction as with
  | nil => rfl
  | cons v t ih =>
    have h : ∀ (u : Value) (r : List Value), lg_sl (u :: r) = (if u.category = 2 then [Slot.val u, Slot.second] else [Slot.val u]) ++ lg_sl r := fun u r => by simp [lg_sl]
    rw [List.map_cons, h, h, List.length_append, List.length_append, ih, z_v_cat]
    split <;> rfl
theorem Sp.of {M : zM} {as : List Value} {w w' : zW} {r : Option Value} (hy : plainName M.1.cls = true) (hn : (lg_sl as).length ≤ M.2.2.1) (h : Ev M none r w' 0 (lv_args 0 as) [] w 0 0) : Sp M as w r w' := by
  intro l D dA b ad sz hl hb
  refine Met.ofW (cc := M.2.1) (maxL := M.2.2.1) (ret := M.2.2.2.1) hy rfl ?_
  intro p e s m args below meth c s₁ B hml hv
  obtain ⟨rfl, hsz, hP, hK0, hK1, hD0⟩ := hv
  subst hsz
  have hts := atoms_spec (ws := z_ws M) B.pre
  rw [lg_entry_eq]
  refine h p l e s m _ below meth c _ D dA b (va_A (z_w b ad dA w) s.heap.size) ad ⟨B.exec, B.bytes, hml, fun w hw => hts w (List.mem_cons_of_mem _ hw), findClass_of_methodNamed B.named, (name_of_methodNamed B.named B.method).1, fun q h => Or.inr h, fun _ _ h => (by cases h), hK0⟩ ?_ s.heap [] ad _ ⟨hl, hb, ⟨[], (List.append_nil _).symm⟩, hP, hD0.self, hK1, va_S.rf⟩ ?_
  · intro pc' nc' ns' ls H locs ad' hr hc hs hB
    obtain ⟨e1, e2, e3, e4, e5, e6, e7⟩ := hB
    refine W.widen hc hs ?_
    have hlocks := B.notSynchronized
    match r, hr with
    | none, hr => exact W.vret B.exec B.bytes (B.returns.trans hr.2) (fun t ht hW => ⟨⟨ad', e3, e1, e2, rfl, by rw [ht]; exact e4, z_K1.moved hW.alike e6, e5⟩, e7.F ht⟩) e7.2.2 hr.1
    | some (.int v), hr =>
      obtain ⟨hd, ty, h1, h2⟩ := hr
      exact W.zret (ty := ty) B.exec B.bytes (B.returns.trans h1) h2 (fun t ht hW => ⟨⟨ad', e3, e1, e2, rfl, by rw [ht]; exact e4, z_K1.moved hW.alike e6, e5⟩, e7.F ht⟩) e7.2.2 hd
    | some (.long v), hr => exact W.lret B.exec B.bytes (B.returns.trans hr.2) (fun t ht hW => ⟨⟨ad', e3, e1, e2, rfl, by rw [ht]; exact e4, z_K1.moved hW.alike e6, e5⟩, e7.F ht⟩) e7.2.2 hr.1
  · have h1 := lv_entry (as.map (z_v b ad)) (n := M.2.2.1) (by rw [z_lg_sl]; exact hn)
    rw [z_lv_args] at h1
    exact h1
section ZROWS
variable {M : zM} {X : Option (Nat × (Nat → Int32))} {r : Option Value} {wf : zW} {pc : Nat} {lv : List (Nat × Value)} {st : List Value} {w : zW} {nc ns : Nat}
theorem ev_iconst {n : Int} {v : Int32} (hd : decode M.2.1 pc = .ok (.iconst n, 1)) (hv : Int32.ofInt n = v) (k : Ev M X r wf (pc + 1) lv (.int v :: st) w nc ns) : Ev M X r wf pc lv (st) w nc ns := fun p l e s m args below meth c Q D dA b A ad0 C E H locs ad ls B hl => lv_iconst C.1 C.2.1 hd hv (k p l e s m args below meth c Q D dA b A ad0 C E H locs ad ls B hl)
theorem ev_bipush {n : Int} {v : Int32} (hd : decode M.2.1 pc = .ok (.bipush n, 2)) (hv : (Int8.ofInt n).toInt32 = v) (k : Ev M X r wf (pc + 2) lv (.int v :: st) w nc ns) : Ev M X r wf pc lv (st) w nc ns := fun p l e s m args below meth c Q D dA b A ad0 C E H locs ad ls B hl => lv_bipush C.1 C.2.1 hd hv (k p l e s m args below meth c Q D dA b A ad0 C E H locs ad ls B hl)
theorem ev_sipush {n : Int} {v : Int32} (hd : decode M.2.1 pc = .ok (.sipush n, 3)) (hv : (Int16.ofInt n).toInt32 = v) (k : Ev M X r wf (pc + 3) lv (.int v :: st) w nc ns) : Ev M X r wf pc lv (st) w nc ns := fun p l e s m args below meth c Q D dA b A ad0 C E H locs ad ls B hl => lv_sipush C.1 C.2.1 hd hv (k p l e s m args below meth c Q D dA b A ad0 C E H locs ad ls B hl)
theorem ev_lconst {n : Fin 2} {v : Int64} (hd : decode M.2.1 pc = .ok (.lconst n, 1)) (hv : Int64.ofNat (n : Nat) = v) (k : Ev M X r wf (pc + 1) lv (.long v :: st) w nc ns) : Ev M X r wf pc lv (st) w nc ns := fun p l e s m args below meth c Q D dA b A ad0 C E H locs ad ls B hl => lv_lconst C.1 C.2.1 hd hv (k p l e s m args below meth c Q D dA b A ad0 C E H locs ad ls B hl)
theorem ev_iadd {x y : Int32} (hd : decode M.2.1 pc = .ok (.iadd, 1)) (k : Ev M X r wf (pc + 1) lv (.int (x + y) :: st) w nc ns) : Ev M X r wf pc lv (.int y :: .int x :: st) w nc ns := fun p l e s m args below meth c Q D dA b A ad0 C E H locs ad ls B hl => lv_iadd C.1 C.2.1 hd (k p l e s m args below meth c Q D dA b A ad0 C E H locs ad ls B hl)
theorem ev_isub {x y : Int32} (hd : decode M.2.1 pc = .ok (.isub, 1)) (k : Ev M X r wf (pc + 1) lv (.int (x - y) :: st) w nc ns) : Ev M X r wf pc lv (.int y :: .int x :: st) w nc ns := fun p l e s m args below meth c Q D dA b A ad0 C E H locs ad ls B hl => lv_isub C.1 C.2.1 hd (k p l e s m args below meth c Q D dA b A ad0 C E H locs ad ls B hl)
theorem ev_imul {x y : Int32} (hd : decode M.2.1 pc = .ok (.imul, 1)) (k : Ev M X r wf (pc + 1) lv (.int (x * y) :: st) w nc ns) : Ev M X r wf pc lv (.int y :: .int x :: st) w nc ns := fun p l e s m args below meth c Q D dA b A ad0 C E H locs ad ls B hl => lv_imul C.1 C.2.1 hd (k p l e s m args below meth c Q D dA b A ad0 C E H locs ad ls B hl)
theorem ev_iand {x y : Int32} (hd : decode M.2.1 pc = .ok (.iand, 1)) (k : Ev M X r wf (pc + 1) lv (.int (x &&& y) :: st) w nc ns) : Ev M X r wf pc lv (.int y :: .int x :: st) w nc ns := fun p l e s m args below meth c Q D dA b A ad0 C E H locs ad ls B hl => lv_iand C.1 C.2.1 hd (k p l e s m args below meth c Q D dA b A ad0 C E H locs ad ls B hl)
theorem ev_ior {x y : Int32} (hd : decode M.2.1 pc = .ok (.ior, 1)) (k : Ev M X r wf (pc + 1) lv (.int (x ||| y) :: st) w nc ns) : Ev M X r wf pc lv (.int y :: .int x :: st) w nc ns := fun p l e s m args below meth c Q D dA b A ad0 C E H locs ad ls B hl => lv_ior C.1 C.2.1 hd (k p l e s m args below meth c Q D dA b A ad0 C E H locs ad ls B hl)
theorem ev_ixor {x y : Int32} (hd : decode M.2.1 pc = .ok (.ixor, 1)) (k : Ev M X r wf (pc + 1) lv (.int (x ^^^ y) :: st) w nc ns) : Ev M X r wf pc lv (.int y :: .int x :: st) w nc ns := fun p l e s m args below meth c Q D dA b A ad0 C E H locs ad ls B hl => lv_ixor C.1 C.2.1 hd (k p l e s m args below meth c Q D dA b A ad0 C E H locs ad ls B hl)
theorem ev_ishl {x y : Int32} (hd : decode M.2.1 pc = .ok (.ishl, 1)) (k : Ev M X r wf (pc + 1) lv (.int (x <<< (y &&& 31)) :: st) w nc ns) : Ev M X r wf pc lv (.int y :: .int x :: st) w nc ns := fun p l e s m args below meth c Q D dA b A ad0 C E H locs ad ls B hl => lv_ishl C.1 C.2.1 hd (k p l e s m args below meth c Q D dA b A ad0 C E H locs ad ls B hl)
theorem ev_ishr {x y : Int32} (hd : decode M.2.1 pc = .ok (.ishr, 1)) (k : Ev M X r wf (pc + 1) lv (.int (x >>> (y &&& 31)) :: st) w nc ns) : Ev M X r wf pc lv (.int y :: .int x :: st) w nc ns := fun p l e s m args below meth c Q D dA b A ad0 C E H locs ad ls B hl => lv_ishr C.1 C.2.1 hd (k p l e s m args below meth c Q D dA b A ad0 C E H locs ad ls B hl)
theorem ev_idiv {x y : Int32} (hd : decode M.2.1 pc = .ok (.idiv, 1)) (hne : ¬ y = 0) (k : Ev M X r wf (pc + 1) lv (.int (x / y) :: st) w nc ns) : Ev M X r wf pc lv (.int y :: .int x :: st) w nc ns := fun p l e s m args below meth c Q D dA b A ad0 C E H locs ad ls B hl => lv_idiv C.1 C.2.1 hd hne (k p l e s m args below meth c Q D dA b A ad0 C E H locs ad ls B hl)
theorem ev_irem {x y : Int32} (hd : decode M.2.1 pc = .ok (.irem, 1)) (hne : ¬ y = 0) (k : Ev M X r wf (pc + 1) lv (.int (x - x / y * y) :: st) w nc ns) : Ev M X r wf pc lv (.int y :: .int x :: st) w nc ns := fun p l e s m args below meth c Q D dA b A ad0 C E H locs ad ls B hl => lv_irem C.1 C.2.1 hd hne (k p l e s m args below meth c Q D dA b A ad0 C E H locs ad ls B hl)
theorem ev_iushr {x y v : Int32} (hd : decode M.2.1 pc = .ok (.iushr, 1)) (hv : (x.toUInt32 >>> (y.toUInt32 &&& Int32.toUInt32 31)).toInt32 = v) (k : Ev M X r wf (pc + 1) lv (.int v :: st) w nc ns) : Ev M X r wf pc lv (.int y :: .int x :: st) w nc ns := fun p l e s m args below meth c Q D dA b A ad0 C E H locs ad ls B hl => lv_iushr C.1 C.2.1 hd hv (k p l e s m args below meth c Q D dA b A ad0 C E H locs ad ls B hl)
theorem ev_ineg {x : Int32} (hd : decode M.2.1 pc = .ok (.ineg, 1)) (k : Ev M X r wf (pc + 1) lv (.int (-x) :: st) w nc ns) : Ev M X r wf pc lv (.int x :: st) w nc ns := fun p l e s m args below meth c Q D dA b A ad0 C E H locs ad ls B hl => lv_ineg C.1 C.2.1 hd (k p l e s m args below meth c Q D dA b A ad0 C E H locs ad ls B hl)
theorem ev_ladd {x y : Int64} (hd : decode M.2.1 pc = .ok (.ladd, 1)) (k : Ev M X r wf (pc + 1) lv (.long (x + y) :: st) w nc ns) : Ev M X r wf pc lv (.long y :: .long x :: st) w nc ns := fun p l e s m args below meth c Q D dA b A ad0 C E H locs ad ls B hl => lv_ladd C.1 C.2.1 hd (k p l e s m args below meth c Q D dA b A ad0 C E H locs ad ls B hl)
theorem ev_lsub {x y : Int64} (hd : decode M.2.1 pc = .ok (.lsub, 1)) (k : Ev M X r wf (pc + 1) lv (.long (x - y) :: st) w nc ns) : Ev M X r wf pc lv (.long y :: .long x :: st) w nc ns := fun p l e s m args below meth c Q D dA b A ad0 C E H locs ad ls B hl => lv_lsub C.1 C.2.1 hd (k p l e s m args below meth c Q D dA b A ad0 C E H locs ad ls B hl)
theorem ev_lmul {x y : Int64} (hd : decode M.2.1 pc = .ok (.lmul, 1)) (k : Ev M X r wf (pc + 1) lv (.long (x * y) :: st) w nc ns) : Ev M X r wf pc lv (.long y :: .long x :: st) w nc ns := fun p l e s m args below meth c Q D dA b A ad0 C E H locs ad ls B hl => lv_lmul C.1 C.2.1 hd (k p l e s m args below meth c Q D dA b A ad0 C E H locs ad ls B hl)
theorem ev_ldiv {x y : Int64} (hd : decode M.2.1 pc = .ok (.ldiv, 1)) (hne : ¬ y = 0) (k : Ev M X r wf (pc + 1) lv (.long (x / y) :: st) w nc ns) : Ev M X r wf pc lv (.long y :: .long x :: st) w nc ns := fun p l e s m args below meth c Q D dA b A ad0 C E H locs ad ls B hl => lv_ldiv C.1 C.2.1 hd hne (k p l e s m args below meth c Q D dA b A ad0 C E H locs ad ls B hl)
theorem ev_lrem {x y : Int64} (hd : decode M.2.1 pc = .ok (.lrem, 1)) (hne : ¬ y = 0) (k : Ev M X r wf (pc + 1) lv (.long (x - x / y * y) :: st) w nc ns) : Ev M X r wf pc lv (.long y :: .long x :: st) w nc ns := fun p l e s m args below meth c Q D dA b A ad0 C E H locs ad ls B hl => lv_lrem C.1 C.2.1 hd hne (k p l e s m args below meth c Q D dA b A ad0 C E H locs ad ls B hl)
theorem ev_lneg {x : Int64} (hd : decode M.2.1 pc = .ok (.lneg, 1)) (k : Ev M X r wf (pc + 1) lv (.long (-x) :: st) w nc ns) : Ev M X r wf pc lv (.long x :: st) w nc ns := fun p l e s m args below meth c Q D dA b A ad0 C E H locs ad ls B hl => lv_lneg C.1 C.2.1 hd (k p l e s m args below meth c Q D dA b A ad0 C E H locs ad ls B hl)
theorem ev_i2l {x : Int32} {v : Int64} (hd : decode M.2.1 pc = .ok (.i2l, 1)) (hv : x.toInt64 = v) (k : Ev M X r wf (pc + 1) lv (.long v :: st) w nc ns) : Ev M X r wf pc lv (.int x :: st) w nc ns := fun p l e s m args below meth c Q D dA b A ad0 C E H locs ad ls B hl => lv_i2l C.1 C.2.1 hd hv (k p l e s m args below meth c Q D dA b A ad0 C E H locs ad ls B hl)
theorem ev_l2i {x : Int64} {v : Int32} (hd : decode M.2.1 pc = .ok (.l2i, 1)) (hv : x.toInt32 = v) (k : Ev M X r wf (pc + 1) lv (.int v :: st) w nc ns) : Ev M X r wf pc lv (.long x :: st) w nc ns := fun p l e s m args below meth c Q D dA b A ad0 C E H locs ad ls B hl => lv_l2i C.1 C.2.1 hd hv (k p l e s m args below meth c Q D dA b A ad0 C E H locs ad ls B hl)
theorem ev_lcmp {x y : Int64} (hd : decode M.2.1 pc = .ok (.lcmp, 1)) (k : Ev M X r wf (pc + 1) lv (.int (lg_cmp x y) :: st) w nc ns) : Ev M X r wf pc lv (.long y :: .long x :: st) w nc ns := fun p l e s m args below meth c Q D dA b A ad0 C E H locs ad ls B hl => W.lcmp C.1 C.2.1 hd (k p l e s m args below meth c Q D dA b A ad0 C E H locs ad ls B hl)
theorem ev_dup {v : Value} (hd : decode M.2.1 pc = .ok (.dup, 1)) (hc : v.category = 1) (k : Ev M X r wf (pc + 1) lv (v :: v :: st) w nc ns) : Ev M X r wf pc lv (v :: st) w nc ns := fun p l e s m args below meth c Q D dA b A ad0 C E H locs ad ls B hl => lv_dup C.1 C.2.1 hd ((z_v_cat b ad v).trans hc) (k p l e s m args below meth c Q D dA b A ad0 C E H locs ad ls B hl)
theorem ev_pop {v : Value} (hd : decode M.2.1 pc = .ok (.pop, 1)) (hc : v.category = 1) (k : Ev M X r wf (pc + 1) lv (st) w nc ns) : Ev M X r wf pc lv (v :: st) w nc ns := fun p l e s m args below meth c Q D dA b A ad0 C E H locs ad ls B hl => lv_pop C.1 C.2.1 hd ((z_v_cat b ad v).trans hc) (k p l e s m args below meth c Q D dA b A ad0 C E H locs ad ls B hl)
theorem ev_dup2 {v u : Value} (hd : decode M.2.1 pc = .ok (.dup2, 1)) (hc : v.category = 1) (hc2 : u.category = 1) (k : Ev M X r wf (pc + 1) lv (v :: u :: v :: u :: st) w nc ns) : Ev M X r wf pc lv (v :: u :: st) w nc ns := fun p l e s m args below meth c Q D dA b A ad0 C E H locs ad ls B hl => lv_dup2_11 C.1 C.2.1 hd ((z_v_cat b ad v).trans hc) ((z_v_cat b ad u).trans hc2) (k p l e s m args below meth c Q D dA b A ad0 C E H locs ad ls B hl)
def z_get (lv : List (Nat × Value)) (i : Nat) : Option Value := match lv with
  | [] => none
  | q :: t => if q.1 = i then some q.2 else z_get t i
theorem z_get_mem {i : Nat} {v : Value} : ∀ {lv : List (Nat × Value)}, z_get lv i = some v → (i, v) ∈ lv := by
  intro lv
  induction lv with
  | nil => intro h; cases h
  | cons q t ih =>
    intro h
    unfold z_get at h
    split at h
    · next hq =>
      obtain ⟨a, u⟩ := q
      cases h
      cases hq
      exact List.mem_cons_self
    · exact List.mem_cons_of_mem _ (ih h)
theorem z_lv {b : Nat} {ad : List Nat} {ls : Array Slot} {n i : Nat} {v : Value} (hl : lv_has ls n (lv.map (fun q => (q.1, z_v b ad q.2)))) (h : z_get lv i = some v) : ls[i]? = some (.val (z_v b ad v)) :=
  hl.2.2 (i, z_v b ad v) (List.mem_map.mpr ⟨(i, v), z_get_mem h, rfl⟩)
/-- in its place, or at the end -/
def z_put (i : Nat) (v : Value) (lv : List (Nat × Value)) : List (Nat × Value) := match lv with
  | [] => [(i, v)]
  | q :: t => if q.1 = i then (i, v) :: t else q :: z_put i v t
/-- each place once; no long that ends at i -/
def z_fit1 (i : Nat) (lv : List (Nat × Value)) : Bool := match lv with
  | [] => true
  | q :: t => if q.1 = i then t.all (fun x => !(x.1 == i) && !(x.1 + 1 == i && x.2.category == 2)) else !(q.1 + 1 == i && q.2.category == 2) && z_fit1 i t
def z_fit2 (i : Nat) (lv : List (Nat × Value)) : Bool := z_fit1 i lv && lv.all (fun x => !(x.1 == i + 1))
theorem z_put_sub {i : Nat} {v : Value} : ∀ {lv : List (Nat × Value)}, z_fit1 i lv = true → ∀ q ∈ z_put i v lv, q = (i, v) ∨ (q ∈ lv ∧ (!(q.1 == i) && !(q.1 + 1 == i && q.2.category == 2)) = true) := by
  intro lv
  induction lv with
  | nil =>
    intro _ q hq
    exact Or.inl (List.mem_singleton.mp hq)
  | cons a t ih =>
    intro h q hq
    unfold z_fit1 at h
    unfold z_put at hq
    by_cases ha : a.1 = i
    · rw [if_pos ha] at h hq
      rcases List.mem_cons.mp hq with h1 | h1
      · exact Or.inl h1
      · exact Or.inr ⟨List.mem_cons_of_mem _ h1, List.all_eq_true.mp h q h1⟩
    · rw [if_neg ha] at h hq
      rw [Bool.and_eq_true] at h
      rcases List.mem_cons.mp hq with h1 | h1
      · subst h1
        refine Or.inr ⟨List.mem_cons_self, ?_⟩
        rw [h.1, Bool.and_true]
        simp [ha]
      · rcases ih h.2 q h1 with h2 | ⟨h2, h3⟩
        · exact Or.inl h2
        · exact Or.inr ⟨List.mem_cons_of_mem _ h2, h3⟩
theorem lv_has.less {ls : Array Slot} {n : Nat} {l l' : List (Nat × Value)} (h : lv_has ls n l) (hs : ∀ q ∈ l', q ∈ l) : lv_has ls n l' := ⟨h.1, h.2.1, fun q hq => h.2.2 q (hs q hq)⟩
theorem z_stored1 {b : Nat} {ad : List Nat} {ls : Array Slot} {n i : Nat} {v : Value} (hf : z_fit1 i lv = true) (h : lv_has ls n ((i, z_v b ad v) :: (lv.map (fun q => (q.1, z_v b ad q.2))).filter (fun q => !(q.1 == i) && !(q.1 + 1 == i && q.2.category == 2)))) : lv_has ls n ((z_put i v lv).map (fun q => (q.1, z_v b ad q.2))) := by
  refine h.less fun q hq => ?_
  obtain ⟨q0, h0, rfl⟩ := List.mem_map.mp hq
  rcases z_put_sub hf q0 h0 with rfl | ⟨h1, h2⟩
  · exact List.mem_cons_self
  · refine List.mem_cons_of_mem _ (List.mem_filter.mpr ⟨List.mem_map.mpr ⟨q0, h1, rfl⟩, ?_⟩)
    show (!(q0.1 == i) && !(q0.1 + 1 == i && (z_v b ad q0.2).category == 2)) = true
    rw [z_v_cat]
    exact h2
theorem z_stored2 {b : Nat} {ad : List Nat} {ls : Array Slot} {n i : Nat} {v : Value} (hf : z_fit2 i lv = true) (h : lv_has ls n ((i, z_v b ad v) :: (lv.map (fun q => (q.1, z_v b ad q.2))).filter (fun q => !(q.1 == i) && (!(q.1 == i + 1) && !(q.1 + 1 == i && q.2.category == 2))))) : lv_has ls n ((z_put i v lv).map (fun q => (q.1, z_v b ad q.2))) := by
  unfold z_fit2 at hf
  rw [Bool.and_eq_true] at hf
  refine h.less fun q hq => ?_
  obtain ⟨q0, h0, rfl⟩ := List.mem_map.mp hq
  rcases z_put_sub hf.1 q0 h0 with rfl | ⟨h1, h2⟩
  · exact List.mem_cons_self
  · refine List.mem_cons_of_mem _ (List.mem_filter.mpr ⟨List.mem_map.mpr ⟨q0, h1, rfl⟩, ?_⟩)
    show (!(q0.1 == i) && (!(q0.1 == i + 1) && !(q0.1 + 1 == i && (z_v b ad q0.2).category == 2))) = true
    rw [z_v_cat]
    rw [Bool.and_eq_true] at h2
    rw [h2.1, h2.2, List.all_eq_true.mp hf.2 q0 h1]
    rfl
/-- fewer locals -/
theorem ev_sub {lv' : List (Nat × Value)} (h : ∀ q ∈ lv', q ∈ lv) (k : Ev M X r wf pc lv' st w nc ns) : Ev M X r wf pc lv st w nc ns := fun p l e s m args below meth c Q D dA b A ad0 C E H locs ad ls B hl => k p l e s m args below meth c Q D dA b A ad0 C E H locs ad ls B (hl.less fun q hq => by
  obtain ⟨q0, h0, rfl⟩ := List.mem_map.mp hq
  exact List.mem_map.mpr ⟨q0, h q0 h0, rfl⟩)
theorem ev_iload_n (i : Nat) {x : Int32} {k : Fin 4} (hd : decode M.2.1 pc = .ok (.iload_n k, 1)) (hi : (k : Nat) = i) (h : z_get lv i = some (.int x)) (kk : Ev M X r wf (pc + 1) lv (.int x :: st) w nc ns) : Ev M X r wf pc lv st w nc ns := fun p l e s m args below meth c Q D dA b A ad0 C E H locs ad ls B hl => lv_iload_n C.1 C.2.1 hd hi (z_lv hl h) (kk p l e s m args below meth c Q D dA b A ad0 C E H locs ad ls B hl)
theorem ev_iload {i : Nat} {x : Int32} (hd : decode M.2.1 pc = .ok (.iload i, 2)) (h : z_get lv i = some (.int x)) (kk : Ev M X r wf (pc + 2) lv (.int x :: st) w nc ns) : Ev M X r wf pc lv st w nc ns := fun p l e s m args below meth c Q D dA b A ad0 C E H locs ad ls B hl => lv_iload C.1 C.2.1 hd (z_lv hl h) (kk p l e s m args below meth c Q D dA b A ad0 C E H locs ad ls B hl)
theorem ev_istore_n (i : Nat) {x : Int32} {k : Fin 4} (hd : decode M.2.1 pc = .ok (.istore_n k, 1)) (hi : (k : Nat) = i) (hn : i < M.2.2.1) (hf : z_fit1 i lv = true) (kk : Ev M X r wf (pc + 1) (z_put i (.int x) lv) st w nc ns) : Ev M X r wf pc lv (.int x :: st) w nc ns := fun p l e s m args below meth c Q D dA b A ad0 C E H locs ad ls B hl => lv_istore_n C.1 C.2.1 hd hi hl hn rfl (fun ls' hl' => kk p l e s m args below meth c Q D dA b A ad0 C E H locs ad ls' B (z_stored1 hf hl'))
theorem ev_istore {i : Nat} {x : Int32} (hd : decode M.2.1 pc = .ok (.istore i, 2)) (hn : i < M.2.2.1) (hf : z_fit1 i lv = true) (kk : Ev M X r wf (pc + 2) (z_put i (.int x) lv) st w nc ns) : Ev M X r wf pc lv (.int x :: st) w nc ns := fun p l e s m args below meth c Q D dA b A ad0 C E H locs ad ls B hl => lv_istore C.1 C.2.1 hd hl hn rfl (fun ls' hl' => kk p l e s m args below meth c Q D dA b A ad0 C E H locs ad ls' B (z_stored1 hf hl'))
theorem ev_lload_n (i : Nat) {x : Int64} {k : Fin 4} (hd : decode M.2.1 pc = .ok (.lload_n k, 1)) (hi : (k : Nat) = i) (h : z_get lv i = some (.long x)) (kk : Ev M X r wf (pc + 1) lv (.long x :: st) w nc ns) : Ev M X r wf pc lv st w nc ns := fun p l e s m args below meth c Q D dA b A ad0 C E H locs ad ls B hl => lv_lload_n C.1 C.2.1 hd hi (z_lv hl h) (kk p l e s m args below meth c Q D dA b A ad0 C E H locs ad ls B hl)
theorem ev_lload {i : Nat} {x : Int64} (hd : decode M.2.1 pc = .ok (.lload i, 2)) (h : z_get lv i = some (.long x)) (kk : Ev M X r wf (pc + 2) lv (.long x :: st) w nc ns) : Ev M X r wf pc lv st w nc ns := fun p l e s m args below meth c Q D dA b A ad0 C E H locs ad ls B hl => lv_lload C.1 C.2.1 hd (z_lv hl h) (kk p l e s m args below meth c Q D dA b A ad0 C E H locs ad ls B hl)
theorem ev_lstore_n (i : Nat) {x : Int64} {k : Fin 4} (hd : decode M.2.1 pc = .ok (.lstore_n k, 1)) (hi : (k : Nat) = i) (hn : i + 1 < M.2.2.1) (hf : z_fit2 i lv = true) (kk : Ev M X r wf (pc + 1) (z_put i (.long x) lv) st w nc ns) : Ev M X r wf pc lv (.long x :: st) w nc ns := fun p l e s m args below meth c Q D dA b A ad0 C E H locs ad ls B hl => lv_lstore_n C.1 C.2.1 hd hi hl hn rfl (fun ls' hl' => kk p l e s m args below meth c Q D dA b A ad0 C E H locs ad ls' B (z_stored2 hf hl'))
theorem ev_lstore {i : Nat} {x : Int64} (hd : decode M.2.1 pc = .ok (.lstore i, 2)) (hn : i + 1 < M.2.2.1) (hf : z_fit2 i lv = true) (kk : Ev M X r wf (pc + 2) (z_put i (.long x) lv) st w nc ns) : Ev M X r wf pc lv (.long x :: st) w nc ns := fun p l e s m args below meth c Q D dA b A ad0 C E H locs ad ls B hl => lv_lstore C.1 C.2.1 hd hl hn rfl (fun ls' hl' => kk p l e s m args below meth c Q D dA b A ad0 C E H locs ad ls' B (z_stored2 hf hl'))
theorem ev_aload_n (i : Nat) {x : Nat} {k : Fin 4} (hd : decode M.2.1 pc = .ok (.aload_n k, 1)) (hi : (k : Nat) = i) (h : z_get lv i = some (.ref x)) (kk : Ev M X r wf (pc + 1) lv (.ref x :: st) w nc ns) : Ev M X r wf pc lv st w nc ns := fun p l e s m args below meth c Q D dA b A ad0 C E H locs ad ls B hl => lv_aload_n C.1 C.2.1 hd hi (z_lv hl h) (kk p l e s m args below meth c Q D dA b A ad0 C E H locs ad ls B hl)
theorem ev_aload {i : Nat} {x : Nat} (hd : decode M.2.1 pc = .ok (.aload i, 2)) (h : z_get lv i = some (.ref x)) (kk : Ev M X r wf (pc + 2) lv (.ref x :: st) w nc ns) : Ev M X r wf pc lv st w nc ns := fun p l e s m args below meth c Q D dA b A ad0 C E H locs ad ls B hl => lv_aload C.1 C.2.1 hd (z_lv hl h) (kk p l e s m args below meth c Q D dA b A ad0 C E H locs ad ls B hl)
theorem ev_astore_n (i : Nat) {x : Nat} {k : Fin 4} (hd : decode M.2.1 pc = .ok (.astore_n k, 1)) (hi : (k : Nat) = i) (hn : i < M.2.2.1) (hf : z_fit1 i lv = true) (kk : Ev M X r wf (pc + 1) (z_put i (.ref x) lv) st w nc ns) : Ev M X r wf pc lv (.ref x :: st) w nc ns := fun p l e s m args below meth c Q D dA b A ad0 C E H locs ad ls B hl => lv_astore_n C.1 C.2.1 hd hi hl hn rfl (fun ls' hl' => kk p l e s m args below meth c Q D dA b A ad0 C E H locs ad ls' B (z_stored1 hf hl'))
theorem ev_astore {i : Nat} {x : Nat} (hd : decode M.2.1 pc = .ok (.astore i, 2)) (hn : i < M.2.2.1) (hf : z_fit1 i lv = true) (kk : Ev M X r wf (pc + 2) (z_put i (.ref x) lv) st w nc ns) : Ev M X r wf pc lv (.ref x :: st) w nc ns := fun p l e s m args below meth c Q D dA b A ad0 C E H locs ad ls B hl => lv_astore C.1 C.2.1 hd hl hn rfl (fun ls' hl' => kk p l e s m args below meth c Q D dA b A ad0 C E H locs ad ls' B (z_stored1 hf hl'))
theorem ev_iinc {i : Nat} {n : Int} {x v : Int32} (hd : decode M.2.1 pc = .ok (.iinc i n, 3)) (h : z_get lv i = some (.int x)) (hv : x + Int32.ofInt n = v) (hn : i < M.2.2.1) (hf : z_fit1 i lv = true) (kk : Ev M X r wf (pc + 3) (z_put i (.int v) lv) st w nc ns) : Ev M X r wf pc lv st w nc ns := fun p l e s m args below meth c Q D dA b A ad0 C E H locs ad ls B hl => by
  obtain ⟨k, hk⟩ := List.getElem?_of_mem (List.mem_map.mpr ⟨(i, Value.int x), z_get_mem h, rfl⟩ : (i, z_v b ad (.int x)) ∈ lv.map (fun q => (q.1, z_v b ad q.2)))
  exact lv_iinc C.1 C.2.1 hd hl (k := k) (x := x) hk hv hn rfl (fun ls' hl' => kk p l e s m args below meth c Q D dA b A ad0 C E H locs ad ls' B (z_stored1 hf hl'))
theorem ev_if_eq (tgt : Nat) {x : Int32} {off : Int} (hd : decode M.2.1 pc = .ok (.ifCond .eq off, 3)) (ht : (pc : Int) + off = (tgt : Int)) (kt : x = 0 → Ev M X r wf tgt lv st w nc ns) (kf : ¬ x = 0 → Ev M X r wf (pc + 3) lv st w nc ns) : Ev M X r wf pc lv (.int x :: st) w nc ns := fun p l e s m args below meth c Q D dA b A ad0 C E H locs ad ls B hl => lv_if_eq C.1 C.2.1 hd ht (fun h => kt h p l e s m args below meth c Q D dA b A ad0 C E H locs ad ls B hl) (fun h => kf h p l e s m args below meth c Q D dA b A ad0 C E H locs ad ls B hl)
theorem ev_icmp_eq (tgt : Nat) {x y : Int32} {off : Int} (hd : decode M.2.1 pc = .ok (.if_icmp .eq off, 3)) (ht : (pc : Int) + off = (tgt : Int)) (kt : x = y → Ev M X r wf tgt lv st w nc ns) (kf : ¬ x = y → Ev M X r wf (pc + 3) lv st w nc ns) : Ev M X r wf pc lv (.int y :: .int x :: st) w nc ns := fun p l e s m args below meth c Q D dA b A ad0 C E H locs ad ls B hl => lv_icmp_eq C.1 C.2.1 hd ht (fun h => kt h p l e s m args below meth c Q D dA b A ad0 C E H locs ad ls B hl) (fun h => kf h p l e s m args below meth c Q D dA b A ad0 C E H locs ad ls B hl)
theorem ev_if_ne (tgt : Nat) {x : Int32} {off : Int} (hd : decode M.2.1 pc = .ok (.ifCond .ne off, 3)) (ht : (pc : Int) + off = (tgt : Int)) (kt : ¬ x = 0 → Ev M X r wf tgt lv st w nc ns) (kf : x = 0 → Ev M X r wf (pc + 3) lv st w nc ns) : Ev M X r wf pc lv (.int x :: st) w nc ns := fun p l e s m args below meth c Q D dA b A ad0 C E H locs ad ls B hl => lv_if_ne C.1 C.2.1 hd ht (fun h => kt h p l e s m args below meth c Q D dA b A ad0 C E H locs ad ls B hl) (fun h => kf h p l e s m args below meth c Q D dA b A ad0 C E H locs ad ls B hl)
theorem ev_icmp_ne (tgt : Nat) {x y : Int32} {off : Int} (hd : decode M.2.1 pc = .ok (.if_icmp .ne off, 3)) (ht : (pc : Int) + off = (tgt : Int)) (kt : ¬ x = y → Ev M X r wf tgt lv st w nc ns) (kf : x = y → Ev M X r wf (pc + 3) lv st w nc ns) : Ev M X r wf pc lv (.int y :: .int x :: st) w nc ns := fun p l e s m args below meth c Q D dA b A ad0 C E H locs ad ls B hl => lv_icmp_ne C.1 C.2.1 hd ht (fun h => kt h p l e s m args below meth c Q D dA b A ad0 C E H locs ad ls B hl) (fun h => kf h p l e s m args below meth c Q D dA b A ad0 C E H locs ad ls B hl)
theorem ev_if_lt (tgt : Nat) {x : Int32} {off : Int} (hd : decode M.2.1 pc = .ok (.ifCond .lt off, 3)) (ht : (pc : Int) + off = (tgt : Int)) (kt : x < 0 → Ev M X r wf tgt lv st w nc ns) (kf : ¬ x < 0 → Ev M X r wf (pc + 3) lv st w nc ns) : Ev M X r wf pc lv (.int x :: st) w nc ns := fun p l e s m args below meth c Q D dA b A ad0 C E H locs ad ls B hl => lv_if_lt C.1 C.2.1 hd ht (fun h => kt h p l e s m args below meth c Q D dA b A ad0 C E H locs ad ls B hl) (fun h => kf h p l e s m args below meth c Q D dA b A ad0 C E H locs ad ls B hl)
theorem ev_icmp_lt (tgt : Nat) {x y : Int32} {off : Int} (hd : decode M.2.1 pc = .ok (.if_icmp .lt off, 3)) (ht : (pc : Int) + off = (tgt : Int)) (kt : x < y → Ev M X r wf tgt lv st w nc ns) (kf : ¬ x < y → Ev M X r wf (pc + 3) lv st w nc ns) : Ev M X r wf pc lv (.int y :: .int x :: st) w nc ns := fun p l e s m args below meth c Q D dA b A ad0 C E H locs ad ls B hl => lv_icmp_lt C.1 C.2.1 hd ht (fun h => kt h p l e s m args below meth c Q D dA b A ad0 C E H locs ad ls B hl) (fun h => kf h p l e s m args below meth c Q D dA b A ad0 C E H locs ad ls B hl)
theorem ev_if_ge (tgt : Nat) {x : Int32} {off : Int} (hd : decode M.2.1 pc = .ok (.ifCond .ge off, 3)) (ht : (pc : Int) + off = (tgt : Int)) (kt : 0 ≤ x → Ev M X r wf tgt lv st w nc ns) (kf : ¬ 0 ≤ x → Ev M X r wf (pc + 3) lv st w nc ns) : Ev M X r wf pc lv (.int x :: st) w nc ns := fun p l e s m args below meth c Q D dA b A ad0 C E H locs ad ls B hl => lv_if_ge C.1 C.2.1 hd ht (fun h => kt h p l e s m args below meth c Q D dA b A ad0 C E H locs ad ls B hl) (fun h => kf h p l e s m args below meth c Q D dA b A ad0 C E H locs ad ls B hl)
theorem ev_icmp_ge (tgt : Nat) {x y : Int32} {off : Int} (hd : decode M.2.1 pc = .ok (.if_icmp .ge off, 3)) (ht : (pc : Int) + off = (tgt : Int)) (kt : y ≤ x → Ev M X r wf tgt lv st w nc ns) (kf : ¬ y ≤ x → Ev M X r wf (pc + 3) lv st w nc ns) : Ev M X r wf pc lv (.int y :: .int x :: st) w nc ns := fun p l e s m args below meth c Q D dA b A ad0 C E H locs ad ls B hl => lv_icmp_ge C.1 C.2.1 hd ht (fun h => kt h p l e s m args below meth c Q D dA b A ad0 C E H locs ad ls B hl) (fun h => kf h p l e s m args below meth c Q D dA b A ad0 C E H locs ad ls B hl)
theorem ev_if_gt (tgt : Nat) {x : Int32} {off : Int} (hd : decode M.2.1 pc = .ok (.ifCond .gt off, 3)) (ht : (pc : Int) + off = (tgt : Int)) (kt : 0 < x → Ev M X r wf tgt lv st w nc ns) (kf : ¬ 0 < x → Ev M X r wf (pc + 3) lv st w nc ns) : Ev M X r wf pc lv (.int x :: st) w nc ns := fun p l e s m args below meth c Q D dA b A ad0 C E H locs ad ls B hl => lv_if_gt C.1 C.2.1 hd ht (fun h => kt h p l e s m args below meth c Q D dA b A ad0 C E H locs ad ls B hl) (fun h => kf h p l e s m args below meth c Q D dA b A ad0 C E H locs ad ls B hl)
theorem ev_icmp_gt (tgt : Nat) {x y : Int32} {off : Int} (hd : decode M.2.1 pc = .ok (.if_icmp .gt off, 3)) (ht : (pc : Int) + off = (tgt : Int)) (kt : y < x → Ev M X r wf tgt lv st w nc ns) (kf : ¬ y < x → Ev M X r wf (pc + 3) lv st w nc ns) : Ev M X r wf pc lv (.int y :: .int x :: st) w nc ns := fun p l e s m args below meth c Q D dA b A ad0 C E H locs ad ls B hl => lv_icmp_gt C.1 C.2.1 hd ht (fun h => kt h p l e s m args below meth c Q D dA b A ad0 C E H locs ad ls B hl) (fun h => kf h p l e s m args below meth c Q D dA b A ad0 C E H locs ad ls B hl)
theorem ev_if_le (tgt : Nat) {x : Int32} {off : Int} (hd : decode M.2.1 pc = .ok (.ifCond .le off, 3)) (ht : (pc : Int) + off = (tgt : Int)) (kt : x ≤ 0 → Ev M X r wf tgt lv st w nc ns) (kf : ¬ x ≤ 0 → Ev M X r wf (pc + 3) lv st w nc ns) : Ev M X r wf pc lv (.int x :: st) w nc ns := fun p l e s m args below meth c Q D dA b A ad0 C E H locs ad ls B hl => lv_if_le C.1 C.2.1 hd ht (fun h => kt h p l e s m args below meth c Q D dA b A ad0 C E H locs ad ls B hl) (fun h => kf h p l e s m args below meth c Q D dA b A ad0 C E H locs ad ls B hl)
theorem ev_icmp_le (tgt : Nat) {x y : Int32} {off : Int} (hd : decode M.2.1 pc = .ok (.if_icmp .le off, 3)) (ht : (pc : Int) + off = (tgt : Int)) (kt : x ≤ y → Ev M X r wf tgt lv st w nc ns) (kf : ¬ x ≤ y → Ev M X r wf (pc + 3) lv st w nc ns) : Ev M X r wf pc lv (.int y :: .int x :: st) w nc ns := fun p l e s m args below meth c Q D dA b A ad0 C E H locs ad ls B hl => lv_icmp_le C.1 C.2.1 hd ht (fun h => kt h p l e s m args below meth c Q D dA b A ad0 C E H locs ad ls B hl) (fun h => kf h p l e s m args below meth c Q D dA b A ad0 C E H locs ad ls B hl)
theorem ev_goto (tgt : Nat) {off : Int} (hd : decode M.2.1 pc = .ok (.goto off, 3)) (ht : (pc : Int) + off = (tgt : Int)) (k : Ev M X r wf tgt lv st w nc ns) : Ev M X r wf pc lv st w nc ns := fun p l e s m args below meth c Q D dA b A ad0 C E H locs ad ls B hl => lv_goto C.1 C.2.1 hd ht (k p l e s m args below meth c Q D dA b A ad0 C E H locs ad ls B hl)
theorem ev_tabOut (tgt : Nat) {dflt lo hi : Int} {offs : Array Int} {len : Nat} {x : Int32} (hd : decode M.2.1 pc = .ok (.tableswitch dflt lo hi offs, len)) (h : x.toInt < lo ∨ hi < x.toInt) (ht : (pc : Int) + dflt = (tgt : Int)) (k : Ev M X r wf tgt lv st w nc ns) : Ev M X r wf pc lv (.int x :: st) w nc ns := fun p l e s m args below meth c Q D dA b A ad0 C E H locs ad ls B hl => lv_tableOut C.1 C.2.1 hd h ht (k p l e s m args below meth c Q D dA b A ad0 C E H locs ad ls B hl)
theorem ev_tabIn (tgt : Nat) {dflt lo hi : Int} {offs : Array Int} {len : Nat} {x : Int32} {off : Int} (hd : decode M.2.1 pc = .ok (.tableswitch dflt lo hi offs, len)) (h1 : ¬ x.toInt < lo) (h2 : ¬ hi < x.toInt) (ho : offs[(x.toInt - lo).toNat]? = some off) (ht : (pc : Int) + off = (tgt : Int)) (k : Ev M X r wf tgt lv st w nc ns) : Ev M X r wf pc lv (.int x :: st) w nc ns := fun p l e s m args below meth c Q D dA b A ad0 C E H locs ad ls B hl => lv_tableIn C.1 C.2.1 hd h1 h2 ho ht (k p l e s m args below meth c Q D dA b A ad0 C E H locs ad ls B hl)
theorem ev_ldc2 {index : Nat} {v : Int64} (hw : Cond.constantLong M.1.cls index v ∈ zG) (hd : decode M.2.1 pc = .ok (.ldc2_w index, 3)) (k : Ev M X r wf (pc + 3) lv (.long v :: st) w nc ns) : Ev M X r wf pc lv st w nc ns := fun p l e s m args below meth c Q D dA b A ad0 C E H locs ad ls B hl => lv_ldc2 C.1 C.2.1 C.2.2.2.2.1 (C.2.2.2.1 _ hw) hd (k p l e s m args below meth c Q D dA b A ad0 C E H locs ad ls B hl)
theorem ev_ret (hd : decode M.2.1 pc = .ok (.return_, 1)) (hr : M.2.2.2.1 = none) (hc : nc ≤ M.2.2.2.2.cells) (hs : ns ≤ M.2.2.2.2.slots) : Ev M X none w pc lv [] w nc ns := fun p l e s m args below meth c Q D dA b A ad0 C E H locs ad ls B hl => E pc nc ns ls H locs ad ⟨hd, hr⟩ hc hs B
theorem ev_iret {v : Int32} {ty : FieldType} (hd : decode M.2.1 pc = .ok (.ireturn, 1)) (hr : M.2.2.2.1 = some ty) (hn : narrow ty (.int v) = .int v) (hc : nc ≤ M.2.2.2.2.cells) (hs : ns ≤ M.2.2.2.2.slots) : Ev M X (some (.int v)) w pc lv [.int v] w nc ns := fun p l e s m args below meth c Q D dA b A ad0 C E H locs ad ls B hl => E pc nc ns ls H locs ad ⟨hd, ty, hr, hn⟩ hc hs B
theorem ev_lret {v : Int64} (hd : decode M.2.1 pc = .ok (.lreturn, 1)) (hr : M.2.2.2.1 = some .long) (hc : nc ≤ M.2.2.2.2.cells) (hs : ns ≤ M.2.2.2.2.slots) : Ev M X (some (.long v)) w pc lv [.long v] w nc ns := fun p l e s m args below meth c Q D dA b A ad0 C E H locs ad ls B hl => E pc nc ns ls H locs ad ⟨hd, hr⟩ hc hs B
theorem ev_iald {j n : Nat} {f : Nat → Int32} {i : Int32} (hd : decode M.2.1 pc = .ok (.iaload, 1)) (hj : w[j]? = some (.inl (.int, n, .inl f))) (hin : vp_in i n) (k : Ev M X r wf (pc + 1) lv (.int (f i.toNatClampNeg) :: st) w nc ns) : Ev M X r wf pc lv (.int i :: .ref j :: st) w nc ns := fun p l e s m args below meth c Q D dA b A ad0 C E H locs ad ls B hl => va_iald (t0 := 0) C.1 C.2.1 (z_K1.one C.2.2.2.2.2.2.2.2.1 B.2.2.2.2.2.1 hj) B.2.2.2.1 j (z_w_at B.1 hj).2 rfl hin hd (k p l e s m args below meth c Q D dA b A ad0 C E H locs ad ls B hl)
theorem ev_zald {j n : Nat} {f : Nat → Int32} {i : Int32} (hd : decode M.2.1 pc = .ok (.baload, 1)) (hj : w[j]? = some (.inl (.boolean, n, .inl f))) (hin : vp_in i n) (k : Ev M X r wf (pc + 1) lv (.int (f i.toNatClampNeg) :: st) w nc ns) : Ev M X r wf pc lv (.int i :: .ref j :: st) w nc ns := fun p l e s m args below meth c Q D dA b A ad0 C E H locs ad ls B hl => va_zald (t0 := 0) C.1 C.2.1 (z_K1.one C.2.2.2.2.2.2.2.2.1 B.2.2.2.2.2.1 hj) B.2.2.2.1 j (z_w_at B.1 hj).2 rfl hin hd (k p l e s m args below meth c Q D dA b A ad0 C E H locs ad ls B hl)
theorem ev_lald {j n : Nat} {f : Nat → Int64} {i : Int32} (hd : decode M.2.1 pc = .ok (.laload, 1)) (hj : w[j]? = some (.inl (.long, n, .inr (.inl f)))) (hin : vp_in i n) (k : Ev M X r wf (pc + 1) lv (.long (f i.toNatClampNeg) :: st) w nc ns) : Ev M X r wf pc lv (.int i :: .ref j :: st) w nc ns := fun p l e s m args below meth c Q D dA b A ad0 C E H locs ad ls B hl => va_lald (t0 := 0) C.1 C.2.1 (z_K1.one C.2.2.2.2.2.2.2.2.1 B.2.2.2.2.2.1 hj) B.2.2.2.1 j (z_w_at B.1 hj).2 rfl hin hd (k p l e s m args below meth c Q D dA b A ad0 C E H locs ad ls B hl)
theorem ev_iast {j n : Nat} {f : Nat → Int32} {i : Int32} {x : Int32} (hd : decode M.2.1 pc = .ok (.iastore, 1)) (hj : w[j]? = some (.inl (.int, n, .inl f))) (hin : vp_in i n) (k : Ev M X r wf (pc + 1) lv st (w.set j (.inl (.int, n, .inl (upd f i.toNatClampNeg x)))) nc ns) : Ev M X r wf pc lv (.int x :: .int i :: .ref j :: st) w nc ns := fun p l e s m args below meth c Q D dA b A ad0 C E H locs ad ls B hl => va_iast (t0 := 0) C.1 C.2.1 (z_K1.one C.2.2.2.2.2.2.2.2.1 B.2.2.2.2.2.1 hj) B.2.2.2.1 B.2.2.2.2.1 B.2.2.2.2.2.2 j (z_w_at B.1 hj).2 rfl hin hd (fun H1 locs1 hP hD hS => k p l e s m args below meth c Q D dA b A ad0 C E H1 locs1 ad ls ⟨by rw [List.length_set]; exact B.1, B.2.1, B.2.2.1, by rw [← z_w_set B.1 hj]; exact hP, by rw [← z_w_set B.1 hj]; exact hD, z_K1.set B.2.2.2.2.2.1 (fun ty a h => by cases h; exact ⟨j, _, hj⟩), hS⟩ hl)
theorem ev_zast {j n : Nat} {f : Nat → Int32} {i : Int32} {x : Int32} (hd : decode M.2.1 pc = .ok (.bastore, 1)) (hj : w[j]? = some (.inl (.boolean, n, .inl f))) (hin : vp_in i n) (k : Ev M X r wf (pc + 1) lv st (w.set j (.inl (.boolean, n, .inl (upd f i.toNatClampNeg (vp_nar .boolean x))))) nc ns) : Ev M X r wf pc lv (.int x :: .int i :: .ref j :: st) w nc ns := fun p l e s m args below meth c Q D dA b A ad0 C E H locs ad ls B hl => va_zast (t0 := 0) C.1 C.2.1 (z_K1.one C.2.2.2.2.2.2.2.2.1 B.2.2.2.2.2.1 hj) B.2.2.2.1 B.2.2.2.2.1 B.2.2.2.2.2.2 j (z_w_at B.1 hj).2 rfl hin hd (fun H1 locs1 hP hD hS => k p l e s m args below meth c Q D dA b A ad0 C E H1 locs1 ad ls ⟨by rw [List.length_set]; exact B.1, B.2.1, B.2.2.1, by rw [← z_w_set B.1 hj]; exact hP, by rw [← z_w_set B.1 hj]; exact hD, z_K1.set B.2.2.2.2.2.1 (fun ty a h => by cases h; exact ⟨j, _, hj⟩), hS⟩ hl)
theorem ev_last {j n : Nat} {f : Nat → Int64} {i : Int32} {x : Int64} (hd : decode M.2.1 pc = .ok (.lastore, 1)) (hj : w[j]? = some (.inl (.long, n, .inr (.inl f)))) (hin : vp_in i n) (k : Ev M X r wf (pc + 1) lv st (w.set j (.inl (.long, n, .inr (.inl (vp_updL f i.toNatClampNeg x))))) nc ns) : Ev M X r wf pc lv (.long x :: .int i :: .ref j :: st) w nc ns := fun p l e s m args below meth c Q D dA b A ad0 C E H locs ad ls B hl => va_last (t0 := 0) C.1 C.2.1 (z_K1.one C.2.2.2.2.2.2.2.2.1 B.2.2.2.2.2.1 hj) B.2.2.2.1 B.2.2.2.2.1 B.2.2.2.2.2.2 j (z_w_at B.1 hj).2 rfl hin hd (fun H1 locs1 hP hD hS => k p l e s m args below meth c Q D dA b A ad0 C E H1 locs1 ad ls ⟨by rw [List.length_set]; exact B.1, B.2.1, B.2.2.1, by rw [← z_w_set B.1 hj]; exact hP, by rw [← z_w_set B.1 hj]; exact hD, z_K1.set B.2.2.2.2.2.1 (fun ty a h => by cases h; exact ⟨j, _, hj⟩), hS⟩ hl)
theorem ev_alen {j : Nat} {ty : FieldType} {x : vp_A} {v : Int32} (hd : decode M.2.1 pc = .ok (.arraylength, 1)) (hj : w[j]? = some (.inl (ty, x))) (hv : Int32.ofNat x.1 = v) (k : Ev M X r wf (pc + 1) lv (.int v :: st) w nc ns) : Ev M X r wf pc lv (.ref j :: st) w nc ns := fun p l e s m args below meth c Q D dA b A ad0 C E H locs ad ls B hl => va_alen (t0 := 0) C.1 C.2.1 (z_K1.one C.2.2.2.2.2.2.2.2.1 B.2.2.2.2.2.1 hj) B.2.2.2.1 j (z_w_at B.1 hj).2 rfl hv hd (k p l e s m args below meth c Q D dA b A ad0 C E H locs ad ls B hl)
/-- the script of the law: the place 1000000 -/
theorem z_far {D : va_G} {dA : FieldType → ClassId} {b : Nat} {ad0 ad : List Nat} {s : State} {H : Heap} {locs : List Loc} {A : Nat → Prop} (B : zB D dA b ad0 ad w s H locs A) : ad.getD 1000000 b = b := by
  rw [List.getD_eq_getElem?_getD, List.getElem?_eq_none (Nat.le_of_lt B.2.1)]
  rfl
theorem ev_sld {L : Nat} {xs : Nat → Int32} {i : Int32} (hd : decode M.2.1 pc = .ok (.iaload, 1)) (hin : vp_in i L) (k : Ev M (some (L, xs)) r wf (pc + 1) lv (.int (xs i.toNatClampNeg) :: st) w nc ns) : Ev M (some (L, xs)) r wf pc lv (.int i :: .ref 1000000 :: st) w nc ns := fun p l e s m args below meth c Q D dA b A ad0 C E H locs ad ls B hl => by
  obtain ⟨h1, h2, h3⟩ := C.2.2.2.2.2.2.2.1 L xs rfl
  show W _ _ _ _ _ _ _ _ _ _ _ _ _ _ _ (F0 m pc ls (.int i :: .ref (ad.getD 1000000 b) :: st.map (z_v b ad)))
  rw [z_far B]
  exact va_sld C.1 C.2.1 h1 h2 h3 B.2.2.2.2.2.2 hin hd (k p l e s m args below meth c Q D dA b A ad0 C E H locs ad ls B hl)
theorem ev_slen {L : Nat} {xs : Nat → Int32} (hd : decode M.2.1 pc = .ok (.arraylength, 1)) (k : Ev M (some (L, xs)) r wf (pc + 1) lv (.int (Int32.ofNat L) :: st) w nc ns) : Ev M (some (L, xs)) r wf pc lv (.ref 1000000 :: st) w nc ns := fun p l e s m args below meth c Q D dA b A ad0 C E H locs ad ls B hl => by
  obtain ⟨h1, h2, h3⟩ := C.2.2.2.2.2.2.2.1 L xs rfl
  show W _ _ _ _ _ _ _ _ _ _ _ _ _ _ _ (F0 m pc ls (.ref (ad.getD 1000000 b) :: st.map (z_v b ad)))
  rw [z_far B]
  exact va_slen C.1 C.2.1 h1 h2 h3 B.2.2.2.2.2.2 hd (k p l e s m args below meth c Q D dA b A ad0 C E H locs ad ls B hl)
/-- a field that an instruction of the class named own links: the k-th of the ci-th class -/
def zF (own : String) (idx ci k : Nat) : Prop := ∃ (C : String) (T : u_T) (N : Nat), vwCl[ci]? = some (C, T, N) ∧ k < N ∧ Cond.fieldLink own idx (T k).1 (T k).2.1 (T k).2.2.1 ∈ zG ∧ (∀ w ∈ u_ws C T N, w ∈ zG)
/-- and it may be written -/
def zFp (own : String) (idx ci k : Nat) (fin : Bool) (ty : FieldType) : Prop := ∃ (C : String) (T : u_T) (N : Nat) (ty0 : Nat → FieldType), vwCl[ci]? = some (C, T, N) ∧ k < N ∧ Cond.fieldLink own idx (T k).1 (T k).2.1 (T k).2.2.1 ∈ zG ∧ (∀ w ∈ u_ws C T N, w ∈ zG) ∧ (∀ k, k < N → parseFieldDescriptor (T k).2.2.1 = some (ty0 k)) ∧ (∀ a, a < N → ∀ b, b < N → a ≠ b → (T a).2.1 ≠ (T b).2.1) ∧ (T k).2.2.2 = fin ∧ (T k).1 = own ∧ parseFieldDescriptor (T k).2.2.1 = some ty
theorem ev_get {idx ci kf j : Nat} {fs : List Value} {v : Value} (hF : zF M.1.cls idx ci kf) (hd : decode M.2.1 pc = .ok (.getfield idx, 3)) (hj : w[j]? = some (.inr (ci, fs))) (hv : fs[kf]? = some v) (k : Ev M X r wf (pc + 3) lv (v :: st) w nc ns) : Ev M X r wf pc lv (.ref j :: st) w nc ns := fun p l e s m args below meth c Q D dA b A ad0 C E H locs ad ls B hl => by
  obtain ⟨Cn, T, N, h1, h2, h3, h4⟩ := hF
  exact va_get C.1 C.2.1 C.2.2.2.1 h4 C.2.2.2.2.1 C.2.2.2.2.2.2.2.2.1 B.2.2.2.1 j (z_w_at B.1 hj).2 h1 kf h2 (C.2.2.2.1 _ h3) (fun _ h9 => h9) (v := z_v b ad v) (by rw [List.getElem?_map, hv]; rfl) hd (k p l e s m args below meth c Q D dA b A ad0 C E H locs ad ls B hl)
theorem z_c_set {b : Nat} {ad : List Nat} {dA : FieldType → ClassId} {ci kf : Nat} {fs : List Value} {v : Value} : (Sum.inr (ci, (fs.map (z_v b ad)).set kf (z_v b ad v)) : va_E) = z_c b ad dA (.inr (ci, fs.set kf v)) := by
  show _ = Sum.inr (ci, (fs.set kf v).map (z_v b ad))
  rw [List.map_set]
theorem ev_put {idx ci kf j : Nat} {fs : List Value} {v : Value} {ty : FieldType} (hF : zFp M.1.cls idx ci kf false ty) (hd : decode M.2.1 pc = .ok (.putfield idx, 3)) (hj : w[j]? = some (.inr (ci, fs))) (hn : ∀ (b : Nat) (ad : List Nat), narrow ty (z_v b ad v) = z_v b ad v ∧ fits ty (z_v b ad v) = true) (hk : kf < fs.length) (k : Ev M X r wf (pc + 3) lv st (w.set j (.inr (ci, fs.set kf v))) nc ns) : Ev M X r wf pc lv (v :: .ref j :: st) w nc ns := fun p l e s m args below meth c Q D dA b A ad0 C E H locs ad ls B hl => by
  obtain ⟨Cn, T, N, ty0, h1, h2, h3, h4, h5, h6, h7, h8, h9⟩ := hF
  refine va_put C.1 C.2.1 C.2.2.2.1 h4 ty0 h5 h6 C.2.2.2.2.1 C.2.2.2.2.2.2.2.2.1 B.2.2.2.1 B.2.2.2.2.1 B.2.2.2.2.2.2 j (z_w_at B.1 hj).2 h1 kf h2 (C.2.2.2.1 _ h3) (fun _ h9 => h9) h7 h9 (hn b ad).1 (hn b ad).2 (by rw [List.length_map]; exact hk) hd (fun H1 locs1 hP hD hS => ?_)
  rw [z_c_set (dA := dA)] at hP hD
  exact k p l e s m args below meth c Q D dA b A ad0 C E H1 locs1 ad ls ⟨by rw [List.length_set]; exact B.1, B.2.1, B.2.2.1, by rw [← z_w_set B.1 hj]; exact hP, by rw [← z_w_set B.1 hj]; exact hD, z_K1.set B.2.2.2.2.2.1 (fun ty a h => by cases h), hS⟩ hl
theorem ev_putF {idx ci kf j : Nat} {fs : List Value} {v : Value} {ty : FieldType} (hF : zFp M.1.cls idx ci kf true ty) (hi : M.1.name = "<init>") (hd : decode M.2.1 pc = .ok (.putfield idx, 3)) (hj : w[j]? = some (.inr (ci, fs))) (hn : ∀ (b : Nat) (ad : List Nat), narrow ty (z_v b ad v) = z_v b ad v ∧ fits ty (z_v b ad v) = true) (hk : kf < fs.length) (k : Ev M X r wf (pc + 3) lv st (w.set j (.inr (ci, fs.set kf v))) nc ns) : Ev M X r wf pc lv (v :: .ref j :: st) w nc ns := fun p l e s m args below meth c Q D dA b A ad0 C E H locs ad ls B hl => by
  obtain ⟨Cn, T, N, ty0, h1, h2, h3, h4, h5, h6, h7, h8, h9⟩ := hF
  refine va_putF C.1 C.2.1 C.2.2.2.1 h4 ty0 h5 h6 C.2.2.2.2.1 C.2.2.2.2.2.2.2.2.1 B.2.2.2.1 B.2.2.2.2.1 B.2.2.2.2.2.2 j (z_w_at B.1 hj).2 h1 kf h2 (C.2.2.2.1 _ h3) (fun _ h9 => h9) h7 (C.2.2.2.2.2.1.trans hi) h8 h9 (hn b ad).1 (hn b ad).2 (by rw [List.length_map]; exact hk) hd (fun H1 locs1 hP hD hS => ?_)
  rw [z_c_set (dA := dA)] at hP hD
  exact k p l e s m args below meth c Q D dA b A ad0 C E H1 locs1 ad ls ⟨by rw [List.length_set]; exact B.1, B.2.1, B.2.2.1, by rw [← z_w_set B.1 hj]; exact hP, by rw [← z_w_set B.1 hj]; exact hD, z_K1.set B.2.2.2.2.2.1 (fun ty a h => by cases h), hS⟩ hl
/-- a class that an instruction makes an object of -/
def zNew (own : String) (idx ci : Nat) (fs : List Value) : Prop := ∃ (C : String) (T : u_T) (ty0 : Nat → FieldType), vwCl[ci]? = some (C, T, fs.length) ∧ (∀ w ∈ u_ws C T fs.length, w ∈ zG) ∧ (∀ k, k < fs.length → parseFieldDescriptor (T k).2.2.1 = some (ty0 k)) ∧ Cond.classLink own idx C ∈ zG ∧ Cond.instantiable C fs.length ∈ zG ∧ Cond.initialized C ∈ zG ∧ (∀ j, j < fs.length → defaultValue (ty0 j) = vp_V fs j)
theorem z_more {b : Nat} {ad : List Nat} {q : Nat} {ls : Array Slot} {n : Nat} (hb : ad.length + 1 < 1000000) (hlv : lv.all (fun q => z_ok ad.length q.2) = true) (hl : lv_has ls n (lv.map (fun q => (q.1, z_v b ad q.2)))) : lv_has ls n (lv.map (fun x => (x.1, z_v b (ad ++ [q]) x.2))) := by
  have h : lv.map (fun x => (x.1, z_v b (ad ++ [q]) x.2)) = lv.map (fun q => (q.1, z_v b ad q.2)) := by
    apply List.map_congr_left
    intro x hx
    rw [z_v_more hb (List.all_eq_true.mp hlv x hx)]
  rw [h]
  exact hl
theorem z_at_new {b : Nat} {ad : List Nat} {q : Nat} : (ad ++ [q]).getD ad.length b = q := by
  rw [List.getD_eq_getElem?_getD, List.getElem?_append_right (Nat.le_refl _), Nat.sub_self]
  rfl
theorem ev_new {idx ci : Nat} {fs : List Value} (hN : zNew M.1.cls idx ci fs) (hd : decode M.2.1 pc = .ok (.new idx, 3)) (hfs : fs.all z_nr = true) (hlen : w.length + 1 < 1000000) (hw : w.all (z_okc w.length) = true) (hlv : lv.all (fun q => z_ok w.length q.2) = true) (hst : st.all (z_ok w.length) = true) (hc : nc + 1 ≤ M.2.2.2.2.cells) (hs : ns + fs.length ≤ M.2.2.2.2.slots) (k : Ev M X r wf (pc + 3) lv (.ref w.length :: st) (w ++ [.inr (ci, fs)]) (nc + 1) (ns + fs.length)) : Ev M X r wf pc lv st w nc ns := fun p l e s m args below meth c Q D dA b A ad0 C E H locs ad ls B hl => by
  obtain ⟨Cn, T, ty0, h1, h2, h3, h4, h5, h6, h7⟩ := hN
  refine va_new C.1 C.2.1 C.2.2.2.1 h2 ty0 h3 C.2.2.2.2.1 (C.2.2.2.1 _ h4) (C.2.2.2.1 _ h5) (C.2.2.2.1 _ h6) C.2.2.2.2.2.2.2.2.1 B.2.2.2.1 B.2.2.2.2.1 B.2.2.2.2.2.2 C.2.2.2.2.2.2.1 h1 h7 hc hs hd (fun q H1 hP hD hS => ?_)
  have hb : ad.length + 1 < 1000000 := by rw [B.1]; exact hlen
  have hm : fs.map (z_v b (ad ++ [q])) = fs := by
    have : ∀ v ∈ fs, z_v b (ad ++ [q]) v = v := by
      intro v hv
      have h := List.all_eq_true.mp hfs v hv
      cases v with
      | ref j => cases h
      | _ => rfl
    exact (List.map_congr_left this).trans (List.map_id _)
  have e1 := z_w_push (b := b) (q := q) (dA := dA) (c := .inr (ci, fs)) B.1 hb hw
  have e2 : z_c b (ad ++ [q]) dA (.inr (ci, fs)) = .inr (ci, fs) := by
    show Sum.inr (ci, fs.map (z_v b (ad ++ [q]))) = Sum.inr (ci, fs)
    rw [hm]
  rw [e2] at e1
  have k1 := k p l e s m args below meth c Q D dA b A ad0 C E H1 locs (ad ++ [q]) ls ⟨by rw [List.length_append, List.length_append, B.1]; rfl, by rw [List.length_append]; exact hb, by obtain ⟨ad2, h⟩ := B.2.2.1; exact ⟨ad2 ++ [q], by rw [h, List.append_assoc]⟩, by rw [e1]; exact hP, by rw [e1]; exact hD, ?_, hS⟩ (z_more hb (by rw [B.1]; exact hlv) hl)
  · rw [List.map_cons, z_map_more hb (by rw [B.1]; exact hst)] at k1
    have e3 : z_v b (ad ++ [q]) (.ref w.length) = .ref q := by
      show Value.ref _ = Value.ref _
      rw [← B.1, z_at_new]
    rw [e3] at k1
    exact k1
  · intro j ty a hj
    rw [List.getElem?_append] at hj
    split at hj
    · exact B.2.2.2.2.2.1 j ty a hj
    · have hz := (List.getElem?_eq_some_iff.mp hj).1
      rw [show j - w.length = 0 by simp at hz; omega] at hj
      cases hj
theorem ev_newa {atype : ArrayType} {ty : FieldType} {n : Int32} {N : Nat} {a0 : vp_A} (hW : Cond.arrayClass ty ∈ zG) (hty : newarray.typeOf atype = ty) (ha : ∀ cA : ClassId, vp_cell cA a0 = arrV cA N (fun _ => defaultValue ty)) (hn : ¬ n < 0) (hN : n.toNatClampNeg = N) (hbytes : N * componentBytes ty ≤ 536870912) (hprim : ∀ (U : State) (cA : ClassId), va_RA U cA ty → U.vm.findClass ("[" ++ ty.toString) = some cA) (hd : decode M.2.1 pc = .ok (.newarray atype, 2)) (hlen : w.length + 1 < 1000000) (hw : w.all (z_okc w.length) = true) (hlv : lv.all (fun q => z_ok w.length q.2) = true) (hst : st.all (z_ok w.length) = true) (hc : nc + 1 ≤ M.2.2.2.2.cells) (hs : ns + N ≤ M.2.2.2.2.slots) (k : Ev M X r wf (pc + 2) lv (.ref w.length :: st) (w ++ [.inl (ty, a0)]) (nc + 1) (ns + N)) : Ev M X r wf pc lv (.int n :: st) w nc ns := fun p l e s m args below meth c Q D dA b A ad0 C E H locs ad ls B hl => by
  refine va_newa C.1 C.2.1 (by rw [hty]; exact C.2.2.2.1 _ hW) hty C.2.2.2.2.2.2.2.2.1 B.2.2.2.1 B.2.2.2.2.1 B.2.2.2.2.2.2 C.2.2.2.2.2.2.1 ha hn hN hbytes hc hs hd (fun q cA H1 hK hP hD hS => ?_)
  have hb : ad.length + 1 < 1000000 := by rw [B.1]; exact hlen
  have hKc := hK.2 0 (cA, ty) rfl
  have hcA : cA = dA ty := C.2.2.2.2.2.2.2.2.2.1 ty cA (hprim s cA hKc.2)
  subst hcA
  have e1 := z_w_push (b := b) (q := q) (dA := dA) (c := .inl (ty, a0)) B.1 hb hw
  have k1 := k p l e s m args below meth c Q D dA b A ad0 C E H1 locs (ad ++ [q]) ls ⟨by rw [List.length_append, List.length_append, B.1]; rfl, by rw [List.length_append]; exact hb, by obtain ⟨ad2, h⟩ := B.2.2.1; exact ⟨ad2 ++ [q], by rw [h, List.append_assoc]⟩, by rw [e1]; exact hP, by rw [e1]; exact hD, ?_, hS⟩ (z_more hb (by rw [B.1]; exact hlv) hl)
  · rw [List.map_cons, z_map_more hb (by rw [B.1]; exact hst)] at k1
    have e3 : z_v b (ad ++ [q]) (.ref w.length) = .ref q := by
      show Value.ref _ = Value.ref _
      rw [← B.1, z_at_new]
    rw [e3] at k1
    exact k1
  · intro j ty' a hj
    rw [List.getElem?_append] at hj
    split at hj
    · exact B.2.2.2.2.2.1 j ty' a hj
    · have hz := (List.getElem?_eq_some_iff.mp hj).1
      rw [show j - w.length = 0 by simp at hz; omega] at hj
      cases hj
      exact hKc
/-- the callee's words, and that it may be called from the class named own -/
def zCb (M' : zM) (n : Nat) : Prop := Cond.code M'.1 M'.2.1 M'.2.2.1 M'.2.2.2.1 ∈ zG ∧ Cond.initialized M'.1.cls ∈ zG ∧ M'.1.cls ≠ "java/lang/invoke/MethodHandle" ∧ M'.1.cls ≠ "java/lang/invoke/VarHandle" ∧ (parseMethodDescriptor M'.1.desc).map (fun d => d.parameters.length) = some n
def zLk (own : String) (idx : Nat) (y : MethodName) : Prop := Cond.methodLink own idx y ∈ zG ∨ ∃ host : String, Cond.methodLinkNest own idx y host ∈ zN
def zV (own : String) (idx ci : Nat) (M' : zM) (n : Nat) : Prop := zCb M' n ∧ zLk own idx M'.1 ∧ Cond.instanceMethod M'.1 ∈ zG ∧ Cond.selects M'.1.cls M'.1 M'.1 ∈ zG ∧ ∃ (T : u_T) (N : Nat), vwCl[ci]? = some (M'.1.cls, T, N)
def zS (own : String) (idx : Nat) (M' : zM) (n : Nat) : Prop := zCb M' n ∧ zLk own idx M'.1 ∧ Cond.static M'.1 ∈ zG
def zI (own : String) (idx : Nat) (M' : zM) (n : Nat) : Prop := zCb M' n ∧ zLk own idx M'.1 ∧ Cond.instanceMethod M'.1 ∈ zG ∧ M'.1.name = "<init>" ∧ M'.2.2.2.1 = none
abbrev zRm (M M' : zM) (nc ns : Nat) : Prop := (M'.2.2.2.2.frames + 1 ≤ M.2.2.2.2.frames ∧ 8 + (M'.2.2.1 + 11) + M'.2.2.2.2.locals ≤ M.2.2.2.2.locals) ∧ nc + M'.2.2.2.2.cells ≤ M.2.2.2.2.cells ∧ ns + M'.2.2.2.2.slots ≤ M.2.2.2.2.slots
theorem z_blind {D : va_G} {dA : FieldType → ClassId} {b : Nat} {ad : List Nat} {sz : Nat} {av : List Value} : FrameBlind (va_Pc av (z_P D dA b ad w sz)) := by
  intro a U g mk q
  obtain ⟨q0, q1, qP, qK0, qK1, qD⟩ := q
  exact ⟨q0, q1, qP, z_K0.same (s := U) (U := U.calling g mk a) rfl qK0, z_K1.moved (s := U) (U := U.calling g mk a) (Vm.Alike.refl U.vm) qK1, qD⟩
theorem z_pre {D : va_G} {dA : FieldType → ClassId} {b : Nat} {ad0 ad : List Nat} {s : State} {H : Heap} {locs : List Loc} {A : Nat → Prop} {as : List Value} (B : zB D dA b ad0 ad w s H locs A) (hK : z_K0 D dA s) : ∀ U : State, U.heap = H → s.WarmedH U.vm → va_Pc (as.map (z_v b ad)) (z_P D dA b ad w H.size) (as.map (z_v b ad)).toArray U := by
  intro U hU hW
  refine ⟨rfl, by rw [hU], by rw [hU]; exact B.2.2.2.1, z_K0.moved hW hK, z_K1.moved hW.alike B.2.2.2.2.2.1, B.2.2.2.2.1.weaken (fun _ _ _ _ => trivial)⟩
theorem z_back {p : Program} {l : Launch} {e : Env} {R : Room} {s : State} {m : MethodId} {args : Array Value} {below : List Frame} {meth : Method} {c : Code} {H : Heap} {locs : List Loc} {cells slots mc ms : Nat} {Q : State → Prop} {D : va_G} {dA : FieldType → ClassId} {b : Nat} {ad0 ad : List Nat} {A : Nat → Prop} {ls : Array Slot} {st0 rest : List Value} {r1 : Option Value} {w1 : zW} {a : Array Value}
    (hr : va_Run p l e R s m args below meth c H locs cells slots mc ms (F0 m pc ls st0) rest (z_Q D dA b ad w H.size r1 w1 a) (va_A (z_w b ad dA w) H.size)) (hA : ∀ q, s.heap.size ≤ q → A q) (B : zB D dA b ad0 ad w s H locs A)
    (kk : ∀ (H1 : Heap) (locs1 : List Loc) (ad' : List Nat), (∃ ad2, ad' = ad ++ ad2) → zB D dA b ad0 ad' w1 s H1 locs1 A → W p l e R s m args below meth c H1 locs1 (cells + mc) (slots + ms) Q (F0 m (pc + 3) ls ((r1.map (z_v b ad')).toList ++ rest))) : W p l e R s m args below meth c H locs cells slots Q (F0 m pc ls st0) := by
  intro T hT X
  obtain ⟨v, st₀, t, T', L, h0, X', hL, e1, e2, ⟨⟨ad', hp, g1, g2, hv, hP1, hK1, hD1⟩, hz, hk⟩, st⟩ := hr T hT X
  cases hv
  rw [h0] at hz hk
  have hF : ∀ q, va_A (z_w b ad dA w) H.size q → A q := by
    intro q hq
    rcases hq with ⟨k, e, h⟩ | h
    · exact B.2.2.2.2.1.2 k (q, e) h
    · exact hA q (Nat.le_trans B.2.2.2.2.2.2.1 h)
  have hS := B.2.2.2.2.2.2
  obtain ⟨t2, a1, b1⟩ := kk T'.heap (locs ++ L) ad' hp ⟨g1, g2, by obtain ⟨x, hx⟩ := B.2.2.1; obtain ⟨y, hy⟩ := hp; exact ⟨x ++ y, by rw [hy, hx, List.append_assoc]⟩, by rw [e1]; exact hP1, hD1.weaken (fun _ q _ h => hF q.1 h), z_K1.moved (by have h := X'.warmed.alike; rw [e2] at h; exact h.symm) hK1,
    ⟨Nat.le_trans hS.1 (by rw [e1]; exact hz), fun q h1 h2 => by rw [e1, hk q (Nat.lt_of_lt_of_le h1 hS.1) (fun z => h2 (hF q z))]; exact hS.2.1 q h1 h2, fun q hq => by
      rcases List.mem_append.mp hq with h | h
      · exact hS.2.2 q h
      · exact hF _ (hL q h)⟩⟩ T' rfl X'
  exact ⟨t2, st t2 a1, b1⟩
theorem ev_callV (M' : zM) (As : List Value) {n idx : Nat} {ci j : Nat} {fs : List Value}  {r1 : Option Value} {w1 : zW} (hs : Sp M' (.ref j :: As) w r1 w1) (hz : zV M.1.cls idx ci M' n) (hd : decode M.2.1 pc = .ok (.invokevirtual idx, 3)) (hj : w[j]? = some (.inr (ci, fs))) (hn : As.length = n) (hR : zRm M M' nc ns) (hcat : (st.map fun v => v.category).sum ≤ 8) (h0 : M'.2.2.2.2.cells = 0 ∧ M'.2.2.2.2.slots = 0) (hlen : w1.length = w.length) (k : Ev M X r wf (pc + 3) lv (r1.toList ++ st) w1 nc ns) : Ev M X r wf pc lv (As.reverse ++ .ref j :: st) w nc ns := fun p l e s m args below meth c Q D dA b A ad0 C E H locs ad ls B hl => by
  obtain ⟨⟨c1, c2, c3, c4, c5⟩, c6, c7, c8, Tt, Nn, c9⟩ := hz
  have hsum : ((st.map (z_v b ad)).map fun v => v.category).sum ≤ 8 := by
    have h : (st.map (z_v b ad)).map (fun v => v.category) = st.map (fun v => v.category) := by
      rw [List.map_map]
      apply List.map_congr_left
      intro v _
      exact z_v_cat b ad v
    rw [h]
    exact hcat
  refine z_back (mc := M'.2.2.2.2.cells) (ms := M'.2.2.2.2.slots) (ad0 := ad0) (r1 := r1) (w1 := w1) (rest := st.map (z_v b ad)) (a := ((.ref j :: As).map (z_v b ad)).toArray) ?_ C.2.2.2.2.2.2.1 B (fun H1 locs1 ad' hp B' => ?_)
  · rcases c6 with c6 | ⟨host, c6⟩
    · exact va_runV (n := n) (As := As.map (z_v b ad)) (rest := st.map (z_v b ad)) (b := ad.getD j b) ⟨C.1, C.2.1, C.2.2.1, C.2.2.2.2.1, C.2.2.2.1⟩ (hs l D dA b ad H.size B.1 B.2.1) ⟨callB_of n C.2.2.2.1 (z_goodIn c1) rfl rfl rfl (C.2.2.2.1 _ c2) (C.2.2.2.1 _ c6) ⟨c3, c4, c5⟩ hR.1, C.2.2.2.1 _ c7, C.2.2.2.1 _ c8⟩ ⟨z_blind, va_recv C.2.2.2.2.2.2.2.2.1 B.2.2.2.1 c9 (z_w_at B.1 hj).2, z_pre (as := .ref j :: As) B C.2.2.2.2.2.2.2.2⟩ rfl (by rw [List.length_map]; exact hn) hl.1 (by rw [List.map_append, List.map_reverse] <;> rfl) (lv_room hsum) hd hR.2
    · exact va_runVN (n := n) (As := As.map (z_v b ad)) (rest := st.map (z_v b ad)) (b := ad.getD j b) ⟨C.1, C.2.1, C.2.2.1, C.2.2.2.2.1, C.2.2.2.1⟩ (hs l D dA b ad H.size B.1 B.2.1) ⟨va_cnB n C.2.2.2.1 (z_goodIn c1) rfl rfl rfl (C.2.2.2.2.2.2.2.2.2.2 _ c6) (C.2.2.2.1 _ c2) ⟨c3, c4, c5⟩ hR.1, C.2.2.2.1 _ c7, C.2.2.2.1 _ c8⟩ ⟨z_blind, va_recv C.2.2.2.2.2.2.2.2.1 B.2.2.2.1 c9 (z_w_at B.1 hj).2, z_pre (as := .ref j :: As) B C.2.2.2.2.2.2.2.2⟩ rfl (by rw [List.length_map]; exact hn) hl.1 (by rw [List.map_append, List.map_reverse] <;> rfl) (lv_room hsum) hd hR.2
  obtain ⟨ad2, rfl⟩ := hp
  have h0 : ad2 = [] := by
    have := B'.1
    rw [List.length_append, hlen, B.1] at this
    exact List.length_eq_zero_iff.mp (by omega)
  subst h0
  rw [List.append_nil] at B' ⊢
  have k1 := k p l e s m args below meth c Q D dA b A ad0 C E H1 locs1 ad ls B' hl
  have e9 : ((r1.map (z_v b ad)).toList ++ st.map (z_v b ad)) = (r1.toList ++ st).map (z_v b ad) := by
    cases r1 <;> simp
  rw [e9, h0.1, h0.2]
  exact k1
theorem ev_callS (M' : zM) (As : List Value) {n idx : Nat}  {r1 : Option Value} {w1 : zW} (hs : Sp M' (As) w r1 w1) (hz : zS M.1.cls idx M' n) (hd : decode M.2.1 pc = .ok (.invokestatic idx, 3)) (hn : As.length = n) (hR : zRm M M' nc ns) (hcat : (st.map fun v => v.category).sum ≤ 8) (h0 : M'.2.2.2.2.cells = 0 ∧ M'.2.2.2.2.slots = 0) (hlen : w1.length = w.length) (k : Ev M X r wf (pc + 3) lv (r1.toList ++ st) w1 nc ns) : Ev M X r wf pc lv (As.reverse ++ st) w nc ns := fun p l e s m args below meth c Q D dA b A ad0 C E H locs ad ls B hl => by
  obtain ⟨⟨c1, c2, c3, c4, c5⟩, c6, c7⟩ := hz
  have hsum : ((st.map (z_v b ad)).map fun v => v.category).sum ≤ 8 := by
    have h : (st.map (z_v b ad)).map (fun v => v.category) = st.map (fun v => v.category) := by
      rw [List.map_map]
      apply List.map_congr_left
      intro v _
      exact z_v_cat b ad v
    rw [h]
    exact hcat
  refine z_back (mc := M'.2.2.2.2.cells) (ms := M'.2.2.2.2.slots) (ad0 := ad0) (r1 := r1) (w1 := w1) (rest := st.map (z_v b ad)) (a := ((As).map (z_v b ad)).toArray) ?_ C.2.2.2.2.2.2.1 B (fun H1 locs1 ad' hp B' => ?_)
  · rcases c6 with c6 | ⟨host, c6⟩
    · exact va_runS (n := n) (As := As.map (z_v b ad)) (rest := st.map (z_v b ad)) ⟨C.1, C.2.1, C.2.2.1, C.2.2.2.2.1, C.2.2.2.1⟩ (hs l D dA b ad H.size B.1 B.2.1) ⟨callB_of n C.2.2.2.1 (z_goodIn c1) rfl rfl rfl (C.2.2.2.1 _ c2) (C.2.2.2.1 _ c6) ⟨c3, c4, c5⟩ hR.1, C.2.2.2.1 _ c7⟩ ⟨z_blind, z_pre (as := As) B C.2.2.2.2.2.2.2.2⟩ rfl (by rw [List.length_map]; exact hn) hl.1 (by rw [List.map_append, List.map_reverse] <;> rfl) (lv_room hsum) hd hR.2
    · exact va_runSN (n := n) (As := As.map (z_v b ad)) (rest := st.map (z_v b ad)) ⟨C.1, C.2.1, C.2.2.1, C.2.2.2.2.1, C.2.2.2.1⟩ (hs l D dA b ad H.size B.1 B.2.1) ⟨va_cnB n C.2.2.2.1 (z_goodIn c1) rfl rfl rfl (C.2.2.2.2.2.2.2.2.2.2 _ c6) (C.2.2.2.1 _ c2) ⟨c3, c4, c5⟩ hR.1, C.2.2.2.1 _ c7, trivial⟩ ⟨z_blind, z_pre (as := As) B C.2.2.2.2.2.2.2.2⟩ rfl (by rw [List.length_map]; exact hn) hl.1 (by rw [List.map_append, List.map_reverse] <;> rfl) (lv_room hsum) hd hR.2
  obtain ⟨ad2, rfl⟩ := hp
  have h0 : ad2 = [] := by
    have := B'.1
    rw [List.length_append, hlen, B.1] at this
    exact List.length_eq_zero_iff.mp (by omega)
  subst h0
  rw [List.append_nil] at B' ⊢
  have k1 := k p l e s m args below meth c Q D dA b A ad0 C E H1 locs1 ad ls B' hl
  have e9 : ((r1.map (z_v b ad)).toList ++ st.map (z_v b ad)) = (r1.toList ++ st).map (z_v b ad) := by
    cases r1 <;> simp
  rw [e9, h0.1, h0.2]
  exact k1
theorem ev_callI (M' : zM) (As : List Value) {n idx : Nat} {j : Nat}  {w1 : zW} (hs : Sp M' (.ref j :: As) w none w1) (hz : zI M.1.cls idx M' n) (hd : decode M.2.1 pc = .ok (.invokespecial idx, 3)) (hn : As.length = n) (hR : zRm M M' nc ns) (hcat : (st.map fun v => v.category).sum ≤ 8) (hlen : w1.length = w.length) (k : Ev M X r wf (pc + 3) lv (st) w1 (nc + M'.2.2.2.2.cells) (ns + M'.2.2.2.2.slots)) : Ev M X r wf pc lv (As.reverse ++ .ref j :: st) w nc ns := fun p l e s m args below meth c Q D dA b A ad0 C E H locs ad ls B hl => by
  obtain ⟨⟨c1, c2, c3, c4, c5⟩, c6, c7, c8, c9⟩ := hz
  have hsum : ((st.map (z_v b ad)).map fun v => v.category).sum ≤ 8 := by
    have h : (st.map (z_v b ad)).map (fun v => v.category) = st.map (fun v => v.category) := by
      rw [List.map_map]
      apply List.map_congr_left
      intro v _
      exact z_v_cat b ad v
    rw [h]
    exact hcat
  refine z_back (mc := M'.2.2.2.2.cells) (ms := M'.2.2.2.2.slots) (ad0 := ad0) (r1 := none) (w1 := w1) (rest := st.map (z_v b ad)) (a := ((.ref j :: As).map (z_v b ad)).toArray) ?_ C.2.2.2.2.2.2.1 B (fun H1 locs1 ad' hp B' => ?_)
  · rcases c6 with c6 | ⟨host, c6⟩
    · exact va_runI (n := n) (As := As.map (z_v b ad)) (rest := st.map (z_v b ad)) (b := ad.getD j b) ⟨C.1, C.2.1, C.2.2.1, C.2.2.2.2.1, C.2.2.2.1⟩ (hs l D dA b ad H.size B.1 B.2.1) ⟨(by rw [← c9]; exact callB_of n C.2.2.2.1 (z_goodIn c1) rfl rfl rfl (C.2.2.2.1 _ c2) (C.2.2.2.1 _ c6) ⟨c3, c4, c5⟩ hR.1), c8, C.2.2.2.1 _ c7⟩ ⟨z_blind, z_pre (as := .ref j :: As) B C.2.2.2.2.2.2.2.2⟩ rfl (by rw [List.length_map]; exact hn) hl.1 (by rw [List.map_append, List.map_reverse] <;> rfl) (lv_room hsum) hd hR.2
    · exact va_runIN (n := n) (As := As.map (z_v b ad)) (rest := st.map (z_v b ad)) (b := ad.getD j b) ⟨C.1, C.2.1, C.2.2.1, C.2.2.2.2.1, C.2.2.2.1⟩ (hs l D dA b ad H.size B.1 B.2.1) ⟨(by rw [← c9]; exact va_cnB n C.2.2.2.1 (z_goodIn c1) rfl rfl rfl (C.2.2.2.2.2.2.2.2.2.2 _ c6) (C.2.2.2.1 _ c2) ⟨c3, c4, c5⟩ hR.1), c8, C.2.2.2.1 _ c7⟩ ⟨z_blind, z_pre (as := .ref j :: As) B C.2.2.2.2.2.2.2.2⟩ rfl (by rw [List.length_map]; exact hn) hl.1 (by rw [List.map_append, List.map_reverse] <;> rfl) (lv_room hsum) hd hR.2
  obtain ⟨ad2, rfl⟩ := hp
  have h0 : ad2 = [] := by
    have := B'.1
    rw [List.length_append, hlen, B.1] at this
    exact List.length_eq_zero_iff.mp (by omega)
  subst h0
  rw [List.append_nil] at B' ⊢
  have k1 := k p l e s m args below meth c Q D dA b A ad0 C E H1 locs1 ad ls B' hl
  exact k1
theorem ev_callIG (M' : zM) (As : List Value) {n idx : Nat} {j : Nat}  {w1 : zW} (hs : Sp M' (.ref j :: As) w none w1) (hz : zI M.1.cls idx M' n) (hd : decode M.2.1 pc = .ok (.invokespecial idx, 3)) (hn : As.length = n) (hR : zRm M M' nc ns) (hcat : (st.map fun v => v.category).sum ≤ 8) (hlv : lv.all (fun q => z_ok w.length q.2) = true) (hst : st.all (z_ok w.length) = true) (k : Ev M X r wf (pc + 3) lv (st) w1 (nc + M'.2.2.2.2.cells) (ns + M'.2.2.2.2.slots)) : Ev M X r wf pc lv (As.reverse ++ .ref j :: st) w nc ns := fun p l e s m args below meth c Q D dA b A ad0 C E H locs ad ls B hl => by
  obtain ⟨⟨c1, c2, c3, c4, c5⟩, c6, c7, c8, c9⟩ := hz
  have hsum : ((st.map (z_v b ad)).map fun v => v.category).sum ≤ 8 := by
    have h : (st.map (z_v b ad)).map (fun v => v.category) = st.map (fun v => v.category) := by
      rw [List.map_map]
      apply List.map_congr_left
      intro v _
      exact z_v_cat b ad v
    rw [h]
    exact hcat
  refine z_back (mc := M'.2.2.2.2.cells) (ms := M'.2.2.2.2.slots) (ad0 := ad0) (r1 := none) (w1 := w1) (rest := st.map (z_v b ad)) (a := ((.ref j :: As).map (z_v b ad)).toArray) ?_ C.2.2.2.2.2.2.1 B (fun H1 locs1 ad' hp B' => ?_)
  · rcases c6 with c6 | ⟨host, c6⟩
    · exact va_runI (n := n) (As := As.map (z_v b ad)) (rest := st.map (z_v b ad)) (b := ad.getD j b) ⟨C.1, C.2.1, C.2.2.1, C.2.2.2.2.1, C.2.2.2.1⟩ (hs l D dA b ad H.size B.1 B.2.1) ⟨(by rw [← c9]; exact callB_of n C.2.2.2.1 (z_goodIn c1) rfl rfl rfl (C.2.2.2.1 _ c2) (C.2.2.2.1 _ c6) ⟨c3, c4, c5⟩ hR.1), c8, C.2.2.2.1 _ c7⟩ ⟨z_blind, z_pre (as := .ref j :: As) B C.2.2.2.2.2.2.2.2⟩ rfl (by rw [List.length_map]; exact hn) hl.1 (by rw [List.map_append, List.map_reverse] <;> rfl) (lv_room hsum) hd hR.2
    · exact va_runIN (n := n) (As := As.map (z_v b ad)) (rest := st.map (z_v b ad)) (b := ad.getD j b) ⟨C.1, C.2.1, C.2.2.1, C.2.2.2.2.1, C.2.2.2.1⟩ (hs l D dA b ad H.size B.1 B.2.1) ⟨(by rw [← c9]; exact va_cnB n C.2.2.2.1 (z_goodIn c1) rfl rfl rfl (C.2.2.2.2.2.2.2.2.2.2 _ c6) (C.2.2.2.1 _ c2) ⟨c3, c4, c5⟩ hR.1), c8, C.2.2.2.1 _ c7⟩ ⟨z_blind, z_pre (as := .ref j :: As) B C.2.2.2.2.2.2.2.2⟩ rfl (by rw [List.length_map]; exact hn) hl.1 (by rw [List.map_append, List.map_reverse] <;> rfl) (lv_room hsum) hd hR.2
  obtain ⟨ad2, rfl⟩ := hp
  have k1 := k p l e s m args below meth c Q D dA b A ad0 C E H1 locs1 (ad ++ ad2) ls B' (by
    have h : lv.map (fun x => (x.1, z_v b (ad ++ ad2) x.2)) = lv.map (fun q => (q.1, z_v b ad q.2)) := by
      apply List.map_congr_left
      intro x hx
      rw [z_over w.length B.1 B'.2.1 (List.all_eq_true.mp hlv x hx)]
    rw [h]
    exact hl)
  have hst' : st.map (z_v b (ad ++ ad2)) = st.map (z_v b ad) := by
    apply List.map_congr_left
    intro x hx
    rw [z_over w.length B.1 B'.2.1 (List.all_eq_true.mp hst x hx)]
  rw [hst'] at k1
  exact k1
theorem ev_objInit {idx j : Nat} (h1 : Cond.methodLink M.1.cls idx objectInit ∈ zG) (h2 : Cond.instanceMethod objectInit ∈ zG) (h3 : Cond.code objectInit ⟨#[0xb1]⟩ 1 none ∈ zG) (hd : decode M.2.1 pc = .ok (.invokespecial idx, 3)) (hf : 1 ≤ M.2.2.2.2.frames) (hlo : (st.map fun v => v.category).sum + 12 ≤ M.2.2.2.2.locals) (k : Ev M X r wf (pc + 3) lv st w nc ns) : Ev M X r wf pc lv (.ref j :: st) w nc ns := fun p l e s m args below meth c Q D dA b A ad0 C E H locs ad ls B hl => by
  have hsum : 2 * (F0 m pc ls ((Value.ref j :: st).map (z_v b ad))).monitorRoom + ((st.map (z_v b ad)).map fun v => v.category).sum + 12 ≤ M.2.2.2.2.locals := by
    have h : (st.map (z_v b ad)).map (fun v => v.category) = st.map (fun v => v.category) := by
      rw [List.map_map]
      apply List.map_congr_left
      intro v _
      exact z_v_cat b ad v
    rw [h]
    show 2 * 0 + _ + 12 ≤ _
    omega
  exact W.objInit C.1 C.2.1 C.2.2.2.2.1 (C.2.2.2.1 _ h1) (C.2.2.2.1 _ h2) (C.2.2.2.1 _ h3) rfl (by rw [C.2.2.1]; exact hl.1) (a := ad.getD j b) (rest := st.map (z_v b ad)) rfl hd hf hsum (k p l e s m args below meth c Q D dA b A ad0 C E H locs ad ls B hl)
theorem ev_mabs {idx : Nat} {x : Int32} (h1 : Cond.methodLink M.1.cls idx Lib.Math.abs.name ∈ zG) (h2 : Cond.static Lib.Math.abs.name ∈ zG) (h3 : Cond.initialized "java/lang/Math" ∈ zG) (h4 : Cond.code Lib.Math.abs.name Lib.Math.abs.code 1 (some .int) ∈ zG) (hd : decode M.2.1 pc = .ok (.invokestatic idx, 3)) (hf : 1 ≤ M.2.2.2.2.frames) (hlo : (st.map fun v => v.category).sum + 13 ≤ M.2.2.2.2.locals) (hc : nc ≤ M.2.2.2.2.cells) (hs : ns ≤ M.2.2.2.2.slots) (k : Ev M X r wf (pc + 3) lv (.int (if 0 ≤ x then x else 0 - x) :: st) w nc ns) : Ev M X r wf pc lv (.int x :: st) w nc ns := fun p l e s m args below meth c Q D dA b A ad0 C E H locs ad ls B hl => by
  have h : (st.map (z_v b ad)).map (fun v => v.category) = st.map (fun v => v.category) := by
    rw [List.map_map]
    apply List.map_congr_left
    intro v _
    exact z_v_cat b ad v
  exact va_mabs C.1 C.2.1 (C.2.2.1.trans hl.1.symm) C.2.2.2.2.1 (C.2.2.2.1 _ h1) (C.2.2.2.1 _ h2) (C.2.2.2.1 _ h3) (C.2.2.2.1 _ h4) hf (by rw [h]; exact hlo) hc hs hd (k p l e s m args below meth c Q D dA b A ad0 C E H locs ad ls B hl)
theorem ev_mmin {idx : Nat} {x y : Int32} (h1 : Cond.methodLink M.1.cls idx Lib.Math.min.name ∈ zG) (h2 : Cond.static Lib.Math.min.name ∈ zG) (h3 : Cond.initialized "java/lang/Math" ∈ zG) (h4 : Cond.code Lib.Math.min.name Lib.Math.min.code 2 (some .int) ∈ zG) (hd : decode M.2.1 pc = .ok (.invokestatic idx, 3)) (hf : 1 ≤ M.2.2.2.2.frames) (hlo : (st.map fun v => v.category).sum + 13 ≤ M.2.2.2.2.locals) (hc : nc ≤ M.2.2.2.2.cells) (hs : ns ≤ M.2.2.2.2.slots) (k : Ev M X r wf (pc + 3) lv (.int (if y < x then y else x) :: st) w nc ns) : Ev M X r wf pc lv (.int y :: .int x :: st) w nc ns := fun p l e s m args below meth c Q D dA b A ad0 C E H locs ad ls B hl => by
  have h : (st.map (z_v b ad)).map (fun v => v.category) = st.map (fun v => v.category) := by
    rw [List.map_map]
    apply List.map_congr_left
    intro v _
    exact z_v_cat b ad v
  exact va_mmin C.1 C.2.1 (C.2.2.1.trans hl.1.symm) C.2.2.2.2.1 (C.2.2.2.1 _ h1) (C.2.2.2.1 _ h2) (C.2.2.2.1 _ h3) (C.2.2.2.1 _ h4) hf (by rw [h]; exact hlo) hc hs hd (k p l e s m args below meth c Q D dA b A ad0 C E H locs ad ls B hl)
theorem ev_mmax {idx : Nat} {x y : Int32} (h1 : Cond.methodLink M.1.cls idx Lib.Math.max.name ∈ zG) (h2 : Cond.static Lib.Math.max.name ∈ zG) (h3 : Cond.initialized "java/lang/Math" ∈ zG) (h4 : Cond.code Lib.Math.max.name Lib.Math.max.code 2 (some .int) ∈ zG) (hd : decode M.2.1 pc = .ok (.invokestatic idx, 3)) (hf : 1 ≤ M.2.2.2.2.frames) (hlo : (st.map fun v => v.category).sum + 13 ≤ M.2.2.2.2.locals) (hc : nc ≤ M.2.2.2.2.cells) (hs : ns ≤ M.2.2.2.2.slots) (k : Ev M X r wf (pc + 3) lv (.int (if x < y then y else x) :: st) w nc ns) : Ev M X r wf pc lv (.int y :: .int x :: st) w nc ns := fun p l e s m args below meth c Q D dA b A ad0 C E H locs ad ls B hl => by
  have h : (st.map (z_v b ad)).map (fun v => v.category) = st.map (fun v => v.category) := by
    rw [List.map_map]
    apply List.map_congr_left
    intro v _
    exact z_v_cat b ad v
  exact va_mmax C.1 C.2.1 (C.2.2.1.trans hl.1.symm) C.2.2.2.2.1 (C.2.2.2.1 _ h1) (C.2.2.2.1 _ h2) (C.2.2.2.1 _ h3) (C.2.2.2.1 _ h4) hf (by rw [h]; exact hlo) hc hs hd (k p l e s m args below meth c Q D dA b A ad0 C E H locs ad ls B hl)
theorem ev_copyi {idx j0 j1 n0 n1 : Nat} {f g : Nat → Int32} {sp dp n : Int32} (h1 : Cond.methodLink M.1.cls idx arraycopyName ∈ zG) (h2 : Cond.native arraycopyName ∈ zG) (h3 : Cond.static arraycopyName ∈ zG) (h4 : Cond.initialized "java/lang/System" ∈ zG) (hd : decode M.2.1 pc = .ok (.invokestatic idx, 3)) (hj0 : w[j0]? = some (.inl (.int, n0, .inl f))) (hj1 : w[j1]? = some (.inl (.int, n1, .inl g))) (a1 : ¬ sp < 0) (a2 : ¬ dp < 0) (a3 : ¬ n < 0) (a4 : sp.toNatClampNeg + n.toNatClampNeg ≤ n0) (a5 : dp.toNatClampNeg + n.toNatClampNeg ≤ n1) (hf : 1 ≤ M.2.2.2.2.frames) (hlo : (st.map fun v => v.category).sum + (nativeFrameWords "java/lang/System" "arraycopy" 5 + 11) ≤ M.2.2.2.2.locals) (k : Ev M X r wf (pc + 3) lv st (w.set j1 (.inl (.int, n1, .inl (va_cpy f g sp.toNatClampNeg dp.toNatClampNeg n.toNatClampNeg)))) nc ns) : Ev M X r wf pc lv (.int n :: .int dp :: .ref j1 :: .int sp :: .ref j0 :: st) w nc ns := fun p l e s m args below meth c Q D dA b A ad0 C E H locs ad ls B hl => by
  have h : (st.map (z_v b ad)).map (fun v => v.category) = st.map (fun v => v.category) := by
    rw [List.map_map]
    apply List.map_congr_left
    intro v _
    exact z_v_cat b ad v
  refine va_copyi (t0 := 0) (t1 := 0) (ty := .int) C.1 C.2.1 (C.2.2.1.trans hl.1.symm) C.2.2.2.2.1 (C.2.2.2.1 _ h1) (C.2.2.2.1 _ h2) (C.2.2.2.1 _ h3) (C.2.2.2.1 _ h4) (z_K1.one C.2.2.2.2.2.2.2.2.1 B.2.2.2.2.2.1 hj0) B.2.2.2.1 B.2.2.2.2.1 B.2.2.2.2.2.2 j0 j1 (z_w_at B.1 hj0).2 (z_w_at B.1 hj1).2 rfl rfl rfl a1 a2 a3 a4 a5 (fun _ _ => rfl) hf (by rw [h]; exact hlo) hd (fun H1 locs1 hP hD hS => ?_)
  have e1 : (z_w b ad dA w).set j1 (ad.getD j1 b, .inl (dA .int, n1, .inl (va_cpy f g sp.toNatClampNeg dp.toNatClampNeg n.toNatClampNeg))) = z_w b ad dA (w.set j1 (.inl (.int, n1, .inl (va_cpy f g sp.toNatClampNeg dp.toNatClampNeg n.toNatClampNeg)))) := z_w_set (c := .inl (.int, n1, .inl (va_cpy f g sp.toNatClampNeg dp.toNatClampNeg n.toNatClampNeg))) B.1 hj1
  rw [e1] at hP hD
  exact k p l e s m args below meth c Q D dA b A ad0 C E H1 locs1 ad ls ⟨by rw [List.length_set]; exact B.1, B.2.1, B.2.2.1, hP, hD, z_K1.set B.2.2.2.2.2.1 (fun ty a h => by cases h; exact ⟨j1, _, hj1⟩), hS⟩ hl
theorem zs_self {w : zW} {j : Nat} {c0 c : zE} (h : w[j]? = some c0) : (w.set j c)[j]? = some c := by
  rw [List.getElem?_set_self (List.getElem?_eq_some_iff.mp h).1]
theorem zs_ne {w : zW} {i j : Nat} {c0 c : zE} (hn : i ≠ j) (h : w[j]? = some c0) : (w.set i c)[j]? = some c0 := by
  rw [List.getElem?_set_ne hn]
  exact h
end ZROWS
end
section
theorem l_R_0 : u_lay "LinkDiagram$ArcMatrix" T_R 0 ∈ zG := zG_mem (List.mem_append_right _ (List.mem_of_getElem? (i := 77) (by decide +kernel))) (by decide +kernel)
theorem l_R_1 : u_lay "LinkDiagram$ArcMatrix" T_R 1 ∈ zG := zG_mem (List.mem_append_right _ (List.mem_of_getElem? (i := 79) (by decide +kernel))) (by decide +kernel)
theorem l_R_2 : u_lay "LinkDiagram$ArcMatrix" T_R 2 ∈ zG := zG_mem (List.mem_append_right _ (List.mem_of_getElem? (i := 81) (by decide +kernel))) (by decide +kernel)
theorem l_R_3 : u_lay "LinkDiagram$ArcMatrix" T_R 3 ∈ zG := zG_mem (List.mem_append_right _ (List.mem_of_getElem? (i := 83) (by decide +kernel))) (by decide +kernel)
theorem l_R_4 : u_lay "LinkDiagram$ArcMatrix" T_R 4 ∈ zG := zG_mem (List.mem_append_right _ (List.mem_of_getElem? (i := 85) (by decide +kernel))) (by decide +kernel)
theorem uw_R : ∀ w ∈ u_ws "LinkDiagram$ArcMatrix" T_R 5, w ∈ zG := by
  intro w hw
  obtain ⟨k, hk, rfl⟩ := List.mem_map.mp hw
  have hk := List.mem_range.mp hk
  match k, hk with
  | 0, _ => exact l_R_0
  | 1, _ => exact l_R_1
  | 2, _ => exact l_R_2
  | 3, _ => exact l_R_3
  | 4, _ => exact l_R_4
theorem l_B_0 : u_lay "LinkDiagram$Bracket" T_B 0 ∈ zG := zG_mem (List.mem_append_right _ (List.mem_of_getElem? (i := 58) (by decide +kernel))) (by decide +kernel)
theorem l_B_1 : u_lay "LinkDiagram$Bracket" T_B 1 ∈ zG := zG_mem (List.mem_append_right _ (List.mem_of_getElem? (i := 60) (by decide +kernel))) (by decide +kernel)
theorem l_B_2 : u_lay "LinkDiagram$Bracket" T_B 2 ∈ zG := zG_mem (List.mem_append_right _ (List.mem_of_getElem? (i := 62) (by decide +kernel))) (by decide +kernel)
theorem uw_B : ∀ w ∈ u_ws "LinkDiagram$Bracket" T_B 3, w ∈ zG := by
  intro w hw
  obtain ⟨k, hk, rfl⟩ := List.mem_map.mp hw
  have hk := List.mem_range.mp hk
  match k, hk with
  | 0, _ => exact l_B_0
  | 1, _ => exact l_B_1
  | 2, _ => exact l_B_2
theorem l_C_0 : u_lay "LinkDiagram$Crossings" T_C 0 ∈ zG := zG_mem (List.mem_append_right _ (List.mem_of_getElem? (i := 28) (by decide +kernel))) (by decide +kernel)
theorem l_C_1 : u_lay "LinkDiagram$Crossings" T_C 1 ∈ zG := zG_mem (List.mem_append_right _ (List.mem_of_getElem? (i := 30) (by decide +kernel))) (by decide +kernel)
theorem l_C_2 : u_lay "LinkDiagram$Crossings" T_C 2 ∈ zG := zG_mem (List.mem_append_right _ (List.mem_of_getElem? (i := 32) (by decide +kernel))) (by decide +kernel)
theorem uw_C : ∀ w ∈ u_ws "LinkDiagram$Crossings" T_C 3, w ∈ zG := by
  intro w hw
  obtain ⟨k, hk, rfl⟩ := List.mem_map.mp hw
  have hk := List.mem_range.mp hk
  match k, hk with
  | 0, _ => exact l_C_0
  | 1, _ => exact l_C_1
  | 2, _ => exact l_C_2
theorem l_S_0 : u_lay "LinkDiagram$Shape" T_S 0 ∈ zG := zG_mem (List.mem_append_right _ (List.mem_of_getElem? (i := 44) (by decide +kernel))) (by decide +kernel)
theorem l_S_1 : u_lay "LinkDiagram$Shape" T_S 1 ∈ zG := zG_mem (List.mem_append_right _ (List.mem_of_getElem? (i := 46) (by decide +kernel))) (by decide +kernel)
theorem uw_S : ∀ w ∈ u_ws "LinkDiagram$Shape" T_S 2, w ∈ zG := by
  intro w hw
  obtain ⟨k, hk, rfl⟩ := List.mem_map.mp hw
  have hk := List.mem_range.mp hk
  match k, hk with
  | 0, _ => exact l_S_0
  | 1, _ => exact l_S_1
theorem l_A_0 : u_lay "LinkDiagram" T_A 0 ∈ zG := zG_mem (List.mem_append_right _ (List.mem_of_getElem? (i := 98) (by decide +kernel))) (by decide +kernel)
theorem l_A_1 : u_lay "LinkDiagram" T_A 1 ∈ zG := zG_mem (List.mem_append_right _ (List.mem_of_getElem? (i := 100) (by decide +kernel))) (by decide +kernel)
theorem l_A_2 : u_lay "LinkDiagram" T_A 2 ∈ zG := zG_mem (List.mem_append_right _ (List.mem_of_getElem? (i := 102) (by decide +kernel))) (by decide +kernel)
theorem l_A_3 : u_lay "LinkDiagram" T_A 3 ∈ zG := zG_mem (List.mem_append_right _ (List.mem_of_getElem? (i := 104) (by decide +kernel))) (by decide +kernel)
theorem l_A_4 : u_lay "LinkDiagram" T_A 4 ∈ zG := zG_mem (List.mem_append_right _ (List.mem_of_getElem? (i := 106) (by decide +kernel))) (by decide +kernel)
theorem l_A_5 : u_lay "LinkDiagram" T_A 5 ∈ zG := zG_mem (List.mem_append_right _ (List.mem_of_getElem? (i := 108) (by decide +kernel))) (by decide +kernel)
theorem l_A_6 : u_lay "LinkDiagram" T_A 6 ∈ zG := zG_mem (List.mem_append_right _ (List.mem_of_getElem? (i := 110) (by decide +kernel))) (by decide +kernel)
theorem l_A_7 : u_lay "LinkDiagram" T_A 7 ∈ zG := zG_mem (List.mem_append_right _ (List.mem_of_getElem? (i := 112) (by decide +kernel))) (by decide +kernel)
theorem l_A_8 : u_lay "LinkDiagram" T_A 8 ∈ zG := zG_mem (List.mem_append_right _ (List.mem_of_getElem? (i := 114) (by decide +kernel))) (by decide +kernel)
theorem l_A_9 : u_lay "LinkDiagram" T_A 9 ∈ zG := zG_mem (List.mem_append_right _ (List.mem_of_getElem? (i := 116) (by decide +kernel))) (by decide +kernel)
theorem uw_A : ∀ w ∈ u_ws "LinkDiagram" T_A 10, w ∈ zG := by
  intro w hw
  obtain ⟨k, hk, rfl⟩ := List.mem_map.mp hw
  have hk := List.mem_range.mp hk
  match k, hk with
  | 0, _ => exact l_A_0
  | 1, _ => exact l_A_1
  | 2, _ => exact l_A_2
  | 3, _ => exact l_A_3
  | 4, _ => exact l_A_4
  | 5, _ => exact l_A_5
  | 6, _ => exact l_A_6
  | 7, _ => exact l_A_7
  | 8, _ => exact l_A_8
  | 9, _ => exact l_A_9
theorem l_M_0 : u_lay "LinkDiagramModel" T_M 0 ∈ zG := zG_mem (List.mem_append_right _ (List.mem_of_getElem? (i := 520) (by decide +kernel))) (by decide +kernel)
theorem l_M_1 : u_lay "LinkDiagramModel" T_M 1 ∈ zG := zG_mem (List.mem_append_right _ (List.mem_of_getElem? (i := 522) (by decide +kernel))) (by decide +kernel)
theorem l_M_2 : u_lay "LinkDiagramModel" T_M 2 ∈ zG := zG_mem (List.mem_append_right _ (List.mem_of_getElem? (i := 524) (by decide +kernel))) (by decide +kernel)
theorem l_M_3 : u_lay "LinkDiagramModel" T_M 3 ∈ zG := zG_mem (List.mem_append_right _ (List.mem_of_getElem? (i := 526) (by decide +kernel))) (by decide +kernel)
theorem l_M_4 : u_lay "LinkDiagramModel" T_M 4 ∈ zG := zG_mem (List.mem_append_right _ (List.mem_of_getElem? (i := 528) (by decide +kernel))) (by decide +kernel)
theorem l_M_5 : u_lay "LinkDiagramModel" T_M 5 ∈ zG := zG_mem (List.mem_append_right _ (List.mem_of_getElem? (i := 530) (by decide +kernel))) (by decide +kernel)
theorem l_M_6 : u_lay "LinkDiagramModel" T_M 6 ∈ zG := zG_mem (List.mem_append_right _ (List.mem_of_getElem? (i := 532) (by decide +kernel))) (by decide +kernel)
theorem l_M_7 : u_lay "LinkDiagramModel" T_M 7 ∈ zG := zG_mem (List.mem_append_right _ (List.mem_of_getElem? (i := 534) (by decide +kernel))) (by decide +kernel)
theorem l_M_8 : u_lay "LinkDiagramModel" T_M 8 ∈ zG := zG_mem (List.mem_append_right _ (List.mem_of_getElem? (i := 536) (by decide +kernel))) (by decide +kernel)
theorem l_M_9 : u_lay "LinkDiagramModel" T_M 9 ∈ zG := zG_mem (List.mem_append_right _ (List.mem_of_getElem? (i := 538) (by decide +kernel))) (by decide +kernel)
theorem l_M_10 : u_lay "LinkDiagramModel" T_M 10 ∈ zG := zG_mem (List.mem_append_right _ (List.mem_of_getElem? (i := 540) (by decide +kernel))) (by decide +kernel)
theorem l_M_11 : u_lay "LinkDiagramModel" T_M 11 ∈ zG := zG_mem (List.mem_append_right _ (List.mem_of_getElem? (i := 542) (by decide +kernel))) (by decide +kernel)
theorem l_M_12 : u_lay "LinkDiagramModel" T_M 12 ∈ zG := zG_mem (List.mem_append_right _ (List.mem_of_getElem? (i := 544) (by decide +kernel))) (by decide +kernel)
theorem l_M_13 : u_lay "LinkDiagramModel" T_M 13 ∈ zG := zG_mem (List.mem_append_right _ (List.mem_of_getElem? (i := 546) (by decide +kernel))) (by decide +kernel)
theorem l_M_14 : u_lay "LinkDiagramModel" T_M 14 ∈ zG := zG_mem (List.mem_append_right _ (List.mem_of_getElem? (i := 548) (by decide +kernel))) (by decide +kernel)
theorem l_M_15 : u_lay "LinkDiagramModel" T_M 15 ∈ zG := zG_mem (List.mem_append_right _ (List.mem_of_getElem? (i := 550) (by decide +kernel))) (by decide +kernel)
theorem l_M_16 : u_lay "LinkDiagramModel" T_M 16 ∈ zG := zG_mem (List.mem_append_right _ (List.mem_of_getElem? (i := 552) (by decide +kernel))) (by decide +kernel)
theorem l_M_17 : u_lay "LinkDiagramModel" T_M 17 ∈ zG := zG_mem (List.mem_append_right _ (List.mem_of_getElem? (i := 554) (by decide +kernel))) (by decide +kernel)
theorem l_M_18 : u_lay "LinkDiagramModel" T_M 18 ∈ zG := zG_mem (List.mem_append_right _ (List.mem_of_getElem? (i := 556) (by decide +kernel))) (by decide +kernel)
theorem uw_M : ∀ w ∈ u_ws "LinkDiagramModel" T_M 19, w ∈ zG := by
  intro w hw
  obtain ⟨k, hk, rfl⟩ := List.mem_map.mp hw
  have hk := List.mem_range.mp hk
  match k, hk with
  | 0, _ => exact l_M_0
  | 1, _ => exact l_M_1
  | 2, _ => exact l_M_2
  | 3, _ => exact l_M_3
  | 4, _ => exact l_M_4
  | 5, _ => exact l_M_5
  | 6, _ => exact l_M_6
  | 7, _ => exact l_M_7
  | 8, _ => exact l_M_8
  | 9, _ => exact l_M_9
  | 10, _ => exact l_M_10
  | 11, _ => exact l_M_11
  | 12, _ => exact l_M_12
  | 13, _ => exact l_M_13
  | 14, _ => exact l_M_14
  | 15, _ => exact l_M_15
  | 16, _ => exact l_M_16
  | 17, _ => exact l_M_17
  | 18, _ => exact l_M_18
theorem n_L_7 : zNew "LinkDiagramLaw" 7 4 [.null, .null, .null, .null, .null, .null, .null, .null, .int 0, .int 0] := ⟨"LinkDiagram", T_A, t_A, rfl, uw_A, ty_A, zG_mem (List.mem_append_right _ (List.mem_of_getElem? (i := 11) (by decide +kernel))) (by decide +kernel), zG_mem (List.mem_append_right _ (List.mem_of_getElem? (i := 12) (by decide +kernel))) (by decide +kernel), zG_mem (List.mem_append_right _ (List.mem_of_getElem? (i := 1) (by decide +kernel))) (by decide +kernel), by decide +kernel⟩
theorem n_A_7 : zNew "LinkDiagram" 7 2 [.null, .null, .int 0] := ⟨"LinkDiagram$Crossings", T_C, t_C, rfl, uw_C, ty_C, zG_mem (List.mem_append_right _ (List.mem_of_getElem? (i := 19) (by decide +kernel))) (by decide +kernel), zG_mem (List.mem_append_right _ (List.mem_of_getElem? (i := 20) (by decide +kernel))) (by decide +kernel), zG_mem (List.mem_append_right _ (List.mem_of_getElem? (i := 2) (by decide +kernel))) (by decide +kernel), by decide +kernel⟩
theorem f_C_9 : zF "LinkDiagram$Crossings" 9 2 0 := ⟨"LinkDiagram$Crossings", T_C, 3, rfl, by decide, zG_mem (List.mem_append_right _ (List.mem_of_getElem? (i := 25) (by decide +kernel))) (by decide +kernel), uw_C⟩
theorem p_C_9 : zFp "LinkDiagram$Crossings" 9 2 0 true (.array .int) := ⟨"LinkDiagram$Crossings", T_C, 3, t_C, rfl, by decide, zG_mem (List.mem_append_right _ (List.mem_of_getElem? (i := 25) (by decide +kernel))) (by decide +kernel), uw_C, ty_C, nm_C, rfl, rfl, by decide +kernel⟩
theorem f_C_15 : zF "LinkDiagram$Crossings" 15 2 1 := ⟨"LinkDiagram$Crossings", T_C, 3, rfl, by decide, zG_mem (List.mem_append_right _ (List.mem_of_getElem? (i := 26) (by decide +kernel))) (by decide +kernel), uw_C⟩
theorem p_C_15 : zFp "LinkDiagram$Crossings" 15 2 1 true (.array .int) := ⟨"LinkDiagram$Crossings", T_C, 3, t_C, rfl, by decide, zG_mem (List.mem_append_right _ (List.mem_of_getElem? (i := 26) (by decide +kernel))) (by decide +kernel), uw_C, ty_C, nm_C, rfl, rfl, by decide +kernel⟩
theorem f_C_18 : zF "LinkDiagram$Crossings" 18 2 2 := ⟨"LinkDiagram$Crossings", T_C, 3, rfl, by decide, zG_mem (List.mem_append_right _ (List.mem_of_getElem? (i := 27) (by decide +kernel))) (by decide +kernel), uw_C⟩
theorem p_C_18 : zFp "LinkDiagram$Crossings" 18 2 2 false (.int) := ⟨"LinkDiagram$Crossings", T_C, 3, t_C, rfl, by decide, zG_mem (List.mem_append_right _ (List.mem_of_getElem? (i := 27) (by decide +kernel))) (by decide +kernel), uw_C, ty_C, nm_C, rfl, rfl, by decide +kernel⟩
theorem n_A_22 : zNew "LinkDiagram" 22 3 [.null, .null] := ⟨"LinkDiagram$Shape", T_S, t_S, rfl, uw_S, ty_S, zG_mem (List.mem_append_right _ (List.mem_of_getElem? (i := 36) (by decide +kernel))) (by decide +kernel), zG_mem (List.mem_append_right _ (List.mem_of_getElem? (i := 37) (by decide +kernel))) (by decide +kernel), zG_mem (List.mem_append_right _ (List.mem_of_getElem? (i := 3) (by decide +kernel))) (by decide +kernel), by decide +kernel⟩
theorem f_S_9 : zF "LinkDiagram$Shape" 9 3 0 := ⟨"LinkDiagram$Shape", T_S, 2, rfl, by decide, zG_mem (List.mem_append_right _ (List.mem_of_getElem? (i := 42) (by decide +kernel))) (by decide +kernel), uw_S⟩
theorem p_S_9 : zFp "LinkDiagram$Shape" 9 3 0 true (.array .int) := ⟨"LinkDiagram$Shape", T_S, 2, t_S, rfl, by decide, zG_mem (List.mem_append_right _ (List.mem_of_getElem? (i := 42) (by decide +kernel))) (by decide +kernel), uw_S, ty_S, nm_S, rfl, rfl, by decide +kernel⟩
theorem f_S_15 : zF "LinkDiagram$Shape" 15 3 1 := ⟨"LinkDiagram$Shape", T_S, 2, rfl, by decide, zG_mem (List.mem_append_right _ (List.mem_of_getElem? (i := 43) (by decide +kernel))) (by decide +kernel), uw_S⟩
theorem p_S_15 : zFp "LinkDiagram$Shape" 15 3 1 true (.array .int) := ⟨"LinkDiagram$Shape", T_S, 2, t_S, rfl, by decide, zG_mem (List.mem_append_right _ (List.mem_of_getElem? (i := 43) (by decide +kernel))) (by decide +kernel), uw_S, ty_S, nm_S, rfl, rfl, by decide +kernel⟩
theorem n_A_29 : zNew "LinkDiagram" 29 1 [.null, .null, .null] := ⟨"LinkDiagram$Bracket", T_B, t_B, rfl, uw_B, ty_B, zG_mem (List.mem_append_right _ (List.mem_of_getElem? (i := 49) (by decide +kernel))) (by decide +kernel), zG_mem (List.mem_append_right _ (List.mem_of_getElem? (i := 50) (by decide +kernel))) (by decide +kernel), zG_mem (List.mem_append_right _ (List.mem_of_getElem? (i := 4) (by decide +kernel))) (by decide +kernel), by decide +kernel⟩
theorem f_B_11 : zF "LinkDiagram$Bracket" 11 1 0 := ⟨"LinkDiagram$Bracket", T_B, 3, rfl, by decide, zG_mem (List.mem_append_right _ (List.mem_of_getElem? (i := 55) (by decide +kernel))) (by decide +kernel), uw_B⟩
theorem p_B_11 : zFp "LinkDiagram$Bracket" 11 1 0 true (.array .int) := ⟨"LinkDiagram$Bracket", T_B, 3, t_B, rfl, by decide, zG_mem (List.mem_append_right _ (List.mem_of_getElem? (i := 55) (by decide +kernel))) (by decide +kernel), uw_B, ty_B, nm_B, rfl, rfl, by decide +kernel⟩
theorem f_B_15 : zF "LinkDiagram$Bracket" 15 1 1 := ⟨"LinkDiagram$Bracket", T_B, 3, rfl, by decide, zG_mem (List.mem_append_right _ (List.mem_of_getElem? (i := 56) (by decide +kernel))) (by decide +kernel), uw_B⟩
theorem p_B_15 : zFp "LinkDiagram$Bracket" 15 1 1 true (.array .int) := ⟨"LinkDiagram$Bracket", T_B, 3, t_B, rfl, by decide, zG_mem (List.mem_append_right _ (List.mem_of_getElem? (i := 56) (by decide +kernel))) (by decide +kernel), uw_B, ty_B, nm_B, rfl, rfl, by decide +kernel⟩
theorem f_B_18 : zF "LinkDiagram$Bracket" 18 1 2 := ⟨"LinkDiagram$Bracket", T_B, 3, rfl, by decide, zG_mem (List.mem_append_right _ (List.mem_of_getElem? (i := 57) (by decide +kernel))) (by decide +kernel), uw_B⟩
theorem p_B_18 : zFp "LinkDiagram$Bracket" 18 1 2 true (.array .long) := ⟨"LinkDiagram$Bracket", T_B, 3, t_B, rfl, by decide, zG_mem (List.mem_append_right _ (List.mem_of_getElem? (i := 57) (by decide +kernel))) (by decide +kernel), uw_B, ty_B, nm_B, rfl, rfl, by decide +kernel⟩
theorem n_A_36 : zNew "LinkDiagram" 36 0 [.null, .null, .null, .null, .null] := ⟨"LinkDiagram$ArcMatrix", T_R, t_R, rfl, uw_R, ty_R, zG_mem (List.mem_append_right _ (List.mem_of_getElem? (i := 66) (by decide +kernel))) (by decide +kernel), zG_mem (List.mem_append_right _ (List.mem_of_getElem? (i := 67) (by decide +kernel))) (by decide +kernel), zG_mem (List.mem_append_right _ (List.mem_of_getElem? (i := 5) (by decide +kernel))) (by decide +kernel), by decide +kernel⟩
theorem f_R_11 : zF "LinkDiagram$ArcMatrix" 11 0 0 := ⟨"LinkDiagram$ArcMatrix", T_R, 5, rfl, by decide, zG_mem (List.mem_append_right _ (List.mem_of_getElem? (i := 72) (by decide +kernel))) (by decide +kernel), uw_R⟩
theorem p_R_11 : zFp "LinkDiagram$ArcMatrix" 11 0 0 true (.array .int) := ⟨"LinkDiagram$ArcMatrix", T_R, 5, t_R, rfl, by decide, zG_mem (List.mem_append_right _ (List.mem_of_getElem? (i := 72) (by decide +kernel))) (by decide +kernel), uw_R, ty_R, nm_R, rfl, rfl, by decide +kernel⟩
theorem f_R_15 : zF "LinkDiagram$ArcMatrix" 15 0 1 := ⟨"LinkDiagram$ArcMatrix", T_R, 5, rfl, by decide, zG_mem (List.mem_append_right _ (List.mem_of_getElem? (i := 73) (by decide +kernel))) (by decide +kernel), uw_R⟩
theorem p_R_15 : zFp "LinkDiagram$ArcMatrix" 15 0 1 true (.array .int) := ⟨"LinkDiagram$ArcMatrix", T_R, 5, t_R, rfl, by decide, zG_mem (List.mem_append_right _ (List.mem_of_getElem? (i := 73) (by decide +kernel))) (by decide +kernel), uw_R, ty_R, nm_R, rfl, rfl, by decide +kernel⟩
theorem f_R_18 : zF "LinkDiagram$ArcMatrix" 18 0 2 := ⟨"LinkDiagram$ArcMatrix", T_R, 5, rfl, by decide, zG_mem (List.mem_append_right _ (List.mem_of_getElem? (i := 74) (by decide +kernel))) (by decide +kernel), uw_R⟩
theorem p_R_18 : zFp "LinkDiagram$ArcMatrix" 18 0 2 true (.array .int) := ⟨"LinkDiagram$ArcMatrix", T_R, 5, t_R, rfl, by decide, zG_mem (List.mem_append_right _ (List.mem_of_getElem? (i := 74) (by decide +kernel))) (by decide +kernel), uw_R, ty_R, nm_R, rfl, rfl, by decide +kernel⟩
theorem f_R_21 : zF "LinkDiagram$ArcMatrix" 21 0 3 := ⟨"LinkDiagram$ArcMatrix", T_R, 5, rfl, by decide, zG_mem (List.mem_append_right _ (List.mem_of_getElem? (i := 75) (by decide +kernel))) (by decide +kernel), uw_R⟩
theorem p_R_21 : zFp "LinkDiagram$ArcMatrix" 21 0 3 true (.array .int) := ⟨"LinkDiagram$ArcMatrix", T_R, 5, t_R, rfl, by decide, zG_mem (List.mem_append_right _ (List.mem_of_getElem? (i := 75) (by decide +kernel))) (by decide +kernel), uw_R, ty_R, nm_R, rfl, rfl, by decide +kernel⟩
theorem f_R_24 : zF "LinkDiagram$ArcMatrix" 24 0 4 := ⟨"LinkDiagram$ArcMatrix", T_R, 5, rfl, by decide, zG_mem (List.mem_append_right _ (List.mem_of_getElem? (i := 76) (by decide +kernel))) (by decide +kernel), uw_R⟩
theorem p_R_24 : zFp "LinkDiagram$ArcMatrix" 24 0 4 true (.array .long) := ⟨"LinkDiagram$ArcMatrix", T_R, 5, t_R, rfl, by decide, zG_mem (List.mem_append_right _ (List.mem_of_getElem? (i := 76) (by decide +kernel))) (by decide +kernel), uw_R, ty_R, nm_R, rfl, rfl, by decide +kernel⟩
theorem f_A_10 : zF "LinkDiagram" 10 4 0 := ⟨"LinkDiagram", T_A, 10, rfl, by decide, zG_mem (List.mem_append_right _ (List.mem_of_getElem? (i := 88) (by decide +kernel))) (by decide +kernel), uw_A⟩
theorem p_A_10 : zFp "LinkDiagram" 10 4 0 true (.object "LinkDiagram$Crossings") := ⟨"LinkDiagram", T_A, 10, t_A, rfl, by decide, zG_mem (List.mem_append_right _ (List.mem_of_getElem? (i := 88) (by decide +kernel))) (by decide +kernel), uw_A, ty_A, nm_A, rfl, rfl, by decide +kernel⟩
theorem f_A_16 : zF "LinkDiagram" 16 4 1 := ⟨"LinkDiagram", T_A, 10, rfl, by decide, zG_mem (List.mem_append_right _ (List.mem_of_getElem? (i := 89) (by decide +kernel))) (by decide +kernel), uw_A⟩
theorem p_A_16 : zFp "LinkDiagram" 16 4 1 true (.object "LinkDiagram$Crossings") := ⟨"LinkDiagram", T_A, 10, t_A, rfl, by decide, zG_mem (List.mem_append_right _ (List.mem_of_getElem? (i := 89) (by decide +kernel))) (by decide +kernel), uw_A, ty_A, nm_A, rfl, rfl, by decide +kernel⟩
theorem f_A_19 : zF "LinkDiagram" 19 4 2 := ⟨"LinkDiagram", T_A, 10, rfl, by decide, zG_mem (List.mem_append_right _ (List.mem_of_getElem? (i := 90) (by decide +kernel))) (by decide +kernel), uw_A⟩
theorem p_A_19 : zFp "LinkDiagram" 19 4 2 true (.object "LinkDiagram$Crossings") := ⟨"LinkDiagram", T_A, 10, t_A, rfl, by decide, zG_mem (List.mem_append_right _ (List.mem_of_getElem? (i := 90) (by decide +kernel))) (by decide +kernel), uw_A, ty_A, nm_A, rfl, rfl, by decide +kernel⟩
theorem f_A_25 : zF "LinkDiagram" 25 4 3 := ⟨"LinkDiagram", T_A, 10, rfl, by decide, zG_mem (List.mem_append_right _ (List.mem_of_getElem? (i := 91) (by decide +kernel))) (by decide +kernel), uw_A⟩
theorem p_A_25 : zFp "LinkDiagram" 25 4 3 true (.object "LinkDiagram$Shape") := ⟨"LinkDiagram", T_A, 10, t_A, rfl, by decide, zG_mem (List.mem_append_right _ (List.mem_of_getElem? (i := 91) (by decide +kernel))) (by decide +kernel), uw_A, ty_A, nm_A, rfl, rfl, by decide +kernel⟩
theorem f_A_32 : zF "LinkDiagram" 32 4 4 := ⟨"LinkDiagram", T_A, 10, rfl, by decide, zG_mem (List.mem_append_right _ (List.mem_of_getElem? (i := 92) (by decide +kernel))) (by decide +kernel), uw_A⟩
theorem p_A_32 : zFp "LinkDiagram" 32 4 4 true (.object "LinkDiagram$Bracket") := ⟨"LinkDiagram", T_A, 10, t_A, rfl, by decide, zG_mem (List.mem_append_right _ (List.mem_of_getElem? (i := 92) (by decide +kernel))) (by decide +kernel), uw_A, ty_A, nm_A, rfl, rfl, by decide +kernel⟩
theorem f_A_39 : zF "LinkDiagram" 39 4 5 := ⟨"LinkDiagram", T_A, 10, rfl, by decide, zG_mem (List.mem_append_right _ (List.mem_of_getElem? (i := 93) (by decide +kernel))) (by decide +kernel), uw_A⟩
theorem p_A_39 : zFp "LinkDiagram" 39 4 5 true (.object "LinkDiagram$ArcMatrix") := ⟨"LinkDiagram", T_A, 10, t_A, rfl, by decide, zG_mem (List.mem_append_right _ (List.mem_of_getElem? (i := 93) (by decide +kernel))) (by decide +kernel), uw_A, ty_A, nm_A, rfl, rfl, by decide +kernel⟩
theorem f_A_43 : zF "LinkDiagram" 43 4 6 := ⟨"LinkDiagram", T_A, 10, rfl, by decide, zG_mem (List.mem_append_right _ (List.mem_of_getElem? (i := 94) (by decide +kernel))) (by decide +kernel), uw_A⟩
theorem p_A_43 : zFp "LinkDiagram" 43 4 6 true (.array .int) := ⟨"LinkDiagram", T_A, 10, t_A, rfl, by decide, zG_mem (List.mem_append_right _ (List.mem_of_getElem? (i := 94) (by decide +kernel))) (by decide +kernel), uw_A, ty_A, nm_A, rfl, rfl, by decide +kernel⟩
theorem f_A_47 : zF "LinkDiagram" 47 4 7 := ⟨"LinkDiagram", T_A, 10, rfl, by decide, zG_mem (List.mem_append_right _ (List.mem_of_getElem? (i := 95) (by decide +kernel))) (by decide +kernel), uw_A⟩
theorem p_A_47 : zFp "LinkDiagram" 47 4 7 true (.array .int) := ⟨"LinkDiagram", T_A, 10, t_A, rfl, by decide, zG_mem (List.mem_append_right _ (List.mem_of_getElem? (i := 95) (by decide +kernel))) (by decide +kernel), uw_A, ty_A, nm_A, rfl, rfl, by decide +kernel⟩
theorem f_A_50 : zF "LinkDiagram" 50 4 8 := ⟨"LinkDiagram", T_A, 10, rfl, by decide, zG_mem (List.mem_append_right _ (List.mem_of_getElem? (i := 96) (by decide +kernel))) (by decide +kernel), uw_A⟩
theorem p_A_50 : zFp "LinkDiagram" 50 4 8 false (.int) := ⟨"LinkDiagram", T_A, 10, t_A, rfl, by decide, zG_mem (List.mem_append_right _ (List.mem_of_getElem? (i := 96) (by decide +kernel))) (by decide +kernel), uw_A, ty_A, nm_A, rfl, rfl, by decide +kernel⟩
theorem f_A_54 : zF "LinkDiagram" 54 4 9 := ⟨"LinkDiagram", T_A, 10, rfl, by decide, zG_mem (List.mem_append_right _ (List.mem_of_getElem? (i := 97) (by decide +kernel))) (by decide +kernel), uw_A⟩
theorem p_A_54 : zFp "LinkDiagram" 54 4 9 false (.int) := ⟨"LinkDiagram", T_A, 10, t_A, rfl, by decide, zG_mem (List.mem_append_right _ (List.mem_of_getElem? (i := 97) (by decide +kernel))) (by decide +kernel), uw_A, ty_A, nm_A, rfl, rfl, by decide +kernel⟩
theorem k_A_132 : Cond.constantLong "LinkDiagram" 132 (3) ∈ zG := zG_mem (List.mem_append_right _ (List.mem_of_getElem? (i := 293) (by decide +kernel))) (by decide +kernel)
theorem k_B_22 : Cond.constantLong "LinkDiagram$Bracket" 22 (-62) ∈ zG := zG_mem (List.mem_append_right _ (List.mem_of_getElem? (i := 298) (by decide +kernel))) (by decide +kernel)
theorem k_B_24 : Cond.constantLong "LinkDiagram$Bracket" 24 (62) ∈ zG := zG_mem (List.mem_append_right _ (List.mem_of_getElem? (i := 299) (by decide +kernel))) (by decide +kernel)
theorem k_I_265 : Cond.constant "java/lang/Integer" 265 (1431655765) ∈ zG := zG_mem (List.mem_append_right _ (List.mem_of_getElem? (i := 320) (by decide +kernel))) (by decide +kernel)
theorem k_I_266 : Cond.constant "java/lang/Integer" 266 (858993459) ∈ zG := zG_mem (List.mem_append_right _ (List.mem_of_getElem? (i := 321) (by decide +kernel))) (by decide +kernel)
theorem k_I_267 : Cond.constant "java/lang/Integer" 267 (252645135) ∈ zG := zG_mem (List.mem_append_right _ (List.mem_of_getElem? (i := 322) (by decide +kernel))) (by decide +kernel)
theorem k_A_138 : Cond.constantLong "LinkDiagram" 138 (2) ∈ zG := zG_mem (List.mem_append_right _ (List.mem_of_getElem? (i := 334) (by decide +kernel))) (by decide +kernel)
theorem n_L_10 : zNew "LinkDiagramLaw" 10 5 [.null, .null, .int 0, .int 0, .int 0, .null, .int 0, .int 0, .int 0, .null, .null, .null, .null, .null, .int 0, .null, .null, .null, .null] := ⟨"LinkDiagramModel", T_M, t_M, rfl, uw_M, ty_M, zG_mem (List.mem_append_right _ (List.mem_of_getElem? (i := 495) (by decide +kernel))) (by decide +kernel), zG_mem (List.mem_append_right _ (List.mem_of_getElem? (i := 496) (by decide +kernel))) (by decide +kernel), zG_mem (List.mem_append_right _ (List.mem_of_getElem? (i := 6) (by decide +kernel))) (by decide +kernel), by decide +kernel⟩
theorem f_M_7 : zF "LinkDiagramModel" 7 5 0 := ⟨"LinkDiagramModel", T_M, 19, rfl, by decide, zG_mem (List.mem_append_right _ (List.mem_of_getElem? (i := 501) (by decide +kernel))) (by decide +kernel), uw_M⟩
theorem p_M_7 : zFp "LinkDiagramModel" 7 5 0 true (.array .int) := ⟨"LinkDiagramModel", T_M, 19, t_M, rfl, by decide, zG_mem (List.mem_append_right _ (List.mem_of_getElem? (i := 501) (by decide +kernel))) (by decide +kernel), uw_M, ty_M, nm_M, rfl, rfl, by decide +kernel⟩
theorem f_M_13 : zF "LinkDiagramModel" 13 5 1 := ⟨"LinkDiagramModel", T_M, 19, rfl, by decide, zG_mem (List.mem_append_right _ (List.mem_of_getElem? (i := 502) (by decide +kernel))) (by decide +kernel), uw_M⟩
theorem p_M_13 : zFp "LinkDiagramModel" 13 5 1 true (.array .boolean) := ⟨"LinkDiagramModel", T_M, 19, t_M, rfl, by decide, zG_mem (List.mem_append_right _ (List.mem_of_getElem? (i := 502) (by decide +kernel))) (by decide +kernel), uw_M, ty_M, nm_M, rfl, rfl, by decide +kernel⟩
theorem f_M_66 : zF "LinkDiagramModel" 66 5 2 := ⟨"LinkDiagramModel", T_M, 19, rfl, by decide, zG_mem (List.mem_append_right _ (List.mem_of_getElem? (i := 503) (by decide +kernel))) (by decide +kernel), uw_M⟩
theorem p_M_66 : zFp "LinkDiagramModel" 66 5 2 false (.int) := ⟨"LinkDiagramModel", T_M, 19, t_M, rfl, by decide, zG_mem (List.mem_append_right _ (List.mem_of_getElem? (i := 503) (by decide +kernel))) (by decide +kernel), uw_M, ty_M, nm_M, rfl, rfl, by decide +kernel⟩
theorem f_M_52 : zF "LinkDiagramModel" 52 5 3 := ⟨"LinkDiagramModel", T_M, 19, rfl, by decide, zG_mem (List.mem_append_right _ (List.mem_of_getElem? (i := 504) (by decide +kernel))) (by decide +kernel), uw_M⟩
theorem p_M_52 : zFp "LinkDiagramModel" 52 5 3 false (.int) := ⟨"LinkDiagramModel", T_M, 19, t_M, rfl, by decide, zG_mem (List.mem_append_right _ (List.mem_of_getElem? (i := 504) (by decide +kernel))) (by decide +kernel), uw_M, ty_M, nm_M, rfl, rfl, by decide +kernel⟩
theorem f_M_17 : zF "LinkDiagramModel" 17 5 4 := ⟨"LinkDiagramModel", T_M, 19, rfl, by decide, zG_mem (List.mem_append_right _ (List.mem_of_getElem? (i := 505) (by decide +kernel))) (by decide +kernel), uw_M⟩
theorem p_M_17 : zFp "LinkDiagramModel" 17 5 4 false (.int) := ⟨"LinkDiagramModel", T_M, 19, t_M, rfl, by decide, zG_mem (List.mem_append_right _ (List.mem_of_getElem? (i := 505) (by decide +kernel))) (by decide +kernel), uw_M, ty_M, nm_M, rfl, rfl, by decide +kernel⟩
theorem f_M_21 : zF "LinkDiagramModel" 21 5 5 := ⟨"LinkDiagramModel", T_M, 19, rfl, by decide, zG_mem (List.mem_append_right _ (List.mem_of_getElem? (i := 506) (by decide +kernel))) (by decide +kernel), uw_M⟩
theorem p_M_21 : zFp "LinkDiagramModel" 21 5 5 true (.array .int) := ⟨"LinkDiagramModel", T_M, 19, t_M, rfl, by decide, zG_mem (List.mem_append_right _ (List.mem_of_getElem? (i := 506) (by decide +kernel))) (by decide +kernel), uw_M, ty_M, nm_M, rfl, rfl, by decide +kernel⟩
theorem f_M_107 : zF "LinkDiagramModel" 107 5 6 := ⟨"LinkDiagramModel", T_M, 19, rfl, by decide, zG_mem (List.mem_append_right _ (List.mem_of_getElem? (i := 507) (by decide +kernel))) (by decide +kernel), uw_M⟩
theorem p_M_107 : zFp "LinkDiagramModel" 107 5 6 false (.int) := ⟨"LinkDiagramModel", T_M, 19, t_M, rfl, by decide, zG_mem (List.mem_append_right _ (List.mem_of_getElem? (i := 507) (by decide +kernel))) (by decide +kernel), uw_M, ty_M, nm_M, rfl, rfl, by decide +kernel⟩
theorem f_M_63 : zF "LinkDiagramModel" 63 5 7 := ⟨"LinkDiagramModel", T_M, 19, rfl, by decide, zG_mem (List.mem_append_right _ (List.mem_of_getElem? (i := 508) (by decide +kernel))) (by decide +kernel), uw_M⟩
theorem p_M_63 : zFp "LinkDiagramModel" 63 5 7 false (.int) := ⟨"LinkDiagramModel", T_M, 19, t_M, rfl, by decide, zG_mem (List.mem_append_right _ (List.mem_of_getElem? (i := 508) (by decide +kernel))) (by decide +kernel), uw_M, ty_M, nm_M, rfl, rfl, by decide +kernel⟩
theorem f_M_69 : zF "LinkDiagramModel" 69 5 8 := ⟨"LinkDiagramModel", T_M, 19, rfl, by decide, zG_mem (List.mem_append_right _ (List.mem_of_getElem? (i := 509) (by decide +kernel))) (by decide +kernel), uw_M⟩
theorem p_M_69 : zFp "LinkDiagramModel" 69 5 8 false (.int) := ⟨"LinkDiagramModel", T_M, 19, t_M, rfl, by decide, zG_mem (List.mem_append_right _ (List.mem_of_getElem? (i := 509) (by decide +kernel))) (by decide +kernel), uw_M, ty_M, nm_M, rfl, rfl, by decide +kernel⟩
theorem f_M_24 : zF "LinkDiagramModel" 24 5 9 := ⟨"LinkDiagramModel", T_M, 19, rfl, by decide, zG_mem (List.mem_append_right _ (List.mem_of_getElem? (i := 510) (by decide +kernel))) (by decide +kernel), uw_M⟩
theorem p_M_24 : zFp "LinkDiagramModel" 24 5 9 true (.array .boolean) := ⟨"LinkDiagramModel", T_M, 19, t_M, rfl, by decide, zG_mem (List.mem_append_right _ (List.mem_of_getElem? (i := 510) (by decide +kernel))) (by decide +kernel), uw_M, ty_M, nm_M, rfl, rfl, by decide +kernel⟩
theorem f_M_27 : zF "LinkDiagramModel" 27 5 10 := ⟨"LinkDiagramModel", T_M, 19, rfl, by decide, zG_mem (List.mem_append_right _ (List.mem_of_getElem? (i := 511) (by decide +kernel))) (by decide +kernel), uw_M⟩
theorem p_M_27 : zFp "LinkDiagramModel" 27 5 10 true (.array .long) := ⟨"LinkDiagramModel", T_M, 19, t_M, rfl, by decide, zG_mem (List.mem_append_right _ (List.mem_of_getElem? (i := 511) (by decide +kernel))) (by decide +kernel), uw_M, ty_M, nm_M, rfl, rfl, by decide +kernel⟩
theorem f_M_31 : zF "LinkDiagramModel" 31 5 11 := ⟨"LinkDiagramModel", T_M, 19, rfl, by decide, zG_mem (List.mem_append_right _ (List.mem_of_getElem? (i := 512) (by decide +kernel))) (by decide +kernel), uw_M⟩
theorem p_M_31 : zFp "LinkDiagramModel" 31 5 11 true (.array .long) := ⟨"LinkDiagramModel", T_M, 19, t_M, rfl, by decide, zG_mem (List.mem_append_right _ (List.mem_of_getElem? (i := 512) (by decide +kernel))) (by decide +kernel), uw_M, ty_M, nm_M, rfl, rfl, by decide +kernel⟩
theorem f_M_34 : zF "LinkDiagramModel" 34 5 12 := ⟨"LinkDiagramModel", T_M, 19, rfl, by decide, zG_mem (List.mem_append_right _ (List.mem_of_getElem? (i := 513) (by decide +kernel))) (by decide +kernel), uw_M⟩
theorem p_M_34 : zFp "LinkDiagramModel" 34 5 12 true (.array .long) := ⟨"LinkDiagramModel", T_M, 19, t_M, rfl, by decide, zG_mem (List.mem_append_right _ (List.mem_of_getElem? (i := 513) (by decide +kernel))) (by decide +kernel), uw_M, ty_M, nm_M, rfl, rfl, by decide +kernel⟩
theorem f_M_37 : zF "LinkDiagramModel" 37 5 13 := ⟨"LinkDiagramModel", T_M, 19, rfl, by decide, zG_mem (List.mem_append_right _ (List.mem_of_getElem? (i := 514) (by decide +kernel))) (by decide +kernel), uw_M⟩
theorem p_M_37 : zFp "LinkDiagramModel" 37 5 13 true (.array .int) := ⟨"LinkDiagramModel", T_M, 19, t_M, rfl, by decide, zG_mem (List.mem_append_right _ (List.mem_of_getElem? (i := 514) (by decide +kernel))) (by decide +kernel), uw_M, ty_M, nm_M, rfl, rfl, by decide +kernel⟩
theorem f_M_133 : zF "LinkDiagramModel" 133 5 14 := ⟨"LinkDiagramModel", T_M, 19, rfl, by decide, zG_mem (List.mem_append_right _ (List.mem_of_getElem? (i := 515) (by decide +kernel))) (by decide +kernel), uw_M⟩
theorem p_M_133 : zFp "LinkDiagramModel" 133 5 14 false (.int) := ⟨"LinkDiagramModel", T_M, 19, t_M, rfl, by decide, zG_mem (List.mem_append_right _ (List.mem_of_getElem? (i := 515) (by decide +kernel))) (by decide +kernel), uw_M, ty_M, nm_M, rfl, rfl, by decide +kernel⟩
theorem f_M_40 : zF "LinkDiagramModel" 40 5 15 := ⟨"LinkDiagramModel", T_M, 19, rfl, by decide, zG_mem (List.mem_append_right _ (List.mem_of_getElem? (i := 516) (by decide +kernel))) (by decide +kernel), uw_M⟩
theorem p_M_40 : zFp "LinkDiagramModel" 40 5 15 true (.array .int) := ⟨"LinkDiagramModel", T_M, 19, t_M, rfl, by decide, zG_mem (List.mem_append_right _ (List.mem_of_getElem? (i := 516) (by decide +kernel))) (by decide +kernel), uw_M, ty_M, nm_M, rfl, rfl, by decide +kernel⟩
theorem f_M_43 : zF "LinkDiagramModel" 43 5 16 := ⟨"LinkDiagramModel", T_M, 19, rfl, by decide, zG_mem (List.mem_append_right _ (List.mem_of_getElem? (i := 517) (by decide +kernel))) (by decide +kernel), uw_M⟩
theorem p_M_43 : zFp "LinkDiagramModel" 43 5 16 true (.array .int) := ⟨"LinkDiagramModel", T_M, 19, t_M, rfl, by decide, zG_mem (List.mem_append_right _ (List.mem_of_getElem? (i := 517) (by decide +kernel))) (by decide +kernel), uw_M, ty_M, nm_M, rfl, rfl, by decide +kernel⟩
theorem f_M_46 : zF "LinkDiagramModel" 46 5 17 := ⟨"LinkDiagramModel", T_M, 19, rfl, by decide, zG_mem (List.mem_append_right _ (List.mem_of_getElem? (i := 518) (by decide +kernel))) (by decide +kernel), uw_M⟩
theorem p_M_46 : zFp "LinkDiagramModel" 46 5 17 true (.array .long) := ⟨"LinkDiagramModel", T_M, 19, t_M, rfl, by decide, zG_mem (List.mem_append_right _ (List.mem_of_getElem? (i := 518) (by decide +kernel))) (by decide +kernel), uw_M, ty_M, nm_M, rfl, rfl, by decide +kernel⟩
theorem f_M_49 : zF "LinkDiagramModel" 49 5 18 := ⟨"LinkDiagramModel", T_M, 19, rfl, by decide, zG_mem (List.mem_append_right _ (List.mem_of_getElem? (i := 519) (by decide +kernel))) (by decide +kernel), uw_M⟩
theorem p_M_49 : zFp "LinkDiagramModel" 49 5 18 true (.array .int) := ⟨"LinkDiagramModel", T_M, 19, t_M, rfl, by decide, zG_mem (List.mem_append_right _ (List.mem_of_getElem? (i := 519) (by decide +kernel))) (by decide +kernel), uw_M, ty_M, nm_M, rfl, rfl, by decide +kernel⟩
theorem k_M_139 : Cond.constantLong "LinkDiagramModel" 139 (-1) ∈ zG := zG_mem (List.mem_append_right _ (List.mem_of_getElem? (i := 688) (by decide +kernel))) (by decide +kernel)
theorem wA_int : Cond.arrayClass .int ∈ zG := zG_mem (List.mem_append_right _ (List.mem_of_getElem? (i := 35) (by decide +kernel))) (by decide +kernel)
theorem wA_long : Cond.arrayClass .long ∈ zG := zG_mem (List.mem_append_right _ (List.mem_of_getElem? (i := 65) (by decide +kernel))) (by decide +kernel)
theorem wA_bool : Cond.arrayClass .boolean ∈ zG := zG_mem (List.mem_append_right _ (List.mem_of_getElem? (i := 559) (by decide +kernel))) (by decide +kernel)
theorem wO_im : Cond.instanceMethod objectInit ∈ zG := zG_mem (List.mem_append_right _ (List.mem_of_getElem? (i := 17) (by decide +kernel))) (by decide +kernel)
theorem wO_code : Cond.code objectInit ⟨#[0xb1]⟩ 1 none ∈ zG := zG_mem (List.mem_append_right _ (List.mem_of_getElem? (i := 18) (by decide +kernel))) (by decide +kernel)
theorem wm_abs_s : Cond.static Lib.Math.abs.name ∈ zG := zG_mem (List.mem_append_right _ (List.mem_of_getElem? (i := 247) (by decide +kernel))) (by decide +kernel)
theorem wm_abs_c : Cond.code Lib.Math.abs.name Lib.Math.abs.code 1 (some .int) ∈ zG := zG_mem (List.mem_append_right _ (List.mem_of_getElem? (i := 248) (by decide +kernel))) (by decide +kernel)
theorem wm_min_s : Cond.static Lib.Math.min.name ∈ zG := zG_mem (List.mem_append_right _ (List.mem_of_getElem? (i := 354) (by decide +kernel))) (by decide +kernel)
theorem wm_min_c : Cond.code Lib.Math.min.name Lib.Math.min.code 2 (some .int) ∈ zG := zG_mem (List.mem_append_right _ (List.mem_of_getElem? (i := 355) (by decide +kernel))) (by decide +kernel)
theorem wm_max_s : Cond.static Lib.Math.max.name ∈ zG := zG_mem (List.mem_append_right _ (List.mem_of_getElem? (i := 465) (by decide +kernel))) (by decide +kernel)
theorem wm_max_c : Cond.code Lib.Math.max.name Lib.Math.max.code 2 (some .int) ∈ zG := zG_mem (List.mem_append_right _ (List.mem_of_getElem? (i := 466) (by decide +kernel))) (by decide +kernel)
theorem wm_i : Cond.initialized "java/lang/Math" ∈ zG := zG_mem (List.mem_append_right _ (List.mem_of_getElem? (i := 9) (by decide +kernel))) (by decide +kernel)
theorem wc_n : Cond.native arraycopyName ∈ zG := zG_mem (List.mem_append_right _ (List.mem_of_getElem? (i := 153) (by decide +kernel))) (by decide +kernel)
theorem wc_s : Cond.static arraycopyName ∈ zG := zG_mem (List.mem_append_right _ (List.mem_of_getElem? (i := 152) (by decide +kernel))) (by decide +kernel)
theorem wc_i : Cond.initialized "java/lang/System" ∈ zG := zG_mem (List.mem_append_right _ (List.mem_of_getElem? (i := 7) (by decide +kernel))) (by decide +kernel)
theorem cb_A_appendTwist : zCb M_A_appendTwist 4 := ⟨zG_mem (List.mem_append_right _ (List.mem_of_getElem? (i := 398) (by decide +kernel))) (by decide +kernel), zG_mem (List.mem_append_right _ (List.mem_of_getElem? (i := 1) (by decide +kernel))) (by decide +kernel), by decide, by decide, by decide +kernel⟩
theorem cb_A_braid : zCb M_A_braid 1 := ⟨zG_mem (List.mem_append_right _ (List.mem_of_getElem? (i := 241) (by decide +kernel))) (by decide +kernel), zG_mem (List.mem_append_right _ (List.mem_of_getElem? (i := 1) (by decide +kernel))) (by decide +kernel), by decide, by decide, by decide +kernel⟩
theorem cb_A_closePlace : zCb M_A_closePlace 1 := ⟨zG_mem (List.mem_append_right _ (List.mem_of_getElem? (i := 256) (by decide +kernel))) (by decide +kernel), zG_mem (List.mem_append_right _ (List.mem_of_getElem? (i := 1) (by decide +kernel))) (by decide +kernel), by decide, by decide, by decide +kernel⟩
theorem cb_A_count : zCb M_A_count 1 := ⟨zG_mem (List.mem_append_right _ (List.mem_of_getElem? (i := 264) (by decide +kernel))) (by decide +kernel), zG_mem (List.mem_append_right _ (List.mem_of_getElem? (i := 1) (by decide +kernel))) (by decide +kernel), by decide, by decide, by decide +kernel⟩
theorem cb_A_cross : zCb M_A_cross 5 := ⟨zG_mem (List.mem_append_right _ (List.mem_of_getElem? (i := 122) (by decide +kernel))) (by decide +kernel), zG_mem (List.mem_append_right _ (List.mem_of_getElem? (i := 1) (by decide +kernel))) (by decide +kernel), by decide, by decide, by decide +kernel⟩
theorem cb_A_crossingOf : zCb M_A_crossingOf 1 := ⟨zG_mem (List.mem_append_right _ (List.mem_of_getElem? (i := 183) (by decide +kernel))) (by decide +kernel), zG_mem (List.mem_append_right _ (List.mem_of_getElem? (i := 1) (by decide +kernel))) (by decide +kernel), by decide, by decide, by decide +kernel⟩
theorem cb_A_drop : zCb M_A_drop 0 := ⟨zG_mem (List.mem_append_right _ (List.mem_of_getElem? (i := 138) (by decide +kernel))) (by decide +kernel), zG_mem (List.mem_append_right _ (List.mem_of_getElem? (i := 1) (by decide +kernel))) (by decide +kernel), by decide, by decide, by decide +kernel⟩
theorem cb_A_end : zCb M_A_end 2 := ⟨zG_mem (List.mem_append_right _ (List.mem_of_getElem? (i := 285) (by decide +kernel))) (by decide +kernel), zG_mem (List.mem_append_right _ (List.mem_of_getElem? (i := 1) (by decide +kernel))) (by decide +kernel), by decide, by decide, by decide +kernel⟩
theorem cb_A_first : zCb M_A_first 1 := ⟨zG_mem (List.mem_append_right _ (List.mem_of_getElem? (i := 292) (by decide +kernel))) (by decide +kernel), zG_mem (List.mem_append_right _ (List.mem_of_getElem? (i := 1) (by decide +kernel))) (by decide +kernel), by decide, by decide, by decide +kernel⟩
theorem cb_A_freeEdge : zCb M_A_freeEdge 1 := ⟨zG_mem (List.mem_append_right _ (List.mem_of_getElem? (i := 393) (by decide +kernel))) (by decide +kernel), zG_mem (List.mem_append_right _ (List.mem_of_getElem? (i := 1) (by decide +kernel))) (by decide +kernel), by decide, by decide, by decide +kernel⟩
theorem cb_A_init : zCb M_A_init 0 := ⟨zG_mem (List.mem_append_right _ (List.mem_of_getElem? (i := 15) (by decide +kernel))) (by decide +kernel), zG_mem (List.mem_append_right _ (List.mem_of_getElem? (i := 1) (by decide +kernel))) (by decide +kernel), by decide, by decide, by decide +kernel⟩
theorem cb_A_isEdge : zCb M_A_isEdge 1 := ⟨zG_mem (List.mem_append_right _ (List.mem_of_getElem? (i := 129) (by decide +kernel))) (by decide +kernel), zG_mem (List.mem_append_right _ (List.mem_of_getElem? (i := 1) (by decide +kernel))) (by decide +kernel), by decide, by decide, by decide +kernel⟩
theorem cb_A_isPokedFace : zCb M_A_isPokedFace 2 := ⟨zG_mem (List.mem_append_right _ (List.mem_of_getElem? (i := 438) (by decide +kernel))) (by decide +kernel), zG_mem (List.mem_append_right _ (List.mem_of_getElem? (i := 1) (by decide +kernel))) (by decide +kernel), by decide, by decide, by decide +kernel⟩
theorem cb_A_isSlidingFace : zCb M_A_isSlidingFace 3 := ⟨zG_mem (List.mem_append_right _ (List.mem_of_getElem? (i := 475) (by decide +kernel))) (by decide +kernel), zG_mem (List.mem_append_right _ (List.mem_of_getElem? (i := 1) (by decide +kernel))) (by decide +kernel), by decide, by decide, by decide +kernel⟩
theorem cb_A_isUpper : zCb M_A_isUpper 1 := ⟨zG_mem (List.mem_append_right _ (List.mem_of_getElem? (i := 180) (by decide +kernel))) (by decide +kernel), zG_mem (List.mem_append_right _ (List.mem_of_getElem? (i := 1) (by decide +kernel))) (by decide +kernel), by decide, by decide, by decide +kernel⟩
theorem cb_A_isUpperEdge : zCb M_A_isUpperEdge 1 := ⟨zG_mem (List.mem_append_right _ (List.mem_of_getElem? (i := 479) (by decide +kernel))) (by decide +kernel), zG_mem (List.mem_append_right _ (List.mem_of_getElem? (i := 1) (by decide +kernel))) (by decide +kernel), by decide, by decide, by decide +kernel⟩
theorem cb_A_join : zCb M_A_join 2 := ⟨zG_mem (List.mem_append_right _ (List.mem_of_getElem? (i := 421) (by decide +kernel))) (by decide +kernel), zG_mem (List.mem_append_right _ (List.mem_of_getElem? (i := 1) (by decide +kernel))) (by decide +kernel), by decide, by decide, by decide +kernel⟩
theorem cb_A_letter : zCb M_A_letter 1 := ⟨zG_mem (List.mem_append_right _ (List.mem_of_getElem? (i := 237) (by decide +kernel))) (by decide +kernel), zG_mem (List.mem_append_right _ (List.mem_of_getElem? (i := 1) (by decide +kernel))) (by decide +kernel), by decide, by decide, by decide +kernel⟩
theorem cb_A_loopEnd : zCb M_A_loopEnd 1 := ⟨zG_mem (List.mem_append_right _ (List.mem_of_getElem? (i := 415) (by decide +kernel))) (by decide +kernel), zG_mem (List.mem_append_right _ (List.mem_of_getElem? (i := 1) (by decide +kernel))) (by decide +kernel), by decide, by decide, by decide +kernel⟩
theorem cb_A_opposite : zCb M_A_opposite 1 := ⟨zG_mem (List.mem_append_right _ (List.mem_of_getElem? (i := 275) (by decide +kernel))) (by decide +kernel), zG_mem (List.mem_append_right _ (List.mem_of_getElem? (i := 1) (by decide +kernel))) (by decide +kernel), by decide, by decide, by decide +kernel⟩
theorem cb_A_poke : zCb M_A_poke 4 := ⟨zG_mem (List.mem_append_right _ (List.mem_of_getElem? (i := 425) (by decide +kernel))) (by decide +kernel), zG_mem (List.mem_append_right _ (List.mem_of_getElem? (i := 1) (by decide +kernel))) (by decide +kernel), by decide, by decide, by decide +kernel⟩
theorem cb_A_pullApart : zCb M_A_pullApart 2 := ⟨zG_mem (List.mem_append_right _ (List.mem_of_getElem? (i := 446) (by decide +kernel))) (by decide +kernel), zG_mem (List.mem_append_right _ (List.mem_of_getElem? (i := 1) (by decide +kernel))) (by decide +kernel), by decide, by decide, by decide +kernel⟩
theorem cb_A_second : zCb M_A_second 1 := ⟨zG_mem (List.mem_append_right _ (List.mem_of_getElem? (i := 338) (by decide +kernel))) (by decide +kernel), zG_mem (List.mem_append_right _ (List.mem_of_getElem? (i := 1) (by decide +kernel))) (by decide +kernel), by decide, by decide, by decide +kernel⟩
theorem cb_A_slide : zCb M_A_slide 3 := ⟨zG_mem (List.mem_append_right _ (List.mem_of_getElem? (i := 471) (by decide +kernel))) (by decide +kernel), zG_mem (List.mem_append_right _ (List.mem_of_getElem? (i := 1) (by decide +kernel))) (by decide +kernel), by decide, by decide, by decide +kernel⟩
theorem cb_A_slideEdge : zCb M_A_slideEdge 1 := ⟨zG_mem (List.mem_append_right _ (List.mem_of_getElem? (i := 487) (by decide +kernel))) (by decide +kernel), zG_mem (List.mem_append_right _ (List.mem_of_getElem? (i := 1) (by decide +kernel))) (by decide +kernel), by decide, by decide, by decide +kernel⟩
theorem cb_A_slideFace : zCb M_A_slideFace 1 := ⟨zG_mem (List.mem_append_right _ (List.mem_of_getElem? (i := 483) (by decide +kernel))) (by decide +kernel), zG_mem (List.mem_append_right _ (List.mem_of_getElem? (i := 1) (by decide +kernel))) (by decide +kernel), by decide, by decide, by decide +kernel⟩
theorem cb_A_take : zCb M_A_take 1 := ⟨zG_mem (List.mem_append_right _ (List.mem_of_getElem? (i := 157) (by decide +kernel))) (by decide +kernel), zG_mem (List.mem_append_right _ (List.mem_of_getElem? (i := 1) (by decide +kernel))) (by decide +kernel), by decide, by decide, by decide +kernel⟩
theorem cb_A_turned : zCb M_A_turned 2 := ⟨zG_mem (List.mem_append_right _ (List.mem_of_getElem? (i := 214) (by decide +kernel))) (by decide +kernel), zG_mem (List.mem_append_right _ (List.mem_of_getElem? (i := 1) (by decide +kernel))) (by decide +kernel), by decide, by decide, by decide +kernel⟩
theorem cb_A_twist : zCb M_A_twist 2 := ⟨zG_mem (List.mem_append_right _ (List.mem_of_getElem? (i := 389) (by decide +kernel))) (by decide +kernel), zG_mem (List.mem_append_right _ (List.mem_of_getElem? (i := 1) (by decide +kernel))) (by decide +kernel), by decide, by decide, by decide +kernel⟩
theorem cb_A_unpoke : zCb M_A_unpoke 2 := ⟨zG_mem (List.mem_append_right _ (List.mem_of_getElem? (i := 434) (by decide +kernel))) (by decide +kernel), zG_mem (List.mem_append_right _ (List.mem_of_getElem? (i := 1) (by decide +kernel))) (by decide +kernel), by decide, by decide, by decide +kernel⟩
theorem cb_A_untwist : zCb M_A_untwist 1 := ⟨zG_mem (List.mem_append_right _ (List.mem_of_getElem? (i := 411) (by decide +kernel))) (by decide +kernel), zG_mem (List.mem_append_right _ (List.mem_of_getElem? (i := 1) (by decide +kernel))) (by decide +kernel), by decide, by decide, by decide +kernel⟩
theorem cb_A_weave : zCb M_A_weave 2 := ⟨zG_mem (List.mem_append_right _ (List.mem_of_getElem? (i := 252) (by decide +kernel))) (by decide +kernel), zG_mem (List.mem_append_right _ (List.mem_of_getElem? (i := 1) (by decide +kernel))) (by decide +kernel), by decide, by decide, by decide +kernel⟩
theorem cb_A_wordIsBelow : zCb M_A_wordIsBelow 1 := ⟨zG_mem (List.mem_append_right _ (List.mem_of_getElem? (i := 245) (by decide +kernel))) (by decide +kernel), zG_mem (List.mem_append_right _ (List.mem_of_getElem? (i := 1) (by decide +kernel))) (by decide +kernel), by decide, by decide, by decide +kernel⟩
theorem cb_B_addStates : zCb M_B_addStates 2 := ⟨zG_mem (List.mem_append_right _ (List.mem_of_getElem? (i := 333) (by decide +kernel))) (by decide +kernel), zG_mem (List.mem_append_right _ (List.mem_of_getElem? (i := 4) (by decide +kernel))) (by decide +kernel), by decide, by decide, by decide +kernel⟩
theorem cb_B_coefficient : zCb M_B_coefficient 3 := ⟨zG_mem (List.mem_append_right _ (List.mem_of_getElem? (i := 297) (by decide +kernel))) (by decide +kernel), zG_mem (List.mem_append_right _ (List.mem_of_getElem? (i := 4) (by decide +kernel))) (by decide +kernel), by decide, by decide, by decide +kernel⟩
theorem cb_B_curvesOf : zCb M_B_curvesOf 2 := ⟨zG_mem (List.mem_append_right _ (List.mem_of_getElem? (i := 311) (by decide +kernel))) (by decide +kernel), zG_mem (List.mem_append_right _ (List.mem_of_getElem? (i := 4) (by decide +kernel))) (by decide +kernel), by decide, by decide, by decide +kernel⟩
theorem cb_B_init : zCb M_B_init 0 := ⟨zG_mem (List.mem_append_right _ (List.mem_of_getElem? (i := 53) (by decide +kernel))) (by decide +kernel), zG_mem (List.mem_append_right _ (List.mem_of_getElem? (i := 4) (by decide +kernel))) (by decide +kernel), by decide, by decide, by decide +kernel⟩
theorem cb_B_multiplyByCurve : zCb M_B_multiplyByCurve 0 := ⟨zG_mem (List.mem_append_right _ (List.mem_of_getElem? (i := 329) (by decide +kernel))) (by decide +kernel), zG_mem (List.mem_append_right _ (List.mem_of_getElem? (i := 4) (by decide +kernel))) (by decide +kernel), by decide, by decide, by decide +kernel⟩
theorem cb_B_seenWithCurve : zCb M_B_seenWithCurve 3 := ⟨zG_mem (List.mem_append_right _ (List.mem_of_getElem? (i := 315) (by decide +kernel))) (by decide +kernel), zG_mem (List.mem_append_right _ (List.mem_of_getElem? (i := 4) (by decide +kernel))) (by decide +kernel), by decide, by decide, by decide +kernel⟩
theorem cb_B_tallyStates : zCb M_B_tallyStates 2 := ⟨zG_mem (List.mem_append_right _ (List.mem_of_getElem? (i := 303) (by decide +kernel))) (by decide +kernel), zG_mem (List.mem_append_right _ (List.mem_of_getElem? (i := 4) (by decide +kernel))) (by decide +kernel), by decide, by decide, by decide +kernel⟩
theorem cb_C_append : zCb M_C_append 5 := ⟨zG_mem (List.mem_append_right _ (List.mem_of_getElem? (i := 133) (by decide +kernel))) (by decide +kernel), zG_mem (List.mem_append_right _ (List.mem_of_getElem? (i := 2) (by decide +kernel))) (by decide +kernel), by decide, by decide, by decide +kernel⟩
theorem cb_C_bringIn : zCb M_C_bringIn 2 := ⟨zG_mem (List.mem_append_right _ (List.mem_of_getElem? (i := 402) (by decide +kernel))) (by decide +kernel), zG_mem (List.mem_append_right _ (List.mem_of_getElem? (i := 2) (by decide +kernel))) (by decide +kernel), by decide, by decide, by decide +kernel⟩
theorem cb_C_clear : zCb M_C_clear 0 := ⟨zG_mem (List.mem_append_right _ (List.mem_of_getElem? (i := 233) (by decide +kernel))) (by decide +kernel), zG_mem (List.mem_append_right _ (List.mem_of_getElem? (i := 2) (by decide +kernel))) (by decide +kernel), by decide, by decide, by decide +kernel⟩
theorem cb_C_comesIn : zCb M_C_comesIn 1 := ⟨zG_mem (List.mem_append_right _ (List.mem_of_getElem? (i := 177) (by decide +kernel))) (by decide +kernel), zG_mem (List.mem_append_right _ (List.mem_of_getElem? (i := 2) (by decide +kernel))) (by decide +kernel), by decide, by decide, by decide +kernel⟩
theorem cb_C_copyFrom : zCb M_C_copyFrom 1 := ⟨zG_mem (List.mem_append_right _ (List.mem_of_getElem? (i := 229) (by decide +kernel))) (by decide +kernel), zG_mem (List.mem_append_right _ (List.mem_of_getElem? (i := 2) (by decide +kernel))) (by decide +kernel), by decide, by decide, by decide +kernel⟩
theorem cb_C_edgeAt : zCb M_C_edgeAt 1 := ⟨zG_mem (List.mem_append_right _ (List.mem_of_getElem? (i := 173) (by decide +kernel))) (by decide +kernel), zG_mem (List.mem_append_right _ (List.mem_of_getElem? (i := 2) (by decide +kernel))) (by decide +kernel), by decide, by decide, by decide +kernel⟩
theorem cb_C_edgeBefore : zCb M_C_edgeBefore 1 := ⟨zG_mem (List.mem_append_right _ (List.mem_of_getElem? (i := 450) (by decide +kernel))) (by decide +kernel), zG_mem (List.mem_append_right _ (List.mem_of_getElem? (i := 2) (by decide +kernel))) (by decide +kernel), by decide, by decide, by decide +kernel⟩
theorem cb_C_edgeBehind : zCb M_C_edgeBehind 1 := ⟨zG_mem (List.mem_append_right _ (List.mem_of_getElem? (i := 459) (by decide +kernel))) (by decide +kernel), zG_mem (List.mem_append_right _ (List.mem_of_getElem? (i := 2) (by decide +kernel))) (by decide +kernel), by decide, by decide, by decide +kernel⟩
theorem cb_C_endOn : zCb M_C_endOn 2 := ⟨zG_mem (List.mem_append_right _ (List.mem_of_getElem? (i := 406) (by decide +kernel))) (by decide +kernel), zG_mem (List.mem_append_right _ (List.mem_of_getElem? (i := 2) (by decide +kernel))) (by decide +kernel), by decide, by decide, by decide +kernel⟩
theorem cb_C_ends : zCb M_C_ends 0 := ⟨zG_mem (List.mem_append_right _ (List.mem_of_getElem? (i := 165) (by decide +kernel))) (by decide +kernel), zG_mem (List.mem_append_right _ (List.mem_of_getElem? (i := 2) (by decide +kernel))) (by decide +kernel), by decide, by decide, by decide +kernel⟩
theorem cb_C_follow : zCb M_C_follow 1 := ⟨zG_mem (List.mem_append_right _ (List.mem_of_getElem? (i := 206) (by decide +kernel))) (by decide +kernel), zG_mem (List.mem_append_right _ (List.mem_of_getElem? (i := 2) (by decide +kernel))) (by decide +kernel), by decide, by decide, by decide +kernel⟩
theorem cb_C_has : zCb M_C_has 1 := ⟨zG_mem (List.mem_append_right _ (List.mem_of_getElem? (i := 150) (by decide +kernel))) (by decide +kernel), zG_mem (List.mem_append_right _ (List.mem_of_getElem? (i := 2) (by decide +kernel))) (by decide +kernel), by decide, by decide, by decide +kernel⟩
theorem cb_C_incoming : zCb M_C_incoming 1 := ⟨zG_mem (List.mem_append_right _ (List.mem_of_getElem? (i := 463) (by decide +kernel))) (by decide +kernel), zG_mem (List.mem_append_right _ (List.mem_of_getElem? (i := 2) (by decide +kernel))) (by decide +kernel), by decide, by decide, by decide +kernel⟩
theorem cb_C_init : zCb M_C_init 0 := ⟨zG_mem (List.mem_append_right _ (List.mem_of_getElem? (i := 23) (by decide +kernel))) (by decide +kernel), zG_mem (List.mem_append_right _ (List.mem_of_getElem? (i := 2) (by decide +kernel))) (by decide +kernel), by decide, by decide, by decide +kernel⟩
theorem cb_C_isFull : zCb M_C_isFull 0 := ⟨zG_mem (List.mem_append_right _ (List.mem_of_getElem? (i := 126) (by decide +kernel))) (by decide +kernel), zG_mem (List.mem_append_right _ (List.mem_of_getElem? (i := 2) (by decide +kernel))) (by decide +kernel), by decide, by decide, by decide +kernel⟩
theorem cb_C_isPositive : zCb M_C_isPositive 1 := ⟨zG_mem (List.mem_append_right _ (List.mem_of_getElem? (i := 187) (by decide +kernel))) (by decide +kernel), zG_mem (List.mem_append_right _ (List.mem_of_getElem? (i := 2) (by decide +kernel))) (by decide +kernel), by decide, by decide, by decide +kernel⟩
theorem cb_C_occurs : zCb M_C_occurs 1 := ⟨zG_mem (List.mem_append_right _ (List.mem_of_getElem? (i := 359) (by decide +kernel))) (by decide +kernel), zG_mem (List.mem_append_right _ (List.mem_of_getElem? (i := 2) (by decide +kernel))) (by decide +kernel), by decide, by decide, by decide +kernel⟩
theorem cb_C_otherEnd : zCb M_C_otherEnd 1 := ⟨zG_mem (List.mem_append_right _ (List.mem_of_getElem? (i := 210) (by decide +kernel))) (by decide +kernel), zG_mem (List.mem_append_right _ (List.mem_of_getElem? (i := 2) (by decide +kernel))) (by decide +kernel), by decide, by decide, by decide +kernel⟩
theorem cb_C_outgoing : zCb M_C_outgoing 1 := ⟨zG_mem (List.mem_append_right _ (List.mem_of_getElem? (i := 454) (by decide +kernel))) (by decide +kernel), zG_mem (List.mem_append_right _ (List.mem_of_getElem? (i := 2) (by decide +kernel))) (by decide +kernel), by decide, by decide, by decide +kernel⟩
theorem cb_C_remove : zCb M_C_remove 1 := ⟨zG_mem (List.mem_append_right _ (List.mem_of_getElem? (i := 146) (by decide +kernel))) (by decide +kernel), zG_mem (List.mem_append_right _ (List.mem_of_getElem? (i := 2) (by decide +kernel))) (by decide +kernel), by decide, by decide, by decide +kernel⟩
theorem cb_C_rename : zCb M_C_rename 2 := ⟨zG_mem (List.mem_append_right _ (List.mem_of_getElem? (i := 260) (by decide +kernel))) (by decide +kernel), zG_mem (List.mem_append_right _ (List.mem_of_getElem? (i := 2) (by decide +kernel))) (by decide +kernel), by decide, by decide, by decide +kernel⟩
theorem cb_C_setEdge : zCb M_C_setEdge 2 := ⟨zG_mem (List.mem_append_right _ (List.mem_of_getElem? (i := 494) (by decide +kernel))) (by decide +kernel), zG_mem (List.mem_append_right _ (List.mem_of_getElem? (i := 2) (by decide +kernel))) (by decide +kernel), by decide, by decide, by decide +kernel⟩
theorem cb_C_size : zCb M_C_size 0 := ⟨zG_mem (List.mem_append_right _ (List.mem_of_getElem? (i := 142) (by decide +kernel))) (by decide +kernel), zG_mem (List.mem_append_right _ (List.mem_of_getElem? (i := 2) (by decide +kernel))) (by decide +kernel), by decide, by decide, by decide +kernel⟩
theorem cb_C_writhe : zCb M_C_writhe 0 := ⟨zG_mem (List.mem_append_right _ (List.mem_of_getElem? (i := 279) (by decide +kernel))) (by decide +kernel), zG_mem (List.mem_append_right _ (List.mem_of_getElem? (i := 2) (by decide +kernel))) (by decide +kernel), by decide, by decide, by decide +kernel⟩
theorem cb_F_fillI : zCb M_F_fillI 2 := ⟨zG_mem (List.mem_append_right _ (List.mem_of_getElem? (i := 198) (by decide +kernel))) (by decide +kernel), zG_mem (List.mem_append_right _ (List.mem_of_getElem? (i := 8) (by decide +kernel))) (by decide +kernel), by decide, by decide, by decide +kernel⟩
theorem cb_F_fillL : zCb M_F_fillL 2 := ⟨zG_mem (List.mem_append_right _ (List.mem_of_getElem? (i := 325) (by decide +kernel))) (by decide +kernel), zG_mem (List.mem_append_right _ (List.mem_of_getElem? (i := 8) (by decide +kernel))) (by decide +kernel), by decide, by decide, by decide +kernel⟩
theorem cb_I_bitCount : zCb M_I_bitCount 1 := ⟨zG_mem (List.mem_append_right _ (List.mem_of_getElem? (i := 319) (by decide +kernel))) (by decide +kernel), zG_mem (List.mem_append_right _ (List.mem_of_getElem? (i := 10) (by decide +kernel))) (by decide +kernel), by decide, by decide, by decide +kernel⟩
theorem cb_M_addState : zCb M_M_addState 1 := ⟨zG_mem (List.mem_append_right _ (List.mem_of_getElem? (i := 656) (by decide +kernel))) (by decide +kernel), zG_mem (List.mem_append_right _ (List.mem_of_getElem? (i := 6) (by decide +kernel))) (by decide +kernel), by decide, by decide, by decide +kernel⟩
theorem cb_M_beyond : zCb M_M_beyond 2 := ⟨zG_mem (List.mem_append_right _ (List.mem_of_getElem? (i := 744) (by decide +kernel))) (by decide +kernel), zG_mem (List.mem_append_right _ (List.mem_of_getElem? (i := 6) (by decide +kernel))) (by decide +kernel), by decide, by decide, by decide +kernel⟩
theorem cb_M_braid : zCb M_M_braid 1 := ⟨zG_mem (List.mem_append_right _ (List.mem_of_getElem? (i := 626) (by decide +kernel))) (by decide +kernel), zG_mem (List.mem_append_right _ (List.mem_of_getElem? (i := 6) (by decide +kernel))) (by decide +kernel), by decide, by decide, by decide +kernel⟩
theorem cb_M_clear : zCb M_M_clear 0 := ⟨zG_mem (List.mem_append_right _ (List.mem_of_getElem? (i := 614) (by decide +kernel))) (by decide +kernel), zG_mem (List.mem_append_right _ (List.mem_of_getElem? (i := 6) (by decide +kernel))) (by decide +kernel), by decide, by decide, by decide +kernel⟩
theorem cb_M_count : zCb M_M_count 1 := ⟨zG_mem (List.mem_append_right _ (List.mem_of_getElem? (i := 633) (by decide +kernel))) (by decide +kernel), zG_mem (List.mem_append_right _ (List.mem_of_getElem? (i := 6) (by decide +kernel))) (by decide +kernel), by decide, by decide, by decide +kernel⟩
theorem cb_M_cross : zCb M_M_cross 5 := ⟨zG_mem (List.mem_append_right _ (List.mem_of_getElem? (i := 563) (by decide +kernel))) (by decide +kernel), zG_mem (List.mem_append_right _ (List.mem_of_getElem? (i := 6) (by decide +kernel))) (by decide +kernel), by decide, by decide, by decide +kernel⟩
theorem cb_M_doubleLoop : zCb M_M_doubleLoop 0 := ⟨zG_mem (List.mem_append_right _ (List.mem_of_getElem? (i := 660) (by decide +kernel))) (by decide +kernel), zG_mem (List.mem_append_right _ (List.mem_of_getElem? (i := 6) (by decide +kernel))) (by decide +kernel), by decide, by decide, by decide +kernel⟩
theorem cb_M_drop : zCb M_M_drop 0 := ⟨zG_mem (List.mem_append_right _ (List.mem_of_getElem? (i := 574) (by decide +kernel))) (by decide +kernel), zG_mem (List.mem_append_right _ (List.mem_of_getElem? (i := 6) (by decide +kernel))) (by decide +kernel), by decide, by decide, by decide +kernel⟩
theorem cb_M_end : zCb M_M_end 2 := ⟨zG_mem (List.mem_append_right _ (List.mem_of_getElem? (i := 648) (by decide +kernel))) (by decide +kernel), zG_mem (List.mem_append_right _ (List.mem_of_getElem? (i := 6) (by decide +kernel))) (by decide +kernel), by decide, by decide, by decide +kernel⟩
theorem cb_M_endOf : zCb M_M_endOf 2 := ⟨zG_mem (List.mem_append_right _ (List.mem_of_getElem? (i := 708) (by decide +kernel))) (by decide +kernel), zG_mem (List.mem_append_right _ (List.mem_of_getElem? (i := 6) (by decide +kernel))) (by decide +kernel), by decide, by decide, by decide +kernel⟩
theorem cb_M_entries : zCb M_M_entries 1 := ⟨zG_mem (List.mem_append_right _ (List.mem_of_getElem? (i := 680) (by decide +kernel))) (by decide +kernel), zG_mem (List.mem_append_right _ (List.mem_of_getElem? (i := 6) (by decide +kernel))) (by decide +kernel), by decide, by decide, by decide +kernel⟩
theorem cb_M_expand : zCb M_M_expand 3 := ⟨zG_mem (List.mem_append_right _ (List.mem_of_getElem? (i := 687) (by decide +kernel))) (by decide +kernel), zG_mem (List.mem_append_right _ (List.mem_of_getElem? (i := 6) (by decide +kernel))) (by decide +kernel), by decide, by decide, by decide +kernel⟩
theorem cb_M_face : zCb M_M_face 1 := ⟨zG_mem (List.mem_append_right _ (List.mem_of_getElem? (i := 602) (by decide +kernel))) (by decide +kernel), zG_mem (List.mem_append_right _ (List.mem_of_getElem? (i := 6) (by decide +kernel))) (by decide +kernel), by decide, by decide, by decide +kernel⟩
theorem cb_M_faces : zCb M_M_faces 0 := ⟨zG_mem (List.mem_append_right _ (List.mem_of_getElem? (i := 598) (by decide +kernel))) (by decide +kernel), zG_mem (List.mem_append_right _ (List.mem_of_getElem? (i := 6) (by decide +kernel))) (by decide +kernel), by decide, by decide, by decide +kernel⟩
theorem cb_M_first : zCb M_M_first 1 := ⟨zG_mem (List.mem_append_right _ (List.mem_of_getElem? (i := 652) (by decide +kernel))) (by decide +kernel), zG_mem (List.mem_append_right _ (List.mem_of_getElem? (i := 6) (by decide +kernel))) (by decide +kernel), by decide, by decide, by decide +kernel⟩
theorem cb_M_fit : zCb M_M_fit 0 := ⟨zG_mem (List.mem_append_right _ (List.mem_of_getElem? (i := 586) (by decide +kernel))) (by decide +kernel), zG_mem (List.mem_append_right _ (List.mem_of_getElem? (i := 6) (by decide +kernel))) (by decide +kernel), by decide, by decide, by decide +kernel⟩
theorem cb_M_follow : zCb M_M_follow 1 := ⟨zG_mem (List.mem_append_right _ (List.mem_of_getElem? (i := 606) (by decide +kernel))) (by decide +kernel), zG_mem (List.mem_append_right _ (List.mem_of_getElem? (i := 6) (by decide +kernel))) (by decide +kernel), by decide, by decide, by decide +kernel⟩
theorem cb_M_free : zCb M_M_free 1 := ⟨zG_mem (List.mem_append_right _ (List.mem_of_getElem? (i := 696) (by decide +kernel))) (by decide +kernel), zG_mem (List.mem_append_right _ (List.mem_of_getElem? (i := 6) (by decide +kernel))) (by decide +kernel), by decide, by decide, by decide +kernel⟩
theorem cb_M_in : zCb M_M_in 1 := ⟨zG_mem (List.mem_append_right _ (List.mem_of_getElem? (i := 594) (by decide +kernel))) (by decide +kernel), zG_mem (List.mem_append_right _ (List.mem_of_getElem? (i := 6) (by decide +kernel))) (by decide +kernel), by decide, by decide, by decide +kernel⟩
theorem cb_M_init : zCb M_M_init 0 := ⟨zG_mem (List.mem_append_right _ (List.mem_of_getElem? (i := 499) (by decide +kernel))) (by decide +kernel), zG_mem (List.mem_append_right _ (List.mem_of_getElem? (i := 6) (by decide +kernel))) (by decide +kernel), by decide, by decide, by decide +kernel⟩
theorem cb_M_instead : zCb M_M_instead 2 := ⟨zG_mem (List.mem_append_right _ (List.mem_of_getElem? (i := 704) (by decide +kernel))) (by decide +kernel), zG_mem (List.mem_append_right _ (List.mem_of_getElem? (i := 6) (by decide +kernel))) (by decide +kernel), by decide, by decide, by decide +kernel⟩
theorem cb_M_isCrossing : zCb M_M_isCrossing 1 := ⟨zG_mem (List.mem_append_right _ (List.mem_of_getElem? (i := 716) (by decide +kernel))) (by decide +kernel), zG_mem (List.mem_append_right _ (List.mem_of_getElem? (i := 6) (by decide +kernel))) (by decide +kernel), by decide, by decide, by decide +kernel⟩
theorem cb_M_isEdge : zCb M_M_isEdge 1 := ⟨zG_mem (List.mem_append_right _ (List.mem_of_getElem? (i := 566) (by decide +kernel))) (by decide +kernel), zG_mem (List.mem_append_right _ (List.mem_of_getElem? (i := 6) (by decide +kernel))) (by decide +kernel), by decide, by decide, by decide +kernel⟩
theorem cb_M_join : zCb M_M_join 2 := ⟨zG_mem (List.mem_append_right _ (List.mem_of_getElem? (i := 724) (by decide +kernel))) (by decide +kernel), zG_mem (List.mem_append_right _ (List.mem_of_getElem? (i := 6) (by decide +kernel))) (by decide +kernel), by decide, by decide, by decide +kernel⟩
theorem cb_M_kink : zCb M_M_kink 4 := ⟨zG_mem (List.mem_append_right _ (List.mem_of_getElem? (i := 700) (by decide +kernel))) (by decide +kernel), zG_mem (List.mem_append_right _ (List.mem_of_getElem? (i := 6) (by decide +kernel))) (by decide +kernel), by decide, by decide, by decide +kernel⟩
theorem cb_M_letter : zCb M_M_letter 1 := ⟨zG_mem (List.mem_append_right _ (List.mem_of_getElem? (i := 622) (by decide +kernel))) (by decide +kernel), zG_mem (List.mem_append_right _ (List.mem_of_getElem? (i := 6) (by decide +kernel))) (by decide +kernel), by decide, by decide, by decide +kernel⟩
theorem cb_M_level : zCb M_M_level 2 := ⟨zG_mem (List.mem_append_right _ (List.mem_of_getElem? (i := 736) (by decide +kernel))) (by decide +kernel), zG_mem (List.mem_append_right _ (List.mem_of_getElem? (i := 6) (by decide +kernel))) (by decide +kernel), by decide, by decide, by decide +kernel⟩
theorem cb_M_look : zCb M_M_look 1 := ⟨zG_mem (List.mem_append_right _ (List.mem_of_getElem? (i := 582) (by decide +kernel))) (by decide +kernel), zG_mem (List.mem_append_right _ (List.mem_of_getElem? (i := 6) (by decide +kernel))) (by decide +kernel), by decide, by decide, by decide +kernel⟩
theorem cb_M_merge : zCb M_M_merge 2 := ⟨zG_mem (List.mem_append_right _ (List.mem_of_getElem? (i := 672) (by decide +kernel))) (by decide +kernel), zG_mem (List.mem_append_right _ (List.mem_of_getElem? (i := 6) (by decide +kernel))) (by decide +kernel), by decide, by decide, by decide +kernel⟩
theorem cb_M_number : zCb M_M_number 0 := ⟨zG_mem (List.mem_append_right _ (List.mem_of_getElem? (i := 668) (by decide +kernel))) (by decide +kernel), zG_mem (List.mem_append_right _ (List.mem_of_getElem? (i := 6) (by decide +kernel))) (by decide +kernel), by decide, by decide, by decide +kernel⟩
theorem cb_M_occurs : zCb M_M_occurs 1 := ⟨zG_mem (List.mem_append_right _ (List.mem_of_getElem? (i := 676) (by decide +kernel))) (by decide +kernel), zG_mem (List.mem_append_right _ (List.mem_of_getElem? (i := 6) (by decide +kernel))) (by decide +kernel), by decide, by decide, by decide +kernel⟩
theorem cb_M_ones : zCb M_M_ones 1 := ⟨zG_mem (List.mem_append_right _ (List.mem_of_getElem? (i := 683) (by decide +kernel))) (by decide +kernel), zG_mem (List.mem_append_right _ (List.mem_of_getElem? (i := 6) (by decide +kernel))) (by decide +kernel), by decide, by decide, by decide +kernel⟩
theorem cb_M_opposite : zCb M_M_opposite 1 := ⟨zG_mem (List.mem_append_right _ (List.mem_of_getElem? (i := 747) (by decide +kernel))) (by decide +kernel), zG_mem (List.mem_append_right _ (List.mem_of_getElem? (i := 6) (by decide +kernel))) (by decide +kernel), by decide, by decide, by decide +kernel⟩
theorem cb_M_other : zCb M_M_other 1 := ⟨zG_mem (List.mem_append_right _ (List.mem_of_getElem? (i := 590) (by decide +kernel))) (by decide +kernel), zG_mem (List.mem_append_right _ (List.mem_of_getElem? (i := 6) (by decide +kernel))) (by decide +kernel), by decide, by decide, by decide +kernel⟩
theorem cb_M_pieces : zCb M_M_pieces 0 := ⟨zG_mem (List.mem_append_right _ (List.mem_of_getElem? (i := 610) (by decide +kernel))) (by decide +kernel), zG_mem (List.mem_append_right _ (List.mem_of_getElem? (i := 6) (by decide +kernel))) (by decide +kernel), by decide, by decide, by decide +kernel⟩
theorem cb_M_poke : zCb M_M_poke 4 := ⟨zG_mem (List.mem_append_right _ (List.mem_of_getElem? (i := 728) (by decide +kernel))) (by decide +kernel), zG_mem (List.mem_append_right _ (List.mem_of_getElem? (i := 6) (by decide +kernel))) (by decide +kernel), by decide, by decide, by decide +kernel⟩
theorem cb_M_pull : zCb M_M_pull 4 := ⟨zG_mem (List.mem_append_right _ (List.mem_of_getElem? (i := 740) (by decide +kernel))) (by decide +kernel), zG_mem (List.mem_append_right _ (List.mem_of_getElem? (i := 6) (by decide +kernel))) (by decide +kernel), by decide, by decide, by decide +kernel⟩
theorem cb_M_put : zCb M_M_put 6 := ⟨zG_mem (List.mem_append_right _ (List.mem_of_getElem? (i := 570) (by decide +kernel))) (by decide +kernel), zG_mem (List.mem_append_right _ (List.mem_of_getElem? (i := 6) (by decide +kernel))) (by decide +kernel), by decide, by decide, by decide +kernel⟩
theorem cb_M_rounds : zCb M_M_rounds 1 := ⟨zG_mem (List.mem_append_right _ (List.mem_of_getElem? (i := 637) (by decide +kernel))) (by decide +kernel), zG_mem (List.mem_append_right _ (List.mem_of_getElem? (i := 6) (by decide +kernel))) (by decide +kernel), by decide, by decide, by decide +kernel⟩
theorem cb_M_second : zCb M_M_second 1 := ⟨zG_mem (List.mem_append_right _ (List.mem_of_getElem? (i := 664) (by decide +kernel))) (by decide +kernel), zG_mem (List.mem_append_right _ (List.mem_of_getElem? (i := 6) (by decide +kernel))) (by decide +kernel), by decide, by decide, by decide +kernel⟩
theorem cb_M_size : zCb M_M_size 1 := ⟨zG_mem (List.mem_append_right _ (List.mem_of_getElem? (i := 629) (by decide +kernel))) (by decide +kernel), zG_mem (List.mem_append_right _ (List.mem_of_getElem? (i := 6) (by decide +kernel))) (by decide +kernel), by decide, by decide, by decide +kernel⟩
theorem cb_M_slide : zCb M_M_slide 3 := ⟨zG_mem (List.mem_append_right _ (List.mem_of_getElem? (i := 751) (by decide +kernel))) (by decide +kernel), zG_mem (List.mem_append_right _ (List.mem_of_getElem? (i := 6) (by decide +kernel))) (by decide +kernel), by decide, by decide, by decide +kernel⟩
theorem cb_M_slideEdge : zCb M_M_slideEdge 1 := ⟨zG_mem (List.mem_append_right _ (List.mem_of_getElem? (i := 755) (by decide +kernel))) (by decide +kernel), zG_mem (List.mem_append_right _ (List.mem_of_getElem? (i := 6) (by decide +kernel))) (by decide +kernel), by decide, by decide, by decide +kernel⟩
theorem cb_M_spread : zCb M_M_spread 1 := ⟨zG_mem (List.mem_append_right _ (List.mem_of_getElem? (i := 618) (by decide +kernel))) (by decide +kernel), zG_mem (List.mem_append_right _ (List.mem_of_getElem? (i := 6) (by decide +kernel))) (by decide +kernel), by decide, by decide, by decide +kernel⟩
theorem cb_M_take : zCb M_M_take 1 := ⟨zG_mem (List.mem_append_right _ (List.mem_of_getElem? (i := 578) (by decide +kernel))) (by decide +kernel), zG_mem (List.mem_append_right _ (List.mem_of_getElem? (i := 6) (by decide +kernel))) (by decide +kernel), by decide, by decide, by decide +kernel⟩
theorem cb_M_takeOut : zCb M_M_takeOut 1 := ⟨zG_mem (List.mem_append_right _ (List.mem_of_getElem? (i := 720) (by decide +kernel))) (by decide +kernel), zG_mem (List.mem_append_right _ (List.mem_of_getElem? (i := 6) (by decide +kernel))) (by decide +kernel), by decide, by decide, by decide +kernel⟩
theorem cb_M_through : zCb M_M_through 2 := ⟨zG_mem (List.mem_append_right _ (List.mem_of_getElem? (i := 640) (by decide +kernel))) (by decide +kernel), zG_mem (List.mem_append_right _ (List.mem_of_getElem? (i := 6) (by decide +kernel))) (by decide +kernel), by decide, by decide, by decide +kernel⟩
theorem cb_M_twist : zCb M_M_twist 2 := ⟨zG_mem (List.mem_append_right _ (List.mem_of_getElem? (i := 692) (by decide +kernel))) (by decide +kernel), zG_mem (List.mem_append_right _ (List.mem_of_getElem? (i := 6) (by decide +kernel))) (by decide +kernel), by decide, by decide, by decide +kernel⟩
theorem cb_M_unpoke : zCb M_M_unpoke 2 := ⟨zG_mem (List.mem_append_right _ (List.mem_of_getElem? (i := 732) (by decide +kernel))) (by decide +kernel), zG_mem (List.mem_append_right _ (List.mem_of_getElem? (i := 6) (by decide +kernel))) (by decide +kernel), by decide, by decide, by decide +kernel⟩
theorem cb_M_untwist : zCb M_M_untwist 1 := ⟨zG_mem (List.mem_append_right _ (List.mem_of_getElem? (i := 712) (by decide +kernel))) (by decide +kernel), zG_mem (List.mem_append_right _ (List.mem_of_getElem? (i := 6) (by decide +kernel))) (by decide +kernel), by decide, by decide, by decide +kernel⟩
theorem cb_M_writhe : zCb M_M_writhe 0 := ⟨zG_mem (List.mem_append_right _ (List.mem_of_getElem? (i := 644) (by decide +kernel))) (by decide +kernel), zG_mem (List.mem_append_right _ (List.mem_of_getElem? (i := 6) (by decide +kernel))) (by decide +kernel), by decide, by decide, by decide +kernel⟩
theorem cb_R_addEntry : zCb M_R_addEntry 5 := ⟨zG_mem (List.mem_append_right _ (List.mem_of_getElem? (i := 369) (by decide +kernel))) (by decide +kernel), zG_mem (List.mem_append_right _ (List.mem_of_getElem? (i := 5) (by decide +kernel))) (by decide +kernel), by decide, by decide, by decide +kernel⟩
theorem cb_R_addProduct : zCb M_R_addProduct 3 := ⟨zG_mem (List.mem_append_right _ (List.mem_of_getElem? (i := 381) (by decide +kernel))) (by decide +kernel), zG_mem (List.mem_append_right _ (List.mem_of_getElem? (i := 5) (by decide +kernel))) (by decide +kernel), by decide, by decide, by decide +kernel⟩
theorem cb_R_coefficient : zCb M_R_coefficient 3 := ⟨zG_mem (List.mem_append_right _ (List.mem_of_getElem? (i := 342) (by decide +kernel))) (by decide +kernel), zG_mem (List.mem_append_right _ (List.mem_of_getElem? (i := 5) (by decide +kernel))) (by decide +kernel), by decide, by decide, by decide +kernel⟩
theorem cb_R_expandMinors : zCb M_R_expandMinors 1 := ⟨zG_mem (List.mem_append_right _ (List.mem_of_getElem? (i := 375) (by decide +kernel))) (by decide +kernel), zG_mem (List.mem_append_right _ (List.mem_of_getElem? (i := 5) (by decide +kernel))) (by decide +kernel), by decide, by decide, by decide +kernel⟩
theorem cb_R_fillMatrix : zCb M_R_fillMatrix 2 := ⟨zG_mem (List.mem_append_right _ (List.mem_of_getElem? (i := 363) (by decide +kernel))) (by decide +kernel), zG_mem (List.mem_append_right _ (List.mem_of_getElem? (i := 5) (by decide +kernel))) (by decide +kernel), by decide, by decide, by decide +kernel⟩
theorem cb_R_init : zCb M_R_init 0 := ⟨zG_mem (List.mem_append_right _ (List.mem_of_getElem? (i := 70) (by decide +kernel))) (by decide +kernel), zG_mem (List.mem_append_right _ (List.mem_of_getElem? (i := 5) (by decide +kernel))) (by decide +kernel), by decide, by decide, by decide +kernel⟩
theorem cb_R_mergeArcs : zCb M_R_mergeArcs 2 := ⟨zG_mem (List.mem_append_right _ (List.mem_of_getElem? (i := 352) (by decide +kernel))) (by decide +kernel), zG_mem (List.mem_append_right _ (List.mem_of_getElem? (i := 5) (by decide +kernel))) (by decide +kernel), by decide, by decide, by decide +kernel⟩
theorem cb_R_normalCoefficient : zCb M_R_normalCoefficient 2 := ⟨zG_mem (List.mem_append_right _ (List.mem_of_getElem? (i := 385) (by decide +kernel))) (by decide +kernel), zG_mem (List.mem_append_right _ (List.mem_of_getElem? (i := 5) (by decide +kernel))) (by decide +kernel), by decide, by decide, by decide +kernel⟩
theorem cb_R_numberArcs : zCb M_R_numberArcs 1 := ⟨zG_mem (List.mem_append_right _ (List.mem_of_getElem? (i := 346) (by decide +kernel))) (by decide +kernel), zG_mem (List.mem_append_right _ (List.mem_of_getElem? (i := 5) (by decide +kernel))) (by decide +kernel), by decide, by decide, by decide +kernel⟩
theorem cb_S_faces : zCb M_S_faces 1 := ⟨zG_mem (List.mem_append_right _ (List.mem_of_getElem? (i := 195) (by decide +kernel))) (by decide +kernel), zG_mem (List.mem_append_right _ (List.mem_of_getElem? (i := 3) (by decide +kernel))) (by decide +kernel), by decide, by decide, by decide +kernel⟩
theorem cb_S_fits : zCb M_S_fits 1 := ⟨zG_mem (List.mem_append_right _ (List.mem_of_getElem? (i := 161) (by decide +kernel))) (by decide +kernel), zG_mem (List.mem_append_right _ (List.mem_of_getElem? (i := 3) (by decide +kernel))) (by decide +kernel), by decide, by decide, by decide +kernel⟩
theorem cb_S_fitsAt : zCb M_S_fitsAt 2 := ⟨zG_mem (List.mem_append_right _ (List.mem_of_getElem? (i := 169) (by decide +kernel))) (by decide +kernel), zG_mem (List.mem_append_right _ (List.mem_of_getElem? (i := 3) (by decide +kernel))) (by decide +kernel), by decide, by decide, by decide +kernel⟩
theorem cb_S_init : zCb M_S_init 0 := ⟨zG_mem (List.mem_append_right _ (List.mem_of_getElem? (i := 40) (by decide +kernel))) (by decide +kernel), zG_mem (List.mem_append_right _ (List.mem_of_getElem? (i := 3) (by decide +kernel))) (by decide +kernel), by decide, by decide, by decide +kernel⟩
theorem cb_S_isFlat : zCb M_S_isFlat 1 := ⟨zG_mem (List.mem_append_right _ (List.mem_of_getElem? (i := 191) (by decide +kernel))) (by decide +kernel), zG_mem (List.mem_append_right _ (List.mem_of_getElem? (i := 3) (by decide +kernel))) (by decide +kernel), by decide, by decide, by decide +kernel⟩
theorem cb_S_markFace : zCb M_S_markFace 2 := ⟨zG_mem (List.mem_append_right _ (List.mem_of_getElem? (i := 202) (by decide +kernel))) (by decide +kernel), zG_mem (List.mem_append_right _ (List.mem_of_getElem? (i := 3) (by decide +kernel))) (by decide +kernel), by decide, by decide, by decide +kernel⟩
theorem cb_S_markStrand : zCb M_S_markStrand 2 := ⟨zG_mem (List.mem_append_right _ (List.mem_of_getElem? (i := 272) (by decide +kernel))) (by decide +kernel), zG_mem (List.mem_append_right _ (List.mem_of_getElem? (i := 3) (by decide +kernel))) (by decide +kernel), by decide, by decide, by decide +kernel⟩
theorem cb_S_mergePieces : zCb M_S_mergePieces 2 := ⟨zG_mem (List.mem_append_right _ (List.mem_of_getElem? (i := 225) (by decide +kernel))) (by decide +kernel), zG_mem (List.mem_append_right _ (List.mem_of_getElem? (i := 3) (by decide +kernel))) (by decide +kernel), by decide, by decide, by decide +kernel⟩
theorem cb_S_pieces : zCb M_S_pieces 1 := ⟨zG_mem (List.mem_append_right _ (List.mem_of_getElem? (i := 219) (by decide +kernel))) (by decide +kernel), zG_mem (List.mem_append_right _ (List.mem_of_getElem? (i := 3) (by decide +kernel))) (by decide +kernel), by decide, by decide, by decide +kernel⟩
theorem cb_S_sameFace : zCb M_S_sameFace 3 := ⟨zG_mem (List.mem_append_right _ (List.mem_of_getElem? (i := 430) (by decide +kernel))) (by decide +kernel), zG_mem (List.mem_append_right _ (List.mem_of_getElem? (i := 3) (by decide +kernel))) (by decide +kernel), by decide, by decide, by decide +kernel⟩
theorem cb_S_strands : zCb M_S_strands 1 := ⟨zG_mem (List.mem_append_right _ (List.mem_of_getElem? (i := 268) (by decide +kernel))) (by decide +kernel), zG_mem (List.mem_append_right _ (List.mem_of_getElem? (i := 3) (by decide +kernel))) (by decide +kernel), by decide, by decide, by decide +kernel⟩
theorem c_R_5 : Cond.methodLink "LinkDiagram$ArcMatrix" 5 objectInit ∈ zG := zG_mem (List.mem_append_right _ (List.mem_of_getElem? (i := 71) (by decide +kernel))) (by decide +kernel)
theorem c_R_28 : zV "LinkDiagram$ArcMatrix" 28 0 M_R_numberArcs 1 := ⟨cb_R_numberArcs, Or.inl (zG_mem (List.mem_append_right _ (List.mem_of_getElem? (i := 343) (by decide +kernel))) (by decide +kernel)), zG_mem (List.mem_append_right _ (List.mem_of_getElem? (i := 345) (by decide +kernel))) (by decide +kernel), zG_mem (List.mem_append_left _ (List.mem_of_getElem? (i := 12) (by decide +kernel))) (by decide +kernel), T_R, 5, rfl⟩
theorem c_R_32 : zV "LinkDiagram$ArcMatrix" 32 2 M_C_size 0 := ⟨cb_C_size, Or.inl (zG_mem (List.mem_append_right _ (List.mem_of_getElem? (i := 347) (by decide +kernel))) (by decide +kernel)), zG_mem (List.mem_append_right _ (List.mem_of_getElem? (i := 140) (by decide +kernel))) (by decide +kernel), zG_mem (List.mem_append_right _ (List.mem_of_getElem? (i := 141) (by decide +kernel))) (by decide +kernel), T_C, 3, rfl⟩
theorem c_R_38 : zV "LinkDiagram$ArcMatrix" 38 0 M_R_fillMatrix 2 := ⟨cb_R_fillMatrix, Or.inl (zG_mem (List.mem_append_right _ (List.mem_of_getElem? (i := 360) (by decide +kernel))) (by decide +kernel)), zG_mem (List.mem_append_right _ (List.mem_of_getElem? (i := 362) (by decide +kernel))) (by decide +kernel), zG_mem (List.mem_append_left _ (List.mem_of_getElem? (i := 14) (by decide +kernel))) (by decide +kernel), T_R, 5, rfl⟩
theorem c_R_42 : zV "LinkDiagram$ArcMatrix" 42 0 M_R_expandMinors 1 := ⟨cb_R_expandMinors, Or.inl (zG_mem (List.mem_append_right _ (List.mem_of_getElem? (i := 372) (by decide +kernel))) (by decide +kernel)), zG_mem (List.mem_append_right _ (List.mem_of_getElem? (i := 374) (by decide +kernel))) (by decide +kernel), zG_mem (List.mem_append_left _ (List.mem_of_getElem? (i := 16) (by decide +kernel))) (by decide +kernel), T_R, 5, rfl⟩
theorem c_R_46 : zV "LinkDiagram$ArcMatrix" 46 0 M_R_normalCoefficient 2 := ⟨cb_R_normalCoefficient, Or.inl (zG_mem (List.mem_append_right _ (List.mem_of_getElem? (i := 382) (by decide +kernel))) (by decide +kernel)), zG_mem (List.mem_append_right _ (List.mem_of_getElem? (i := 384) (by decide +kernel))) (by decide +kernel), zG_mem (List.mem_append_left _ (List.mem_of_getElem? (i := 18) (by decide +kernel))) (by decide +kernel), T_R, 5, rfl⟩
theorem c_R_50 : zV "LinkDiagram$ArcMatrix" 50 2 M_C_edgeAt 1 := ⟨cb_C_edgeAt, Or.inl (zG_mem (List.mem_append_right _ (List.mem_of_getElem? (i := 348) (by decide +kernel))) (by decide +kernel)), zG_mem (List.mem_append_right _ (List.mem_of_getElem? (i := 171) (by decide +kernel))) (by decide +kernel), zG_mem (List.mem_append_right _ (List.mem_of_getElem? (i := 172) (by decide +kernel))) (by decide +kernel), T_C, 3, rfl⟩
theorem c_R_54 : zV "LinkDiagram$ArcMatrix" 54 0 M_R_mergeArcs 2 := ⟨cb_R_mergeArcs, Or.inl (zG_mem (List.mem_append_right _ (List.mem_of_getElem? (i := 349) (by decide +kernel))) (by decide +kernel)), zG_mem (List.mem_append_right _ (List.mem_of_getElem? (i := 351) (by decide +kernel))) (by decide +kernel), zG_mem (List.mem_append_left _ (List.mem_of_getElem? (i := 13) (by decide +kernel))) (by decide +kernel), T_R, 5, rfl⟩
theorem c_R_58 : zV "LinkDiagram$ArcMatrix" 58 2 M_C_occurs 1 := ⟨cb_C_occurs, Or.inl (zG_mem (List.mem_append_right _ (List.mem_of_getElem? (i := 356) (by decide +kernel))) (by decide +kernel)), zG_mem (List.mem_append_right _ (List.mem_of_getElem? (i := 357) (by decide +kernel))) (by decide +kernel), zG_mem (List.mem_append_right _ (List.mem_of_getElem? (i := 358) (by decide +kernel))) (by decide +kernel), T_C, 3, rfl⟩
theorem c_R_62 : Cond.methodLink "LinkDiagram$ArcMatrix" 62 Lib.Math.min.name ∈ zG := zG_mem (List.mem_append_right _ (List.mem_of_getElem? (i := 353) (by decide +kernel))) (by decide +kernel)
theorem c_R_68 : zS "LinkDiagram$ArcMatrix" 68 M_F_fillI 2 := ⟨cb_F_fillI, Or.inl (zG_mem (List.mem_append_right _ (List.mem_of_getElem? (i := 364) (by decide +kernel))) (by decide +kernel)), zG_mem (List.mem_append_right _ (List.mem_of_getElem? (i := 197) (by decide +kernel))) (by decide +kernel)⟩
theorem c_R_74 : zV "LinkDiagram$ArcMatrix" 74 2 M_C_isPositive 1 := ⟨cb_C_isPositive, Or.inl (zG_mem (List.mem_append_right _ (List.mem_of_getElem? (i := 365) (by decide +kernel))) (by decide +kernel)), zG_mem (List.mem_append_right _ (List.mem_of_getElem? (i := 185) (by decide +kernel))) (by decide +kernel), zG_mem (List.mem_append_right _ (List.mem_of_getElem? (i := 186) (by decide +kernel))) (by decide +kernel), T_C, 3, rfl⟩
theorem c_R_77 : zV "LinkDiagram$ArcMatrix" 77 0 M_R_addEntry 5 := ⟨cb_R_addEntry, Or.inl (zG_mem (List.mem_append_right _ (List.mem_of_getElem? (i := 366) (by decide +kernel))) (by decide +kernel)), zG_mem (List.mem_append_right _ (List.mem_of_getElem? (i := 368) (by decide +kernel))) (by decide +kernel), zG_mem (List.mem_append_left _ (List.mem_of_getElem? (i := 15) (by decide +kernel))) (by decide +kernel), T_R, 5, rfl⟩
theorem c_R_81 : zS "LinkDiagram$ArcMatrix" 81 M_A_opposite 1 := ⟨cb_A_opposite, Or.inr ⟨"LinkDiagram", List.mem_of_getElem? (i := 11) (by decide +kernel)⟩, zG_mem (List.mem_append_right _ (List.mem_of_getElem? (i := 274) (by decide +kernel))) (by decide +kernel)⟩
theorem c_R_84 : zS "LinkDiagram$ArcMatrix" 84 M_A_crossingOf 1 := ⟨cb_A_crossingOf, Or.inr ⟨"LinkDiagram", List.mem_of_getElem? (i := 10) (by decide +kernel)⟩, zG_mem (List.mem_append_right _ (List.mem_of_getElem? (i := 182) (by decide +kernel))) (by decide +kernel)⟩
theorem c_R_87 : zS "LinkDiagram$ArcMatrix" 87 M_F_fillL 2 := ⟨cb_F_fillL, Or.inl (zG_mem (List.mem_append_right _ (List.mem_of_getElem? (i := 376) (by decide +kernel))) (by decide +kernel)), zG_mem (List.mem_append_right _ (List.mem_of_getElem? (i := 324) (by decide +kernel))) (by decide +kernel)⟩
theorem c_R_90 : zS "LinkDiagram$ArcMatrix" 90 M_I_bitCount 1 := ⟨cb_I_bitCount, Or.inl (zG_mem (List.mem_append_right _ (List.mem_of_getElem? (i := 377) (by decide +kernel))) (by decide +kernel)), zG_mem (List.mem_append_right _ (List.mem_of_getElem? (i := 318) (by decide +kernel))) (by decide +kernel)⟩
theorem c_R_95 : zV "LinkDiagram$ArcMatrix" 95 0 M_R_addProduct 3 := ⟨cb_R_addProduct, Or.inl (zG_mem (List.mem_append_right _ (List.mem_of_getElem? (i := 378) (by decide +kernel))) (by decide +kernel)), zG_mem (List.mem_append_right _ (List.mem_of_getElem? (i := 380) (by decide +kernel))) (by decide +kernel), zG_mem (List.mem_append_left _ (List.mem_of_getElem? (i := 17) (by decide +kernel))) (by decide +kernel), T_R, 5, rfl⟩
theorem c_B_5 : Cond.methodLink "LinkDiagram$Bracket" 5 objectInit ∈ zG := zG_mem (List.mem_append_right _ (List.mem_of_getElem? (i := 54) (by decide +kernel))) (by decide +kernel)
theorem c_B_26 : zV "LinkDiagram$Bracket" 26 1 M_B_tallyStates 2 := ⟨cb_B_tallyStates, Or.inl (zG_mem (List.mem_append_right _ (List.mem_of_getElem? (i := 300) (by decide +kernel))) (by decide +kernel)), zG_mem (List.mem_append_right _ (List.mem_of_getElem? (i := 302) (by decide +kernel))) (by decide +kernel), zG_mem (List.mem_append_left _ (List.mem_of_getElem? (i := 7) (by decide +kernel))) (by decide +kernel), T_B, 3, rfl⟩
theorem c_B_30 : zS "LinkDiagram$Bracket" 30 M_F_fillL 2 := ⟨cb_F_fillL, Or.inl (zG_mem (List.mem_append_right _ (List.mem_of_getElem? (i := 323) (by decide +kernel))) (by decide +kernel)), zG_mem (List.mem_append_right _ (List.mem_of_getElem? (i := 324) (by decide +kernel))) (by decide +kernel)⟩
theorem c_B_36 : zV "LinkDiagram$Bracket" 36 1 M_B_multiplyByCurve 0 := ⟨cb_B_multiplyByCurve, Or.inl (zG_mem (List.mem_append_right _ (List.mem_of_getElem? (i := 326) (by decide +kernel))) (by decide +kernel)), zG_mem (List.mem_append_right _ (List.mem_of_getElem? (i := 328) (by decide +kernel))) (by decide +kernel), zG_mem (List.mem_append_left _ (List.mem_of_getElem? (i := 10) (by decide +kernel))) (by decide +kernel), T_B, 3, rfl⟩
theorem c_B_39 : zV "LinkDiagram$Bracket" 39 2 M_C_size 0 := ⟨cb_C_size, Or.inl (zG_mem (List.mem_append_right _ (List.mem_of_getElem? (i := 307) (by decide +kernel))) (by decide +kernel)), zG_mem (List.mem_append_right _ (List.mem_of_getElem? (i := 140) (by decide +kernel))) (by decide +kernel), zG_mem (List.mem_append_right _ (List.mem_of_getElem? (i := 141) (by decide +kernel))) (by decide +kernel), T_C, 3, rfl⟩
theorem c_B_45 : zV "LinkDiagram$Bracket" 45 1 M_B_addStates 2 := ⟨cb_B_addStates, Or.inl (zG_mem (List.mem_append_right _ (List.mem_of_getElem? (i := 330) (by decide +kernel))) (by decide +kernel)), zG_mem (List.mem_append_right _ (List.mem_of_getElem? (i := 332) (by decide +kernel))) (by decide +kernel), zG_mem (List.mem_append_left _ (List.mem_of_getElem? (i := 11) (by decide +kernel))) (by decide +kernel), T_B, 3, rfl⟩
theorem c_B_49 : zS "LinkDiagram$Bracket" 49 M_F_fillI 2 := ⟨cb_F_fillI, Or.inl (zG_mem (List.mem_append_right _ (List.mem_of_getElem? (i := 304) (by decide +kernel))) (by decide +kernel)), zG_mem (List.mem_append_right _ (List.mem_of_getElem? (i := 197) (by decide +kernel))) (by decide +kernel)⟩
theorem c_B_52 : zV "LinkDiagram$Bracket" 52 2 M_C_ends 0 := ⟨cb_C_ends, Or.inl (zG_mem (List.mem_append_right _ (List.mem_of_getElem? (i := 305) (by decide +kernel))) (by decide +kernel)), zG_mem (List.mem_append_right _ (List.mem_of_getElem? (i := 163) (by decide +kernel))) (by decide +kernel), zG_mem (List.mem_append_right _ (List.mem_of_getElem? (i := 164) (by decide +kernel))) (by decide +kernel), T_C, 3, rfl⟩
theorem c_B_55 : zV "LinkDiagram$Bracket" 55 2 M_C_otherEnd 1 := ⟨cb_C_otherEnd, Or.inl (zG_mem (List.mem_append_right _ (List.mem_of_getElem? (i := 306) (by decide +kernel))) (by decide +kernel)), zG_mem (List.mem_append_right _ (List.mem_of_getElem? (i := 208) (by decide +kernel))) (by decide +kernel), zG_mem (List.mem_append_right _ (List.mem_of_getElem? (i := 209) (by decide +kernel))) (by decide +kernel), T_C, 3, rfl⟩
theorem c_B_59 : zV "LinkDiagram$Bracket" 59 1 M_B_curvesOf 2 := ⟨cb_B_curvesOf, Or.inl (zG_mem (List.mem_append_right _ (List.mem_of_getElem? (i := 308) (by decide +kernel))) (by decide +kernel)), zG_mem (List.mem_append_right _ (List.mem_of_getElem? (i := 310) (by decide +kernel))) (by decide +kernel), zG_mem (List.mem_append_left _ (List.mem_of_getElem? (i := 8) (by decide +kernel))) (by decide +kernel), T_B, 3, rfl⟩
theorem c_B_63 : zS "LinkDiagram$Bracket" 63 M_I_bitCount 1 := ⟨cb_I_bitCount, Or.inl (zG_mem (List.mem_append_right _ (List.mem_of_getElem? (i := 317) (by decide +kernel))) (by decide +kernel)), zG_mem (List.mem_append_right _ (List.mem_of_getElem? (i := 318) (by decide +kernel))) (by decide +kernel)⟩
theorem c_B_68 : zV "LinkDiagram$Bracket" 68 1 M_B_seenWithCurve 3 := ⟨cb_B_seenWithCurve, Or.inl (zG_mem (List.mem_append_right _ (List.mem_of_getElem? (i := 312) (by decide +kernel))) (by decide +kernel)), zG_mem (List.mem_append_right _ (List.mem_of_getElem? (i := 314) (by decide +kernel))) (by decide +kernel), zG_mem (List.mem_append_left _ (List.mem_of_getElem? (i := 9) (by decide +kernel))) (by decide +kernel), T_B, 3, rfl⟩
theorem c_B_72 : zS "LinkDiagram$Bracket" 72 M_A_crossingOf 1 := ⟨cb_A_crossingOf, Or.inr ⟨"LinkDiagram", List.mem_of_getElem? (i := 9) (by decide +kernel)⟩, zG_mem (List.mem_append_right _ (List.mem_of_getElem? (i := 182) (by decide +kernel))) (by decide +kernel)⟩
theorem c_C_3 : Cond.methodLink "LinkDiagram$Crossings" 3 objectInit ∈ zG := zG_mem (List.mem_append_right _ (List.mem_of_getElem? (i := 24) (by decide +kernel))) (by decide +kernel)
theorem c_C_22 : zV "LinkDiagram$Crossings" 22 2 M_C_isFull 0 := ⟨cb_C_isFull, Or.inl (zG_mem (List.mem_append_right _ (List.mem_of_getElem? (i := 134) (by decide +kernel))) (by decide +kernel)), zG_mem (List.mem_append_right _ (List.mem_of_getElem? (i := 124) (by decide +kernel))) (by decide +kernel), zG_mem (List.mem_append_right _ (List.mem_of_getElem? (i := 125) (by decide +kernel))) (by decide +kernel), T_C, 3, rfl⟩
theorem c_C_26 : zV "LinkDiagram$Crossings" 26 2 M_C_has 1 := ⟨cb_C_has, Or.inl (zG_mem (List.mem_append_right _ (List.mem_of_getElem? (i := 147) (by decide +kernel))) (by decide +kernel)), zG_mem (List.mem_append_right _ (List.mem_of_getElem? (i := 148) (by decide +kernel))) (by decide +kernel), zG_mem (List.mem_append_right _ (List.mem_of_getElem? (i := 149) (by decide +kernel))) (by decide +kernel), T_C, 3, rfl⟩
theorem c_C_30 : Cond.methodLink "LinkDiagram$Crossings" 30 arraycopyName ∈ zG := zG_mem (List.mem_append_right _ (List.mem_of_getElem? (i := 151) (by decide +kernel))) (by decide +kernel)
theorem c_C_36 : zS "LinkDiagram$Crossings" 36 M_A_isUpper 1 := ⟨cb_A_isUpper, Or.inr ⟨"LinkDiagram", List.mem_of_getElem? (i := 4) (by decide +kernel)⟩, zG_mem (List.mem_append_right _ (List.mem_of_getElem? (i := 179) (by decide +kernel))) (by decide +kernel)⟩
theorem c_C_39 : zS "LinkDiagram$Crossings" 39 M_A_crossingOf 1 := ⟨cb_A_crossingOf, Or.inr ⟨"LinkDiagram", List.mem_of_getElem? (i := 5) (by decide +kernel)⟩, zG_mem (List.mem_append_right _ (List.mem_of_getElem? (i := 182) (by decide +kernel))) (by decide +kernel)⟩
theorem c_C_43 : zV "LinkDiagram$Crossings" 43 2 M_C_isPositive 1 := ⟨cb_C_isPositive, Or.inl (zG_mem (List.mem_append_right _ (List.mem_of_getElem? (i := 184) (by decide +kernel))) (by decide +kernel)), zG_mem (List.mem_append_right _ (List.mem_of_getElem? (i := 185) (by decide +kernel))) (by decide +kernel), zG_mem (List.mem_append_right _ (List.mem_of_getElem? (i := 186) (by decide +kernel))) (by decide +kernel), T_C, 3, rfl⟩
theorem c_C_46 : zV "LinkDiagram$Crossings" 46 2 M_C_ends 0 := ⟨cb_C_ends, Or.inl (zG_mem (List.mem_append_right _ (List.mem_of_getElem? (i := 211) (by decide +kernel))) (by decide +kernel)), zG_mem (List.mem_append_right _ (List.mem_of_getElem? (i := 163) (by decide +kernel))) (by decide +kernel), zG_mem (List.mem_append_right _ (List.mem_of_getElem? (i := 164) (by decide +kernel))) (by decide +kernel), T_C, 3, rfl⟩
theorem c_C_50 : zV "LinkDiagram$Crossings" 50 2 M_C_otherEnd 1 := ⟨cb_C_otherEnd, Or.inl (zG_mem (List.mem_append_right _ (List.mem_of_getElem? (i := 207) (by decide +kernel))) (by decide +kernel)), zG_mem (List.mem_append_right _ (List.mem_of_getElem? (i := 208) (by decide +kernel))) (by decide +kernel), zG_mem (List.mem_append_right _ (List.mem_of_getElem? (i := 209) (by decide +kernel))) (by decide +kernel), T_C, 3, rfl⟩
theorem c_C_53 : zS "LinkDiagram$Crossings" 53 M_A_turned 2 := ⟨cb_A_turned, Or.inr ⟨"LinkDiagram", List.mem_of_getElem? (i := 6) (by decide +kernel)⟩, zG_mem (List.mem_append_right _ (List.mem_of_getElem? (i := 213) (by decide +kernel))) (by decide +kernel)⟩
theorem c_C_57 : zV "LinkDiagram$Crossings" 57 2 M_C_comesIn 1 := ⟨cb_C_comesIn, Or.inl (zG_mem (List.mem_append_right _ (List.mem_of_getElem? (i := 407) (by decide +kernel))) (by decide +kernel)), zG_mem (List.mem_append_right _ (List.mem_of_getElem? (i := 175) (by decide +kernel))) (by decide +kernel), zG_mem (List.mem_append_right _ (List.mem_of_getElem? (i := 176) (by decide +kernel))) (by decide +kernel), T_C, 3, rfl⟩
theorem c_C_60 : zV "LinkDiagram$Crossings" 60 2 M_C_outgoing 1 := ⟨cb_C_outgoing, Or.inl (zG_mem (List.mem_append_right _ (List.mem_of_getElem? (i := 451) (by decide +kernel))) (by decide +kernel)), zG_mem (List.mem_append_right _ (List.mem_of_getElem? (i := 452) (by decide +kernel))) (by decide +kernel), zG_mem (List.mem_append_right _ (List.mem_of_getElem? (i := 453) (by decide +kernel))) (by decide +kernel), T_C, 3, rfl⟩
theorem c_C_63 : zS "LinkDiagram$Crossings" 63 M_A_opposite 1 := ⟨cb_A_opposite, Or.inr ⟨"LinkDiagram", List.mem_of_getElem? (i := 12) (by decide +kernel)⟩, zG_mem (List.mem_append_right _ (List.mem_of_getElem? (i := 274) (by decide +kernel))) (by decide +kernel)⟩
theorem c_C_66 : zV "LinkDiagram$Crossings" 66 2 M_C_incoming 1 := ⟨cb_C_incoming, Or.inl (zG_mem (List.mem_append_right _ (List.mem_of_getElem? (i := 460) (by decide +kernel))) (by decide +kernel)), zG_mem (List.mem_append_right _ (List.mem_of_getElem? (i := 461) (by decide +kernel))) (by decide +kernel), zG_mem (List.mem_append_right _ (List.mem_of_getElem? (i := 462) (by decide +kernel))) (by decide +kernel), T_C, 3, rfl⟩
theorem c_C_69 : zV "LinkDiagram$Crossings" 69 2 M_C_endOn 2 := ⟨cb_C_endOn, Or.inl (zG_mem (List.mem_append_right _ (List.mem_of_getElem? (i := 403) (by decide +kernel))) (by decide +kernel)), zG_mem (List.mem_append_right _ (List.mem_of_getElem? (i := 404) (by decide +kernel))) (by decide +kernel), zG_mem (List.mem_append_right _ (List.mem_of_getElem? (i := 405) (by decide +kernel))) (by decide +kernel), T_C, 3, rfl⟩
theorem c_S_3 : Cond.methodLink "LinkDiagram$Shape" 3 objectInit ∈ zG := zG_mem (List.mem_append_right _ (List.mem_of_getElem? (i := 41) (by decide +kernel))) (by decide +kernel)
theorem c_S_18 : zV "LinkDiagram$Shape" 18 2 M_C_ends 0 := ⟨cb_C_ends, Or.inl (zG_mem (List.mem_append_right _ (List.mem_of_getElem? (i := 162) (by decide +kernel))) (by decide +kernel)), zG_mem (List.mem_append_right _ (List.mem_of_getElem? (i := 163) (by decide +kernel))) (by decide +kernel), zG_mem (List.mem_append_right _ (List.mem_of_getElem? (i := 164) (by decide +kernel))) (by decide +kernel), T_C, 3, rfl⟩
theorem c_S_24 : zV "LinkDiagram$Shape" 24 3 M_S_fitsAt 2 := ⟨cb_S_fitsAt, Or.inl (zG_mem (List.mem_append_right _ (List.mem_of_getElem? (i := 166) (by decide +kernel))) (by decide +kernel)), zG_mem (List.mem_append_right _ (List.mem_of_getElem? (i := 168) (by decide +kernel))) (by decide +kernel), zG_mem (List.mem_append_left _ (List.mem_of_getElem? (i := 0) (by decide +kernel))) (by decide +kernel), T_S, 2, rfl⟩
theorem c_S_28 : zV "LinkDiagram$Shape" 28 2 M_C_edgeAt 1 := ⟨cb_C_edgeAt, Or.inl (zG_mem (List.mem_append_right _ (List.mem_of_getElem? (i := 170) (by decide +kernel))) (by decide +kernel)), zG_mem (List.mem_append_right _ (List.mem_of_getElem? (i := 171) (by decide +kernel))) (by decide +kernel), zG_mem (List.mem_append_right _ (List.mem_of_getElem? (i := 172) (by decide +kernel))) (by decide +kernel), T_C, 3, rfl⟩
theorem c_S_32 : zV "LinkDiagram$Shape" 32 2 M_C_comesIn 1 := ⟨cb_C_comesIn, Or.inl (zG_mem (List.mem_append_right _ (List.mem_of_getElem? (i := 174) (by decide +kernel))) (by decide +kernel)), zG_mem (List.mem_append_right _ (List.mem_of_getElem? (i := 175) (by decide +kernel))) (by decide +kernel), zG_mem (List.mem_append_right _ (List.mem_of_getElem? (i := 176) (by decide +kernel))) (by decide +kernel), T_C, 3, rfl⟩
theorem c_S_36 : zV "LinkDiagram$Shape" 36 3 M_S_faces 1 := ⟨cb_S_faces, Or.inl (zG_mem (List.mem_append_right _ (List.mem_of_getElem? (i := 192) (by decide +kernel))) (by decide +kernel)), zG_mem (List.mem_append_right _ (List.mem_of_getElem? (i := 193) (by decide +kernel))) (by decide +kernel), zG_mem (List.mem_append_right _ (List.mem_of_getElem? (i := 194) (by decide +kernel))) (by decide +kernel), T_S, 2, rfl⟩
theorem c_S_40 : zV "LinkDiagram$Shape" 40 2 M_C_size 0 := ⟨cb_C_size, Or.inl (zG_mem (List.mem_append_right _ (List.mem_of_getElem? (i := 215) (by decide +kernel))) (by decide +kernel)), zG_mem (List.mem_append_right _ (List.mem_of_getElem? (i := 140) (by decide +kernel))) (by decide +kernel), zG_mem (List.mem_append_right _ (List.mem_of_getElem? (i := 141) (by decide +kernel))) (by decide +kernel), T_C, 3, rfl⟩
theorem c_S_43 : zV "LinkDiagram$Shape" 43 3 M_S_pieces 1 := ⟨cb_S_pieces, Or.inl (zG_mem (List.mem_append_right _ (List.mem_of_getElem? (i := 216) (by decide +kernel))) (by decide +kernel)), zG_mem (List.mem_append_right _ (List.mem_of_getElem? (i := 217) (by decide +kernel))) (by decide +kernel), zG_mem (List.mem_append_right _ (List.mem_of_getElem? (i := 218) (by decide +kernel))) (by decide +kernel), T_S, 2, rfl⟩
theorem c_S_46 : zS "LinkDiagram$Shape" 46 M_F_fillI 2 := ⟨cb_F_fillI, Or.inl (zG_mem (List.mem_append_right _ (List.mem_of_getElem? (i := 196) (by decide +kernel))) (by decide +kernel)), zG_mem (List.mem_append_right _ (List.mem_of_getElem? (i := 197) (by decide +kernel))) (by decide +kernel)⟩
theorem c_S_52 : zV "LinkDiagram$Shape" 52 3 M_S_markFace 2 := ⟨cb_S_markFace, Or.inl (zG_mem (List.mem_append_right _ (List.mem_of_getElem? (i := 199) (by decide +kernel))) (by decide +kernel)), zG_mem (List.mem_append_right _ (List.mem_of_getElem? (i := 201) (by decide +kernel))) (by decide +kernel), zG_mem (List.mem_append_left _ (List.mem_of_getElem? (i := 1) (by decide +kernel))) (by decide +kernel), T_S, 2, rfl⟩
theorem c_S_56 : zV "LinkDiagram$Shape" 56 2 M_C_follow 1 := ⟨cb_C_follow, Or.inl (zG_mem (List.mem_append_right _ (List.mem_of_getElem? (i := 203) (by decide +kernel))) (by decide +kernel)), zG_mem (List.mem_append_right _ (List.mem_of_getElem? (i := 204) (by decide +kernel))) (by decide +kernel), zG_mem (List.mem_append_right _ (List.mem_of_getElem? (i := 205) (by decide +kernel))) (by decide +kernel), T_C, 3, rfl⟩
theorem c_S_59 : zS "LinkDiagram$Shape" 59 M_A_crossingOf 1 := ⟨cb_A_crossingOf, Or.inr ⟨"LinkDiagram", List.mem_of_getElem? (i := 7) (by decide +kernel)⟩, zG_mem (List.mem_append_right _ (List.mem_of_getElem? (i := 182) (by decide +kernel))) (by decide +kernel)⟩
theorem c_S_62 : zV "LinkDiagram$Shape" 62 2 M_C_otherEnd 1 := ⟨cb_C_otherEnd, Or.inl (zG_mem (List.mem_append_right _ (List.mem_of_getElem? (i := 221) (by decide +kernel))) (by decide +kernel)), zG_mem (List.mem_append_right _ (List.mem_of_getElem? (i := 208) (by decide +kernel))) (by decide +kernel), zG_mem (List.mem_append_right _ (List.mem_of_getElem? (i := 209) (by decide +kernel))) (by decide +kernel), T_C, 3, rfl⟩
theorem c_S_65 : zV "LinkDiagram$Shape" 65 3 M_S_mergePieces 2 := ⟨cb_S_mergePieces, Or.inl (zG_mem (List.mem_append_right _ (List.mem_of_getElem? (i := 222) (by decide +kernel))) (by decide +kernel)), zG_mem (List.mem_append_right _ (List.mem_of_getElem? (i := 224) (by decide +kernel))) (by decide +kernel), zG_mem (List.mem_append_left _ (List.mem_of_getElem? (i := 2) (by decide +kernel))) (by decide +kernel), T_S, 2, rfl⟩
theorem c_S_69 : zV "LinkDiagram$Shape" 69 3 M_S_markStrand 2 := ⟨cb_S_markStrand, Or.inl (zG_mem (List.mem_append_right _ (List.mem_of_getElem? (i := 269) (by decide +kernel))) (by decide +kernel)), zG_mem (List.mem_append_right _ (List.mem_of_getElem? (i := 271) (by decide +kernel))) (by decide +kernel), zG_mem (List.mem_append_left _ (List.mem_of_getElem? (i := 6) (by decide +kernel))) (by decide +kernel), T_S, 2, rfl⟩
theorem c_S_72 : zS "LinkDiagram$Shape" 72 M_A_opposite 1 := ⟨cb_A_opposite, Or.inr ⟨"LinkDiagram", List.mem_of_getElem? (i := 8) (by decide +kernel)⟩, zG_mem (List.mem_append_right _ (List.mem_of_getElem? (i := 274) (by decide +kernel))) (by decide +kernel)⟩
theorem c_A_1 : Cond.methodLink "LinkDiagram" 1 objectInit ∈ zG := zG_mem (List.mem_append_right _ (List.mem_of_getElem? (i := 16) (by decide +kernel))) (by decide +kernel)
theorem c_A_9 : zI "LinkDiagram" 9 M_C_init 0 := ⟨cb_C_init, Or.inr ⟨"LinkDiagram", List.mem_of_getElem? (i := 0) (by decide +kernel)⟩, zG_mem (List.mem_append_right _ (List.mem_of_getElem? (i := 22) (by decide +kernel))) (by decide +kernel), rfl, rfl⟩
theorem c_A_24 : zI "LinkDiagram" 24 M_S_init 0 := ⟨cb_S_init, Or.inr ⟨"LinkDiagram", List.mem_of_getElem? (i := 1) (by decide +kernel)⟩, zG_mem (List.mem_append_right _ (List.mem_of_getElem? (i := 39) (by decide +kernel))) (by decide +kernel), rfl, rfl⟩
theorem c_A_31 : zI "LinkDiagram" 31 M_B_init 0 := ⟨cb_B_init, Or.inr ⟨"LinkDiagram", List.mem_of_getElem? (i := 2) (by decide +kernel)⟩, zG_mem (List.mem_append_right _ (List.mem_of_getElem? (i := 52) (by decide +kernel))) (by decide +kernel), rfl, rfl⟩
theorem c_A_38 : zI "LinkDiagram" 38 M_R_init 0 := ⟨cb_R_init, Or.inr ⟨"LinkDiagram", List.mem_of_getElem? (i := 3) (by decide +kernel)⟩, zG_mem (List.mem_append_right _ (List.mem_of_getElem? (i := 69) (by decide +kernel))) (by decide +kernel), rfl, rfl⟩
theorem c_A_57 : zV "LinkDiagram" 57 2 M_C_isFull 0 := ⟨cb_C_isFull, Or.inl (zG_mem (List.mem_append_right _ (List.mem_of_getElem? (i := 123) (by decide +kernel))) (by decide +kernel)), zG_mem (List.mem_append_right _ (List.mem_of_getElem? (i := 124) (by decide +kernel))) (by decide +kernel), zG_mem (List.mem_append_right _ (List.mem_of_getElem? (i := 125) (by decide +kernel))) (by decide +kernel), T_C, 3, rfl⟩
theorem c_A_61 : zS "LinkDiagram" 61 M_A_isEdge 1 := ⟨cb_A_isEdge, Or.inl (zG_mem (List.mem_append_right _ (List.mem_of_getElem? (i := 127) (by decide +kernel))) (by decide +kernel)), zG_mem (List.mem_append_right _ (List.mem_of_getElem? (i := 128) (by decide +kernel))) (by decide +kernel)⟩
theorem c_A_65 : zV "LinkDiagram" 65 2 M_C_append 5 := ⟨cb_C_append, Or.inl (zG_mem (List.mem_append_right _ (List.mem_of_getElem? (i := 130) (by decide +kernel))) (by decide +kernel)), zG_mem (List.mem_append_right _ (List.mem_of_getElem? (i := 131) (by decide +kernel))) (by decide +kernel), zG_mem (List.mem_append_right _ (List.mem_of_getElem? (i := 132) (by decide +kernel))) (by decide +kernel), T_C, 3, rfl⟩
theorem c_A_69 : zV "LinkDiagram" 69 2 M_C_size 0 := ⟨cb_C_size, Or.inl (zG_mem (List.mem_append_right _ (List.mem_of_getElem? (i := 139) (by decide +kernel))) (by decide +kernel)), zG_mem (List.mem_append_right _ (List.mem_of_getElem? (i := 140) (by decide +kernel))) (by decide +kernel), zG_mem (List.mem_append_right _ (List.mem_of_getElem? (i := 141) (by decide +kernel))) (by decide +kernel), T_C, 3, rfl⟩
theorem c_A_73 : zV "LinkDiagram" 73 2 M_C_remove 1 := ⟨cb_C_remove, Or.inl (zG_mem (List.mem_append_right _ (List.mem_of_getElem? (i := 143) (by decide +kernel))) (by decide +kernel)), zG_mem (List.mem_append_right _ (List.mem_of_getElem? (i := 144) (by decide +kernel))) (by decide +kernel), zG_mem (List.mem_append_right _ (List.mem_of_getElem? (i := 145) (by decide +kernel))) (by decide +kernel), T_C, 3, rfl⟩
theorem c_A_77 : zV "LinkDiagram" 77 3 M_S_fits 1 := ⟨cb_S_fits, Or.inl (zG_mem (List.mem_append_right _ (List.mem_of_getElem? (i := 158) (by decide +kernel))) (by decide +kernel)), zG_mem (List.mem_append_right _ (List.mem_of_getElem? (i := 159) (by decide +kernel))) (by decide +kernel), zG_mem (List.mem_append_right _ (List.mem_of_getElem? (i := 160) (by decide +kernel))) (by decide +kernel), T_S, 2, rfl⟩
theorem c_A_81 : zV "LinkDiagram" 81 3 M_S_isFlat 1 := ⟨cb_S_isFlat, Or.inl (zG_mem (List.mem_append_right _ (List.mem_of_getElem? (i := 188) (by decide +kernel))) (by decide +kernel)), zG_mem (List.mem_append_right _ (List.mem_of_getElem? (i := 189) (by decide +kernel))) (by decide +kernel), zG_mem (List.mem_append_right _ (List.mem_of_getElem? (i := 190) (by decide +kernel))) (by decide +kernel), T_S, 2, rfl⟩
theorem c_A_84 : zV "LinkDiagram" 84 2 M_C_copyFrom 1 := ⟨cb_C_copyFrom, Or.inl (zG_mem (List.mem_append_right _ (List.mem_of_getElem? (i := 226) (by decide +kernel))) (by decide +kernel)), zG_mem (List.mem_append_right _ (List.mem_of_getElem? (i := 227) (by decide +kernel))) (by decide +kernel), zG_mem (List.mem_append_right _ (List.mem_of_getElem? (i := 228) (by decide +kernel))) (by decide +kernel), T_C, 3, rfl⟩
theorem c_A_88 : zV "LinkDiagram" 88 2 M_C_clear 0 := ⟨cb_C_clear, Or.inl (zG_mem (List.mem_append_right _ (List.mem_of_getElem? (i := 230) (by decide +kernel))) (by decide +kernel)), zG_mem (List.mem_append_right _ (List.mem_of_getElem? (i := 231) (by decide +kernel))) (by decide +kernel), zG_mem (List.mem_append_right _ (List.mem_of_getElem? (i := 232) (by decide +kernel))) (by decide +kernel), T_C, 3, rfl⟩
theorem c_A_91 : zV "LinkDiagram" 91 4 M_A_wordIsBelow 1 := ⟨cb_A_wordIsBelow, Or.inl (zG_mem (List.mem_append_right _ (List.mem_of_getElem? (i := 242) (by decide +kernel))) (by decide +kernel)), zG_mem (List.mem_append_right _ (List.mem_of_getElem? (i := 244) (by decide +kernel))) (by decide +kernel), zG_mem (List.mem_append_left _ (List.mem_of_getElem? (i := 3) (by decide +kernel))) (by decide +kernel), T_A, 10, rfl⟩
theorem c_A_94 : zV "LinkDiagram" 94 4 M_A_weave 2 := ⟨cb_A_weave, Or.inl (zG_mem (List.mem_append_right _ (List.mem_of_getElem? (i := 249) (by decide +kernel))) (by decide +kernel)), zG_mem (List.mem_append_right _ (List.mem_of_getElem? (i := 251) (by decide +kernel))) (by decide +kernel), zG_mem (List.mem_append_left _ (List.mem_of_getElem? (i := 4) (by decide +kernel))) (by decide +kernel), T_A, 10, rfl⟩
theorem c_A_98 : zV "LinkDiagram" 98 4 M_A_closePlace 1 := ⟨cb_A_closePlace, Or.inl (zG_mem (List.mem_append_right _ (List.mem_of_getElem? (i := 253) (by decide +kernel))) (by decide +kernel)), zG_mem (List.mem_append_right _ (List.mem_of_getElem? (i := 255) (by decide +kernel))) (by decide +kernel), zG_mem (List.mem_append_left _ (List.mem_of_getElem? (i := 5) (by decide +kernel))) (by decide +kernel), T_A, 10, rfl⟩
theorem c_A_101 : Cond.methodLink "LinkDiagram" 101 Lib.Math.abs.name ∈ zG := zG_mem (List.mem_append_right _ (List.mem_of_getElem? (i := 246) (by decide +kernel))) (by decide +kernel)
theorem c_A_107 : zV "LinkDiagram" 107 2 M_C_rename 2 := ⟨cb_C_rename, Or.inl (zG_mem (List.mem_append_right _ (List.mem_of_getElem? (i := 257) (by decide +kernel))) (by decide +kernel)), zG_mem (List.mem_append_right _ (List.mem_of_getElem? (i := 258) (by decide +kernel))) (by decide +kernel), zG_mem (List.mem_append_right _ (List.mem_of_getElem? (i := 259) (by decide +kernel))) (by decide +kernel), T_C, 3, rfl⟩
theorem c_A_110 : zV "LinkDiagram" 110 3 M_S_strands 1 := ⟨cb_S_strands, Or.inl (zG_mem (List.mem_append_right _ (List.mem_of_getElem? (i := 265) (by decide +kernel))) (by decide +kernel)), zG_mem (List.mem_append_right _ (List.mem_of_getElem? (i := 266) (by decide +kernel))) (by decide +kernel), zG_mem (List.mem_append_right _ (List.mem_of_getElem? (i := 267) (by decide +kernel))) (by decide +kernel), T_S, 2, rfl⟩
theorem c_A_114 : zV "LinkDiagram" 114 2 M_C_writhe 0 := ⟨cb_C_writhe, Or.inl (zG_mem (List.mem_append_right _ (List.mem_of_getElem? (i := 276) (by decide +kernel))) (by decide +kernel)), zG_mem (List.mem_append_right _ (List.mem_of_getElem? (i := 277) (by decide +kernel))) (by decide +kernel), zG_mem (List.mem_append_right _ (List.mem_of_getElem? (i := 278) (by decide +kernel))) (by decide +kernel), T_C, 3, rfl⟩
theorem c_A_117 : zV "LinkDiagram" 117 3 M_S_faces 1 := ⟨cb_S_faces, Or.inl (zG_mem (List.mem_append_right _ (List.mem_of_getElem? (i := 280) (by decide +kernel))) (by decide +kernel)), zG_mem (List.mem_append_right _ (List.mem_of_getElem? (i := 193) (by decide +kernel))) (by decide +kernel), zG_mem (List.mem_append_right _ (List.mem_of_getElem? (i := 194) (by decide +kernel))) (by decide +kernel), T_S, 2, rfl⟩
theorem c_A_120 : zV "LinkDiagram" 120 3 M_S_pieces 1 := ⟨cb_S_pieces, Or.inl (zG_mem (List.mem_append_right _ (List.mem_of_getElem? (i := 281) (by decide +kernel))) (by decide +kernel)), zG_mem (List.mem_append_right _ (List.mem_of_getElem? (i := 217) (by decide +kernel))) (by decide +kernel), zG_mem (List.mem_append_right _ (List.mem_of_getElem? (i := 218) (by decide +kernel))) (by decide +kernel), T_S, 2, rfl⟩
theorem c_A_123 : zV "LinkDiagram" 123 2 M_C_has 1 := ⟨cb_C_has, Or.inl (zG_mem (List.mem_append_right _ (List.mem_of_getElem? (i := 286) (by decide +kernel))) (by decide +kernel)), zG_mem (List.mem_append_right _ (List.mem_of_getElem? (i := 148) (by decide +kernel))) (by decide +kernel), zG_mem (List.mem_append_right _ (List.mem_of_getElem? (i := 149) (by decide +kernel))) (by decide +kernel), T_C, 3, rfl⟩
theorem c_A_126 : zV "LinkDiagram" 126 2 M_C_isPositive 1 := ⟨cb_C_isPositive, Or.inl (zG_mem (List.mem_append_right _ (List.mem_of_getElem? (i := 287) (by decide +kernel))) (by decide +kernel)), zG_mem (List.mem_append_right _ (List.mem_of_getElem? (i := 185) (by decide +kernel))) (by decide +kernel), zG_mem (List.mem_append_right _ (List.mem_of_getElem? (i := 186) (by decide +kernel))) (by decide +kernel), T_C, 3, rfl⟩
theorem c_A_129 : zV "LinkDiagram" 129 2 M_C_edgeAt 1 := ⟨cb_C_edgeAt, Or.inl (zG_mem (List.mem_append_right _ (List.mem_of_getElem? (i := 288) (by decide +kernel))) (by decide +kernel)), zG_mem (List.mem_append_right _ (List.mem_of_getElem? (i := 171) (by decide +kernel))) (by decide +kernel), zG_mem (List.mem_append_right _ (List.mem_of_getElem? (i := 172) (by decide +kernel))) (by decide +kernel), T_C, 3, rfl⟩
theorem c_A_134 : zV "LinkDiagram" 134 1 M_B_coefficient 3 := ⟨cb_B_coefficient, Or.inl (zG_mem (List.mem_append_right _ (List.mem_of_getElem? (i := 294) (by decide +kernel))) (by decide +kernel)), zG_mem (List.mem_append_right _ (List.mem_of_getElem? (i := 295) (by decide +kernel))) (by decide +kernel), zG_mem (List.mem_append_right _ (List.mem_of_getElem? (i := 296) (by decide +kernel))) (by decide +kernel), T_B, 3, rfl⟩
theorem c_A_140 : zV "LinkDiagram" 140 0 M_R_coefficient 3 := ⟨cb_R_coefficient, Or.inl (zG_mem (List.mem_append_right _ (List.mem_of_getElem? (i := 339) (by decide +kernel))) (by decide +kernel)), zG_mem (List.mem_append_right _ (List.mem_of_getElem? (i := 340) (by decide +kernel))) (by decide +kernel), zG_mem (List.mem_append_right _ (List.mem_of_getElem? (i := 341) (by decide +kernel))) (by decide +kernel), T_R, 5, rfl⟩
theorem c_A_143 : zV "LinkDiagram" 143 4 M_A_freeEdge 1 := ⟨cb_A_freeEdge, Or.inl (zG_mem (List.mem_append_right _ (List.mem_of_getElem? (i := 390) (by decide +kernel))) (by decide +kernel)), zG_mem (List.mem_append_right _ (List.mem_of_getElem? (i := 392) (by decide +kernel))) (by decide +kernel), zG_mem (List.mem_append_left _ (List.mem_of_getElem? (i := 19) (by decide +kernel))) (by decide +kernel), T_A, 10, rfl⟩
theorem c_A_146 : zV "LinkDiagram" 146 4 M_A_appendTwist 4 := ⟨cb_A_appendTwist, Or.inl (zG_mem (List.mem_append_right _ (List.mem_of_getElem? (i := 395) (by decide +kernel))) (by decide +kernel)), zG_mem (List.mem_append_right _ (List.mem_of_getElem? (i := 397) (by decide +kernel))) (by decide +kernel), zG_mem (List.mem_append_left _ (List.mem_of_getElem? (i := 20) (by decide +kernel))) (by decide +kernel), T_A, 10, rfl⟩
theorem c_A_150 : zV "LinkDiagram" 150 2 M_C_occurs 1 := ⟨cb_C_occurs, Or.inl (zG_mem (List.mem_append_right _ (List.mem_of_getElem? (i := 394) (by decide +kernel))) (by decide +kernel)), zG_mem (List.mem_append_right _ (List.mem_of_getElem? (i := 357) (by decide +kernel))) (by decide +kernel), zG_mem (List.mem_append_right _ (List.mem_of_getElem? (i := 358) (by decide +kernel))) (by decide +kernel), T_C, 3, rfl⟩
theorem c_A_153 : zV "LinkDiagram" 153 2 M_C_bringIn 2 := ⟨cb_C_bringIn, Or.inl (zG_mem (List.mem_append_right _ (List.mem_of_getElem? (i := 399) (by decide +kernel))) (by decide +kernel)), zG_mem (List.mem_append_right _ (List.mem_of_getElem? (i := 400) (by decide +kernel))) (by decide +kernel), zG_mem (List.mem_append_right _ (List.mem_of_getElem? (i := 401) (by decide +kernel))) (by decide +kernel), T_C, 3, rfl⟩
theorem c_A_156 : zV "LinkDiagram" 156 4 M_A_loopEnd 1 := ⟨cb_A_loopEnd, Or.inl (zG_mem (List.mem_append_right _ (List.mem_of_getElem? (i := 412) (by decide +kernel))) (by decide +kernel)), zG_mem (List.mem_append_right _ (List.mem_of_getElem? (i := 414) (by decide +kernel))) (by decide +kernel), zG_mem (List.mem_append_left _ (List.mem_of_getElem? (i := 21) (by decide +kernel))) (by decide +kernel), T_A, 10, rfl⟩
theorem c_A_159 : zS "LinkDiagram" 159 M_A_turned 2 := ⟨cb_A_turned, Or.inl (zG_mem (List.mem_append_right _ (List.mem_of_getElem? (i := 416) (by decide +kernel))) (by decide +kernel)), zG_mem (List.mem_append_right _ (List.mem_of_getElem? (i := 213) (by decide +kernel))) (by decide +kernel)⟩
theorem c_A_163 : zV "LinkDiagram" 163 2 M_C_comesIn 1 := ⟨cb_C_comesIn, Or.inl (zG_mem (List.mem_append_right _ (List.mem_of_getElem? (i := 417) (by decide +kernel))) (by decide +kernel)), zG_mem (List.mem_append_right _ (List.mem_of_getElem? (i := 175) (by decide +kernel))) (by decide +kernel), zG_mem (List.mem_append_right _ (List.mem_of_getElem? (i := 176) (by decide +kernel))) (by decide +kernel), T_C, 3, rfl⟩
theorem c_A_166 : zV "LinkDiagram" 166 4 M_A_join 2 := ⟨cb_A_join, Or.inl (zG_mem (List.mem_append_right _ (List.mem_of_getElem? (i := 418) (by decide +kernel))) (by decide +kernel)), zG_mem (List.mem_append_right _ (List.mem_of_getElem? (i := 420) (by decide +kernel))) (by decide +kernel), zG_mem (List.mem_append_left _ (List.mem_of_getElem? (i := 22) (by decide +kernel))) (by decide +kernel), T_A, 10, rfl⟩
theorem c_A_169 : zV "LinkDiagram" 169 2 M_C_endOn 2 := ⟨cb_C_endOn, Or.inl (zG_mem (List.mem_append_right _ (List.mem_of_getElem? (i := 426) (by decide +kernel))) (by decide +kernel)), zG_mem (List.mem_append_right _ (List.mem_of_getElem? (i := 404) (by decide +kernel))) (by decide +kernel), zG_mem (List.mem_append_right _ (List.mem_of_getElem? (i := 405) (by decide +kernel))) (by decide +kernel), T_C, 3, rfl⟩
theorem c_A_173 : zV "LinkDiagram" 173 3 M_S_sameFace 3 := ⟨cb_S_sameFace, Or.inl (zG_mem (List.mem_append_right _ (List.mem_of_getElem? (i := 427) (by decide +kernel))) (by decide +kernel)), zG_mem (List.mem_append_right _ (List.mem_of_getElem? (i := 428) (by decide +kernel))) (by decide +kernel), zG_mem (List.mem_append_right _ (List.mem_of_getElem? (i := 429) (by decide +kernel))) (by decide +kernel), T_S, 2, rfl⟩
theorem c_A_177 : zV "LinkDiagram" 177 4 M_A_isPokedFace 2 := ⟨cb_A_isPokedFace, Or.inl (zG_mem (List.mem_append_right _ (List.mem_of_getElem? (i := 435) (by decide +kernel))) (by decide +kernel)), zG_mem (List.mem_append_right _ (List.mem_of_getElem? (i := 437) (by decide +kernel))) (by decide +kernel), zG_mem (List.mem_append_left _ (List.mem_of_getElem? (i := 23) (by decide +kernel))) (by decide +kernel), T_A, 10, rfl⟩
theorem c_A_181 : zV "LinkDiagram" 181 2 M_C_follow 1 := ⟨cb_C_follow, Or.inl (zG_mem (List.mem_append_right _ (List.mem_of_getElem? (i := 439) (by decide +kernel))) (by decide +kernel)), zG_mem (List.mem_append_right _ (List.mem_of_getElem? (i := 204) (by decide +kernel))) (by decide +kernel), zG_mem (List.mem_append_right _ (List.mem_of_getElem? (i := 205) (by decide +kernel))) (by decide +kernel), T_C, 3, rfl⟩
theorem c_A_184 : zV "LinkDiagram" 184 4 M_A_pullApart 2 := ⟨cb_A_pullApart, Or.inl (zG_mem (List.mem_append_right _ (List.mem_of_getElem? (i := 443) (by decide +kernel))) (by decide +kernel)), zG_mem (List.mem_append_right _ (List.mem_of_getElem? (i := 445) (by decide +kernel))) (by decide +kernel), zG_mem (List.mem_append_left _ (List.mem_of_getElem? (i := 24) (by decide +kernel))) (by decide +kernel), T_A, 10, rfl⟩
theorem c_A_187 : zS "LinkDiagram" 187 M_A_crossingOf 1 := ⟨cb_A_crossingOf, Or.inl (zG_mem (List.mem_append_right _ (List.mem_of_getElem? (i := 440) (by decide +kernel))) (by decide +kernel)), zG_mem (List.mem_append_right _ (List.mem_of_getElem? (i := 182) (by decide +kernel))) (by decide +kernel)⟩
theorem c_A_190 : zS "LinkDiagram" 190 M_A_isUpper 1 := ⟨cb_A_isUpper, Or.inl (zG_mem (List.mem_append_right _ (List.mem_of_getElem? (i := 441) (by decide +kernel))) (by decide +kernel)), zG_mem (List.mem_append_right _ (List.mem_of_getElem? (i := 179) (by decide +kernel))) (by decide +kernel)⟩
theorem c_A_193 : zV "LinkDiagram" 193 2 M_C_otherEnd 1 := ⟨cb_C_otherEnd, Or.inl (zG_mem (List.mem_append_right _ (List.mem_of_getElem? (i := 442) (by decide +kernel))) (by decide +kernel)), zG_mem (List.mem_append_right _ (List.mem_of_getElem? (i := 208) (by decide +kernel))) (by decide +kernel), zG_mem (List.mem_append_right _ (List.mem_of_getElem? (i := 209) (by decide +kernel))) (by decide +kernel), T_C, 3, rfl⟩
theorem c_A_196 : zV "LinkDiagram" 196 2 M_C_edgeBefore 1 := ⟨cb_C_edgeBefore, Or.inl (zG_mem (List.mem_append_right _ (List.mem_of_getElem? (i := 447) (by decide +kernel))) (by decide +kernel)), zG_mem (List.mem_append_right _ (List.mem_of_getElem? (i := 448) (by decide +kernel))) (by decide +kernel), zG_mem (List.mem_append_right _ (List.mem_of_getElem? (i := 449) (by decide +kernel))) (by decide +kernel), T_C, 3, rfl⟩
theorem c_A_199 : zV "LinkDiagram" 199 2 M_C_edgeBehind 1 := ⟨cb_C_edgeBehind, Or.inl (zG_mem (List.mem_append_right _ (List.mem_of_getElem? (i := 456) (by decide +kernel))) (by decide +kernel)), zG_mem (List.mem_append_right _ (List.mem_of_getElem? (i := 457) (by decide +kernel))) (by decide +kernel), zG_mem (List.mem_append_right _ (List.mem_of_getElem? (i := 458) (by decide +kernel))) (by decide +kernel), T_C, 3, rfl⟩
theorem c_A_202 : Cond.methodLink "LinkDiagram" 202 Lib.Math.max.name ∈ zG := zG_mem (List.mem_append_right _ (List.mem_of_getElem? (i := 464) (by decide +kernel))) (by decide +kernel)
theorem c_A_205 : Cond.methodLink "LinkDiagram" 205 Lib.Math.min.name ∈ zG := zG_mem (List.mem_append_right _ (List.mem_of_getElem? (i := 467) (by decide +kernel))) (by decide +kernel)
theorem c_A_208 : zV "LinkDiagram" 208 4 M_A_isSlidingFace 3 := ⟨cb_A_isSlidingFace, Or.inl (zG_mem (List.mem_append_right _ (List.mem_of_getElem? (i := 472) (by decide +kernel))) (by decide +kernel)), zG_mem (List.mem_append_right _ (List.mem_of_getElem? (i := 474) (by decide +kernel))) (by decide +kernel), zG_mem (List.mem_append_left _ (List.mem_of_getElem? (i := 25) (by decide +kernel))) (by decide +kernel), T_A, 10, rfl⟩
theorem c_A_212 : zV "LinkDiagram" 212 4 M_A_slideFace 1 := ⟨cb_A_slideFace, Or.inl (zG_mem (List.mem_append_right _ (List.mem_of_getElem? (i := 480) (by decide +kernel))) (by decide +kernel)), zG_mem (List.mem_append_right _ (List.mem_of_getElem? (i := 482) (by decide +kernel))) (by decide +kernel), zG_mem (List.mem_append_left _ (List.mem_of_getElem? (i := 27) (by decide +kernel))) (by decide +kernel), T_A, 10, rfl⟩
theorem c_A_215 : zV "LinkDiagram" 215 4 M_A_isUpperEdge 1 := ⟨cb_A_isUpperEdge, Or.inl (zG_mem (List.mem_append_right _ (List.mem_of_getElem? (i := 476) (by decide +kernel))) (by decide +kernel)), zG_mem (List.mem_append_right _ (List.mem_of_getElem? (i := 478) (by decide +kernel))) (by decide +kernel), zG_mem (List.mem_append_left _ (List.mem_of_getElem? (i := 26) (by decide +kernel))) (by decide +kernel), T_A, 10, rfl⟩
theorem c_A_218 : zV "LinkDiagram" 218 4 M_A_slideEdge 1 := ⟨cb_A_slideEdge, Or.inl (zG_mem (List.mem_append_right _ (List.mem_of_getElem? (i := 484) (by decide +kernel))) (by decide +kernel)), zG_mem (List.mem_append_right _ (List.mem_of_getElem? (i := 486) (by decide +kernel))) (by decide +kernel), zG_mem (List.mem_append_left _ (List.mem_of_getElem? (i := 28) (by decide +kernel))) (by decide +kernel), T_A, 10, rfl⟩
theorem c_A_221 : zV "LinkDiagram" 221 2 M_C_outgoing 1 := ⟨cb_C_outgoing, Or.inl (zG_mem (List.mem_append_right _ (List.mem_of_getElem? (i := 488) (by decide +kernel))) (by decide +kernel)), zG_mem (List.mem_append_right _ (List.mem_of_getElem? (i := 452) (by decide +kernel))) (by decide +kernel), zG_mem (List.mem_append_right _ (List.mem_of_getElem? (i := 453) (by decide +kernel))) (by decide +kernel), T_C, 3, rfl⟩
theorem c_A_224 : zV "LinkDiagram" 224 2 M_C_incoming 1 := ⟨cb_C_incoming, Or.inl (zG_mem (List.mem_append_right _ (List.mem_of_getElem? (i := 489) (by decide +kernel))) (by decide +kernel)), zG_mem (List.mem_append_right _ (List.mem_of_getElem? (i := 461) (by decide +kernel))) (by decide +kernel), zG_mem (List.mem_append_right _ (List.mem_of_getElem? (i := 462) (by decide +kernel))) (by decide +kernel), T_C, 3, rfl⟩
theorem c_A_227 : zS "LinkDiagram" 227 M_A_opposite 1 := ⟨cb_A_opposite, Or.inl (zG_mem (List.mem_append_right _ (List.mem_of_getElem? (i := 490) (by decide +kernel))) (by decide +kernel)), zG_mem (List.mem_append_right _ (List.mem_of_getElem? (i := 274) (by decide +kernel))) (by decide +kernel)⟩
theorem c_A_230 : zV "LinkDiagram" 230 2 M_C_setEdge 2 := ⟨cb_C_setEdge, Or.inl (zG_mem (List.mem_append_right _ (List.mem_of_getElem? (i := 491) (by decide +kernel))) (by decide +kernel)), zG_mem (List.mem_append_right _ (List.mem_of_getElem? (i := 492) (by decide +kernel))) (by decide +kernel), zG_mem (List.mem_append_right _ (List.mem_of_getElem? (i := 493) (by decide +kernel))) (by decide +kernel), T_C, 3, rfl⟩
theorem c_L_9 : zI "LinkDiagramLaw" 9 M_A_init 0 := ⟨cb_A_init, Or.inl (zG_mem (List.mem_append_right _ (List.mem_of_getElem? (i := 13) (by decide +kernel))) (by decide +kernel)), zG_mem (List.mem_append_right _ (List.mem_of_getElem? (i := 14) (by decide +kernel))) (by decide +kernel), rfl, rfl⟩
theorem c_L_12 : zI "LinkDiagramLaw" 12 M_M_init 0 := ⟨cb_M_init, Or.inl (zG_mem (List.mem_append_right _ (List.mem_of_getElem? (i := 497) (by decide +kernel))) (by decide +kernel)), zG_mem (List.mem_append_right _ (List.mem_of_getElem? (i := 498) (by decide +kernel))) (by decide +kernel), rfl, rfl⟩
theorem c_L_13 : zV "LinkDiagramLaw" 13 4 M_A_cross 5 := ⟨cb_A_cross, Or.inl (zG_mem (List.mem_append_right _ (List.mem_of_getElem? (i := 119) (by decide +kernel))) (by decide +kernel)), zG_mem (List.mem_append_right _ (List.mem_of_getElem? (i := 120) (by decide +kernel))) (by decide +kernel), zG_mem (List.mem_append_right _ (List.mem_of_getElem? (i := 121) (by decide +kernel))) (by decide +kernel), T_A, 10, rfl⟩
theorem c_L_17 : zV "LinkDiagramLaw" 17 5 M_M_cross 5 := ⟨cb_M_cross, Or.inl (zG_mem (List.mem_append_right _ (List.mem_of_getElem? (i := 560) (by decide +kernel))) (by decide +kernel)), zG_mem (List.mem_append_right _ (List.mem_of_getElem? (i := 561) (by decide +kernel))) (by decide +kernel), zG_mem (List.mem_append_right _ (List.mem_of_getElem? (i := 562) (by decide +kernel))) (by decide +kernel), T_M, 19, rfl⟩
theorem c_L_18 : zV "LinkDiagramLaw" 18 4 M_A_drop 0 := ⟨cb_A_drop, Or.inl (zG_mem (List.mem_append_right _ (List.mem_of_getElem? (i := 135) (by decide +kernel))) (by decide +kernel)), zG_mem (List.mem_append_right _ (List.mem_of_getElem? (i := 136) (by decide +kernel))) (by decide +kernel), zG_mem (List.mem_append_right _ (List.mem_of_getElem? (i := 137) (by decide +kernel))) (by decide +kernel), T_A, 10, rfl⟩
theorem c_L_22 : zV "LinkDiagramLaw" 22 5 M_M_drop 0 := ⟨cb_M_drop, Or.inl (zG_mem (List.mem_append_right _ (List.mem_of_getElem? (i := 571) (by decide +kernel))) (by decide +kernel)), zG_mem (List.mem_append_right _ (List.mem_of_getElem? (i := 572) (by decide +kernel))) (by decide +kernel), zG_mem (List.mem_append_right _ (List.mem_of_getElem? (i := 573) (by decide +kernel))) (by decide +kernel), T_M, 19, rfl⟩
theorem c_L_23 : zV "LinkDiagramLaw" 23 4 M_A_take 1 := ⟨cb_A_take, Or.inl (zG_mem (List.mem_append_right _ (List.mem_of_getElem? (i := 154) (by decide +kernel))) (by decide +kernel)), zG_mem (List.mem_append_right _ (List.mem_of_getElem? (i := 155) (by decide +kernel))) (by decide +kernel), zG_mem (List.mem_append_right _ (List.mem_of_getElem? (i := 156) (by decide +kernel))) (by decide +kernel), T_A, 10, rfl⟩
theorem c_L_27 : zV "LinkDiagramLaw" 27 5 M_M_take 1 := ⟨cb_M_take, Or.inl (zG_mem (List.mem_append_right _ (List.mem_of_getElem? (i := 575) (by decide +kernel))) (by decide +kernel)), zG_mem (List.mem_append_right _ (List.mem_of_getElem? (i := 576) (by decide +kernel))) (by decide +kernel), zG_mem (List.mem_append_right _ (List.mem_of_getElem? (i := 577) (by decide +kernel))) (by decide +kernel), T_M, 19, rfl⟩
theorem c_L_28 : zV "LinkDiagramLaw" 28 4 M_A_letter 1 := ⟨cb_A_letter, Or.inl (zG_mem (List.mem_append_right _ (List.mem_of_getElem? (i := 234) (by decide +kernel))) (by decide +kernel)), zG_mem (List.mem_append_right _ (List.mem_of_getElem? (i := 235) (by decide +kernel))) (by decide +kernel), zG_mem (List.mem_append_right _ (List.mem_of_getElem? (i := 236) (by decide +kernel))) (by decide +kernel), T_A, 10, rfl⟩
theorem c_L_32 : zV "LinkDiagramLaw" 32 5 M_M_letter 1 := ⟨cb_M_letter, Or.inl (zG_mem (List.mem_append_right _ (List.mem_of_getElem? (i := 619) (by decide +kernel))) (by decide +kernel)), zG_mem (List.mem_append_right _ (List.mem_of_getElem? (i := 620) (by decide +kernel))) (by decide +kernel), zG_mem (List.mem_append_right _ (List.mem_of_getElem? (i := 621) (by decide +kernel))) (by decide +kernel), T_M, 19, rfl⟩
theorem c_L_33 : zV "LinkDiagramLaw" 33 4 M_A_braid 1 := ⟨cb_A_braid, Or.inl (zG_mem (List.mem_append_right _ (List.mem_of_getElem? (i := 238) (by decide +kernel))) (by decide +kernel)), zG_mem (List.mem_append_right _ (List.mem_of_getElem? (i := 239) (by decide +kernel))) (by decide +kernel), zG_mem (List.mem_append_right _ (List.mem_of_getElem? (i := 240) (by decide +kernel))) (by decide +kernel), T_A, 10, rfl⟩
theorem c_L_36 : zV "LinkDiagramLaw" 36 5 M_M_braid 1 := ⟨cb_M_braid, Or.inl (zG_mem (List.mem_append_right _ (List.mem_of_getElem? (i := 623) (by decide +kernel))) (by decide +kernel)), zG_mem (List.mem_append_right _ (List.mem_of_getElem? (i := 624) (by decide +kernel))) (by decide +kernel), zG_mem (List.mem_append_right _ (List.mem_of_getElem? (i := 625) (by decide +kernel))) (by decide +kernel), T_M, 19, rfl⟩
theorem c_L_37 : zV "LinkDiagramLaw" 37 4 M_A_count 1 := ⟨cb_A_count, Or.inl (zG_mem (List.mem_append_right _ (List.mem_of_getElem? (i := 261) (by decide +kernel))) (by decide +kernel)), zG_mem (List.mem_append_right _ (List.mem_of_getElem? (i := 262) (by decide +kernel))) (by decide +kernel), zG_mem (List.mem_append_right _ (List.mem_of_getElem? (i := 263) (by decide +kernel))) (by decide +kernel), T_A, 10, rfl⟩
theorem c_L_40 : zV "LinkDiagramLaw" 40 5 M_M_count 1 := ⟨cb_M_count, Or.inl (zG_mem (List.mem_append_right _ (List.mem_of_getElem? (i := 630) (by decide +kernel))) (by decide +kernel)), zG_mem (List.mem_append_right _ (List.mem_of_getElem? (i := 631) (by decide +kernel))) (by decide +kernel), zG_mem (List.mem_append_right _ (List.mem_of_getElem? (i := 632) (by decide +kernel))) (by decide +kernel), T_M, 19, rfl⟩
theorem c_L_41 : zV "LinkDiagramLaw" 41 4 M_A_end 2 := ⟨cb_A_end, Or.inl (zG_mem (List.mem_append_right _ (List.mem_of_getElem? (i := 282) (by decide +kernel))) (by decide +kernel)), zG_mem (List.mem_append_right _ (List.mem_of_getElem? (i := 283) (by decide +kernel))) (by decide +kernel), zG_mem (List.mem_append_right _ (List.mem_of_getElem? (i := 284) (by decide +kernel))) (by decide +kernel), T_A, 10, rfl⟩
theorem c_L_45 : zV "LinkDiagramLaw" 45 5 M_M_end 2 := ⟨cb_M_end, Or.inl (zG_mem (List.mem_append_right _ (List.mem_of_getElem? (i := 645) (by decide +kernel))) (by decide +kernel)), zG_mem (List.mem_append_right _ (List.mem_of_getElem? (i := 646) (by decide +kernel))) (by decide +kernel), zG_mem (List.mem_append_right _ (List.mem_of_getElem? (i := 647) (by decide +kernel))) (by decide +kernel), T_M, 19, rfl⟩
theorem c_L_46 : zV "LinkDiagramLaw" 46 4 M_A_first 1 := ⟨cb_A_first, Or.inl (zG_mem (List.mem_append_right _ (List.mem_of_getElem? (i := 289) (by decide +kernel))) (by decide +kernel)), zG_mem (List.mem_append_right _ (List.mem_of_getElem? (i := 290) (by decide +kernel))) (by decide +kernel), zG_mem (List.mem_append_right _ (List.mem_of_getElem? (i := 291) (by decide +kernel))) (by decide +kernel), T_A, 10, rfl⟩
theorem c_L_50 : zV "LinkDiagramLaw" 50 5 M_M_first 1 := ⟨cb_M_first, Or.inl (zG_mem (List.mem_append_right _ (List.mem_of_getElem? (i := 649) (by decide +kernel))) (by decide +kernel)), zG_mem (List.mem_append_right _ (List.mem_of_getElem? (i := 650) (by decide +kernel))) (by decide +kernel), zG_mem (List.mem_append_right _ (List.mem_of_getElem? (i := 651) (by decide +kernel))) (by decide +kernel), T_M, 19, rfl⟩
theorem c_L_51 : zV "LinkDiagramLaw" 51 4 M_A_second 1 := ⟨cb_A_second, Or.inl (zG_mem (List.mem_append_right _ (List.mem_of_getElem? (i := 335) (by decide +kernel))) (by decide +kernel)), zG_mem (List.mem_append_right _ (List.mem_of_getElem? (i := 336) (by decide +kernel))) (by decide +kernel), zG_mem (List.mem_append_right _ (List.mem_of_getElem? (i := 337) (by decide +kernel))) (by decide +kernel), T_A, 10, rfl⟩
theorem c_L_54 : zV "LinkDiagramLaw" 54 5 M_M_second 1 := ⟨cb_M_second, Or.inl (zG_mem (List.mem_append_right _ (List.mem_of_getElem? (i := 661) (by decide +kernel))) (by decide +kernel)), zG_mem (List.mem_append_right _ (List.mem_of_getElem? (i := 662) (by decide +kernel))) (by decide +kernel), zG_mem (List.mem_append_right _ (List.mem_of_getElem? (i := 663) (by decide +kernel))) (by decide +kernel), T_M, 19, rfl⟩
theorem c_L_55 : zV "LinkDiagramLaw" 55 4 M_A_twist 2 := ⟨cb_A_twist, Or.inl (zG_mem (List.mem_append_right _ (List.mem_of_getElem? (i := 386) (by decide +kernel))) (by decide +kernel)), zG_mem (List.mem_append_right _ (List.mem_of_getElem? (i := 387) (by decide +kernel))) (by decide +kernel), zG_mem (List.mem_append_right _ (List.mem_of_getElem? (i := 388) (by decide +kernel))) (by decide +kernel), T_A, 10, rfl⟩
theorem c_L_59 : zV "LinkDiagramLaw" 59 5 M_M_twist 2 := ⟨cb_M_twist, Or.inl (zG_mem (List.mem_append_right _ (List.mem_of_getElem? (i := 689) (by decide +kernel))) (by decide +kernel)), zG_mem (List.mem_append_right _ (List.mem_of_getElem? (i := 690) (by decide +kernel))) (by decide +kernel), zG_mem (List.mem_append_right _ (List.mem_of_getElem? (i := 691) (by decide +kernel))) (by decide +kernel), T_M, 19, rfl⟩
theorem c_L_60 : zV "LinkDiagramLaw" 60 4 M_A_untwist 1 := ⟨cb_A_untwist, Or.inl (zG_mem (List.mem_append_right _ (List.mem_of_getElem? (i := 408) (by decide +kernel))) (by decide +kernel)), zG_mem (List.mem_append_right _ (List.mem_of_getElem? (i := 409) (by decide +kernel))) (by decide +kernel), zG_mem (List.mem_append_right _ (List.mem_of_getElem? (i := 410) (by decide +kernel))) (by decide +kernel), T_A, 10, rfl⟩
theorem c_L_63 : zV "LinkDiagramLaw" 63 5 M_M_untwist 1 := ⟨cb_M_untwist, Or.inl (zG_mem (List.mem_append_right _ (List.mem_of_getElem? (i := 709) (by decide +kernel))) (by decide +kernel)), zG_mem (List.mem_append_right _ (List.mem_of_getElem? (i := 710) (by decide +kernel))) (by decide +kernel), zG_mem (List.mem_append_right _ (List.mem_of_getElem? (i := 711) (by decide +kernel))) (by decide +kernel), T_M, 19, rfl⟩
theorem c_L_64 : zV "LinkDiagramLaw" 64 4 M_A_poke 4 := ⟨cb_A_poke, Or.inl (zG_mem (List.mem_append_right _ (List.mem_of_getElem? (i := 422) (by decide +kernel))) (by decide +kernel)), zG_mem (List.mem_append_right _ (List.mem_of_getElem? (i := 423) (by decide +kernel))) (by decide +kernel), zG_mem (List.mem_append_right _ (List.mem_of_getElem? (i := 424) (by decide +kernel))) (by decide +kernel), T_A, 10, rfl⟩
theorem c_L_68 : zV "LinkDiagramLaw" 68 5 M_M_poke 4 := ⟨cb_M_poke, Or.inl (zG_mem (List.mem_append_right _ (List.mem_of_getElem? (i := 725) (by decide +kernel))) (by decide +kernel)), zG_mem (List.mem_append_right _ (List.mem_of_getElem? (i := 726) (by decide +kernel))) (by decide +kernel), zG_mem (List.mem_append_right _ (List.mem_of_getElem? (i := 727) (by decide +kernel))) (by decide +kernel), T_M, 19, rfl⟩
theorem c_L_69 : zV "LinkDiagramLaw" 69 4 M_A_unpoke 2 := ⟨cb_A_unpoke, Or.inl (zG_mem (List.mem_append_right _ (List.mem_of_getElem? (i := 431) (by decide +kernel))) (by decide +kernel)), zG_mem (List.mem_append_right _ (List.mem_of_getElem? (i := 432) (by decide +kernel))) (by decide +kernel), zG_mem (List.mem_append_right _ (List.mem_of_getElem? (i := 433) (by decide +kernel))) (by decide +kernel), T_A, 10, rfl⟩
theorem c_L_72 : zV "LinkDiagramLaw" 72 5 M_M_unpoke 2 := ⟨cb_M_unpoke, Or.inl (zG_mem (List.mem_append_right _ (List.mem_of_getElem? (i := 729) (by decide +kernel))) (by decide +kernel)), zG_mem (List.mem_append_right _ (List.mem_of_getElem? (i := 730) (by decide +kernel))) (by decide +kernel), zG_mem (List.mem_append_right _ (List.mem_of_getElem? (i := 731) (by decide +kernel))) (by decide +kernel), T_M, 19, rfl⟩
theorem c_L_73 : zV "LinkDiagramLaw" 73 4 M_A_slide 3 := ⟨cb_A_slide, Or.inl (zG_mem (List.mem_append_right _ (List.mem_of_getElem? (i := 468) (by decide +kernel))) (by decide +kernel)), zG_mem (List.mem_append_right _ (List.mem_of_getElem? (i := 469) (by decide +kernel))) (by decide +kernel), zG_mem (List.mem_append_right _ (List.mem_of_getElem? (i := 470) (by decide +kernel))) (by decide +kernel), T_A, 10, rfl⟩
theorem c_L_77 : zV "LinkDiagramLaw" 77 5 M_M_slide 3 := ⟨cb_M_slide, Or.inl (zG_mem (List.mem_append_right _ (List.mem_of_getElem? (i := 748) (by decide +kernel))) (by decide +kernel)), zG_mem (List.mem_append_right _ (List.mem_of_getElem? (i := 749) (by decide +kernel))) (by decide +kernel), zG_mem (List.mem_append_right _ (List.mem_of_getElem? (i := 750) (by decide +kernel))) (by decide +kernel), T_M, 19, rfl⟩
theorem c_M_1 : Cond.methodLink "LinkDiagramModel" 1 objectInit ∈ zG := zG_mem (List.mem_append_right _ (List.mem_of_getElem? (i := 500) (by decide +kernel))) (by decide +kernel)
theorem c_M_55 : zS "LinkDiagramModel" 55 M_M_isEdge 1 := ⟨cb_M_isEdge, Or.inl (zG_mem (List.mem_append_right _ (List.mem_of_getElem? (i := 564) (by decide +kernel))) (by decide +kernel)), zG_mem (List.mem_append_right _ (List.mem_of_getElem? (i := 565) (by decide +kernel))) (by decide +kernel)⟩
theorem c_M_59 : zV "LinkDiagramModel" 59 5 M_M_put 6 := ⟨cb_M_put, Or.inl (zG_mem (List.mem_append_right _ (List.mem_of_getElem? (i := 567) (by decide +kernel))) (by decide +kernel)), zG_mem (List.mem_append_right _ (List.mem_of_getElem? (i := 569) (by decide +kernel))) (by decide +kernel), zG_mem (List.mem_append_left _ (List.mem_of_getElem? (i := 29) (by decide +kernel))) (by decide +kernel), T_M, 19, rfl⟩
theorem c_M_72 : zV "LinkDiagramModel" 72 5 M_M_other 1 := ⟨cb_M_other, Or.inl (zG_mem (List.mem_append_right _ (List.mem_of_getElem? (i := 587) (by decide +kernel))) (by decide +kernel)), zG_mem (List.mem_append_right _ (List.mem_of_getElem? (i := 589) (by decide +kernel))) (by decide +kernel), zG_mem (List.mem_append_left _ (List.mem_of_getElem? (i := 32) (by decide +kernel))) (by decide +kernel), T_M, 19, rfl⟩
theorem c_M_76 : zV "LinkDiagramModel" 76 5 M_M_in 1 := ⟨cb_M_in, Or.inl (zG_mem (List.mem_append_right _ (List.mem_of_getElem? (i := 591) (by decide +kernel))) (by decide +kernel)), zG_mem (List.mem_append_right _ (List.mem_of_getElem? (i := 593) (by decide +kernel))) (by decide +kernel), zG_mem (List.mem_append_left _ (List.mem_of_getElem? (i := 33) (by decide +kernel))) (by decide +kernel), T_M, 19, rfl⟩
theorem c_M_79 : zV "LinkDiagramModel" 79 5 M_M_follow 1 := ⟨cb_M_follow, Or.inl (zG_mem (List.mem_append_right _ (List.mem_of_getElem? (i := 603) (by decide +kernel))) (by decide +kernel)), zG_mem (List.mem_append_right _ (List.mem_of_getElem? (i := 605) (by decide +kernel))) (by decide +kernel), zG_mem (List.mem_append_left _ (List.mem_of_getElem? (i := 36) (by decide +kernel))) (by decide +kernel), T_M, 19, rfl⟩
theorem c_M_82 : zV "LinkDiagramModel" 82 5 M_M_face 1 := ⟨cb_M_face, Or.inl (zG_mem (List.mem_append_right _ (List.mem_of_getElem? (i := 599) (by decide +kernel))) (by decide +kernel)), zG_mem (List.mem_append_right _ (List.mem_of_getElem? (i := 601) (by decide +kernel))) (by decide +kernel), zG_mem (List.mem_append_left _ (List.mem_of_getElem? (i := 35) (by decide +kernel))) (by decide +kernel), T_M, 19, rfl⟩
theorem c_M_85 : zV "LinkDiagramModel" 85 5 M_M_clear 0 := ⟨cb_M_clear, Or.inl (zG_mem (List.mem_append_right _ (List.mem_of_getElem? (i := 611) (by decide +kernel))) (by decide +kernel)), zG_mem (List.mem_append_right _ (List.mem_of_getElem? (i := 613) (by decide +kernel))) (by decide +kernel), zG_mem (List.mem_append_left _ (List.mem_of_getElem? (i := 38) (by decide +kernel))) (by decide +kernel), T_M, 19, rfl⟩
theorem c_M_88 : zV "LinkDiagramModel" 88 5 M_M_spread 1 := ⟨cb_M_spread, Or.inl (zG_mem (List.mem_append_right _ (List.mem_of_getElem? (i := 615) (by decide +kernel))) (by decide +kernel)), zG_mem (List.mem_append_right _ (List.mem_of_getElem? (i := 617) (by decide +kernel))) (by decide +kernel), zG_mem (List.mem_append_left _ (List.mem_of_getElem? (i := 39) (by decide +kernel))) (by decide +kernel), T_M, 19, rfl⟩
theorem c_M_92 : zV "LinkDiagramModel" 92 5 M_M_look 1 := ⟨cb_M_look, Or.inl (zG_mem (List.mem_append_right _ (List.mem_of_getElem? (i := 579) (by decide +kernel))) (by decide +kernel)), zG_mem (List.mem_append_right _ (List.mem_of_getElem? (i := 581) (by decide +kernel))) (by decide +kernel), zG_mem (List.mem_append_left _ (List.mem_of_getElem? (i := 30) (by decide +kernel))) (by decide +kernel), T_M, 19, rfl⟩
theorem c_M_96 : zV "LinkDiagramModel" 96 5 M_M_fit 0 := ⟨cb_M_fit, Or.inl (zG_mem (List.mem_append_right _ (List.mem_of_getElem? (i := 583) (by decide +kernel))) (by decide +kernel)), zG_mem (List.mem_append_right _ (List.mem_of_getElem? (i := 585) (by decide +kernel))) (by decide +kernel), zG_mem (List.mem_append_left _ (List.mem_of_getElem? (i := 31) (by decide +kernel))) (by decide +kernel), T_M, 19, rfl⟩
theorem c_M_100 : zV "LinkDiagramModel" 100 5 M_M_faces 0 := ⟨cb_M_faces, Or.inl (zG_mem (List.mem_append_right _ (List.mem_of_getElem? (i := 595) (by decide +kernel))) (by decide +kernel)), zG_mem (List.mem_append_right _ (List.mem_of_getElem? (i := 597) (by decide +kernel))) (by decide +kernel), zG_mem (List.mem_append_left _ (List.mem_of_getElem? (i := 34) (by decide +kernel))) (by decide +kernel), T_M, 19, rfl⟩
theorem c_M_104 : zV "LinkDiagramModel" 104 5 M_M_pieces 0 := ⟨cb_M_pieces, Or.inl (zG_mem (List.mem_append_right _ (List.mem_of_getElem? (i := 607) (by decide +kernel))) (by decide +kernel)), zG_mem (List.mem_append_right _ (List.mem_of_getElem? (i := 609) (by decide +kernel))) (by decide +kernel), zG_mem (List.mem_append_left _ (List.mem_of_getElem? (i := 37) (by decide +kernel))) (by decide +kernel), T_M, 19, rfl⟩
theorem c_M_110 : zS "LinkDiagramModel" 110 M_M_size 1 := ⟨cb_M_size, Or.inl (zG_mem (List.mem_append_right _ (List.mem_of_getElem? (i := 627) (by decide +kernel))) (by decide +kernel)), zG_mem (List.mem_append_right _ (List.mem_of_getElem? (i := 628) (by decide +kernel))) (by decide +kernel)⟩
theorem c_M_113 : zS "LinkDiagramModel" 113 M_M_through 2 := ⟨cb_M_through, Or.inl (zG_mem (List.mem_append_right _ (List.mem_of_getElem? (i := 638) (by decide +kernel))) (by decide +kernel)), zG_mem (List.mem_append_right _ (List.mem_of_getElem? (i := 639) (by decide +kernel))) (by decide +kernel)⟩
theorem c_M_117 : zV "LinkDiagramModel" 117 5 M_M_rounds 1 := ⟨cb_M_rounds, Or.inl (zG_mem (List.mem_append_right _ (List.mem_of_getElem? (i := 634) (by decide +kernel))) (by decide +kernel)), zG_mem (List.mem_append_right _ (List.mem_of_getElem? (i := 636) (by decide +kernel))) (by decide +kernel), zG_mem (List.mem_append_left _ (List.mem_of_getElem? (i := 40) (by decide +kernel))) (by decide +kernel), T_M, 19, rfl⟩
theorem c_M_120 : zV "LinkDiagramModel" 120 5 M_M_writhe 0 := ⟨cb_M_writhe, Or.inl (zG_mem (List.mem_append_right _ (List.mem_of_getElem? (i := 641) (by decide +kernel))) (by decide +kernel)), zG_mem (List.mem_append_right _ (List.mem_of_getElem? (i := 643) (by decide +kernel))) (by decide +kernel), zG_mem (List.mem_append_left _ (List.mem_of_getElem? (i := 41) (by decide +kernel))) (by decide +kernel), T_M, 19, rfl⟩
theorem c_M_123 : zV "LinkDiagramModel" 123 5 M_M_doubleLoop 0 := ⟨cb_M_doubleLoop, Or.inl (zG_mem (List.mem_append_right _ (List.mem_of_getElem? (i := 657) (by decide +kernel))) (by decide +kernel)), zG_mem (List.mem_append_right _ (List.mem_of_getElem? (i := 659) (by decide +kernel))) (by decide +kernel), zG_mem (List.mem_append_left _ (List.mem_of_getElem? (i := 43) (by decide +kernel))) (by decide +kernel), T_M, 19, rfl⟩
theorem c_M_126 : zV "LinkDiagramModel" 126 5 M_M_addState 1 := ⟨cb_M_addState, Or.inl (zG_mem (List.mem_append_right _ (List.mem_of_getElem? (i := 653) (by decide +kernel))) (by decide +kernel)), zG_mem (List.mem_append_right _ (List.mem_of_getElem? (i := 655) (by decide +kernel))) (by decide +kernel), zG_mem (List.mem_append_left _ (List.mem_of_getElem? (i := 42) (by decide +kernel))) (by decide +kernel), T_M, 19, rfl⟩
theorem c_M_129 : zV "LinkDiagramModel" 129 5 M_M_merge 2 := ⟨cb_M_merge, Or.inl (zG_mem (List.mem_append_right _ (List.mem_of_getElem? (i := 669) (by decide +kernel))) (by decide +kernel)), zG_mem (List.mem_append_right _ (List.mem_of_getElem? (i := 671) (by decide +kernel))) (by decide +kernel), zG_mem (List.mem_append_left _ (List.mem_of_getElem? (i := 45) (by decide +kernel))) (by decide +kernel), T_M, 19, rfl⟩
theorem c_M_136 : zV "LinkDiagramModel" 136 5 M_M_occurs 1 := ⟨cb_M_occurs, Or.inl (zG_mem (List.mem_append_right _ (List.mem_of_getElem? (i := 673) (by decide +kernel))) (by decide +kernel)), zG_mem (List.mem_append_right _ (List.mem_of_getElem? (i := 675) (by decide +kernel))) (by decide +kernel), zG_mem (List.mem_append_left _ (List.mem_of_getElem? (i := 46) (by decide +kernel))) (by decide +kernel), T_M, 19, rfl⟩
theorem c_M_141 : zV "LinkDiagramModel" 141 5 M_M_number 0 := ⟨cb_M_number, Or.inl (zG_mem (List.mem_append_right _ (List.mem_of_getElem? (i := 665) (by decide +kernel))) (by decide +kernel)), zG_mem (List.mem_append_right _ (List.mem_of_getElem? (i := 667) (by decide +kernel))) (by decide +kernel), zG_mem (List.mem_append_left _ (List.mem_of_getElem? (i := 44) (by decide +kernel))) (by decide +kernel), T_M, 19, rfl⟩
theorem c_M_144 : zV "LinkDiagramModel" 144 5 M_M_entries 1 := ⟨cb_M_entries, Or.inl (zG_mem (List.mem_append_right _ (List.mem_of_getElem? (i := 677) (by decide +kernel))) (by decide +kernel)), zG_mem (List.mem_append_right _ (List.mem_of_getElem? (i := 679) (by decide +kernel))) (by decide +kernel), zG_mem (List.mem_append_left _ (List.mem_of_getElem? (i := 47) (by decide +kernel))) (by decide +kernel), T_M, 19, rfl⟩
theorem c_M_147 : zS "LinkDiagramModel" 147 M_M_ones 1 := ⟨cb_M_ones, Or.inl (zG_mem (List.mem_append_right _ (List.mem_of_getElem? (i := 681) (by decide +kernel))) (by decide +kernel)), zG_mem (List.mem_append_right _ (List.mem_of_getElem? (i := 682) (by decide +kernel))) (by decide +kernel)⟩
theorem c_M_150 : zV "LinkDiagramModel" 150 5 M_M_expand 3 := ⟨cb_M_expand, Or.inl (zG_mem (List.mem_append_right _ (List.mem_of_getElem? (i := 684) (by decide +kernel))) (by decide +kernel)), zG_mem (List.mem_append_right _ (List.mem_of_getElem? (i := 686) (by decide +kernel))) (by decide +kernel), zG_mem (List.mem_append_left _ (List.mem_of_getElem? (i := 48) (by decide +kernel))) (by decide +kernel), T_M, 19, rfl⟩
theorem c_M_154 : zV "LinkDiagramModel" 154 5 M_M_endOf 2 := ⟨cb_M_endOf, Or.inl (zG_mem (List.mem_append_right _ (List.mem_of_getElem? (i := 705) (by decide +kernel))) (by decide +kernel)), zG_mem (List.mem_append_right _ (List.mem_of_getElem? (i := 707) (by decide +kernel))) (by decide +kernel), zG_mem (List.mem_append_left _ (List.mem_of_getElem? (i := 52) (by decide +kernel))) (by decide +kernel), T_M, 19, rfl⟩
theorem c_M_158 : zV "LinkDiagramModel" 158 5 M_M_instead 2 := ⟨cb_M_instead, Or.inl (zG_mem (List.mem_append_right _ (List.mem_of_getElem? (i := 701) (by decide +kernel))) (by decide +kernel)), zG_mem (List.mem_append_right _ (List.mem_of_getElem? (i := 703) (by decide +kernel))) (by decide +kernel), zG_mem (List.mem_append_left _ (List.mem_of_getElem? (i := 51) (by decide +kernel))) (by decide +kernel), T_M, 19, rfl⟩
theorem c_M_161 : zV "LinkDiagramModel" 161 5 M_M_free 1 := ⟨cb_M_free, Or.inl (zG_mem (List.mem_append_right _ (List.mem_of_getElem? (i := 693) (by decide +kernel))) (by decide +kernel)), zG_mem (List.mem_append_right _ (List.mem_of_getElem? (i := 695) (by decide +kernel))) (by decide +kernel), zG_mem (List.mem_append_left _ (List.mem_of_getElem? (i := 49) (by decide +kernel))) (by decide +kernel), T_M, 19, rfl⟩
theorem c_M_164 : zV "LinkDiagramModel" 164 5 M_M_kink 4 := ⟨cb_M_kink, Or.inl (zG_mem (List.mem_append_right _ (List.mem_of_getElem? (i := 697) (by decide +kernel))) (by decide +kernel)), zG_mem (List.mem_append_right _ (List.mem_of_getElem? (i := 699) (by decide +kernel))) (by decide +kernel), zG_mem (List.mem_append_left _ (List.mem_of_getElem? (i := 50) (by decide +kernel))) (by decide +kernel), T_M, 19, rfl⟩
theorem c_M_168 : zV "LinkDiagramModel" 168 5 M_M_isCrossing 1 := ⟨cb_M_isCrossing, Or.inl (zG_mem (List.mem_append_right _ (List.mem_of_getElem? (i := 713) (by decide +kernel))) (by decide +kernel)), zG_mem (List.mem_append_right _ (List.mem_of_getElem? (i := 715) (by decide +kernel))) (by decide +kernel), zG_mem (List.mem_append_left _ (List.mem_of_getElem? (i := 53) (by decide +kernel))) (by decide +kernel), T_M, 19, rfl⟩
theorem c_M_171 : zV "LinkDiagramModel" 171 5 M_M_takeOut 1 := ⟨cb_M_takeOut, Or.inl (zG_mem (List.mem_append_right _ (List.mem_of_getElem? (i := 717) (by decide +kernel))) (by decide +kernel)), zG_mem (List.mem_append_right _ (List.mem_of_getElem? (i := 719) (by decide +kernel))) (by decide +kernel), zG_mem (List.mem_append_left _ (List.mem_of_getElem? (i := 54) (by decide +kernel))) (by decide +kernel), T_M, 19, rfl⟩
theorem c_M_174 : zV "LinkDiagramModel" 174 5 M_M_join 2 := ⟨cb_M_join, Or.inl (zG_mem (List.mem_append_right _ (List.mem_of_getElem? (i := 721) (by decide +kernel))) (by decide +kernel)), zG_mem (List.mem_append_right _ (List.mem_of_getElem? (i := 723) (by decide +kernel))) (by decide +kernel), zG_mem (List.mem_append_left _ (List.mem_of_getElem? (i := 55) (by decide +kernel))) (by decide +kernel), T_M, 19, rfl⟩
theorem c_M_177 : zS "LinkDiagramModel" 177 M_M_opposite 1 := ⟨cb_M_opposite, Or.inl (zG_mem (List.mem_append_right _ (List.mem_of_getElem? (i := 745) (by decide +kernel))) (by decide +kernel)), zG_mem (List.mem_append_right _ (List.mem_of_getElem? (i := 746) (by decide +kernel))) (by decide +kernel)⟩
theorem c_M_180 : zV "LinkDiagramModel" 180 5 M_M_level 2 := ⟨cb_M_level, Or.inl (zG_mem (List.mem_append_right _ (List.mem_of_getElem? (i := 733) (by decide +kernel))) (by decide +kernel)), zG_mem (List.mem_append_right _ (List.mem_of_getElem? (i := 735) (by decide +kernel))) (by decide +kernel), zG_mem (List.mem_append_left _ (List.mem_of_getElem? (i := 56) (by decide +kernel))) (by decide +kernel), T_M, 19, rfl⟩
theorem c_M_184 : zV "LinkDiagramModel" 184 5 M_M_pull 4 := ⟨cb_M_pull, Or.inl (zG_mem (List.mem_append_right _ (List.mem_of_getElem? (i := 737) (by decide +kernel))) (by decide +kernel)), zG_mem (List.mem_append_right _ (List.mem_of_getElem? (i := 739) (by decide +kernel))) (by decide +kernel), zG_mem (List.mem_append_left _ (List.mem_of_getElem? (i := 57) (by decide +kernel))) (by decide +kernel), T_M, 19, rfl⟩
theorem c_M_187 : zV "LinkDiagramModel" 187 5 M_M_beyond 2 := ⟨cb_M_beyond, Or.inl (zG_mem (List.mem_append_right _ (List.mem_of_getElem? (i := 741) (by decide +kernel))) (by decide +kernel)), zG_mem (List.mem_append_right _ (List.mem_of_getElem? (i := 743) (by decide +kernel))) (by decide +kernel), zG_mem (List.mem_append_left _ (List.mem_of_getElem? (i := 58) (by decide +kernel))) (by decide +kernel), T_M, 19, rfl⟩
theorem c_M_190 : zV "LinkDiagramModel" 190 5 M_M_slideEdge 1 := ⟨cb_M_slideEdge, Or.inl (zG_mem (List.mem_append_right _ (List.mem_of_getElem? (i := 752) (by decide +kernel))) (by decide +kernel)), zG_mem (List.mem_append_right _ (List.mem_of_getElem? (i := 754) (by decide +kernel))) (by decide +kernel), zG_mem (List.mem_append_left _ (List.mem_of_getElem? (i := 59) (by decide +kernel))) (by decide +kernel), T_M, 19, rfl⟩
end
