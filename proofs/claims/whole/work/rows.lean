section
-- ===== PART A: goes FIRST, ahead of the names: the tables' words, and 'selects' of the private methods out of them =====
/-- a private method of a class that the tables say can be made, by its rows of tables_1 -/
def lw_okq (q : MethodName × Nat) : Prop := (q.1.cls ≠ "java/lang/invoke/MethodHandle" ∧ q.1.cls ≠ "java/lang/invoke/VarHandle") ∧ Cond.instantiable q.1.cls q.2 ∈ tables_1 ∧ Cond.privateMethod q.1 ∈ tables_1 ∧ Cond.instanceMethod q.1 ∈ tables_1
theorem lw_p0 : lw_okq (⟨"WordSolver$Search", "findModels", "()V"⟩, 10) := ⟨⟨by decide +kernel, by decide +kernel⟩, List.mem_of_getElem? (i := 141) (by decide +kernel), List.mem_of_getElem? (i := 307) (by decide +kernel), List.mem_of_getElem? (i := 308) (by decide +kernel)⟩
theorem lw_p1 : lw_okq (⟨"WordSolver$Search", "constraintCones", "()J"⟩, 10) := ⟨⟨by decide +kernel, by decide +kernel⟩, List.mem_of_getElem? (i := 141) (by decide +kernel), List.mem_of_getElem? (i := 311) (by decide +kernel), List.mem_of_getElem? (i := 312) (by decide +kernel)⟩
theorem lw_p2 : lw_okq (⟨"WordSolver$Lanes", "runNode", "(II)V"⟩, 3) := ⟨⟨by decide +kernel, by decide +kernel⟩, List.mem_of_getElem? (i := 124) (by decide +kernel), List.mem_of_getElem? (i := 351) (by decide +kernel), List.mem_of_getElem? (i := 352) (by decide +kernel)⟩
theorem lw_p3 : lw_okq (⟨"WordSolver$Lanes", "constantWord", "(III)V"⟩, 3) := ⟨⟨by decide +kernel, by decide +kernel⟩, List.mem_of_getElem? (i := 124) (by decide +kernel), List.mem_of_getElem? (i := 356) (by decide +kernel), List.mem_of_getElem? (i := 357) (by decide +kernel)⟩
theorem lw_p4 : lw_okq (⟨"WordSolver$Lanes", "variableWord", "(IIII)V"⟩, 3) := ⟨⟨by decide +kernel, by decide +kernel⟩, List.mem_of_getElem? (i := 124) (by decide +kernel), List.mem_of_getElem? (i := 371) (by decide +kernel), List.mem_of_getElem? (i := 372) (by decide +kernel)⟩
theorem lw_p5 : lw_okq (⟨"WordSolver$Lanes", "calculate", "(IIIII)V"⟩, 3) := ⟨⟨by decide +kernel, by decide +kernel⟩, List.mem_of_getElem? (i := 124) (by decide +kernel), List.mem_of_getElem? (i := 377) (by decide +kernel), List.mem_of_getElem? (i := 378) (by decide +kernel)⟩
theorem lw_p6 : lw_okq (⟨"WordSolver$Lanes", "add", "(IIII)V"⟩, 3) := ⟨⟨by decide +kernel, by decide +kernel⟩, List.mem_of_getElem? (i := 124) (by decide +kernel), List.mem_of_getElem? (i := 381) (by decide +kernel), List.mem_of_getElem? (i := 382) (by decide +kernel)⟩
theorem lw_p7 : lw_okq (⟨"WordSolver$Lanes", "subtract", "(IIII)V"⟩, 3) := ⟨⟨by decide +kernel, by decide +kernel⟩, List.mem_of_getElem? (i := 124) (by decide +kernel), List.mem_of_getElem? (i := 385) (by decide +kernel), List.mem_of_getElem? (i := 386) (by decide +kernel)⟩
theorem lw_p8 : lw_okq (⟨"WordSolver$Lanes", "multiply", "(IIII)V"⟩, 3) := ⟨⟨by decide +kernel, by decide +kernel⟩, List.mem_of_getElem? (i := 124) (by decide +kernel), List.mem_of_getElem? (i := 390) (by decide +kernel), List.mem_of_getElem? (i := 391) (by decide +kernel)⟩
theorem lw_p9 : lw_okq (⟨"WordSolver$Lanes", "combine", "(IIIII)V"⟩, 3) := ⟨⟨by decide +kernel, by decide +kernel⟩, List.mem_of_getElem? (i := 124) (by decide +kernel), List.mem_of_getElem? (i := 394) (by decide +kernel), List.mem_of_getElem? (i := 395) (by decide +kernel)⟩
theorem lw_p10 : lw_okq (⟨"WordSolver$Lanes", "shift", "(IIIII)V"⟩, 3) := ⟨⟨by decide +kernel, by decide +kernel⟩, List.mem_of_getElem? (i := 124) (by decide +kernel), List.mem_of_getElem? (i := 398) (by decide +kernel), List.mem_of_getElem? (i := 399) (by decide +kernel)⟩
theorem lw_p11 : lw_okq (⟨"WordSolver$Lanes", "shiftLeft", "(IIIJ)V"⟩, 3) := ⟨⟨by decide +kernel, by decide +kernel⟩, List.mem_of_getElem? (i := 124) (by decide +kernel), List.mem_of_getElem? (i := 402) (by decide +kernel), List.mem_of_getElem? (i := 403) (by decide +kernel)⟩
theorem lw_p12 : lw_okq (⟨"WordSolver$Lanes", "shiftRight", "(IIIJJ)V"⟩, 3) := ⟨⟨by decide +kernel, by decide +kernel⟩, List.mem_of_getElem? (i := 124) (by decide +kernel), List.mem_of_getElem? (i := 406) (by decide +kernel), List.mem_of_getElem? (i := 407) (by decide +kernel)⟩
theorem lw_p13 : lw_okq (⟨"WordSolver$Lanes", "divide", "(IIIII)V"⟩, 3) := ⟨⟨by decide +kernel, by decide +kernel⟩, List.mem_of_getElem? (i := 124) (by decide +kernel), List.mem_of_getElem? (i := 410) (by decide +kernel), List.mem_of_getElem? (i := 411) (by decide +kernel)⟩
theorem lw_p14 : lw_okq (⟨"WordSolver$Lanes", "borrowFromRest", "(III)J"⟩, 3) := ⟨⟨by decide +kernel, by decide +kernel⟩, List.mem_of_getElem? (i := 124) (by decide +kernel), List.mem_of_getElem? (i := 414) (by decide +kernel), List.mem_of_getElem? (i := 415) (by decide +kernel)⟩
theorem lw_p15 : lw_okq (⟨"WordSolver$Lanes", "anyBit", "(III)J"⟩, 3) := ⟨⟨by decide +kernel, by decide +kernel⟩, List.mem_of_getElem? (i := 124) (by decide +kernel), List.mem_of_getElem? (i := 418) (by decide +kernel), List.mem_of_getElem? (i := 419) (by decide +kernel)⟩
def lw_privs_1 : List (MethodName × Nat) := [(⟨"WordSolver$Search", "findModels", "()V"⟩, 10), (⟨"WordSolver$Search", "constraintCones", "()J"⟩, 10), (⟨"WordSolver$Lanes", "runNode", "(II)V"⟩, 3), (⟨"WordSolver$Lanes", "constantWord", "(III)V"⟩, 3), (⟨"WordSolver$Lanes", "variableWord", "(IIII)V"⟩, 3), (⟨"WordSolver$Lanes", "calculate", "(IIIII)V"⟩, 3), (⟨"WordSolver$Lanes", "add", "(IIII)V"⟩, 3), (⟨"WordSolver$Lanes", "subtract", "(IIII)V"⟩, 3), (⟨"WordSolver$Lanes", "multiply", "(IIII)V"⟩, 3), (⟨"WordSolver$Lanes", "combine", "(IIIII)V"⟩, 3), (⟨"WordSolver$Lanes", "shift", "(IIIII)V"⟩, 3), (⟨"WordSolver$Lanes", "shiftLeft", "(IIIJ)V"⟩, 3), (⟨"WordSolver$Lanes", "shiftRight", "(IIIJJ)V"⟩, 3), (⟨"WordSolver$Lanes", "divide", "(IIIII)V"⟩, 3), (⟨"WordSolver$Lanes", "borrowFromRest", "(III)J"⟩, 3), (⟨"WordSolver$Lanes", "anyBit", "(III)J"⟩, 3)]
theorem lw_r1 : ∀ q ∈ lw_privs_1, lw_okq q := List.forall_mem_cons.mpr ⟨lw_p0, List.forall_mem_cons.mpr ⟨lw_p1, List.forall_mem_cons.mpr ⟨lw_p2, List.forall_mem_cons.mpr ⟨lw_p3, List.forall_mem_cons.mpr ⟨lw_p4, List.forall_mem_cons.mpr ⟨lw_p5, List.forall_mem_cons.mpr ⟨lw_p6, List.forall_mem_cons.mpr ⟨lw_p7, List.forall_mem_cons.mpr ⟨lw_p8, List.forall_mem_cons.mpr ⟨lw_p9, List.forall_mem_cons.mpr ⟨lw_p10, List.forall_mem_cons.mpr ⟨lw_p11, List.forall_mem_cons.mpr ⟨lw_p12, List.forall_mem_cons.mpr ⟨lw_p13, List.forall_mem_cons.mpr ⟨lw_p14, List.forall_mem_cons.mpr ⟨lw_p15, fun _ h => absurd h List.not_mem_nil⟩⟩⟩⟩⟩⟩⟩⟩⟩⟩⟩⟩⟩⟩⟩⟩
theorem lw_p16 : lw_okq (⟨"WordSolver$Lanes", "takeFromRest", "(IIIJ)V"⟩, 3) := ⟨⟨by decide +kernel, by decide +kernel⟩, List.mem_of_getElem? (i := 124) (by decide +kernel), List.mem_of_getElem? (i := 422) (by decide +kernel), List.mem_of_getElem? (i := 423) (by decide +kernel)⟩
theorem lw_p17 : lw_okq (⟨"WordSolver$Lanes", "compare", "(IIII)J"⟩, 3) := ⟨⟨by decide +kernel, by decide +kernel⟩, List.mem_of_getElem? (i := 124) (by decide +kernel), List.mem_of_getElem? (i := 426) (by decide +kernel), List.mem_of_getElem? (i := 427) (by decide +kernel)⟩
theorem lw_p18 : lw_okq (⟨"WordSolver$Lanes", "differs", "(III)J"⟩, 3) := ⟨⟨by decide +kernel, by decide +kernel⟩, List.mem_of_getElem? (i := 124) (by decide +kernel), List.mem_of_getElem? (i := 430) (by decide +kernel), List.mem_of_getElem? (i := 431) (by decide +kernel)⟩
theorem lw_p19 : lw_okq (⟨"WordSolver$Lanes", "less", "(IIIZ)J"⟩, 3) := ⟨⟨by decide +kernel, by decide +kernel⟩, List.mem_of_getElem? (i := 124) (by decide +kernel), List.mem_of_getElem? (i := 434) (by decide +kernel), List.mem_of_getElem? (i := 435) (by decide +kernel)⟩
theorem lw_p20 : lw_okq (⟨"WordSolver$Lanes", "choose", "(IIIII)V"⟩, 3) := ⟨⟨by decide +kernel, by decide +kernel⟩, List.mem_of_getElem? (i := 124) (by decide +kernel), List.mem_of_getElem? (i := 438) (by decide +kernel), List.mem_of_getElem? (i := 439) (by decide +kernel)⟩
theorem lw_p21 : lw_okq (⟨"WordSolver$Lanes", "rearrange", "(IIIII)V"⟩, 3) := ⟨⟨by decide +kernel, by decide +kernel⟩, List.mem_of_getElem? (i := 124) (by decide +kernel), List.mem_of_getElem? (i := 442) (by decide +kernel), List.mem_of_getElem? (i := 443) (by decide +kernel)⟩
theorem lw_p22 : lw_okq (⟨"WordSolver$Lanes", "move", "(III)V"⟩, 3) := ⟨⟨by decide +kernel, by decide +kernel⟩, List.mem_of_getElem? (i := 124) (by decide +kernel), List.mem_of_getElem? (i := 446) (by decide +kernel), List.mem_of_getElem? (i := 447) (by decide +kernel)⟩
theorem lw_p23 : lw_okq (⟨"WordSolver$Lanes", "invert", "(III)V"⟩, 3) := ⟨⟨by decide +kernel, by decide +kernel⟩, List.mem_of_getElem? (i := 124) (by decide +kernel), List.mem_of_getElem? (i := 450) (by decide +kernel), List.mem_of_getElem? (i := 451) (by decide +kernel)⟩
theorem lw_p24 : lw_okq (⟨"WordSolver$Lanes", "negate", "(III)V"⟩, 3) := ⟨⟨by decide +kernel, by decide +kernel⟩, List.mem_of_getElem? (i := 124) (by decide +kernel), List.mem_of_getElem? (i := 454) (by decide +kernel), List.mem_of_getElem? (i := 455) (by decide +kernel)⟩
theorem lw_p25 : lw_okq (⟨"WordSolver$Lanes", "fillUp", "(IIIJ)V"⟩, 3) := ⟨⟨by decide +kernel, by decide +kernel⟩, List.mem_of_getElem? (i := 124) (by decide +kernel), List.mem_of_getElem? (i := 458) (by decide +kernel), List.mem_of_getElem? (i := 459) (by decide +kernel)⟩
theorem lw_p26 : lw_okq (⟨"WordSolver$Search", "allConstraints", "()J"⟩, 10) := ⟨⟨by decide +kernel, by decide +kernel⟩, List.mem_of_getElem? (i := 141) (by decide +kernel), List.mem_of_getElem? (i := 462) (by decide +kernel), List.mem_of_getElem? (i := 463) (by decide +kernel)⟩
theorem lw_p27 : lw_okq (⟨"WordSolver$Search", "filledRows", "()[J"⟩, 10) := ⟨⟨by decide +kernel, by decide +kernel⟩, List.mem_of_getElem? (i := 141) (by decide +kernel), List.mem_of_getElem? (i := 488) (by decide +kernel), List.mem_of_getElem? (i := 489) (by decide +kernel)⟩
theorem lw_p28 : lw_okq (⟨"WordSolver$Search", "isConflict", "([JI)Z"⟩, 10) := ⟨⟨by decide +kernel, by decide +kernel⟩, List.mem_of_getElem? (i := 141) (by decide +kernel), List.mem_of_getElem? (i := 495) (by decide +kernel), List.mem_of_getElem? (i := 496) (by decide +kernel)⟩
theorem lw_p29 : lw_okq (⟨"WordSolver", "remember", "()V"⟩, 8) := ⟨⟨by decide +kernel, by decide +kernel⟩, List.mem_of_getElem? (i := 26) (by decide +kernel), List.mem_of_getElem? (i := 503) (by decide +kernel), List.mem_of_getElem? (i := 504) (by decide +kernel)⟩
theorem lw_p30 : lw_okq (⟨"WordSolver$History", "dropOldest", "()V"⟩, 2) := ⟨⟨by decide +kernel, by decide +kernel⟩, List.mem_of_getElem? (i := 108) (by decide +kernel), List.mem_of_getElem? (i := 511) (by decide +kernel), List.mem_of_getElem? (i := 512) (by decide +kernel)⟩
theorem lw_p31 : lw_okq (⟨"WordSolver$Search", "goalWidth", "(II)I"⟩, 10) := ⟨⟨by decide +kernel, by decide +kernel⟩, List.mem_of_getElem? (i := 141) (by decide +kernel), List.mem_of_getElem? (i := 530) (by decide +kernel), List.mem_of_getElem? (i := 531) (by decide +kernel)⟩
def lw_privs_2 : List (MethodName × Nat) := [(⟨"WordSolver$Lanes", "takeFromRest", "(IIIJ)V"⟩, 3), (⟨"WordSolver$Lanes", "compare", "(IIII)J"⟩, 3), (⟨"WordSolver$Lanes", "differs", "(III)J"⟩, 3), (⟨"WordSolver$Lanes", "less", "(IIIZ)J"⟩, 3), (⟨"WordSolver$Lanes", "choose", "(IIIII)V"⟩, 3), (⟨"WordSolver$Lanes", "rearrange", "(IIIII)V"⟩, 3), (⟨"WordSolver$Lanes", "move", "(III)V"⟩, 3), (⟨"WordSolver$Lanes", "invert", "(III)V"⟩, 3), (⟨"WordSolver$Lanes", "negate", "(III)V"⟩, 3), (⟨"WordSolver$Lanes", "fillUp", "(IIIJ)V"⟩, 3), (⟨"WordSolver$Search", "allConstraints", "()J"⟩, 10), (⟨"WordSolver$Search", "filledRows", "()[J"⟩, 10), (⟨"WordSolver$Search", "isConflict", "([JI)Z"⟩, 10), (⟨"WordSolver", "remember", "()V"⟩, 8), (⟨"WordSolver$History", "dropOldest", "()V"⟩, 2), (⟨"WordSolver$Search", "goalWidth", "(II)I"⟩, 10)]
theorem lw_r2 : ∀ q ∈ lw_privs_2, lw_okq q := List.forall_mem_cons.mpr ⟨lw_p16, List.forall_mem_cons.mpr ⟨lw_p17, List.forall_mem_cons.mpr ⟨lw_p18, List.forall_mem_cons.mpr ⟨lw_p19, List.forall_mem_cons.mpr ⟨lw_p20, List.forall_mem_cons.mpr ⟨lw_p21, List.forall_mem_cons.mpr ⟨lw_p22, List.forall_mem_cons.mpr ⟨lw_p23, List.forall_mem_cons.mpr ⟨lw_p24, List.forall_mem_cons.mpr ⟨lw_p25, List.forall_mem_cons.mpr ⟨lw_p26, List.forall_mem_cons.mpr ⟨lw_p27, List.forall_mem_cons.mpr ⟨lw_p28, List.forall_mem_cons.mpr ⟨lw_p29, List.forall_mem_cons.mpr ⟨lw_p30, List.forall_mem_cons.mpr ⟨lw_p31, fun _ h => absurd h List.not_mem_nil⟩⟩⟩⟩⟩⟩⟩⟩⟩⟩⟩⟩⟩⟩⟩⟩
theorem lw_p32 : lw_okq (⟨"WordSolver$Search", "wishCones", "()J"⟩, 10) := ⟨⟨by decide +kernel, by decide +kernel⟩, List.mem_of_getElem? (i := 141) (by decide +kernel), List.mem_of_getElem? (i := 538) (by decide +kernel), List.mem_of_getElem? (i := 539) (by decide +kernel)⟩
theorem lw_p33 : lw_okq (⟨"WordSolver$Search", "setGoal", "(IIII)V"⟩, 10) := ⟨⟨by decide +kernel, by decide +kernel⟩, List.mem_of_getElem? (i := 141) (by decide +kernel), List.mem_of_getElem? (i := 542) (by decide +kernel), List.mem_of_getElem? (i := 543) (by decide +kernel)⟩
theorem lw_p34 : lw_okq (⟨"WordSolver$Lanes", "addToGoal", "(IJ)V"⟩, 3) := ⟨⟨by decide +kernel, by decide +kernel⟩, List.mem_of_getElem? (i := 124) (by decide +kernel), List.mem_of_getElem? (i := 559) (by decide +kernel), List.mem_of_getElem? (i := 560) (by decide +kernel)⟩
theorem lw_p35 : lw_okq (⟨"WordSolver$Search", "climbIn", "(II)V"⟩, 10) := ⟨⟨by decide +kernel, by decide +kernel⟩, List.mem_of_getElem? (i := 141) (by decide +kernel), List.mem_of_getElem? (i := 563) (by decide +kernel), List.mem_of_getElem? (i := 564) (by decide +kernel)⟩
theorem lw_p36 : lw_okq (⟨"WordSolver$Parser", "takeNext", "()V"⟩, 13) := ⟨⟨by decide +kernel, by decide +kernel⟩, List.mem_of_getElem? (i := 192) (by decide +kernel), List.mem_of_getElem? (i := 596) (by decide +kernel), List.mem_of_getElem? (i := 597) (by decide +kernel)⟩
theorem lw_p37 : lw_okq (⟨"WordSolver$Parser", "isWhole", "()Z"⟩, 13) := ⟨⟨by decide +kernel, by decide +kernel⟩, List.mem_of_getElem? (i := 192) (by decide +kernel), List.mem_of_getElem? (i := 604) (by decide +kernel), List.mem_of_getElem? (i := 605) (by decide +kernel)⟩
theorem lw_p38 : lw_okq (⟨"WordSolver$Parser", "wantsNode", "()Z"⟩, 13) := ⟨⟨by decide +kernel, by decide +kernel⟩, List.mem_of_getElem? (i := 192) (by decide +kernel), List.mem_of_getElem? (i := 608) (by decide +kernel), List.mem_of_getElem? (i := 609) (by decide +kernel)⟩
theorem lw_p39 : lw_okq (⟨"WordSolver$Parser", "takeOpening", "()V"⟩, 13) := ⟨⟨by decide +kernel, by decide +kernel⟩, List.mem_of_getElem? (i := 192) (by decide +kernel), List.mem_of_getElem? (i := 612) (by decide +kernel), List.mem_of_getElem? (i := 613) (by decide +kernel)⟩
theorem lw_p40 : lw_okq (⟨"WordSolver$Parser", "skipSpaces", "()V"⟩, 13) := ⟨⟨by decide +kernel, by decide +kernel⟩, List.mem_of_getElem? (i := 192) (by decide +kernel), List.mem_of_getElem? (i := 616) (by decide +kernel), List.mem_of_getElem? (i := 617) (by decide +kernel)⟩
theorem lw_p41 : lw_okq (⟨"WordSolver$Parser", "isWordLetter", "(I)Z"⟩, 13) := ⟨⟨by decide +kernel, by decide +kernel⟩, List.mem_of_getElem? (i := 192) (by decide +kernel), List.mem_of_getElem? (i := 620) (by decide +kernel), List.mem_of_getElem? (i := 621) (by decide +kernel)⟩
theorem lw_p42 : lw_okq (⟨"WordSolver$Parser", "takeLeaf", "()V"⟩, 13) := ⟨⟨by decide +kernel, by decide +kernel⟩, List.mem_of_getElem? (i := 192) (by decide +kernel), List.mem_of_getElem? (i := 692) (by decide +kernel), List.mem_of_getElem? (i := 693) (by decide +kernel)⟩
theorem lw_p43 : lw_okq (⟨"WordSolver$Parser", "takeDigit", "()I"⟩, 13) := ⟨⟨by decide +kernel, by decide +kernel⟩, List.mem_of_getElem? (i := 192) (by decide +kernel), List.mem_of_getElem? (i := 696) (by decide +kernel), List.mem_of_getElem? (i := 697) (by decide +kernel)⟩
theorem lw_p44 : lw_okq (⟨"WordSolver$Parser", "addStep", "(III)V"⟩, 13) := ⟨⟨by decide +kernel, by decide +kernel⟩, List.mem_of_getElem? (i := 192) (by decide +kernel), List.mem_of_getElem? (i := 700) (by decide +kernel), List.mem_of_getElem? (i := 701) (by decide +kernel)⟩
theorem lw_p45 : lw_okq (⟨"WordSolver$Parser", "takeConstant", "()V"⟩, 13) := ⟨⟨by decide +kernel, by decide +kernel⟩, List.mem_of_getElem? (i := 192) (by decide +kernel), List.mem_of_getElem? (i := 704) (by decide +kernel), List.mem_of_getElem? (i := 705) (by decide +kernel)⟩
theorem lw_p46 : lw_okq (⟨"WordSolver$Parser", "takeWantedDigit", "()V"⟩, 13) := ⟨⟨by decide +kernel, by decide +kernel⟩, List.mem_of_getElem? (i := 192) (by decide +kernel), List.mem_of_getElem? (i := 708) (by decide +kernel), List.mem_of_getElem? (i := 709) (by decide +kernel)⟩
theorem lw_p47 : lw_okq (⟨"WordSolver$Parser", "takeClosing", "()V"⟩, 13) := ⟨⟨by decide +kernel, by decide +kernel⟩, List.mem_of_getElem? (i := 192) (by decide +kernel), List.mem_of_getElem? (i := 712) (by decide +kernel), List.mem_of_getElem? (i := 713) (by decide +kernel)⟩
def lw_privs_3 : List (MethodName × Nat) := [(⟨"WordSolver$Search", "wishCones", "()J"⟩, 10), (⟨"WordSolver$Search", "setGoal", "(IIII)V"⟩, 10), (⟨"WordSolver$Lanes", "addToGoal", "(IJ)V"⟩, 3), (⟨"WordSolver$Search", "climbIn", "(II)V"⟩, 10), (⟨"WordSolver$Parser", "takeNext", "()V"⟩, 13), (⟨"WordSolver$Parser", "isWhole", "()Z"⟩, 13), (⟨"WordSolver$Parser", "wantsNode", "()Z"⟩, 13), (⟨"WordSolver$Parser", "takeOpening", "()V"⟩, 13), (⟨"WordSolver$Parser", "skipSpaces", "()V"⟩, 13), (⟨"WordSolver$Parser", "isWordLetter", "(I)Z"⟩, 13), (⟨"WordSolver$Parser", "takeLeaf", "()V"⟩, 13), (⟨"WordSolver$Parser", "takeDigit", "()I"⟩, 13), (⟨"WordSolver$Parser", "addStep", "(III)V"⟩, 13), (⟨"WordSolver$Parser", "takeConstant", "()V"⟩, 13), (⟨"WordSolver$Parser", "takeWantedDigit", "()V"⟩, 13), (⟨"WordSolver$Parser", "takeClosing", "()V"⟩, 13)]
theorem lw_r3 : ∀ q ∈ lw_privs_3, lw_okq q := List.forall_mem_cons.mpr ⟨lw_p32, List.forall_mem_cons.mpr ⟨lw_p33, List.forall_mem_cons.mpr ⟨lw_p34, List.forall_mem_cons.mpr ⟨lw_p35, List.forall_mem_cons.mpr ⟨lw_p36, List.forall_mem_cons.mpr ⟨lw_p37, List.forall_mem_cons.mpr ⟨lw_p38, List.forall_mem_cons.mpr ⟨lw_p39, List.forall_mem_cons.mpr ⟨lw_p40, List.forall_mem_cons.mpr ⟨lw_p41, List.forall_mem_cons.mpr ⟨lw_p42, List.forall_mem_cons.mpr ⟨lw_p43, List.forall_mem_cons.mpr ⟨lw_p44, List.forall_mem_cons.mpr ⟨lw_p45, List.forall_mem_cons.mpr ⟨lw_p46, List.forall_mem_cons.mpr ⟨lw_p47, fun _ h => absurd h List.not_mem_nil⟩⟩⟩⟩⟩⟩⟩⟩⟩⟩⟩⟩⟩⟩⟩⟩
theorem lw_p48 : lw_okq (⟨"WordSolver", "hashNodes", "(J)J"⟩, 8) := ⟨⟨by decide +kernel, by decide +kernel⟩, List.mem_of_getElem? (i := 26) (by decide +kernel), List.mem_of_getElem? (i := 727) (by decide +kernel), List.mem_of_getElem? (i := 728) (by decide +kernel)⟩
theorem lw_p49 : lw_okq (⟨"WordSolver", "hashDemands", "(J)J"⟩, 8) := ⟨⟨by decide +kernel, by decide +kernel⟩, List.mem_of_getElem? (i := 26) (by decide +kernel), List.mem_of_getElem? (i := 753) (by decide +kernel), List.mem_of_getElem? (i := 754) (by decide +kernel)⟩
theorem lw_p50 : lw_okq (⟨"java/lang/Throwable", "fillInStackTrace", "(I)Ljava/lang/Throwable;"⟩, 6) := ⟨⟨by decide +kernel, by decide +kernel⟩, List.mem_of_getElem? (i := 824) (by decide +kernel), List.mem_of_getElem? (i := 822) (by decide +kernel), List.mem_of_getElem? (i := 823) (by decide +kernel)⟩
theorem lw_p51 : lw_okq (⟨"WordSolver$Graph", "draft", "(II)V"⟩, 5) := ⟨⟨by decide +kernel, by decide +kernel⟩, List.mem_of_getElem? (i := 34) (by decide +kernel), List.mem_of_getElem? (i := 857) (by decide +kernel), List.mem_of_getElem? (i := 858) (by decide +kernel)⟩
theorem lw_p52 : lw_okq (⟨"WordSolver$Graph", "put", "(II)V"⟩, 5) := ⟨⟨by decide +kernel, by decide +kernel⟩, List.mem_of_getElem? (i := 34) (by decide +kernel), List.mem_of_getElem? (i := 861) (by decide +kernel), List.mem_of_getElem? (i := 862) (by decide +kernel)⟩
theorem lw_p53 : lw_okq (⟨"WordSolver$Graph", "keepDraft", "()I"⟩, 5) := ⟨⟨by decide +kernel, by decide +kernel⟩, List.mem_of_getElem? (i := 34) (by decide +kernel), List.mem_of_getElem? (i := 865) (by decide +kernel), List.mem_of_getElem? (i := 866) (by decide +kernel)⟩
theorem lw_p54 : lw_okq (⟨"WordSolver$Graph", "isDrafted", "(I)Z"⟩, 5) := ⟨⟨by decide +kernel, by decide +kernel⟩, List.mem_of_getElem? (i := 34) (by decide +kernel), List.mem_of_getElem? (i := 869) (by decide +kernel), List.mem_of_getElem? (i := 870) (by decide +kernel)⟩
theorem lw_p55 : lw_okq (⟨"WordSolver", "keepMade", "(II)I"⟩, 8) := ⟨⟨by decide +kernel, by decide +kernel⟩, List.mem_of_getElem? (i := 26) (by decide +kernel), List.mem_of_getElem? (i := 873) (by decide +kernel), List.mem_of_getElem? (i := 874) (by decide +kernel)⟩
theorem lw_p56 : lw_okq (⟨"WordSolver", "demandNode", "(I)V"⟩, 8) := ⟨⟨by decide +kernel, by decide +kernel⟩, List.mem_of_getElem? (i := 26) (by decide +kernel), List.mem_of_getElem? (i := 923) (by decide +kernel), List.mem_of_getElem? (i := 924) (by decide +kernel)⟩
theorem lw_p57 : lw_okq (⟨"WordSolver$Graph", "binaryWidth", "(III)I"⟩, 5) := ⟨⟨by decide +kernel, by decide +kernel⟩, List.mem_of_getElem? (i := 34) (by decide +kernel), List.mem_of_getElem? (i := 949) (by decide +kernel), List.mem_of_getElem? (i := 950) (by decide +kernel)⟩
theorem lw_p58 : lw_okq (⟨"WordSolver", "demandVariable", "(I)V"⟩, 8) := ⟨⟨by decide +kernel, by decide +kernel⟩, List.mem_of_getElem? (i := 26) (by decide +kernel), List.mem_of_getElem? (i := 1025) (by decide +kernel), List.mem_of_getElem? (i := 1026) (by decide +kernel)⟩
theorem lw_p59 : lw_okq (⟨"WordSolver$Search", "bitsThatOccur", "(IIJJ)I"⟩, 10) := ⟨⟨by decide +kernel, by decide +kernel⟩, List.mem_of_getElem? (i := 141) (by decide +kernel), List.mem_of_getElem? (i := 1121) (by decide +kernel), List.mem_of_getElem? (i := 1122) (by decide +kernel)⟩
theorem lw_p60 : lw_okq (⟨"WordSolver$Search", "markWords", "(II)I"⟩, 10) := ⟨⟨by decide +kernel, by decide +kernel⟩, List.mem_of_getElem? (i := 141) (by decide +kernel), List.mem_of_getElem? (i := 1154) (by decide +kernel), List.mem_of_getElem? (i := 1155) (by decide +kernel)⟩
theorem lw_p61 : lw_okq (⟨"WordSolver", "demandSameWidth", "(II)V"⟩, 8) := ⟨⟨by decide +kernel, by decide +kernel⟩, List.mem_of_getElem? (i := 26) (by decide +kernel), List.mem_of_getElem? (i := 1177) (by decide +kernel), List.mem_of_getElem? (i := 1178) (by decide +kernel)⟩
theorem lw_p62 : lw_okq (⟨"WordSolver$Parser", "buildStep", "(LWordSolver$Graph;II)I"⟩, 13) := ⟨⟨by decide +kernel, by decide +kernel⟩, List.mem_of_getElem? (i := 192) (by decide +kernel), List.mem_of_getElem? (i := 1234) (by decide +kernel), List.mem_of_getElem? (i := 1235) (by decide +kernel)⟩
theorem lw_p63 : lw_okq (⟨"WordSolver$Writer", "lengthByOperands", "(I)I"⟩, 3) := ⟨⟨by decide +kernel, by decide +kernel⟩, List.mem_of_getElem? (i := 238) (by decide +kernel), List.mem_of_getElem? (i := 1261) (by decide +kernel), List.mem_of_getElem? (i := 1262) (by decide +kernel)⟩
def lw_privs_4 : List (MethodName × Nat) := [(⟨"WordSolver", "hashNodes", "(J)J"⟩, 8), (⟨"WordSolver", "hashDemands", "(J)J"⟩, 8), (⟨"java/lang/Throwable", "fillInStackTrace", "(I)Ljava/lang/Throwable;"⟩, 6), (⟨"WordSolver$Graph", "draft", "(II)V"⟩, 5), (⟨"WordSolver$Graph", "put", "(II)V"⟩, 5), (⟨"WordSolver$Graph", "keepDraft", "()I"⟩, 5), (⟨"WordSolver$Graph", "isDrafted", "(I)Z"⟩, 5), (⟨"WordSolver", "keepMade", "(II)I"⟩, 8), (⟨"WordSolver", "demandNode", "(I)V"⟩, 8), (⟨"WordSolver$Graph", "binaryWidth", "(III)I"⟩, 5), (⟨"WordSolver", "demandVariable", "(I)V"⟩, 8), (⟨"WordSolver$Search", "bitsThatOccur", "(IIJJ)I"⟩, 10), (⟨"WordSolver$Search", "markWords", "(II)I"⟩, 10), (⟨"WordSolver", "demandSameWidth", "(II)V"⟩, 8), (⟨"WordSolver$Parser", "buildStep", "(LWordSolver$Graph;II)I"⟩, 13), (⟨"WordSolver$Writer", "lengthByOperands", "(I)I"⟩, 3)]
theorem lw_r4 : ∀ q ∈ lw_privs_4, lw_okq q := List.forall_mem_cons.mpr ⟨lw_p48, List.forall_mem_cons.mpr ⟨lw_p49, List.forall_mem_cons.mpr ⟨lw_p50, List.forall_mem_cons.mpr ⟨lw_p51, List.forall_mem_cons.mpr ⟨lw_p52, List.forall_mem_cons.mpr ⟨lw_p53, List.forall_mem_cons.mpr ⟨lw_p54, List.forall_mem_cons.mpr ⟨lw_p55, List.forall_mem_cons.mpr ⟨lw_p56, List.forall_mem_cons.mpr ⟨lw_p57, List.forall_mem_cons.mpr ⟨lw_p58, List.forall_mem_cons.mpr ⟨lw_p59, List.forall_mem_cons.mpr ⟨lw_p60, List.forall_mem_cons.mpr ⟨lw_p61, List.forall_mem_cons.mpr ⟨lw_p62, List.forall_mem_cons.mpr ⟨lw_p63, fun _ h => absurd h List.not_mem_nil⟩⟩⟩⟩⟩⟩⟩⟩⟩⟩⟩⟩⟩⟩⟩⟩
theorem lw_p64 : lw_okq (⟨"WordSolver$Writer", "addNumber", "(I)V"⟩, 3) := ⟨⟨by decide +kernel, by decide +kernel⟩, List.mem_of_getElem? (i := 238) (by decide +kernel), List.mem_of_getElem? (i := 1278) (by decide +kernel), List.mem_of_getElem? (i := 1279) (by decide +kernel)⟩
theorem lw_p65 : lw_okq (⟨"WordSolver$Writer", "addWord", "(I)V"⟩, 3) := ⟨⟨by decide +kernel, by decide +kernel⟩, List.mem_of_getElem? (i := 238) (by decide +kernel), List.mem_of_getElem? (i := 1283) (by decide +kernel), List.mem_of_getElem? (i := 1284) (by decide +kernel)⟩
theorem lw_p66 : lw_okq (⟨"WordSolver$Writer", "addDigits", "(II)V"⟩, 3) := ⟨⟨by decide +kernel, by decide +kernel⟩, List.mem_of_getElem? (i := 238) (by decide +kernel), List.mem_of_getElem? (i := 1289) (by decide +kernel), List.mem_of_getElem? (i := 1290) (by decide +kernel)⟩
theorem lw_p67 : lw_okq (⟨"WordSolverModel", "refused", "(I)Z"⟩, 27) := ⟨⟨by decide +kernel, by decide +kernel⟩, List.mem_of_getElem? (i := 1305) (by decide +kernel), List.mem_of_getElem? (i := 1402) (by decide +kernel), List.mem_of_getElem? (i := 1403) (by decide +kernel)⟩
theorem lw_p68 : lw_okq (⟨"WordSolverModel", "bitsOfAll", "()I"⟩, 27) := ⟨⟨by decide +kernel, by decide +kernel⟩, List.mem_of_getElem? (i := 1305) (by decide +kernel), List.mem_of_getElem? (i := 1413) (by decide +kernel), List.mem_of_getElem? (i := 1414) (by decide +kernel)⟩
theorem lw_p69 : lw_okq (⟨"WordSolverModel", "width", "(I)I"⟩, 27) := ⟨⟨by decide +kernel, by decide +kernel⟩, List.mem_of_getElem? (i := 1305) (by decide +kernel), List.mem_of_getElem? (i := 1417) (by decide +kernel), List.mem_of_getElem? (i := 1418) (by decide +kernel)⟩
theorem lw_p70 : lw_okq (⟨"WordSolverModel", "of", "(II)I"⟩, 27) := ⟨⟨by decide +kernel, by decide +kernel⟩, List.mem_of_getElem? (i := 1305) (by decide +kernel), List.mem_of_getElem? (i := 1421) (by decide +kernel), List.mem_of_getElem? (i := 1422) (by decide +kernel)⟩
theorem lw_p71 : lw_okq (⟨"WordSolverModel", "saves", "()V"⟩, 27) := ⟨⟨by decide +kernel, by decide +kernel⟩, List.mem_of_getElem? (i := 1305) (by decide +kernel), List.mem_of_getElem? (i := 1425) (by decide +kernel), List.mem_of_getElem? (i := 1426) (by decide +kernel)⟩
theorem lw_p72 : lw_okq (⟨"WordSolverModel", "makes", "(IIIIIII)I"⟩, 27) := ⟨⟨by decide +kernel, by decide +kernel⟩, List.mem_of_getElem? (i := 1305) (by decide +kernel), List.mem_of_getElem? (i := 1429) (by decide +kernel), List.mem_of_getElem? (i := 1430) (by decide +kernel)⟩
theorem lw_p73 : lw_okq (⟨"WordSolverModel", "kind", "(I)I"⟩, 27) := ⟨⟨by decide +kernel, by decide +kernel⟩, List.mem_of_getElem? (i := 1305) (by decide +kernel), List.mem_of_getElem? (i := 1433) (by decide +kernel), List.mem_of_getElem? (i := 1434) (by decide +kernel)⟩
theorem lw_p74 : lw_okq (⟨"WordSolverModel", "madeBy", "(IIIIIIII)I"⟩, 27) := ⟨⟨by decide +kernel, by decide +kernel⟩, List.mem_of_getElem? (i := 1305) (by decide +kernel), List.mem_of_getElem? (i := 1447) (by decide +kernel), List.mem_of_getElem? (i := 1448) (by decide +kernel)⟩
theorem lw_p75 : lw_okq (⟨"WordSolverModel", "isNode", "(I)Z"⟩, 27) := ⟨⟨by decide +kernel, by decide +kernel⟩, List.mem_of_getElem? (i := 1305) (by decide +kernel), List.mem_of_getElem? (i := 1455) (by decide +kernel), List.mem_of_getElem? (i := 1456) (by decide +kernel)⟩
theorem lw_p76 : lw_okq (⟨"WordSolverModel", "fits", "(III)Z"⟩, 27) := ⟨⟨by decide +kernel, by decide +kernel⟩, List.mem_of_getElem? (i := 1305) (by decide +kernel), List.mem_of_getElem? (i := 1459) (by decide +kernel), List.mem_of_getElem? (i := 1460) (by decide +kernel)⟩
theorem lw_p77 : lw_okq (⟨"WordSolverModel", "widthBy", "(III)I"⟩, 27) := ⟨⟨by decide +kernel, by decide +kernel⟩, List.mem_of_getElem? (i := 1305) (by decide +kernel), List.mem_of_getElem? (i := 1463) (by decide +kernel), List.mem_of_getElem? (i := 1464) (by decide +kernel)⟩
theorem lw_p78 : lw_okq (⟨"WordSolverModel", "isSlice", "(III)Z"⟩, 27) := ⟨⟨by decide +kernel, by decide +kernel⟩, List.mem_of_getElem? (i := 1305) (by decide +kernel), List.mem_of_getElem? (i := 1475) (by decide +kernel), List.mem_of_getElem? (i := 1476) (by decide +kernel)⟩
theorem lw_p79 : lw_okq (⟨"WordSolverModel", "isExtended", "(II)Z"⟩, 27) := ⟨⟨by decide +kernel, by decide +kernel⟩, List.mem_of_getElem? (i := 1305) (by decide +kernel), List.mem_of_getElem? (i := 1483) (by decide +kernel), List.mem_of_getElem? (i := 1484) (by decide +kernel)⟩
def lw_privs_5 : List (MethodName × Nat) := [(⟨"WordSolver$Writer", "addNumber", "(I)V"⟩, 3), (⟨"WordSolver$Writer", "addWord", "(I)V"⟩, 3), (⟨"WordSolver$Writer", "addDigits", "(II)V"⟩, 3), (⟨"WordSolverModel", "refused", "(I)Z"⟩, 27), (⟨"WordSolverModel", "bitsOfAll", "()I"⟩, 27), (⟨"WordSolverModel", "width", "(I)I"⟩, 27), (⟨"WordSolverModel", "of", "(II)I"⟩, 27), (⟨"WordSolverModel", "saves", "()V"⟩, 27), (⟨"WordSolverModel", "makes", "(IIIIIII)I"⟩, 27), (⟨"WordSolverModel", "kind", "(I)I"⟩, 27), (⟨"WordSolverModel", "madeBy", "(IIIIIIII)I"⟩, 27), (⟨"WordSolverModel", "isNode", "(I)Z"⟩, 27), (⟨"WordSolverModel", "fits", "(III)Z"⟩, 27), (⟨"WordSolverModel", "widthBy", "(III)I"⟩, 27), (⟨"WordSolverModel", "isSlice", "(III)Z"⟩, 27), (⟨"WordSolverModel", "isExtended", "(II)Z"⟩, 27)]
theorem lw_r5 : ∀ q ∈ lw_privs_5, lw_okq q := List.forall_mem_cons.mpr ⟨lw_p64, List.forall_mem_cons.mpr ⟨lw_p65, List.forall_mem_cons.mpr ⟨lw_p66, List.forall_mem_cons.mpr ⟨lw_p67, List.forall_mem_cons.mpr ⟨lw_p68, List.forall_mem_cons.mpr ⟨lw_p69, List.forall_mem_cons.mpr ⟨lw_p70, List.forall_mem_cons.mpr ⟨lw_p71, List.forall_mem_cons.mpr ⟨lw_p72, List.forall_mem_cons.mpr ⟨lw_p73, List.forall_mem_cons.mpr ⟨lw_p74, List.forall_mem_cons.mpr ⟨lw_p75, List.forall_mem_cons.mpr ⟨lw_p76, List.forall_mem_cons.mpr ⟨lw_p77, List.forall_mem_cons.mpr ⟨lw_p78, List.forall_mem_cons.mpr ⟨lw_p79, fun _ h => absurd h List.not_mem_nil⟩⟩⟩⟩⟩⟩⟩⟩⟩⟩⟩⟩⟩⟩⟩⟩
theorem lw_p80 : lw_okq (⟨"WordSolverModel", "isChoice", "(III)Z"⟩, 27) := ⟨⟨by decide +kernel, by decide +kernel⟩, List.mem_of_getElem? (i := 1305) (by decide +kernel), List.mem_of_getElem? (i := 1491) (by decide +kernel), List.mem_of_getElem? (i := 1492) (by decide +kernel)⟩
theorem lw_p81 : lw_okq (⟨"WordSolverModel", "told", "(II)I"⟩, 27) := ⟨⟨by decide +kernel, by decide +kernel⟩, List.mem_of_getElem? (i := 1305) (by decide +kernel), List.mem_of_getElem? (i := 1507) (by decide +kernel), List.mem_of_getElem? (i := 1508) (by decide +kernel)⟩
theorem lw_p82 : lw_okq (⟨"WordSolverModel", "parts", "(I)I"⟩, 27) := ⟨⟨by decide +kernel, by decide +kernel⟩, List.mem_of_getElem? (i := 1305) (by decide +kernel), List.mem_of_getElem? (i := 1511) (by decide +kernel), List.mem_of_getElem? (i := 1512) (by decide +kernel)⟩
theorem lw_p83 : lw_okq (⟨"WordSolverModel", "isVariable", "(I)Z"⟩, 27) := ⟨⟨by decide +kernel, by decide +kernel⟩, List.mem_of_getElem? (i := 1305) (by decide +kernel), List.mem_of_getElem? (i := 1519) (by decide +kernel), List.mem_of_getElem? (i := 1520) (by decide +kernel)⟩
theorem lw_p84 : lw_okq (⟨"WordSolverModel", "need", "(Z)I"⟩, 27) := ⟨⟨by decide +kernel, by decide +kernel⟩, List.mem_of_getElem? (i := 1305) (by decide +kernel), List.mem_of_getElem? (i := 1527) (by decide +kernel), List.mem_of_getElem? (i := 1528) (by decide +kernel)⟩
theorem lw_p85 : lw_okq (⟨"WordSolverModel", "laysInputs", "()V"⟩, 27) := ⟨⟨by decide +kernel, by decide +kernel⟩, List.mem_of_getElem? (i := 1305) (by decide +kernel), List.mem_of_getElem? (i := 1531) (by decide +kernel), List.mem_of_getElem? (i := 1532) (by decide +kernel)⟩
theorem lw_p86 : lw_okq (⟨"WordSolverModel", "laysValues", "()V"⟩, 27) := ⟨⟨by decide +kernel, by decide +kernel⟩, List.mem_of_getElem? (i := 1305) (by decide +kernel), List.mem_of_getElem? (i := 1535) (by decide +kernel), List.mem_of_getElem? (i := 1536) (by decide +kernel)⟩
theorem lw_p87 : lw_okq (⟨"WordSolverModel", "valueOf", "(I)I"⟩, 27) := ⟨⟨by decide +kernel, by decide +kernel⟩, List.mem_of_getElem? (i := 1305) (by decide +kernel), List.mem_of_getElem? (i := 1539) (by decide +kernel), List.mem_of_getElem? (i := 1540) (by decide +kernel)⟩
theorem lw_p88 : lw_okq (⟨"WordSolverModel", "model", "(I)I"⟩, 27) := ⟨⟨by decide +kernel, by decide +kernel⟩, List.mem_of_getElem? (i := 1305) (by decide +kernel), List.mem_of_getElem? (i := 1576) (by decide +kernel), List.mem_of_getElem? (i := 1577) (by decide +kernel)⟩
theorem lw_p89 : lw_okq (⟨"WordSolverModel", "lays", "()V"⟩, 27) := ⟨⟨by decide +kernel, by decide +kernel⟩, List.mem_of_getElem? (i := 1305) (by decide +kernel), List.mem_of_getElem? (i := 1580) (by decide +kernel), List.mem_of_getElem? (i := 1581) (by decide +kernel)⟩
theorem lw_p90 : lw_okq (⟨"WordSolverModel", "laysAssignment", "(I)V"⟩, 27) := ⟨⟨by decide +kernel, by decide +kernel⟩, List.mem_of_getElem? (i := 1305) (by decide +kernel), List.mem_of_getElem? (i := 1584) (by decide +kernel), List.mem_of_getElem? (i := 1585) (by decide +kernel)⟩
theorem lw_p91 : lw_okq (⟨"WordSolverModel", "wordOf", "(II)I"⟩, 27) := ⟨⟨by decide +kernel, by decide +kernel⟩, List.mem_of_getElem? (i := 1305) (by decide +kernel), List.mem_of_getElem? (i := 1592) (by decide +kernel), List.mem_of_getElem? (i := 1593) (by decide +kernel)⟩
theorem lw_p92 : lw_okq (⟨"WordSolverModel", "extremeModel", "(IZZ)I"⟩, 27) := ⟨⟨by decide +kernel, by decide +kernel⟩, List.mem_of_getElem? (i := 1305) (by decide +kernel), List.mem_of_getElem? (i := 1600) (by decide +kernel), List.mem_of_getElem? (i := 1601) (by decide +kernel)⟩
theorem lw_p93 : lw_okq (⟨"WordSolverModel", "laysMet", "(I)V"⟩, 27) := ⟨⟨by decide +kernel, by decide +kernel⟩, List.mem_of_getElem? (i := 1305) (by decide +kernel), List.mem_of_getElem? (i := 1620) (by decide +kernel), List.mem_of_getElem? (i := 1621) (by decide +kernel)⟩
theorem lw_p94 : lw_okq (⟨"WordSolverModel", "differing", "(II)I"⟩, 27) := ⟨⟨by decide +kernel, by decide +kernel⟩, List.mem_of_getElem? (i := 1305) (by decide +kernel), List.mem_of_getElem? (i := 1632) (by decide +kernel), List.mem_of_getElem? (i := 1633) (by decide +kernel)⟩
theorem lw_p95 : lw_okq (⟨"WordSolverModel", "isConflict", "(I)Z"⟩, 27) := ⟨⟨by decide +kernel, by decide +kernel⟩, List.mem_of_getElem? (i := 1305) (by decide +kernel), List.mem_of_getElem? (i := 1644) (by decide +kernel), List.mem_of_getElem? (i := 1645) (by decide +kernel)⟩
def lw_privs_6 : List (MethodName × Nat) := [(⟨"WordSolverModel", "isChoice", "(III)Z"⟩, 27), (⟨"WordSolverModel", "told", "(II)I"⟩, 27), (⟨"WordSolverModel", "parts", "(I)I"⟩, 27), (⟨"WordSolverModel", "isVariable", "(I)Z"⟩, 27), (⟨"WordSolverModel", "need", "(Z)I"⟩, 27), (⟨"WordSolverModel", "laysInputs", "()V"⟩, 27), (⟨"WordSolverModel", "laysValues", "()V"⟩, 27), (⟨"WordSolverModel", "valueOf", "(I)I"⟩, 27), (⟨"WordSolverModel", "model", "(I)I"⟩, 27), (⟨"WordSolverModel", "lays", "()V"⟩, 27), (⟨"WordSolverModel", "laysAssignment", "(I)V"⟩, 27), (⟨"WordSolverModel", "wordOf", "(II)I"⟩, 27), (⟨"WordSolverModel", "extremeModel", "(IZZ)I"⟩, 27), (⟨"WordSolverModel", "laysMet", "(I)V"⟩, 27), (⟨"WordSolverModel", "differing", "(II)I"⟩, 27), (⟨"WordSolverModel", "isConflict", "(I)Z"⟩, 27)]
theorem lw_r6 : ∀ q ∈ lw_privs_6, lw_okq q := List.forall_mem_cons.mpr ⟨lw_p80, List.forall_mem_cons.mpr ⟨lw_p81, List.forall_mem_cons.mpr ⟨lw_p82, List.forall_mem_cons.mpr ⟨lw_p83, List.forall_mem_cons.mpr ⟨lw_p84, List.forall_mem_cons.mpr ⟨lw_p85, List.forall_mem_cons.mpr ⟨lw_p86, List.forall_mem_cons.mpr ⟨lw_p87, List.forall_mem_cons.mpr ⟨lw_p88, List.forall_mem_cons.mpr ⟨lw_p89, List.forall_mem_cons.mpr ⟨lw_p90, List.forall_mem_cons.mpr ⟨lw_p91, List.forall_mem_cons.mpr ⟨lw_p92, List.forall_mem_cons.mpr ⟨lw_p93, List.forall_mem_cons.mpr ⟨lw_p94, List.forall_mem_cons.mpr ⟨lw_p95, fun _ h => absurd h List.not_mem_nil⟩⟩⟩⟩⟩⟩⟩⟩⟩⟩⟩⟩⟩⟩⟩⟩
theorem lw_p96 : lw_okq (⟨"WordSolverModel", "best", "()I"⟩, 27) := ⟨⟨by decide +kernel, by decide +kernel⟩, List.mem_of_getElem? (i := 1305) (by decide +kernel), List.mem_of_getElem? (i := 1660) (by decide +kernel), List.mem_of_getElem? (i := 1661) (by decide +kernel)⟩
theorem lw_p97 : lw_okq (⟨"WordSolverModel", "reads", "()I"⟩, 27) := ⟨⟨by decide +kernel, by decide +kernel⟩, List.mem_of_getElem? (i := 1305) (by decide +kernel), List.mem_of_getElem? (i := 1684) (by decide +kernel), List.mem_of_getElem? (i := 1685) (by decide +kernel)⟩
theorem lw_p98 : lw_okq (⟨"WordSolverModel", "takesNode", "()Z"⟩, 27) := ⟨⟨by decide +kernel, by decide +kernel⟩, List.mem_of_getElem? (i := 1305) (by decide +kernel), List.mem_of_getElem? (i := 1688) (by decide +kernel), List.mem_of_getElem? (i := 1689) (by decide +kernel)⟩
theorem lw_p99 : lw_okq (⟨"WordSolverModel", "skipped", "()I"⟩, 27) := ⟨⟨by decide +kernel, by decide +kernel⟩, List.mem_of_getElem? (i := 1305) (by decide +kernel), List.mem_of_getElem? (i := 1692) (by decide +kernel), List.mem_of_getElem? (i := 1693) (by decide +kernel)⟩
theorem lw_p100 : lw_okq (⟨"WordSolverModel", "letter", "(I)I"⟩, 27) := ⟨⟨by decide +kernel, by decide +kernel⟩, List.mem_of_getElem? (i := 1305) (by decide +kernel), List.mem_of_getElem? (i := 1696) (by decide +kernel), List.mem_of_getElem? (i := 1697) (by decide +kernel)⟩
theorem lw_p101 : lw_okq (⟨"WordSolverModel", "takesDigit", "()Z"⟩, 27) := ⟨⟨by decide +kernel, by decide +kernel⟩, List.mem_of_getElem? (i := 1305) (by decide +kernel), List.mem_of_getElem? (i := 1703) (by decide +kernel), List.mem_of_getElem? (i := 1704) (by decide +kernel)⟩
theorem lw_p102 : lw_okq (⟨"WordSolverModel", "gives", "(III)V"⟩, 27) := ⟨⟨by decide +kernel, by decide +kernel⟩, List.mem_of_getElem? (i := 1305) (by decide +kernel), List.mem_of_getElem? (i := 1707) (by decide +kernel), List.mem_of_getElem? (i := 1708) (by decide +kernel)⟩
theorem lw_p103 : lw_okq (⟨"WordSolverModel", "takesConstant", "()Z"⟩, 27) := ⟨⟨by decide +kernel, by decide +kernel⟩, List.mem_of_getElem? (i := 1305) (by decide +kernel), List.mem_of_getElem? (i := 1711) (by decide +kernel), List.mem_of_getElem? (i := 1712) (by decide +kernel)⟩
theorem lw_p104 : lw_okq (⟨"WordSolverModel", "takes", "(I)Z"⟩, 27) := ⟨⟨by decide +kernel, by decide +kernel⟩, List.mem_of_getElem? (i := 1305) (by decide +kernel), List.mem_of_getElem? (i := 1715) (by decide +kernel), List.mem_of_getElem? (i := 1716) (by decide +kernel)⟩
theorem lw_p105 : lw_okq (⟨"WordSolverModel", "takesWord", "()Z"⟩, 27) := ⟨⟨by decide +kernel, by decide +kernel⟩, List.mem_of_getElem? (i := 1305) (by decide +kernel), List.mem_of_getElem? (i := 1719) (by decide +kernel), List.mem_of_getElem? (i := 1720) (by decide +kernel)⟩
theorem lw_p106 : lw_okq (⟨"WordSolverModel", "takesEnds", "()Z"⟩, 27) := ⟨⟨by decide +kernel, by decide +kernel⟩, List.mem_of_getElem? (i := 1305) (by decide +kernel), List.mem_of_getElem? (i := 1750) (by decide +kernel), List.mem_of_getElem? (i := 1751) (by decide +kernel)⟩
theorem lw_p107 : lw_okq (⟨"WordSolverModel", "makesAll", "()I"⟩, 27) := ⟨⟨by decide +kernel, by decide +kernel⟩, List.mem_of_getElem? (i := 1305) (by decide +kernel), List.mem_of_getElem? (i := 1764) (by decide +kernel), List.mem_of_getElem? (i := 1765) (by decide +kernel)⟩
theorem lw_p108 : lw_okq (⟨"WordSolverModel", "makesKind", "(IIII)I"⟩, 27) := ⟨⟨by decide +kernel, by decide +kernel⟩, List.mem_of_getElem? (i := 1305) (by decide +kernel), List.mem_of_getElem? (i := 1768) (by decide +kernel), List.mem_of_getElem? (i := 1769) (by decide +kernel)⟩
theorem lw_p109 : lw_okq (⟨"WordSolverModel", "later", "(I)V"⟩, 27) := ⟨⟨by decide +kernel, by decide +kernel⟩, List.mem_of_getElem? (i := 1305) (by decide +kernel), List.mem_of_getElem? (i := 1776) (by decide +kernel), List.mem_of_getElem? (i := 1777) (by decide +kernel)⟩
theorem lw_p110 : lw_okq (⟨"WordSolverModel", "puts", "(I)V"⟩, 27) := ⟨⟨by decide +kernel, by decide +kernel⟩, List.mem_of_getElem? (i := 1305) (by decide +kernel), List.mem_of_getElem? (i := 1780) (by decide +kernel), List.mem_of_getElem? (i := 1781) (by decide +kernel)⟩
theorem lw_p111 : lw_okq (⟨"WordSolverModel", "begins", "(I)V"⟩, 27) := ⟨⟨by decide +kernel, by decide +kernel⟩, List.mem_of_getElem? (i := 1305) (by decide +kernel), List.mem_of_getElem? (i := 1784) (by decide +kernel), List.mem_of_getElem? (i := 1785) (by decide +kernel)⟩
def lw_privs_7 : List (MethodName × Nat) := [(⟨"WordSolverModel", "best", "()I"⟩, 27), (⟨"WordSolverModel", "reads", "()I"⟩, 27), (⟨"WordSolverModel", "takesNode", "()Z"⟩, 27), (⟨"WordSolverModel", "skipped", "()I"⟩, 27), (⟨"WordSolverModel", "letter", "(I)I"⟩, 27), (⟨"WordSolverModel", "takesDigit", "()Z"⟩, 27), (⟨"WordSolverModel", "gives", "(III)V"⟩, 27), (⟨"WordSolverModel", "takesConstant", "()Z"⟩, 27), (⟨"WordSolverModel", "takes", "(I)Z"⟩, 27), (⟨"WordSolverModel", "takesWord", "()Z"⟩, 27), (⟨"WordSolverModel", "takesEnds", "()Z"⟩, 27), (⟨"WordSolverModel", "makesAll", "()I"⟩, 27), (⟨"WordSolverModel", "makesKind", "(IIII)I"⟩, 27), (⟨"WordSolverModel", "later", "(I)V"⟩, 27), (⟨"WordSolverModel", "puts", "(I)V"⟩, 27), (⟨"WordSolverModel", "begins", "(I)V"⟩, 27)]
theorem lw_r7 : ∀ q ∈ lw_privs_7, lw_okq q := List.forall_mem_cons.mpr ⟨lw_p96, List.forall_mem_cons.mpr ⟨lw_p97, List.forall_mem_cons.mpr ⟨lw_p98, List.forall_mem_cons.mpr ⟨lw_p99, List.forall_mem_cons.mpr ⟨lw_p100, List.forall_mem_cons.mpr ⟨lw_p101, List.forall_mem_cons.mpr ⟨lw_p102, List.forall_mem_cons.mpr ⟨lw_p103, List.forall_mem_cons.mpr ⟨lw_p104, List.forall_mem_cons.mpr ⟨lw_p105, List.forall_mem_cons.mpr ⟨lw_p106, List.forall_mem_cons.mpr ⟨lw_p107, List.forall_mem_cons.mpr ⟨lw_p108, List.forall_mem_cons.mpr ⟨lw_p109, List.forall_mem_cons.mpr ⟨lw_p110, List.forall_mem_cons.mpr ⟨lw_p111, fun _ h => absurd h List.not_mem_nil⟩⟩⟩⟩⟩⟩⟩⟩⟩⟩⟩⟩⟩⟩⟩⟩
theorem lw_p112 : lw_okq (⟨"WordSolverModel", "putsNumber", "(I)V"⟩, 27) := ⟨⟨by decide +kernel, by decide +kernel⟩, List.mem_of_getElem? (i := 1305) (by decide +kernel), List.mem_of_getElem? (i := 1788) (by decide +kernel), List.mem_of_getElem? (i := 1789) (by decide +kernel)⟩
theorem lw_p113 : lw_okq (⟨"WordSolverModel", "mix", "(I)V"⟩, 27) := ⟨⟨by decide +kernel, by decide +kernel⟩, List.mem_of_getElem? (i := 1305) (by decide +kernel), List.mem_of_getElem? (i := 1798) (by decide +kernel), List.mem_of_getElem? (i := 1799) (by decide +kernel)⟩
def lw_privs_8 : List (MethodName × Nat) := [(⟨"WordSolverModel", "putsNumber", "(I)V"⟩, 27), (⟨"WordSolverModel", "mix", "(I)V"⟩, 27)]
theorem lw_r8 : ∀ q ∈ lw_privs_8, lw_okq q := List.forall_mem_cons.mpr ⟨lw_p112, List.forall_mem_cons.mpr ⟨lw_p113, fun _ h => absurd h List.not_mem_nil⟩⟩
def lw_privs : List (MethodName × Nat) := lw_privs_1 ++ (lw_privs_2 ++ (lw_privs_3 ++ (lw_privs_4 ++ (lw_privs_5 ++ (lw_privs_6 ++ (lw_privs_7 ++ (lw_privs_8)))))))
def lw_tbl : List Cond := k2_sels lw_privs ++ tables_1
theorem lw_privs_ok : ∀ q ∈ lw_privs, lw_okq q := by
  show ∀ q ∈ lw_privs_1 ++ (lw_privs_2 ++ (lw_privs_3 ++ (lw_privs_4 ++ (lw_privs_5 ++ (lw_privs_6 ++ (lw_privs_7 ++ (lw_privs_8))))))), lw_okq q
  exact List.forall_mem_append.mpr ⟨lw_r1, List.forall_mem_append.mpr ⟨lw_r2, List.forall_mem_append.mpr ⟨lw_r3, List.forall_mem_append.mpr ⟨lw_r4, List.forall_mem_append.mpr ⟨lw_r5, List.forall_mem_append.mpr ⟨lw_r6, List.forall_mem_append.mpr ⟨lw_r7, lw_r8⟩⟩⟩⟩⟩⟩⟩
end
section
/-! ===== BEGIN words of one list among another's, by their places ===== -/
theorem goodIn_r {big : List Cond} (ws : List Cond) (ps : List Nat) (hp : ws = ps.filterMap (fun i => big[i]?)) (h : ws.all goodWord = true) : GoodIn big ws := by
  intro w hw
  have h1 := List.all_eq_true.mp h w hw
  rw [hp] at hw
  obtain ⟨i, -, hi⟩ := List.mem_filterMap.mp hw
  have hm : w ∈ big := by first | exact List.mem_of_getElem? hi | exact List.getElem?_mem hi
  exact ⟨hm, good_of_word h1⟩
theorem goodIn_app {big a b : List Cond} (ha : GoodIn big a) (hb : GoodIn big b) : GoodIn big (a ++ b) := fun w h => (List.mem_append.mp h).elim (ha w) (hb w)
theorem goodIn_ca {big a b : List Cond} {c : Cond} (ha : GoodIn big (c :: a)) (hb : GoodIn big b) : GoodIn big (c :: (a ++ b)) := fun w h => (List.mem_cons.mp h).elim (fun e => ha w (List.mem_cons.mpr (Or.inl e))) (fun h => (List.mem_append.mp h).elim (fun h => ha w (List.mem_cons.mpr (Or.inr h))) (hb w))
theorem goodIn_sub {big ws : List Cond} (hm : ∀ w ∈ ws, w ∈ big) (h : ws.all goodWord = true) : GoodIn big ws := fun w hw => ⟨hm w hw, good_of_word (List.all_eq_true.mp h w hw)⟩
/-! ===== END ===== -/
/-! ===== BEGIN exceptions that leave a method, and their catching by the caller (launches without stack traces) ===== -/
section VXA
/-! The laws vx_back, vx_callV, vx_callS, vx_callSW, vx_throw0, vx_throwS follow proofs of the library, with one case more: JvmDerived/Free/Laws.lean (Back.of_free), Shelf42/LK1.lean (callV, callS), Shelf/KitTraced.lean (throwNew0V, throwNewS). -/
/-- where a method has thrown q: the class by its name, the cell, what was written, the world -/
def vx_T (XC : String → State → State → Prop) (st : State) (q : Addr) (t : State) (mc ms : Nat) (free : Addr → Prop) : Prop :=
  ∃ (E : String) (ce : Cell) (L : List Loc), XC E st t ∧ t.heap[q]? = some ce ∧ ce.vm = .none ∧ st.vm.findClass E = some ce.cls ∧ st.WarmedH t.vm ∧ st.sameButNew ({ t with vm := st.vm } : State) L mc ms ∧ ∀ z ∈ L, free z.base
def vx_Q (Qc : Array Value → State → Outcome → State → Prop) (XC : String → State → State → Prop) (mc ms : Nat) (free : Addr → Prop) : Array Value → State → Outcome → State → Prop := fun a st o t =>
  (Qc a st o t ∧ ∃ L, FrameEnd st o t L mc ms ∧ ∀ q ∈ L, free q.base) ∨ ∃ q, o = .threw q ∧ vx_T XC st q t mc ms free
/-- a callee that returns or throws -/
def vx_Met (l : Launch) (y : MethodName) (ws : List Cond) (rm : Room) (Pc : Array Value → State → Prop) (Qc : Array Value → State → Outcome → State → Prop) (XC : String → State → State → Prop) (mc ms : Nat) (free : Addr → Prop) : Prop :=
  MetFree l y (headSpec ws rm) Pc (fun _ _ _ _ _ => True) (vx_Q Qc XC mc ms free)
def vx_Post (XC : String → State → State → Prop) (mc ms : Nat) (free : Addr → Prop) : Pt → Array Value → Addr → Pt → Prop := fun A a q B =>
  ∃ (g : JFrame) (mk : MethodId) (t : State) (L : List Loc) (E : String) (ce : Cell), B.U.heap = t.heap ∧ B.U.vm = t.vm ∧ XC E (A.U.calling g mk a) t ∧ t.heap[q]? = some ce ∧ ce.vm = .none ∧ A.U.vm.findClass E = some ce.cls ∧ B.locs = A.locs ++ L ∧ (∀ z ∈ L, free z.base) ∧ B.cells = A.cells + mc ∧ B.slots = A.slots + ms
def vx_Back (l : Launch) (R : Room) (p : Program) (e : Env) (below : List Frame) (s : State) (sargs : Array Value) (y : MethodName) (len W9 : Nat)
    (Pre : Pt → Array Value → Prop) (Post : Pt → Array Value → Option Value → Pt → Prop) (PostX : Pt → Array Value → Addr → Pt → Prop) : Prop :=
  ∀ (m : MethodId) (meth : Method) (c : Code) (A : Pt) (g : JFrame) (ig : Instr) (mk : MethodId) (a : Array Value),
    Stand p l e R s m sargs below meth c A.U A.locs A.cells A.slots → g.method = m → g.locals.size = c.maxLocals → decode c.code g.pc = .ok (ig, len) →
    2 * g.monitorRoom + (g.stack.map fun v => v.category).sum ≤ W9 → A.U.methodNamed? y = some mk → Pre A a →
    (∃ (v : Option Value) (B : Pt), Stand p l e R s m sargs below meth c B.U B.locs B.cells B.slots ∧ Post A a v B ∧
      Steps p.tables e below (doInvoke e (A.U.setTop g) [] mk a).1 (B.U.setTop { g with pc := g.pc + len, stack := v.toList ++ g.stack })) ∨
    (∃ (q : Addr) (B : Pt), Stand p l e R s m sargs below meth c B.U B.locs B.cells B.slots ∧ PostX A a q B ∧
      Steps p.tables e below (doInvoke e (A.U.setTop g) [] mk a).1 ((B.U.setTop g).pushFrame (.throwing q)))
section Payer
variable {l : Launch} {R : Room} {p : Program} {e : Env} {below : List Frame} {s : State} {sargs : Array Value} {y : MethodName} {len W9 : Nat}
theorem vx_back {ws : List Cond} {rm : Room} {Pc : Array Value → State → Prop} {Qc : Array Value → State → Outcome → State → Prop} {XC : String → State → State → Prop} {mc ms : Nat} {free : Addr → Prop} {bytes : ByteArray} {maxL : Nat} {ret : Option FieldType}
    (hM : vx_Met l y ws rm Pc Qc XC mc ms free) (hblind : FrameBlind Pc) (hrc : rm.cells = mc) (hrs : rm.slots = ms)
    (hframes : rm.frames + 1 ≤ R.frames) (hlocals : W9 + (maxL + 11) + rm.locals ≤ R.locals)
    (hws : ∀ w ∈ ws, ∀ a' U, s.WarmedH U.vm → w.before a' U = true) (hcode : Cond.code y bytes maxL ret ∈ ws) (hinit : ∀ a' U, s.WarmedH U.vm → (Cond.initialized y.cls).before a' U = true) :
    vx_Back l R p e below s sargs y len W9 (PreOf R mc ms Pc) (PostOf Qc mc ms free) (vx_Post XC mc ms free) := by
  intro m meth c A g ig mk a X hg hsize hdg hW hn hp
  have h1 : (headSpec ws rm).pre.before a A.U = true := atoms_intro fun w hw => hws w hw _ _ X.warmed
  have h2 : (Cond.code y bytes maxL ret).before a A.U = true := hws _ hcode _ _ X.warmed
  have h3 : (Cond.initialized y.cls).before a A.U = true := hinit _ _ X.warmed
  have h4 : A.cells + (headSpec ws rm).room.cells ≤ R.cells := by rw [show (headSpec ws rm).room.cells = mc from hrc]; exact hp.1
  have h5 : A.slots + (headSpec ws rm).room.slots ≤ R.slots := by rw [show (headSpec ws rm).room.slots = ms from hrs]; exact hp.2.1
  have hPc : Pc a (A.U.calling g mk a) := hblind _ _ _ _ hp.2.2
  obtain ⟨U, Ls, c0, s0⟩ := A
  dsimp only [Pt.U, Pt.locs, Pt.cells, Pt.slots] at h1 h2 h3 h4 h5 X hn hPc ⊢
  obtain ⟨methY, cY, hmY, hcY, -, hlY, -, -, -, -⟩ := Cond.code_spec hn h2
  obtain ⟨kY, hkY, -⟩ := className_of_methodNamed hn
  have hinitY : kY.init = .initialized := Cond.initialized_spec (findClass_of_methodNamed hn) hkY h3
  have h : At U g.method c below := by rw [hg]; exact X.here
  have hlocals9 : W9 + (maxL + 11) + (headSpec ws rm).room.locals ≤ R.locals := hlocals
  have happ : (headSpec ws rm).appliesLoose y e.platform (U.calling g mk a) = true :=
    Spec.appliesLoose_calling (g := g) h hdg hn hkY hinitY
      (X.room_calling (g := g) (R' := (headSpec ws rm).room) hsize hmY hcY hframes (by rw [hlY]; omega) h4 h5) h1
  obtain ⟨mid, hmid⟩ := h.above
  have hfr : (U.setTop g).frames = (.java g :: mid) ++ below := by rw [State.frames_setTop' g h.top, hmid]; rfl
  obtain ⟨o, s₂, hsteps, -, hend, hq⟩ := Steps.callFree hM p X.admits X.cas X.clock (acts := []) hfr happ hPc trivial
  have hq' : vx_Q Qc XC mc ms free a (U.calling g mk a) o s₂ := hq
  rw [State.frames_setTop' g h.top] at hend
  obtain ⟨g₀, hg0⟩ := Option.isSome_iff_exists.mp h.top
  obtain ⟨r, hr⟩ := State.topJava?_eq_some.mp hg0
  have hr' : (({ U with heap := s₂.heap, slotsUsed := s₂.slotsUsed } : State).setVm s₂.vm).frames = .java g₀ :: r := hr
  rcases hq' with ⟨hqc, L, hfe, hL⟩ | ⟨q, rfl, E, ce, L, hx, hce, hcv, hcl, hW₂, hsm, hL⟩
  · obtain ⟨⟨v, rfl⟩, hW₂, e2, q2, q3, q4, q5, q6⟩ := id hfe
    have e3 : s₂ = ({ (U.calling g mk a).setFrames s₂.frames with heap := s₂.heap, slotsUsed := s₂.slotsUsed } : State).setVm s₂.vm := by
      have : s₂ = ({ s₂ with vm := (U.calling g mk a).vm } : State).setVm s₂.vm := rfl
      rw [e2] at this
      exact this
    obtain ⟨c₂, i₂, len₂, hc₂, hd₂, hf₂⟩ := hend
    have hW' : U.WarmedH s₂.vm := hW₂
    have hcc : c₂ = c := by
      have h1 : s₂.code? g.method = U.code? g.method := by
        rw [State.code?_eq, State.code?_eq, hW'.alike.method?]
      exact Option.some.inj (hc₂.symm.trans (h1.trans h.code))
    subst hcc
    have hlen : len₂ = len := by rw [hdg] at hd₂; cases hd₂; rfl
    subst hlen
    have hs₂ : s₂ = (({ U with heap := s₂.heap, slotsUsed := s₂.slotsUsed } : State).setVm s₂.vm).setTop { g with pc := g.pc + len₂, stack := v.toList ++ g.stack } := by
      refine e3.trans ?_
      rw [hf₂, State.calling_eq h.top, State.setFrames_setFrames, State.setTop_of_frames _ hr', hr]
      rfl
    have hsame : U.sameButNew ({ U with heap := s₂.heap, slotsUsed := s₂.slotsUsed } : State) L mc ms := by
      refine ⟨?_, q2, q3, q4, q5, q6⟩
      obtain ⟨t, ht, -⟩ := State.frames_cons hr
      show ({ U with heap := s₂.heap, slotsUsed := s₂.slotsUsed } : State) = { U.setFrames U.frames with heap := s₂.heap, slotsUsed := s₂.slotsUsed }
      rw [State.setFrames_self ht]
    subst hg
    refine Or.inl ⟨v, ⟨(({ U with heap := s₂.heap, slotsUsed := s₂.slotsUsed } : State).setVm s₂.vm), Ls ++ L, c0 + mc, s0 + ms⟩,
      ⟨X.admits, X.cas, X.clock, X.frames, X.room, X.hears, X.method, X.code, (X.here.setHeapUsed s₂.heap s₂.slotsUsed).setVm hW'.alike, X.tail, State.WarmedH.trans X.warmed hW', X.limits, X.bytes, X.same.trans (hsame.setVm s.vm)⟩,
      ⟨g, mk, s₂, L, rfl, rfl, hqc, rfl, hL, rfl, rfl⟩, ?_⟩
    show Steps p.tables e below _ ((({ U with heap := s₂.heap, slotsUsed := s₂.slotsUsed } : State).setVm s₂.vm).setTop { g with pc := g.pc + len₂, stack := v.toList ++ g.stack })
    rw [← hs₂]
    exact hsteps
  · obtain ⟨e2, q2, q3, q4, q5, q6⟩ := id hsm
    have e3 : s₂ = ({ (U.calling g mk a).setFrames s₂.frames with heap := s₂.heap, slotsUsed := s₂.slotsUsed } : State).setVm s₂.vm := by
      have : s₂ = ({ s₂ with vm := (U.calling g mk a).vm } : State).setVm s₂.vm := rfl
      rw [e2] at this
      exact this
    have hf₂ : s₂.frames = .throwing q :: .java g :: U.frames.tail := hend
    have hW' : U.WarmedH s₂.vm := hW₂
    have hs₂ : s₂ = ((({ U with heap := s₂.heap, slotsUsed := s₂.slotsUsed } : State).setVm s₂.vm).setTop g).pushFrame (.throwing q) := by
      refine e3.trans ?_
      rw [hf₂, State.calling_eq h.top, State.setFrames_setFrames, State.pushFrame, State.frames_setTop _ hr', State.setTop_of_frames _ hr', State.setFrames_setFrames, hr]
      rfl
    have hsame : U.sameButNew ({ U with heap := s₂.heap, slotsUsed := s₂.slotsUsed } : State) L mc ms := by
      refine ⟨?_, q2, q3, q4, q5, q6⟩
      obtain ⟨t, ht, -⟩ := State.frames_cons hr
      show ({ U with heap := s₂.heap, slotsUsed := s₂.slotsUsed } : State) = { U.setFrames U.frames with heap := s₂.heap, slotsUsed := s₂.slotsUsed }
      rw [State.setFrames_self ht]
    subst hg
    refine Or.inr ⟨q, ⟨(({ U with heap := s₂.heap, slotsUsed := s₂.slotsUsed } : State).setVm s₂.vm), Ls ++ L, c0 + mc, s0 + ms⟩,
      ⟨X.admits, X.cas, X.clock, X.frames, X.room, X.hears, X.method, X.code, (X.here.setHeapUsed s₂.heap s₂.slotsUsed).setVm hW'.alike, X.tail, State.WarmedH.trans X.warmed hW', X.limits, X.bytes, X.same.trans (hsame.setVm s.vm)⟩,
      ⟨g, mk, s₂, L, E, ce, rfl, rfl, hx, hce, hcv, hcl, rfl, hL, rfl, rfl⟩, ?_⟩
    show Steps p.tables e below _ (((({ U with heap := s₂.heap, slotsUsed := s₂.slotsUsed } : State).setVm s₂.vm).setTop g).pushFrame (.throwing q))
    rw [← hs₂]
    exact hsteps
end Payer
section Calls
variable {p : Program} {l : Launch} {e : Env} {R : Room} {s : State} {m : MethodId} {args : Array Value} {below : List Frame} {meth : Method} {c : Code} {T : State} {locs : List Loc} {cells slots : Nat}
theorem vx_callV (X : Stand p l e R s m args below meth c T locs cells slots) (hexec : p.tables.exec = Jvm.exec) {own C : String} {index : Nat} {y : MethodName} {bytes : ByteArray} {maxL : Nat} {ret : Option FieldType}
    (hown : s.vm.findClass own = some m.cls) (hlink : (Cond.methodLink own index y).before args s = true) (hinst : (Cond.instanceMethod y).before args s = true) (hsel : (Cond.selects C y y).before args s = true)
    (hcode : (Cond.code y bytes maxL ret).before args s = true) (hy : y.cls ≠ "java/lang/invoke/MethodHandle" ∧ y.cls ≠ "java/lang/invoke/VarHandle")
    {W9 : Nat} {Pre : Pt → Array Value → Prop} {Post : Pt → Array Value → Option Value → Pt → Prop} {PostX : Pt → Array Value → Addr → Pt → Prop} (hK : vx_Back l R p e below s args y 3 W9 Pre Post PostX)
    {b : Addr} {cellB : Cell} (hcell : T.heap[b]? = some cellB) (hobj : cellB.vm.isStatics = false) (hcls : s.vm.findClass C = some cellB.cls)
    {g : JFrame} (hg : g.method = m) (hsize : g.locals.size = c.maxLocals) {argsL rest : List Value} (hlen : ∀ sig, parseMethodDescriptor y.desc = some sig → argsL.length = sig.parameters.length)
    (hstack : g.stack = argsL.reverse ++ .ref b :: rest) (hW : 2 * g.monitorRoom + (rest.map fun v => v.category).sum ≤ W9) (hdg : decode c.code g.pc = .ok (.invokevirtual index, 3))
    (hpre : ∀ vm₁, s.WarmedH vm₁ → Pre ⟨T.setVm vm₁, locs, cells, slots⟩ (Value.ref b :: argsL).toArray) :
    (∃ (v : Option Value) (vm₁ : Vm) (B : Pt), s.WarmedH vm₁ ∧ Stand p l e R s m args below meth c B.U B.locs B.cells B.slots ∧ Post ⟨T.setVm vm₁, locs, cells, slots⟩ (Value.ref b :: argsL).toArray v B ∧
      ∀ target, Steps p.tables e below (B.U.setTop { g with pc := g.pc + 3, stack := v.toList ++ rest }) target → Steps p.tables e below (T.setTop g) target) ∨
    (∃ (q : Addr) (vm₁ : Vm) (B : Pt), s.WarmedH vm₁ ∧ Stand p l e R s m args below meth c B.U B.locs B.cells B.slots ∧ PostX ⟨T.setVm vm₁, locs, cells, slots⟩ (Value.ref b :: argsL).toArray q B ∧
      Steps p.tables e below (T.setTop g) ((B.U.setTop { g with stack := rest }).pushFrame (.throwing q))) := by
  obtain ⟨mk, methM, hnamed, hmethM, hstM, habM⟩ := Cond.instanceMethod_spec hinst
  obtain ⟨methM', cM, hmethM', -, -, -, -, -, -, hsigM⟩ := Cond.code_spec hnamed hcode
  cases hmethM.symm.trans hmethM'
  obtain ⟨c2, r2, m2, q1, q2, q3, q4, kP, hkP, hkPi⟩ := Cond.selects_spec hsel
  cases hcls.symm.trans q1
  cases (State.methodFound?_of_named hnamed hy).symm.trans q2
  cases hnamed.symm.trans q3
  have hselP : selectMethod e.platform s.vm cellB.cls mk = .method mk := by rw [Launch.admits_selectMethod X.admits]; exact q4
  obtain ⟨vm₁, X₁, hstep₁⟩ := X.invokevirtual hexec hown hlink hnamed hmethM hstM hkP hkPi hy (a := b) (cell := cellB) hcell
    (fun z h => by rw [h] at hobj; cases hobj) hselP hmethM habM hkP hkPi (g := g) hg (argsL := argsL) (rest := rest) (hlen _ hsigM) hstack hdg
  rcases hK m meth c ⟨T.setVm vm₁, locs, cells, slots⟩ { g with stack := rest } (.invokevirtual index) mk (Value.ref b :: argsL).toArray X₁ hg hsize hdg hW (X₁.named hnamed) (hpre vm₁ X₁.warmed) with ⟨v, B, X', hpost, hsteps⟩ | ⟨q, B, X', hpost, hsteps⟩
  · exact Or.inl ⟨v, vm₁, B, X₁.warmed, X', hpost, fun target h => hstep₁ _ fun acts => by rw [doInvoke_state]; exact hsteps.trans h⟩
  · exact Or.inr ⟨q, vm₁, B, X₁.warmed, X', hpost, hstep₁ _ fun acts => by rw [doInvoke_state]; exact hsteps⟩
theorem vx_callS (X : Stand p l e R s m args below meth c T locs cells slots) (hexec : p.tables.exec = Jvm.exec) {own : String} {index : Nat} {y : MethodName} {bytes : ByteArray} {maxL : Nat} {ret : Option FieldType}
    (hown : s.vm.findClass own = some m.cls) (hlink : (Cond.methodLink own index y).before args s = true) (hstat : (Cond.static y).before args s = true) (hinit : (Cond.initialized y.cls).before args s = true)
    (hcode : (Cond.code y bytes maxL ret).before args s = true) (hy : y.cls ≠ "java/lang/invoke/MethodHandle" ∧ y.cls ≠ "java/lang/invoke/VarHandle")
    {W9 : Nat} {Pre : Pt → Array Value → Prop} {Post : Pt → Array Value → Option Value → Pt → Prop} {PostX : Pt → Array Value → Addr → Pt → Prop} (hK : vx_Back l R p e below s args y 3 W9 Pre Post PostX)
    {g : JFrame} (hg : g.method = m) (hsize : g.locals.size = c.maxLocals) {argsL rest : List Value} (hlen : ∀ sig, parseMethodDescriptor y.desc = some sig → argsL.length = sig.parameters.length)
    (hstack : g.stack = argsL.reverse ++ rest) (hW : 2 * g.monitorRoom + (rest.map fun v => v.category).sum ≤ W9) (hdg : decode c.code g.pc = .ok (.invokestatic index, 3))
    (hpre : ∀ vm₁, s.WarmedH vm₁ → Pre ⟨T.setVm vm₁, locs, cells, slots⟩ argsL.toArray) :
    (∃ (v : Option Value) (vm₁ : Vm) (B : Pt), s.WarmedH vm₁ ∧ Stand p l e R s m args below meth c B.U B.locs B.cells B.slots ∧ Post ⟨T.setVm vm₁, locs, cells, slots⟩ argsL.toArray v B ∧
      ∀ target, Steps p.tables e below (B.U.setTop { g with pc := g.pc + 3, stack := v.toList ++ rest }) target → Steps p.tables e below (T.setTop g) target) ∨
    (∃ (q : Addr) (vm₁ : Vm) (B : Pt), s.WarmedH vm₁ ∧ Stand p l e R s m args below meth c B.U B.locs B.cells B.slots ∧ PostX ⟨T.setVm vm₁, locs, cells, slots⟩ argsL.toArray q B ∧
      Steps p.tables e below (T.setTop g) ((B.U.setTop { g with stack := rest }).pushFrame (.throwing q))) := by
  obtain ⟨mk, hnamed⟩ := Cond.code_named hcode
  obtain ⟨methM, cM, hmethM, -, -, -, -, -, -, hsigM⟩ := Cond.code_spec hnamed hcode
  have hstatic : methM.isStatic = true := Cond.static_spec hnamed hmethM hstat
  obtain ⟨kP, hkP, -⟩ := className_of_methodNamed hnamed
  have hinitP : kP.init = .initialized := Cond.initialized_spec (findClass_of_methodNamed hnamed) hkP hinit
  obtain ⟨vm₁, X₁, hstep₁⟩ := X.invokestatic hexec hown hlink hnamed hmethM hstatic hkP hinitP hy (g := g) hg (argsL := argsL) (rest := rest) (hlen _ hsigM) hstack hdg
  rcases hK m meth c ⟨T.setVm vm₁, locs, cells, slots⟩ { g with stack := rest } (.invokestatic index) mk argsL.toArray X₁ hg hsize hdg hW (X₁.named hnamed) (hpre vm₁ X₁.warmed) with ⟨v, B, X', hpost, hsteps⟩ | ⟨q, B, X', hpost, hsteps⟩
  · exact Or.inl ⟨v, vm₁, B, X₁.warmed, X', hpost, fun target h => hstep₁ _ fun acts => by rw [doInvoke_state]; exact hsteps.trans h⟩
  · exact Or.inr ⟨q, vm₁, B, X₁.warmed, X', hpost, hstep₁ _ fun acts => by rw [doInvoke_state]; exact hsteps⟩
end Calls
theorem vx_cls {s : State} {T : State} {vm₁ : Vm} {E : String} {k : ClassId} (hW : s.WarmedH vm₁) (h : (T.setVm vm₁).vm.findClass E = some k) : s.vm.findClass E = some k := by
  have h1 : vm₁.findClass E = some k := h
  rw [hW.alike.findClass] at h1
  exact h1
/-- the method's frame g, with q thrown over it -/
def vx_W (p : Program) (l : Launch) (e : Env) (R : Room) (s : State) (m : MethodId) (args : Array Value) (below : List Frame) (meth : Method) (c : Code) (H : Heap) (locs : List Loc) (cells slots : Nat) (Q : State → Prop) (g : JFrame) (q : Addr) : Prop :=
  ∀ T : State, T.heap = H → Stand p l e R s m args below meth c T locs cells slots → ∃ t, Steps p.tables e below ((T.setTop g).pushFrame (.throwing q)) t ∧ Q t
def vx_Run (p : Program) (l : Launch) (e : Env) (R : Room) (s : State) (m : MethodId) (args : Array Value) (below : List Frame) (meth : Method) (c : Code) (H : Heap) (locs : List Loc) (cells slots mc ms : Nat) (g : JFrame) (rest : List Value) (Qa : State → Outcome → State → Prop) (XC : String → State → State → Prop) (free : Addr → Prop) : Prop :=
  ∀ T : State, T.heap = H → Stand p l e R s m args below meth c T locs cells slots →
    (∃ (v : Option Value) (st₀ t T' : State) (L : List Loc), st₀.heap = H ∧ Stand p l e R s m args below meth c T' (locs ++ L) (cells + mc) (slots + ms) ∧ (∀ q ∈ L, free q.base) ∧ T'.heap = t.heap ∧ T'.vm = t.vm ∧ Qa st₀ (.returned v) t ∧
      Goes p e below T g T' { g with pc := g.pc + 3, stack := v.toList ++ rest }) ∨
    (∃ (q : Addr) (st₀ t T' : State) (L : List Loc) (E : String) (ce : Cell), st₀.heap = H ∧ Stand p l e R s m args below meth c T' (locs ++ L) (cells + mc) (slots + ms) ∧ (∀ z ∈ L, free z.base) ∧ T'.heap = t.heap ∧ T'.vm = t.vm ∧ XC E st₀ t ∧ t.heap[q]? = some ce ∧ ce.vm = .none ∧ s.vm.findClass E = some ce.cls ∧
      Steps p.tables e below (T.setTop g) ((T'.setTop { g with stack := rest }).pushFrame (.throwing q)))
def vx_X {S : Type} (px : S → Prop) (B : String → S → State → Prop) (A : Nat → Prop) : String → State → State → Prop := fun E st t => ∃ u : S, px u ∧ B E u t ∧ va_F A st t
section Runs
variable {p : Program} {l : Launch} {e : Env} {R : Room} {s : State} {m : MethodId} {args : Array Value} {below : List Frame} {meth : Method} {c : Code} {H : Heap} {locs : List Loc} {cells slots : Nat}
variable {y : MethodName} {bytes cc : ByteArray} {maxL nL mc ms n index : Nat} {ret : Option FieldType} {ws : List Cond} {rm : Room} {Pc : Array Value → State → Prop} {Qc : Array Value → State → Outcome → State → Prop} {XC : String → State → State → Prop} {free : Addr → Prop} {Ts : List Cond} {own C : String} {b : Addr} {As rest : List Value} {g : JFrame}
theorem vx_callBack (cb : CallB R s args own index y bytes maxL ret ws rm mc ms n) (hM : vx_Met l y ws rm Pc Qc XC mc ms free) (hbl : FrameBlind Pc) : vx_Back l R p e below s args y 3 8 (PreOf R mc ms Pc) (PostOf Qc mc ms free) (vx_Post XC mc ms free) := by
  obtain ⟨hrc, hrs, hfr, hlo, hws, hcw, -, hini, -⟩ := cb
  exact vx_back (bytes := bytes) (maxL := maxL) (ret := ret) hM hbl hrc hrs hfr hlo hws hcw (fun a' U hW => word_at hW (Or.inl (by first | rfl | simp [Cond.onTables, Cond.keeps, Cond.steady])) hini)
theorem vx_runV (S : CallFix p m c cc nL s args Ts own) (hM : vx_Met l y ws rm Pc Qc XC mc ms free) (cw : CallW R s args own C index y bytes maxL ret ws rm mc ms n) (hp : PreV s H C b Pc As)
    (hg : g.method = m) (hn : As.length = n) (hsize : g.locals.size = nL) (hstack : g.stack = As.reverse ++ .ref b :: rest) (hW : 2 * g.monitorRoom + (rest.map fun v => v.category).sum ≤ 8) (hdg : decode cc g.pc = .ok (.invokevirtual index, 3)) (hf : cells + mc ≤ R.cells ∧ slots + ms ≤ R.slots) :
    vx_Run p l e R s m args below meth c H locs cells slots mc ms g rest (Qc (Value.ref b :: As).toArray) XC free := by
  have hK : vx_Back l R p e below s args y 3 8 (PreOf R mc ms Pc) (PostOf Qc mc ms free) (vx_Post XC mc ms free) := vx_callBack cw.1 hM hp.1
  obtain ⟨⟨-, -, -, -, -, -, hcode, -, hy, hlen, hl⟩, hin, hse⟩ := cw
  obtain ⟨hx, hb, hml, ho, -⟩ := S
  obtain ⟨-, ⟨cellB, hcB, hoB, hclB⟩, hPc⟩ := hp
  intro T hT X
  rcases vx_callV X hx (C := C) (bytes := bytes) (maxL := maxL) (ret := ret) ho hl hin hse hcode hy hK (by rw [hT]; exact hcB) hoB hclB hg (hsize.trans hml.symm) (argsL := As) (rest := rest) (fun sig h => hn.trans (hlen sig h)) hstack hW (by rw [hb]; exact hdg)
    (fun vm₁ hW₁ => ⟨hf.1, hf.2, hPc (T.setVm vm₁) hT hW₁⟩) with ⟨v, vm₁, ⟨U', l2, c2, s2⟩, hW₁, X', ⟨g', mk, t, L, e1, e2, hq, h1, hL, h2, h3⟩, st⟩ | ⟨q, vm₁, ⟨U', l2, c2, s2⟩, hW₁, X', ⟨g', mk, t, L, E, ce, e1, e2, hq, hce, hcv, hcl, h1, hL, h2, h3⟩, st⟩
  · dsimp only [Pt.U, Pt.locs, Pt.cells, Pt.slots] at X' e1 e2 h1 h2 h3 st
    subst h1; subst h2; subst h3
    exact Or.inl ⟨v, (T.setVm vm₁).calling g' mk (Value.ref b :: As).toArray, t, U', L, hT, X', hL, e1, e2, hq, st⟩
  · dsimp only [Pt.U, Pt.locs, Pt.cells, Pt.slots] at X' e1 e2 h1 h2 h3 st hcl
    subst h1; subst h2; subst h3
    exact Or.inr ⟨q, (T.setVm vm₁).calling g' mk (Value.ref b :: As).toArray, t, U', L, E, ce, hT, X', hL, e1, e2, hq, hce, hcv, vx_cls hW₁ hcl, st⟩
theorem vx_runS (S : CallFix p m c cc nL s args Ts own) (hM : vx_Met l y ws rm Pc Qc XC mc ms free) (cw : CallB R s args own index y bytes maxL ret ws rm mc ms n ∧ (Cond.static y).before args s = true) (hp : PreS s H Pc As)
    (hg : g.method = m) (hn : As.length = n) (hsize : g.locals.size = nL) (hstack : g.stack = As.reverse ++ rest) (hW : 2 * g.monitorRoom + (rest.map fun v => v.category).sum ≤ 8) (hdg : decode cc g.pc = .ok (.invokestatic index, 3)) (hf : cells + mc ≤ R.cells ∧ slots + ms ≤ R.slots) :
    vx_Run p l e R s m args below meth c H locs cells slots mc ms g rest (Qc As.toArray) XC free := by
  have hK : vx_Back l R p e below s args y 3 8 (PreOf R mc ms Pc) (PostOf Qc mc ms free) (vx_Post XC mc ms free) := vx_callBack cw.1 hM hp.1
  obtain ⟨⟨-, -, -, -, -, -, hcode, hini, hy, hlen, hl⟩, hstt⟩ := cw
  obtain ⟨hx, hb, hml, ho, -⟩ := S
  intro T hT X
  rcases vx_callS X hx (bytes := bytes) (maxL := maxL) (ret := ret) ho hl hstt hini hcode hy hK hg (hsize.trans hml.symm) (argsL := As) (rest := rest) (fun sig h => hn.trans (hlen sig h)) hstack hW (by rw [hb]; exact hdg)
    (fun vm₁ hW₁ => ⟨hf.1, hf.2, hp.2 (T.setVm vm₁) hT hW₁⟩) with ⟨v, vm₁, ⟨U', l2, c2, s2⟩, hW₁, X', ⟨g', mk, t, L, e1, e2, hq, h1, hL, h2, h3⟩, st⟩ | ⟨q, vm₁, ⟨U', l2, c2, s2⟩, hW₁, X', ⟨g', mk, t, L, E, ce, e1, e2, hq, hce, hcv, hcl, h1, hL, h2, h3⟩, st⟩
  · dsimp only [Pt.U, Pt.locs, Pt.cells, Pt.slots] at X' e1 e2 h1 h2 h3 st
    subst h1; subst h2; subst h3
    exact Or.inl ⟨v, (T.setVm vm₁).calling g' mk As.toArray, t, U', L, hT, X', hL, e1, e2, hq, st⟩
  · dsimp only [Pt.U, Pt.locs, Pt.cells, Pt.slots] at X' e1 e2 h1 h2 h3 st hcl
    subst h1; subst h2; subst h3
    exact Or.inr ⟨q, (T.setVm vm₁).calling g' mk As.toArray, t, U', L, E, ce, hT, X', hL, e1, e2, hq, hce, hcv, vx_cls hW₁ hcl, st⟩
end Runs
section Rows
variable {p : Program} {l : Launch} {e : Env} {R : Room} {s : State} {m : MethodId} {args : Array Value} {below : List Frame} {meth : Method} {c : Code} {H : Heap} {locs : List Loc} {cells slots : Nat} {Q : State → Prop}
variable {mc ms : Nat} {free : Addr → Prop} {A0 A1 : Nat → Prop} {H0 : Heap} {a : Array Value} {pc : Nat} {ls : Array Slot} {st0 rest : List Value}
theorem vx_keep {st₀ t T' : State} {L : List Loc} (h0 : st₀.heap = H) (e1 : T'.heap = t.heap) (hS : va_S A0 H0 H locs) (hA : ∀ q, q < H.size → A1 q → A0 q) (hf : ∀ q, free q → A0 q) (hL : ∀ q ∈ L, free q.base) (hF : va_F A1 st₀ t) :
    H.size ≤ T'.heap.size ∧ (∀ q : Nat, q < H.size → ¬ A1 q → T'.heap[q]? = H[q]?) ∧ va_S A0 H0 T'.heap (locs ++ L) := by
  obtain ⟨hz, hk⟩ := hF
  rw [h0] at hz hk
  exact ⟨by rw [e1]; exact hz, fun q h1 h2 => by rw [e1]; exact hk q h1 h2,
    ⟨Nat.le_trans hS.1 (by rw [e1]; exact hz), fun q h1 h2 => by rw [e1, hk q (Nat.lt_of_lt_of_le h1 hS.1) (fun z => h2 (hA q (Nat.lt_of_lt_of_le h1 hS.1) z))]; exact hS.2.1 q h1 h2, fun q hq => by
      rcases List.mem_append.mp hq with h | h
      · exact hS.2.2 q h
      · exact hf _ (hL q h)⟩⟩
theorem vx_calli {S SX : Type} {post : Int32 → S → Prop} {px : SX → Prop} {B : S → State → Prop} {BX : String → SX → State → Prop} {AX : Nat → Prop} (hr : vx_Run p l e R s m args below meth c H locs cells slots mc ms (F0 m pc ls st0) rest (va_Qi post B A1 a) (vx_X px BX AX) free) (hS : va_S A0 H0 H locs) (hA : ∀ q, q < H.size → A1 q → A0 q) (hf : ∀ q, free q → A0 q) (hAX : ∀ q, q < H.size → AX q → A0 q)
    (kx : ∀ (E : String) (ce : Cell) (q9 : Addr) (u : SX) (t : State) (H1 : Heap) (locs1 : List Loc), t.heap = H1 → s.vm.Alike t.vm → px u → BX E u t → H.size ≤ H1.size → (∀ q : Nat, q < H.size → ¬ AX q → H1[q]? = H[q]?) → va_S A0 H0 H1 locs1 → H1[q9]? = some ce → ce.vm = .none → s.vm.findClass E = some ce.cls → vx_W p l e R s m args below meth c H1 locs1 (cells + mc) (slots + ms) Q (F0 m pc ls rest) q9)
    (kk : ∀ (r : Int32) (u : S) (t : State) (H1 : Heap) (locs1 : List Loc), t.heap = H1 → s.vm.Alike t.vm → post r u → B u t → H.size ≤ H1.size → (∀ q : Nat, q < H.size → ¬ A1 q → H1[q]? = H[q]?) → va_S A0 H0 H1 locs1 → W p l e R s m args below meth c H1 locs1 (cells + mc) (slots + ms) Q (F0 m (pc + 3) ls (.int r :: rest))) : W p l e R s m args below meth c H locs cells slots Q (F0 m pc ls st0) := by
  intro T hT X
  rcases hr T hT X with ⟨v, st₀, t, T', L, h0, X', hL, e1, e2, ⟨⟨r, u, hv, hp, hb⟩, hF⟩, st⟩ | ⟨q, st₀, t, T', L, E, ce, h0, X', hL, e1, e2, ⟨u, hp, hb, hF⟩, hce, hcv, hcl, st⟩
  · cases hv
    obtain ⟨k1, k2, k3⟩ := vx_keep h0 e1 hS hA hf hL hF
    obtain ⟨t2, a1, b1⟩ := kk r u t T'.heap (locs ++ L) e1.symm (by rw [← e2]; exact X'.warmed.alike) hp hb k1 k2 k3 T' rfl X'
    exact ⟨t2, st t2 a1, b1⟩
  · obtain ⟨k1, k2, k3⟩ := vx_keep h0 e1 hS hAX hf hL hF
    obtain ⟨t2, a1, b1⟩ := kx E ce q u t T'.heap (locs ++ L) e1.symm (by rw [← e2]; exact X'.warmed.alike) hp hb k1 k2 k3 (by rw [e1]; exact hce) hcv hcl T' rfl X'
    exact ⟨t2, st.trans a1, b1⟩
theorem vx_calll {S SX : Type} {post : Int64 → S → Prop} {px : SX → Prop} {B : S → State → Prop} {BX : String → SX → State → Prop} {AX : Nat → Prop} (hr : vx_Run p l e R s m args below meth c H locs cells slots mc ms (F0 m pc ls st0) rest (va_Ql post B A1 a) (vx_X px BX AX) free) (hS : va_S A0 H0 H locs) (hA : ∀ q, q < H.size → A1 q → A0 q) (hf : ∀ q, free q → A0 q) (hAX : ∀ q, q < H.size → AX q → A0 q)
    (kx : ∀ (E : String) (ce : Cell) (q9 : Addr) (u : SX) (t : State) (H1 : Heap) (locs1 : List Loc), t.heap = H1 → s.vm.Alike t.vm → px u → BX E u t → H.size ≤ H1.size → (∀ q : Nat, q < H.size → ¬ AX q → H1[q]? = H[q]?) → va_S A0 H0 H1 locs1 → H1[q9]? = some ce → ce.vm = .none → s.vm.findClass E = some ce.cls → vx_W p l e R s m args below meth c H1 locs1 (cells + mc) (slots + ms) Q (F0 m pc ls rest) q9)
    (kk : ∀ (r : Int64) (u : S) (t : State) (H1 : Heap) (locs1 : List Loc), t.heap = H1 → s.vm.Alike t.vm → post r u → B u t → H.size ≤ H1.size → (∀ q : Nat, q < H.size → ¬ A1 q → H1[q]? = H[q]?) → va_S A0 H0 H1 locs1 → W p l e R s m args below meth c H1 locs1 (cells + mc) (slots + ms) Q (F0 m (pc + 3) ls (.long r :: rest))) : W p l e R s m args below meth c H locs cells slots Q (F0 m pc ls st0) := by
  intro T hT X
  rcases hr T hT X with ⟨v, st₀, t, T', L, h0, X', hL, e1, e2, ⟨⟨r, u, hv, hp, hb⟩, hF⟩, st⟩ | ⟨q, st₀, t, T', L, E, ce, h0, X', hL, e1, e2, ⟨u, hp, hb, hF⟩, hce, hcv, hcl, st⟩
  · cases hv
    obtain ⟨k1, k2, k3⟩ := vx_keep h0 e1 hS hA hf hL hF
    obtain ⟨t2, a1, b1⟩ := kk r u t T'.heap (locs ++ L) e1.symm (by rw [← e2]; exact X'.warmed.alike) hp hb k1 k2 k3 T' rfl X'
    exact ⟨t2, st t2 a1, b1⟩
  · obtain ⟨k1, k2, k3⟩ := vx_keep h0 e1 hS hAX hf hL hF
    obtain ⟨t2, a1, b1⟩ := kx E ce q u t T'.heap (locs ++ L) e1.symm (by rw [← e2]; exact X'.warmed.alike) hp hb k1 k2 k3 (by rw [e1]; exact hce) hcv hcl T' rfl X'
    exact ⟨t2, st.trans a1, b1⟩
theorem vx_callf {S SX : Type} {post : UInt32 → S → Prop} {px : SX → Prop} {B : S → State → Prop} {BX : String → SX → State → Prop} {AX : Nat → Prop} (hr : vx_Run p l e R s m args below meth c H locs cells slots mc ms (F0 m pc ls st0) rest (va_Qf post B A1 a) (vx_X px BX AX) free) (hS : va_S A0 H0 H locs) (hA : ∀ q, q < H.size → A1 q → A0 q) (hf : ∀ q, free q → A0 q) (hAX : ∀ q, q < H.size → AX q → A0 q)
    (kx : ∀ (E : String) (ce : Cell) (q9 : Addr) (u : SX) (t : State) (H1 : Heap) (locs1 : List Loc), t.heap = H1 → s.vm.Alike t.vm → px u → BX E u t → H.size ≤ H1.size → (∀ q : Nat, q < H.size → ¬ AX q → H1[q]? = H[q]?) → va_S A0 H0 H1 locs1 → H1[q9]? = some ce → ce.vm = .none → s.vm.findClass E = some ce.cls → vx_W p l e R s m args below meth c H1 locs1 (cells + mc) (slots + ms) Q (F0 m pc ls rest) q9)
    (kk : ∀ (r : UInt32) (u : S) (t : State) (H1 : Heap) (locs1 : List Loc), t.heap = H1 → s.vm.Alike t.vm → post r u → B u t → H.size ≤ H1.size → (∀ q : Nat, q < H.size → ¬ A1 q → H1[q]? = H[q]?) → va_S A0 H0 H1 locs1 → W p l e R s m args below meth c H1 locs1 (cells + mc) (slots + ms) Q (F0 m (pc + 3) ls (.float r :: rest))) : W p l e R s m args below meth c H locs cells slots Q (F0 m pc ls st0) := by
  intro T hT X
  rcases hr T hT X with ⟨v, st₀, t, T', L, h0, X', hL, e1, e2, ⟨⟨r, u, hv, hp, hb⟩, hF⟩, st⟩ | ⟨q, st₀, t, T', L, E, ce, h0, X', hL, e1, e2, ⟨u, hp, hb, hF⟩, hce, hcv, hcl, st⟩
  · cases hv
    obtain ⟨k1, k2, k3⟩ := vx_keep h0 e1 hS hA hf hL hF
    obtain ⟨t2, a1, b1⟩ := kk r u t T'.heap (locs ++ L) e1.symm (by rw [← e2]; exact X'.warmed.alike) hp hb k1 k2 k3 T' rfl X'
    exact ⟨t2, st t2 a1, b1⟩
  · obtain ⟨k1, k2, k3⟩ := vx_keep h0 e1 hS hAX hf hL hF
    obtain ⟨t2, a1, b1⟩ := kx E ce q u t T'.heap (locs ++ L) e1.symm (by rw [← e2]; exact X'.warmed.alike) hp hb k1 k2 k3 (by rw [e1]; exact hce) hcv hcl T' rfl X'
    exact ⟨t2, st.trans a1, b1⟩
theorem vx_calld {S SX : Type} {post : UInt64 → S → Prop} {px : SX → Prop} {B : S → State → Prop} {BX : String → SX → State → Prop} {AX : Nat → Prop} (hr : vx_Run p l e R s m args below meth c H locs cells slots mc ms (F0 m pc ls st0) rest (va_Qd post B A1 a) (vx_X px BX AX) free) (hS : va_S A0 H0 H locs) (hA : ∀ q, q < H.size → A1 q → A0 q) (hf : ∀ q, free q → A0 q) (hAX : ∀ q, q < H.size → AX q → A0 q)
    (kx : ∀ (E : String) (ce : Cell) (q9 : Addr) (u : SX) (t : State) (H1 : Heap) (locs1 : List Loc), t.heap = H1 → s.vm.Alike t.vm → px u → BX E u t → H.size ≤ H1.size → (∀ q : Nat, q < H.size → ¬ AX q → H1[q]? = H[q]?) → va_S A0 H0 H1 locs1 → H1[q9]? = some ce → ce.vm = .none → s.vm.findClass E = some ce.cls → vx_W p l e R s m args below meth c H1 locs1 (cells + mc) (slots + ms) Q (F0 m pc ls rest) q9)
    (kk : ∀ (r : UInt64) (u : S) (t : State) (H1 : Heap) (locs1 : List Loc), t.heap = H1 → s.vm.Alike t.vm → post r u → B u t → H.size ≤ H1.size → (∀ q : Nat, q < H.size → ¬ A1 q → H1[q]? = H[q]?) → va_S A0 H0 H1 locs1 → W p l e R s m args below meth c H1 locs1 (cells + mc) (slots + ms) Q (F0 m (pc + 3) ls (.double r :: rest))) : W p l e R s m args below meth c H locs cells slots Q (F0 m pc ls st0) := by
  intro T hT X
  rcases hr T hT X with ⟨v, st₀, t, T', L, h0, X', hL, e1, e2, ⟨⟨r, u, hv, hp, hb⟩, hF⟩, st⟩ | ⟨q, st₀, t, T', L, E, ce, h0, X', hL, e1, e2, ⟨u, hp, hb, hF⟩, hce, hcv, hcl, st⟩
  · cases hv
    obtain ⟨k1, k2, k3⟩ := vx_keep h0 e1 hS hA hf hL hF
    obtain ⟨t2, a1, b1⟩ := kk r u t T'.heap (locs ++ L) e1.symm (by rw [← e2]; exact X'.warmed.alike) hp hb k1 k2 k3 T' rfl X'
    exact ⟨t2, st t2 a1, b1⟩
  · obtain ⟨k1, k2, k3⟩ := vx_keep h0 e1 hS hAX hf hL hF
    obtain ⟨t2, a1, b1⟩ := kx E ce q u t T'.heap (locs ++ L) e1.symm (by rw [← e2]; exact X'.warmed.alike) hp hb k1 k2 k3 (by rw [e1]; exact hce) hcv hcl T' rfl X'
    exact ⟨t2, st.trans a1, b1⟩
theorem vx_callv {S SX : Type} {post : S → Prop} {px : SX → Prop} {B : S → State → Prop} {BX : String → SX → State → Prop} {AX : Nat → Prop} (hr : vx_Run p l e R s m args below meth c H locs cells slots mc ms (F0 m pc ls st0) rest (va_Qv post B A1 a) (vx_X px BX AX) free) (hS : va_S A0 H0 H locs) (hA : ∀ q, q < H.size → A1 q → A0 q) (hf : ∀ q, free q → A0 q) (hAX : ∀ q, q < H.size → AX q → A0 q)
    (kx : ∀ (E : String) (ce : Cell) (q9 : Addr) (u : SX) (t : State) (H1 : Heap) (locs1 : List Loc), t.heap = H1 → s.vm.Alike t.vm → px u → BX E u t → H.size ≤ H1.size → (∀ q : Nat, q < H.size → ¬ AX q → H1[q]? = H[q]?) → va_S A0 H0 H1 locs1 → H1[q9]? = some ce → ce.vm = .none → s.vm.findClass E = some ce.cls → vx_W p l e R s m args below meth c H1 locs1 (cells + mc) (slots + ms) Q (F0 m pc ls rest) q9)
    (kk : ∀ (u : S) (t : State) (H1 : Heap) (locs1 : List Loc), t.heap = H1 → s.vm.Alike t.vm → post u → B u t → H.size ≤ H1.size → (∀ q : Nat, q < H.size → ¬ A1 q → H1[q]? = H[q]?) → va_S A0 H0 H1 locs1 → W p l e R s m args below meth c H1 locs1 (cells + mc) (slots + ms) Q (F0 m (pc + 3) ls (rest))) : W p l e R s m args below meth c H locs cells slots Q (F0 m pc ls st0) := by
  intro T hT X
  rcases hr T hT X with ⟨v, st₀, t, T', L, h0, X', hL, e1, e2, ⟨⟨u, hv, hp, hb⟩, hF⟩, st⟩ | ⟨q, st₀, t, T', L, E, ce, h0, X', hL, e1, e2, ⟨u, hp, hb, hF⟩, hce, hcv, hcl, st⟩
  · cases hv
    obtain ⟨k1, k2, k3⟩ := vx_keep h0 e1 hS hA hf hL hF
    obtain ⟨t2, a1, b1⟩ := kk u t T'.heap (locs ++ L) e1.symm (by rw [← e2]; exact X'.warmed.alike) hp hb k1 k2 k3 T' rfl X'
    exact ⟨t2, st t2 a1, b1⟩
  · obtain ⟨k1, k2, k3⟩ := vx_keep h0 e1 hS hAX hf hL hF
    obtain ⟨t2, a1, b1⟩ := kx E ce q u t T'.heap (locs ++ L) e1.symm (by rw [← e2]; exact X'.warmed.alike) hp hb k1 k2 k3 (by rw [e1]; exact hce) hcv hcl T' rfl X'
    exact ⟨t2, st.trans a1, b1⟩
/-- caught by the row x of this method's table; the rows ahead don't take it -/
theorem vx_catch {own name : String} {E : String} {ce : Cell} {q : Addr} (hown : s.vm.findClass own = some m.cls) (pre : List ExceptionTableEntry) (x : ExceptionTableEntry) (suf : List ExceptionTableEntry) (hsplit : c.exceptionTable.toList = pre ++ x :: suf)
    (hpass : ∀ z ∈ pre, covers z pc = false ∨ (z.catchType ≠ 0 ∧ ∃ nm : String, (Cond.classLink own z.catchType nm).before args s = true ∧ va_Nc E nm s)) (hx : covers x pc = true) (h0 : x.catchType ≠ 0)
    (hlink : (Cond.classLink own x.catchType name).before args s = true) (hcast : (Cond.castable E name).before args s = true) (hcell : H[q]? = some ce) (hv : ce.vm = .none) (hcl : s.vm.findClass E = some ce.cls)
    (kk : W p l e R s m args below meth c H locs cells slots Q (F0 m x.handlerPc ls [.ref q])) : vx_W p l e R s m args below meth c H locs cells slots Q (F0 m pc ls rest) q := by
  intro T hT X
  have hpl : e.platform.magicAccessors = ({} : Platform).magicAccessors := by rw [X.admits.platform]
  obtain ⟨c3, c4, hc3, hc4, hasg⟩ := Cond.castable_spec hcast
  cases Option.some.inj (hc3.symm.trans hcl)
  obtain ⟨c5, hc5, hcl5⟩ := Cond.classLink_spec hown hlink e.platform hpl
  cases Option.some.inj (hc4.symm.trans hc5)
  obtain ⟨vm', X', st⟩ := X.thenCaughtThrough q (g := F0 m pc ls rest) rfl (Steps.refl _) (by rw [hT]; exact hcell) (by rw [hv]; rfl) (by obtain ⟨k9, h9, -⟩ := Vm.findClass_spec hcl; exact ⟨k9, h9⟩) pre x suf hsplit
    (fun z hz => by
      rcases hpass z hz with h | ⟨hz0, nm, hl1, hn1⟩
      · exact Or.inl h
      · obtain ⟨c6, hc6, hcl6⟩ := Cond.classLink_spec hown hl1 e.platform hpl
        obtain ⟨a8, b8, h1, h2, h3⟩ := hn1
        cases Option.some.inj (h1.symm.trans hcl)
        cases Option.some.inj (h2.symm.trans hc6)
        exact Or.inr ⟨hz0, _, hcl6, h3⟩) hx (Or.inr ⟨h0, c4, hcl5, hasg⟩)
  obtain ⟨t, a1, b1⟩ := kk (T.setVm vm') hT X'
  exact ⟨t, st.trans a1, b1⟩
end Rows
section Ends
variable {p : Program} {l : Launch} {e : Env} {R : Room} {s : State} {m : MethodId} {args : Array Value} {below : List Frame} {meth : Method} {c : Code} {H : Heap} {locs : List Loc} {cells slots : Nat} {Q : State → Prop}
variable {mc ms : Nat} {free : Addr → Prop} {A0 A1 : Nat → Prop} {H0 : Heap} {a : Array Value} {ls : Array Slot} {st0 rest : List Value}
variable {Qc : Array Value → State → Outcome → State → Prop} {XC : String → State → State → Prop}
/-- what a body that may throw owes at its end -/
def vx_MQ (below : List Frame) (Qc : Array Value → State → Outcome → State → Prop) (XC : String → State → State → Prop) (a : Array Value) (s : State) (mc ms : Nat) (free : Addr → Prop) : State → Prop := fun t =>
  ∃ o, t.status = .running ∧ Ended t below o ∧ vx_Q Qc XC mc ms free a s o t
theorem vx_ret {g : JFrame} {mc ms : Nat} (k : W p l e R s m args below meth c H locs cells slots (MQ below Qc args s mc ms free) g) : W p l e R s m args below meth c H locs cells slots (vx_MQ below Qc XC args s mc ms free) g := by
  intro T hT X
  obtain ⟨t, a1, o, b1, b2, b3, b4⟩ := k T hT X
  exact ⟨t, a1, o, b1, b2, Or.inl ⟨b3, b4⟩⟩
/-- not caught here: it goes on to the caller -/
theorem vx_widen {g : JFrame} {q : Addr} {k n : Nat} (h1 : cells ≤ k) (h2 : slots ≤ n) (kk : vx_W p l e R s m args below meth c H locs k n Q g q) : vx_W p l e R s m args below meth c H locs cells slots Q g q := fun T hT X => kk T hT (stand_widen X h1 h2)
theorem vx_out {pc : Nat} {E : String} {ce : Cell} {q : Addr} {mc ms : Nat} (hout : ∀ x ∈ c.exceptionTable.toList, covers x pc = false) (hlocks : meth.locks = false) (hcell : H[q]? = some ce) (hv : ce.vm = .none) (hcl : s.vm.findClass E = some ce.cls)
    (hx : ∀ t : State, t.heap = H → s.vm.Alike t.vm → XC E s t) (hf : ∀ z ∈ locs, free z.base) (hc : cells ≤ mc) (hs : slots ≤ ms) :
    vx_W p l e R s m args below meth c H locs cells slots (vx_MQ below Qc XC args s mc ms free) (F0 m pc ls rest) q := by
  intro T hT X
  obtain ⟨st1, hrun, hend, hW, hsm⟩ := X.leaveThrown q (g := F0 m pc ls rest) rfl rfl rfl hout hlocks
  have hcell9 : (T.setFrames (.throwing q :: below)).heap[q]? = some ce := by
    show T.heap[q]? = some ce
    rw [hT]; exact hcell
  exact ⟨_, st1, .threw q, hrun, hend, Or.inr ⟨q, rfl, E, ce, locs, hx _ hT hW.alike, hcell9, hv, hcl, hW, hsm.mono hc hs, hf⟩⟩
theorem vx_frame {U : State} {k n : Nat} (h : s.sameButNew ({ U with vm := s.vm } : State) locs k n) : s.heap.size ≤ U.heap.size ∧ ∀ q : Nat, q < s.heap.size → (∀ z ∈ locs, z.base ≠ q) → U.heap[q]? = s.heap[q]? := by
  obtain ⟨-, h2, -, -, -, h6⟩ := h
  refine ⟨h2, fun q hq hz => ?_⟩
  obtain ⟨c9, e1, e2, e3, e4⟩ := h6 q _ (Array.getElem?_eq_getElem hq)
  have hs : c9.slots = (s.heap[q]).slots := Array.ext_getElem? fun i => e4 i fun hm => hz _ hm rfl
  have h9 : c9 = s.heap[q] := by
    rw [hs] at e2
    exact e2
  have e5 : U.heap[q]? = some c9 := e1
  rw [e5, h9, Array.getElem?_eq_getElem hq]
/-- the words of a throw but the four that speak of the heap -/
def vx_no (w : Cond) : Bool := decide (w ≠ .isRef (.static Bundle.tN "UNASSIGNED_STACK" Bundle.steD)) && decide (w ≠ .isRef (.static Bundle.tN "SUPPRESSED_SENTINEL" Bundle.listD)) && decide (w ≠ .laysStatic Bundle.tN "UNASSIGNED_STACK" Bundle.steD) && decide (w ≠ .laysStatic Bundle.tN "SUPPRESSED_SENTINEL" Bundle.listD)
def vx_at0 (own : String) (ic : Nat) (X : String) (names : List String) : List Cond := (Bundle.ownAtoms0 own ic X names).filter vx_no
def vx_atS (own : String) (ic : Nat) (X : String) (names : List String) : List Cond := (Bundle.ownAtoms own ic X names).filter vx_no
/-- a word that the tables alone decide, or a good one -/
def vx_ot (w : Cond) : Bool := w.onTables || goodWord w
theorem vx_ot_at {args a' : Array Value} {s U : State} {w : Cond} (hW : s.WarmedH U.vm) (hvm : s.vm = U.vm) (hg : vx_ot w = true) (h : w.before args s = true) : w.before a' U = true := by
  simp only [vx_ot, Bool.or_eq_true] at hg
  rcases hg with hg | hg
  · exact va_tabs hg hvm h
  · exact word_at hW (good_of_word hg) h
/-- a list's words: the good ones out of the method's own list, the others by premises of their own -/
theorem vx_hat {args : Array Value} {s : State} {L B : List Cond} (h1 : ∀ w ∈ L.filter goodWord, w.before args s = true) (h2 : ∀ w ∈ L.filter (fun w => !goodWord w), w ∈ B) (h3 : ∀ w ∈ B, w.before args s = true) : ∀ w ∈ L, w.before args s = true := by
  intro w hw
  by_cases g : goodWord w = true
  · exact h1 w (List.mem_filter.mpr ⟨hw, g⟩)
  · refine h3 w (h2 w (List.mem_filter.mpr ⟨hw, ?_⟩))
    show (!goodWord w) = true
    cases hgw : goodWord w
    · rfl
    · exact absurd hgw g
theorem vx_c {args : Array Value} {s : State} {w : Cond} {B : List Cond} (h : w.before args s = true) (t : ∀ w ∈ B, w.before args s = true) : ∀ w' ∈ w :: B, w'.before args s = true := fun w' h' => (List.mem_cons.mp h').elim (fun e => by rw [e]; exact h) (t w')
theorem vx_n {args : Array Value} {s : State} : ∀ w ∈ ([] : List Cond), w.before args s = true := fun _ h => nomatch h
theorem vx_own {args : Array Value} {s : State} {L : List Cond} (h1 : ∀ w ∈ L.filter vx_no, w.before args s = true)
    (hU : (Cond.isRef (.static Bundle.tN "UNASSIGNED_STACK" Bundle.steD)).before args s = true) (hN : (Cond.isRef (.static Bundle.tN "SUPPRESSED_SENTINEL" Bundle.listD)).before args s = true)
    (lU : (Cond.laysStatic Bundle.tN "UNASSIGNED_STACK" Bundle.steD).before args s = true) (lN : (Cond.laysStatic Bundle.tN "SUPPRESSED_SENTINEL" Bundle.listD).before args s = true) : ∀ w ∈ L, w.before args s = true := by
  intro w hw
  by_cases e1 : w = .isRef (.static Bundle.tN "UNASSIGNED_STACK" Bundle.steD)
  · rw [e1]; exact hU
  · by_cases e2 : w = .isRef (.static Bundle.tN "SUPPRESSED_SENTINEL" Bundle.listD)
    · rw [e2]; exact hN
    · by_cases e3 : w = .laysStatic Bundle.tN "UNASSIGNED_STACK" Bundle.steD
      · rw [e3]; exact lU
      · by_cases e4 : w = .laysStatic Bundle.tN "SUPPRESSED_SENTINEL" Bundle.listD
        · rw [e4]; exact lN
        · exact h1 w (List.mem_filter.mpr ⟨hw, by unfold vx_no; rw [decide_eq_true e1, decide_eq_true e2, decide_eq_true e3, decide_eq_true e4]; rfl⟩)
/-- where a static field lies, its class's statics cell in H -/
def vx_L (C n d : String) (A : Nat → Prop) (U : State) (H : Heap) : Prop := ∃ (c : ClassId) (k : Class) (i : Nat) (f : Field) (a : Nat) (cell : Cell), U.vm.findClass C = some c ∧ U.fieldFound? C n d = some (c, k, i, f) ∧ f.isStatic = true ∧ k.statics = some a ∧ H[a]? = some cell ∧ cell.vm.isStatics = true ∧ cell.cls = c ∧ f.slot < cell.slots.size ∧ k.staticTypes[f.slot]? = some f.type ∧ ¬ A a
theorem vx_L.moved {C n d : String} {A : Nat → Prop} {u U : State} {H : Heap} (hvm : u.vm.Alike U.vm) (h : vx_L C n d A u H) : vx_L C n d A U H := by
  obtain ⟨c, k, i, f, a, cell, h1, h2, h3, h4, h5, h6, h7, h8, h9, h10⟩ := h
  obtain ⟨k', hi', he⟩ := State.fieldFound?_setVm hvm h2
  exact ⟨c, k', i, f, a, cell, by rw [hvm.findClass]; exact h1, hi', h3, by rw [he]; exact h4, h5, h6, h7, h8, by rw [he]; exact h9, h10⟩
theorem vx_L.kept {C n d : String} {A : Nat → Prop} {U : State} {H H1 : Heap} (h : vx_L C n d A U H) (hq : ∀ a : Nat, a < H.size → ¬ A a → H1[a]? = H[a]?) : vx_L C n d A U H1 := by
  obtain ⟨c, k, i, f, a, cell, h1, h2, h3, h4, h5, h6, h7, h8, h9, h10⟩ := h
  exact ⟨c, k, i, f, a, cell, h1, h2, h3, h4, by rw [hq a (Array.getElem?_eq_some_iff.mp h5).1 h10]; exact h5, h6, h7, h8, h9, h10⟩
theorem vx_L.narrow {C n d : String} {A B : Nat → Prop} {U : State} {H : Heap} (h : vx_L C n d A U H) (hAB : ∀ q, B q → A q) : vx_L C n d B U H := by
  obtain ⟨c, k, i, f, a, cell, h1, h2, h3, h4, h5, h6, h7, h8, h9, h10⟩ := h
  exact ⟨c, k, i, f, a, cell, h1, h2, h3, h4, h5, h6, h7, h8, h9, fun z => h10 (hAB _ z)⟩
theorem vx_L.word {C n d : String} {A : Nat → Prop} {s : State} {args : Array Value} (h : vx_L C n d A s s.heap) : (Cond.laysStatic C n d).before args s = true := by
  obtain ⟨c, k, i, f, a, cell, h1, h2, h3, h4, h5, h6, h7, h8, h9, -⟩ := h
  show (Cond.laysStatic C n d).holds args s none s [] = true
  exact Cond.laysStatic_of h1 h2 h3 h4 h5 h6 h7 h8 h9
/-- .. and what it holds: null or some reference -/
def vx_Zq (C n d : String) (A : Nat → Prop) (U : State) (H : Heap) : Prop := va_Zq C n d A U H ∧ vx_L C n d A U H
theorem vx_Zq.moved {C n d : String} {A : Nat → Prop} {u U : State} {H : Heap} (hvm : u.vm.Alike U.vm) (h : vx_Zq C n d A u H) : vx_Zq C n d A U H := ⟨va_Zq.moved hvm h.1, vx_L.moved hvm h.2⟩
theorem vx_Zq.kept {C n d : String} {A : Nat → Prop} {U : State} {H H1 : Heap} (h : vx_Zq C n d A U H) (hq : ∀ a : Nat, a < H.size → ¬ A a → H1[a]? = H[a]?) : vx_Zq C n d A U H1 := ⟨va_Zq.kept h.1 hq, vx_L.kept h.2 hq⟩
theorem vx_Zq.narrow {C n d : String} {A B : Nat → Prop} {U : State} {H : Heap} (h : vx_Zq C n d A U H) (hAB : ∀ q, B q → A q) : vx_Zq C n d B U H := ⟨va_Zq.narrow h.1 hAB, vx_L.narrow h.2 hAB⟩
theorem vx_Zqof {args : Array Value} {s : State} {C n d : String} {A : Nat → Prop} (hl : (Cond.laysStatic C n d).before args s = true) (hini : (Cond.initialized C).before args s = true) (h : (Cond.isRef (.static C n d)).before args s = true) (hA : ∀ a : Nat, a < s.heap.size → ¬ A a) : vx_Zq C n d A s s.heap := by
  refine ⟨va_Zqof hl hini h hA, ?_⟩
  obtain ⟨c, k, i, f, a, cell, h1, h2, h3, h4, h5, h6, h7, h8, h9⟩ := Cond.laysStatic_spec hl
  exact ⟨c, k, i, f, a, cell, h1, h2, h3, h4, h5, h6, h7, h8, h9, hA a (Array.getElem?_eq_some_iff.mp h5).1⟩
theorem vx_isRef {C n d : String} {v : Value} {A : Nat → Prop} {s : State} {args : Array Value} (h : va_Z C n d v A s s.heap) (hv : v.isRef = true) : (Cond.isRef (.static C n d)).before args s = true := by
  obtain ⟨cf, kf, fi, f, a, cell, h1, h2, h3, h4, h5, h6, h7, -⟩ := h
  have he : (Term.static C n d).eval args s none [] s = some v := by
    simp [Term.eval, State.fieldNamed?, h1, h2, h4, h5, h6, h7]
  simp only [Cond.before, Cond.holds, Cond.value, he]
  cases v <;> simp_all [Value.isRef]
theorem vx_isRefq {C n d : String} {A : Nat → Prop} {s : State} {args : Array Value} (h : va_Zq C n d A s s.heap) : (Cond.isRef (.static C n d)).before args s = true := by
  rcases h with h | ⟨t, h⟩
  · exact vx_isRef h rfl
  · exact vx_isRef h rfl
/-- the same frame, seen from here: as if the method were called anew in this heap -/
theorem vx_rebase {T : State} (X : Stand p l e R s m args below meth c T locs cells slots) {R' : Room} (hf : R'.frames ≤ R.frames) (hl : R'.locals ≤ R.locals) (hc : cells + R'.cells ≤ R.cells) (hs : slots + R'.slots ≤ R.slots) :
    Stand p l e R' ((T.setVm s.vm).setFrames (.invoking m args :: below)) m args below meth c T [] 0 0 := by
  have htop : (T.setVm s.vm).topJava?.isSome := X.here.top
  have hF : ((T.setVm s.vm).setFrames (.invoking m args :: below)).frames = .invoking m args :: below := State.frames_setFrames _ (State.cur_lt_of_top htop)
  obtain ⟨g₀, hg0⟩ := Option.isSome_iff_exists.mp htop
  obtain ⟨r, hr⟩ := State.topJava?_eq_some.mp hg0
  have hl9 : e.platform.stackLimits (T.setVm s.vm).me = e.platform.stackLimits s.me := X.limits
  have hb9 : (T.setVm s.vm).me.stackBytes = s.me.stackBytes := X.bytes
  refine ⟨X.admits, X.cas, X.clock, hF, ?_, X.hears, X.method, X.code, X.here, X.tail, X.warmed, ?_, ?_, ?_⟩
  · have h := X.room
    have hU : ((T.setVm s.vm).setFrames (.invoking m args :: below)).localsInUse = s.localsInUse := by
      rw [State.localsInUse_invoking hF (meth := meth) (c := c) X.method X.code, State.localsInUse_invoking X.frames X.method X.code]
    simp only [State.hasRoom, Bool.and_eq_true, decide_eq_true_eq] at h ⊢
    obtain ⟨⟨⟨⟨h1, h2, h3, h4, h5, h6⟩, h7⟩, h8⟩, h9⟩ := h
    rw [X.frames, List.length_cons] at h2 h3
    have q1 := X.heapSize
    have q2 := X.used
    simp only [hF, hU, List.length_cons, State.stackLimits_setFrames, State.stackBytes_setFrames, hl9, hb9]
    refine ⟨⟨⟨⟨by omega, by omega, by omega, by omega, by omega, h6⟩, ?_⟩, ?_⟩, X.book⟩
    · show T.heap.size + R'.cells ≤ e.platform.maxCells
      omega
    · show T.slotsUsed + R'.slots ≤ e.platform.maxSlots
      omega
  · rw [State.stackLimits_setFrames]; rfl
  · rw [State.stackBytes_setFrames]; rfl
  · refine ⟨?_, Nat.le_refl _, Nat.le_refl _, ?_, ?_, fun a c9 h9 => ⟨c9, h9, rfl, rfl, fun _ _ => rfl⟩⟩
    · obtain ⟨t, ht, -⟩ := State.frames_cons hr
      show T.setVm s.vm = { ((T.setVm s.vm).setFrames (.invoking m args :: below)).setFrames (T.setVm s.vm).frames with heap := T.heap, slotsUsed := T.slotsUsed }
      rw [State.setFrames_setFrames, State.setFrames_self ht]
      rfl
    · show T.slotsUsed = T.slotsUsed + ((T.heap.toList.drop T.heap.size).map (·.slots.size)).sum
      rw [List.drop_eq_nil_of_le (Nat.le_of_eq Array.length_toList)]
      rfl
    · show ((T.heap.toList.drop T.heap.size).map (·.slots.size)).sum ≤ 0
      rw [List.drop_eq_nil_of_le (Nat.le_of_eq Array.length_toList)]
      exact Nat.le_refl _
/-- 'throw new E()': new; dup; invokespecial; athrow -/
theorem vx_throw0 {cc : ByteArray} {pc : Nat} (hexec : p.tables.exec = Jvm.exec) (hb : c.code = cc) (hl : l.stackTraces = false) {own cls : String} {names : List String} {ik ic mc ms : Nat} {A : Nat → Prop}
    (hown : s.vm.findClass own = some m.cls) (hcls : Bundle.fit cls = true) (hnames : ∀ n ∈ names, Bundle.fit n = true)
    (hk : (Cond.classLink own ik cls).before args s = true) (hini : (Cond.initialized cls).before args s = true) (hat : ∀ w ∈ vx_at0 own ic cls names, w.before args s = true)
    (hgood : ∀ w ∈ Cond.classLink own ik cls :: Cond.initialized cls :: vx_at0 own ic cls names, vx_ot w = true)
    (hU : vx_Zq Bundle.tN "UNASSIGNED_STACK" Bundle.steD A s s.heap) (hN : vx_Zq Bundle.tN "SUPPRESSED_SENTINEL" Bundle.listD A s s.heap) (hS : va_S A s.heap H locs) (hsize : ls.size = c.maxLocals)
    (d0 : decode cc pc = .ok (.new ik, 3)) (d3 : decode cc (pc + 3) = .ok (.dup, 1)) (d4 : decode cc (pc + 4) = .ok (.invokespecial ic, 3)) (d7 : decode cc (pc + 7) = .ok (.athrow, 1))
    (hout : ∀ x ∈ c.exceptionTable.toList, covers x (pc + 7) = false)
    (hRframes : names.length + 3 < R.frames) (hRlocals : (rest.map fun v => v.category).sum + (13 * (names.length + 1) + 42) ≤ R.locals) (hRcells : cells + 1 ≤ R.cells) (hRslots : slots + 6 ≤ R.slots) (hlocks : meth.locks = false)
    (hx : ∀ t : State, s.vm.Alike t.vm → H.size ≤ t.heap.size → (∀ q : Nat, q < H.size → t.heap[q]? = H[q]?) → XC cls s t)
    (hf : ∀ z ∈ locs, free z.base) (hc : cells + 1 ≤ mc) (hs : slots + 6 ≤ ms) :
    W p l e R s m args below meth c H locs cells slots (vx_MQ below Qc XC args s mc ms free) (F0 m pc ls rest) := by
  intro T hT X
  have htr : e.platform.stackTraces = false := (show e.platform.stackTraces = l.stackTraces by rw [X.admits.platform]).trans hl
  have Y := vx_rebase X (R' := { frames := R.frames, locals := R.locals, cells := 1, slots := 6 }) (Nat.le_refl _) (Nat.le_refl _) hRcells hRslots
  obtain ⟨s', hA⟩ : ∃ z, z = (T.setVm s.vm).setFrames (.invoking m args :: below) := ⟨_, rfl⟩
  rw [← hA] at Y
  have hvm : s'.vm = s.vm := by rw [hA]; rfl
  have hhp : s'.heap = H := by rw [hA]; exact hT
  have hW0 : s.WarmedH s'.vm := by rw [hvm]; exact State.WarmedH.refl s
  have hat' : ∀ w ∈ vx_at0 own ic cls names, w.before args s' = true := fun w hw => vx_ot_at hW0 hvm.symm (hgood w (List.mem_cons_of_mem _ (List.mem_cons_of_mem _ hw))) (hat w hw)
  have hk' : (Cond.classLink own ik cls).before args s' = true := vx_ot_at hW0 hvm.symm (hgood _ List.mem_cons_self) hk
  have hini' : (Cond.initialized cls).before args s' = true := vx_ot_at hW0 hvm.symm (hgood _ (List.mem_cons_of_mem _ List.mem_cons_self)) hini
  have hU' : vx_Zq Bundle.tN "UNASSIGNED_STACK" Bundle.steD A s' s'.heap := by rw [hhp]; exact vx_Zq.moved hW0.alike (hU.kept hS.2.1)
  have hN' : vx_Zq Bundle.tN "SUPPRESSED_SENTINEL" Bundle.listD A s' s'.heap := by rw [hhp]; exact vx_Zq.moved hW0.alike (hN.kept hS.2.1)
  have h : ∀ w ∈ Bundle.ownAtoms0 own ic cls names, w.before args s' = true := vx_own hat' (vx_isRefq hU'.1) (vx_isRefq hN'.1) hU'.2.word hN'.2.word
  have hown' : s'.vm.findClass own = some m.cls := by rw [hvm]; exact hown
  have hins : (Cond.instantiable cls 6).before args s' = true := h _ (by simp [Bundle.ownAtoms0])
  obtain ⟨vm₁, cX, kX, hfX, hkX, -, -, X₁, st1⟩ := Y.newCold hexec (own := own) (C := cls) (index := ik) (n := 6) hown' hk' hins hini'
    (g := F0 m pc ls rest) rfl (by rw [hb]; exact d0) (Nat.le_refl _) (Nat.le_refl _)
  generalize hT1 : (T.setVm vm₁).pushCell { cls := cX, slots := kX.instanceTypes.map defaultValue, vm := .none } = T1 at X₁ st1
  have hcat : (Value.ref T.heap.size).category = 1 := rfl
  have hcellA : T1.heap[T.heap.size]? = some (freshCell cX kX) := by rw [← hT1]; exact State.heap_pushCell_size _ _
  have d3' : decode c.code (pc + 3) = .ok (.dup, 1) := by rw [hb]; exact d3
  obtain ⟨U, hsteps, hrun, hend, hW, hsame, ce, hce, hO⟩ := X₁.ctorThrow0 hexec htr (own := own) (cls := cls) (names := names) (ic := ic) hown' hcls hnames h (fun x hx => nomatch hx) hfX hkX hcellA (by rw [hhp, hT]; exact Nat.le_refl _)
    (g := { method := m, pc := pc + 4, locals := ls, stack := .ref T.heap.size :: .ref T.heap.size :: rest, locked := none }) rfl hsize rfl rfl (rest := rest) rfl
    (by rw [hb]; exact d4) (by rw [hb]; exact d7) hout hRframes (by simp only [List.map_cons, List.sum_cons, hcat]; omega) hlocks
  obtain ⟨f1, f2⟩ := vx_frame hsame
  rw [hhp] at f1 f2
  have hWs : s.WarmedH U.vm := State.WarmedH.trans hW0 hW
  have hcl : s.vm.findClass cls = some ce.cls := by
    have h9 := hO.cls
    rw [hvm] at h9
    exact h9
  have hall : s.sameButNew ({ U with vm := s.vm } : State) locs mc ms := by
    subst hA
    obtain ⟨e1, e2⟩ := hsame
    rw [State.setFrames_setFrames] at e1
    have h2 : (T.setVm s.vm).sameButNew ({ U with vm := s.vm } : State) [] (0 + 1) (0 + 6) := ⟨e1, e2⟩
    have h3 := X.same.trans h2
    rw [List.append_nil] at h3
    exact h3.mono hc hs
  refine ⟨U, ?_, .threw T.heap.size, hrun, hend, Or.inr ⟨T.heap.size, rfl, cls, ce, locs, hx U hWs.alike f1 (fun q hq => f2 q hq (fun z hz => nomatch hz)), hce, hO.vm, hcl, hWs, hall, hf⟩⟩
  refine st1 _ ?_
  show Steps p.tables e below (T1.setTop { method := m, pc := pc + 3, locals := ls, stack := .ref T.heap.size :: rest, locked := none }) _
  jvm_step X₁.here [X₁.here.top, hexec, d3', Value.category]
  exact hsteps
/-- 'throw new E("text")': new; dup; ldc; invokespecial; athrow -/
theorem vx_throwS {cc : ByteArray} {pc : Nat} (hexec : p.tables.exec = Jvm.exec) (hb : c.code = cc) (hl : l.stackTraces = false) {own cls text : String} {names : List String} {ik is ic mc ms sa : Nat} {A : Nat → Prop}
    (hown : s.vm.findClass own = some m.cls) (hcls : Bundle.fit cls = true) (hnames : ∀ n ∈ names, Bundle.fit n = true)
    (hk : (Cond.classLink own ik cls).before args s = true) (hini : (Cond.initialized cls).before args s = true) (hstr : vk_R own is text sa s) (hat : ∀ w ∈ vx_atS own ic cls names, w.before args s = true)
    (hgood : ∀ w ∈ Cond.classLink own ik cls :: Cond.initialized cls :: vx_atS own ic cls names, vx_ot w = true)
    (hU : vx_Zq Bundle.tN "UNASSIGNED_STACK" Bundle.steD A s s.heap) (hN : vx_Zq Bundle.tN "SUPPRESSED_SENTINEL" Bundle.listD A s s.heap) (hS : va_S A s.heap H locs) (hsize : ls.size = c.maxLocals)
    (d0 : decode cc pc = .ok (.new ik, 3)) (d3 : decode cc (pc + 3) = .ok (.dup, 1)) (d4 : decode cc (pc + 4) = .ok (.ldc is, 2)) (d6 : decode cc (pc + 6) = .ok (.invokespecial ic, 3)) (d9 : decode cc (pc + 9) = .ok (.athrow, 1))
    (hout : ∀ x ∈ c.exceptionTable.toList, covers x (pc + 9) = false)
    (hRframes : names.length + 3 < R.frames) (hRlocals : (rest.map fun v => v.category).sum + (13 * (names.length + 1) + 43) ≤ R.locals) (hRcells : cells + 1 ≤ R.cells) (hRslots : slots + 6 ≤ R.slots) (hlocks : meth.locks = false)
    (hx : ∀ t : State, s.vm.Alike t.vm → H.size ≤ t.heap.size → (∀ q : Nat, q < H.size → t.heap[q]? = H[q]?) → XC cls s t)
    (hf : ∀ z ∈ locs, free z.base) (hc : cells + 1 ≤ mc) (hs : slots + 6 ≤ ms) :
    W p l e R s m args below meth c H locs cells slots (vx_MQ below Qc XC args s mc ms free) (F0 m pc ls rest) := by
  intro T hT X
  have htr : e.platform.stackTraces = false := (show e.platform.stackTraces = l.stackTraces by rw [X.admits.platform]).trans hl
  have Y := vx_rebase X (R' := { frames := R.frames, locals := R.locals, cells := 1, slots := 6 }) (Nat.le_refl _) (Nat.le_refl _) hRcells hRslots
  obtain ⟨s', hA⟩ : ∃ z, z = (T.setVm s.vm).setFrames (.invoking m args :: below) := ⟨_, rfl⟩
  rw [← hA] at Y
  have hvm : s'.vm = s.vm := by rw [hA]; rfl
  have hhp : s'.heap = H := by rw [hA]; exact hT
  have hW0 : s.WarmedH s'.vm := by rw [hvm]; exact State.WarmedH.refl s
  have hat' : ∀ w ∈ vx_atS own ic cls names, w.before args s' = true := fun w hw => vx_ot_at hW0 hvm.symm (hgood w (List.mem_cons_of_mem _ (List.mem_cons_of_mem _ hw))) (hat w hw)
  have hk' : (Cond.classLink own ik cls).before args s' = true := vx_ot_at hW0 hvm.symm (hgood _ List.mem_cons_self) hk
  have hini' : (Cond.initialized cls).before args s' = true := vx_ot_at hW0 hvm.symm (hgood _ (List.mem_cons_of_mem _ List.mem_cons_self)) hini
  have hU' : vx_Zq Bundle.tN "UNASSIGNED_STACK" Bundle.steD A s' s'.heap := by rw [hhp]; exact vx_Zq.moved hW0.alike (hU.kept hS.2.1)
  have hN' : vx_Zq Bundle.tN "SUPPRESSED_SENTINEL" Bundle.listD A s' s'.heap := by rw [hhp]; exact vx_Zq.moved hW0.alike (hN.kept hS.2.1)
  have h : ∀ w ∈ Bundle.ownAtoms own ic cls names, w.before args s' = true := vx_own hat' (vx_isRefq hU'.1) (vx_isRefq hN'.1) hU'.2.word hN'.2.word
  have hown' : s'.vm.findClass own = some m.cls := by rw [hvm]; exact hown
  have hins : (Cond.instantiable cls 6).before args s' = true := h _ (by simp [Bundle.ownAtoms])
  obtain ⟨vm₁, cX, kX, hfX, hkX, -, -, X₁, st1⟩ := Y.newCold hexec (own := own) (C := cls) (index := ik) (n := 6) hown' hk' hins hini'
    (g := F0 m pc ls rest) rfl (by rw [hb]; exact d0) (Nat.le_refl _) (Nat.le_refl _)
  generalize hT1 : (T.setVm vm₁).pushCell { cls := cX, slots := kX.instanceTypes.map defaultValue, vm := .none } = T1 at X₁ st1
  have hcat : (Value.ref T.heap.size).category = 1 := rfl
  have hcellA : T1.heap[T.heap.size]? = some (freshCell cX kX) := by rw [← hT1]; exact State.heap_pushCell_size _ _
  have d3' : decode c.code (pc + 3) = .ok (.dup, 1) := by rw [hb]; exact d3
  have d4' : decode c.code (pc + 4) = .ok (.ldc is, 2) := by rw [hb]; exact d4
  have hstr' : vk_R own is text sa s' := vk_R.warm hW0 hstr
  obtain ⟨U, hsteps, hrun, hend, hW, hsame, ce, hce, hO⟩ := X₁.ctorThrowS hexec htr (own := own) (cls := cls) (names := names) (ic := ic) hown' hcls hnames h (fun x hx => nomatch hx) hfX hkX hcellA (by rw [hhp, hT]; exact Nat.le_refl _) (msg := .ref sa) rfl
    (g := { method := m, pc := pc + 6, locals := ls, stack := .ref sa :: .ref T.heap.size :: .ref T.heap.size :: rest, locked := none }) rfl hsize rfl rfl (rest := rest) rfl
    (by rw [hb]; exact d6) (by rw [hb]; exact d9) hout hRframes (by simp only [List.map_cons, List.sum_cons, hcat]; omega) hlocks
  obtain ⟨f1, f2⟩ := vx_frame hsame
  rw [hhp] at f1 f2
  have hWs : s.WarmedH U.vm := State.WarmedH.trans hW0 hW
  have hcl : s.vm.findClass cls = some ce.cls := by
    have h9 := hO.cls
    rw [hvm] at h9
    exact h9
  have hall : s.sameButNew ({ U with vm := s.vm } : State) locs mc ms := by
    subst hA
    obtain ⟨e1, e2⟩ := hsame
    rw [State.setFrames_setFrames] at e1
    have h2 : (T.setVm s.vm).sameButNew ({ U with vm := s.vm } : State) [] (0 + 1) (0 + 6) := ⟨e1, e2⟩
    have h3 := X.same.trans h2
    rw [List.append_nil] at h3
    exact h3.mono hc hs
  refine ⟨U, ?_, .threw T.heap.size, hrun, hend, Or.inr ⟨T.heap.size, rfl, cls, ce, locs, hx U hWs.alike f1 (fun q hq => f2 q hq (fun z hz => nomatch hz)), hce, hO.vm, hcl, hWs, hall, hf⟩⟩
  refine st1 _ ?_
  show Steps p.tables e below (T1.setTop { method := m, pc := pc + 3, locals := ls, stack := .ref T.heap.size :: rest, locked := none }) _
  jvm_step X₁.here [X₁.here.top, hexec, d3', Value.category]
  exact X₁.ldcString hexec (own := own) (text := text) (index := is) (a := sa) hown' hstr'.1 hstr'.2
    (g := { method := m, pc := pc + 4, locals := ls, stack := .ref T.heap.size :: .ref T.heap.size :: rest, locked := none }) rfl d4' _ hsteps
/-- 'throw new E("text")', the text by a wide index -/
theorem vx_throwSW {cc : ByteArray} {pc : Nat} (hexec : p.tables.exec = Jvm.exec) (hb : c.code = cc) (hl : l.stackTraces = false) {own cls text : String} {names : List String} {ik is ic mc ms sa : Nat} {A : Nat → Prop}
    (hown : s.vm.findClass own = some m.cls) (hcls : Bundle.fit cls = true) (hnames : ∀ n ∈ names, Bundle.fit n = true)
    (hk : (Cond.classLink own ik cls).before args s = true) (hini : (Cond.initialized cls).before args s = true) (hstr : vk_R own is text sa s) (hat : ∀ w ∈ vx_atS own ic cls names, w.before args s = true)
    (hgood : ∀ w ∈ Cond.classLink own ik cls :: Cond.initialized cls :: vx_atS own ic cls names, vx_ot w = true)
    (hU : vx_Zq Bundle.tN "UNASSIGNED_STACK" Bundle.steD A s s.heap) (hN : vx_Zq Bundle.tN "SUPPRESSED_SENTINEL" Bundle.listD A s s.heap) (hS : va_S A s.heap H locs) (hsize : ls.size = c.maxLocals)
    (d0 : decode cc pc = .ok (.new ik, 3)) (d3 : decode cc (pc + 3) = .ok (.dup, 1)) (d4 : decode cc (pc + 4) = .ok (.ldc_w is, 3)) (d7 : decode cc (pc + 7) = .ok (.invokespecial ic, 3)) (d10 : decode cc (pc + 10) = .ok (.athrow, 1))
    (hout : ∀ x ∈ c.exceptionTable.toList, covers x (pc + 10) = false)
    (hRframes : names.length + 3 < R.frames) (hRlocals : (rest.map fun v => v.category).sum + (13 * (names.length + 1) + 43) ≤ R.locals) (hRcells : cells + 1 ≤ R.cells) (hRslots : slots + 6 ≤ R.slots) (hlocks : meth.locks = false)
    (hx : ∀ t : State, s.vm.Alike t.vm → H.size ≤ t.heap.size → (∀ q : Nat, q < H.size → t.heap[q]? = H[q]?) → XC cls s t)
    (hf : ∀ z ∈ locs, free z.base) (hc : cells + 1 ≤ mc) (hs : slots + 6 ≤ ms) :
    W p l e R s m args below meth c H locs cells slots (vx_MQ below Qc XC args s mc ms free) (F0 m pc ls rest) := by
  intro T hT X
  have htr : e.platform.stackTraces = false := (show e.platform.stackTraces = l.stackTraces by rw [X.admits.platform]).trans hl
  have Y := vx_rebase X (R' := { frames := R.frames, locals := R.locals, cells := 1, slots := 6 }) (Nat.le_refl _) (Nat.le_refl _) hRcells hRslots
  obtain ⟨s', hA⟩ : ∃ z, z = (T.setVm s.vm).setFrames (.invoking m args :: below) := ⟨_, rfl⟩
  rw [← hA] at Y
  have hvm : s'.vm = s.vm := by rw [hA]; rfl
  have hhp : s'.heap = H := by rw [hA]; exact hT
  have hW0 : s.WarmedH s'.vm := by rw [hvm]; exact State.WarmedH.refl s
  have hat' : ∀ w ∈ vx_atS own ic cls names, w.before args s' = true := fun w hw => vx_ot_at hW0 hvm.symm (hgood w (List.mem_cons_of_mem _ (List.mem_cons_of_mem _ hw))) (hat w hw)
  have hk' : (Cond.classLink own ik cls).before args s' = true := vx_ot_at hW0 hvm.symm (hgood _ List.mem_cons_self) hk
  have hini' : (Cond.initialized cls).before args s' = true := vx_ot_at hW0 hvm.symm (hgood _ (List.mem_cons_of_mem _ List.mem_cons_self)) hini
  have hU' : vx_Zq Bundle.tN "UNASSIGNED_STACK" Bundle.steD A s' s'.heap := by rw [hhp]; exact vx_Zq.moved hW0.alike (hU.kept hS.2.1)
  have hN' : vx_Zq Bundle.tN "SUPPRESSED_SENTINEL" Bundle.listD A s' s'.heap := by rw [hhp]; exact vx_Zq.moved hW0.alike (hN.kept hS.2.1)
  have h : ∀ w ∈ Bundle.ownAtoms own ic cls names, w.before args s' = true := vx_own hat' (vx_isRefq hU'.1) (vx_isRefq hN'.1) hU'.2.word hN'.2.word
  have hown' : s'.vm.findClass own = some m.cls := by rw [hvm]; exact hown
  have hins : (Cond.instantiable cls 6).before args s' = true := h _ (by simp [Bundle.ownAtoms])
  obtain ⟨vm₁, cX, kX, hfX, hkX, -, -, X₁, st1⟩ := Y.newCold hexec (own := own) (C := cls) (index := ik) (n := 6) hown' hk' hins hini'
    (g := F0 m pc ls rest) rfl (by rw [hb]; exact d0) (Nat.le_refl _) (Nat.le_refl _)
  generalize hT1 : (T.setVm vm₁).pushCell { cls := cX, slots := kX.instanceTypes.map defaultValue, vm := .none } = T1 at X₁ st1
  have hcat : (Value.ref T.heap.size).category = 1 := rfl
  have hcellA : T1.heap[T.heap.size]? = some (freshCell cX kX) := by rw [← hT1]; exact State.heap_pushCell_size _ _
  have d3' : decode c.code (pc + 3) = .ok (.dup, 1) := by rw [hb]; exact d3
  have d4' : decode c.code (pc + 4) = .ok (.ldc_w is, 3) := by rw [hb]; exact d4
  have hstr' : vk_R own is text sa s' := vk_R.warm hW0 hstr
  obtain ⟨U, hsteps, hrun, hend, hW, hsame, ce, hce, hO⟩ := X₁.ctorThrowS hexec htr (own := own) (cls := cls) (names := names) (ic := ic) hown' hcls hnames h (fun x hx => nomatch hx) hfX hkX hcellA (by rw [hhp, hT]; exact Nat.le_refl _) (msg := .ref sa) rfl
    (g := { method := m, pc := pc + 7, locals := ls, stack := .ref sa :: .ref T.heap.size :: .ref T.heap.size :: rest, locked := none }) rfl hsize rfl rfl (rest := rest) rfl
    (by rw [hb]; exact d7) (by rw [hb]; exact d10) hout hRframes (by simp only [List.map_cons, List.sum_cons, hcat]; omega) hlocks
  obtain ⟨f1, f2⟩ := vx_frame hsame
  rw [hhp] at f1 f2
  have hWs : s.WarmedH U.vm := State.WarmedH.trans hW0 hW
  have hcl : s.vm.findClass cls = some ce.cls := by
    have h9 := hO.cls
    rw [hvm] at h9
    exact h9
  have hall : s.sameButNew ({ U with vm := s.vm } : State) locs mc ms := by
    subst hA
    obtain ⟨e1, e2⟩ := hsame
    rw [State.setFrames_setFrames] at e1
    have h2 : (T.setVm s.vm).sameButNew ({ U with vm := s.vm } : State) [] (0 + 1) (0 + 6) := ⟨e1, e2⟩
    have h3 := X.same.trans h2
    rw [List.append_nil] at h3
    exact h3.mono hc hs
  refine ⟨U, ?_, .threw T.heap.size, hrun, hend, Or.inr ⟨T.heap.size, rfl, cls, ce, locs, hx U hWs.alike f1 (fun q hq => f2 q hq (fun z hz => nomatch hz)), hce, hO.vm, hcl, hWs, hall, hf⟩⟩
  refine st1 _ ?_
  show Steps p.tables e below (T1.setTop { method := m, pc := pc + 3, locals := ls, stack := .ref T.heap.size :: rest, locked := none }) _
  jvm_step X₁.here [X₁.here.top, hexec, d3', Value.category]
  exact X₁.ldcStringW hexec (own := own) (text := text) (index := is) (a := sa) hown' hstr'.1 hstr'.2
    (g := { method := m, pc := pc + 4, locals := ls, stack := .ref T.heap.size :: .ref T.heap.size :: rest, locked := none }) rfl d4' _ hsteps
end Ends
section Bodies
variable {l : Launch}
theorem vx_ofW {y : MethodName} {ws ws' : List Cond} {rm : Room} {Pc : Array Value → State → Prop} {Qc : Array Value → State → Outcome → State → Prop} {XC : String → State → State → Prop} {mc ms : Nat} {free : Addr → Prop} {cc : ByteArray} {maxL : Nat} {ret : Option FieldType}
    (hy : plainName y.cls = true) (hw : ws = Cond.code y cc maxL ret :: ws')
    (body : ∀ p e s m args below meth c s₁, BodyLoose p l y (headSpec ws rm) cc maxL ret e s m args below meth c s₁ → c.maxLocals = maxL → (∀ x ∈ c.exceptionTable.toList, False) → Pc args s →
      W p l e (headSpec ws rm).room s m args below meth c s.heap [] 0 0 (vx_MQ below Qc XC args s mc ms free) (entryFrame m args maxL)) : vx_Met l y ws rm Pc Qc XC mc ms free := by
  refine MetFree.of_bodyS (code := cc) (maxLocals := maxL) (ret := ret) hy ?_ ?_
  · intro args s m h hn
    obtain ⟨meth, c, h1, h2, h3, h4, h5, h6, -, -⟩ := Cond.code_spec hn (atoms_spec (ws := ws) h _ (by rw [hw]; exact List.mem_cons_self))
    exact ⟨meth, c, h1, h2, h3, h4, h5, h6⟩
  · intro p e s m args below meth c s₁ B hml hP _
    have hh0 : s₁.heap = s.heap := by rw [B.state]; rfl
    have ht : ∀ x ∈ c.exceptionTable.toList, False := by
      obtain ⟨meth9, c9, h1, h2, -, -, -, -, h7, -⟩ := Cond.code_spec B.named (atoms_spec (ws := ws) B.pre _ (by rw [hw]; exact List.mem_cons_self))
      cases Option.some.inj (h1.symm.trans B.method)
      cases Option.some.inj (h2.symm.trans (Stand.of_body B).code)
      intro x hx
      rw [Array.isEmpty_iff.mp h7] at hx
      cases hx
    obtain ⟨t, a1, o, b1, b2, b3⟩ := body p e s m args below meth c s₁ B hml ht hP s₁ hh0 (Stand.of_body B)
    exact ⟨t, o, a1, b1, b2, b3⟩
/-- the table of a body with handlers -/
theorem vx_table {p : Program} {x y : MethodName} {S : Spec} {cc bytes : ByteArray} {maxL maxL' : Nat} {ret ret' : Option FieldType} {e : Env} {s s₁ : State} {m : MethodId} {args : Array Value} {below : List Frame} {meth : Method} {c : Code} {hh : List (Nat × Nat × Nat × Nat)}
    (B : BodyLoose p l y S cc maxL ret e s m args below meth c s₁) (h : (Cond.codeWith y bytes maxL' ret' hh).before args s = true) : c.exceptionTable.toList = tableOf hh := by
  obtain ⟨m9, meth9, c9, hn9, h1, h2, -, -, h6, -⟩ := Cond.codeWith_spec h
  cases Option.some.inj (hn9.symm.trans B.named)
  cases Option.some.inj (h1.symm.trans B.method)
  cases Option.some.inj (h2.symm.trans (Stand.of_body B).code)
  rw [← h6, table_eq]
end Bodies
end VXA
/-! ===== END ===== -/
/-! ===== BEGIN a static call of a method with an exception table ===== -/
section VXS
variable {p : Program} {l : Launch} {e : Env} {R : Room} {s : State} {m : MethodId} {args : Array Value} {below : List Frame} {meth : Method} {c : Code} {T : State} {H : Heap} {locs : List Loc} {cells slots : Nat}
abbrev vx_CSW (R : Room) (s : State) (args : Array Value) (own : String) (index : Nat) (y : MethodName) (bytes : ByteArray) (maxL : Nat) (ret : Option FieldType) (hh : List (Nat × Nat × Nat × Nat)) (ws : List Cond) (rm : Room) (mc ms n : Nat) : Prop :=
  (rm.cells = mc ∧ rm.slots = ms ∧ rm.frames + 1 ≤ R.frames ∧ 8 + (maxL + 11) + rm.locals ≤ R.locals ∧ (∀ w ∈ ws, ∀ (a' : Array Value) (U : State), s.WarmedH U.vm → w.before a' U = true) ∧ Cond.codeWith y bytes maxL ret hh ∈ ws) ∧
  (Cond.codeWith y bytes maxL ret hh).before args s = true ∧ (Cond.initialized y.cls).before args s = true ∧ (y.cls ≠ "java/lang/invoke/MethodHandle" ∧ y.cls ≠ "java/lang/invoke/VarHandle") ∧
  (∀ sig, parseMethodDescriptor y.desc = some sig → n = sig.parameters.length) ∧ (Cond.methodLink own index y).before args s = true ∧ (Cond.static y).before args s = true
theorem vx_cwSW {own : String} {index maxL mc ms : Nat} {y : MethodName} {bytes : ByteArray} {ret : Option FieldType} {hh : List (Nat × Nat × Nat × Nat)} {Ts ws ws' : List Cond} {rm : Room} (n : Nat) (ht : ∀ w ∈ Ts, w.before args s = true) (hT : GoodIn Ts (va_wsS own index y ws)) (hw : ws = Cond.codeWith y bytes maxL ret hh :: ws') (hrc : rm.cells = mc) (hrs : rm.slots = ms)
    (hd : y.cls ≠ "java/lang/invoke/MethodHandle" ∧ y.cls ≠ "java/lang/invoke/VarHandle" ∧ (parseMethodDescriptor y.desc).map (fun d => d.parameters.length) = some n) (hR : rm.frames + 1 ≤ R.frames ∧ 8 + (maxL + 11) + rm.locals ≤ R.locals) :
    vx_CSW R s args own index y bytes maxL ret hh ws rm mc ms n := by
  have ok : ∀ w ∈ va_wsS own index y ws, w.before args s = true := fun w h => ht w (hT w h).1
  have hG : GoodIn Ts ws := fun w h => hT w (by unfold va_wsS; exact List.mem_append_right _ h)
  have hc : Cond.codeWith y bytes maxL ret hh ∈ ws := by rw [hw]; exact List.mem_cons_self
  refine ⟨⟨hrc, hrs, hR.1, hR.2, pay_in ht hG, hc⟩, ht _ (hG _ hc).1, ok _ (by simp [va_wsS]), ⟨hd.1, hd.2.1⟩, fun sig h => ?_, ok _ (by simp [va_wsS]), ok _ (by simp [va_wsS])⟩
  have h2 := hd.2.2
  rw [h] at h2
  exact (Option.some.inj h2).symm
theorem vx_callSW (X : Stand p l e R s m args below meth c T locs cells slots) (hexec : p.tables.exec = Jvm.exec) {own : String} {index : Nat} {y : MethodName} {bytes : ByteArray} {maxL : Nat} {ret : Option FieldType} {hh : List (Nat × Nat × Nat × Nat)}
    (hown : s.vm.findClass own = some m.cls) (hlink : (Cond.methodLink own index y).before args s = true) (hstat : (Cond.static y).before args s = true) (hinit : (Cond.initialized y.cls).before args s = true)
    (hcode : (Cond.codeWith y bytes maxL ret hh).before args s = true) (hy : y.cls ≠ "java/lang/invoke/MethodHandle" ∧ y.cls ≠ "java/lang/invoke/VarHandle")
    {W9 : Nat} {Pre : Pt → Array Value → Prop} {Post : Pt → Array Value → Option Value → Pt → Prop} (hK : Back l R p e below s args y 3 W9 Pre Post)
    {g : JFrame} (hg : g.method = m) (hsize : g.locals.size = c.maxLocals) {argsL rest : List Value} (hlen : ∀ sig, parseMethodDescriptor y.desc = some sig → argsL.length = sig.parameters.length)
    (hstack : g.stack = argsL.reverse ++ rest) (hW : 2 * g.monitorRoom + (rest.map fun v => v.category).sum ≤ W9) (hdg : decode c.code g.pc = .ok (.invokestatic index, 3))
    (hpre : ∀ vm₁, s.WarmedH vm₁ → Pre ⟨T.setVm vm₁, locs, cells, slots⟩ argsL.toArray) :
    ∃ (v : Option Value) (vm₁ : Vm) (B : Pt), s.WarmedH vm₁ ∧ Stand p l e R s m args below meth c B.U B.locs B.cells B.slots ∧ Post ⟨T.setVm vm₁, locs, cells, slots⟩ argsL.toArray v B ∧
      ∀ target, Steps p.tables e below (B.U.setTop { g with pc := g.pc + 3, stack := v.toList ++ rest }) target → Steps p.tables e below (T.setTop g) target := by
  obtain ⟨mk, methM, cM, hnamed, hmethM, -, -, -, -, -, -, hsigM⟩ := Cond.codeWith_spec hcode
  have hstatic : methM.isStatic = true := Cond.static_spec hnamed hmethM hstat
  obtain ⟨kP, hkP, -⟩ := className_of_methodNamed hnamed
  have hinitP : kP.init = .initialized := Cond.initialized_spec (findClass_of_methodNamed hnamed) hkP hinit
  obtain ⟨vm₁, X₁, hstep₁⟩ := X.invokestatic hexec hown hlink hnamed hmethM hstatic hkP hinitP hy (g := g) hg (argsL := argsL) (rest := rest) (hlen _ hsigM) hstack hdg
  obtain ⟨v, B, X', hpost, hsteps⟩ := hK m meth c ⟨T.setVm vm₁, locs, cells, slots⟩ { g with stack := rest } (.invokestatic index) mk argsL.toArray X₁ hg hsize hdg hW (X₁.named hnamed) (hpre vm₁ X₁.warmed)
  exact ⟨v, vm₁, B, X₁.warmed, X', hpost, fun target h => hstep₁ _ fun acts => by rw [doInvoke_state]; exact hsteps.trans h⟩
theorem vx_runSW {y : MethodName} {bytes cc : ByteArray} {maxL nL mc ms n index : Nat} {ret : Option FieldType} {hh : List (Nat × Nat × Nat × Nat)} {ws : List Cond} {rm : Room} {Pc : Array Value → State → Prop} {Qc : Array Value → State → Outcome → State → Prop} {free : Addr → Prop} {Ts : List Cond} {own : String} {As rest : List Value} {g : JFrame}
    (S : CallFix p m c cc nL s args Ts own) (hM : Met l y ws rm Pc Qc mc ms free) (cw : vx_CSW R s args own index y bytes maxL ret hh ws rm mc ms n) (hp : PreS s H Pc As)
    (hg : g.method = m) (hn : As.length = n) (hsize : g.locals.size = nL) (hstack : g.stack = As.reverse ++ rest) (hW : 2 * g.monitorRoom + (rest.map fun v => v.category).sum ≤ 8) (hdg : decode cc g.pc = .ok (.invokestatic index, 3)) (hf : cells + mc ≤ R.cells ∧ slots + ms ≤ R.slots) :
    va_Run p l e R s m args below meth c H locs cells slots mc ms g rest (Qc As.toArray) (free) := by
  obtain ⟨⟨hrc, hrs, hfr, hlo, hws, hcw⟩, hcode, hini, hy, hlen, hl, hstt⟩ := cw
  have hK : Back l R p e below s args y 3 8 (PreOf R mc ms Pc) (PostOf Qc mc ms free) := va_backW (hh := hh) (bytes := bytes) (maxL := maxL) (ret := ret) hM hp.1 hrc hrs hfr hlo hws hcw (fun a' U hW => word_at hW (Or.inl (by first | rfl | simp [Cond.onTables, Cond.keeps, Cond.steady])) hini)
  obtain ⟨hx, hb, hml, ho, -⟩ := S
  intro T hT X
  obtain ⟨v, vm₁, ⟨U', l2, c2, s2⟩, hW₁, X', ⟨g', mk, t, L, e1, e2, hq, h1, hL, h2, h3⟩, st⟩ := vx_callSW X hx (hh := hh) (bytes := bytes) (maxL := maxL) (ret := ret) ho hl hstt hini hcode hy hK hg (hsize.trans hml.symm) (argsL := As) (rest := rest) (fun sig h => hn.trans (hlen sig h)) hstack hW (by rw [hb]; exact hdg)
    (fun vm₁ hW₁ => ⟨hf.1, hf.2, hp.2 (T.setVm vm₁) hT hW₁⟩)
  dsimp only [Pt.U, Pt.locs, Pt.cells, Pt.slots] at X' e1 e2 h1 h2 h3 st
  subst h1; subst h2; subst h3
  exact ⟨v, (T.setVm vm₁).calling g' mk As.toArray, t, U', L, hT, X', hL, e1, e2, hq, st⟩
/-- not caught here, past rows that name other classes: it goes on to the caller -/
theorem vx_outP {p : Program} {l : Launch} {e : Env} {R : Room} {s : State} {m : MethodId} {args : Array Value} {below : List Frame} {meth : Method} {c : Code} {H : Heap} {locs : List Loc} {cells slots : Nat} {free : Addr → Prop} {ls : Array Slot} {rest : List Value} {Qc : Array Value → State → Outcome → State → Prop} {XC : String → State → State → Prop}
    {pc : Nat} {own E : String} {ce : Cell} {q : Addr} {mc ms : Nat} (hown : s.vm.findClass own = some m.cls) (hlocks : meth.locks = false)
    (hpass : ∀ z ∈ c.exceptionTable.toList, covers z pc = false ∨ (z.catchType ≠ 0 ∧ ∃ nm : String, (Cond.classLink own z.catchType nm).before args s = true ∧ va_Nc E nm s)) (hcell : H[q]? = some ce) (hv : ce.vm = .none) (hcl : s.vm.findClass E = some ce.cls)
    (hx : ∀ t : State, t.heap = H → s.vm.Alike t.vm → XC E s t) (hf : ∀ z ∈ locs, free z.base) (hc : cells ≤ mc) (hs : slots ≤ ms) :
    vx_W p l e R s m args below meth c H locs cells slots (vx_MQ below Qc XC args s mc ms free) (F0 m pc ls rest) q := by
  intro T hT X
  have hpl : e.platform.magicAccessors = ({} : Platform).magicAccessors := by rw [X.admits.platform]
  obtain ⟨vm', hW', X', st⟩ := X.outThrough hlocks q (g := F0 m pc ls rest) rfl rfl rfl (cell := ce) (by rw [hT]; exact hcell) (by rw [hv]; rfl)
    (by obtain ⟨k9, h9, -⟩ := Vm.findClass_spec hcl; exact ⟨k9, h9⟩) (fun z hz => by
      rcases hpass z hz with h | ⟨hz0, nm, hl1, hn1⟩
      · exact Or.inl h
      · obtain ⟨c6, hc6, hcl6⟩ := Cond.classLink_spec hown hl1 e.platform hpl
        obtain ⟨a8, b8, h1, h2, h3⟩ := hn1
        cases Option.some.inj (h1.symm.trans hcl)
        cases Option.some.inj (h2.symm.trans hc6)
        exact Or.inr ⟨hz0, _, hcl6, h3⟩)
  obtain ⟨g₀, hfr⟩ := X'.frames_eq
  have hcell9 : ((T.setVm vm').setFrames (.throwing q :: below)).heap[q]? = some ce := by
    show T.heap[q]? = some ce
    rw [hT]; exact hcell
  have hend : Ended ((T.setVm vm').setFrames (.throwing q :: below)) below (.threw q) := State.frames_setFrames _ (State.cur_lt_of_frames hfr)
  refine ⟨(T.setVm vm').setFrames (.throwing q :: below), ?_, .threw q, X'.here.running, hend, Or.inr ⟨q, rfl, E, ce, locs, hx _ hT (X'.ends _).1.alike, hcell9, hv, hcl, (X'.ends _).1, (X'.ends _).2.mono hc hs, hf⟩⟩
  rw [X.pushThrowing_eq]
  exact st
/-- a thing of a world lies in the heap -/
theorem vx_lt {D : va_G} {cl : List vw_C} {ws : va_W} {H1 : Heap} (h : va_P D cl ws H1) {k : Nat} {q : Nat × va_E} (hk : ws[k]? = some q) : q.1 < H1.size := (h k q hk).lt
end VXS
/-! ===== END ===== -/
/-! ===== BEGIN methods with a table of their own: called by a name, returning or throwing ===== -/
section VXH
/-! vx_backW, vx_callVX, vx_callSX, vx_callVW, vx_runVW, vx_runVX, vx_runSX, vx_ofWH follow the same proofs as their sisters above (Free/Laws.lean, Shelf42/LK1.lean); vx_outP calls Shelf42/NT130.lean (outThrough). -/
section
variable {l : Launch} {R : Room} {p : Program} {e : Env} {below : List Frame} {s : State} {sargs : Array Value} {y : MethodName} {len W9 : Nat}
theorem vx_backW {ws : List Cond} {rm : Room} {Pc : Array Value → State → Prop} {Qc : Array Value → State → Outcome → State → Prop} {XC : String → State → State → Prop} {mc ms : Nat} {free : Addr → Prop} {bytes : ByteArray} {maxL : Nat} {ret : Option FieldType} {hh : List (Nat × Nat × Nat × Nat)}
    (hM : vx_Met l y ws rm Pc Qc XC mc ms free) (hblind : FrameBlind Pc) (hrc : rm.cells = mc) (hrs : rm.slots = ms)
    (hframes : rm.frames + 1 ≤ R.frames) (hlocals : W9 + (maxL + 11) + rm.locals ≤ R.locals)
    (hws : ∀ w ∈ ws, ∀ a' U, s.WarmedH U.vm → w.before a' U = true) (hcode : Cond.codeWith y bytes maxL ret hh ∈ ws) (hinit : ∀ a' U, s.WarmedH U.vm → (Cond.initialized y.cls).before a' U = true) :
    vx_Back l R p e below s sargs y len W9 (PreOf R mc ms Pc) (PostOf Qc mc ms free) (vx_Post XC mc ms free) := by
  intro m meth c A g ig mk a X hg hsize hdg hW hn hp
  have h1 : (headSpec ws rm).pre.before a A.U = true := atoms_intro fun w hw => hws w hw _ _ X.warmed
  have h2 : (Cond.codeWith y bytes maxL ret hh).before a A.U = true := hws _ hcode _ _ X.warmed
  have h3 : (Cond.initialized y.cls).before a A.U = true := hinit _ _ X.warmed
  have h4 : A.cells + (headSpec ws rm).room.cells ≤ R.cells := by rw [show (headSpec ws rm).room.cells = mc from hrc]; exact hp.1
  have h5 : A.slots + (headSpec ws rm).room.slots ≤ R.slots := by rw [show (headSpec ws rm).room.slots = ms from hrs]; exact hp.2.1
  have hPc : Pc a (A.U.calling g mk a) := hblind _ _ _ _ hp.2.2
  obtain ⟨U, Ls, c0, s0⟩ := A
  dsimp only [Pt.U, Pt.locs, Pt.cells, Pt.slots] at h1 h2 h3 h4 h5 X hn hPc ⊢
  obtain ⟨m9, methY, cY, hn9, hmY, hcY, -, hlY, -⟩ := Cond.codeWith_spec h2
  cases Option.some.inj (hn9.symm.trans hn)
  obtain ⟨kY, hkY, -⟩ := className_of_methodNamed hn
  have hinitY : kY.init = .initialized := Cond.initialized_spec (findClass_of_methodNamed hn) hkY h3
  have h : At U g.method c below := by rw [hg]; exact X.here
  have hlocals9 : W9 + (maxL + 11) + (headSpec ws rm).room.locals ≤ R.locals := hlocals
  have happ : (headSpec ws rm).appliesLoose y e.platform (U.calling g mk a) = true :=
    Spec.appliesLoose_calling (g := g) h hdg hn hkY hinitY
      (X.room_calling (g := g) (R' := (headSpec ws rm).room) hsize hmY hcY hframes (by rw [hlY]; omega) h4 h5) h1
  obtain ⟨mid, hmid⟩ := h.above
  have hfr : (U.setTop g).frames = (.java g :: mid) ++ below := by rw [State.frames_setTop' g h.top, hmid]; rfl
  obtain ⟨o, s₂, hsteps, -, hend, hq⟩ := Steps.callFree hM p X.admits X.cas X.clock (acts := []) hfr happ hPc trivial
  have hq' : vx_Q Qc XC mc ms free a (U.calling g mk a) o s₂ := hq
  rw [State.frames_setTop' g h.top] at hend
  obtain ⟨g₀, hg0⟩ := Option.isSome_iff_exists.mp h.top
  obtain ⟨r, hr⟩ := State.topJava?_eq_some.mp hg0
  have hr' : (({ U with heap := s₂.heap, slotsUsed := s₂.slotsUsed } : State).setVm s₂.vm).frames = .java g₀ :: r := hr
  rcases hq' with ⟨hqc, L, hfe, hL⟩ | ⟨q, rfl, E, ce, L, hx, hce, hcv, hcl, hW₂, hsm, hL⟩
  · obtain ⟨⟨v, rfl⟩, hW₂, e2, q2, q3, q4, q5, q6⟩ := id hfe
    have e3 : s₂ = ({ (U.calling g mk a).setFrames s₂.frames with heap := s₂.heap, slotsUsed := s₂.slotsUsed } : State).setVm s₂.vm := by
      have : s₂ = ({ s₂ with vm := (U.calling g mk a).vm } : State).setVm s₂.vm := rfl
      rw [e2] at this
      exact this
    obtain ⟨c₂, i₂, len₂, hc₂, hd₂, hf₂⟩ := hend
    have hW' : U.WarmedH s₂.vm := hW₂
    have hcc : c₂ = c := by
      have h1 : s₂.code? g.method = U.code? g.method := by
        rw [State.code?_eq, State.code?_eq, hW'.alike.method?]
      exact Option.some.inj (hc₂.symm.trans (h1.trans h.code))
    subst hcc
    have hlen : len₂ = len := by rw [hdg] at hd₂; cases hd₂; rfl
    subst hlen
    have hs₂ : s₂ = (({ U with heap := s₂.heap, slotsUsed := s₂.slotsUsed } : State).setVm s₂.vm).setTop { g with pc := g.pc + len₂, stack := v.toList ++ g.stack } := by
      refine e3.trans ?_
      rw [hf₂, State.calling_eq h.top, State.setFrames_setFrames, State.setTop_of_frames _ hr', hr]
      rfl
    have hsame : U.sameButNew ({ U with heap := s₂.heap, slotsUsed := s₂.slotsUsed } : State) L mc ms := by
      refine ⟨?_, q2, q3, q4, q5, q6⟩
      obtain ⟨t, ht, -⟩ := State.frames_cons hr
      show ({ U with heap := s₂.heap, slotsUsed := s₂.slotsUsed } : State) = { U.setFrames U.frames with heap := s₂.heap, slotsUsed := s₂.slotsUsed }
      rw [State.setFrames_self ht]
    subst hg
    refine Or.inl ⟨v, ⟨(({ U with heap := s₂.heap, slotsUsed := s₂.slotsUsed } : State).setVm s₂.vm), Ls ++ L, c0 + mc, s0 + ms⟩,
      ⟨X.admits, X.cas, X.clock, X.frames, X.room, X.hears, X.method, X.code, (X.here.setHeapUsed s₂.heap s₂.slotsUsed).setVm hW'.alike, X.tail, State.WarmedH.trans X.warmed hW', X.limits, X.bytes, X.same.trans (hsame.setVm s.vm)⟩,
      ⟨g, mk, s₂, L, rfl, rfl, hqc, rfl, hL, rfl, rfl⟩, ?_⟩
    show Steps p.tables e below _ ((({ U with heap := s₂.heap, slotsUsed := s₂.slotsUsed } : State).setVm s₂.vm).setTop { g with pc := g.pc + len₂, stack := v.toList ++ g.stack })
    rw [← hs₂]
    exact hsteps
  · obtain ⟨e2, q2, q3, q4, q5, q6⟩ := id hsm
    have e3 : s₂ = ({ (U.calling g mk a).setFrames s₂.frames with heap := s₂.heap, slotsUsed := s₂.slotsUsed } : State).setVm s₂.vm := by
      have : s₂ = ({ s₂ with vm := (U.calling g mk a).vm } : State).setVm s₂.vm := rfl
      rw [e2] at this
      exact this
    have hf₂ : s₂.frames = .throwing q :: .java g :: U.frames.tail := hend
    have hW' : U.WarmedH s₂.vm := hW₂
    have hs₂ : s₂ = ((({ U with heap := s₂.heap, slotsUsed := s₂.slotsUsed } : State).setVm s₂.vm).setTop g).pushFrame (.throwing q) := by
      refine e3.trans ?_
      rw [hf₂, State.calling_eq h.top, State.setFrames_setFrames, State.pushFrame, State.frames_setTop _ hr', State.setTop_of_frames _ hr', State.setFrames_setFrames, hr]
      rfl
    have hsame : U.sameButNew ({ U with heap := s₂.heap, slotsUsed := s₂.slotsUsed } : State) L mc ms := by
      refine ⟨?_, q2, q3, q4, q5, q6⟩
      obtain ⟨t, ht, -⟩ := State.frames_cons hr
      show ({ U with heap := s₂.heap, slotsUsed := s₂.slotsUsed } : State) = { U.setFrames U.frames with heap := s₂.heap, slotsUsed := s₂.slotsUsed }
      rw [State.setFrames_self ht]
    subst hg
    refine Or.inr ⟨q, ⟨(({ U with heap := s₂.heap, slotsUsed := s₂.slotsUsed } : State).setVm s₂.vm), Ls ++ L, c0 + mc, s0 + ms⟩,
      ⟨X.admits, X.cas, X.clock, X.frames, X.room, X.hears, X.method, X.code, (X.here.setHeapUsed s₂.heap s₂.slotsUsed).setVm hW'.alike, X.tail, State.WarmedH.trans X.warmed hW', X.limits, X.bytes, X.same.trans (hsame.setVm s.vm)⟩,
      ⟨g, mk, s₂, L, E, ce, rfl, rfl, hx, hce, hcv, hcl, rfl, hL, rfl, rfl⟩, ?_⟩
    show Steps p.tables e below _ (((({ U with heap := s₂.heap, slotsUsed := s₂.slotsUsed } : State).setVm s₂.vm).setTop g).pushFrame (.throwing q))
    rw [← hs₂]
    exact hsteps
end
variable {p : Program} {l : Launch} {e : Env} {R : Room} {s : State} {m : MethodId} {args : Array Value} {below : List Frame} {meth : Method} {c : Code} {T : State} {H : Heap} {locs : List Loc} {cells slots : Nat}
theorem vx_callVX (X : Stand p l e R s m args below meth c T locs cells slots) (hexec : p.tables.exec = Jvm.exec) {own C : String} {index : Nat} {y : MethodName} {bytes : ByteArray} {maxL : Nat} {ret : Option FieldType} {hh : List (Nat × Nat × Nat × Nat)}
    (hown : s.vm.findClass own = some m.cls) (hlink : (Cond.methodLink own index y).before args s = true) (hinst : (Cond.instanceMethod y).before args s = true) (hsel : (Cond.selects C y y).before args s = true)
    (hcode : (Cond.codeWith y bytes maxL ret hh).before args s = true) (hy : y.cls ≠ "java/lang/invoke/MethodHandle" ∧ y.cls ≠ "java/lang/invoke/VarHandle")
    {W9 : Nat} {Pre : Pt → Array Value → Prop} {Post : Pt → Array Value → Option Value → Pt → Prop} {PostX : Pt → Array Value → Addr → Pt → Prop} (hK : vx_Back l R p e below s args y 3 W9 Pre Post PostX)
    {b : Addr} {cellB : Cell} (hcell : T.heap[b]? = some cellB) (hobj : cellB.vm.isStatics = false) (hcls : s.vm.findClass C = some cellB.cls)
    {g : JFrame} (hg : g.method = m) (hsize : g.locals.size = c.maxLocals) {argsL rest : List Value} (hlen : ∀ sig, parseMethodDescriptor y.desc = some sig → argsL.length = sig.parameters.length)
    (hstack : g.stack = argsL.reverse ++ .ref b :: rest) (hW : 2 * g.monitorRoom + (rest.map fun v => v.category).sum ≤ W9) (hdg : decode c.code g.pc = .ok (.invokevirtual index, 3))
    (hpre : ∀ vm₁, s.WarmedH vm₁ → Pre ⟨T.setVm vm₁, locs, cells, slots⟩ (Value.ref b :: argsL).toArray) :
    (∃ (v : Option Value) (vm₁ : Vm) (B : Pt), s.WarmedH vm₁ ∧ Stand p l e R s m args below meth c B.U B.locs B.cells B.slots ∧ Post ⟨T.setVm vm₁, locs, cells, slots⟩ (Value.ref b :: argsL).toArray v B ∧
      ∀ target, Steps p.tables e below (B.U.setTop { g with pc := g.pc + 3, stack := v.toList ++ rest }) target → Steps p.tables e below (T.setTop g) target) ∨
    (∃ (q : Addr) (vm₁ : Vm) (B : Pt), s.WarmedH vm₁ ∧ Stand p l e R s m args below meth c B.U B.locs B.cells B.slots ∧ PostX ⟨T.setVm vm₁, locs, cells, slots⟩ (Value.ref b :: argsL).toArray q B ∧
      Steps p.tables e below (T.setTop g) ((B.U.setTop { g with stack := rest }).pushFrame (.throwing q))) := by
  obtain ⟨mk, methM, hnamed, hmethM, hstM, habM⟩ := Cond.instanceMethod_spec hinst
  obtain ⟨m8, methM', cM, hn8, hmethM', -, -, -, -, -, -, hsigM⟩ := Cond.codeWith_spec hcode
  cases Option.some.inj (hn8.symm.trans hnamed)
  cases hmethM.symm.trans hmethM'
  obtain ⟨c2, r2, m2, q1, q2, q3, q4, kP, hkP, hkPi⟩ := Cond.selects_spec hsel
  cases hcls.symm.trans q1
  cases (State.methodFound?_of_named hnamed hy).symm.trans q2
  cases hnamed.symm.trans q3
  have hselP : selectMethod e.platform s.vm cellB.cls mk = .method mk := by rw [Launch.admits_selectMethod X.admits]; exact q4
  obtain ⟨vm₁, X₁, hstep₁⟩ := X.invokevirtual hexec hown hlink hnamed hmethM hstM hkP hkPi hy (a := b) (cell := cellB) hcell
    (fun z h => by rw [h] at hobj; cases hobj) hselP hmethM habM hkP hkPi (g := g) hg (argsL := argsL) (rest := rest) (hlen _ hsigM) hstack hdg
  rcases hK m meth c ⟨T.setVm vm₁, locs, cells, slots⟩ { g with stack := rest } (.invokevirtual index) mk (Value.ref b :: argsL).toArray X₁ hg hsize hdg hW (X₁.named hnamed) (hpre vm₁ X₁.warmed) with ⟨v, B, X', hpost, hsteps⟩ | ⟨q, B, X', hpost, hsteps⟩
  · exact Or.inl ⟨v, vm₁, B, X₁.warmed, X', hpost, fun target h => hstep₁ _ fun acts => by rw [doInvoke_state]; exact hsteps.trans h⟩
  · exact Or.inr ⟨q, vm₁, B, X₁.warmed, X', hpost, hstep₁ _ fun acts => by rw [doInvoke_state]; exact hsteps⟩
theorem vx_callSX (X : Stand p l e R s m args below meth c T locs cells slots) (hexec : p.tables.exec = Jvm.exec) {own : String} {index : Nat} {y : MethodName} {bytes : ByteArray} {maxL : Nat} {ret : Option FieldType} {hh : List (Nat × Nat × Nat × Nat)}
    (hown : s.vm.findClass own = some m.cls) (hlink : (Cond.methodLink own index y).before args s = true) (hstat : (Cond.static y).before args s = true) (hinit : (Cond.initialized y.cls).before args s = true)
    (hcode : (Cond.codeWith y bytes maxL ret hh).before args s = true) (hy : y.cls ≠ "java/lang/invoke/MethodHandle" ∧ y.cls ≠ "java/lang/invoke/VarHandle")
    {W9 : Nat} {Pre : Pt → Array Value → Prop} {Post : Pt → Array Value → Option Value → Pt → Prop} {PostX : Pt → Array Value → Addr → Pt → Prop} (hK : vx_Back l R p e below s args y 3 W9 Pre Post PostX)
    {g : JFrame} (hg : g.method = m) (hsize : g.locals.size = c.maxLocals) {argsL rest : List Value} (hlen : ∀ sig, parseMethodDescriptor y.desc = some sig → argsL.length = sig.parameters.length)
    (hstack : g.stack = argsL.reverse ++ rest) (hW : 2 * g.monitorRoom + (rest.map fun v => v.category).sum ≤ W9) (hdg : decode c.code g.pc = .ok (.invokestatic index, 3))
    (hpre : ∀ vm₁, s.WarmedH vm₁ → Pre ⟨T.setVm vm₁, locs, cells, slots⟩ argsL.toArray) :
    (∃ (v : Option Value) (vm₁ : Vm) (B : Pt), s.WarmedH vm₁ ∧ Stand p l e R s m args below meth c B.U B.locs B.cells B.slots ∧ Post ⟨T.setVm vm₁, locs, cells, slots⟩ argsL.toArray v B ∧
      ∀ target, Steps p.tables e below (B.U.setTop { g with pc := g.pc + 3, stack := v.toList ++ rest }) target → Steps p.tables e below (T.setTop g) target) ∨
    (∃ (q : Addr) (vm₁ : Vm) (B : Pt), s.WarmedH vm₁ ∧ Stand p l e R s m args below meth c B.U B.locs B.cells B.slots ∧ PostX ⟨T.setVm vm₁, locs, cells, slots⟩ argsL.toArray q B ∧
      Steps p.tables e below (T.setTop g) ((B.U.setTop { g with stack := rest }).pushFrame (.throwing q))) := by
  obtain ⟨mk, methM, cM, hnamed, hmethM, -, -, -, -, -, -, hsigM⟩ := Cond.codeWith_spec hcode
  have hstatic : methM.isStatic = true := Cond.static_spec hnamed hmethM hstat
  obtain ⟨kP, hkP, -⟩ := className_of_methodNamed hnamed
  have hinitP : kP.init = .initialized := Cond.initialized_spec (findClass_of_methodNamed hnamed) hkP hinit
  obtain ⟨vm₁, X₁, hstep₁⟩ := X.invokestatic hexec hown hlink hnamed hmethM hstatic hkP hinitP hy (g := g) hg (argsL := argsL) (rest := rest) (hlen _ hsigM) hstack hdg
  rcases hK m meth c ⟨T.setVm vm₁, locs, cells, slots⟩ { g with stack := rest } (.invokestatic index) mk argsL.toArray X₁ hg hsize hdg hW (X₁.named hnamed) (hpre vm₁ X₁.warmed) with ⟨v, B, X', hpost, hsteps⟩ | ⟨q, B, X', hpost, hsteps⟩
  · exact Or.inl ⟨v, vm₁, B, X₁.warmed, X', hpost, fun target h => hstep₁ _ fun acts => by rw [doInvoke_state]; exact hsteps.trans h⟩
  · exact Or.inr ⟨q, vm₁, B, X₁.warmed, X', hpost, hstep₁ _ fun acts => by rw [doInvoke_state]; exact hsteps⟩
theorem vx_callVW (X : Stand p l e R s m args below meth c T locs cells slots) (hexec : p.tables.exec = Jvm.exec) {own C : String} {index : Nat} {y : MethodName} {bytes : ByteArray} {maxL : Nat} {ret : Option FieldType} {hh : List (Nat × Nat × Nat × Nat)}
    (hown : s.vm.findClass own = some m.cls) (hlink : (Cond.methodLink own index y).before args s = true) (hinst : (Cond.instanceMethod y).before args s = true) (hsel : (Cond.selects C y y).before args s = true)
    (hcode : (Cond.codeWith y bytes maxL ret hh).before args s = true) (hy : y.cls ≠ "java/lang/invoke/MethodHandle" ∧ y.cls ≠ "java/lang/invoke/VarHandle")
    {W9 : Nat} {Pre : Pt → Array Value → Prop} {Post : Pt → Array Value → Option Value → Pt → Prop} (hK : Back l R p e below s args y 3 W9 Pre Post)
    {b : Addr} {cellB : Cell} (hcell : T.heap[b]? = some cellB) (hobj : cellB.vm.isStatics = false) (hcls : s.vm.findClass C = some cellB.cls)
    {g : JFrame} (hg : g.method = m) (hsize : g.locals.size = c.maxLocals) {argsL rest : List Value} (hlen : ∀ sig, parseMethodDescriptor y.desc = some sig → argsL.length = sig.parameters.length)
    (hstack : g.stack = argsL.reverse ++ .ref b :: rest) (hW : 2 * g.monitorRoom + (rest.map fun v => v.category).sum ≤ W9) (hdg : decode c.code g.pc = .ok (.invokevirtual index, 3))
    (hpre : ∀ vm₁, s.WarmedH vm₁ → Pre ⟨T.setVm vm₁, locs, cells, slots⟩ (Value.ref b :: argsL).toArray) :
    ∃ (v : Option Value) (vm₁ : Vm) (B : Pt), s.WarmedH vm₁ ∧ Stand p l e R s m args below meth c B.U B.locs B.cells B.slots ∧ Post ⟨T.setVm vm₁, locs, cells, slots⟩ (Value.ref b :: argsL).toArray v B ∧
      ∀ target, Steps p.tables e below (B.U.setTop { g with pc := g.pc + 3, stack := v.toList ++ rest }) target → Steps p.tables e below (T.setTop g) target := by
  obtain ⟨mk, methM, hnamed, hmethM, hstM, habM⟩ := Cond.instanceMethod_spec hinst
  obtain ⟨m8, methM', cM, hn8, hmethM', -, -, -, -, -, -, hsigM⟩ := Cond.codeWith_spec hcode
  cases Option.some.inj (hn8.symm.trans hnamed)
  cases hmethM.symm.trans hmethM'
  obtain ⟨c2, r2, m2, q1, q2, q3, q4, kP, hkP, hkPi⟩ := Cond.selects_spec hsel
  cases hcls.symm.trans q1
  cases (State.methodFound?_of_named hnamed hy).symm.trans q2
  cases hnamed.symm.trans q3
  have hselP : selectMethod e.platform s.vm cellB.cls mk = .method mk := by rw [Launch.admits_selectMethod X.admits]; exact q4
  obtain ⟨vm₁, X₁, hstep₁⟩ := X.invokevirtual hexec hown hlink hnamed hmethM hstM hkP hkPi hy (a := b) (cell := cellB) hcell
    (fun z h => by rw [h] at hobj; cases hobj) hselP hmethM habM hkP hkPi (g := g) hg (argsL := argsL) (rest := rest) (hlen _ hsigM) hstack hdg
  obtain ⟨v, B, X', hpost, hsteps⟩ := hK m meth c ⟨T.setVm vm₁, locs, cells, slots⟩ { g with stack := rest } (.invokevirtual index) mk (Value.ref b :: argsL).toArray X₁ hg hsize hdg hW (X₁.named hnamed) (hpre vm₁ X₁.warmed)
  exact ⟨v, vm₁, B, X₁.warmed, X', hpost, fun target h => hstep₁ _ fun acts => by rw [doInvoke_state]; exact hsteps.trans h⟩
abbrev vx_CVW (R : Room) (s : State) (args : Array Value) (own C : String) (index : Nat) (y : MethodName) (bytes : ByteArray) (maxL : Nat) (ret : Option FieldType) (hh : List (Nat × Nat × Nat × Nat)) (ws : List Cond) (rm : Room) (mc ms n : Nat) : Prop :=
  (rm.cells = mc ∧ rm.slots = ms ∧ rm.frames + 1 ≤ R.frames ∧ 8 + (maxL + 11) + rm.locals ≤ R.locals ∧ (∀ w ∈ ws, ∀ (a' : Array Value) (U : State), s.WarmedH U.vm → w.before a' U = true) ∧ Cond.codeWith y bytes maxL ret hh ∈ ws) ∧
  (Cond.codeWith y bytes maxL ret hh).before args s = true ∧ (Cond.initialized y.cls).before args s = true ∧ (y.cls ≠ "java/lang/invoke/MethodHandle" ∧ y.cls ≠ "java/lang/invoke/VarHandle") ∧
  (∀ sig, parseMethodDescriptor y.desc = some sig → n = sig.parameters.length) ∧ (Cond.methodLink own index y).before args s = true ∧ (Cond.instanceMethod y).before args s = true ∧ (Cond.selects C y y).before args s = true
theorem vx_cwVW {own C : String} {index maxL mc ms : Nat} {y : MethodName} {bytes : ByteArray} {ret : Option FieldType} {hh : List (Nat × Nat × Nat × Nat)} {Ts ws ws' : List Cond} {rm : Room} (n : Nat) (ht : ∀ w ∈ Ts, w.before args s = true) (hT : GoodIn Ts (wsV own index C y ws)) (hw : ws = Cond.codeWith y bytes maxL ret hh :: ws') (hrc : rm.cells = mc) (hrs : rm.slots = ms)
    (hd : y.cls = C ∧ y.cls ≠ "java/lang/invoke/MethodHandle" ∧ y.cls ≠ "java/lang/invoke/VarHandle" ∧ (parseMethodDescriptor y.desc).map (fun d => d.parameters.length) = some n) (hR : rm.frames + 1 ≤ R.frames ∧ 8 + (maxL + 11) + rm.locals ≤ R.locals) :
    vx_CVW R s args own C index y bytes maxL ret hh ws rm mc ms n := by
  obtain ⟨hC, hd⟩ := hd
  subst hC
  have ok : ∀ w ∈ wsV own index y.cls y ws, w.before args s = true := fun w h => ht w (hT w h).1
  have hG : GoodIn Ts ws := fun w h => hT w (by unfold wsV; exact List.mem_append_right _ h)
  have hc : Cond.codeWith y bytes maxL ret hh ∈ ws := by rw [hw]; exact List.mem_cons_self
  refine ⟨⟨hrc, hrs, hR.1, hR.2, pay_in ht hG, hc⟩, ht _ (hG _ hc).1, ok _ (by simp [wsV]), ⟨hd.1, hd.2.1⟩, fun sig h => ?_, ok _ (by simp [wsV]), ok _ (by simp [wsV]), ok _ (by simp [wsV])⟩
  have h2 := hd.2.2
  rw [h] at h2
  exact (Option.some.inj h2).symm
theorem vx_runVW {y : MethodName} {bytes cc : ByteArray} {maxL nL mc ms n index : Nat} {ret : Option FieldType} {hh : List (Nat × Nat × Nat × Nat)} {ws : List Cond} {rm : Room} {Pc : Array Value → State → Prop} {Qc : Array Value → State → Outcome → State → Prop} {free : Addr → Prop} {Ts : List Cond} {own C : String} {b : Addr} {As rest : List Value} {g : JFrame}
    (S : CallFix p m c cc nL s args Ts own) (hM : Met l y ws rm Pc Qc mc ms free) (cw : vx_CVW R s args own C index y bytes maxL ret hh ws rm mc ms n) (hp : PreV s H C b Pc As)
    (hg : g.method = m) (hn : As.length = n) (hsize : g.locals.size = nL) (hstack : g.stack = As.reverse ++ .ref b :: rest) (hW : 2 * g.monitorRoom + (rest.map fun v => v.category).sum ≤ 8) (hdg : decode cc g.pc = .ok (.invokevirtual index, 3)) (hf : cells + mc ≤ R.cells ∧ slots + ms ≤ R.slots) :
    va_Run p l e R s m args below meth c H locs cells slots mc ms g rest (Qc (Value.ref b :: As).toArray) free := by
  obtain ⟨⟨hrc, hrs, hfr, hlo, hws, hcw⟩, hcode, hini, hy, hlen, hl, hin, hse⟩ := cw
  have hK : Back l R p e below s args y 3 8 (PreOf R mc ms Pc) (PostOf Qc mc ms free) := va_backW (hh := hh) (bytes := bytes) (maxL := maxL) (ret := ret) hM hp.1 hrc hrs hfr hlo hws hcw (fun a' U hW => word_at hW (Or.inl (by first | rfl | simp [Cond.onTables, Cond.keeps, Cond.steady])) hini)
  obtain ⟨hx, hb, hml, ho, -⟩ := S
  obtain ⟨-, ⟨cellB, hcB, hoB, hclB⟩, hPc⟩ := hp
  intro T hT X
  obtain ⟨v, vm₁, ⟨U', l2, c2, s2⟩, hW₁, X', ⟨g', mk, t, L, e1, e2, hq, h1, hL, h2, h3⟩, st⟩ := vx_callVW X hx (C := C) (hh := hh) (bytes := bytes) (maxL := maxL) (ret := ret) ho hl hin hse hcode hy hK (by rw [hT]; exact hcB) hoB hclB hg (hsize.trans hml.symm) (argsL := As) (rest := rest) (fun sig h => hn.trans (hlen sig h)) hstack hW (by rw [hb]; exact hdg)
    (fun vm₁ hW₁ => ⟨hf.1, hf.2, hPc (T.setVm vm₁) hT hW₁⟩)
  dsimp only [Pt.U, Pt.locs, Pt.cells, Pt.slots] at X' e1 e2 h1 h2 h3 st
  subst h1; subst h2; subst h3
  exact ⟨v, (T.setVm vm₁).calling g' mk (Value.ref b :: As).toArray, t, U', L, hT, X', hL, e1, e2, hq, st⟩
section
variable {y : MethodName} {bytes cc : ByteArray} {maxL nL mc ms n index : Nat} {ret : Option FieldType} {ws : List Cond} {rm : Room} {Pc : Array Value → State → Prop} {Qc : Array Value → State → Outcome → State → Prop} {XC : String → State → State → Prop} {free : Addr → Prop} {Ts : List Cond} {own C : String} {b : Addr} {As rest : List Value} {g : JFrame}
theorem vx_runVX {hh : List (Nat × Nat × Nat × Nat)} (S : CallFix p m c cc nL s args Ts own) (hM : vx_Met l y ws rm Pc Qc XC mc ms free) (cw : vx_CVW R s args own C index y bytes maxL ret hh ws rm mc ms n) (hp : PreV s H C b Pc As)
    (hg : g.method = m) (hn : As.length = n) (hsize : g.locals.size = nL) (hstack : g.stack = As.reverse ++ .ref b :: rest) (hW : 2 * g.monitorRoom + (rest.map fun v => v.category).sum ≤ 8) (hdg : decode cc g.pc = .ok (.invokevirtual index, 3)) (hf : cells + mc ≤ R.cells ∧ slots + ms ≤ R.slots) :
    vx_Run p l e R s m args below meth c H locs cells slots mc ms g rest (Qc (Value.ref b :: As).toArray) XC free := by
  obtain ⟨⟨hrc, hrs, hfr, hlo, hws, hcw⟩, hcode, hini, hy, hlen, hl, hin, hse⟩ := cw
  have hK : vx_Back l R p e below s args y 3 8 (PreOf R mc ms Pc) (PostOf Qc mc ms free) (vx_Post XC mc ms free) := vx_backW (hh := hh) (bytes := bytes) (maxL := maxL) (ret := ret) hM hp.1 hrc hrs hfr hlo hws hcw (fun a' U hW => word_at hW (Or.inl (by first | rfl | simp [Cond.onTables, Cond.keeps, Cond.steady])) hini)
  obtain ⟨hx, hb, hml, ho, -⟩ := S
  obtain ⟨-, ⟨cellB, hcB, hoB, hclB⟩, hPc⟩ := hp
  intro T hT X
  rcases vx_callVX X hx (C := C) (hh := hh) (bytes := bytes) (maxL := maxL) (ret := ret) ho hl hin hse hcode hy hK (by rw [hT]; exact hcB) hoB hclB hg (hsize.trans hml.symm) (argsL := As) (rest := rest) (fun sig h => hn.trans (hlen sig h)) hstack hW (by rw [hb]; exact hdg)
    (fun vm₁ hW₁ => ⟨hf.1, hf.2, hPc (T.setVm vm₁) hT hW₁⟩) with ⟨v, vm₁, ⟨U', l2, c2, s2⟩, hW₁, X', ⟨g', mk, t, L, e1, e2, hq, h1, hL, h2, h3⟩, st⟩ | ⟨q, vm₁, ⟨U', l2, c2, s2⟩, hW₁, X', ⟨g', mk, t, L, E, ce, e1, e2, hq, hce, hcv, hcl, h1, hL, h2, h3⟩, st⟩
  · dsimp only [Pt.U, Pt.locs, Pt.cells, Pt.slots] at X' e1 e2 h1 h2 h3 st
    subst h1; subst h2; subst h3
    exact Or.inl ⟨v, (T.setVm vm₁).calling g' mk (Value.ref b :: As).toArray, t, U', L, hT, X', hL, e1, e2, hq, st⟩
  · dsimp only [Pt.U, Pt.locs, Pt.cells, Pt.slots] at X' e1 e2 h1 h2 h3 st hcl
    subst h1; subst h2; subst h3
    exact Or.inr ⟨q, (T.setVm vm₁).calling g' mk (Value.ref b :: As).toArray, t, U', L, E, ce, hT, X', hL, e1, e2, hq, hce, hcv, vx_cls hW₁ hcl, st⟩
theorem vx_runSX {hh : List (Nat × Nat × Nat × Nat)} (S : CallFix p m c cc nL s args Ts own) (hM : vx_Met l y ws rm Pc Qc XC mc ms free) (cw : vx_CSW R s args own index y bytes maxL ret hh ws rm mc ms n) (hp : PreS s H Pc As)
    (hg : g.method = m) (hn : As.length = n) (hsize : g.locals.size = nL) (hstack : g.stack = As.reverse ++ rest) (hW : 2 * g.monitorRoom + (rest.map fun v => v.category).sum ≤ 8) (hdg : decode cc g.pc = .ok (.invokestatic index, 3)) (hf : cells + mc ≤ R.cells ∧ slots + ms ≤ R.slots) :
    vx_Run p l e R s m args below meth c H locs cells slots mc ms g rest (Qc As.toArray) XC free := by
  obtain ⟨⟨hrc, hrs, hfr, hlo, hws, hcw⟩, hcode, hini, hy, hlen, hl, hstt⟩ := cw
  have hK : vx_Back l R p e below s args y 3 8 (PreOf R mc ms Pc) (PostOf Qc mc ms free) (vx_Post XC mc ms free) := vx_backW (hh := hh) (bytes := bytes) (maxL := maxL) (ret := ret) hM hp.1 hrc hrs hfr hlo hws hcw (fun a' U hW => word_at hW (Or.inl (by first | rfl | simp [Cond.onTables, Cond.keeps, Cond.steady])) hini)
  obtain ⟨hx, hb, hml, ho, -⟩ := S
  intro T hT X
  rcases vx_callSX X hx (hh := hh) (bytes := bytes) (maxL := maxL) (ret := ret) ho hl hstt hini hcode hy hK hg (hsize.trans hml.symm) (argsL := As) (rest := rest) (fun sig h => hn.trans (hlen sig h)) hstack hW (by rw [hb]; exact hdg)
    (fun vm₁ hW₁ => ⟨hf.1, hf.2, hp.2 (T.setVm vm₁) hT hW₁⟩) with ⟨v, vm₁, ⟨U', l2, c2, s2⟩, hW₁, X', ⟨g', mk, t, L, e1, e2, hq, h1, hL, h2, h3⟩, st⟩ | ⟨q, vm₁, ⟨U', l2, c2, s2⟩, hW₁, X', ⟨g', mk, t, L, E, ce, e1, e2, hq, hce, hcv, hcl, h1, hL, h2, h3⟩, st⟩
  · dsimp only [Pt.U, Pt.locs, Pt.cells, Pt.slots] at X' e1 e2 h1 h2 h3 st
    subst h1; subst h2; subst h3
    exact Or.inl ⟨v, (T.setVm vm₁).calling g' mk As.toArray, t, U', L, hT, X', hL, e1, e2, hq, st⟩
  · dsimp only [Pt.U, Pt.locs, Pt.cells, Pt.slots] at X' e1 e2 h1 h2 h3 st hcl
    subst h1; subst h2; subst h3
    exact Or.inr ⟨q, (T.setVm vm₁).calling g' mk As.toArray, t, U', L, E, ce, hT, X', hL, e1, e2, hq, hce, hcv, vx_cls hW₁ hcl, st⟩
end
end VXH
theorem vx_ofWH {l : Launch} {y : MethodName} {ws ws' : List Cond} {rm : Room} {Pc : Array Value → State → Prop} {Qc : Array Value → State → Outcome → State → Prop} {XC : String → State → State → Prop} {mc ms : Nat} {free : Addr → Prop} {cc : ByteArray} {maxL : Nat} {ret : Option FieldType} {hh : List (Nat × Nat × Nat × Nat)}
    (hy : plainName y.cls = true) (hw : ws = Cond.codeWith y cc maxL ret hh :: ws')
    (body : ∀ p e s m args below meth c s₁, BodyLoose p l y (headSpec ws rm) cc maxL ret e s m args below meth c s₁ → c.maxLocals = maxL → Pc args s →
      W p l e (headSpec ws rm).room s m args below meth c s.heap [] 0 0 (vx_MQ below Qc XC args s mc ms free) (entryFrame m args maxL)) : vx_Met l y ws rm Pc Qc XC mc ms free := by
  refine MetFree.of_bodyS (code := cc) (maxLocals := maxL) (ret := ret) hy ?_ ?_
  · intro args s m h hn
    obtain ⟨m9, meth, c, hn9, h1, h2, h3, h4, -, h5, h6, -⟩ := Cond.codeWith_spec (atoms_spec (ws := ws) h _ (by rw [hw]; exact List.mem_cons_self))
    cases hn.symm.trans hn9
    exact ⟨meth, c, h1, h2, h3, h4, h5, h6⟩
  · intro p e s m args below meth c s₁ B hml hP _
    have hh0 : s₁.heap = s.heap := by rw [B.state]; rfl
    obtain ⟨t, a1, o, b1, b2, b3⟩ := body p e s m args below meth c s₁ B hml hP s₁ hh0 (Stand.of_body B)
    exact ⟨t, o, a1, b1, b2, b3⟩
/-! ===== END ===== -/
/-! ===== BEGIN what the machine throws by itself, no traces kept ===== -/
section VXM
set_option maxHeartbeats 1000000 in
/-- the machine throws cls with the message text, no traces kept: from its note over the frame g to 'throwing' over the same frame (follows the proofs of Stand.vmThrowsMessage, Shelf/KitTracedVmS.lean, and Stand.throwsMessageColdBareV, StandMessageColdV.lean, without the step out of the frame) -/
theorem vx_vmAt {p : Program} {l : Launch} {e : Env} {R : Room} {s : State} {m₀ : MethodId} {args : Array Value} {below : List Frame} {meth : Method} {c : Code} {W : State} {locs : List Loc} {cells slots : Nat}
    (X : Stand p l e R s m₀ args below meth c W locs cells slots) (hexec : p.tables.exec = Jvm.exec) (htr : e.platform.stackTraces = false) {cls : String} {names : List String} {text : String}
    (hcls : Bundle.fit cls = true) (hnames : ∀ n ∈ names, Bundle.fit n = true) (hsoe : (cls == "java/lang/StackOverflowError") = false) (hoom : (cls == "java/lang/OutOfMemoryError") = false)
    (h : ∀ a ∈ Bundle.messageArmAtoms cls names, a.before args s = true)
    (hlocs : ∀ x ∈ locs, ∀ cell, s.heap[x.base]? = some cell → cell.vm.isStatics = false)
    (htext : (text == notModelled) = false) (hlimit : ¬ (stringBytes (stringToUtf16 text)).size > e.platform.arrayLengthLimit) (hheap : ¬ (stringBytes (stringToUtf16 text)).size * componentBytes .byte > e.platform.maxHeapBytes)
    {g : JFrame} (hg : g.method = m₀) (hsize : g.locals.size = c.maxLocals)
    (hRframes : names.length + 4 < R.frames) (hRlocals : 2 * g.monitorRoom + (g.stack.map fun v => v.category).sum + 10240 ≤ R.locals) (hshort : 13 * names.length + 55 ≤ 10240)
    (hRcells : cells + 3 ≤ R.cells) (hRslots : slots + ((stringBytes (stringToUtf16 text)).size + 4 + 6) ≤ R.slots) (hlocks : meth.locks = false) :
    ∃ (S : State) (q : Addr) (ce : Cell), (∀ target, Steps p.tables e below ((S.setTop g).pushFrame (.throwing q)) target → Steps p.tables e below ((W.setTop g).pushFrame (.throwNew cls (some text) none)) target) ∧
      Stand p l e R s m₀ args below meth c S locs (cells + 3) (slots + ((stringBytes (stringToUtf16 text)).size + 4 + 6)) ∧ S.heap[q]? = some ce ∧ s.vm.findClass cls = some ce.cls ∧ ce.vm = .none := by
  have howns : e.platform.frameOwnsMonitors = true := by rw [X.admits.platform]
  have hfin : e.platform.finalization = false := by rw [X.admits.platform]
  have hpl : e.platform.magicAccessors = ({} : Platform).magicAccessors := by rw [X.admits.platform]
  have a : ∀ x, x ∈ Bundle.messageArmAtoms cls names → x.holds args s none s [] = true := fun x hx => h x hx
  obtain ⟨T, Z0, L, -, Y⟩ := ThrowableC.of_atoms (args := args) howns hfin hpl (fun x hx => h x (by simp [Bundle.messageArmAtoms, hx]))
  obtain ⟨Z, M, LZ, LM, hnZ⟩ := Init0T.ofS_atoms (args := args) hpl L Y (fun x hx => h x (by simp [Bundle.messageArmAtoms, hx]))
  obtain ⟨P1, Ps, hlen, L1, hL, hP1m, hlink1, hlink⟩ := Bundle.chainS (args := args) hpl hnZ names cls hcls hnames (fun x hx => h x (by simp [Bundle.messageArmAtoms, hx]))
  obtain ⟨Zs, LZs, hn4, hfitv, hfitc⟩ := StringT.of_atoms (args := args) (fun x hx => h x (by simp [Bundle.messageArmAtoms, hx]))
  have hfound : s.vm.findClass cls = some P1.m.cls := findClass_of_methodNamed hP1m
  obtain ⟨c1, kX, hc1, hk, hord, -, -, hn6⟩ := Cond.instantiable_spec (a (.instantiable cls 6) (by simp [Bundle.messageArmAtoms]))
  cases Option.some.inj (hc1.symm.trans hfound)
  have hinit := Cond.initialized_spec hfound hk (a (.initialized cls) (by simp [Bundle.messageArmAtoms]))
  have hctor : kX.findMethod "<init>" "(Ljava/lang/String;)V" = some P1.m.idx := findMethod_of_methodNamed hP1m hk
  have hsel0 : selectMethod e.platform s.vm P1.m.cls T.fill0 = .method T.fill0 := by
    obtain ⟨c2, r2, m2, q1, q2, q3, q4, -⟩ := Cond.selects_spec (a (.selects cls Bundle.tFill0 Bundle.tFill0) (by simp [Bundle.messageArmAtoms]))
    cases Option.some.inj (q1.symm.trans hfound)
    cases Option.some.inj (q2.symm.trans (State.methodFound?_of_named Y.fill0 (by decide)))
    cases Option.some.inj (q3.symm.trans Y.fill0)
    rw [Launch.admits_selectMethod X.admits]; exact q4
  have hselF : selectMethod e.platform s.vm P1.m.cls T.fill = .method T.fill := by
    obtain ⟨c2, r2, m2, q1, q2, q3, q4, -⟩ := Cond.selects_spec (a (.selects cls Bundle.tFill Bundle.tFill) (by simp [Bundle.messageArmAtoms]))
    cases Option.some.inj (q1.symm.trans hfound)
    cases Option.some.inj (q2.symm.trans (State.methodFound?_of_named Y.fill (by decide)))
    cases Option.some.inj (q3.symm.trans Y.fill)
    rw [Launch.admits_selectMethod X.admits]; exact q4
  obtain ⟨cellS0, hcS0, hiss⟩ := Y.statics
  obtain ⟨u0, hu0⟩ := Cond.staticRefV Y.unassigned L.unassignedStatic L.statics hcS0 hiss (a (.isRef (.static Bundle.tN "UNASSIGNED_STACK" Bundle.steD)) (by simp [Bundle.messageArmAtoms]))
  obtain ⟨sen, hsen⟩ := Cond.staticRefV Y.sentinel L.sentinelStatic L.statics hcS0 hiss (a (.isRef (.static Bundle.tN "SUPPRESSED_SENTINEL" Bundle.listD)) (by simp [Bundle.messageArmAtoms]))
  obtain ⟨ci198, i198, fB, hk198, hg198, ha198, hsB, -, hnB, htB, hffB⟩ := Cond.ownField (t := .object "java/lang/Object") Y.found L.cls (by decide +kernel) (a (.fieldLink Bundle.tN 198 Bundle.tN "backtrace" "Ljava/lang/Object;") (by simp [Bundle.messageArmAtoms])) (a (.lays Bundle.tN Bundle.tN "backtrace" "Ljava/lang/Object;") (by simp [Bundle.messageArmAtoms])) e.platform hpl
  obtain ⟨cellS, hcS', heS, -, hkeep⟩ := X.same.2.2.2.2.2 T.aS cellS0 hcS0
  have hcellS : W.heap[T.aS]? = some cellS := hcS'
  have hout' : ∀ i, (⟨T.aS, i⟩ : Loc) ∉ locs := fun i hmem => by
    have := hlocs _ hmem cellS0 hcS0
    rw [hiss] at this; cases this
  have hknownS : cellS.vm ≠ .unknown := by
    rw [heS]; intro hu
    rw [show cellS0.vm = .unknown from hu] at hiss
    cases hiss
  have hvU : cellS.slots[T.fUnassigned.slot]? = some u0.v := by rw [hkeep _ (hout' _)]; exact hu0
  have hvSen : cellS.slots[T.fSentinel.slot]? = some sen.v := by rw [hkeep _ (hout' _)]; exact hsen
  obtain ⟨iM, hffM⟩ := Y.msg
  obtain ⟨tyC, dC, hdC, hdnC⟩ := Cond.laysAt hfound hk Y.cause (a (.lays cls Bundle.tN "cause" "Ljava/lang/Throwable;") (by simp [Bundle.messageArmAtoms]))
  obtain ⟨tyS, dS, hdS, hdnS⟩ := Cond.laysAt hfound hk Y.stack (a (.lays cls Bundle.tN "stackTrace" Bundle.steD) (by simp [Bundle.messageArmAtoms]))
  obtain ⟨tyP, dP, hdP, hdnP⟩ := Cond.laysAt hfound hk Y.supp (a (.lays cls Bundle.tN "suppressedExceptions" Bundle.listD) (by simp [Bundle.messageArmAtoms]))
  obtain ⟨tyM, dM, hdM, hdnM⟩ := Cond.laysAt hfound hk hffM (a (.lays cls Bundle.tN "detailMessage" "Ljava/lang/String;") (by simp [Bundle.messageArmAtoms]))
  obtain ⟨tyB, dB, hdB, hdnB⟩ := Cond.laysAt hfound hk hffB (a (.lays cls Bundle.tN "backtrace" "Ljava/lang/Object;") (by simp [Bundle.messageArmAtoms]))
  have bC := Cond.laysApart hdB hdC hdnB hdnC (by rw [hnB, Y.causeName]; decide)
  have bS := Cond.laysApart hdB hdS hdnB hdnS (by rw [hnB, Y.stackName]; decide)
  have bP := Cond.laysApart hdB hdP hdnB hdnP (by rw [hnB, Y.suppName]; decide)
  have hbk : ((preparedCellV T.toThrowableT (freshCell P1.m.cls kX) (W.heap.size + 2) u0 sen).withEntry W.cur).slots[fB.slot]? = some .null := by
    have := fresh_default (c := P1.m.cls) tyB
    rw [htB] at this
    simpa [preparedCellV, Cell.setSlot, Cell.withEntry, Array.getElem?_setIfInBounds, bC, bS, bP, bC.symm, bS.symm, bP.symm, defaultValue] using this
  have tkC := Takes.of_laid (v := .ref (W.heap.size + 2)) hk hord tyC (by rw [Y.causeType]; rfl)
  have tkS := Takes.of_laid (v := u0.v) hk hord tyS (by rw [Y.stackType]; exact fits_refV_array _ u0)
  have tkP := Takes.of_laid (v := sen.v) hk hord tyP (by rw [Y.suppType]; exact fits_refV_object _ sen)
  have tkM := Takes.of_laid (v := .ref (W.heap.size + 1)) hk hord tyM (by rw [Y.msgType]; rfl)
  have hskip : SkipFacts T e.platform s (fun u => u) u0 ((preparedCellV T.toThrowableT (freshCell P1.m.cls kX) (W.heap.size + 2) u0 sen).withEntry W.cur) := ⟨{ ci198 := ci198, i198 := i198, fBack := fB }, ⟨hk198, hg198, ha198, hsB⟩, hbk, fun _ _ => rfl⟩
  have h0 : At W g.method c below := by rw [hg]; exact X.here
  obtain ⟨hbeyond, hfreeW⟩ := X.vmMayThrow hsize (.throwNew cls (some text) none) (fun f hf => by cases hf) rfl hRlocals
  have hfr' : W.frames.length + Ps.length + 4 < (e.platform.stackLimits W.me).1 := by have := X.framesAbove hRframes; omega
  have hwd' : (stackUse (.java g :: W.frames.tail)).2 + 13 * Ps.length + 55 ≤ (e.platform.stackLimits W.me).2 := by have := X.stackAbove hsize (K := 13 * Ps.length + 55) (by omega); omega
  have hslots : W.slotsUsed + (stringBytes (stringToUtf16 text)).size + Zs.kS.instanceTypes.size + kX.instanceTypes.size ≤ e.platform.maxSlots := by
    have := X.slotsAbove hRslots
    rw [hn4, hn6]
    omega
  obtain ⟨vm', hW', st⟩ := Steps.vmThrowsMessageColdByV p (s₀ := s) (S := W) (g := g) h0 hexec T L Z LZ M LM X.warmed (t := W.cur) rfl Zs LZs P1 L1 Ps hL hlink1 hlink hsoe hoom hfound hk hinit hord hctor
    (Launch.admits_hotImplicitExceptions X.admits) hbeyond hfreeW htext hlimit hheap (X.cellsAbove hRcells) hslots (hfitv _) (hfitc _)
    (Nn := fun u => u) heapOnly_id (fun _ _ => rfl) (fun _ => rfl) (fun u x y => setCell_twice _ _ _ _) (fun _ => Nat.le_refl _) (cN := ((preparedCellV T.toThrowableT (freshCell P1.m.cls kX) (W.heap.size + 2) u0 sen).withEntry W.cur))
    hsel0 hcellS hknownS hvU tkS (fun _ hu => hu) (fun _ hu => hu) rfl rfl rfl (by simp [preparedCellV, Cell.setSlot, Cell.withEntry]) hskip (fun _ _ hA hW _ hroom _ hrest => L.nativeOff p htr hA hW hroom hrest) hselF hvSen tkC tkP tkM Y.objLocals rfl hfr' hwd'
  rw [plainBareV_eq T.toThrowableT (W.heap.size + 2) u0 sen (.ref (W.heap.size + 1)) W.cur rfl rfl] at st
  obtain ⟨-, -, w3, w4, -, -, -⟩ := withThrown_facts e.platform W Zs text P1.m.cls kX
  have X3 := ((X.pushed (bytesOf Zs.cB (stringToUtf16 text))).pushed (stringAt Zs.cS Zs.kS Zs.fv Zs.fc (stringToUtf16 text) W.heap.size)).pushed (freshCell P1.m.cls kX)
  rw [← withString_eq] at X3
  have X4 := X3.noted hW'
  have ha : (W.heap.size + 2) < ((withThrown W Zs text P1.m.cls kX).setVm vm').heap.size := by show _ < (withThrown W Zs text P1.m.cls kX).heap.size; rw [w3]; omega
  have hcell : ((withThrown W Zs text P1.m.cls kX).setVm vm').heap[(W.heap.size + 2)]? = some (freshCell P1.m.cls kX) := w4
  have X5 := ((((X4.stored hcell T.fCause.slot (.ref (W.heap.size + 2))).storedAgain ha T.fStack.slot u0.v).storedAgain ha T.fSupp.slot sen.v).storedAgain ha T.fStack.slot u0.v).storedAgain ha T.fMsg.slot (.ref (W.heap.size + 1))
  obtain ⟨g₁, hfrM⟩ := X5.frames_eq
  have hU : ((((withThrown W Zs text P1.m.cls kX).setVm vm').setCell (W.heap.size + 2) (plainBareV T.toThrowableT (freshCell P1.m.cls kX) (W.heap.size + 2) u0 sen (.ref (W.heap.size + 1)))).setTop g).pushFrame (.throwing (W.heap.size + 2)) = (((withThrown W Zs text P1.m.cls kX).setVm vm').setCell (W.heap.size + 2) (plainBareV T.toThrowableT (freshCell P1.m.cls kX) (W.heap.size + 2) u0 sen (.ref (W.heap.size + 1)))).setFrames (.throwing (W.heap.size + 2) :: .java g :: below) := by
    rw [State.pushFrame, State.frames_setTop _ hfrM, State.setTop_of_frames _ hfrM, State.setFrames_setFrames]
  have b1 : (bytesOf Zs.cB (stringToUtf16 text)).slots.size = (stringBytes (stringToUtf16 text)).size := by
    rw [(Cell.writeAll_facts _ _).2.2]; simp [bytes0]
  have b2 : (stringAt Zs.cS Zs.kS Zs.fv Zs.fc (stringToUtf16 text) W.heap.size).slots.size = 4 := by simp [string0, Cell.setSlot, hn4]
  have b3 : (freshCell P1.m.cls kX).slots.size = 6 := by simp [hn6]
  rw [b1, b2, b3] at X5
  have e9 : slots + (stringBytes (stringToUtf16 text)).size + 4 + 6 = slots + ((stringBytes (stringToUtf16 text)).size + 4 + 6) := by omega
  rw [e9] at X5
  simp only [List.append_assoc, List.cons_append, List.nil_append] at X5
  refine ⟨((withThrown W Zs text P1.m.cls kX).setVm vm').setCell (W.heap.size + 2) (plainBareV T.toThrowableT (freshCell P1.m.cls kX) (W.heap.size + 2) u0 sen (.ref (W.heap.size + 1))), W.heap.size + 2, _, fun target ht => st _ (by rw [X.tail, ← hU]; exact ht),
    X5.forget (fun y hy => ?_), heapAt_setCell_self _ ha, hfound, rfl⟩
  simp only [List.mem_cons, List.not_mem_nil, or_false] at hy
  have hge : s.heap.size ≤ W.heap.size := X.same.2.1
  rcases hy with rfl | rfl | rfl | rfl | rfl <;> exact Nat.le_trans hge (Nat.le_add_right _ 2)
set_option maxHeartbeats 1000000 in
/-- the machine throws NullPointerException, no traces kept: from its note over the frame g to 'throwing' over the same frame (follows the proof of Stand.vmThrowsNpe, Shelf42/KT2.lean; throwsNpeColdBareVAt, Shelf42/NT91.lean, called) -/
theorem vx_npeAt {p : Program} {l : Launch} {e : Env} {R : Room} {s : State} {m₀ : MethodId} {args : Array Value} {below : List Frame} {meth : Method} {c : Code} {W : State} {locs : List Loc} {cells slots : Nat}
    (X : Stand p l e R s m₀ args below meth c W locs cells slots) (hexec : p.tables.exec = Jvm.exec) (htr : e.platform.stackTraces = false) {n : Nat}
    (h : ∀ a ∈ Bundle.npeArmAtoms n, a.before args s = true)
    (hlocs : ∀ x ∈ locs, ∀ cell, s.heap[x.base]? = some cell → cell.vm.isStatics = false)
    {g : JFrame} (hg : g.method = m₀) (hsize : g.locals.size = c.maxLocals)
    (hRframes : 7 < R.frames) (hRlocals : 2 * g.monitorRoom + (g.stack.map fun v => v.category).sum + 10240 ≤ R.locals)
    (hRcells : cells + 1 ≤ R.cells) (hRslots : slots + n ≤ R.slots) (hlocks : meth.locks = false) :
    ∃ (S : State) (q : Addr) (ce : Cell), (∀ target, Steps p.tables e below ((S.setTop g).pushFrame (.throwing q)) target → Steps p.tables e below ((W.setTop g).pushFrame (.throwNew "java/lang/NullPointerException" none none)) target) ∧
      Stand p l e R s m₀ args below meth c S locs (cells + 1) (slots + n) ∧ S.heap[q]? = some ce ∧ s.vm.findClass "java/lang/NullPointerException" = some ce.cls ∧ ce.vm = .none := by
  have howns : e.platform.frameOwnsMonitors = true := by rw [X.admits.platform]
  have hfin : e.platform.finalization = false := by rw [X.admits.platform]
  have hpl : e.platform.magicAccessors = ({} : Platform).magicAccessors := by rw [X.admits.platform]
  have hpl2 : e.platform.arrayCloneIsPublic = true := by rw [X.admits.platform]
  have a' : ∀ x, x ∈ Bundle.npeArmAtoms n → x.holds args s none s [] = true := fun x hx => h x hx
  obtain ⟨T, Z, L, LZ, Y⟩ := ThrowableC.of_atoms (args := args) howns hfin hpl (fun x hx => h x (by simp [Bundle.npeArmAtoms, hx]))
  obtain ⟨N, LN, hcN, hnNF, hordN, hffS⟩ := NpeC.of_atoms (args := args) hpl hpl2 L Y (fun x hx => h x (by simp [Bundle.npeArmAtoms, hx]))
  obtain ⟨P1, L1, hP1m, hP1s⟩ := PassC.of_atoms (args := args) (s := s) hpl (X := Bundle.nN) (Y := Bundle.rN) (by decide) (by decide) LibCode.NullPointerException.Init0.at_0 LibCode.NullPointerException.Init0.at_1 LibCode.NullPointerException.Init0.at_4 (fun x hx => h x (by simp [Bundle.npeArmAtoms, hx]))
  obtain ⟨PR, LR, hPRm, hPRs⟩ := PassC.of_atoms (args := args) (s := s) hpl (X := Bundle.rN) (Y := Bundle.eN) (by decide) (by decide) LibCode.RuntimeException.Init0.at_0 LibCode.RuntimeException.Init0.at_1 LibCode.RuntimeException.Init0.at_4 (fun x hx => h x (by simp [Bundle.npeArmAtoms, hx]))
  obtain ⟨PE, LEx, hPEm, hPEs⟩ := PassC.of_atoms (args := args) (s := s) hpl (X := Bundle.eN) (Y := Bundle.tN) (by decide) (by decide) LibCode.Exception.Init0.at_0 LibCode.Exception.Init0.at_1 LibCode.Exception.Init0.at_4 (fun x hx => h x (by simp [Bundle.npeArmAtoms, hx]))
  have hfound : s.vm.findClass Bundle.nN = some P1.m.cls := findClass_of_methodNamed hP1m
  have ecls : N.cN = P1.m.cls := Option.some.inj (hcN.symm.trans hfound)
  have hk : s.vm.classes[P1.m.cls]? = some N.kN := by rw [← ecls]; exact LN.cls
  have hinit := Cond.initialized_spec hfound hk (a' (.initialized Bundle.nN) (by simp [Bundle.npeArmAtoms]))
  have hctor : N.kN.findMethod "<init>" "()V" = some P1.m.idx := findMethod_of_methodNamed hP1m hk
  obtain ⟨c1, k1, hc1, hk1, -, -, -, hn⟩ := Cond.instantiable_spec (a' (.instantiable Bundle.nN n) (by simp [Bundle.npeArmAtoms]))
  cases Option.some.inj (hc1.symm.trans hfound)
  cases Option.some.inj (hk1.symm.trans hk)
  have hfsz : (freshCell P1.m.cls N.kN).slots.size = n := by simp [hn]
  have hlink1 : P1.sup = PR.m := Option.some.inj (hP1s.symm.trans hPRm)
  have hlinkR : PR.sup = PE.m := Option.some.inj (hPRs.symm.trans hPEm)
  have hlinkE : PE.sup = Z.m T.toThrowableT := Option.some.inj (hPEs.symm.trans Y.init0)
  have hLs : ∀ P, P ∈ [PR, PE] → P.Links0 e.platform s := fun P hP => by
    simp only [List.mem_cons, List.not_mem_nil, or_false] at hP
    rcases hP with rfl | rfl
    · exact LR
    · exact LEx
  have hsel0 : selectMethod e.platform s.vm P1.m.cls T.fill0 = .method T.fill0 := by
    obtain ⟨c2, r2, m2, q1, q2, q3, q4, -⟩ := Cond.selects_spec (a' (.selects Bundle.nN Bundle.tFill0 Bundle.tFill0) (by simp [Bundle.npeArmAtoms]))
    cases Option.some.inj (q1.symm.trans hfound)
    cases Option.some.inj (q2.symm.trans (State.methodFound?_of_named Y.fill0 (by decide)))
    cases Option.some.inj (q3.symm.trans Y.fill0)
    rw [Launch.admits_selectMethod X.admits]; exact q4
  have hselF : selectMethod e.platform s.vm P1.m.cls T.fill = .method N.fill := by
    obtain ⟨c2, r2, m2, q1, q2, q3, q4, -⟩ := Cond.selects_spec (a' (.selects Bundle.nN Bundle.tFill Bundle.nFill) (by simp [Bundle.npeArmAtoms]))
    cases Option.some.inj (q1.symm.trans hfound)
    cases Option.some.inj (q2.symm.trans (State.methodFound?_of_named Y.fill (by decide)))
    cases Option.some.inj (q3.symm.trans hnNF)
    rw [Launch.admits_selectMethod X.admits]; exact q4
  obtain ⟨cellS0, hcS0, hiss⟩ := Y.statics
  obtain ⟨u0, hu0⟩ := Cond.staticRefV Y.unassigned L.unassignedStatic L.statics hcS0 hiss (a' (.isRef (.static Bundle.tN "UNASSIGNED_STACK" Bundle.steD)) (by simp [Bundle.npeArmAtoms]))
  obtain ⟨sen, hsen⟩ := Cond.staticRefV Y.sentinel L.sentinelStatic L.statics hcS0 hiss (a' (.isRef (.static Bundle.tN "SUPPRESSED_SENTINEL" Bundle.listD)) (by simp [Bundle.npeArmAtoms]))
  obtain ⟨ci198, i198, fB, hk198, hg198, ha198, hsB, -, hnB, htB, hffB⟩ := Cond.ownField (t := .object "java/lang/Object") Y.found L.cls (by decide +kernel) (a' (.fieldLink Bundle.tN 198 Bundle.tN "backtrace" Bundle.objD) (by simp [Bundle.npeArmAtoms])) (a' (.lays Bundle.tN Bundle.tN "backtrace" Bundle.objD) (by simp [Bundle.npeArmAtoms])) e.platform hpl
  obtain ⟨cellS, hcS', heS, -, hkeep⟩ := X.same.2.2.2.2.2 T.aS cellS0 hcS0
  have hcellS : W.heap[T.aS]? = some cellS := hcS'
  have hout' : ∀ i, (⟨T.aS, i⟩ : Loc) ∉ locs := fun i hmem => by
    have := hlocs _ hmem cellS0 hcS0
    rw [hiss] at this; cases this
  have hknownS : cellS.vm ≠ .unknown := by
    rw [heS]; intro hu
    rw [show cellS0.vm = .unknown from hu] at hiss
    cases hiss
  have hvU : cellS.slots[T.fUnassigned.slot]? = some u0.v := by rw [hkeep _ (hout' _)]; exact hu0
  have hvSen : cellS.slots[T.fSentinel.slot]? = some sen.v := by rw [hkeep _ (hout' _)]; exact hsen
  obtain ⟨tyC, dC, hdC, hdnC⟩ := Cond.laysAt hfound hk Y.cause (a' (.lays Bundle.nN Bundle.tN "cause" "Ljava/lang/Throwable;") (by simp [Bundle.npeArmAtoms]))
  obtain ⟨tyS, dS, hdS, hdnS⟩ := Cond.laysAt hfound hk Y.stack (a' (.lays Bundle.nN Bundle.tN "stackTrace" Bundle.steD) (by simp [Bundle.npeArmAtoms]))
  obtain ⟨tyP, dP, hdP, hdnP⟩ := Cond.laysAt hfound hk Y.supp (a' (.lays Bundle.nN Bundle.tN "suppressedExceptions" Bundle.listD) (by simp [Bundle.npeArmAtoms]))
  obtain ⟨tyX, dX, hdX, hdnX⟩ := Cond.laysAt hfound hk hffS (a' (.lays Bundle.nN Bundle.nN "extendedMessageState" "I") (by simp [Bundle.npeArmAtoms, Bundle.npeAtoms]))
  obtain ⟨hnX, htX⟩ := State.fieldFound?_type hffS (t := .int) (by decide +kernel)
  have xC := Cond.laysApart hdC hdX hdnC hdnX (by rw [hnX, Y.causeName]; decide)
  have xS := Cond.laysApart hdS hdX hdnS hdnX (by rw [hnX, Y.stackName]; decide)
  have xP := Cond.laysApart hdP hdX hdnP hdnX (by rw [hnX, Y.suppName]; decide)
  have hv0 : (freshCell P1.m.cls N.kN).slots[N.fState.slot]? = some (.int 0) := by
    have := fresh_default (c := P1.m.cls) tyX
    rw [htX] at this; exact this
  obtain ⟨tyB, dB, hdB, hdnB⟩ := Cond.laysAt hfound hk hffB (a' (.lays Bundle.nN Bundle.tN "backtrace" Bundle.objD) (by simp [Bundle.npeArmAtoms]))
  have bC := Cond.laysApart hdB hdC hdnB hdnC (by rw [hnB, Y.causeName]; decide)
  have bS := Cond.laysApart hdB hdS hdnB hdnS (by rw [hnB, Y.stackName]; decide)
  have bP := Cond.laysApart hdB hdP hdnB hdnP (by rw [hnB, Y.suppName]; decide)
  have bX := Cond.laysApart hdB hdX hdnB hdnX (by rw [hnB, hnX]; decide)
  have hbk : ((npeCell N.toNpeT (preparedCellV T.toThrowableT (freshCell P1.m.cls N.kN) W.heap.size u0 sen) W.cur).withEntry W.cur).slots[fB.slot]? = some .null := by
    have := fresh_default (c := P1.m.cls) tyB
    rw [htB] at this
    simpa [npeCell, preparedCellV, Cell.setSlot, Cell.withEntry, Array.getElem?_setIfInBounds, bC, bS, bP, bX, bC.symm, bS.symm, bP.symm, bX.symm, defaultValue] using this
  have tkC := Takes.of_laid (v := .ref W.heap.size) hk hordN tyC (by rw [Y.causeType]; rfl)
  have tkS := Takes.of_laid (v := u0.v) hk hordN tyS (by rw [Y.stackType]; exact fits_refV_array _ u0)
  have tkP := Takes.of_laid (v := sen.v) hk hordN tyP (by rw [Y.suppType]; exact fits_refV_object _ sen)
  have tkX := Takes.of_laid (v := .int 1) hk hordN tyX (by rw [htX]; rfl)
  have hskip : SkipFacts T e.platform s (fun u => u) u0 ((npeCell N.toNpeT (preparedCellV T.toThrowableT (freshCell P1.m.cls N.kN) W.heap.size u0 sen) W.cur).withEntry W.cur) := ⟨{ ci198 := ci198, i198 := i198, fBack := fB }, ⟨hk198, hg198, ha198, hsB⟩, hbk, fun _ _ => rfl⟩
  obtain ⟨vm', X3, st, -⟩ := X.throwsNpeColdBareVAt hexec hg hsize T L Z LZ N LN P1 L1 [PR, PE] hLs hlink1 ⟨hlinkR, hlinkE, trivial⟩ hfound hk hinit hordN hctor hsel0 hselF hcellS hknownS hvU hvSen
    hv0 xC xS xP tkC tkS tkP tkX Y.objLocals hskip (fun _ _ hA hW _ hroom _ hrest => L.nativeOff p htr hA hW hroom hrest) (by simpa using hRframes) hRlocals (by simp) hRcells (by rw [hn]; exact hRslots)
  have hlt : W.heap.size < ((W.pushCell (freshCell P1.m.cls N.kN)).setVm vm').heap.size := by
    show W.heap.size < (W.pushCell (freshCell P1.m.cls N.kN)).heap.size
    rw [State.heap_size_pushCell]; omega
  rw [hfsz] at X3
  obtain ⟨g₁, hfrM⟩ := X3.frames_eq
  have hU : ((((W.pushCell (freshCell P1.m.cls N.kN)).setVm vm').setCell W.heap.size (npeBareV T.toThrowableT N.toNpeT (freshCell P1.m.cls N.kN) W.heap.size u0 sen)).setTop g).pushFrame (.throwing W.heap.size) = (((W.pushCell (freshCell P1.m.cls N.kN)).setVm vm').setCell W.heap.size (npeBareV T.toThrowableT N.toNpeT (freshCell P1.m.cls N.kN) W.heap.size u0 sen)).setFrames (.throwing W.heap.size :: .java g :: below) := by
    rw [State.pushFrame, State.frames_setTop _ hfrM, State.setTop_of_frames _ hfrM, State.setFrames_setFrames]
  refine ⟨_, W.heap.size, _, fun target ht => st.trans (by rw [← hU]; exact ht), X3.forget (fun y hy => ?_), heapAt_setCell_self _ hlt, hfound, rfl⟩
  simp only [List.mem_cons, List.not_mem_nil, or_false] at hy
  have hge : s.heap.size ≤ W.heap.size := X.same.2.1
  rcases hy with rfl | rfl | rfl | rfl | rfl <;> exact hge
/-- the words of a machine's NullPointerException, but the four that speak of the heap -/
def vx_atN (n : Nat) : List Cond := (Bundle.npeArmAtoms n).filter vx_no
/-- the words of a machine's throw with a message, but the four that speak of the heap -/
def vx_atM (X : String) (names : List String) : List Cond := (Bundle.messageArmAtoms X names).filter vx_no
section
variable {p : Program} {l : Launch} {e : Env} {R : Room} {s : State} {m : MethodId} {args : Array Value} {below : List Frame} {meth : Method} {c : Code} {H : Heap} {locs : List Loc} {cells slots : Nat}
/-- a frame seen from a rebased start, seen from the first start again -/
theorem vx_back9 {T S : State} {R' : Room} {k n : Nat} (X : Stand p l e R s m args below meth c T locs cells slots) (Y : Stand p l e R' ((T.setVm s.vm).setFrames (.invoking m args :: below)) m args below meth c T [] 0 0) (Z : Stand p l e R' ((T.setVm s.vm).setFrames (.invoking m args :: below)) m args below meth c S [] k n) :
    Stand p l e R s m args below meth c S locs (cells + k) (slots + n) := by
  have hW0 : s.WarmedH ((T.setVm s.vm).setFrames (.invoking m args :: below)).vm := State.WarmedH.refl s
  refine { admits := X.admits, cas := X.cas, clock := X.clock, frames := X.frames, room := X.room, hears := X.hears, method := X.method, code := X.code, here := Z.here, tail := Z.tail, warmed := State.WarmedH.trans hW0 Z.warmed, limits := Z.limits.trans (Y.limits.symm.trans X.limits), bytes := Z.bytes.trans (Y.bytes.symm.trans X.bytes), same := ?_ }
  obtain ⟨e1, e2⟩ := Z.same
  rw [State.setFrames_setFrames] at e1
  have h2 : (T.setVm s.vm).sameButNew (S.setVm s.vm) [] k n := ⟨e1, e2⟩
  have h3 := X.same.trans h2
  rw [List.append_nil] at h3
  exact h3
/-- from the machine's note that E is thrown here with this text -/
def vx_Note (p : Program) (l : Launch) (e : Env) (R : Room) (s : State) (m : MethodId) (args : Array Value) (below : List Frame) (meth : Method) (c : Code) (H : Heap) (locs : List Loc) (cells slots : Nat) (Q : State → Prop) (g : JFrame) (E text : String) : Prop :=
  ∀ T : State, T.heap = H → Stand p l e R s m args below meth c T locs cells slots → ∃ t, Steps p.tables e below ((T.setTop g).pushFrame (.throwNew E (some text) none)) t ∧ Q t
theorem vx_vm {pc : Nat} {ls : Array Slot} {rest : List Value} {Q : State → Prop} (hexec : p.tables.exec = Jvm.exec) (hl : l.stackTraces = false) {cls text : String} {names : List String} {nb : Nat} {A : Nat → Prop}
    (hcls : Bundle.fit cls = true) (hnames : ∀ n ∈ names, Bundle.fit n = true) (hsoe : (cls == "java/lang/StackOverflowError") = false) (hoom : (cls == "java/lang/OutOfMemoryError") = false)
    (hat : ∀ w ∈ vx_atM cls names, w.before args s = true) (hgood : ∀ w ∈ vx_atM cls names, vx_ot w = true)
    (hU : vx_Zq Bundle.tN "UNASSIGNED_STACK" Bundle.steD A s s.heap) (hN : vx_Zq Bundle.tN "SUPPRESSED_SENTINEL" Bundle.listD A s s.heap) (hS : va_S A s.heap H locs) (hsize : ls.size = c.maxLocals)
    (htext : (text == notModelled) = false) (hnb : (stringBytes (stringToUtf16 text)).size ≤ nb) (hnb1 : nb ≤ 1000)
    (hRframes : names.length + 4 < R.frames) (hRlocals : (rest.map fun v => v.category).sum + 10240 ≤ R.locals) (hshort : 13 * names.length + 55 ≤ 10240) (hRcells : cells + 3 ≤ R.cells) (hRslots : slots + (nb + 10) ≤ R.slots) (hlocks : meth.locks = false)
    (k : ∀ (H1 : Heap) (q9 : Addr) (ce : Cell), H.size ≤ H1.size → (∀ q : Nat, q < H.size → H1[q]? = H[q]?) → va_S A s.heap H1 locs → H1[q9]? = some ce → ce.vm = .none → s.vm.findClass cls = some ce.cls → vx_W p l e R s m args below meth c H1 locs (cells + 3) (slots + (nb + 10)) Q (F0 m pc ls rest) q9) :
    vx_Note p l e R s m args below meth c H locs cells slots Q (F0 m pc ls rest) cls text := by
  intro T hT X
  have htr : e.platform.stackTraces = false := (show e.platform.stackTraces = l.stackTraces by rw [X.admits.platform]).trans hl
  have Y := vx_rebase X (R' := { frames := R.frames, locals := R.locals, cells := 3, slots := nb + 10 }) (Nat.le_refl _) (Nat.le_refl _) hRcells hRslots
  have hhp : ((T.setVm s.vm).setFrames (.invoking m args :: below)).heap = H := hT
  have hW0 : s.WarmedH ((T.setVm s.vm).setFrames (.invoking m args :: below)).vm := State.WarmedH.refl s
  have hat' : ∀ w ∈ vx_atM cls names, w.before args ((T.setVm s.vm).setFrames (.invoking m args :: below)) = true := fun w hw => vx_ot_at hW0 rfl (hgood w hw) (hat w hw)
  have hU' : vx_Zq Bundle.tN "UNASSIGNED_STACK" Bundle.steD A ((T.setVm s.vm).setFrames (.invoking m args :: below)) ((T.setVm s.vm).setFrames (.invoking m args :: below)).heap := by rw [hhp]; exact vx_Zq.moved hW0.alike (hU.kept hS.2.1)
  have hN' : vx_Zq Bundle.tN "SUPPRESSED_SENTINEL" Bundle.listD A ((T.setVm s.vm).setFrames (.invoking m args :: below)) ((T.setVm s.vm).setFrames (.invoking m args :: below)).heap := by rw [hhp]; exact vx_Zq.moved hW0.alike (hN.kept hS.2.1)
  obtain ⟨S, q, ce, st, Z, hce, hcl', hv⟩ := vx_vmAt Y hexec htr (cls := cls) (names := names) (text := text) hcls hnames hsoe hoom (vx_own hat' (vx_isRefq hU'.1) (vx_isRefq hN'.1) hU'.2.word hN'.2.word) (fun x hx => nomatch hx) htext
    (by rw [Launch.admits_arrayLengthLimit X.admits]; omega) (by rw [Launch.admits_maxHeapBytes X.admits]; simp only [componentBytes]; omega)
    (g := F0 m pc ls rest) rfl hsize hRframes (by show 2 * 0 + (rest.map fun v => v.category).sum + 10240 ≤ R.locals; omega) hshort (by show 0 + 3 ≤ 3; omega) (by show 0 + (_ + 4 + 6) ≤ nb + 10; omega) hlocks
  obtain ⟨f1, f2⟩ := vx_frame Z.same
  have f1' : H.size ≤ S.heap.size := by rw [← hT]; exact f1
  have f2' : ∀ q : Nat, q < H.size → S.heap[q]? = H[q]? := fun q hq => by
    rw [← hT]
    exact f2 q (by rw [← hT] at hq; exact hq) (fun z hz => nomatch hz)
  have X5 := vx_back9 X Y Z
  have X6 : Stand p l e R s m args below meth c S locs (cells + 3) (slots + (nb + 10)) := { X5 with same := X5.same.mono (by omega) (by omega) }
  obtain ⟨t, a1, b1⟩ := k S.heap q ce f1' f2' ⟨Nat.le_trans hS.1 f1', fun q h1 h2 => (f2' q (Nat.lt_of_lt_of_le h1 hS.1)).trans (hS.2.1 q h1 h2), hS.2.2⟩ hce hv hcl' S rfl X6
  exact ⟨t, st t a1, b1⟩
/-- from the machine's note that NullPointerException is thrown here -/
def vx_NoteN (p : Program) (l : Launch) (e : Env) (R : Room) (s : State) (m : MethodId) (args : Array Value) (below : List Frame) (meth : Method) (c : Code) (H : Heap) (locs : List Loc) (cells slots : Nat) (Q : State → Prop) (g : JFrame) : Prop :=
  ∀ T : State, T.heap = H → Stand p l e R s m args below meth c T locs cells slots → ∃ t, Steps p.tables e below ((T.setTop g).pushFrame (.throwNew "java/lang/NullPointerException" none none)) t ∧ Q t
theorem vx_npe {pc : Nat} {ls : Array Slot} {rest : List Value} {Q : State → Prop} (hexec : p.tables.exec = Jvm.exec) (hl : l.stackTraces = false) {nb : Nat} {A : Nat → Prop}
    (hat : ∀ w ∈ vx_atN nb, w.before args s = true) (hgood : ∀ w ∈ vx_atN nb, vx_ot w = true)
    (hU : vx_Zq Bundle.tN "UNASSIGNED_STACK" Bundle.steD A s s.heap) (hN : vx_Zq Bundle.tN "SUPPRESSED_SENTINEL" Bundle.listD A s s.heap) (hS : va_S A s.heap H locs) (hsize : ls.size = c.maxLocals)
    (hRframes : 7 < R.frames) (hRlocals : (rest.map fun v => v.category).sum + 10240 ≤ R.locals) (hRcells : cells + 1 ≤ R.cells) (hRslots : slots + nb ≤ R.slots) (hlocks : meth.locks = false)
    (k : ∀ (H1 : Heap) (q9 : Addr) (ce : Cell), H.size ≤ H1.size → (∀ q : Nat, q < H.size → H1[q]? = H[q]?) → va_S A s.heap H1 locs → H1[q9]? = some ce → ce.vm = .none → s.vm.findClass "java/lang/NullPointerException" = some ce.cls → vx_W p l e R s m args below meth c H1 locs (cells + 1) (slots + nb) Q (F0 m pc ls rest) q9) :
    vx_NoteN p l e R s m args below meth c H locs cells slots Q (F0 m pc ls rest) := by
  intro T hT X
  have htr : e.platform.stackTraces = false := (show e.platform.stackTraces = l.stackTraces by rw [X.admits.platform]).trans hl
  have Y := vx_rebase X (R' := { frames := R.frames, locals := R.locals, cells := 1, slots := nb }) (Nat.le_refl _) (Nat.le_refl _) hRcells hRslots
  have hhp : ((T.setVm s.vm).setFrames (.invoking m args :: below)).heap = H := hT
  have hW0 : s.WarmedH ((T.setVm s.vm).setFrames (.invoking m args :: below)).vm := State.WarmedH.refl s
  have hat' : ∀ w ∈ vx_atN nb, w.before args ((T.setVm s.vm).setFrames (.invoking m args :: below)) = true := fun w hw => vx_ot_at hW0 rfl (hgood w hw) (hat w hw)
  have hU' : vx_Zq Bundle.tN "UNASSIGNED_STACK" Bundle.steD A ((T.setVm s.vm).setFrames (.invoking m args :: below)) ((T.setVm s.vm).setFrames (.invoking m args :: below)).heap := by rw [hhp]; exact vx_Zq.moved hW0.alike (hU.kept hS.2.1)
  have hN' : vx_Zq Bundle.tN "SUPPRESSED_SENTINEL" Bundle.listD A ((T.setVm s.vm).setFrames (.invoking m args :: below)) ((T.setVm s.vm).setFrames (.invoking m args :: below)).heap := by rw [hhp]; exact vx_Zq.moved hW0.alike (hN.kept hS.2.1)
  obtain ⟨S, q, ce, st, Z, hce, hcl', hv⟩ := vx_npeAt Y hexec htr (n := nb) (vx_own hat' (vx_isRefq hU'.1) (vx_isRefq hN'.1) hU'.2.word hN'.2.word) (fun x hx => nomatch hx)
    (g := F0 m pc ls rest) rfl hsize hRframes (by show 2 * 0 + (rest.map fun v => v.category).sum + 10240 ≤ R.locals; omega) (by show 0 + 1 ≤ 1; omega) (by show 0 + nb ≤ nb; omega) hlocks
  obtain ⟨f1, f2⟩ := vx_frame Z.same
  have f1' : H.size ≤ S.heap.size := by rw [← hT]; exact f1
  have f2' : ∀ q : Nat, q < H.size → S.heap[q]? = H[q]? := fun q hq => by
    rw [← hT]
    exact f2 q (by rw [← hT] at hq; exact hq) (fun z hz => nomatch hz)
  have X5 := vx_back9 X Y Z
  have X6 : Stand p l e R s m args below meth c S locs (cells + 1) (slots + nb) := { X5 with same := X5.same.mono (by omega) (by omega) }
  obtain ⟨t, a1, b1⟩ := k S.heap q ce f1' f2' ⟨Nat.le_trans hS.1 f1', fun q h1 h2 => (f2' q (Nat.lt_of_lt_of_le h1 hS.1)).trans (hS.2.1 q h1 h2), hS.2.2⟩ hce hv hcl' S rfl X6
  exact ⟨t, st t a1, b1⟩
variable {Q : State → Prop} {cc : ByteArray} {pc : Nat} {ls : Array Slot} {rest : List Value}
theorem vx_idivZ (hexec : p.tables.exec = Jvm.exec) (hb : c.code = cc) {a b : Int32} (h0 : b = 0) (d : decode cc pc = .ok (.idiv, 1)) (k : vx_Note p l e R s m args below meth c H locs cells slots Q (F0 m pc ls rest) "java/lang/ArithmeticException" "/ by zero") :
    W p l e R s m args below meth c H locs cells slots Q (F0 m pc ls (.int b :: .int a :: rest)) := by
  intro T hT X
  obtain ⟨t, st, q⟩ := k T hT X
  exact ⟨t, X.idivZero hexec (g := F0 m pc ls (.int b :: .int a :: rest)) rfl (a := a) (rest := rest) (by rw [h0]) (by rw [hb]; exact d) t st, q⟩
theorem vx_iremZ (hexec : p.tables.exec = Jvm.exec) (hb : c.code = cc) {a b : Int32} (h0 : b = 0) (d : decode cc pc = .ok (.irem, 1)) (k : vx_Note p l e R s m args below meth c H locs cells slots Q (F0 m pc ls rest) "java/lang/ArithmeticException" "/ by zero") :
    W p l e R s m args below meth c H locs cells slots Q (F0 m pc ls (.int b :: .int a :: rest)) := by
  intro T hT X
  obtain ⟨t, st, q⟩ := k T hT X
  exact ⟨t, X.iremZero hexec (g := F0 m pc ls (.int b :: .int a :: rest)) rfl (a := a) (rest := rest) (by rw [h0]) (by rw [hb]; exact d) t st, q⟩
theorem vx_ldivZ (hexec : p.tables.exec = Jvm.exec) (hb : c.code = cc) {a b : Int64} (h0 : b = 0) (d : decode cc pc = .ok (.ldiv, 1)) (k : vx_Note p l e R s m args below meth c H locs cells slots Q (F0 m pc ls rest) "java/lang/ArithmeticException" "/ by zero") :
    W p l e R s m args below meth c H locs cells slots Q (F0 m pc ls (.long b :: .long a :: rest)) := by
  intro T hT X
  obtain ⟨t, st, q⟩ := k T hT X
  exact ⟨t, X.ldivZero hexec (g := F0 m pc ls (.long b :: .long a :: rest)) rfl (a := a) (rest := rest) (by rw [h0]) (by rw [hb]; exact d) t st, q⟩
theorem vx_lremZ (hexec : p.tables.exec = Jvm.exec) (hb : c.code = cc) {a b : Int64} (h0 : b = 0) (d : decode cc pc = .ok (.lrem, 1)) (k : vx_Note p l e R s m args below meth c H locs cells slots Q (F0 m pc ls rest) "java/lang/ArithmeticException" "/ by zero") :
    W p l e R s m args below meth c H locs cells slots Q (F0 m pc ls (.long b :: .long a :: rest)) := by
  intro T hT X
  obtain ⟨t, st, q⟩ := k T hT X
  exact ⟨t, X.lremZero hexec (g := F0 m pc ls (.long b :: .long a :: rest)) rfl (a := a) (rest := rest) (by rw [h0]) (by rw [hb]; exact d) t st, q⟩
theorem vx_ialdZ {D : va_G} {cl : List vw_C} {ws : va_W} {tys : List (ClassId × FieldType)} {a : Nat} (hexec : p.tables.exec = Jvm.exec) (hb : c.code = cc) (hK : va_K D cl tys s) (hP : va_P D cl ws H) (q0 t0 : Nat) {cA : ClassId} {n : Nat} {f : Nat → Int32} (ha : ws[q0]? = some (a, .inl (cA, n, .inl f))) (ht : tys[t0]? = some (cA, .int)) {i : Int32} (hout : ¬ vp_in i n) (hdg : decode cc pc = .ok (.iaload, 1))
    (k : ∀ tx : String, tx = (toString "Index " ++ toString i ++ toString " out of bounds for length " ++ toString n : String) → vx_Note p l e R s m args below meth c H locs cells slots Q (F0 m pc ls rest) "java/lang/ArrayIndexOutOfBoundsException" tx) : W p l e R s m args below meth c H locs cells slots Q (F0 m pc ls (.int i :: .ref a :: rest)) := by
  intro T hT X
  obtain ⟨t, st, q⟩ := k _ rfl T hT X
  refine ⟨t, ?_, q⟩
  have h1 := X.ialoadOut hexec (by rw [hT]; exact hP q0 _ ha) ((hK.2 t0 _ ht).1 n (fun j => .int (f j))) (j := i) (by show (i < 0 ∨ (arrV _ _ _).slots.size ≤ _); rw [arrV_size]; exact Classical.byContradiction hout) (g := F0 m pc ls (.int i :: .ref a :: rest)) rfl (rest := rest) rfl (by rw [hb]; exact hdg) t
  simp only [arrV_size] at h1
  exact h1 st
theorem vx_iastZ {D : va_G} {cl : List vw_C} {ws : va_W} {tys : List (ClassId × FieldType)} {a : Nat} (hexec : p.tables.exec = Jvm.exec) (hb : c.code = cc) (hK : va_K D cl tys s) (hP : va_P D cl ws H) (q0 t0 : Nat) {cA : ClassId} {n : Nat} {f : Nat → Int32} (ha : ws[q0]? = some (a, .inl (cA, n, .inl f))) (ht : tys[t0]? = some (cA, .int)) {i : Int32} {x : Int32} (hout : ¬ vp_in i n) (hdg : decode cc pc = .ok (.iastore, 1))
    (k : ∀ tx : String, tx = (toString "Index " ++ toString i ++ toString " out of bounds for length " ++ toString n : String) → vx_Note p l e R s m args below meth c H locs cells slots Q (F0 m pc ls rest) "java/lang/ArrayIndexOutOfBoundsException" tx) : W p l e R s m args below meth c H locs cells slots Q (F0 m pc ls (.int x :: .int i :: .ref a :: rest)) := by
  intro T hT X
  obtain ⟨t, st, q⟩ := k _ rfl T hT X
  refine ⟨t, ?_, q⟩
  have h1 := X.iastoreOut hexec (by rw [hT]; exact hP q0 _ ha) ((hK.2 t0 _ ht).1 n (fun j => .int (f j))) (j := i) (by show (i < 0 ∨ (arrV _ _ _).slots.size ≤ _); rw [arrV_size]; exact Classical.byContradiction hout) (g := F0 m pc ls (.int x :: .int i :: .ref a :: rest)) rfl (rest := rest) rfl (by rw [hb]; exact hdg) t
  simp only [arrV_size] at h1
  exact h1 st
theorem vx_baldZ {D : va_G} {cl : List vw_C} {ws : va_W} {tys : List (ClassId × FieldType)} {a : Nat} (hexec : p.tables.exec = Jvm.exec) (hb : c.code = cc) (hK : va_K D cl tys s) (hP : va_P D cl ws H) (q0 t0 : Nat) {cA : ClassId} {n : Nat} {f : Nat → Int32} (ha : ws[q0]? = some (a, .inl (cA, n, .inl f))) (ht : tys[t0]? = some (cA, .byte)) {i : Int32} (hout : ¬ vp_in i n) (hdg : decode cc pc = .ok (.baload, 1))
    (k : ∀ tx : String, tx = (toString "Index " ++ toString i ++ toString " out of bounds for length " ++ toString n : String) → vx_Note p l e R s m args below meth c H locs cells slots Q (F0 m pc ls rest) "java/lang/ArrayIndexOutOfBoundsException" tx) : W p l e R s m args below meth c H locs cells slots Q (F0 m pc ls (.int i :: .ref a :: rest)) := by
  intro T hT X
  obtain ⟨t, st, q⟩ := k _ rfl T hT X
  refine ⟨t, ?_, q⟩
  have h1 := X.baloadOut hexec (by rw [hT]; exact hP q0 _ ha) ((hK.2 t0 _ ht).1 n (fun j => .int (f j))) (j := i) (by show (i < 0 ∨ (arrV _ _ _).slots.size ≤ _); rw [arrV_size]; exact Classical.byContradiction hout) (g := F0 m pc ls (.int i :: .ref a :: rest)) rfl (rest := rest) rfl (by rw [hb]; exact hdg) t
  simp only [arrV_size] at h1
  exact h1 st
theorem vx_bastZ {D : va_G} {cl : List vw_C} {ws : va_W} {tys : List (ClassId × FieldType)} {a : Nat} (hexec : p.tables.exec = Jvm.exec) (hb : c.code = cc) (hK : va_K D cl tys s) (hP : va_P D cl ws H) (q0 t0 : Nat) {cA : ClassId} {n : Nat} {f : Nat → Int32} (ha : ws[q0]? = some (a, .inl (cA, n, .inl f))) (ht : tys[t0]? = some (cA, .byte)) {i : Int32} {x : Int32} (hout : ¬ vp_in i n) (hdg : decode cc pc = .ok (.bastore, 1))
    (k : ∀ tx : String, tx = (toString "Index " ++ toString i ++ toString " out of bounds for length " ++ toString n : String) → vx_Note p l e R s m args below meth c H locs cells slots Q (F0 m pc ls rest) "java/lang/ArrayIndexOutOfBoundsException" tx) : W p l e R s m args below meth c H locs cells slots Q (F0 m pc ls (.int x :: .int i :: .ref a :: rest)) := by
  intro T hT X
  obtain ⟨t, st, q⟩ := k _ rfl T hT X
  refine ⟨t, ?_, q⟩
  have h1 := X.bastoreOut hexec (by rw [hT]; exact hP q0 _ ha) ((hK.2 t0 _ ht).1 n (fun j => .int (f j))) (j := i) (by show (i < 0 ∨ (arrV _ _ _).slots.size ≤ _); rw [arrV_size]; exact Classical.byContradiction hout) (g := F0 m pc ls (.int x :: .int i :: .ref a :: rest)) rfl (rest := rest) rfl (by rw [hb]; exact hdg) t
  simp only [arrV_size] at h1
  exact h1 st
theorem vx_zaldZ {D : va_G} {cl : List vw_C} {ws : va_W} {tys : List (ClassId × FieldType)} {a : Nat} (hexec : p.tables.exec = Jvm.exec) (hb : c.code = cc) (hK : va_K D cl tys s) (hP : va_P D cl ws H) (q0 t0 : Nat) {cA : ClassId} {n : Nat} {f : Nat → Int32} (ha : ws[q0]? = some (a, .inl (cA, n, .inl f))) (ht : tys[t0]? = some (cA, .boolean)) {i : Int32} (hout : ¬ vp_in i n) (hdg : decode cc pc = .ok (.baload, 1))
    (k : ∀ tx : String, tx = (toString "Index " ++ toString i ++ toString " out of bounds for length " ++ toString n : String) → vx_Note p l e R s m args below meth c H locs cells slots Q (F0 m pc ls rest) "java/lang/ArrayIndexOutOfBoundsException" tx) : W p l e R s m args below meth c H locs cells slots Q (F0 m pc ls (.int i :: .ref a :: rest)) := by
  intro T hT X
  obtain ⟨t, st, q⟩ := k _ rfl T hT X
  refine ⟨t, ?_, q⟩
  have h1 := X.baloadOut hexec (by rw [hT]; exact hP q0 _ ha) ((hK.2 t0 _ ht).1 n (fun j => .int (f j))) (j := i) (by show (i < 0 ∨ (arrV _ _ _).slots.size ≤ _); rw [arrV_size]; exact Classical.byContradiction hout) (g := F0 m pc ls (.int i :: .ref a :: rest)) rfl (rest := rest) rfl (by rw [hb]; exact hdg) t
  simp only [arrV_size] at h1
  exact h1 st
theorem vx_zastZ {D : va_G} {cl : List vw_C} {ws : va_W} {tys : List (ClassId × FieldType)} {a : Nat} (hexec : p.tables.exec = Jvm.exec) (hb : c.code = cc) (hK : va_K D cl tys s) (hP : va_P D cl ws H) (q0 t0 : Nat) {cA : ClassId} {n : Nat} {f : Nat → Int32} (ha : ws[q0]? = some (a, .inl (cA, n, .inl f))) (ht : tys[t0]? = some (cA, .boolean)) {i : Int32} {x : Int32} (hout : ¬ vp_in i n) (hdg : decode cc pc = .ok (.bastore, 1))
    (k : ∀ tx : String, tx = (toString "Index " ++ toString i ++ toString " out of bounds for length " ++ toString n : String) → vx_Note p l e R s m args below meth c H locs cells slots Q (F0 m pc ls rest) "java/lang/ArrayIndexOutOfBoundsException" tx) : W p l e R s m args below meth c H locs cells slots Q (F0 m pc ls (.int x :: .int i :: .ref a :: rest)) := by
  intro T hT X
  obtain ⟨t, st, q⟩ := k _ rfl T hT X
  refine ⟨t, ?_, q⟩
  have h1 := X.bastoreOut hexec (by rw [hT]; exact hP q0 _ ha) ((hK.2 t0 _ ht).1 n (fun j => .int (f j))) (j := i) (by show (i < 0 ∨ (arrV _ _ _).slots.size ≤ _); rw [arrV_size]; exact Classical.byContradiction hout) (g := F0 m pc ls (.int x :: .int i :: .ref a :: rest)) rfl (rest := rest) rfl (by rw [hb]; exact hdg) t
  simp only [arrV_size] at h1
  exact h1 st
theorem vx_caldZ {D : va_G} {cl : List vw_C} {ws : va_W} {tys : List (ClassId × FieldType)} {a : Nat} (hexec : p.tables.exec = Jvm.exec) (hb : c.code = cc) (hK : va_K D cl tys s) (hP : va_P D cl ws H) (q0 t0 : Nat) {cA : ClassId} {n : Nat} {f : Nat → Int32} (ha : ws[q0]? = some (a, .inl (cA, n, .inl f))) (ht : tys[t0]? = some (cA, .char)) {i : Int32} (hout : ¬ vp_in i n) (hdg : decode cc pc = .ok (.caload, 1))
    (k : ∀ tx : String, tx = (toString "Index " ++ toString i ++ toString " out of bounds for length " ++ toString n : String) → vx_Note p l e R s m args below meth c H locs cells slots Q (F0 m pc ls rest) "java/lang/ArrayIndexOutOfBoundsException" tx) : W p l e R s m args below meth c H locs cells slots Q (F0 m pc ls (.int i :: .ref a :: rest)) := by
  intro T hT X
  obtain ⟨t, st, q⟩ := k _ rfl T hT X
  refine ⟨t, ?_, q⟩
  have h1 := X.caloadOut hexec (by rw [hT]; exact hP q0 _ ha) ((hK.2 t0 _ ht).1 n (fun j => .int (f j))) (j := i) (by show (i < 0 ∨ (arrV _ _ _).slots.size ≤ _); rw [arrV_size]; exact Classical.byContradiction hout) (g := F0 m pc ls (.int i :: .ref a :: rest)) rfl (rest := rest) rfl (by rw [hb]; exact hdg) t
  simp only [arrV_size] at h1
  exact h1 st
theorem vx_castZ {D : va_G} {cl : List vw_C} {ws : va_W} {tys : List (ClassId × FieldType)} {a : Nat} (hexec : p.tables.exec = Jvm.exec) (hb : c.code = cc) (hK : va_K D cl tys s) (hP : va_P D cl ws H) (q0 t0 : Nat) {cA : ClassId} {n : Nat} {f : Nat → Int32} (ha : ws[q0]? = some (a, .inl (cA, n, .inl f))) (ht : tys[t0]? = some (cA, .char)) {i : Int32} {x : Int32} (hout : ¬ vp_in i n) (hdg : decode cc pc = .ok (.castore, 1))
    (k : ∀ tx : String, tx = (toString "Index " ++ toString i ++ toString " out of bounds for length " ++ toString n : String) → vx_Note p l e R s m args below meth c H locs cells slots Q (F0 m pc ls rest) "java/lang/ArrayIndexOutOfBoundsException" tx) : W p l e R s m args below meth c H locs cells slots Q (F0 m pc ls (.int x :: .int i :: .ref a :: rest)) := by
  intro T hT X
  obtain ⟨t, st, q⟩ := k _ rfl T hT X
  refine ⟨t, ?_, q⟩
  have h1 := X.castoreOut hexec (by rw [hT]; exact hP q0 _ ha) ((hK.2 t0 _ ht).1 n (fun j => .int (f j))) (j := i) (by show (i < 0 ∨ (arrV _ _ _).slots.size ≤ _); rw [arrV_size]; exact Classical.byContradiction hout) (g := F0 m pc ls (.int x :: .int i :: .ref a :: rest)) rfl (rest := rest) rfl (by rw [hb]; exact hdg) t
  simp only [arrV_size] at h1
  exact h1 st
theorem vx_saldZ {D : va_G} {cl : List vw_C} {ws : va_W} {tys : List (ClassId × FieldType)} {a : Nat} (hexec : p.tables.exec = Jvm.exec) (hb : c.code = cc) (hK : va_K D cl tys s) (hP : va_P D cl ws H) (q0 t0 : Nat) {cA : ClassId} {n : Nat} {f : Nat → Int32} (ha : ws[q0]? = some (a, .inl (cA, n, .inl f))) (ht : tys[t0]? = some (cA, .short)) {i : Int32} (hout : ¬ vp_in i n) (hdg : decode cc pc = .ok (.saload, 1))
    (k : ∀ tx : String, tx = (toString "Index " ++ toString i ++ toString " out of bounds for length " ++ toString n : String) → vx_Note p l e R s m args below meth c H locs cells slots Q (F0 m pc ls rest) "java/lang/ArrayIndexOutOfBoundsException" tx) : W p l e R s m args below meth c H locs cells slots Q (F0 m pc ls (.int i :: .ref a :: rest)) := by
  intro T hT X
  obtain ⟨t, st, q⟩ := k _ rfl T hT X
  refine ⟨t, ?_, q⟩
  have h1 := X.saloadOut hexec (by rw [hT]; exact hP q0 _ ha) ((hK.2 t0 _ ht).1 n (fun j => .int (f j))) (j := i) (by show (i < 0 ∨ (arrV _ _ _).slots.size ≤ _); rw [arrV_size]; exact Classical.byContradiction hout) (g := F0 m pc ls (.int i :: .ref a :: rest)) rfl (rest := rest) rfl (by rw [hb]; exact hdg) t
  simp only [arrV_size] at h1
  exact h1 st
theorem vx_sastZ {D : va_G} {cl : List vw_C} {ws : va_W} {tys : List (ClassId × FieldType)} {a : Nat} (hexec : p.tables.exec = Jvm.exec) (hb : c.code = cc) (hK : va_K D cl tys s) (hP : va_P D cl ws H) (q0 t0 : Nat) {cA : ClassId} {n : Nat} {f : Nat → Int32} (ha : ws[q0]? = some (a, .inl (cA, n, .inl f))) (ht : tys[t0]? = some (cA, .short)) {i : Int32} {x : Int32} (hout : ¬ vp_in i n) (hdg : decode cc pc = .ok (.sastore, 1))
    (k : ∀ tx : String, tx = (toString "Index " ++ toString i ++ toString " out of bounds for length " ++ toString n : String) → vx_Note p l e R s m args below meth c H locs cells slots Q (F0 m pc ls rest) "java/lang/ArrayIndexOutOfBoundsException" tx) : W p l e R s m args below meth c H locs cells slots Q (F0 m pc ls (.int x :: .int i :: .ref a :: rest)) := by
  intro T hT X
  obtain ⟨t, st, q⟩ := k _ rfl T hT X
  refine ⟨t, ?_, q⟩
  have h1 := X.sastoreOut hexec (by rw [hT]; exact hP q0 _ ha) ((hK.2 t0 _ ht).1 n (fun j => .int (f j))) (j := i) (by show (i < 0 ∨ (arrV _ _ _).slots.size ≤ _); rw [arrV_size]; exact Classical.byContradiction hout) (g := F0 m pc ls (.int x :: .int i :: .ref a :: rest)) rfl (rest := rest) rfl (by rw [hb]; exact hdg) t
  simp only [arrV_size] at h1
  exact h1 st
theorem vx_laldZ {D : va_G} {cl : List vw_C} {ws : va_W} {tys : List (ClassId × FieldType)} {a : Nat} (hexec : p.tables.exec = Jvm.exec) (hb : c.code = cc) (hK : va_K D cl tys s) (hP : va_P D cl ws H) (q0 t0 : Nat) {cA : ClassId} {n : Nat} {f : Nat → Int64} (ha : ws[q0]? = some (a, .inl (cA, n, .inr (.inl f)))) (ht : tys[t0]? = some (cA, .long)) {i : Int32} (hout : ¬ vp_in i n) (hdg : decode cc pc = .ok (.laload, 1))
    (k : ∀ tx : String, tx = (toString "Index " ++ toString i ++ toString " out of bounds for length " ++ toString n : String) → vx_Note p l e R s m args below meth c H locs cells slots Q (F0 m pc ls rest) "java/lang/ArrayIndexOutOfBoundsException" tx) : W p l e R s m args below meth c H locs cells slots Q (F0 m pc ls (.int i :: .ref a :: rest)) := by
  intro T hT X
  obtain ⟨t, st, q⟩ := k _ rfl T hT X
  refine ⟨t, ?_, q⟩
  have h1 := X.laloadOut hexec (by rw [hT]; exact hP q0 _ ha) ((hK.2 t0 _ ht).1 n (fun j => .long (f j))) (j := i) (by show (i < 0 ∨ (arrV _ _ _).slots.size ≤ _); rw [arrV_size]; exact Classical.byContradiction hout) (g := F0 m pc ls (.int i :: .ref a :: rest)) rfl (rest := rest) rfl (by rw [hb]; exact hdg) t
  simp only [arrV_size] at h1
  exact h1 st
theorem vx_lastZ {D : va_G} {cl : List vw_C} {ws : va_W} {tys : List (ClassId × FieldType)} {a : Nat} (hexec : p.tables.exec = Jvm.exec) (hb : c.code = cc) (hK : va_K D cl tys s) (hP : va_P D cl ws H) (q0 t0 : Nat) {cA : ClassId} {n : Nat} {f : Nat → Int64} (ha : ws[q0]? = some (a, .inl (cA, n, .inr (.inl f)))) (ht : tys[t0]? = some (cA, .long)) {i : Int32} {x : Int64} (hout : ¬ vp_in i n) (hdg : decode cc pc = .ok (.lastore, 1))
    (k : ∀ tx : String, tx = (toString "Index " ++ toString i ++ toString " out of bounds for length " ++ toString n : String) → vx_Note p l e R s m args below meth c H locs cells slots Q (F0 m pc ls rest) "java/lang/ArrayIndexOutOfBoundsException" tx) : W p l e R s m args below meth c H locs cells slots Q (F0 m pc ls (.long x :: .int i :: .ref a :: rest)) := by
  intro T hT X
  obtain ⟨t, st, q⟩ := k _ rfl T hT X
  refine ⟨t, ?_, q⟩
  have h1 := X.lastoreOut hexec (by rw [hT]; exact hP q0 _ ha) ((hK.2 t0 _ ht).1 n (fun j => .long (f j))) (j := i) (by show (i < 0 ∨ (arrV _ _ _).slots.size ≤ _); rw [arrV_size]; exact Classical.byContradiction hout) (g := F0 m pc ls (.long x :: .int i :: .ref a :: rest)) rfl (rest := rest) rfl (by rw [hb]; exact hdg) t
  simp only [arrV_size] at h1
  exact h1 st
theorem vx_faldZ {D : va_G} {cl : List vw_C} {ws : va_W} {tys : List (ClassId × FieldType)} {a : Nat} (hexec : p.tables.exec = Jvm.exec) (hb : c.code = cc) (hK : va_K D cl tys s) (hP : va_P D cl ws H) (q0 t0 : Nat) {cA : ClassId} {n : Nat} {f : Nat → UInt32} (ha : ws[q0]? = some (a, .inl (cA, n, .inr (.inr (.inl f))))) (ht : tys[t0]? = some (cA, .float)) {i : Int32} (hout : ¬ vp_in i n) (hdg : decode cc pc = .ok (.faload, 1))
    (k : ∀ tx : String, tx = (toString "Index " ++ toString i ++ toString " out of bounds for length " ++ toString n : String) → vx_Note p l e R s m args below meth c H locs cells slots Q (F0 m pc ls rest) "java/lang/ArrayIndexOutOfBoundsException" tx) : W p l e R s m args below meth c H locs cells slots Q (F0 m pc ls (.int i :: .ref a :: rest)) := by
  intro T hT X
  obtain ⟨t, st, q⟩ := k _ rfl T hT X
  refine ⟨t, ?_, q⟩
  have h1 := X.faloadOut hexec (by rw [hT]; exact hP q0 _ ha) ((hK.2 t0 _ ht).1 n (fun j => .float (f j))) (j := i) (by show (i < 0 ∨ (arrV _ _ _).slots.size ≤ _); rw [arrV_size]; exact Classical.byContradiction hout) (g := F0 m pc ls (.int i :: .ref a :: rest)) rfl (rest := rest) rfl (by rw [hb]; exact hdg) t
  simp only [arrV_size] at h1
  exact h1 st
theorem vx_fastZ {D : va_G} {cl : List vw_C} {ws : va_W} {tys : List (ClassId × FieldType)} {a : Nat} (hexec : p.tables.exec = Jvm.exec) (hb : c.code = cc) (hK : va_K D cl tys s) (hP : va_P D cl ws H) (q0 t0 : Nat) {cA : ClassId} {n : Nat} {f : Nat → UInt32} (ha : ws[q0]? = some (a, .inl (cA, n, .inr (.inr (.inl f))))) (ht : tys[t0]? = some (cA, .float)) {i : Int32} {x : UInt32} (hout : ¬ vp_in i n) (hdg : decode cc pc = .ok (.fastore, 1))
    (k : ∀ tx : String, tx = (toString "Index " ++ toString i ++ toString " out of bounds for length " ++ toString n : String) → vx_Note p l e R s m args below meth c H locs cells slots Q (F0 m pc ls rest) "java/lang/ArrayIndexOutOfBoundsException" tx) : W p l e R s m args below meth c H locs cells slots Q (F0 m pc ls (.float x :: .int i :: .ref a :: rest)) := by
  intro T hT X
  obtain ⟨t, st, q⟩ := k _ rfl T hT X
  refine ⟨t, ?_, q⟩
  have h1 := X.fastoreOut hexec (by rw [hT]; exact hP q0 _ ha) ((hK.2 t0 _ ht).1 n (fun j => .float (f j))) (j := i) (by show (i < 0 ∨ (arrV _ _ _).slots.size ≤ _); rw [arrV_size]; exact Classical.byContradiction hout) (g := F0 m pc ls (.float x :: .int i :: .ref a :: rest)) rfl (rest := rest) rfl (by rw [hb]; exact hdg) t
  simp only [arrV_size] at h1
  exact h1 st
theorem vx_daldZ {D : va_G} {cl : List vw_C} {ws : va_W} {tys : List (ClassId × FieldType)} {a : Nat} (hexec : p.tables.exec = Jvm.exec) (hb : c.code = cc) (hK : va_K D cl tys s) (hP : va_P D cl ws H) (q0 t0 : Nat) {cA : ClassId} {n : Nat} {f : Nat → UInt64} (ha : ws[q0]? = some (a, .inl (cA, n, .inr (.inr (.inr (.inl f)))))) (ht : tys[t0]? = some (cA, .double)) {i : Int32} (hout : ¬ vp_in i n) (hdg : decode cc pc = .ok (.daload, 1))
    (k : ∀ tx : String, tx = (toString "Index " ++ toString i ++ toString " out of bounds for length " ++ toString n : String) → vx_Note p l e R s m args below meth c H locs cells slots Q (F0 m pc ls rest) "java/lang/ArrayIndexOutOfBoundsException" tx) : W p l e R s m args below meth c H locs cells slots Q (F0 m pc ls (.int i :: .ref a :: rest)) := by
  intro T hT X
  obtain ⟨t, st, q⟩ := k _ rfl T hT X
  refine ⟨t, ?_, q⟩
  have h1 := X.daloadOut hexec (by rw [hT]; exact hP q0 _ ha) ((hK.2 t0 _ ht).1 n (fun j => .double (f j))) (j := i) (by show (i < 0 ∨ (arrV _ _ _).slots.size ≤ _); rw [arrV_size]; exact Classical.byContradiction hout) (g := F0 m pc ls (.int i :: .ref a :: rest)) rfl (rest := rest) rfl (by rw [hb]; exact hdg) t
  simp only [arrV_size] at h1
  exact h1 st
theorem vx_dastZ {D : va_G} {cl : List vw_C} {ws : va_W} {tys : List (ClassId × FieldType)} {a : Nat} (hexec : p.tables.exec = Jvm.exec) (hb : c.code = cc) (hK : va_K D cl tys s) (hP : va_P D cl ws H) (q0 t0 : Nat) {cA : ClassId} {n : Nat} {f : Nat → UInt64} (ha : ws[q0]? = some (a, .inl (cA, n, .inr (.inr (.inr (.inl f)))))) (ht : tys[t0]? = some (cA, .double)) {i : Int32} {x : UInt64} (hout : ¬ vp_in i n) (hdg : decode cc pc = .ok (.dastore, 1))
    (k : ∀ tx : String, tx = (toString "Index " ++ toString i ++ toString " out of bounds for length " ++ toString n : String) → vx_Note p l e R s m args below meth c H locs cells slots Q (F0 m pc ls rest) "java/lang/ArrayIndexOutOfBoundsException" tx) : W p l e R s m args below meth c H locs cells slots Q (F0 m pc ls (.double x :: .int i :: .ref a :: rest)) := by
  intro T hT X
  obtain ⟨t, st, q⟩ := k _ rfl T hT X
  refine ⟨t, ?_, q⟩
  have h1 := X.dastoreOut hexec (by rw [hT]; exact hP q0 _ ha) ((hK.2 t0 _ ht).1 n (fun j => .double (f j))) (j := i) (by show (i < 0 ∨ (arrV _ _ _).slots.size ≤ _); rw [arrV_size]; exact Classical.byContradiction hout) (g := F0 m pc ls (.double x :: .int i :: .ref a :: rest)) rfl (rest := rest) rfl (by rw [hb]; exact hdg) t
  simp only [arrV_size] at h1
  exact h1 st
theorem vx_arraylengthN (hexec : p.tables.exec = Jvm.exec) (hb : c.code = cc) (hdg : decode cc pc = .ok (.arraylength, 1)) (k : vx_NoteN p l e R s m args below meth c H locs cells slots Q (F0 m pc ls rest)) : W p l e R s m args below meth c H locs cells slots Q (F0 m pc ls (.null :: rest)) := by
  intro T hT X
  obtain ⟨t, st, q⟩ := k T hT X
  exact ⟨t, X.arraylengthNull hexec (g := F0 m pc ls (.null :: rest)) rfl (rest := rest) rfl (by rw [hb]; exact hdg) t st, q⟩
theorem vx_ialoadN (hexec : p.tables.exec = Jvm.exec) (hb : c.code = cc) {i : Int32} (hdg : decode cc pc = .ok (.iaload, 1)) (k : vx_NoteN p l e R s m args below meth c H locs cells slots Q (F0 m pc ls rest)) : W p l e R s m args below meth c H locs cells slots Q (F0 m pc ls (.int i :: .null :: rest)) := by
  intro T hT X
  obtain ⟨t, st, q⟩ := k T hT X
  exact ⟨t, X.ialoadNull hexec (g := F0 m pc ls (.int i :: .null :: rest)) rfl (rest := rest) rfl (by rw [hb]; exact hdg) t st, q⟩
theorem vx_laloadN (hexec : p.tables.exec = Jvm.exec) (hb : c.code = cc) {i : Int32} (hdg : decode cc pc = .ok (.laload, 1)) (k : vx_NoteN p l e R s m args below meth c H locs cells slots Q (F0 m pc ls rest)) : W p l e R s m args below meth c H locs cells slots Q (F0 m pc ls (.int i :: .null :: rest)) := by
  intro T hT X
  obtain ⟨t, st, q⟩ := k T hT X
  exact ⟨t, X.laloadNull hexec (g := F0 m pc ls (.int i :: .null :: rest)) rfl (rest := rest) rfl (by rw [hb]; exact hdg) t st, q⟩
theorem vx_faloadN (hexec : p.tables.exec = Jvm.exec) (hb : c.code = cc) {i : Int32} (hdg : decode cc pc = .ok (.faload, 1)) (k : vx_NoteN p l e R s m args below meth c H locs cells slots Q (F0 m pc ls rest)) : W p l e R s m args below meth c H locs cells slots Q (F0 m pc ls (.int i :: .null :: rest)) := by
  intro T hT X
  obtain ⟨t, st, q⟩ := k T hT X
  exact ⟨t, X.faloadNull hexec (g := F0 m pc ls (.int i :: .null :: rest)) rfl (rest := rest) rfl (by rw [hb]; exact hdg) t st, q⟩
theorem vx_daloadN (hexec : p.tables.exec = Jvm.exec) (hb : c.code = cc) {i : Int32} (hdg : decode cc pc = .ok (.daload, 1)) (k : vx_NoteN p l e R s m args below meth c H locs cells slots Q (F0 m pc ls rest)) : W p l e R s m args below meth c H locs cells slots Q (F0 m pc ls (.int i :: .null :: rest)) := by
  intro T hT X
  obtain ⟨t, st, q⟩ := k T hT X
  exact ⟨t, X.daloadNull hexec (g := F0 m pc ls (.int i :: .null :: rest)) rfl (rest := rest) rfl (by rw [hb]; exact hdg) t st, q⟩
theorem vx_aaloadN (hexec : p.tables.exec = Jvm.exec) (hb : c.code = cc) {i : Int32} (hdg : decode cc pc = .ok (.aaload, 1)) (k : vx_NoteN p l e R s m args below meth c H locs cells slots Q (F0 m pc ls rest)) : W p l e R s m args below meth c H locs cells slots Q (F0 m pc ls (.int i :: .null :: rest)) := by
  intro T hT X
  obtain ⟨t, st, q⟩ := k T hT X
  exact ⟨t, X.aaloadNull hexec (g := F0 m pc ls (.int i :: .null :: rest)) rfl (rest := rest) rfl (by rw [hb]; exact hdg) t st, q⟩
theorem vx_baloadN (hexec : p.tables.exec = Jvm.exec) (hb : c.code = cc) {i : Int32} (hdg : decode cc pc = .ok (.baload, 1)) (k : vx_NoteN p l e R s m args below meth c H locs cells slots Q (F0 m pc ls rest)) : W p l e R s m args below meth c H locs cells slots Q (F0 m pc ls (.int i :: .null :: rest)) := by
  intro T hT X
  obtain ⟨t, st, q⟩ := k T hT X
  exact ⟨t, X.baloadNull hexec (g := F0 m pc ls (.int i :: .null :: rest)) rfl (rest := rest) rfl (by rw [hb]; exact hdg) t st, q⟩
theorem vx_caloadN (hexec : p.tables.exec = Jvm.exec) (hb : c.code = cc) {i : Int32} (hdg : decode cc pc = .ok (.caload, 1)) (k : vx_NoteN p l e R s m args below meth c H locs cells slots Q (F0 m pc ls rest)) : W p l e R s m args below meth c H locs cells slots Q (F0 m pc ls (.int i :: .null :: rest)) := by
  intro T hT X
  obtain ⟨t, st, q⟩ := k T hT X
  exact ⟨t, X.caloadNull hexec (g := F0 m pc ls (.int i :: .null :: rest)) rfl (rest := rest) rfl (by rw [hb]; exact hdg) t st, q⟩
theorem vx_saloadN (hexec : p.tables.exec = Jvm.exec) (hb : c.code = cc) {i : Int32} (hdg : decode cc pc = .ok (.saload, 1)) (k : vx_NoteN p l e R s m args below meth c H locs cells slots Q (F0 m pc ls rest)) : W p l e R s m args below meth c H locs cells slots Q (F0 m pc ls (.int i :: .null :: rest)) := by
  intro T hT X
  obtain ⟨t, st, q⟩ := k T hT X
  exact ⟨t, X.saloadNull hexec (g := F0 m pc ls (.int i :: .null :: rest)) rfl (rest := rest) rfl (by rw [hb]; exact hdg) t st, q⟩
theorem vx_iastoreN (hexec : p.tables.exec = Jvm.exec) (hb : c.code = cc) {x : Int32} {i : Int32} (hdg : decode cc pc = .ok (.iastore, 1)) (k : vx_NoteN p l e R s m args below meth c H locs cells slots Q (F0 m pc ls rest)) : W p l e R s m args below meth c H locs cells slots Q (F0 m pc ls (.int x :: .int i :: .null :: rest)) := by
  intro T hT X
  obtain ⟨t, st, q⟩ := k T hT X
  exact ⟨t, X.iastoreNull hexec (g := F0 m pc ls (.int x :: .int i :: .null :: rest)) rfl (rest := rest) rfl (by rw [hb]; exact hdg) t st, q⟩
theorem vx_lastoreN (hexec : p.tables.exec = Jvm.exec) (hb : c.code = cc) {x : Int64} {i : Int32} (hdg : decode cc pc = .ok (.lastore, 1)) (k : vx_NoteN p l e R s m args below meth c H locs cells slots Q (F0 m pc ls rest)) : W p l e R s m args below meth c H locs cells slots Q (F0 m pc ls (.long x :: .int i :: .null :: rest)) := by
  intro T hT X
  obtain ⟨t, st, q⟩ := k T hT X
  exact ⟨t, X.lastoreNull hexec (g := F0 m pc ls (.long x :: .int i :: .null :: rest)) rfl (rest := rest) rfl (by rw [hb]; exact hdg) t st, q⟩
theorem vx_fastoreN (hexec : p.tables.exec = Jvm.exec) (hb : c.code = cc) {x : UInt32} {i : Int32} (hdg : decode cc pc = .ok (.fastore, 1)) (k : vx_NoteN p l e R s m args below meth c H locs cells slots Q (F0 m pc ls rest)) : W p l e R s m args below meth c H locs cells slots Q (F0 m pc ls (.float x :: .int i :: .null :: rest)) := by
  intro T hT X
  obtain ⟨t, st, q⟩ := k T hT X
  exact ⟨t, X.fastoreNull hexec (g := F0 m pc ls (.float x :: .int i :: .null :: rest)) rfl (rest := rest) rfl (by rw [hb]; exact hdg) t st, q⟩
theorem vx_dastoreN (hexec : p.tables.exec = Jvm.exec) (hb : c.code = cc) {x : UInt64} {i : Int32} (hdg : decode cc pc = .ok (.dastore, 1)) (k : vx_NoteN p l e R s m args below meth c H locs cells slots Q (F0 m pc ls rest)) : W p l e R s m args below meth c H locs cells slots Q (F0 m pc ls (.double x :: .int i :: .null :: rest)) := by
  intro T hT X
  obtain ⟨t, st, q⟩ := k T hT X
  exact ⟨t, X.dastoreNull hexec (g := F0 m pc ls (.double x :: .int i :: .null :: rest)) rfl (rest := rest) rfl (by rw [hb]; exact hdg) t st, q⟩
theorem vx_bastoreN (hexec : p.tables.exec = Jvm.exec) (hb : c.code = cc) {x : Int32} {i : Int32} (hdg : decode cc pc = .ok (.bastore, 1)) (k : vx_NoteN p l e R s m args below meth c H locs cells slots Q (F0 m pc ls rest)) : W p l e R s m args below meth c H locs cells slots Q (F0 m pc ls (.int x :: .int i :: .null :: rest)) := by
  intro T hT X
  obtain ⟨t, st, q⟩ := k T hT X
  exact ⟨t, X.bastoreNull hexec (g := F0 m pc ls (.int x :: .int i :: .null :: rest)) rfl (rest := rest) rfl (by rw [hb]; exact hdg) t st, q⟩
theorem vx_castoreN (hexec : p.tables.exec = Jvm.exec) (hb : c.code = cc) {x : Int32} {i : Int32} (hdg : decode cc pc = .ok (.castore, 1)) (k : vx_NoteN p l e R s m args below meth c H locs cells slots Q (F0 m pc ls rest)) : W p l e R s m args below meth c H locs cells slots Q (F0 m pc ls (.int x :: .int i :: .null :: rest)) := by
  intro T hT X
  obtain ⟨t, st, q⟩ := k T hT X
  exact ⟨t, X.castoreNull hexec (g := F0 m pc ls (.int x :: .int i :: .null :: rest)) rfl (rest := rest) rfl (by rw [hb]; exact hdg) t st, q⟩
theorem vx_sastoreN (hexec : p.tables.exec = Jvm.exec) (hb : c.code = cc) {x : Int32} {i : Int32} (hdg : decode cc pc = .ok (.sastore, 1)) (k : vx_NoteN p l e R s m args below meth c H locs cells slots Q (F0 m pc ls rest)) : W p l e R s m args below meth c H locs cells slots Q (F0 m pc ls (.int x :: .int i :: .null :: rest)) := by
  intro T hT X
  obtain ⟨t, st, q⟩ := k T hT X
  exact ⟨t, X.sastoreNull hexec (g := F0 m pc ls (.int x :: .int i :: .null :: rest)) rfl (rest := rest) rfl (by rw [hb]; exact hdg) t st, q⟩
theorem vx_invokeN {own C : String} {index maxL : Nat} {y : MethodName} {bytes : ByteArray} {ret : Option FieldType} (hexec : p.tables.exec = Jvm.exec) (hb : c.code = cc) (hown : s.vm.findClass own = some m.cls) (hlink : (Cond.methodLink own index y).before args s = true) (hinst : (Cond.instanceMethod y).before args s = true) (hcode : (Cond.code y bytes maxL ret).before args s = true) (hsel : (Cond.selects C y y).before args s = true)
    (hx : y.cls ≠ "java/lang/invoke/MethodHandle" ∧ y.cls ≠ "java/lang/invoke/VarHandle") {As : List Value} (hlen : (parseMethodDescriptor y.desc).map (fun d => d.parameters.length) = some As.length) (hdg : decode cc pc = .ok (.invokevirtual index, 3))
    (k : vx_NoteN p l e R s m args below meth c H locs cells slots Q (F0 m pc ls rest)) {st0 : List Value} (hst : st0 = As.reverse ++ .null :: rest) : W p l e R s m args below meth c H locs cells slots Q (F0 m pc ls st0) := by
  intro T hT X
  obtain ⟨r0, r, hn, hrm, hstR, hsigR⟩ := va_Decl.of hinst hcode
  obtain ⟨c2, r2, m2, q1, q2, q3, q4, kP, hkP, hkPi⟩ := Cond.selects_spec hsel
  cases hn.symm.trans q3
  have hl9 : As.length = r.sig.parameters.length := by
    rw [hsigR] at hlen
    exact (Option.some.inj hlen).symm
  obtain ⟨vm', X1, st1⟩ := X.invokevirtualNull hexec hown hlink hn hrm hstR hkP hkPi hx (g := F0 m pc ls st0) rfl (argsL := As) (rest := rest) hl9 hst (by rw [hb]; exact hdg)
  obtain ⟨t, st, q⟩ := k (T.setVm vm') hT X1
  exact ⟨t, st1 t st, q⟩
theorem vx_newarrayZ {atype : ArrayType} (hexec : p.tables.exec = Jvm.exec) (hb : c.code = cc) {n : Int32} (h0 : n < 0) (hdg : decode cc pc = .ok (.newarray atype, 2)) (k : ∀ tx : String, tx = toString n → vx_Note p l e R s m args below meth c H locs cells slots Q (F0 m pc ls rest) "java/lang/NegativeArraySizeException" tx) : W p l e R s m args below meth c H locs cells slots Q (F0 m pc ls (.int n :: rest)) := by
  intro T hT X
  obtain ⟨t, st, q⟩ := k _ rfl T hT X
  exact ⟨t, X.newarrayNegative hexec (g := F0 m pc ls (.int n :: rest)) rfl h0 (rest := rest) rfl (by rw [hb]; exact hdg) t st, q⟩
end
end VXM
/-! ===== END ===== -/
/-! ===== BEGIN an exception as an object: made, kept, thrown later (no traces kept) ===== -/
section VXK
variable {p : Program} {l : Launch} {e : Env} {R : Room} {s : State} {m₀ : MethodId} {args : Array Value} {below : List Frame} {meth : Method} {c : Code} {W : State} {locs : List Loc} {cells slots : Nat}
set_option maxHeartbeats 1000000 in
theorem vx_ctorMadeS (X : Stand p l e R s m₀ args below meth c W locs cells slots) (hexec : p.tables.exec = Jvm.exec) (htr : e.platform.stackTraces = false) {own cls : String} {names : List String} {ic : Nat}
    (hown : s.vm.findClass own = some m₀.cls) (hcls : Bundle.fit cls = true) (hnames : ∀ n ∈ names, Bundle.fit n = true)
    (h : ∀ a ∈ Bundle.ownAtoms own ic cls names, a.before args s = true)
    (hlocs : ∀ x ∈ locs, ∀ cell, s.heap[x.base]? = some cell → cell.vm.isStatics = false)
    {a : Addr} {cX : ClassId} {kX : Class} (hfoundX : s.vm.findClass cls = some cX) (hkX : s.vm.classes[cX]? = some kX) (hcell : W.heap[a]? = some (freshCell cX kX)) (hnew : s.heap.size ≤ a)
    {msg : Value} (hmsg : msg.isRef = true)
    {g : JFrame} (hg : g.method = m₀) (hsize : g.locals.size = c.maxLocals) {rest : List Value} (hstack : g.stack = msg :: .ref a :: .ref a :: rest)
    (hd6 : decode c.code g.pc = .ok (.invokespecial ic, 3))
    (hRframes : names.length + 3 < R.frames) (hRlocals : 2 * g.monitorRoom + ((Value.ref a :: rest).map fun v => v.category).sum + (13 * (names.length + 1) + 42) ≤ R.locals) :
    ∃ (V : State) (ce : Cell) (L : List Loc), Stand p l e R s m₀ args below meth c (V.setCell a ce) (locs ++ L) cells slots ∧ (∀ y ∈ L, y.base = a) ∧ a < V.heap.size ∧ ce.cls = cX ∧ ce.vm = .none ∧
      ∀ target, Steps p.tables e below ((V.setCell a ce).setTop { g with stack := .ref a :: rest, pc := g.pc + 3 }) target → Steps p.tables e below (W.setTop g) target := by
  have howns : e.platform.frameOwnsMonitors = true := by rw [X.admits.platform]
  have hfin : e.platform.finalization = false := by rw [X.admits.platform]
  have hpl : e.platform.magicAccessors = ({} : Platform).magicAccessors := by rw [X.admits.platform]
  have a' : ∀ x, x ∈ Bundle.ownAtoms own ic cls names → x.holds args s none s [] = true := fun x hx => h x hx
  obtain ⟨T, Z0, L, -, Y⟩ := ThrowableC.of_atoms (args := args) howns hfin hpl (fun x hx => h x (by simp [Bundle.ownAtoms, hx]))
  obtain ⟨Z, M, LZ, LM, hnZ⟩ := Init0T.ofS_atoms (args := args) hpl L Y (fun x hx => h x (by simp [Bundle.ownAtoms, hx]))
  obtain ⟨P1, Ps, hlen, L1, hL, hP1m, hlink1, hlink⟩ := Bundle.chainS (args := args) hpl hnZ names cls hcls hnames (fun x hx => h x (by simp [Bundle.ownAtoms, hx]))
  have hfound : s.vm.findClass cls = some P1.m.cls := findClass_of_methodNamed hP1m
  cases Option.some.inj (hfoundX.symm.trans hfound)
  obtain ⟨c1, kX', hc1, hk, hord, -, -, hn6⟩ := Cond.instantiable_spec (a' (.instantiable cls 6) (by simp [Bundle.ownAtoms]))
  cases Option.some.inj (hc1.symm.trans hfound)
  cases Option.some.inj (hkX.symm.trans hk)
  have hsel0 : selectMethod e.platform s.vm P1.m.cls T.fill0 = .method T.fill0 := by
    obtain ⟨c2, r2, m2, q1, q2, q3, q4, -⟩ := Cond.selects_spec (a' (.selects cls Bundle.tFill0 Bundle.tFill0) (by simp [Bundle.ownAtoms]))
    cases Option.some.inj (q1.symm.trans hfound)
    cases Option.some.inj (q2.symm.trans (State.methodFound?_of_named Y.fill0 (by decide)))
    cases Option.some.inj (q3.symm.trans Y.fill0)
    rw [Launch.admits_selectMethod X.admits]; exact q4
  have hselF : selectMethod e.platform s.vm P1.m.cls T.fill = .method T.fill := by
    obtain ⟨c2, r2, m2, q1, q2, q3, q4, -⟩ := Cond.selects_spec (a' (.selects cls Bundle.tFill Bundle.tFill) (by simp [Bundle.ownAtoms]))
    cases Option.some.inj (q1.symm.trans hfound)
    cases Option.some.inj (q2.symm.trans (State.methodFound?_of_named Y.fill (by decide)))
    cases Option.some.inj (q3.symm.trans Y.fill)
    rw [Launch.admits_selectMethod X.admits]; exact q4
  obtain ⟨cellS0, hcS0, hiss⟩ := Y.statics
  obtain ⟨u0, hu0⟩ := Cond.staticRefV Y.unassigned L.unassignedStatic L.statics hcS0 hiss (a' (.isRef (.static Bundle.tN "UNASSIGNED_STACK" Bundle.steD)) (by simp [Bundle.ownAtoms]))
  obtain ⟨sen, hsen⟩ := Cond.staticRefV Y.sentinel L.sentinelStatic L.statics hcS0 hiss (a' (.isRef (.static Bundle.tN "SUPPRESSED_SENTINEL" Bundle.listD)) (by simp [Bundle.ownAtoms]))
  obtain ⟨ci198, i198, fB, hk198, hg198, ha198, hsB, -, hnB, htB, hffB⟩ := Cond.ownField (t := .object "java/lang/Object") Y.found L.cls (by decide +kernel) (a' (.fieldLink Bundle.tN 198 Bundle.tN "backtrace" "Ljava/lang/Object;") (by simp [Bundle.ownAtoms])) (a' (.lays Bundle.tN Bundle.tN "backtrace" "Ljava/lang/Object;") (by simp [Bundle.ownAtoms])) e.platform hpl
  obtain ⟨cellS, hcS', heS, -, hkeep⟩ := X.same.2.2.2.2.2 T.aS cellS0 hcS0
  have hcellS : W.heap[T.aS]? = some cellS := hcS'
  have hout' : ∀ i, (⟨T.aS, i⟩ : Loc) ∉ locs := fun i hmem => by
    have := hlocs _ hmem cellS0 hcS0
    rw [hiss] at this; cases this
  have hknownS : cellS.vm ≠ .unknown := by
    rw [heS]; intro hu
    rw [show cellS0.vm = .unknown from hu] at hiss
    cases hiss
  have hneS : T.aS ≠ a := Nat.ne_of_lt (Nat.lt_of_lt_of_le (Array.getElem?_eq_some_iff.mp hcS0).1 hnew)
  obtain ⟨iM, hffM⟩ := Y.msg
  obtain ⟨tyC, dC, hdC, hdnC⟩ := Cond.laysAt hfound hk Y.cause (a' (.lays cls Bundle.tN "cause" "Ljava/lang/Throwable;") (by simp [Bundle.ownAtoms]))
  obtain ⟨tyS, dS, hdS, hdnS⟩ := Cond.laysAt hfound hk Y.stack (a' (.lays cls Bundle.tN "stackTrace" Bundle.steD) (by simp [Bundle.ownAtoms]))
  obtain ⟨tyP, dP, hdP, hdnP⟩ := Cond.laysAt hfound hk Y.supp (a' (.lays cls Bundle.tN "suppressedExceptions" Bundle.listD) (by simp [Bundle.ownAtoms]))
  obtain ⟨tyM, dM, hdM, hdnM⟩ := Cond.laysAt hfound hk hffM (a' (.lays cls Bundle.tN "detailMessage" "Ljava/lang/String;") (by simp [Bundle.ownAtoms]))
  obtain ⟨tyB, dB, hdB, hdnB⟩ := Cond.laysAt hfound hk hffB (a' (.lays cls Bundle.tN "backtrace" "Ljava/lang/Object;") (by simp [Bundle.ownAtoms]))
  have bC := Cond.laysApart hdB hdC hdnB hdnC (by rw [hnB, Y.causeName]; decide)
  have bS := Cond.laysApart hdB hdS hdnB hdnS (by rw [hnB, Y.stackName]; decide)
  have bP := Cond.laysApart hdB hdP hdnB hdnP (by rw [hnB, Y.suppName]; decide)
  have hskip : SkipFacts T e.platform s (fun u => u) u0 ((preparedCellV T.toThrowableT (freshCell P1.m.cls kX) a u0 sen).withEntry W.cur) :=
    ⟨{ ci198 := ci198, i198 := i198, fBack := fB }, ⟨hk198, hg198, ha198, hsB⟩, by
      have := fresh_default (c := P1.m.cls) tyB
      rw [htB] at this
      simpa [preparedCellV, Cell.setSlot, Cell.withEntry, Array.getElem?_setIfInBounds, bC, bS, bP, bC.symm, bS.symm, bP.symm, defaultValue] using this, fun _ _ => rfl⟩
  obtain ⟨tm, methC, cdC, kC, vm₁, hnC, -, -, -, -, -, -, -, hW₁, st1⟩ := Steps.initColdS (tb := p.tables) (e := e) (below := below) (s := s) (U := W) X.here hexec X.warmed hpl hown (t := Bundle.initS cls) rfl rfl (Bundle.fit_spec hcls).2
    (a' (.methodLink own ic (Bundle.initS cls)) (by simp [Bundle.ownAtoms])) (h (.instanceMethod (Bundle.initS cls)) (by cases names <;> simp [Bundle.ownAtoms, Bundle.chainSAtoms, Bundle.passSAtoms])) (bytes := Bundle.six) (maxL := 2) (h (.code (Bundle.initS cls) Bundle.six 2 none) (by cases names <;> simp [Bundle.ownAtoms, Bundle.chainSAtoms, Bundle.passSAtoms]))
    (f := g) hg (a := a) (msg := msg) (rest := .ref a :: rest) hstack hd6
  cases Option.some.inj (hnC.symm.trans hP1m)
  have X₁ := X.noted hW₁
  obtain ⟨vm₂, X₂, st2⟩ := X₁.ctorMessageOffV hexec (g := { g with stack := .ref a :: rest }) hg hsize T L Z LZ M LM (P1 :: Ps)
    (fun P hP => by rcases List.mem_cons.mp hP with rfl | hP; exact L1; exact hL P hP) ⟨hlink1, hlink⟩ (u0 := u0) (sen := sen) (self := a) hmsg (cell := freshCell P1.m.cls kX) (cellS := cellS)
    hcell (fun _ => by simp) (by simp) rfl rfl hsel0 hselF hcellS hneS hknownS (by rw [hkeep _ (hout' _)]; exact hu0) (by rw [hkeep _ (hout' _)]; exact hsen)
    (Takes.of_laid hk hord tyC (by rw [Y.causeType]; rfl)) (Takes.of_laid hk hord tyS (by rw [Y.stackType]; exact fits_refV_array _ u0)) (Takes.of_laid hk hord tyP (by rw [Y.suppType]; exact fits_refV_object _ sen))
    (Takes.of_laid hk hord tyM (by rw [Y.msgType]; exact fits_refV_object _ ⟨msg, hmsg⟩)) Y.objLocals hskip htr [] hd6
    (by simp only [List.length_cons, hlen]; omega) (by simp only [List.length_cons, hlen]; exact hRlocals)
  have hlt : a < ((W.setVm vm₁).setVm vm₂).heap.size := (Array.getElem?_eq_some_iff.mp hcell).1
  refine ⟨(W.setVm vm₁).setVm vm₂, _, _, X₂, fun y hy => ?_, hlt, rfl, rfl, fun target hwalk => st1 _ (fun acts => ?_)⟩
  · simp only [List.mem_cons, List.not_mem_nil, or_false] at hy
    rcases hy with rfl | rfl | rfl | rfl | rfl <;> rfl
  · rw [doInvoke_state]
    exact st2 _ hwalk
set_option maxHeartbeats 1000000 in
theorem vx_ctorMade0 (X : Stand p l e R s m₀ args below meth c W locs cells slots) (hexec : p.tables.exec = Jvm.exec) (htr : e.platform.stackTraces = false) {own cls : String} {names : List String} {ic : Nat}
    (hown : s.vm.findClass own = some m₀.cls) (hcls : Bundle.fit cls = true) (hnames : ∀ n ∈ names, Bundle.fit n = true)
    (h : ∀ a ∈ Bundle.ownAtoms0 own ic cls names, a.before args s = true)
    (hlocs : ∀ x ∈ locs, ∀ cell, s.heap[x.base]? = some cell → cell.vm.isStatics = false)
    {a : Addr} {cX : ClassId} {kX : Class} (hfoundX : s.vm.findClass cls = some cX) (hkX : s.vm.classes[cX]? = some kX) (hcell : W.heap[a]? = some (freshCell cX kX)) (hnew : s.heap.size ≤ a)
    {g : JFrame} (hg : g.method = m₀) (hsize : g.locals.size = c.maxLocals) {rest : List Value} (hstack : g.stack = .ref a :: .ref a :: rest)
    (hd6 : decode c.code g.pc = .ok (.invokespecial ic, 3))
    (hRframes : names.length + 3 < R.frames) (hRlocals : 2 * g.monitorRoom + ((Value.ref a :: rest).map fun v => v.category).sum + (13 * (names.length + 1) + 41) ≤ R.locals) :
    ∃ (V : State) (ce : Cell) (L : List Loc), Stand p l e R s m₀ args below meth c (V.setCell a ce) (locs ++ L) cells slots ∧ (∀ y ∈ L, y.base = a) ∧ a < V.heap.size ∧ ce.cls = cX ∧ ce.vm = .none ∧
      ∀ target, Steps p.tables e below ((V.setCell a ce).setTop { g with stack := .ref a :: rest, pc := g.pc + 3 }) target → Steps p.tables e below (W.setTop g) target := by
  have howns : e.platform.frameOwnsMonitors = true := by rw [X.admits.platform]
  have hfin : e.platform.finalization = false := by rw [X.admits.platform]
  have hpl : e.platform.magicAccessors = ({} : Platform).magicAccessors := by rw [X.admits.platform]
  have a' : ∀ x, x ∈ Bundle.ownAtoms0 own ic cls names → x.holds args s none s [] = true := fun x hx => h x hx
  obtain ⟨T, Z, L, LZ, Y⟩ := ThrowableC.of_atoms (args := args) howns hfin hpl (fun x hx => h x (by simp [Bundle.ownAtoms0, hx]))
  obtain ⟨P1, Ps, hlen, L1, hL, hP1m, hlink1, hlink⟩ := Bundle.chain0 (args := args) hpl Y.init0 names cls hcls hnames (fun x hx => h x (by simp [Bundle.ownAtoms0, hx]))
  have hfound : s.vm.findClass cls = some P1.m.cls := findClass_of_methodNamed hP1m
  cases Option.some.inj (hfoundX.symm.trans hfound)
  obtain ⟨c1, kX', hc1, hk, hord, -, -, hn6⟩ := Cond.instantiable_spec (a' (.instantiable cls 6) (by simp [Bundle.ownAtoms0]))
  cases Option.some.inj (hc1.symm.trans hfound)
  cases Option.some.inj (hkX.symm.trans hk)
  have hsel0 : selectMethod e.platform s.vm P1.m.cls T.fill0 = .method T.fill0 := by
    obtain ⟨c2, r2, m2, q1, q2, q3, q4, -⟩ := Cond.selects_spec (a' (.selects cls Bundle.tFill0 Bundle.tFill0) (by simp [Bundle.ownAtoms0]))
    cases Option.some.inj (q1.symm.trans hfound)
    cases Option.some.inj (q2.symm.trans (State.methodFound?_of_named Y.fill0 (by decide)))
    cases Option.some.inj (q3.symm.trans Y.fill0)
    rw [Launch.admits_selectMethod X.admits]; exact q4
  have hselF : selectMethod e.platform s.vm P1.m.cls T.fill = .method T.fill := by
    obtain ⟨c2, r2, m2, q1, q2, q3, q4, -⟩ := Cond.selects_spec (a' (.selects cls Bundle.tFill Bundle.tFill) (by simp [Bundle.ownAtoms0]))
    cases Option.some.inj (q1.symm.trans hfound)
    cases Option.some.inj (q2.symm.trans (State.methodFound?_of_named Y.fill (by decide)))
    cases Option.some.inj (q3.symm.trans Y.fill)
    rw [Launch.admits_selectMethod X.admits]; exact q4
  obtain ⟨cellS0, hcS0, hiss⟩ := Y.statics
  obtain ⟨u0, hu0⟩ := Cond.staticRefV Y.unassigned L.unassignedStatic L.statics hcS0 hiss (a' (.isRef (.static Bundle.tN "UNASSIGNED_STACK" Bundle.steD)) (by simp [Bundle.ownAtoms0]))
  obtain ⟨sen, hsen⟩ := Cond.staticRefV Y.sentinel L.sentinelStatic L.statics hcS0 hiss (a' (.isRef (.static Bundle.tN "SUPPRESSED_SENTINEL" Bundle.listD)) (by simp [Bundle.ownAtoms0]))
  obtain ⟨ci198, i198, fB, hk198, hg198, ha198, hsB, -, hnB, htB, hffB⟩ := Cond.ownField (t := .object "java/lang/Object") Y.found L.cls (by decide +kernel) (a' (.fieldLink Bundle.tN 198 Bundle.tN "backtrace" "Ljava/lang/Object;") (by simp [Bundle.ownAtoms0])) (a' (.lays Bundle.tN Bundle.tN "backtrace" "Ljava/lang/Object;") (by simp [Bundle.ownAtoms0])) e.platform hpl
  obtain ⟨cellS, hcS', heS, -, hkeep⟩ := X.same.2.2.2.2.2 T.aS cellS0 hcS0
  have hcellS : W.heap[T.aS]? = some cellS := hcS'
  have hout' : ∀ i, (⟨T.aS, i⟩ : Loc) ∉ locs := fun i hmem => by
    have := hlocs _ hmem cellS0 hcS0
    rw [hiss] at this; cases this
  have hknownS : cellS.vm ≠ .unknown := by
    rw [heS]; intro hu
    rw [show cellS0.vm = .unknown from hu] at hiss
    cases hiss
  have hneS : T.aS ≠ a := Nat.ne_of_lt (Nat.lt_of_lt_of_le (Array.getElem?_eq_some_iff.mp hcS0).1 hnew)
  obtain ⟨iM, hffM⟩ := Y.msg
  obtain ⟨tyC, dC, hdC, hdnC⟩ := Cond.laysAt hfound hk Y.cause (a' (.lays cls Bundle.tN "cause" "Ljava/lang/Throwable;") (by simp [Bundle.ownAtoms0]))
  obtain ⟨tyS, dS, hdS, hdnS⟩ := Cond.laysAt hfound hk Y.stack (a' (.lays cls Bundle.tN "stackTrace" Bundle.steD) (by simp [Bundle.ownAtoms0]))
  obtain ⟨tyP, dP, hdP, hdnP⟩ := Cond.laysAt hfound hk Y.supp (a' (.lays cls Bundle.tN "suppressedExceptions" Bundle.listD) (by simp [Bundle.ownAtoms0]))
  obtain ⟨tyM, dM, hdM, hdnM⟩ := Cond.laysAt hfound hk hffM (a' (.lays cls Bundle.tN "detailMessage" "Ljava/lang/String;") (by simp [Bundle.ownAtoms0]))
  obtain ⟨tyB, dB, hdB, hdnB⟩ := Cond.laysAt hfound hk hffB (a' (.lays cls Bundle.tN "backtrace" "Ljava/lang/Object;") (by simp [Bundle.ownAtoms0]))
  have bC := Cond.laysApart hdB hdC hdnB hdnC (by rw [hnB, Y.causeName]; decide)
  have bS := Cond.laysApart hdB hdS hdnB hdnS (by rw [hnB, Y.stackName]; decide)
  have bP := Cond.laysApart hdB hdP hdnB hdnP (by rw [hnB, Y.suppName]; decide)
  have hskip : SkipFacts T e.platform s (fun u => u) u0 ((preparedCellV T.toThrowableT (freshCell P1.m.cls kX) a u0 sen).withEntry W.cur) :=
    ⟨{ ci198 := ci198, i198 := i198, fBack := fB }, ⟨hk198, hg198, ha198, hsB⟩, by
      have := fresh_default (c := P1.m.cls) tyB
      rw [htB] at this
      simpa [preparedCellV, Cell.setSlot, Cell.withEntry, Array.getElem?_setIfInBounds, bC, bS, bP, bC.symm, bS.symm, bP.symm, defaultValue] using this, fun _ _ => rfl⟩
  obtain ⟨tm, methC, cdC, kC, vm₁, hnC, -, -, -, -, -, -, -, hW₁, st1⟩ := Steps.initCold (tb := p.tables) (e := e) (below := below) (s := s) (U := W) X.here hexec X.warmed hpl hown (t := Bundle.init0 cls) rfl rfl (Bundle.fit_spec hcls).2
    (a' (.methodLink own ic (Bundle.init0 cls)) (by simp [Bundle.ownAtoms0])) (h (.instanceMethod (Bundle.init0 cls)) (by cases names <;> simp [Bundle.ownAtoms0, Bundle.chain0Atoms, Bundle.passAtoms])) (bytes := Bundle.five) (maxL := 1) (h (.code (Bundle.init0 cls) Bundle.five 1 none) (by cases names <;> simp [Bundle.ownAtoms0, Bundle.chain0Atoms, Bundle.passAtoms]))
    (f := g) hg (a := a) (rest := .ref a :: rest) hstack hd6
  cases Option.some.inj (hnC.symm.trans hP1m)
  have X₁ := X.noted hW₁
  obtain ⟨vm₂, X₂, st2⟩ := X₁.ctorPlainOffV hexec (g := { g with stack := .ref a :: rest }) hg hsize T L Z LZ (P1 :: Ps)
    (fun P hP => by rcases List.mem_cons.mp hP with rfl | hP; exact L1; exact hL P hP) ⟨hlink1, hlink⟩ (u0 := u0) (sen := sen) (self := a) (cell := freshCell P1.m.cls kX) (cellS := cellS)
    hcell (fun _ => by simp) (by simp) rfl rfl hsel0 hselF hcellS hneS hknownS (by rw [hkeep _ (hout' _)]; exact hu0) (by rw [hkeep _ (hout' _)]; exact hsen)
    (Takes.of_laid hk hord tyC (by rw [Y.causeType]; rfl)) (Takes.of_laid hk hord tyS (by rw [Y.stackType]; exact fits_refV_array _ u0)) (Takes.of_laid hk hord tyP (by rw [Y.suppType]; exact fits_refV_object _ sen)) Y.objLocals hskip htr [] hd6
    (by simp only [List.length_cons, hlen]; omega) (by simp only [List.length_cons, hlen]; exact hRlocals)
  have hlt : a < ((W.setVm vm₁).setVm vm₂).heap.size := (Array.getElem?_eq_some_iff.mp hcell).1
  refine ⟨(W.setVm vm₁).setVm vm₂, _, _, X₂, fun y hy => ?_, hlt, rfl, rfl, fun target hwalk => st1 _ (fun acts => ?_)⟩
  · simp only [List.mem_cons, List.not_mem_nil, or_false] at hy
    rcases hy with rfl | rfl | rfl | rfl <;> rfl
  · rw [doInvoke_state]
    exact st2 _ hwalk
end VXK
section VXK2
variable {p : Program} {l : Launch} {e : Env} {R : Room} {s : State} {m : MethodId} {args : Array Value} {below : List Frame} {meth : Method} {c : Code} {H : Heap} {locs : List Loc} {cells slots : Nat} {Q : State → Prop}
variable {ls : Array Slot} {rest : List Value} {D : va_G} {cl : List vw_C} {tys : List (ClassId × FieldType)} {ws : va_W}
/-- 'new E("text")' that isn't thrown at once: the object goes on the stack -/
theorem vx_makeS {cc : ByteArray} {pc : Nat} (hexec : p.tables.exec = Jvm.exec) (hb : c.code = cc) (hl : l.stackTraces = false) {own cls text : String} {names : List String} {ik is ic sa ci : Nat} {A : Nat → Prop} {T0 : u_T}
    (hown : s.vm.findClass own = some m.cls) (hcls : Bundle.fit cls = true) (hnames : ∀ n ∈ names, Bundle.fit n = true)
    (hk : (Cond.classLink own ik cls).before args s = true) (hini : (Cond.initialized cls).before args s = true) (hstr : vk_R own is text sa s) (hat : ∀ w ∈ vx_atS own ic cls names, w.before args s = true)
    (hgood : ∀ w ∈ Cond.classLink own ik cls :: Cond.initialized cls :: vx_atS own ic cls names, vx_ot w = true)
    (hU : vx_Zq Bundle.tN "UNASSIGNED_STACK" Bundle.steD A s s.heap) (hN : vx_Zq Bundle.tN "SUPPRESSED_SENTINEL" Bundle.listD A s s.heap) (hS : va_S A s.heap H locs) (hsize : ls.size = c.maxLocals)
    (d0 : decode cc pc = .ok (.new ik, 3)) (d3 : decode cc (pc + 3) = .ok (.dup, 1)) (d4 : decode cc (pc + 4) = .ok (.ldc is, 2)) (d6 : decode cc (pc + 6) = .ok (.invokespecial ic, 3))
    (hK : va_K D cl tys s) (hP : va_P D cl ws H) (hD : va_D A ws) (hA : ∀ q, s.heap.size ≤ q → A q) (hc : cl[ci]? = some (cls, T0, 0))
    (hRframes : names.length + 3 < R.frames) (hRlocals : (rest.map fun v => v.category).sum + (13 * (names.length + 1) + 43) ≤ R.locals) (hRcells : cells + 1 ≤ R.cells) (hRslots : slots + 6 ≤ R.slots)
    (kk : ∀ (q : Nat) (H1 : Heap), va_P D cl (ws ++ [(q, .inr (ci, []))]) H1 → va_D A (ws ++ [(q, .inr (ci, []))]) → va_S A s.heap H1 locs → W p l e R s m args below meth c H1 locs (cells + 1) (slots + 6) Q (F0 m (pc + 9) ls (.ref q :: rest))) :
    W p l e R s m args below meth c H locs cells slots Q (F0 m pc ls rest) := by
  intro T hT X
  subst hT
  have htr : e.platform.stackTraces = false := (show e.platform.stackTraces = l.stackTraces by rw [X.admits.platform]).trans hl
  have Y := vx_rebase X (R' := { frames := R.frames, locals := R.locals, cells := 1, slots := 6 }) (Nat.le_refl _) (Nat.le_refl _) hRcells hRslots
  obtain ⟨s', hA'⟩ : ∃ z, z = (T.setVm s.vm).setFrames (.invoking m args :: below) := ⟨_, rfl⟩
  rw [← hA'] at Y
  have hvm : s'.vm = s.vm := by rw [hA']; rfl
  have hhp : s'.heap = T.heap := by rw [hA']; rfl
  have hW0 : s.WarmedH s'.vm := by rw [hvm]; exact State.WarmedH.refl s
  have hat' : ∀ w ∈ vx_atS own ic cls names, w.before args s' = true := fun w hw => vx_ot_at hW0 hvm.symm (hgood w (List.mem_cons_of_mem _ (List.mem_cons_of_mem _ hw))) (hat w hw)
  have hk' : (Cond.classLink own ik cls).before args s' = true := vx_ot_at hW0 hvm.symm (hgood _ List.mem_cons_self) hk
  have hini' : (Cond.initialized cls).before args s' = true := vx_ot_at hW0 hvm.symm (hgood _ (List.mem_cons_of_mem _ List.mem_cons_self)) hini
  have hU' : vx_Zq Bundle.tN "UNASSIGNED_STACK" Bundle.steD A s' s'.heap := by rw [hhp]; exact vx_Zq.moved hW0.alike (hU.kept hS.2.1)
  have hN' : vx_Zq Bundle.tN "SUPPRESSED_SENTINEL" Bundle.listD A s' s'.heap := by rw [hhp]; exact vx_Zq.moved hW0.alike (hN.kept hS.2.1)
  have h : ∀ w ∈ Bundle.ownAtoms own ic cls names, w.before args s' = true := vx_own hat' (vx_isRefq hU'.1) (vx_isRefq hN'.1) hU'.2.word hN'.2.word
  have hown' : s'.vm.findClass own = some m.cls := by rw [hvm]; exact hown
  have hins : (Cond.instantiable cls 6).before args s' = true := h _ (by simp [Bundle.ownAtoms])
  obtain ⟨vm₁, cX, kX, hfX, hkX, -, -, X₁, st1⟩ := Y.newCold hexec (own := own) (C := cls) (index := ik) (n := 6) hown' hk' hins hini'
    (g := F0 m pc ls rest) rfl (by rw [hb]; exact d0) (Nat.le_refl _) (Nat.le_refl _)
  generalize hT1 : (T.setVm vm₁).pushCell { cls := cX, slots := kX.instanceTypes.map defaultValue, vm := .none } = T1 at X₁ st1
  have hcat : (Value.ref T.heap.size).category = 1 := rfl
  have hcellA : T1.heap[T.heap.size]? = some (freshCell cX kX) := by rw [← hT1]; exact State.heap_pushCell_size _ _
  have d3' : decode c.code (pc + 3) = .ok (.dup, 1) := by rw [hb]; exact d3
  have d4' : decode c.code (pc + 4) = .ok (.ldc is, 2) := by rw [hb]; exact d4
  have hstr' : vk_R own is text sa s' := vk_R.warm hW0 hstr
  obtain ⟨V, ce, L, Z, hL, hlt, hcl9, hvm9, st⟩ := vx_ctorMadeS X₁ hexec htr (own := own) (cls := cls) (names := names) (ic := ic) hown' hcls hnames h (fun x hx => nomatch hx) hfX hkX hcellA (by rw [hhp]; exact Nat.le_refl _) (msg := .ref sa) rfl
    (g := { method := m, pc := pc + 6, locals := ls, stack := .ref sa :: .ref T.heap.size :: .ref T.heap.size :: rest, locked := none }) rfl hsize (rest := rest) rfl
    (by rw [hb]; exact d6) hRframes (by simp only [List.map_cons, List.sum_cons, hcat]; omega)
  have Z0 := Stand.forget (locs := []) Z (fun y hy => by rw [hL y hy, hhp]; exact Nat.le_refl _)
  obtain ⟨f1, f2⟩ := vx_frame Z0.same
  rw [hhp] at f1 f2
  have hcid : ce.cls = D.1 ci := by
    rw [hcl9]
    have h1 := (hK.1 ci _ hc).2.1
    rw [hvm] at hfX
    exact Option.some.inj (hfX.symm.trans h1)
  have hh : (V.setCell T.heap.size ce).heap[T.heap.size]? = some ce := heapAt_setCell_self (s := V) ce hlt
  subst hA'
  have X5 := vx_back9 X Y Z0
  have X6 : Stand p l e R s m args below meth c (V.setCell T.heap.size ce) locs (cells + 1) (slots + 6) := { X5 with same := X5.same.mono (by omega) (by omega) }
  have hk9 : ∀ (k : Nat) (x : Nat × va_E), ws[k]? = some x → (V.setCell T.heap.size ce).heap[x.1]? = T.heap[x.1]? := fun k x hx => f2 x.1 ((hP k x hx).lt) (fun z hz => nomatch hz)
  obtain ⟨t, a1, b1⟩ := kk T.heap.size (V.setCell T.heap.size ce).heap ((hP.kept hk9).app (fun k x hx => by
      have hz : k < 1 := (List.getElem?_eq_some_iff.mp hx).1
      rw [show k = 0 by omega] at hx
      cases hx
      exact ⟨_, hc, ce, hh, hcid, hvm9, fun k hk => absurd hk (Nat.not_lt_zero k)⟩)) (hD.push hP rfl (hA _ hS.1)) ⟨Nat.le_trans hS.1 f1, fun q h1 h2 => (f2 q (Nat.lt_of_lt_of_le h1 hS.1) (fun z hz => nomatch hz)).trans (hS.2.1 q h1 h2), hS.2.2⟩ _ rfl X6
  refine ⟨t, st1 _ ?_, b1⟩
  show Steps p.tables e below (T1.setTop { method := m, pc := pc + 3, locals := ls, stack := .ref T.heap.size :: rest, locked := none }) _
  jvm_step X₁.here [X₁.here.top, hexec, d3', Value.category]
  exact X₁.ldcString hexec (own := own) (text := text) (index := is) (a := sa) hown' hstr'.1 hstr'.2
    (g := { method := m, pc := pc + 4, locals := ls, stack := .ref T.heap.size :: .ref T.heap.size :: rest, locked := none }) rfl d4' _ (st _ a1)
/-- 'new E()' that isn't thrown at once: the object goes on the stack -/
theorem vx_make0 {cc : ByteArray} {pc : Nat} (hexec : p.tables.exec = Jvm.exec) (hb : c.code = cc) (hl : l.stackTraces = false) {own cls : String} {names : List String} {ik ic ci : Nat} {A : Nat → Prop} {T0 : u_T}
    (hown : s.vm.findClass own = some m.cls) (hcls : Bundle.fit cls = true) (hnames : ∀ n ∈ names, Bundle.fit n = true)
    (hk : (Cond.classLink own ik cls).before args s = true) (hini : (Cond.initialized cls).before args s = true) (hat : ∀ w ∈ vx_at0 own ic cls names, w.before args s = true)
    (hgood : ∀ w ∈ Cond.classLink own ik cls :: Cond.initialized cls :: vx_at0 own ic cls names, vx_ot w = true)
    (hU : vx_Zq Bundle.tN "UNASSIGNED_STACK" Bundle.steD A s s.heap) (hN : vx_Zq Bundle.tN "SUPPRESSED_SENTINEL" Bundle.listD A s s.heap) (hS : va_S A s.heap H locs) (hsize : ls.size = c.maxLocals)
    (d0 : decode cc pc = .ok (.new ik, 3)) (d3 : decode cc (pc + 3) = .ok (.dup, 1)) (d4 : decode cc (pc + 4) = .ok (.invokespecial ic, 3))
    (hK : va_K D cl tys s) (hP : va_P D cl ws H) (hD : va_D A ws) (hA : ∀ q, s.heap.size ≤ q → A q) (hc : cl[ci]? = some (cls, T0, 0))
    (hRframes : names.length + 3 < R.frames) (hRlocals : (rest.map fun v => v.category).sum + (13 * (names.length + 1) + 42) ≤ R.locals) (hRcells : cells + 1 ≤ R.cells) (hRslots : slots + 6 ≤ R.slots)
    (kk : ∀ (q : Nat) (H1 : Heap), va_P D cl (ws ++ [(q, .inr (ci, []))]) H1 → va_D A (ws ++ [(q, .inr (ci, []))]) → va_S A s.heap H1 locs → W p l e R s m args below meth c H1 locs (cells + 1) (slots + 6) Q (F0 m (pc + 7) ls (.ref q :: rest))) :
    W p l e R s m args below meth c H locs cells slots Q (F0 m pc ls rest) := by
  intro T hT X
  subst hT
  have htr : e.platform.stackTraces = false := (show e.platform.stackTraces = l.stackTraces by rw [X.admits.platform]).trans hl
  have Y := vx_rebase X (R' := { frames := R.frames, locals := R.locals, cells := 1, slots := 6 }) (Nat.le_refl _) (Nat.le_refl _) hRcells hRslots
  obtain ⟨s', hA'⟩ : ∃ z, z = (T.setVm s.vm).setFrames (.invoking m args :: below) := ⟨_, rfl⟩
  rw [← hA'] at Y
  have hvm : s'.vm = s.vm := by rw [hA']; rfl
  have hhp : s'.heap = T.heap := by rw [hA']; rfl
  have hW0 : s.WarmedH s'.vm := by rw [hvm]; exact State.WarmedH.refl s
  have hat' : ∀ w ∈ vx_at0 own ic cls names, w.before args s' = true := fun w hw => vx_ot_at hW0 hvm.symm (hgood w (List.mem_cons_of_mem _ (List.mem_cons_of_mem _ hw))) (hat w hw)
  have hk' : (Cond.classLink own ik cls).before args s' = true := vx_ot_at hW0 hvm.symm (hgood _ List.mem_cons_self) hk
  have hini' : (Cond.initialized cls).before args s' = true := vx_ot_at hW0 hvm.symm (hgood _ (List.mem_cons_of_mem _ List.mem_cons_self)) hini
  have hU' : vx_Zq Bundle.tN "UNASSIGNED_STACK" Bundle.steD A s' s'.heap := by rw [hhp]; exact vx_Zq.moved hW0.alike (hU.kept hS.2.1)
  have hN' : vx_Zq Bundle.tN "SUPPRESSED_SENTINEL" Bundle.listD A s' s'.heap := by rw [hhp]; exact vx_Zq.moved hW0.alike (hN.kept hS.2.1)
  have h : ∀ w ∈ Bundle.ownAtoms0 own ic cls names, w.before args s' = true := vx_own hat' (vx_isRefq hU'.1) (vx_isRefq hN'.1) hU'.2.word hN'.2.word
  have hown' : s'.vm.findClass own = some m.cls := by rw [hvm]; exact hown
  have hins : (Cond.instantiable cls 6).before args s' = true := h _ (by simp [Bundle.ownAtoms0])
  obtain ⟨vm₁, cX, kX, hfX, hkX, -, -, X₁, st1⟩ := Y.newCold hexec (own := own) (C := cls) (index := ik) (n := 6) hown' hk' hins hini'
    (g := F0 m pc ls rest) rfl (by rw [hb]; exact d0) (Nat.le_refl _) (Nat.le_refl _)
  generalize hT1 : (T.setVm vm₁).pushCell { cls := cX, slots := kX.instanceTypes.map defaultValue, vm := .none } = T1 at X₁ st1
  have hcat : (Value.ref T.heap.size).category = 1 := rfl
  have hcellA : T1.heap[T.heap.size]? = some (freshCell cX kX) := by rw [← hT1]; exact State.heap_pushCell_size _ _
  have d3' : decode c.code (pc + 3) = .ok (.dup, 1) := by rw [hb]; exact d3
  obtain ⟨V, ce, L, Z, hL, hlt, hcl9, hvm9, st⟩ := vx_ctorMade0 X₁ hexec htr (own := own) (cls := cls) (names := names) (ic := ic) hown' hcls hnames h (fun x hx => nomatch hx) hfX hkX hcellA (by rw [hhp]; exact Nat.le_refl _)
    (g := { method := m, pc := pc + 4, locals := ls, stack := .ref T.heap.size :: .ref T.heap.size :: rest, locked := none }) rfl hsize (rest := rest) rfl
    (by rw [hb]; exact d4) hRframes (by simp only [List.map_cons, List.sum_cons, hcat]; omega)
  have Z0 := Stand.forget (locs := []) Z (fun y hy => by rw [hL y hy, hhp]; exact Nat.le_refl _)
  obtain ⟨f1, f2⟩ := vx_frame Z0.same
  rw [hhp] at f1 f2
  have hcid : ce.cls = D.1 ci := by
    rw [hcl9]
    have h1 := (hK.1 ci _ hc).2.1
    rw [hvm] at hfX
    exact Option.some.inj (hfX.symm.trans h1)
  have hh : (V.setCell T.heap.size ce).heap[T.heap.size]? = some ce := heapAt_setCell_self (s := V) ce hlt
  subst hA'
  have X5 := vx_back9 X Y Z0
  have X6 : Stand p l e R s m args below meth c (V.setCell T.heap.size ce) locs (cells + 1) (slots + 6) := { X5 with same := X5.same.mono (by omega) (by omega) }
  have hk9 : ∀ (k : Nat) (x : Nat × va_E), ws[k]? = some x → (V.setCell T.heap.size ce).heap[x.1]? = T.heap[x.1]? := fun k x hx => f2 x.1 ((hP k x hx).lt) (fun z hz => nomatch hz)
  obtain ⟨t, a1, b1⟩ := kk T.heap.size (V.setCell T.heap.size ce).heap ((hP.kept hk9).app (fun k x hx => by
      have hz : k < 1 := (List.getElem?_eq_some_iff.mp hx).1
      rw [show k = 0 by omega] at hx
      cases hx
      exact ⟨_, hc, ce, hh, hcid, hvm9, fun k hk => absurd hk (Nat.not_lt_zero k)⟩)) (hD.push hP rfl (hA _ hS.1)) ⟨Nat.le_trans hS.1 f1, fun q h1 h2 => (f2 q (Nat.lt_of_lt_of_le h1 hS.1) (fun z hz => nomatch hz)).trans (hS.2.1 q h1 h2), hS.2.2⟩ _ rfl X6
  refine ⟨t, st1 _ ?_, b1⟩
  show Steps p.tables e below (T1.setTop { method := m, pc := pc + 3, locals := ls, stack := .ref T.heap.size :: rest, locked := none }) _
  jvm_step X₁.here [X₁.here.top, hexec, d3', Value.category]
  exact st _ a1
/-- 'throw x' of an object that was made before -/
theorem vx_athrow {cc : ByteArray} {pc : Nat} (hexec : p.tables.exec = Jvm.exec) (hb : c.code = cc) {q : Addr} (hdg : decode cc pc = .ok (.athrow, 1)) (k : vx_W p l e R s m args below meth c H locs cells slots Q (F0 m pc ls rest) q) : W p l e R s m args below meth c H locs cells slots Q (F0 m pc ls (.ref q :: rest)) := by
  intro T hT X
  obtain ⟨t, st, hq⟩ := k T hT X
  refine ⟨t, ?_, hq⟩
  have hdg' : decode c.code pc = .ok (.athrow, 1) := by rw [hb]; exact hdg
  jvm_step X.here [X.here.top, hexec, hdg', athrow.wp_sem]
  exact st
end VXK2
/-! ===== END ===== -/
/-! ===== BEGIN a constructor that throws (launches without stack traces) ===== -/
section VXIA
variable {p : Program} {l : Launch} {e : Env} {R : Room} {s : State} {m : MethodId} {args : Array Value} {below : List Frame} {meth : Method} {c : Code} {T : State} {locs : List Loc} {cells slots : Nat}
theorem vx_callI (X : Stand p l e R s m args below meth c T locs cells slots) (hexec : p.tables.exec = Jvm.exec) {own : String} {index : Nat} {y : MethodName} {bytes : ByteArray} {maxL : Nat}
    (hown : s.vm.findClass own = some m.cls) (hy1 : y.name = "<init>") (hlink : (Cond.methodLink own index y).before args s = true) (hinst : (Cond.instanceMethod y).before args s = true)
    (hcode : (Cond.code y bytes maxL none).before args s = true) (hy : y.cls ≠ "java/lang/invoke/MethodHandle" ∧ y.cls ≠ "java/lang/invoke/VarHandle")
    {W9 : Nat} {Pre : Pt → Array Value → Prop} {Post : Pt → Array Value → Option Value → Pt → Prop} {PostX : Pt → Array Value → Addr → Pt → Prop} (hK : vx_Back l R p e below s args y 3 W9 Pre Post PostX)
    {g : JFrame} (hg : g.method = m) (hsize : g.locals.size = c.maxLocals) {a : Addr} {argsL rest : List Value} (hlen : ∀ sig, parseMethodDescriptor y.desc = some sig → argsL.length = sig.parameters.length)
    (hstack : g.stack = argsL.reverse ++ .ref a :: rest) (hW : 2 * g.monitorRoom + (rest.map fun v => v.category).sum ≤ W9) (hdg : decode c.code g.pc = .ok (.invokespecial index, 3))
    (hpre : ∀ vm₁, s.WarmedH vm₁ → Pre ⟨T.setVm vm₁, locs, cells, slots⟩ (Value.ref a :: argsL).toArray) :
    (∃ (v : Option Value) (vm₁ : Vm) (B : Pt), s.WarmedH vm₁ ∧ Stand p l e R s m args below meth c B.U B.locs B.cells B.slots ∧ Post ⟨T.setVm vm₁, locs, cells, slots⟩ (Value.ref a :: argsL).toArray v B ∧
      ∀ target, Steps p.tables e below (B.U.setTop { g with pc := g.pc + 3, stack := v.toList ++ rest }) target → Steps p.tables e below (T.setTop g) target) ∨
    (∃ (q : Addr) (vm₁ : Vm) (B : Pt), s.WarmedH vm₁ ∧ Stand p l e R s m args below meth c B.U B.locs B.cells B.slots ∧ PostX ⟨T.setVm vm₁, locs, cells, slots⟩ (Value.ref a :: argsL).toArray q B ∧
      Steps p.tables e below (T.setTop g) ((B.U.setTop { g with stack := rest }).pushFrame (.throwing q))) := by
  subst hg
  have hpl : e.platform.magicAccessors = ({} : Platform).magicAccessors := by rw [X.admits.platform]
  obtain ⟨mk, methM, cM, kP, vm₁, hnamed, hmethM, hcodeM, -, hlocalsM, -, hkP, -, hW₁, hstep₁⟩ := Steps.initColdArgs (e := e) X.here hexec X.warmed hpl hown hy1 hy hlink hinst hcode (f := g) rfl hlen hstack hdg
  have X₁ := X.noted hW₁
  rcases hK g.method meth c ⟨T.setVm vm₁, locs, cells, slots⟩ { g with stack := rest } (.invokespecial index) mk (Value.ref a :: argsL).toArray X₁ rfl hsize hdg hW (X₁.named hnamed) (hpre vm₁ X₁.warmed) with ⟨v, B, X', hpost, hsteps⟩ | ⟨q, B, X', hpost, hsteps⟩
  · exact Or.inl ⟨v, vm₁, B, X₁.warmed, X', hpost, fun target h => hstep₁ _ fun acts => by rw [doInvoke_state]; exact hsteps.trans h⟩
  · exact Or.inr ⟨q, vm₁, B, X₁.warmed, X', hpost, hstep₁ _ fun acts => by rw [doInvoke_state]; exact hsteps⟩
end VXIA
section VXIB
variable {p : Program} {l : Launch} {e : Env} {R : Room} {s : State} {m : MethodId} {args : Array Value} {below : List Frame} {meth : Method} {c : Code} {H : Heap} {locs : List Loc} {cells slots : Nat}
variable {y : MethodName} {bytes cc : ByteArray} {maxL nL mc ms n index : Nat} {ret : Option FieldType} {ws : List Cond} {rm : Room} {Pc : Array Value → State → Prop} {Qc : Array Value → State → Outcome → State → Prop} {XC : String → State → State → Prop} {free : Addr → Prop} {Ts : List Cond} {own C : String} {b : Addr} {As rest : List Value} {g : JFrame}
theorem vx_runI (S : CallFix p m c cc nL s args Ts own) (hM : vx_Met l y ws rm Pc Qc XC mc ms free) (cw : CallB R s args own index y bytes maxL none ws rm mc ms n ∧ y.name = "<init>" ∧ (Cond.instanceMethod y).before args s = true) (hp : PreS s H Pc (.ref b :: As))
    (hg : g.method = m) (hn : As.length = n) (hsize : g.locals.size = nL) (hstack : g.stack = As.reverse ++ .ref b :: rest) (hW : 2 * g.monitorRoom + (rest.map fun v => v.category).sum ≤ 8) (hdg : decode cc g.pc = .ok (.invokespecial index, 3)) (hf : cells + mc ≤ R.cells ∧ slots + ms ≤ R.slots) :
    vx_Run p l e R s m args below meth c H locs cells slots mc ms g rest (Qc (Value.ref b :: As).toArray) XC free := by
  have hK : vx_Back l R p e below s args y 3 8 (PreOf R mc ms Pc) (PostOf Qc mc ms free) (vx_Post XC mc ms free) := vx_callBack cw.1 hM hp.1
  obtain ⟨⟨-, -, -, -, -, -, hcode, -, hy, hlen, hl⟩, hy1, hin⟩ := cw
  obtain ⟨hx, hb, hml, ho, -⟩ := S
  have hPc := hp.2
  intro T hT X
  rcases vx_callI X hx (bytes := bytes) (maxL := maxL) ho hy1 hl hin hcode hy hK hg (hsize.trans hml.symm) (a := b) (argsL := As) (rest := rest) (fun sig h => hn.trans (hlen sig h)) hstack hW (by rw [hb]; exact hdg)
    (fun vm₁ hW₁ => ⟨hf.1, hf.2, hPc (T.setVm vm₁) hT hW₁⟩) with ⟨v, vm₁, ⟨U', l2, c2, s2⟩, hW₁, X', ⟨g', mk, t, L, e1, e2, hq, h1, hL, h2, h3⟩, st⟩ | ⟨q, vm₁, ⟨U', l2, c2, s2⟩, hW₁, X', ⟨g', mk, t, L, E, ce, e1, e2, hq, hce, hcv, hcl, h1, hL, h2, h3⟩, st⟩
  · dsimp only [Pt.U, Pt.locs, Pt.cells, Pt.slots] at X' e1 e2 h1 h2 h3 st
    subst h1; subst h2; subst h3
    exact Or.inl ⟨v, (T.setVm vm₁).calling g' mk (Value.ref b :: As).toArray, t, U', L, hT, X', hL, e1, e2, hq, st⟩
  · dsimp only [Pt.U, Pt.locs, Pt.cells, Pt.slots] at X' e1 e2 h1 h2 h3 st hcl
    subst h1; subst h2; subst h3
    exact Or.inr ⟨q, (T.setVm vm₁).calling g' mk (Value.ref b :: As).toArray, t, U', L, E, ce, hT, X', hL, e1, e2, hq, hce, hcv, vx_cls hW₁ hcl, st⟩
end VXIB
/-! ===== END ===== -/
/-! ===== BEGIN a private constructor of a nest mate that throws ===== -/
section VXIC
variable {p : Program} {l : Launch} {e : Env} {R : Room} {s : State} {m : MethodId} {args : Array Value} {below : List Frame} {meth : Method} {c : Code} {T : State} {locs : List Loc} {cells slots : Nat}
theorem vx_callIN (X : Stand p l e R s m args below meth c T locs cells slots) (hexec : p.tables.exec = Jvm.exec) {own : String} {index : Nat} {host : String} {y : MethodName} {bytes : ByteArray} {maxL : Nat}
    (hown : s.vm.findClass own = some m.cls) (hy1 : y.name = "<init>") (hlink : (Cond.methodLinkNest own index y host).before args s = true) (hinst : (Cond.instanceMethod y).before args s = true)
    (hcode : (Cond.code y bytes maxL none).before args s = true) (hy : y.cls ≠ "java/lang/invoke/MethodHandle" ∧ y.cls ≠ "java/lang/invoke/VarHandle")
    {W9 : Nat} {Pre : Pt → Array Value → Prop} {Post : Pt → Array Value → Option Value → Pt → Prop} {PostX : Pt → Array Value → Addr → Pt → Prop} (hK : vx_Back l R p e below s args y 3 W9 Pre Post PostX)
    {g : JFrame} (hg : g.method = m) (hsize : g.locals.size = c.maxLocals) {a : Addr} {argsL rest : List Value} (hlen : ∀ sig, parseMethodDescriptor y.desc = some sig → argsL.length = sig.parameters.length)
    (hstack : g.stack = argsL.reverse ++ .ref a :: rest) (hW : 2 * g.monitorRoom + (rest.map fun v => v.category).sum ≤ W9) (hdg : decode c.code g.pc = .ok (.invokespecial index, 3))
    (hpre : ∀ vm₁, s.WarmedH vm₁ → Pre ⟨T.setVm vm₁, locs, cells, slots⟩ (Value.ref a :: argsL).toArray) :
    (∃ (v : Option Value) (vm₁ : Vm) (B : Pt), s.WarmedH vm₁ ∧ Stand p l e R s m args below meth c B.U B.locs B.cells B.slots ∧ Post ⟨T.setVm vm₁, locs, cells, slots⟩ (Value.ref a :: argsL).toArray v B ∧
      ∀ target, Steps p.tables e below (B.U.setTop { g with pc := g.pc + 3, stack := v.toList ++ rest }) target → Steps p.tables e below (T.setTop g) target) ∨
    (∃ (q : Addr) (vm₁ : Vm) (B : Pt), s.WarmedH vm₁ ∧ Stand p l e R s m args below meth c B.U B.locs B.cells B.slots ∧ PostX ⟨T.setVm vm₁, locs, cells, slots⟩ (Value.ref a :: argsL).toArray q B ∧
      Steps p.tables e below (T.setTop g) ((B.U.setTop { g with stack := rest }).pushFrame (.throwing q))) := by
  subst hg
  have hpl : e.platform.magicAccessors = ({} : Platform).magicAccessors := by rw [X.admits.platform]
  obtain ⟨mk, methM, cM, kP, vm₁, hnamed, hmethM, hcodeM, -, hlocalsM, -, hkP, -, hW₁, hstep₁⟩ := Steps.initColdArgsNest (e := e) X.here hexec X.warmed hpl hown hy1 hy hlink hinst hcode (f := g) rfl hlen hstack hdg
  have X₁ := X.noted hW₁
  rcases hK g.method meth c ⟨T.setVm vm₁, locs, cells, slots⟩ { g with stack := rest } (.invokespecial index) mk (Value.ref a :: argsL).toArray X₁ rfl hsize hdg hW (X₁.named hnamed) (hpre vm₁ X₁.warmed) with ⟨v, B, X', hpost, hsteps⟩ | ⟨q, B, X', hpost, hsteps⟩
  · exact Or.inl ⟨v, vm₁, B, X₁.warmed, X', hpost, fun target h => hstep₁ _ fun acts => by rw [doInvoke_state]; exact hsteps.trans h⟩
  · exact Or.inr ⟨q, vm₁, B, X₁.warmed, X', hpost, hstep₁ _ fun acts => by rw [doInvoke_state]; exact hsteps⟩
end VXIC
section VXID
variable {p : Program} {l : Launch} {e : Env} {R : Room} {s : State} {m : MethodId} {args : Array Value} {below : List Frame} {meth : Method} {c : Code} {H : Heap} {locs : List Loc} {cells slots : Nat}
theorem vx_runIN {y : MethodName} {bytes cc : ByteArray} {maxL nL mc ms n index : Nat} {ws : List Cond} {rm : Room} {Pc : Array Value → State → Prop} {Qc : Array Value → State → Outcome → State → Prop} {XC : String → State → State → Prop} {free : Addr → Prop} {Ts : List Cond} {own host : String} {b : Addr} {As rest : List Value} {g : JFrame}
    (S : CallFix p m c cc nL s args Ts own) (hM : vx_Met l y ws rm Pc Qc XC mc ms free) (cw : va_CN R s args own index y host bytes maxL none ws rm mc ms n ∧ y.name = "<init>" ∧ (Cond.instanceMethod y).before args s = true) (hp : PreS s H Pc (.ref b :: As))
    (hg : g.method = m) (hn : As.length = n) (hsize : g.locals.size = nL) (hstack : g.stack = As.reverse ++ .ref b :: rest) (hW : 2 * g.monitorRoom + (rest.map fun v => v.category).sum ≤ 8) (hdg : decode cc g.pc = .ok (.invokespecial index, 3)) (hf : cells + mc ≤ R.cells ∧ slots + ms ≤ R.slots) :
    vx_Run p l e R s m args below meth c H locs cells slots mc ms g rest (Qc (Value.ref b :: As).toArray) XC free := by
  obtain ⟨⟨⟨hrc, hrs, hfr, hlo, hws, hcw⟩, hcode, hini, hy, hlen, hl⟩, hx1, hx2⟩ := cw
  have hK : vx_Back l R p e below s args y 3 8 (PreOf R mc ms Pc) (PostOf Qc mc ms free) (vx_Post XC mc ms free) := vx_back (bytes := bytes) (maxL := maxL) (ret := none) hM hp.1 hrc hrs hfr hlo hws hcw (fun a' U hW => word_at hW (Or.inl (by first | rfl | simp [Cond.onTables, Cond.keeps, Cond.steady])) hini)
  obtain ⟨hx, hb, hml, ho, -⟩ := S
  have hPc := hp.2
  intro T hT X
  rcases vx_callIN X hx (bytes := bytes) (maxL := maxL) ho hx1 hl hx2 hcode hy hK hg (hsize.trans hml.symm) (a := b) (argsL := As) (rest := rest) (fun sig h => hn.trans (hlen sig h)) hstack hW (by rw [hb]; exact hdg)
    (fun vm₁ hW₁ => ⟨hf.1, hf.2, hPc (T.setVm vm₁) hT hW₁⟩) with ⟨v, vm₁, ⟨U', l2, c2, s2⟩, hW₁, X', ⟨g', mk, t, L, e1, e2, hq, h1, hL, h2, h3⟩, st⟩ | ⟨q, vm₁, ⟨U', l2, c2, s2⟩, hW₁, X', ⟨g', mk, t, L, E, ce, e1, e2, hq, hce, hcv, hcl, h1, hL, h2, h3⟩, st⟩
  · dsimp only [Pt.U, Pt.locs, Pt.cells, Pt.slots] at X' e1 e2 h1 h2 h3 st
    subst h1; subst h2; subst h3
    exact Or.inl ⟨v, (T.setVm vm₁).calling g' mk (Value.ref b :: As).toArray, t, U', L, hT, X', hL, e1, e2, hq, st⟩
  · dsimp only [Pt.U, Pt.locs, Pt.cells, Pt.slots] at X' e1 e2 h1 h2 h3 st hcl
    subst h1; subst h2; subst h3
    exact Or.inr ⟨q, (T.setVm vm₁).calling g' mk (Value.ref b :: As).toArray, t, U', L, E, ce, hT, X', hL, e1, e2, hq, hce, hcv, vx_cls hW₁ hcl, st⟩
end VXID
/-! ===== END ===== -/
/-! ===== BEGIN a method of a class above, found by the receiver, that may throw (follows va_callVU, va_runU of this kit) ===== -/
section
variable {p : Program} {l : Launch} {e : Env} {R : Room} {s : State} {m : MethodId} {args : Array Value} {below : List Frame} {meth : Method} {c : Code} {H : Heap} {locs : List Loc} {cells slots : Nat}
theorem vx_callVU {T : State} {locs : List Loc} {cells slots : Nat} (X : Stand p l e R s m args below meth c T locs cells slots) (hexec : p.tables.exec = Jvm.exec) {own C owner : String} {index : Nat} {x y : MethodName} {bytes : ByteArray} {maxL : Nat} {ret : Option FieldType}
    (hown : s.vm.findClass own = some m.cls) (hlink : (Cond.methodLink own index x).before args s = true) (hsame : (Cond.sameMethod x.cls owner x.name x.desc).before args s = true)
    (hd0 : va_Decl s ⟨owner, x.name, x.desc⟩) (howner : owner ≠ "java/lang/invoke/MethodHandle" ∧ owner ≠ "java/lang/invoke/VarHandle")
    (hsel : (Cond.selects C x y).before args s = true) (hinst : (Cond.instanceMethod y).before args s = true) (hcode : (Cond.code y bytes maxL ret).before args s = true)
    {W : Nat} {Pre : Pt → Array Value → Prop} {Post : Pt → Array Value → Option Value → Pt → Prop} {PostX : Pt → Array Value → Addr → Pt → Prop} (hK : vx_Back l R p e below s args y 3 W Pre Post PostX)
    {b : Addr} {cellB : Cell} (hcell : T.heap[b]? = some cellB) (hobj : cellB.vm.isStatics = false) (hcls : s.vm.findClass C = some cellB.cls)
    {g : JFrame} (hg : g.method = m) (hsize : g.locals.size = c.maxLocals) {argsL rest : List Value} (hlen : ∀ sig, parseMethodDescriptor x.desc = some sig → argsL.length = sig.parameters.length)
    (hstack : g.stack = argsL.reverse ++ .ref b :: rest) (hW : 2 * g.monitorRoom + (rest.map fun v => v.category).sum ≤ W) (hdg : decode c.code g.pc = .ok (.invokevirtual index, 3))
    (hpre : ∀ vm₁, s.WarmedH vm₁ → Pre ⟨T.setVm vm₁, locs, cells, slots⟩ (Value.ref b :: argsL).toArray) :
    (∃ (v : Option Value) (vm₁ : Vm) (B : Pt), s.WarmedH vm₁ ∧ Stand p l e R s m args below meth c B.U B.locs B.cells B.slots ∧ Post ⟨T.setVm vm₁, locs, cells, slots⟩ (Value.ref b :: argsL).toArray v B ∧
      ∀ target, Steps p.tables e below (B.U.setTop { g with pc := g.pc + 3, stack := v.toList ++ rest }) target → Steps p.tables e below (T.setTop g) target) ∨
    (∃ (q : Addr) (vm₁ : Vm) (B : Pt), s.WarmedH vm₁ ∧ Stand p l e R s m args below meth c B.U B.locs B.cells B.slots ∧ PostX ⟨T.setVm vm₁, locs, cells, slots⟩ (Value.ref b :: argsL).toArray q B ∧
      Steps p.tables e below (T.setTop g) ((B.U.setTop { g with stack := rest }).pushFrame (.throwing q))) := by
  obtain ⟨r0, r, hn, hrm, hstR, hsigR⟩ := hd0
  obtain ⟨cn, ck, r1, hcn, hck, hni, hf, hn1⟩ := Cond.sameMethod_found hsame
  cases hn.symm.trans hn1
  obtain ⟨mk, methM, hnamed, hmethM, -, habM⟩ := Cond.instanceMethod_spec hinst
  obtain ⟨c2, r2, m2, q1, q2, q3, q4, kP, hkP, hkPi⟩ := Cond.selects_spec hsel
  cases hcls.symm.trans q1
  cases hf.symm.trans q2
  cases hnamed.symm.trans q3
  have hselP : selectMethod e.platform s.vm cellB.cls r0 = .method mk := by rw [Launch.admits_selectMethod X.admits]; exact q4
  obtain ⟨vm₁, X₁, hstep₁⟩ := X.invokevirtualUp hexec hown hlink hsame howner hn hrm hstR (a := b) (cell := cellB) hcell
    (fun z h => by rw [h] at hobj; cases hobj) hselP hmethM habM hkP hkPi (g := g) hg (argsL := argsL) (rest := rest) (hlen _ hsigR) hstack hdg
  rcases hK m meth c ⟨T.setVm vm₁, locs, cells, slots⟩ { g with stack := rest } (.invokevirtual index) mk (Value.ref b :: argsL).toArray X₁ hg hsize hdg hW (X₁.named hnamed) (hpre vm₁ X₁.warmed) with ⟨v, B, X', hpost, hsteps⟩ | ⟨q, B, X', hpost, hsteps⟩
  · exact Or.inl ⟨v, vm₁, B, X₁.warmed, X', hpost, fun target h => hstep₁ _ fun acts => by rw [doInvoke_state]; exact hsteps.trans h⟩
  · exact Or.inr ⟨q, vm₁, B, X₁.warmed, X', hpost, hstep₁ _ fun acts => by rw [doInvoke_state]; exact hsteps⟩
theorem vx_runU {x y : MethodName} {bytes cc : ByteArray} {maxL nL mc ms n index : Nat} {ret : Option FieldType} {ws : List Cond} {rm : Room} {Pc : Array Value → State → Prop} {Qc : Array Value → State → Outcome → State → Prop} {XC : String → State → State → Prop} {free : Addr → Prop} {Ts : List Cond} {own C owner : String} {b : Addr} {As rest : List Value} {g : JFrame}
    (S : CallFix p m c cc nL s args Ts own) (hM : vx_Met l y ws rm Pc Qc XC mc ms free) (cw : va_CU R s args own C owner index x y bytes maxL ret ws rm mc ms n) (hp : PreV s H C b Pc As)
    (hg : g.method = m) (hn : As.length = n) (hsize : g.locals.size = nL) (hstack : g.stack = As.reverse ++ .ref b :: rest) (hW : 2 * g.monitorRoom + (rest.map fun v => v.category).sum ≤ 8) (hdg : decode cc g.pc = .ok (.invokevirtual index, 3)) (hf : cells + mc ≤ R.cells ∧ slots + ms ≤ R.slots) :
    vx_Run p l e R s m args below meth c H locs cells slots mc ms g rest (Qc (Value.ref b :: As).toArray) XC free := by
  obtain ⟨hrc, hrs, hfr, hlo, hws, hcw⟩ := cw.back
  have hini := cw.init
  have hK : vx_Back l R p e below s args y 3 8 (PreOf R mc ms Pc) (PostOf Qc mc ms free) (vx_Post XC mc ms free) := vx_back (bytes := bytes) (maxL := maxL) (ret := ret) hM hp.1 hrc hrs hfr hlo hws hcw (fun a' U hW => word_at hW (Or.inl (by first | rfl | simp [Cond.onTables, Cond.keeps, Cond.steady])) hini)
  obtain ⟨hx, hb, hml, ho, -⟩ := S
  obtain ⟨-, ⟨cellB, hcB, hoB, hclB⟩, hPc⟩ := hp
  intro T hT X
  rcases vx_callVU X hx (C := C) (owner := owner) (bytes := bytes) (maxL := maxL) (ret := ret) ho cw.link cw.same cw.decl cw.notMH cw.sel cw.inst cw.code hK (by rw [hT]; exact hcB) hoB hclB hg (hsize.trans hml.symm) (argsL := As) (rest := rest) (fun sig h => hn.trans (cw.len sig h)) hstack hW (by rw [hb]; exact hdg)
    (fun vm₁ hW₁ => ⟨hf.1, hf.2, hPc (T.setVm vm₁) hT hW₁⟩) with ⟨v, vm₁, ⟨U', l2, c2, s2⟩, hW₁, X', ⟨g', mk, t, L, e1, e2, hq, h1, hL, h2, h3⟩, st⟩ | ⟨q, vm₁, ⟨U', l2, c2, s2⟩, hW₁, X', ⟨g', mk, t, L, E, ce, e1, e2, hq, hce, hcv, hcl, h1, hL, h2, h3⟩, st⟩
  · dsimp only [Pt.U, Pt.locs, Pt.cells, Pt.slots] at X' e1 e2 h1 h2 h3 st
    subst h1; subst h2; subst h3
    exact Or.inl ⟨v, (T.setVm vm₁).calling g' mk (Value.ref b :: As).toArray, t, U', L, hT, X', hL, e1, e2, hq, st⟩
  · dsimp only [Pt.U, Pt.locs, Pt.cells, Pt.slots] at X' e1 e2 h1 h2 h3 st hcl
    subst h1; subst h2; subst h3
    exact Or.inr ⟨q, (T.setVm vm₁).calling g' mk (Value.ref b :: As).toArray, t, U', L, E, ce, hT, X', hL, e1, e2, hq, hce, hcv, vx_cls hW₁ hcl, st⟩
end
/-! ===== END ===== -/
/-! ===== BEGIN super.m(..) that may throw (follows va_callSU, va_runSU) ===== -/
section
variable {p : Program} {l : Launch} {e : Env} {R : Room} {s : State} {m : MethodId} {args : Array Value} {below : List Frame} {meth : Method} {c : Code} {H : Heap} {locs : List Loc} {cells slots : Nat}
theorem vx_callSU {T : State} {locs : List Loc} {cells slots : Nat} (X : Stand p l e R s m args below meth c T locs cells slots) (hexec : p.tables.exec = Jvm.exec) {own : String} {index : Nat} {y : MethodName} {bytes : ByteArray} {maxL : Nat} {ret : Option FieldType}
    (hown : s.vm.findClass own = some m.cls) (hlink : (Cond.methodLink own index y).before args s = true) (hsame : (Cond.sameMethod y.cls y.cls y.name y.desc).before args s = true) (hsup : (Cond.superclass own y.cls).before args s = true)
    (hinst : (Cond.instanceMethod y).before args s = true) (hcode : (Cond.code y bytes maxL ret).before args s = true) (hno : y.name ≠ "<init>")
    {W : Nat} {Pre : Pt → Array Value → Prop} {Post : Pt → Array Value → Option Value → Pt → Prop} {PostX : Pt → Array Value → Addr → Pt → Prop} (hK : vx_Back l R p e below s args y 3 W Pre Post PostX)
    {b : Addr} {cellB : Cell} {kB : Class} (hcell : T.heap[b]? = some cellB) (hobj : cellB.vm.isStatics = false) (hkB : s.vm.classes[cellB.cls]? = some kB)
    {g : JFrame} (hg : g.method = m) (hsize : g.locals.size = c.maxLocals) {argsL rest : List Value} (hlen : ∀ sig, parseMethodDescriptor y.desc = some sig → argsL.length = sig.parameters.length)
    (hstack : g.stack = argsL.reverse ++ .ref b :: rest) (hW : 2 * g.monitorRoom + (rest.map fun v => v.category).sum ≤ W) (hdg : decode c.code g.pc = .ok (.invokespecial index, 3))
    (hpre : ∀ vm₁, s.WarmedH vm₁ → Pre ⟨T.setVm vm₁, locs, cells, slots⟩ (Value.ref b :: argsL).toArray) :
    (∃ (v : Option Value) (vm₁ : Vm) (B : Pt), s.WarmedH vm₁ ∧ Stand p l e R s m args below meth c B.U B.locs B.cells B.slots ∧ Post ⟨T.setVm vm₁, locs, cells, slots⟩ (Value.ref b :: argsL).toArray v B ∧
      ∀ target, Steps p.tables e below (B.U.setTop { g with pc := g.pc + 3, stack := v.toList ++ rest }) target → Steps p.tables e below (T.setTop g) target) ∨
    (∃ (q : Addr) (vm₁ : Vm) (B : Pt), s.WarmedH vm₁ ∧ Stand p l e R s m args below meth c B.U B.locs B.cells B.slots ∧ PostX ⟨T.setVm vm₁, locs, cells, slots⟩ (Value.ref b :: argsL).toArray q B ∧
      Steps p.tables e below (T.setTop g) ((B.U.setTop { g with stack := rest }).pushFrame (.throwing q))) := by
  obtain ⟨mk, methM, hnamed, hmethM, hstM, habM⟩ := Cond.instanceMethod_spec hinst
  obtain ⟨methM', cM, hmethM', -, -, -, -, -, -, hsigM⟩ := Cond.code_spec hnamed hcode
  cases hmethM.symm.trans hmethM'
  obtain ⟨ps, dk, kp, hps, hdk, hkp, hsuper, -, -, hnid⟩ := Cond.superclass_spec hown hsup
  have hn : s.methodNamed? ⟨y.cls, y.name, y.desc⟩ = some mk := hnamed
  have hpm : ps = mk.cls := Option.some.inj (hps.symm.trans (findClass_of_methodNamed hnamed))
  have hsub : s.vm.isSubclass ps mk.cls = true := by rw [hpm]; simp [Vm.isSubclass, Vm.isSubclassAux]
  obtain ⟨vm₁, X₁, hstep₁⟩ := X.invokespecialUp hexec hown hlink hsame hn hmethM hstM habM hno hdk hnid hps hsuper hsub (a := b) (cell := cellB) hcell
    (fun z h => by rw [h] at hobj; cases hobj) hkB (g := g) hg (argsL := argsL) (rest := rest) (hlen _ hsigM) hstack hdg
  rcases hK m meth c ⟨T.setVm vm₁, locs, cells, slots⟩ { g with stack := rest } (.invokespecial index) mk (Value.ref b :: argsL).toArray X₁ hg hsize hdg hW (X₁.named hnamed) (hpre vm₁ X₁.warmed) with ⟨v, B, X', hpost, hsteps⟩ | ⟨q, B, X', hpost, hsteps⟩
  · exact Or.inl ⟨v, vm₁, B, X₁.warmed, X', hpost, fun target h => hstep₁ _ (by rw [doInvoke_state]; exact hsteps.trans h)⟩
  · exact Or.inr ⟨q, vm₁, B, X₁.warmed, X', hpost, hstep₁ _ (by rw [doInvoke_state]; exact hsteps)⟩
theorem vx_runSU {y : MethodName} {bytes cc : ByteArray} {maxL nL mc ms n index : Nat} {ret : Option FieldType} {ws : List Cond} {rm : Room} {Pc : Array Value → State → Prop} {Qc : Array Value → State → Outcome → State → Prop} {XC : String → State → State → Prop} {free : Addr → Prop} {Ts : List Cond} {own C : String} {cC : ClassId} {b : Addr} {As rest : List Value} {g : JFrame}
    (hat : ClassAt s C cC) (S : CallFix p m c cc nL s args Ts own) (hM : vx_Met l y ws rm Pc Qc XC mc ms free) (cw : va_CS R s args own index y bytes maxL ret ws rm mc ms n) (hp : PreV s H C b Pc As)
    (hg : g.method = m) (hn : As.length = n) (hsize : g.locals.size = nL) (hstack : g.stack = As.reverse ++ .ref b :: rest) (hW : 2 * g.monitorRoom + (rest.map fun v => v.category).sum ≤ 8) (hdg : decode cc g.pc = .ok (.invokespecial index, 3)) (hf : cells + mc ≤ R.cells ∧ slots + ms ≤ R.slots) :
    vx_Run p l e R s m args below meth c H locs cells slots mc ms g rest (Qc (Value.ref b :: As).toArray) XC free := by
  obtain ⟨⟨hrc, hrs, hfr, hlo, hws, hcw⟩, hl1, hl2, hl3, hl4, hini, hcode, hno, hlen⟩ := cw
  have hK : vx_Back l R p e below s args y 3 8 (PreOf R mc ms Pc) (PostOf Qc mc ms free) (vx_Post XC mc ms free) := vx_back (bytes := bytes) (maxL := maxL) (ret := ret) hM hp.1 hrc hrs hfr hlo hws hcw (fun a' U hW => word_at hW (Or.inl (by first | rfl | simp [Cond.onTables, Cond.keeps, Cond.steady])) hini)
  obtain ⟨hx, hb, hml, ho, -⟩ := S
  obtain ⟨-, ⟨cellB, hcB, hoB, hclB⟩, hPc⟩ := hp
  obtain ⟨hfc, kB, hkB, -⟩ := hat
  cases hfc.symm.trans hclB
  intro T hT X
  rcases vx_callSU X hx (bytes := bytes) (maxL := maxL) (ret := ret) ho hl1 hl2 hl3 hl4 hcode hno hK (by rw [hT]; exact hcB) hoB hkB hg (hsize.trans hml.symm) (argsL := As) (rest := rest) (fun sig h => hn.trans (hlen sig h)) hstack hW (by rw [hb]; exact hdg)
    (fun vm₁ hW₁ => ⟨hf.1, hf.2, hPc (T.setVm vm₁) hT hW₁⟩) with ⟨v, vm₁, ⟨U', l2, c2, s2⟩, hW₁, X', ⟨g', mk, t, L, e1, e2, hq, h1, hL, h2, h3⟩, st⟩ | ⟨q, vm₁, ⟨U', l2, c2, s2⟩, hW₁, X', ⟨g', mk, t, L, E, ce, e1, e2, hq, hce, hcv, hcl, h1, hL, h2, h3⟩, st⟩
  · dsimp only [Pt.U, Pt.locs, Pt.cells, Pt.slots] at X' e1 e2 h1 h2 h3 st
    subst h1; subst h2; subst h3
    exact Or.inl ⟨v, (T.setVm vm₁).calling g' mk (Value.ref b :: As).toArray, t, U', L, hT, X', hL, e1, e2, hq, st⟩
  · dsimp only [Pt.U, Pt.locs, Pt.cells, Pt.slots] at X' e1 e2 h1 h2 h3 st hcl
    subst h1; subst h2; subst h3
    exact Or.inr ⟨q, (T.setVm vm₁).calling g' mk (Value.ref b :: As).toArray, t, U', L, E, ce, hT, X', hL, e1, e2, hq, hce, hcv, vx_cls hW₁ hcl, st⟩
end
/-! ===== END ===== -/
/-! ===== BEGIN a private method of a nest mate that may throw (follows va_callVN, va_callSN, va_runVN, va_runSN) ===== -/
section
variable {p : Program} {l : Launch} {e : Env} {R : Room} {s : State} {m : MethodId} {args : Array Value} {below : List Frame} {meth : Method} {c : Code} {H : Heap} {locs : List Loc} {cells slots : Nat}
variable {T : State}
theorem vx_callVN (X : Stand p l e R s m args below meth c T locs cells slots) (hexec : p.tables.exec = Jvm.exec) {own C : String} {index : Nat} {host : String} {y : MethodName} {bytes : ByteArray} {maxL : Nat} {ret : Option FieldType}
    (hown : s.vm.findClass own = some m.cls) (hlink : (Cond.methodLinkNest own index y host).before args s = true) (hinst : (Cond.instanceMethod y).before args s = true) (hsel : (Cond.selects C y y).before args s = true)
    (hcode : (Cond.code y bytes maxL ret).before args s = true) (hy : y.cls ≠ "java/lang/invoke/MethodHandle" ∧ y.cls ≠ "java/lang/invoke/VarHandle")
    {W : Nat} {Pre : Pt → Array Value → Prop} {Post : Pt → Array Value → Option Value → Pt → Prop} {PostX : Pt → Array Value → Addr → Pt → Prop} (hK : vx_Back l R p e below s args y 3 W Pre Post PostX)
    {b : Addr} {cellB : Cell} (hcell : T.heap[b]? = some cellB) (hobj : cellB.vm.isStatics = false) (hcls : s.vm.findClass C = some cellB.cls)
    {g : JFrame} (hg : g.method = m) (hsize : g.locals.size = c.maxLocals) {argsL rest : List Value} (hlen : ∀ sig, parseMethodDescriptor y.desc = some sig → argsL.length = sig.parameters.length)
    (hstack : g.stack = argsL.reverse ++ .ref b :: rest) (hW : 2 * g.monitorRoom + (rest.map fun v => v.category).sum ≤ W) (hdg : decode c.code g.pc = .ok (.invokevirtual index, 3))
    (hpre : ∀ vm₁, s.WarmedH vm₁ → Pre ⟨T.setVm vm₁, locs, cells, slots⟩ (Value.ref b :: argsL).toArray) :
    (∃ (v : Option Value) (vm₁ : Vm) (B : Pt), s.WarmedH vm₁ ∧ Stand p l e R s m args below meth c B.U B.locs B.cells B.slots ∧ Post ⟨T.setVm vm₁, locs, cells, slots⟩ (Value.ref b :: argsL).toArray v B ∧
      ∀ target, Steps p.tables e below (B.U.setTop { g with pc := g.pc + 3, stack := v.toList ++ rest }) target → Steps p.tables e below (T.setTop g) target) ∨
    (∃ (q : Addr) (vm₁ : Vm) (B : Pt), s.WarmedH vm₁ ∧ Stand p l e R s m args below meth c B.U B.locs B.cells B.slots ∧ PostX ⟨T.setVm vm₁, locs, cells, slots⟩ (Value.ref b :: argsL).toArray q B ∧
      Steps p.tables e below (T.setTop g) ((B.U.setTop { g with stack := rest }).pushFrame (.throwing q))) := by
  obtain ⟨mk, methM, hnamed, hmethM, hstM, habM⟩ := Cond.instanceMethod_spec hinst
  obtain ⟨methM', cM, hmethM', -, -, -, -, -, -, hsigM⟩ := Cond.code_spec hnamed hcode
  cases hmethM.symm.trans hmethM'
  obtain ⟨c2, r2, m2, q1, q2, q3, q4, kP, hkP, hkPi⟩ := Cond.selects_spec hsel
  cases hcls.symm.trans q1
  cases (State.methodFound?_of_named hnamed hy).symm.trans q2
  cases hnamed.symm.trans q3
  have hselP : selectMethod e.platform s.vm cellB.cls mk = .method mk := by rw [Launch.admits_selectMethod X.admits]; exact q4
  obtain ⟨vm₁, X₁, hstep₁⟩ := X.invokevirtualNest hexec hown hlink hnamed hmethM hstM hkP hkPi hy (a := b) (cell := cellB) hcell
    (fun z h => by rw [h] at hobj; cases hobj) hselP hmethM habM hkP hkPi (g := g) hg (argsL := argsL) (rest := rest) (hlen _ hsigM) hstack hdg
  rcases hK m meth c ⟨T.setVm vm₁, locs, cells, slots⟩ { g with stack := rest } (.invokevirtual index) mk (Value.ref b :: argsL).toArray X₁ hg hsize hdg hW (X₁.named hnamed) (hpre vm₁ X₁.warmed) with ⟨v, B, X', hpost, hsteps⟩ | ⟨q, B, X', hpost, hsteps⟩
  · exact Or.inl ⟨v, vm₁, B, X₁.warmed, X', hpost, fun target h => hstep₁ _ fun acts => by rw [doInvoke_state]; exact hsteps.trans h⟩
  · exact Or.inr ⟨q, vm₁, B, X₁.warmed, X', hpost, hstep₁ _ fun acts => by rw [doInvoke_state]; exact hsteps⟩
theorem vx_callSN (X : Stand p l e R s m args below meth c T locs cells slots) (hexec : p.tables.exec = Jvm.exec) {own : String} {index : Nat} {host : String} {y : MethodName} {bytes : ByteArray} {maxL : Nat} {ret : Option FieldType}
    (hown : s.vm.findClass own = some m.cls) (hlink : (Cond.methodLinkNest own index y host).before args s = true) (hstat : (Cond.static y).before args s = true) (hinit : (Cond.initialized y.cls).before args s = true)
    (hcode : (Cond.code y bytes maxL ret).before args s = true) (hy : y.cls ≠ "java/lang/invoke/MethodHandle" ∧ y.cls ≠ "java/lang/invoke/VarHandle")
    {W : Nat} {Pre : Pt → Array Value → Prop} {Post : Pt → Array Value → Option Value → Pt → Prop} {PostX : Pt → Array Value → Addr → Pt → Prop} (hK : vx_Back l R p e below s args y 3 W Pre Post PostX)
    {g : JFrame} (hg : g.method = m) (hsize : g.locals.size = c.maxLocals) {argsL rest : List Value} (hlen : ∀ sig, parseMethodDescriptor y.desc = some sig → argsL.length = sig.parameters.length)
    (hstack : g.stack = argsL.reverse ++ rest) (hW : 2 * g.monitorRoom + (rest.map fun v => v.category).sum ≤ W) (hdg : decode c.code g.pc = .ok (.invokestatic index, 3))
    (hpre : ∀ vm₁, s.WarmedH vm₁ → Pre ⟨T.setVm vm₁, locs, cells, slots⟩ argsL.toArray) :
    (∃ (v : Option Value) (vm₁ : Vm) (B : Pt), s.WarmedH vm₁ ∧ Stand p l e R s m args below meth c B.U B.locs B.cells B.slots ∧ Post ⟨T.setVm vm₁, locs, cells, slots⟩ argsL.toArray v B ∧
      ∀ target, Steps p.tables e below (B.U.setTop { g with pc := g.pc + 3, stack := v.toList ++ rest }) target → Steps p.tables e below (T.setTop g) target) ∨
    (∃ (q : Addr) (vm₁ : Vm) (B : Pt), s.WarmedH vm₁ ∧ Stand p l e R s m args below meth c B.U B.locs B.cells B.slots ∧ PostX ⟨T.setVm vm₁, locs, cells, slots⟩ argsL.toArray q B ∧
      Steps p.tables e below (T.setTop g) ((B.U.setTop { g with stack := rest }).pushFrame (.throwing q))) := by
  obtain ⟨mk, hnamed⟩ := Cond.code_named hcode
  obtain ⟨methM, cM, hmethM, -, -, -, -, -, -, hsigM⟩ := Cond.code_spec hnamed hcode
  have hstatic : methM.isStatic = true := Cond.static_spec hnamed hmethM hstat
  obtain ⟨kP, hkP, -⟩ := className_of_methodNamed hnamed
  have hinitP : kP.init = .initialized := Cond.initialized_spec (findClass_of_methodNamed hnamed) hkP hinit
  obtain ⟨vm₁, X₁, hstep₁⟩ := X.invokestaticNest hexec hown hlink hnamed hmethM hstatic hkP hinitP hy (g := g) hg (argsL := argsL) (rest := rest) (hlen _ hsigM) hstack hdg
  rcases hK m meth c ⟨T.setVm vm₁, locs, cells, slots⟩ { g with stack := rest } (.invokestatic index) mk argsL.toArray X₁ hg hsize hdg hW (X₁.named hnamed) (hpre vm₁ X₁.warmed) with ⟨v, B, X', hpost, hsteps⟩ | ⟨q, B, X', hpost, hsteps⟩
  · exact Or.inl ⟨v, vm₁, B, X₁.warmed, X', hpost, fun target h => hstep₁ _ fun acts => by rw [doInvoke_state]; exact hsteps.trans h⟩
  · exact Or.inr ⟨q, vm₁, B, X₁.warmed, X', hpost, hstep₁ _ fun acts => by rw [doInvoke_state]; exact hsteps⟩
theorem vx_runVN {y : MethodName} {bytes cc : ByteArray} {maxL nL mc ms n index : Nat} {ret : Option FieldType} {ws : List Cond} {rm : Room} {Pc : Array Value → State → Prop} {Qc : Array Value → State → Outcome → State → Prop} {XC : String → State → State → Prop} {free : Addr → Prop} {Ts : List Cond} {own C host : String} {b : Addr} {As rest : List Value} {g : JFrame}
    (S : CallFix p m c cc nL s args Ts own) (hM : vx_Met l y ws rm Pc Qc XC mc ms free) (cw : va_CN R s args own index y host bytes maxL ret ws rm mc ms n ∧ (Cond.instanceMethod y).before args s = true ∧ (Cond.selects C y y).before args s = true) (hp : PreV s H C b Pc As)
    (hg : g.method = m) (hn : As.length = n) (hsize : g.locals.size = nL) (hstack : g.stack = As.reverse ++ .ref b :: rest) (hW : 2 * g.monitorRoom + (rest.map fun v => v.category).sum ≤ 8) (hdg : decode cc g.pc = .ok (.invokevirtual index, 3)) (hf : cells + mc ≤ R.cells ∧ slots + ms ≤ R.slots) :
    vx_Run p l e R s m args below meth c H locs cells slots mc ms g rest (Qc (Value.ref b :: As).toArray) XC free := by
  obtain ⟨⟨⟨hrc, hrs, hfr, hlo, hws, hcw⟩, hcode, hini, hy, hlen, hl⟩, hx1, hx2⟩ := cw
  have hK : vx_Back l R p e below s args y 3 8 (PreOf R mc ms Pc) (PostOf Qc mc ms free) (vx_Post XC mc ms free) := vx_back (bytes := bytes) (maxL := maxL) (ret := ret) hM hp.1 hrc hrs hfr hlo hws hcw (fun a' U hW => word_at hW (Or.inl (by first | rfl | simp [Cond.onTables, Cond.keeps, Cond.steady])) hini)
  obtain ⟨hx, hb, hml, ho, -⟩ := S
  obtain ⟨-, ⟨cellB, hcB, hoB, hclB⟩, hPc⟩ := hp
  intro T hT X
  rcases vx_callVN X hx (C := C) (bytes := bytes) (maxL := maxL) (ret := ret) ho hl hx1 hx2 hcode hy hK (by rw [hT]; exact hcB) hoB hclB hg (hsize.trans hml.symm) (argsL := As) (rest := rest) (fun sig h => hn.trans (hlen sig h)) hstack hW (by rw [hb]; exact hdg)
    (fun vm₁ hW₁ => ⟨hf.1, hf.2, hPc (T.setVm vm₁) hT hW₁⟩) with ⟨v, vm₁, ⟨U', l2, c2, s2⟩, hW₁, X', ⟨g', mk, t, L, e1, e2, hq, h1, hL, h2, h3⟩, st⟩ | ⟨q, vm₁, ⟨U', l2, c2, s2⟩, hW₁, X', ⟨g', mk, t, L, E, ce, e1, e2, hq, hce, hcv, hcl, h1, hL, h2, h3⟩, st⟩
  · dsimp only [Pt.U, Pt.locs, Pt.cells, Pt.slots] at X' e1 e2 h1 h2 h3 st
    subst h1; subst h2; subst h3
    exact Or.inl ⟨v, (T.setVm vm₁).calling g' mk (Value.ref b :: As).toArray, t, U', L, hT, X', hL, e1, e2, hq, st⟩
  · dsimp only [Pt.U, Pt.locs, Pt.cells, Pt.slots] at X' e1 e2 h1 h2 h3 st hcl
    subst h1; subst h2; subst h3
    exact Or.inr ⟨q, (T.setVm vm₁).calling g' mk (Value.ref b :: As).toArray, t, U', L, E, ce, hT, X', hL, e1, e2, hq, hce, hcv, vx_cls hW₁ hcl, st⟩
theorem vx_runSN {y : MethodName} {bytes cc : ByteArray} {maxL nL mc ms n index : Nat} {ret : Option FieldType} {ws : List Cond} {rm : Room} {Pc : Array Value → State → Prop} {Qc : Array Value → State → Outcome → State → Prop} {XC : String → State → State → Prop} {free : Addr → Prop} {Ts : List Cond} {own host : String} {As rest : List Value} {g : JFrame}
    (S : CallFix p m c cc nL s args Ts own) (hM : vx_Met l y ws rm Pc Qc XC mc ms free) (cw : va_CN R s args own index y host bytes maxL ret ws rm mc ms n ∧ (Cond.static y).before args s = true ∧ True) (hp : PreS s H Pc As)
    (hg : g.method = m) (hn : As.length = n) (hsize : g.locals.size = nL) (hstack : g.stack = As.reverse ++ rest) (hW : 2 * g.monitorRoom + (rest.map fun v => v.category).sum ≤ 8) (hdg : decode cc g.pc = .ok (.invokestatic index, 3)) (hf : cells + mc ≤ R.cells ∧ slots + ms ≤ R.slots) :
    vx_Run p l e R s m args below meth c H locs cells slots mc ms g rest (Qc As.toArray) XC free := by
  obtain ⟨⟨⟨hrc, hrs, hfr, hlo, hws, hcw⟩, hcode, hini, hy, hlen, hl⟩, hx1, hx2⟩ := cw
  have hK : vx_Back l R p e below s args y 3 8 (PreOf R mc ms Pc) (PostOf Qc mc ms free) (vx_Post XC mc ms free) := vx_back (bytes := bytes) (maxL := maxL) (ret := ret) hM hp.1 hrc hrs hfr hlo hws hcw (fun a' U hW => word_at hW (Or.inl (by first | rfl | simp [Cond.onTables, Cond.keeps, Cond.steady])) hini)
  obtain ⟨hx, hb, hml, ho, -⟩ := S
  have hPc := hp.2
  intro T hT X
  rcases vx_callSN X hx (bytes := bytes) (maxL := maxL) (ret := ret) ho hl hx1 hini hcode hy hK hg (hsize.trans hml.symm) (argsL := As) (rest := rest) (fun sig h => hn.trans (hlen sig h)) hstack hW (by rw [hb]; exact hdg)
    (fun vm₁ hW₁ => ⟨hf.1, hf.2, hPc (T.setVm vm₁) hT hW₁⟩) with ⟨v, vm₁, ⟨U', l2, c2, s2⟩, hW₁, X', ⟨g', mk, t, L, e1, e2, hq, h1, hL, h2, h3⟩, st⟩ | ⟨q, vm₁, ⟨U', l2, c2, s2⟩, hW₁, X', ⟨g', mk, t, L, E, ce, e1, e2, hq, hce, hcv, hcl, h1, hL, h2, h3⟩, st⟩
  · dsimp only [Pt.U, Pt.locs, Pt.cells, Pt.slots] at X' e1 e2 h1 h2 h3 st
    subst h1; subst h2; subst h3
    exact Or.inl ⟨v, (T.setVm vm₁).calling g' mk As.toArray, t, U', L, hT, X', hL, e1, e2, hq, st⟩
  · dsimp only [Pt.U, Pt.locs, Pt.cells, Pt.slots] at X' e1 e2 h1 h2 h3 st hcl
    subst h1; subst h2; subst h3
    exact Or.inr ⟨q, (T.setVm vm₁).calling g' mk As.toArray, t, U', L, E, ce, hT, X', hL, e1, e2, hq, hce, hcv, vx_cls hW₁ hcl, st⟩
end
/-! ===== END ===== -/
/-! ===== BEGIN calls by an interface of methods that may throw (vx_callIF, vx_runF follow va_callIF, va_runF of this kit) ===== -/
section
variable {p : Program} {l : Launch} {e : Env} {R : Room} {s : State} {m : MethodId} {args : Array Value} {below : List Frame} {meth : Method} {c : Code} {H : Heap} {locs : List Loc} {cells slots : Nat} {Q : State → Prop}
variable {mc ms : Nat} {free : Addr → Prop} {A0 A1 : Nat → Prop} {H0 : Heap} {a : Array Value} {pc : Nat} {ls : Array Slot} {st0 rest : List Value}
def vx_Run5 (p : Program) (l : Launch) (e : Env) (R : Room) (s : State) (m : MethodId) (args : Array Value) (below : List Frame) (meth : Method) (c : Code) (H : Heap) (locs : List Loc) (cells slots mc ms : Nat) (g : JFrame) (rest : List Value) (Qa : State → Outcome → State → Prop) (XC : String → State → State → Prop) (free : Addr → Prop) : Prop :=
  ∀ T : State, T.heap = H → Stand p l e R s m args below meth c T locs cells slots →
    (∃ (v : Option Value) (st₀ t T' : State) (L : List Loc), st₀.heap = H ∧ Stand p l e R s m args below meth c T' (locs ++ L) (cells + mc) (slots + ms) ∧ (∀ q ∈ L, free q.base) ∧ T'.heap = t.heap ∧ T'.vm = t.vm ∧ Qa st₀ (.returned v) t ∧
      Goes p e below T g T' { g with pc := g.pc + 5, stack := v.toList ++ rest }) ∨
    (∃ (q : Addr) (st₀ t T' : State) (L : List Loc) (E : String) (ce : Cell), st₀.heap = H ∧ Stand p l e R s m args below meth c T' (locs ++ L) (cells + mc) (slots + ms) ∧ (∀ z ∈ L, free z.base) ∧ T'.heap = t.heap ∧ T'.vm = t.vm ∧ XC E st₀ t ∧ t.heap[q]? = some ce ∧ ce.vm = .none ∧ s.vm.findClass E = some ce.cls ∧
      Steps p.tables e below (T.setTop g) ((T'.setTop { g with stack := rest }).pushFrame (.throwing q)))
theorem vx_callIF {T : State} (X : Stand p l e R s m args below meth c T locs cells slots) (hexec : p.tables.exec = Jvm.exec) {own C : String} {index count : Nat} {x y : MethodName} {bytes : ByteArray} {maxL : Nat} {ret : Option FieldType}
    (hown : s.vm.findClass own = some m.cls) (hlink : (Cond.methodLink own index x).before args s = true) (hdecl : (Cond.declares x).before args s = true) (hface : (Cond.interfaceMethod x.cls x.cls x.name x.desc).before args s = true)
    (hsel : (Cond.selects C x y).before args s = true) (hinst : (Cond.instanceMethod y).before args s = true) (hpub : (Cond.publicMethod y).before args s = true) (hunh : (Cond.unhidden C x.name x.desc).before args s = true)
    (hcast : (Cond.castable C x.cls).before args s = true) (hcode : (Cond.code y bytes maxL ret).before args s = true) (hx : x.cls ≠ "java/lang/invoke/MethodHandle" ∧ x.cls ≠ "java/lang/invoke/VarHandle")
    {W9 : Nat} {Pre : Pt → Array Value → Prop} {Post : Pt → Array Value → Option Value → Pt → Prop} {PostX : Pt → Array Value → Addr → Pt → Prop} (hK : vx_Back l R p e below s args y 5 W9 Pre Post PostX)
    {b : Addr} {cellB : Cell} {kB : Class} (hcell : T.heap[b]? = some cellB) (hobj : cellB.vm.isStatics = false) (hcls : s.vm.findClass C = some cellB.cls) (hkB : s.vm.classes[cellB.cls]? = some kB)
    {g : JFrame} (hg : g.method = m) (hsize : g.locals.size = c.maxLocals) {argsL rest : List Value} (hlen : ∀ sig, parseMethodDescriptor x.desc = some sig → argsL.length = sig.parameters.length)
    (hstack : g.stack = argsL.reverse ++ .ref b :: rest) (hW : 2 * g.monitorRoom + (rest.map fun v => v.category).sum ≤ W9) (hdg : decode c.code g.pc = .ok (.invokeinterface index count, 5))
    (hpre : ∀ vm₁, s.WarmedH vm₁ → Pre ⟨T.setVm vm₁, locs, cells, slots⟩ (Value.ref b :: argsL).toArray) :
    (∃ (v : Option Value) (vm₁ : Vm) (B : Pt), s.WarmedH vm₁ ∧ Stand p l e R s m args below meth c B.U B.locs B.cells B.slots ∧ Post ⟨T.setVm vm₁, locs, cells, slots⟩ (Value.ref b :: argsL).toArray v B ∧
      ∀ target, Steps p.tables e below (B.U.setTop { g with pc := g.pc + 5, stack := v.toList ++ rest }) target → Steps p.tables e below (T.setTop g) target) ∨
    (∃ (q : Addr) (vm₁ : Vm) (B : Pt), s.WarmedH vm₁ ∧ Stand p l e R s m args below meth c B.U B.locs B.cells B.slots ∧ PostX ⟨T.setVm vm₁, locs, cells, slots⟩ (Value.ref b :: argsL).toArray q B ∧
      Steps p.tables e below (T.setTop g) ((B.U.setTop { g with stack := rest }).pushFrame (.throwing q))) := by
  obtain ⟨r0, r, hn, hrm, hstR, hsigR⟩ := Cond.declares_spec hdecl
  obtain ⟨cL, kL, r1, hcL, hkL, hiL, hfoundL, hn1⟩ := Cond.interfaceMethod_spec hface
  cases hn.symm.trans hn1
  have hr0cls : r0.cls = cL := Option.some.inj ((findClass_of_methodNamed hn).symm.trans hcL)
  obtain ⟨hnameR, hdescR⟩ := name_of_methodNamed hn hrm
  obtain ⟨mk, methM, hnamed, hmethM, -, habM⟩ := Cond.instanceMethod_spec hinst
  obtain ⟨c2, r2, m2, q1, q2, q3, q4, -⟩ := Cond.selects_spec hsel
  cases hcls.symm.trans q1
  cases hfoundL.symm.trans q2
  cases hnamed.symm.trans q3
  have hselP : selectMethod e.platform s.vm cellB.cls r0 = .method mk := by rw [Launch.admits_selectMethod X.admits]; exact q4
  have hpubM : hasFlag methM.accessFlags Acc.public_ = true := Cond.publicMethod_spec hnamed hmethM hpub
  have hway : ((cellB.cls :: s.vm.superclasses cellB.cls).any fun k => (declaredIn s.vm r.name r.desc k).any fun (_, z) => z.isPrivate || z.isStatic) = false := by
    rw [hnameR, hdescR]; exact Cond.unhidden_spec hcls hunh
  obtain ⟨c3, t3, w1, w2, w3⟩ := Cond.castable_spec hcast
  cases hcls.symm.trans w1
  cases hcL.symm.trans w2
  obtain ⟨vm₁, X₁, hstep₁⟩ := X.invokeinterface hexec hown hlink hn hrm hstR (by rw [hr0cls]; exact hkL) hiL hx (a := b) (cell := cellB) (kcell := kB) hcell
    (fun z h => by rw [h] at hobj; cases hobj) hkB (by rw [hr0cls]; exact w3) hselP hmethM hway hpubM habM (g := g) hg (argsL := argsL) (rest := rest) (hlen _ hsigR) hstack hdg
  rcases hK m meth c ⟨T.setVm vm₁, locs, cells, slots⟩ { g with stack := rest } (.invokeinterface index count) mk (Value.ref b :: argsL).toArray X₁ hg hsize hdg hW (X₁.named hnamed) (hpre vm₁ X₁.warmed) with ⟨v, B, X', hpost, hsteps⟩ | ⟨q, B, X', hpost, hsteps⟩
  · exact Or.inl ⟨v, vm₁, B, X₁.warmed, X', hpost, fun target h => hstep₁ _ fun acts => by rw [doInvoke_state]; exact hsteps.trans h⟩
  · exact Or.inr ⟨q, vm₁, B, X₁.warmed, X', hpost, hstep₁ _ fun acts => by rw [doInvoke_state]; exact hsteps⟩
theorem vx_runF {x y : MethodName} {bytes cc : ByteArray} {maxL nL mc ms n index count : Nat} {ret : Option FieldType} {ws : List Cond} {rm : Room} {Pc : Array Value → State → Prop} {Qc : Array Value → State → Outcome → State → Prop} {XC : String → State → State → Prop} {free : Addr → Prop} {Ts : List Cond} {own C : String} {cC : ClassId} {b : Addr} {As rest : List Value} {g : JFrame}
    (hat : ClassAt s C cC) (S : CallFix p m c cc nL s args Ts own) (hM : vx_Met l y ws rm Pc Qc XC mc ms free) (cw : va_CI R s args own C index x y bytes maxL ret ws rm mc ms n) (hp : PreV s H C b Pc As)
    (hg : g.method = m) (hn : As.length = n) (hsize : g.locals.size = nL) (hstack : g.stack = As.reverse ++ .ref b :: rest) (hW : 2 * g.monitorRoom + (rest.map fun v => v.category).sum ≤ 8) (hdg : decode cc g.pc = .ok (.invokeinterface index count, 5)) (hf : cells + mc ≤ R.cells ∧ slots + ms ≤ R.slots) :
    vx_Run5 p l e R s m args below meth c H locs cells slots mc ms g rest (Qc (Value.ref b :: As).toArray) XC free := by
  obtain ⟨hrc, hrs, hfr, hlo, hws, hcw⟩ := cw.back
  have hini := cw.init
  have hK : vx_Back l R p e below s args y 5 8 (PreOf R mc ms Pc) (PostOf Qc mc ms free) (vx_Post XC mc ms free) := vx_back (bytes := bytes) (maxL := maxL) (ret := ret) hM hp.1 hrc hrs hfr hlo hws hcw (fun a' U hW => word_at hW (Or.inl (by first | rfl | simp [Cond.onTables, Cond.keeps, Cond.steady])) hini)
  obtain ⟨hx, hb, hml, ho, -⟩ := S
  obtain ⟨-, ⟨cellB, hcB, hoB, hclB⟩, hPc⟩ := hp
  obtain ⟨hfc, kB, hkB, -⟩ := hat
  cases hfc.symm.trans hclB
  intro T hT X
  rcases vx_callIF X hx (C := C) (bytes := bytes) (maxL := maxL) (ret := ret) ho cw.link cw.decl cw.face cw.sel cw.inst cw.pub cw.unh cw.cast cw.code cw.notMH hK (by rw [hT]; exact hcB) hoB hclB hkB hg (hsize.trans hml.symm) (argsL := As) (rest := rest) (fun sig h => hn.trans (cw.len sig h)) hstack hW (by rw [hb]; exact hdg)
    (fun vm₁ hW₁ => ⟨hf.1, hf.2, hPc (T.setVm vm₁) hT hW₁⟩) with ⟨v, vm₁, ⟨U', l2, c2, s2⟩, hW₁, X', ⟨g', mk, t, L, e1, e2, hq, h1, hL, h2, h3⟩, st⟩ | ⟨q, vm₁, ⟨U', l2, c2, s2⟩, hW₁, X', ⟨g', mk, t, L, E, ce, e1, e2, hq, hce, hcv, hcl, h1, hL, h2, h3⟩, st⟩
  · dsimp only [Pt.U, Pt.locs, Pt.cells, Pt.slots] at X' e1 e2 h1 h2 h3 st
    subst h1; subst h2; subst h3
    exact Or.inl ⟨v, (T.setVm vm₁).calling g' mk (Value.ref b :: As).toArray, t, U', L, hT, X', hL, e1, e2, hq, st⟩
  · dsimp only [Pt.U, Pt.locs, Pt.cells, Pt.slots] at X' e1 e2 h1 h2 h3 st hcl
    subst h1; subst h2; subst h3
    exact Or.inr ⟨q, (T.setVm vm₁).calling g' mk (Value.ref b :: As).toArray, t, U', L, E, ce, hT, X', hL, e1, e2, hq, hce, hcv, vx_cls hW₁ hcl, st⟩
theorem vx_callFv {S SX : Type} {post : S → Prop} {px : SX → Prop} {B : S → State → Prop} {BX : String → SX → State → Prop} {AX : Nat → Prop} (hr : vx_Run5 p l e R s m args below meth c H locs cells slots mc ms (F0 m pc ls st0) rest (va_Qv post B A1 a) (vx_X px BX AX) free) (hS : va_S A0 H0 H locs) (hA : ∀ q, q < H.size → A1 q → A0 q) (hf : ∀ q, free q → A0 q) (hAX : ∀ q, q < H.size → AX q → A0 q)
    (kx : ∀ (E : String) (ce : Cell) (q9 : Addr) (u : SX) (t : State) (H1 : Heap) (locs1 : List Loc), t.heap = H1 → s.vm.Alike t.vm → px u → BX E u t → H.size ≤ H1.size → (∀ q : Nat, q < H.size → ¬ AX q → H1[q]? = H[q]?) → va_S A0 H0 H1 locs1 → H1[q9]? = some ce → ce.vm = .none → s.vm.findClass E = some ce.cls → vx_W p l e R s m args below meth c H1 locs1 (cells + mc) (slots + ms) Q (F0 m pc ls rest) q9)
    (kk : ∀ (u : S) (t : State) (H1 : Heap) (locs1 : List Loc), t.heap = H1 → s.vm.Alike t.vm → post u → B u t → H.size ≤ H1.size → (∀ q : Nat, q < H.size → ¬ A1 q → H1[q]? = H[q]?) → va_S A0 H0 H1 locs1 → W p l e R s m args below meth c H1 locs1 (cells + mc) (slots + ms) Q (F0 m (pc + 5) ls (rest))) : W p l e R s m args below meth c H locs cells slots Q (F0 m pc ls st0) := by
  intro T hT X
  rcases hr T hT X with ⟨v, st₀, t, T', L, h0, X', hL, e1, e2, ⟨⟨u, hv, hp, hb⟩, hF⟩, st⟩ | ⟨q, st₀, t, T', L, E, ce, h0, X', hL, e1, e2, ⟨u, hp, hb, hF⟩, hce, hcv, hcl, st⟩
  · cases hv
    obtain ⟨k1, k2, k3⟩ := vx_keep h0 e1 hS hA hf hL hF
    obtain ⟨t2, a1, b1⟩ := kk u t T'.heap (locs ++ L) e1.symm (by rw [← e2]; exact X'.warmed.alike) hp hb k1 k2 k3 T' rfl X'
    exact ⟨t2, st t2 a1, b1⟩
  · obtain ⟨k1, k2, k3⟩ := vx_keep h0 e1 hS hAX hf hL hF
    obtain ⟨t2, a1, b1⟩ := kx E ce q u t T'.heap (locs ++ L) e1.symm (by rw [← e2]; exact X'.warmed.alike) hp hb k1 k2 k3 (by rw [e1]; exact hce) hcv hcl T' rfl X'
    exact ⟨t2, st.trans a1, b1⟩
theorem vx_callFi {S SX : Type} {post : Int32 → S → Prop} {px : SX → Prop} {B : S → State → Prop} {BX : String → SX → State → Prop} {AX : Nat → Prop} (hr : vx_Run5 p l e R s m args below meth c H locs cells slots mc ms (F0 m pc ls st0) rest (va_Qi post B A1 a) (vx_X px BX AX) free) (hS : va_S A0 H0 H locs) (hA : ∀ q, q < H.size → A1 q → A0 q) (hf : ∀ q, free q → A0 q) (hAX : ∀ q, q < H.size → AX q → A0 q)
    (kx : ∀ (E : String) (ce : Cell) (q9 : Addr) (u : SX) (t : State) (H1 : Heap) (locs1 : List Loc), t.heap = H1 → s.vm.Alike t.vm → px u → BX E u t → H.size ≤ H1.size → (∀ q : Nat, q < H.size → ¬ AX q → H1[q]? = H[q]?) → va_S A0 H0 H1 locs1 → H1[q9]? = some ce → ce.vm = .none → s.vm.findClass E = some ce.cls → vx_W p l e R s m args below meth c H1 locs1 (cells + mc) (slots + ms) Q (F0 m pc ls rest) q9)
    (kk : ∀ (r : Int32) (u : S) (t : State) (H1 : Heap) (locs1 : List Loc), t.heap = H1 → s.vm.Alike t.vm → post r u → B u t → H.size ≤ H1.size → (∀ q : Nat, q < H.size → ¬ A1 q → H1[q]? = H[q]?) → va_S A0 H0 H1 locs1 → W p l e R s m args below meth c H1 locs1 (cells + mc) (slots + ms) Q (F0 m (pc + 5) ls (.int r :: rest))) : W p l e R s m args below meth c H locs cells slots Q (F0 m pc ls st0) := by
  intro T hT X
  rcases hr T hT X with ⟨v, st₀, t, T', L, h0, X', hL, e1, e2, ⟨⟨r, u, hv, hp, hb⟩, hF⟩, st⟩ | ⟨q, st₀, t, T', L, E, ce, h0, X', hL, e1, e2, ⟨u, hp, hb, hF⟩, hce, hcv, hcl, st⟩
  · cases hv
    obtain ⟨k1, k2, k3⟩ := vx_keep h0 e1 hS hA hf hL hF
    obtain ⟨t2, a1, b1⟩ := kk r u t T'.heap (locs ++ L) e1.symm (by rw [← e2]; exact X'.warmed.alike) hp hb k1 k2 k3 T' rfl X'
    exact ⟨t2, st t2 a1, b1⟩
  · obtain ⟨k1, k2, k3⟩ := vx_keep h0 e1 hS hAX hf hL hF
    obtain ⟨t2, a1, b1⟩ := kx E ce q u t T'.heap (locs ++ L) e1.symm (by rw [← e2]; exact X'.warmed.alike) hp hb k1 k2 k3 (by rw [e1]; exact hce) hcv hcl T' rfl X'
    exact ⟨t2, st.trans a1, b1⟩
theorem vx_callFl {S SX : Type} {post : Int64 → S → Prop} {px : SX → Prop} {B : S → State → Prop} {BX : String → SX → State → Prop} {AX : Nat → Prop} (hr : vx_Run5 p l e R s m args below meth c H locs cells slots mc ms (F0 m pc ls st0) rest (va_Ql post B A1 a) (vx_X px BX AX) free) (hS : va_S A0 H0 H locs) (hA : ∀ q, q < H.size → A1 q → A0 q) (hf : ∀ q, free q → A0 q) (hAX : ∀ q, q < H.size → AX q → A0 q)
    (kx : ∀ (E : String) (ce : Cell) (q9 : Addr) (u : SX) (t : State) (H1 : Heap) (locs1 : List Loc), t.heap = H1 → s.vm.Alike t.vm → px u → BX E u t → H.size ≤ H1.size → (∀ q : Nat, q < H.size → ¬ AX q → H1[q]? = H[q]?) → va_S A0 H0 H1 locs1 → H1[q9]? = some ce → ce.vm = .none → s.vm.findClass E = some ce.cls → vx_W p l e R s m args below meth c H1 locs1 (cells + mc) (slots + ms) Q (F0 m pc ls rest) q9)
    (kk : ∀ (r : Int64) (u : S) (t : State) (H1 : Heap) (locs1 : List Loc), t.heap = H1 → s.vm.Alike t.vm → post r u → B u t → H.size ≤ H1.size → (∀ q : Nat, q < H.size → ¬ A1 q → H1[q]? = H[q]?) → va_S A0 H0 H1 locs1 → W p l e R s m args below meth c H1 locs1 (cells + mc) (slots + ms) Q (F0 m (pc + 5) ls (.long r :: rest))) : W p l e R s m args below meth c H locs cells slots Q (F0 m pc ls st0) := by
  intro T hT X
  rcases hr T hT X with ⟨v, st₀, t, T', L, h0, X', hL, e1, e2, ⟨⟨r, u, hv, hp, hb⟩, hF⟩, st⟩ | ⟨q, st₀, t, T', L, E, ce, h0, X', hL, e1, e2, ⟨u, hp, hb, hF⟩, hce, hcv, hcl, st⟩
  · cases hv
    obtain ⟨k1, k2, k3⟩ := vx_keep h0 e1 hS hA hf hL hF
    obtain ⟨t2, a1, b1⟩ := kk r u t T'.heap (locs ++ L) e1.symm (by rw [← e2]; exact X'.warmed.alike) hp hb k1 k2 k3 T' rfl X'
    exact ⟨t2, st t2 a1, b1⟩
  · obtain ⟨k1, k2, k3⟩ := vx_keep h0 e1 hS hAX hf hL hF
    obtain ⟨t2, a1, b1⟩ := kx E ce q u t T'.heap (locs ++ L) e1.symm (by rw [← e2]; exact X'.warmed.alike) hp hb k1 k2 k3 (by rw [e1]; exact hce) hcv hcl T' rfl X'
    exact ⟨t2, st.trans a1, b1⟩
theorem vx_callFf {S SX : Type} {post : UInt32 → S → Prop} {px : SX → Prop} {B : S → State → Prop} {BX : String → SX → State → Prop} {AX : Nat → Prop} (hr : vx_Run5 p l e R s m args below meth c H locs cells slots mc ms (F0 m pc ls st0) rest (va_Qf post B A1 a) (vx_X px BX AX) free) (hS : va_S A0 H0 H locs) (hA : ∀ q, q < H.size → A1 q → A0 q) (hf : ∀ q, free q → A0 q) (hAX : ∀ q, q < H.size → AX q → A0 q)
    (kx : ∀ (E : String) (ce : Cell) (q9 : Addr) (u : SX) (t : State) (H1 : Heap) (locs1 : List Loc), t.heap = H1 → s.vm.Alike t.vm → px u → BX E u t → H.size ≤ H1.size → (∀ q : Nat, q < H.size → ¬ AX q → H1[q]? = H[q]?) → va_S A0 H0 H1 locs1 → H1[q9]? = some ce → ce.vm = .none → s.vm.findClass E = some ce.cls → vx_W p l e R s m args below meth c H1 locs1 (cells + mc) (slots + ms) Q (F0 m pc ls rest) q9)
    (kk : ∀ (r : UInt32) (u : S) (t : State) (H1 : Heap) (locs1 : List Loc), t.heap = H1 → s.vm.Alike t.vm → post r u → B u t → H.size ≤ H1.size → (∀ q : Nat, q < H.size → ¬ A1 q → H1[q]? = H[q]?) → va_S A0 H0 H1 locs1 → W p l e R s m args below meth c H1 locs1 (cells + mc) (slots + ms) Q (F0 m (pc + 5) ls (.float r :: rest))) : W p l e R s m args below meth c H locs cells slots Q (F0 m pc ls st0) := by
  intro T hT X
  rcases hr T hT X with ⟨v, st₀, t, T', L, h0, X', hL, e1, e2, ⟨⟨r, u, hv, hp, hb⟩, hF⟩, st⟩ | ⟨q, st₀, t, T', L, E, ce, h0, X', hL, e1, e2, ⟨u, hp, hb, hF⟩, hce, hcv, hcl, st⟩
  · cases hv
    obtain ⟨k1, k2, k3⟩ := vx_keep h0 e1 hS hA hf hL hF
    obtain ⟨t2, a1, b1⟩ := kk r u t T'.heap (locs ++ L) e1.symm (by rw [← e2]; exact X'.warmed.alike) hp hb k1 k2 k3 T' rfl X'
    exact ⟨t2, st t2 a1, b1⟩
  · obtain ⟨k1, k2, k3⟩ := vx_keep h0 e1 hS hAX hf hL hF
    obtain ⟨t2, a1, b1⟩ := kx E ce q u t T'.heap (locs ++ L) e1.symm (by rw [← e2]; exact X'.warmed.alike) hp hb k1 k2 k3 (by rw [e1]; exact hce) hcv hcl T' rfl X'
    exact ⟨t2, st.trans a1, b1⟩
theorem vx_callFd {S SX : Type} {post : UInt64 → S → Prop} {px : SX → Prop} {B : S → State → Prop} {BX : String → SX → State → Prop} {AX : Nat → Prop} (hr : vx_Run5 p l e R s m args below meth c H locs cells slots mc ms (F0 m pc ls st0) rest (va_Qd post B A1 a) (vx_X px BX AX) free) (hS : va_S A0 H0 H locs) (hA : ∀ q, q < H.size → A1 q → A0 q) (hf : ∀ q, free q → A0 q) (hAX : ∀ q, q < H.size → AX q → A0 q)
    (kx : ∀ (E : String) (ce : Cell) (q9 : Addr) (u : SX) (t : State) (H1 : Heap) (locs1 : List Loc), t.heap = H1 → s.vm.Alike t.vm → px u → BX E u t → H.size ≤ H1.size → (∀ q : Nat, q < H.size → ¬ AX q → H1[q]? = H[q]?) → va_S A0 H0 H1 locs1 → H1[q9]? = some ce → ce.vm = .none → s.vm.findClass E = some ce.cls → vx_W p l e R s m args below meth c H1 locs1 (cells + mc) (slots + ms) Q (F0 m pc ls rest) q9)
    (kk : ∀ (r : UInt64) (u : S) (t : State) (H1 : Heap) (locs1 : List Loc), t.heap = H1 → s.vm.Alike t.vm → post r u → B u t → H.size ≤ H1.size → (∀ q : Nat, q < H.size → ¬ A1 q → H1[q]? = H[q]?) → va_S A0 H0 H1 locs1 → W p l e R s m args below meth c H1 locs1 (cells + mc) (slots + ms) Q (F0 m (pc + 5) ls (.double r :: rest))) : W p l e R s m args below meth c H locs cells slots Q (F0 m pc ls st0) := by
  intro T hT X
  rcases hr T hT X with ⟨v, st₀, t, T', L, h0, X', hL, e1, e2, ⟨⟨r, u, hv, hp, hb⟩, hF⟩, st⟩ | ⟨q, st₀, t, T', L, E, ce, h0, X', hL, e1, e2, ⟨u, hp, hb, hF⟩, hce, hcv, hcl, st⟩
  · cases hv
    obtain ⟨k1, k2, k3⟩ := vx_keep h0 e1 hS hA hf hL hF
    obtain ⟨t2, a1, b1⟩ := kk r u t T'.heap (locs ++ L) e1.symm (by rw [← e2]; exact X'.warmed.alike) hp hb k1 k2 k3 T' rfl X'
    exact ⟨t2, st t2 a1, b1⟩
  · obtain ⟨k1, k2, k3⟩ := vx_keep h0 e1 hS hAX hf hL hF
    obtain ⟨t2, a1, b1⟩ := kx E ce q u t T'.heap (locs ++ L) e1.symm (by rw [← e2]; exact X'.warmed.alike) hp hb k1 k2 k3 (by rw [e1]; exact hce) hcv hcl T' rfl X'
    exact ⟨t2, st.trans a1, b1⟩
end
/-! ===== END ===== -/
/-! ===== BEGIN by an interface, a method with a table of its own that may throw (follows va_callIFW, va_runFW) ===== -/
section
variable {p : Program} {l : Launch} {e : Env} {R : Room} {s : State} {m : MethodId} {args : Array Value} {below : List Frame} {meth : Method} {c : Code} {H : Heap} {locs : List Loc} {cells slots : Nat}
theorem vx_callIFW {T : State} (X : Stand p l e R s m args below meth c T locs cells slots) (hexec : p.tables.exec = Jvm.exec) {own C : String} {index count : Nat} {x y : MethodName} {bytes : ByteArray} {maxL : Nat} {ret : Option FieldType} {hh : List (Nat × Nat × Nat × Nat)}
    (hown : s.vm.findClass own = some m.cls) (hlink : (Cond.methodLink own index x).before args s = true) (hdecl : (Cond.declares x).before args s = true) (hface : (Cond.interfaceMethod x.cls x.cls x.name x.desc).before args s = true)
    (hsel : (Cond.selects C x y).before args s = true) (hinst : (Cond.instanceMethod y).before args s = true) (hpub : (Cond.publicMethod y).before args s = true) (hunh : (Cond.unhidden C x.name x.desc).before args s = true)
    (hcast : (Cond.castable C x.cls).before args s = true) (hcode : (Cond.codeWith y bytes maxL ret hh).before args s = true) (hx : x.cls ≠ "java/lang/invoke/MethodHandle" ∧ x.cls ≠ "java/lang/invoke/VarHandle")
    {W : Nat} {Pre : Pt → Array Value → Prop} {Post : Pt → Array Value → Option Value → Pt → Prop} {PostX : Pt → Array Value → Addr → Pt → Prop} (hK : vx_Back l R p e below s args y 5 W Pre Post PostX)
    {b : Addr} {cellB : Cell} {kB : Class} (hcell : T.heap[b]? = some cellB) (hobj : cellB.vm.isStatics = false) (hcls : s.vm.findClass C = some cellB.cls) (hkB : s.vm.classes[cellB.cls]? = some kB)
    {g : JFrame} (hg : g.method = m) (hsize : g.locals.size = c.maxLocals) {argsL rest : List Value} (hlen : ∀ sig, parseMethodDescriptor x.desc = some sig → argsL.length = sig.parameters.length)
    (hstack : g.stack = argsL.reverse ++ .ref b :: rest) (hW : 2 * g.monitorRoom + (rest.map fun v => v.category).sum ≤ W) (hdg : decode c.code g.pc = .ok (.invokeinterface index count, 5))
    (hpre : ∀ vm₁, s.WarmedH vm₁ → Pre ⟨T.setVm vm₁, locs, cells, slots⟩ (Value.ref b :: argsL).toArray) :
    (∃ (v : Option Value) (vm₁ : Vm) (B : Pt), s.WarmedH vm₁ ∧ Stand p l e R s m args below meth c B.U B.locs B.cells B.slots ∧ Post ⟨T.setVm vm₁, locs, cells, slots⟩ (Value.ref b :: argsL).toArray v B ∧
      ∀ target, Steps p.tables e below (B.U.setTop { g with pc := g.pc + 5, stack := v.toList ++ rest }) target → Steps p.tables e below (T.setTop g) target) ∨
    (∃ (q : Addr) (vm₁ : Vm) (B : Pt), s.WarmedH vm₁ ∧ Stand p l e R s m args below meth c B.U B.locs B.cells B.slots ∧ PostX ⟨T.setVm vm₁, locs, cells, slots⟩ (Value.ref b :: argsL).toArray q B ∧
      Steps p.tables e below (T.setTop g) ((B.U.setTop { g with stack := rest }).pushFrame (.throwing q))) := by
  obtain ⟨r0, r, hn, hrm, hstR, hsigR⟩ := Cond.declares_spec hdecl
  obtain ⟨cL, kL, r1, hcL, hkL, hiL, hfoundL, hn1⟩ := Cond.interfaceMethod_spec hface
  cases hn.symm.trans hn1
  have hr0cls : r0.cls = cL := Option.some.inj ((findClass_of_methodNamed hn).symm.trans hcL)
  obtain ⟨hnameR, hdescR⟩ := name_of_methodNamed hn hrm
  obtain ⟨mk, methM, hnamed, hmethM, -, habM⟩ := Cond.instanceMethod_spec hinst
  obtain ⟨c2, r2, m2, q1, q2, q3, q4, -⟩ := Cond.selects_spec hsel
  cases hcls.symm.trans q1
  cases hfoundL.symm.trans q2
  cases hnamed.symm.trans q3
  have hselP : selectMethod e.platform s.vm cellB.cls r0 = .method mk := by rw [Launch.admits_selectMethod X.admits]; exact q4
  have hpubM : hasFlag methM.accessFlags Acc.public_ = true := Cond.publicMethod_spec hnamed hmethM hpub
  have hway : ((cellB.cls :: s.vm.superclasses cellB.cls).any fun k => (declaredIn s.vm r.name r.desc k).any fun (_, z) => z.isPrivate || z.isStatic) = false := by
    rw [hnameR, hdescR]; exact Cond.unhidden_spec hcls hunh
  obtain ⟨c3, t3, w1, w2, w3⟩ := Cond.castable_spec hcast
  cases hcls.symm.trans w1
  cases hcL.symm.trans w2
  obtain ⟨vm₁, X₁, hstep₁⟩ := X.invokeinterface hexec hown hlink hn hrm hstR (by rw [hr0cls]; exact hkL) hiL hx (a := b) (cell := cellB) (kcell := kB) hcell
    (fun z h => by rw [h] at hobj; cases hobj) hkB (by rw [hr0cls]; exact w3) hselP hmethM hway hpubM habM (g := g) hg (argsL := argsL) (rest := rest) (hlen _ hsigR) hstack hdg
  rcases hK m meth c ⟨T.setVm vm₁, locs, cells, slots⟩ { g with stack := rest } (.invokeinterface index count) mk (Value.ref b :: argsL).toArray X₁ hg hsize hdg hW (X₁.named hnamed) (hpre vm₁ X₁.warmed) with ⟨v, B, X', hpost, hsteps⟩ | ⟨q, B, X', hpost, hsteps⟩
  · exact Or.inl ⟨v, vm₁, B, X₁.warmed, X', hpost, fun target h => hstep₁ _ fun acts => by rw [doInvoke_state]; exact hsteps.trans h⟩
  · exact Or.inr ⟨q, vm₁, B, X₁.warmed, X', hpost, hstep₁ _ fun acts => by rw [doInvoke_state]; exact hsteps⟩
theorem vx_runFW {x y : MethodName} {bytes cc : ByteArray} {maxL nL mc ms n index count : Nat} {ret : Option FieldType} {hh : List (Nat × Nat × Nat × Nat)} {ws : List Cond} {rm : Room} {Pc : Array Value → State → Prop} {Qc : Array Value → State → Outcome → State → Prop} {XC : String → State → State → Prop} {free : Addr → Prop} {Ts : List Cond} {own C : String} {cC : ClassId} {b : Addr} {As rest : List Value} {g : JFrame}
    (hat : ClassAt s C cC) (S : CallFix p m c cc nL s args Ts own) (hM : vx_Met l y ws rm Pc Qc XC mc ms free) (cw : va_CIW R s args own C index x y bytes maxL ret hh ws rm mc ms n) (hp : PreV s H C b Pc As)
    (hg : g.method = m) (hn : As.length = n) (hsize : g.locals.size = nL) (hstack : g.stack = As.reverse ++ .ref b :: rest) (hW : 2 * g.monitorRoom + (rest.map fun v => v.category).sum ≤ 8) (hdg : decode cc g.pc = .ok (.invokeinterface index count, 5)) (hf : cells + mc ≤ R.cells ∧ slots + ms ≤ R.slots) :
    vx_Run5 p l e R s m args below meth c H locs cells slots mc ms g rest (Qc (Value.ref b :: As).toArray) XC free := by
  obtain ⟨hrc, hrs, hfr, hlo, hws, hcw⟩ := cw.back
  have hini := cw.init
  have hK : vx_Back l R p e below s args y 5 8 (PreOf R mc ms Pc) (PostOf Qc mc ms free) (vx_Post XC mc ms free) := vx_backW (hh := hh) (bytes := bytes) (maxL := maxL) (ret := ret) hM hp.1 hrc hrs hfr hlo hws hcw (fun a' U hW => word_at hW (Or.inl (by first | rfl | simp [Cond.onTables, Cond.keeps, Cond.steady])) hini)
  obtain ⟨hx, hb, hml, ho, -⟩ := S
  obtain ⟨-, ⟨cellB, hcB, hoB, hclB⟩, hPc⟩ := hp
  obtain ⟨hfc, kB, hkB, -⟩ := hat
  cases hfc.symm.trans hclB
  intro T hT X
  rcases vx_callIFW X hx (C := C) (hh := hh) (bytes := bytes) (maxL := maxL) (ret := ret) ho cw.link cw.decl cw.face cw.sel cw.inst cw.pub cw.unh cw.cast cw.code cw.notMH hK (by rw [hT]; exact hcB) hoB hclB hkB hg (hsize.trans hml.symm) (argsL := As) (rest := rest) (fun sig h => hn.trans (cw.len sig h)) hstack hW (by rw [hb]; exact hdg)
    (fun vm₁ hW₁ => ⟨hf.1, hf.2, hPc (T.setVm vm₁) hT hW₁⟩) with ⟨v, vm₁, ⟨U', l2, c2, s2⟩, hW₁, X', ⟨g', mk, t, L, e1, e2, hq, h1, hL, h2, h3⟩, st⟩ | ⟨q, vm₁, ⟨U', l2, c2, s2⟩, hW₁, X', ⟨g', mk, t, L, E, ce, e1, e2, hq, hce, hcv, hcl, h1, hL, h2, h3⟩, st⟩
  · dsimp only [Pt.U, Pt.locs, Pt.cells, Pt.slots] at X' e1 e2 h1 h2 h3 st
    subst h1; subst h2; subst h3
    exact Or.inl ⟨v, (T.setVm vm₁).calling g' mk (Value.ref b :: As).toArray, t, U', L, hT, X', hL, e1, e2, hq, st⟩
  · dsimp only [Pt.U, Pt.locs, Pt.cells, Pt.slots] at X' e1 e2 h1 h2 h3 st hcl
    subst h1; subst h2; subst h3
    exact Or.inr ⟨q, (T.setVm vm₁).calling g' mk (Value.ref b :: As).toArray, t, U', L, E, ce, hT, X', hL, e1, e2, hq, hce, hcv, vx_cls hW₁ hcl, st⟩
end
/-! ===== END ===== -/
/-! ===== BEGIN .. of methods that hand back an object of the pool ===== -/
section
variable {p : Program} {l : Launch} {e : Env} {R : Room} {s : State} {m : MethodId} {args : Array Value} {below : List Frame} {meth : Method} {c : Code} {H : Heap} {locs : List Loc} {cells slots : Nat} {Q : State → Prop}
variable {mc ms : Nat} {free : Addr → Prop} {A0 A1 : Nat → Prop} {H0 : Heap} {a : Array Value} {pc : Nat} {ls : Array Slot} {st0 rest : List Value}
theorem vx_callq {S SX : Type} {post : Option Nat → S → Prop} {px : SX → Prop} {B : S → State → Prop} {BX : String → SX → State → Prop} {AX : Nat → Prop} (hr : vx_Run p l e R s m args below meth c H locs cells slots mc ms (F0 m pc ls st0) rest (va_Qq post B A1 a) (vx_X px BX AX) free) (hS : va_S A0 H0 H locs) (hA : ∀ q, q < H.size → A1 q → A0 q) (hf : ∀ q, free q → A0 q) (hAX : ∀ q, q < H.size → AX q → A0 q)
    (kx : ∀ (E : String) (ce : Cell) (q9 : Addr) (u : SX) (t : State) (H1 : Heap) (locs1 : List Loc), t.heap = H1 → s.vm.Alike t.vm → px u → BX E u t → H.size ≤ H1.size → (∀ q : Nat, q < H.size → ¬ AX q → H1[q]? = H[q]?) → va_S A0 H0 H1 locs1 → H1[q9]? = some ce → ce.vm = .none → s.vm.findClass E = some ce.cls → vx_W p l e R s m args below meth c H1 locs1 (cells + mc) (slots + ms) Q (F0 m pc ls rest) q9)
    (kk : ∀ (r : Option Nat) (u : S) (t : State) (H1 : Heap) (locs1 : List Loc), t.heap = H1 → s.vm.Alike t.vm → post r u → B u t → H.size ≤ H1.size → (∀ q : Nat, q < H.size → ¬ A1 q → H1[q]? = H[q]?) → va_S A0 H0 H1 locs1 → W p l e R s m args below meth c H1 locs1 (cells + mc) (slots + ms) Q (F0 m (pc + 3) ls (va_rf r :: rest))) : W p l e R s m args below meth c H locs cells slots Q (F0 m pc ls st0) := by
  intro T hT X
  rcases hr T hT X with ⟨v, st₀, t, T', L, h0, X', hL, e1, e2, ⟨⟨r, u, hv, hp, hb⟩, hF⟩, st⟩ | ⟨q, st₀, t, T', L, E, ce, h0, X', hL, e1, e2, ⟨u, hp, hb, hF⟩, hce, hcv, hcl, st⟩
  · cases hv
    obtain ⟨k1, k2, k3⟩ := vx_keep h0 e1 hS hA hf hL hF
    obtain ⟨t2, a1, b1⟩ := kk r u t T'.heap (locs ++ L) e1.symm (by rw [← e2]; exact X'.warmed.alike) hp hb k1 k2 k3 T' rfl X'
    exact ⟨t2, st t2 a1, b1⟩
  · obtain ⟨k1, k2, k3⟩ := vx_keep h0 e1 hS hAX hf hL hF
    obtain ⟨t2, a1, b1⟩ := kx E ce q u t T'.heap (locs ++ L) e1.symm (by rw [← e2]; exact X'.warmed.alike) hp hb k1 k2 k3 (by rw [e1]; exact hce) hcv hcl T' rfl X'
    exact ⟨t2, st.trans a1, b1⟩
end
/-! ===== END ===== -/
/-! ===== BEGIN .. a constant ===== -/
section
variable {p : Program} {l : Launch} {e : Env} {R : Room} {s : State} {m : MethodId} {args : Array Value} {below : List Frame} {meth : Method} {c : Code} {H : Heap} {locs : List Loc} {cells slots : Nat} {Q : State → Prop}
variable {mc ms : Nat} {free : Addr → Prop} {A0 A1 : Nat → Prop} {H0 : Heap} {a : Array Value} {pc : Nat} {ls : Array Slot} {st0 rest : List Value}
theorem vx_calle {ad : Nat → Nat} {S SX : Type} {post : Option Nat → S → Prop} {px : SX → Prop} {B : S → State → Prop} {BX : String → SX → State → Prop} {AX : Nat → Prop} (hr : vx_Run p l e R s m args below meth c H locs cells slots mc ms (F0 m pc ls st0) rest (va_Qe ad post B A1 a) (vx_X px BX AX) free) (hS : va_S A0 H0 H locs) (hA : ∀ q, q < H.size → A1 q → A0 q) (hf : ∀ q, free q → A0 q) (hAX : ∀ q, q < H.size → AX q → A0 q)
    (kx : ∀ (E : String) (ce : Cell) (q9 : Addr) (u : SX) (t : State) (H1 : Heap) (locs1 : List Loc), t.heap = H1 → s.vm.Alike t.vm → px u → BX E u t → H.size ≤ H1.size → (∀ q : Nat, q < H.size → ¬ AX q → H1[q]? = H[q]?) → va_S A0 H0 H1 locs1 → H1[q9]? = some ce → ce.vm = .none → s.vm.findClass E = some ce.cls → vx_W p l e R s m args below meth c H1 locs1 (cells + mc) (slots + ms) Q (F0 m pc ls rest) q9)
    (kk : ∀ (r : Option Nat) (u : S) (t : State) (H1 : Heap) (locs1 : List Loc), t.heap = H1 → s.vm.Alike t.vm → post r u → B u t → H.size ≤ H1.size → (∀ q : Nat, q < H.size → ¬ A1 q → H1[q]? = H[q]?) → va_S A0 H0 H1 locs1 → W p l e R s m args below meth c H1 locs1 (cells + mc) (slots + ms) Q (F0 m (pc + 3) ls (va_re ad r :: rest))) : W p l e R s m args below meth c H locs cells slots Q (F0 m pc ls st0) := by
  intro T hT X
  rcases hr T hT X with ⟨v, st₀, t, T', L, h0, X', hL, e1, e2, ⟨⟨r, u, hv, hp, hb⟩, hF⟩, st⟩ | ⟨q, st₀, t, T', L, E, ce, h0, X', hL, e1, e2, ⟨u, hp, hb, hF⟩, hce, hcv, hcl, st⟩
  · cases hv
    obtain ⟨k1, k2, k3⟩ := vx_keep h0 e1 hS hA hf hL hF
    obtain ⟨t2, a1, b1⟩ := kk r u t T'.heap (locs ++ L) e1.symm (by rw [← e2]; exact X'.warmed.alike) hp hb k1 k2 k3 T' rfl X'
    exact ⟨t2, st t2 a1, b1⟩
  · obtain ⟨k1, k2, k3⟩ := vx_keep h0 e1 hS hAX hf hL hF
    obtain ⟨t2, a1, b1⟩ := kx E ce q u t T'.heap (locs ++ L) e1.symm (by rw [← e2]; exact X'.warmed.alike) hp hb k1 k2 k3 (by rw [e1]; exact hce) hcv hcl T' rfl X'
    exact ⟨t2, st.trans a1, b1⟩
end
/-! ===== END ===== -/
/-! ===== BEGIN .. by an interface, an object ===== -/
section
variable {p : Program} {l : Launch} {e : Env} {R : Room} {s : State} {m : MethodId} {args : Array Value} {below : List Frame} {meth : Method} {c : Code} {H : Heap} {locs : List Loc} {cells slots : Nat} {Q : State → Prop}
variable {mc ms : Nat} {free : Addr → Prop} {A0 A1 : Nat → Prop} {H0 : Heap} {a : Array Value} {pc : Nat} {ls : Array Slot} {st0 rest : List Value}
theorem vx_callFq {S SX : Type} {post : Option Nat → S → Prop} {px : SX → Prop} {B : S → State → Prop} {BX : String → SX → State → Prop} {AX : Nat → Prop} (hr : vx_Run5 p l e R s m args below meth c H locs cells slots mc ms (F0 m pc ls st0) rest (va_Qq post B A1 a) (vx_X px BX AX) free) (hS : va_S A0 H0 H locs) (hA : ∀ q, q < H.size → A1 q → A0 q) (hf : ∀ q, free q → A0 q) (hAX : ∀ q, q < H.size → AX q → A0 q)
    (kx : ∀ (E : String) (ce : Cell) (q9 : Addr) (u : SX) (t : State) (H1 : Heap) (locs1 : List Loc), t.heap = H1 → s.vm.Alike t.vm → px u → BX E u t → H.size ≤ H1.size → (∀ q : Nat, q < H.size → ¬ AX q → H1[q]? = H[q]?) → va_S A0 H0 H1 locs1 → H1[q9]? = some ce → ce.vm = .none → s.vm.findClass E = some ce.cls → vx_W p l e R s m args below meth c H1 locs1 (cells + mc) (slots + ms) Q (F0 m pc ls rest) q9)
    (kk : ∀ (r : Option Nat) (u : S) (t : State) (H1 : Heap) (locs1 : List Loc), t.heap = H1 → s.vm.Alike t.vm → post r u → B u t → H.size ≤ H1.size → (∀ q : Nat, q < H.size → ¬ A1 q → H1[q]? = H[q]?) → va_S A0 H0 H1 locs1 → W p l e R s m args below meth c H1 locs1 (cells + mc) (slots + ms) Q (F0 m (pc + 5) ls (va_rf r :: rest))) : W p l e R s m args below meth c H locs cells slots Q (F0 m pc ls st0) := by
  intro T hT X
  rcases hr T hT X with ⟨v, st₀, t, T', L, h0, X', hL, e1, e2, ⟨⟨r, u, hv, hp, hb⟩, hF⟩, st⟩ | ⟨q, st₀, t, T', L, E, ce, h0, X', hL, e1, e2, ⟨u, hp, hb, hF⟩, hce, hcv, hcl, st⟩
  · cases hv
    obtain ⟨k1, k2, k3⟩ := vx_keep h0 e1 hS hA hf hL hF
    obtain ⟨t2, a1, b1⟩ := kk r u t T'.heap (locs ++ L) e1.symm (by rw [← e2]; exact X'.warmed.alike) hp hb k1 k2 k3 T' rfl X'
    exact ⟨t2, st t2 a1, b1⟩
  · obtain ⟨k1, k2, k3⟩ := vx_keep h0 e1 hS hAX hf hL hF
    obtain ⟨t2, a1, b1⟩ := kx E ce q u t T'.heap (locs ++ L) e1.symm (by rw [← e2]; exact X'.warmed.alike) hp hb k1 k2 k3 (by rw [e1]; exact hce) hcv hcl T' rfl X'
    exact ⟨t2, st.trans a1, b1⟩
end
/-! ===== END ===== -/
/-! ===== BEGIN .. by an interface, a constant ===== -/
section
variable {p : Program} {l : Launch} {e : Env} {R : Room} {s : State} {m : MethodId} {args : Array Value} {below : List Frame} {meth : Method} {c : Code} {H : Heap} {locs : List Loc} {cells slots : Nat} {Q : State → Prop}
variable {mc ms : Nat} {free : Addr → Prop} {A0 A1 : Nat → Prop} {H0 : Heap} {a : Array Value} {pc : Nat} {ls : Array Slot} {st0 rest : List Value}
theorem vx_callFe {ad : Nat → Nat} {S SX : Type} {post : Option Nat → S → Prop} {px : SX → Prop} {B : S → State → Prop} {BX : String → SX → State → Prop} {AX : Nat → Prop} (hr : vx_Run5 p l e R s m args below meth c H locs cells slots mc ms (F0 m pc ls st0) rest (va_Qe ad post B A1 a) (vx_X px BX AX) free) (hS : va_S A0 H0 H locs) (hA : ∀ q, q < H.size → A1 q → A0 q) (hf : ∀ q, free q → A0 q) (hAX : ∀ q, q < H.size → AX q → A0 q)
    (kx : ∀ (E : String) (ce : Cell) (q9 : Addr) (u : SX) (t : State) (H1 : Heap) (locs1 : List Loc), t.heap = H1 → s.vm.Alike t.vm → px u → BX E u t → H.size ≤ H1.size → (∀ q : Nat, q < H.size → ¬ AX q → H1[q]? = H[q]?) → va_S A0 H0 H1 locs1 → H1[q9]? = some ce → ce.vm = .none → s.vm.findClass E = some ce.cls → vx_W p l e R s m args below meth c H1 locs1 (cells + mc) (slots + ms) Q (F0 m pc ls rest) q9)
    (kk : ∀ (r : Option Nat) (u : S) (t : State) (H1 : Heap) (locs1 : List Loc), t.heap = H1 → s.vm.Alike t.vm → post r u → B u t → H.size ≤ H1.size → (∀ q : Nat, q < H.size → ¬ A1 q → H1[q]? = H[q]?) → va_S A0 H0 H1 locs1 → W p l e R s m args below meth c H1 locs1 (cells + mc) (slots + ms) Q (F0 m (pc + 5) ls (va_re ad r :: rest))) : W p l e R s m args below meth c H locs cells slots Q (F0 m pc ls st0) := by
  intro T hT X
  rcases hr T hT X with ⟨v, st₀, t, T', L, h0, X', hL, e1, e2, ⟨⟨r, u, hv, hp, hb⟩, hF⟩, st⟩ | ⟨q, st₀, t, T', L, E, ce, h0, X', hL, e1, e2, ⟨u, hp, hb, hF⟩, hce, hcv, hcl, st⟩
  · cases hv
    obtain ⟨k1, k2, k3⟩ := vx_keep h0 e1 hS hA hf hL hF
    obtain ⟨t2, a1, b1⟩ := kk r u t T'.heap (locs ++ L) e1.symm (by rw [← e2]; exact X'.warmed.alike) hp hb k1 k2 k3 T' rfl X'
    exact ⟨t2, st t2 a1, b1⟩
  · obtain ⟨k1, k2, k3⟩ := vx_keep h0 e1 hS hAX hf hL hF
    obtain ⟨t2, a1, b1⟩ := kx E ce q u t T'.heap (locs ++ L) e1.symm (by rw [← e2]; exact X'.warmed.alike) hp hb k1 k2 k3 (by rw [e1]; exact hce) hcv hcl T' rfl X'
    exact ⟨t2, st.trans a1, b1⟩
end
/-! ===== END ===== -/
/-! ===== BEGIN what the machine throws by itself: null at a field, at athrow ===== -/
section VXM2
variable {p : Program} {l : Launch} {e : Env} {R : Room} {s : State} {m : MethodId} {args : Array Value} {below : List Frame} {meth : Method} {c : Code} {H : Heap} {locs : List Loc} {cells slots : Nat}
variable {Q : State → Prop} {cc : ByteArray} {pc : Nat} {ls : Array Slot} {rest : List Value}
theorem vx_getfN {D cl tys} {own ref C : String} {T : u_T} {N ci index : Nat} {Ts : List Cond} (hexec : p.tables.exec = Jvm.exec) (hb : c.code = cc) (hts : ∀ w ∈ Ts, w.before args s = true) (hin : ∀ w ∈ u_ws C T N, w ∈ Ts) (hown : s.vm.findClass own = some m.cls) (hK : va_K D cl tys s) (hc : cl[ci]? = some (C, T, N)) (k : Nat) (hk : k < N) (hlink : (Cond.fieldLink own index ref (T k).2.1 (T k).2.2.1).before args s = true) (hsame : ∀ x, s.fieldFound? (T k).1 (T k).2.1 (T k).2.2.1 = some x → s.fieldFound? ref (T k).2.1 (T k).2.2.1 = some x) (hdg : decode cc pc = .ok (.getfield index, 3)) (kk : vx_NoteN p l e R s m args below meth c H locs cells slots Q (F0 m pc ls rest)) : W p l e R s m args below meth c H locs cells slots Q (F0 m pc ls (.null :: rest)) := by
  obtain ⟨hS, hfc, kC, hkC, -⟩ := hK.1 ci _ hc
  obtain ⟨cf, kf, fi, f, hi, -⟩ := hS k hk
  intro U hU X
  obtain ⟨vm', X1, st1⟩ := X.getfieldNull hexec hown hlink (hsame _ hi) (u_facts hfc hkC (u_lays hts hin hk) hi).1 (g := F0 m pc ls (.null :: rest)) rfl (rest := rest) rfl (by rw [hb]; exact hdg)
  obtain ⟨t, st, q⟩ := kk (U.setVm vm') hU X1
  exact ⟨t, st1 t st, q⟩
theorem vx_getfNN {D cl tys} {own ref C host : String} {T : u_T} {N ci index : Nat} {Ts : List Cond} (hexec : p.tables.exec = Jvm.exec) (hb : c.code = cc) (hts : ∀ w ∈ Ts, w.before args s = true) (hin : ∀ w ∈ u_ws C T N, w ∈ Ts) (hown : s.vm.findClass own = some m.cls) (hK : va_K D cl tys s) (hc : cl[ci]? = some (C, T, N)) (k : Nat) (hk : k < N) (hlink : (Cond.fieldLinkNest own index ref (T k).2.1 (T k).2.2.1 host).before args s = true) (hsame : ∀ x, s.fieldFound? (T k).1 (T k).2.1 (T k).2.2.1 = some x → s.fieldFound? ref (T k).2.1 (T k).2.2.1 = some x) (hdg : decode cc pc = .ok (.getfield index, 3)) (kk : vx_NoteN p l e R s m args below meth c H locs cells slots Q (F0 m pc ls rest)) : W p l e R s m args below meth c H locs cells slots Q (F0 m pc ls (.null :: rest)) := by
  obtain ⟨hS, hfc, kC, hkC, -⟩ := hK.1 ci _ hc
  obtain ⟨cf, kf, fi, f, hi, -⟩ := hS k hk
  intro U hU X
  obtain ⟨vm', X1, st1⟩ := X.getfieldNullNest hexec hown hlink (hsame _ hi) (u_facts hfc hkC (u_lays hts hin hk) hi).1 (g := F0 m pc ls (.null :: rest)) rfl (rest := rest) rfl (by rw [hb]; exact hdg)
  obtain ⟨t, st, q⟩ := kk (U.setVm vm') hU X1
  exact ⟨t, st1 t st, q⟩
theorem vx_putfN {D cl tys} {own ref C : String} {T : u_T} {N ci index : Nat} {Ts : List Cond} (hexec : p.tables.exec = Jvm.exec) (hb : c.code = cc) (hts : ∀ w ∈ Ts, w.before args s = true) (hin : ∀ w ∈ u_ws C T N, w ∈ Ts) (hown : s.vm.findClass own = some m.cls) (hK : va_K D cl tys s) (hc : cl[ci]? = some (C, T, N)) (k : Nat) (hk : k < N) (hlink : (Cond.fieldLink own index ref (T k).2.1 (T k).2.2.1).before args s = true) (hsame : ∀ x, s.fieldFound? (T k).1 (T k).2.1 (T k).2.2.1 = some x → s.fieldFound? ref (T k).2.1 (T k).2.2.1 = some x) (hfin : (T k).2.2.2 = false) {v : Value} (hdg : decode cc pc = .ok (.putfield index, 3)) (kk : vx_NoteN p l e R s m args below meth c H locs cells slots Q (F0 m pc ls rest)) : W p l e R s m args below meth c H locs cells slots Q (F0 m pc ls (v :: .null :: rest)) := by
  obtain ⟨hS, hfc, kC, hkC, -⟩ := hK.1 ci _ hc
  obtain ⟨cf, kf, fi, f, hi, -⟩ := hS k hk
  have hlay := hts _ (hin _ (u_in_lay hk))
  unfold u_lay at hlay
  rw [if_neg (by rw [hfin]; decide)] at hlay
  obtain ⟨c9, k9, cf9, kf9, fi9, f9, -, -, hi9, hst9, hnf9, -⟩ := Cond.lays_spec hlay
  cases hi.symm.trans hi9
  intro U hU X
  obtain ⟨vm', X1, st1⟩ := X.putfieldNull hexec hown hlink (hsame _ hi) hst9 hnf9 (g := F0 m pc ls (v :: .null :: rest)) rfl (v := v) (rest := rest) rfl (by rw [hb]; exact hdg)
  obtain ⟨t, st, q⟩ := kk (U.setVm vm') hU X1
  exact ⟨t, st1 t st, q⟩
theorem vx_putfNN {D cl tys} {own ref C host : String} {T : u_T} {N ci index : Nat} {Ts : List Cond} (hexec : p.tables.exec = Jvm.exec) (hb : c.code = cc) (hts : ∀ w ∈ Ts, w.before args s = true) (hin : ∀ w ∈ u_ws C T N, w ∈ Ts) (hown : s.vm.findClass own = some m.cls) (hK : va_K D cl tys s) (hc : cl[ci]? = some (C, T, N)) (k : Nat) (hk : k < N) (hlink : (Cond.fieldLinkNest own index ref (T k).2.1 (T k).2.2.1 host).before args s = true) (hsame : ∀ x, s.fieldFound? (T k).1 (T k).2.1 (T k).2.2.1 = some x → s.fieldFound? ref (T k).2.1 (T k).2.2.1 = some x) (hfin : (T k).2.2.2 = false) {v : Value} (hdg : decode cc pc = .ok (.putfield index, 3)) (kk : vx_NoteN p l e R s m args below meth c H locs cells slots Q (F0 m pc ls rest)) : W p l e R s m args below meth c H locs cells slots Q (F0 m pc ls (v :: .null :: rest)) := by
  obtain ⟨hS, hfc, kC, hkC, -⟩ := hK.1 ci _ hc
  obtain ⟨cf, kf, fi, f, hi, -⟩ := hS k hk
  have hlay := hts _ (hin _ (u_in_lay hk))
  unfold u_lay at hlay
  rw [if_neg (by rw [hfin]; decide)] at hlay
  obtain ⟨c9, k9, cf9, kf9, fi9, f9, -, -, hi9, hst9, hnf9, -⟩ := Cond.lays_spec hlay
  cases hi.symm.trans hi9
  intro U hU X
  obtain ⟨vm', X1, st1⟩ := X.putfieldNullNest hexec hown hlink (hsame _ hi) hst9 hnf9 (g := F0 m pc ls (v :: .null :: rest)) rfl (v := v) (rest := rest) rfl (by rw [hb]; exact hdg)
  obtain ⟨t, st, q⟩ := kk (U.setVm vm') hU X1
  exact ⟨t, st1 t st, q⟩
theorem vx_athrowN (hexec : p.tables.exec = Jvm.exec) (hb : c.code = cc) (hdg : decode cc pc = .ok (.athrow, 1)) (k : vx_NoteN p l e R s m args below meth c H locs cells slots Q (F0 m pc ls rest)) : W p l e R s m args below meth c H locs cells slots Q (F0 m pc ls (.null :: rest)) := by
  intro T hT X
  obtain ⟨t, st, q⟩ := k T hT X
  exact ⟨t, X.athrowNull hexec (g := F0 m pc ls (.null :: rest)) rfl (rest := rest) rfl (by rw [hb]; exact hdg) t st, q⟩
end VXM2
/-! ===== END ===== -/
end
section
/-! ===== BEGIN printed: names, fields, word lists, decode rows ===== -/
def RX0 : String := "WordSolver$Graph"
def TX0 : u_T := fun k => match k with
  | 0 => ("WordSolver$Graph", "cells", "[I", true)
  | 1 => ("WordSolver$Graph", "variableNodes", "[I", true)
  | 2 => ("WordSolver$Graph", "variableEnds", "[I", true)
  | 3 => ("WordSolver$Graph", "count", "I", false)
  | _ => ("WordSolver$Graph", "variableCount", "I", false)
def tyX0 : Nat → FieldType := fun k => match k with
  | 0 => .array .int
  | 1 => .array .int
  | 2 => .array .int
  | 3 => .int
  | _ => .int
abbrev wsX00 : List Cond := u_ws RX0 TX0 5
theorem nmX0 : ∀ a, a < 5 → ∀ b, b < 5 → a ≠ b → (TX0 a).2.1 ≠ (TX0 b).2.1 := by decide +kernel
theorem tyX0_ok : ∀ k, k < 5 → parseFieldDescriptor (TX0 k).2.2.1 = some (tyX0 k) := by decide +kernel
abbrev cX0_init : ByteArray := prog_2_method_1_code
def yX0_init : MethodName := ⟨RX0, "<init>", "()V"⟩
abbrev cX0_count : ByteArray := prog_2_method_2_code
def yX0_count : MethodName := ⟨RX0, "count", "()I"⟩
abbrev cX0_variableCount : ByteArray := prog_2_method_3_code
def yX0_variableCount : MethodName := ⟨RX0, "variableCount", "()I"⟩
abbrev cX0_has : ByteArray := prog_2_method_4_code
def yX0_has : MethodName := ⟨RX0, "has", "(I)Z"⟩
abbrev cX0_hasVariable : ByteArray := prog_2_method_5_code
def yX0_hasVariable : MethodName := ⟨RX0, "hasVariable", "(I)Z"⟩
abbrev cX0_get : ByteArray := prog_2_method_6_code
def yX0_get : MethodName := ⟨RX0, "get", "(II)I"⟩
abbrev cX0_width : ByteArray := prog_2_method_7_code
def yX0_width : MethodName := ⟨RX0, "width", "(I)I"⟩
abbrev cX0_variableNode : ByteArray := prog_2_method_8_code
def yX0_variableNode : MethodName := ⟨RX0, "variableNode", "(I)I"⟩
abbrev cX0_variableWidth : ByteArray := prog_2_method_9_code
def yX0_variableWidth : MethodName := ⟨RX0, "variableWidth", "(I)I"⟩
abbrev cX0_cutTo : ByteArray := prog_2_method_10_code
def yX0_cutTo : MethodName := ⟨RX0, "cutTo", "(I)V"⟩
abbrev cX0_makeVariable : ByteArray := prog_2_method_11_code
def yX0_makeVariable : MethodName := ⟨RX0, "makeVariable", "(I)I"⟩
abbrev cX0_makeConstant : ByteArray := prog_2_method_12_code
def yX0_makeConstant : MethodName := ⟨RX0, "makeConstant", "(II)I"⟩
abbrev cX0_makeBinary : ByteArray := prog_2_method_13_code
def yX0_makeBinary : MethodName := ⟨RX0, "makeBinary", "(III)I"⟩
abbrev cX0_makeUnary : ByteArray := prog_2_method_14_code
def yX0_makeUnary : MethodName := ⟨RX0, "makeUnary", "(II)I"⟩
abbrev cX0_makeSlice : ByteArray := prog_2_method_15_code
def yX0_makeSlice : MethodName := ⟨RX0, "makeSlice", "(III)I"⟩
abbrev cX0_makeExtended : ByteArray := prog_2_method_16_code
def yX0_makeExtended : MethodName := ⟨RX0, "makeExtended", "(III)I"⟩
abbrev cX0_makeChoice : ByteArray := prog_2_method_17_code
def yX0_makeChoice : MethodName := ⟨RX0, "makeChoice", "(III)I"⟩
abbrev cX0_canSlice : ByteArray := prog_2_method_18_code
def yX0_canSlice : MethodName := ⟨RX0, "canSlice", "(III)Z"⟩
abbrev cX0_canExtend : ByteArray := prog_2_method_19_code
def yX0_canExtend : MethodName := ⟨RX0, "canExtend", "(II)Z"⟩
abbrev cX0_binaryWidth : ByteArray := prog_2_method_20_code
def yX0_binaryWidth : MethodName := ⟨RX0, "binaryWidth", "(III)I"⟩
abbrev cX0_draft : ByteArray := prog_2_method_21_code
def yX0_draft : MethodName := ⟨RX0, "draft", "(II)V"⟩
abbrev cX0_put : ByteArray := prog_2_method_22_code
def yX0_put : MethodName := ⟨RX0, "put", "(II)V"⟩
abbrev cX0_keepDraft : ByteArray := prog_2_method_23_code
def yX0_keepDraft : MethodName := ⟨RX0, "keepDraft", "()I"⟩
abbrev cX0_isDrafted : ByteArray := prog_2_method_24_code
def yX0_isDrafted : MethodName := ⟨RX0, "isDrafted", "(I)Z"⟩
abbrev cX0_allNodes : ByteArray := prog_2_method_25_code
def yX0_allNodes : MethodName := ⟨RX0, "allNodes", "()J"⟩
abbrev cX0_cone : ByteArray := prog_2_method_26_code
def yX0_cone : MethodName := ⟨RX0, "cone", "(I)J"⟩
abbrev cX0_bitOf : ByteArray := prog_2_method_27_code
def yX0_bitOf : MethodName := ⟨RX0, "bitOf", "(I)J"⟩
abbrev cX0_variableBits : ByteArray := prog_2_method_28_code
def yX0_variableBits : MethodName := ⟨RX0, "variableBits", "()I"⟩
abbrev cX0_placeOf : ByteArray := prog_2_method_29_code
def yX0_placeOf : MethodName := ⟨RX0, "placeOf", "(I)I"⟩
abbrev cX0_blockCount : ByteArray := prog_2_method_30_code
def yX0_blockCount : MethodName := ⟨RX0, "blockCount", "()I"⟩
abbrev cX0_blockMask : ByteArray := prog_2_method_31_code
def yX0_blockMask : MethodName := ⟨RX0, "blockMask", "()J"⟩
abbrev cX0_assignment : ByteArray := prog_2_method_32_code
def yX0_assignment : MethodName := ⟨RX0, "assignment", "([I)I"⟩
abbrev cX0_variableWord : ByteArray := prog_2_method_33_code
def yX0_variableWord : MethodName := ⟨RX0, "variableWord", "(II)I"⟩
def RX1 : String := "WordSolver$History"
def TX1 : u_T := fun k => match k with
  | 0 => ("WordSolver$History", "saved", "[LWordSolver$State;", true)
  | _ => ("WordSolver$History", "count", "I", false)
def tyX1 : Nat → FieldType := fun k => match k with
  | 0 => .array (.object "WordSolver$State")
  | _ => .int
abbrev wsX10 : List Cond := u_ws RX1 TX1 2
theorem nmX1 : ∀ a, a < 2 → ∀ b, b < 2 → a ≠ b → (TX1 a).2.1 ≠ (TX1 b).2.1 := by decide +kernel
theorem tyX1_ok : ∀ k, k < 2 → parseFieldDescriptor (TX1 k).2.2.1 = some (tyX1 k) := by decide +kernel
abbrev cX1_init : ByteArray := prog_3_method_1_code
def yX1_init : MethodName := ⟨RX1, "<init>", "()V"⟩
abbrev cX1_count : ByteArray := prog_3_method_2_code
def yX1_count : MethodName := ⟨RX1, "count", "()I"⟩
abbrev cX1_save : ByteArray := prog_3_method_3_code
def yX1_save : MethodName := ⟨RX1, "save", "(LWordSolver$State;I)V"⟩
abbrev cX1_dropOldest : ByteArray := prog_3_method_4_code
def yX1_dropOldest : MethodName := ⟨RX1, "dropOldest", "()V"⟩
abbrev cX1_restore : ByteArray := prog_3_method_5_code
def yX1_restore : MethodName := ⟨RX1, "restore", "(LWordSolver$State;)V"⟩
def RX2 : String := "WordSolver$Kinds"
def TX2 : u_T := fun k => match k with
  | _ => ("", "", "", false)
def tyX2 : Nat → FieldType := fun k => match k with
  | _ => .int
abbrev wsX20 : List Cond := u_ws RX2 TX2 0
theorem nmX2 : ∀ a, a < 0 → ∀ b, b < 0 → a ≠ b → (TX2 a).2.1 ≠ (TX2 b).2.1 := by decide +kernel
theorem tyX2_ok : ∀ k, k < 0 → parseFieldDescriptor (TX2 k).2.2.1 = some (tyX2 k) := by decide +kernel
abbrev cX2_operandCount : ByteArray := prog_4_method_2_code
def yX2_operandCount : MethodName := ⟨RX2, "operandCount", "(I)I"⟩
abbrev cX2_digitCount : ByteArray := prog_4_method_3_code
def yX2_digitCount : MethodName := ⟨RX2, "digitCount", "(I)I"⟩
abbrev cX2_wordLength : ByteArray := prog_4_method_4_code
def yX2_wordLength : MethodName := ⟨RX2, "wordLength", "(I)I"⟩
abbrev cX2_letter : ByteArray := prog_4_method_5_code
def yX2_letter : MethodName := ⟨RX2, "letter", "(II)I"⟩
abbrev cX2_kindOf : ByteArray := prog_4_method_6_code
def yX2_kindOf : MethodName := ⟨RX2, "kindOf", "(LWordSolver$Text;II)I"⟩
abbrev cX2_isWordOf : ByteArray := prog_4_method_7_code
def yX2_isWordOf : MethodName := ⟨RX2, "isWordOf", "(ILWordSolver$Text;II)Z"⟩
def RX3 : String := "WordSolver$Lanes"
def TX3 : u_T := fun k => match k with
  | 0 => ("WordSolver$Lanes", "graph", "LWordSolver$Graph;", true)
  | 1 => ("WordSolver$Lanes", "planes", "[J", true)
  | _ => ("WordSolver$Lanes", "rest", "[J", true)
def tyX3 : Nat → FieldType := fun k => match k with
  | 0 => .object "WordSolver$Graph"
  | 1 => .array .long
  | _ => .array .long
abbrev wsX30 : List Cond := u_ws RX3 TX3 3
theorem nmX3 : ∀ a, a < 3 → ∀ b, b < 3 → a ≠ b → (TX3 a).2.1 ≠ (TX3 b).2.1 := by decide +kernel
theorem tyX3_ok : ∀ k, k < 3 → parseFieldDescriptor (TX3 k).2.2.1 = some (tyX3 k) := by decide +kernel
abbrev cX3_init : ByteArray := prog_5_method_1_code
def yX3_init : MethodName := ⟨RX3, "<init>", "(LWordSolver$Graph;)V"⟩
abbrev cX3_run : ByteArray := prog_5_method_2_code
def yX3_run : MethodName := ⟨RX3, "run", "(IJ)V"⟩
abbrev cX3_wordAt : ByteArray := prog_5_method_3_code
def yX3_wordAt : MethodName := ⟨RX3, "wordAt", "(II)I"⟩
abbrev cX3_plane : ByteArray := prog_5_method_4_code
def yX3_plane : MethodName := ⟨RX3, "plane", "(II)J"⟩
abbrev cX3_goalPlane : ByteArray := prog_5_method_5_code
def yX3_goalPlane : MethodName := ⟨RX3, "goalPlane", "(I)J"⟩
abbrev cX3_setGoalToNode : ByteArray := prog_5_method_6_code
def yX3_setGoalToNode : MethodName := ⟨RX3, "setGoalToNode", "(II)V"⟩
abbrev cX3_setGoalToDifference : ByteArray := prog_5_method_7_code
def yX3_setGoalToDifference : MethodName := ⟨RX3, "setGoalToDifference", "(II)V"⟩
abbrev cX3_setGoalToGain : ByteArray := prog_5_method_8_code
def yX3_setGoalToGain : MethodName := ⟨RX3, "setGoalToGain", "(LWordSolver$State;)V"⟩
abbrev cX3_addToGoal : ByteArray := prog_5_method_9_code
def yX3_addToGoal : MethodName := ⟨RX3, "addToGoal", "(IJ)V"⟩
abbrev cX3_spread : ByteArray := prog_5_method_10_code
def yX3_spread : MethodName := ⟨RX3, "spread", "(II)J"⟩
abbrev cX3_runNode : ByteArray := prog_5_method_11_code
def yX3_runNode : MethodName := ⟨RX3, "runNode", "(II)V"⟩
abbrev cX3_constantWord : ByteArray := prog_5_method_12_code
def yX3_constantWord : MethodName := ⟨RX3, "constantWord", "(III)V"⟩
abbrev cX3_variableWord : ByteArray := prog_5_method_13_code
def yX3_variableWord : MethodName := ⟨RX3, "variableWord", "(IIII)V"⟩
abbrev cX3_calculate : ByteArray := prog_5_method_14_code
def yX3_calculate : MethodName := ⟨RX3, "calculate", "(IIIII)V"⟩
abbrev cX3_add : ByteArray := prog_5_method_15_code
def yX3_add : MethodName := ⟨RX3, "add", "(IIII)V"⟩
abbrev cX3_subtract : ByteArray := prog_5_method_16_code
def yX3_subtract : MethodName := ⟨RX3, "subtract", "(IIII)V"⟩
abbrev cX3_multiply : ByteArray := prog_5_method_17_code
def yX3_multiply : MethodName := ⟨RX3, "multiply", "(IIII)V"⟩
abbrev cX3_combine : ByteArray := prog_5_method_18_code
def yX3_combine : MethodName := ⟨RX3, "combine", "(IIIII)V"⟩
abbrev cX3_shift : ByteArray := prog_5_method_19_code
def yX3_shift : MethodName := ⟨RX3, "shift", "(IIIII)V"⟩
abbrev cX3_shiftLeft : ByteArray := prog_5_method_20_code
def yX3_shiftLeft : MethodName := ⟨RX3, "shiftLeft", "(IIIJ)V"⟩
abbrev cX3_shiftRight : ByteArray := prog_5_method_21_code
def yX3_shiftRight : MethodName := ⟨RX3, "shiftRight", "(IIIJJ)V"⟩
abbrev cX3_divide : ByteArray := prog_5_method_22_code
def yX3_divide : MethodName := ⟨RX3, "divide", "(IIIII)V"⟩
abbrev cX3_borrowFromRest : ByteArray := prog_5_method_23_code
def yX3_borrowFromRest : MethodName := ⟨RX3, "borrowFromRest", "(III)J"⟩
abbrev cX3_takeFromRest : ByteArray := prog_5_method_24_code
def yX3_takeFromRest : MethodName := ⟨RX3, "takeFromRest", "(IIIJ)V"⟩
abbrev cX3_anyBit : ByteArray := prog_5_method_25_code
def yX3_anyBit : MethodName := ⟨RX3, "anyBit", "(III)J"⟩
abbrev cX3_compare : ByteArray := prog_5_method_26_code
def yX3_compare : MethodName := ⟨RX3, "compare", "(IIII)J"⟩
abbrev cX3_differs : ByteArray := prog_5_method_27_code
def yX3_differs : MethodName := ⟨RX3, "differs", "(III)J"⟩
abbrev cX3_less : ByteArray := prog_5_method_28_code
def yX3_less : MethodName := ⟨RX3, "less", "(IIIZ)J"⟩
abbrev cX3_choose : ByteArray := prog_5_method_29_code
def yX3_choose : MethodName := ⟨RX3, "choose", "(IIIII)V"⟩
abbrev cX3_rearrange : ByteArray := prog_5_method_30_code
def yX3_rearrange : MethodName := ⟨RX3, "rearrange", "(IIIII)V"⟩
abbrev cX3_move : ByteArray := prog_5_method_31_code
def yX3_move : MethodName := ⟨RX3, "move", "(III)V"⟩
abbrev cX3_fillUp : ByteArray := prog_5_method_32_code
def yX3_fillUp : MethodName := ⟨RX3, "fillUp", "(IIIJ)V"⟩
abbrev cX3_invert : ByteArray := prog_5_method_33_code
def yX3_invert : MethodName := ⟨RX3, "invert", "(III)V"⟩
abbrev cX3_negate : ByteArray := prog_5_method_34_code
def yX3_negate : MethodName := ⟨RX3, "negate", "(III)V"⟩
def RX4 : String := "WordSolver$Parser"
def TX4 : u_T := fun k => match k with
  | 0 => ("WordSolver$Parser", "text", "LWordSolver$Text;", true)
  | 1 => ("WordSolver$Parser", "position", "I", false)
  | 2 => ("WordSolver$Parser", "error", "I", false)
  | 3 => ("WordSolver$Parser", "stepKinds", "[I", true)
  | 4 => ("WordSolver$Parser", "stepNumbers", "[I", true)
  | 5 => ("WordSolver$Parser", "stepWidths", "[I", true)
  | 6 => ("WordSolver$Parser", "steps", "I", false)
  | 7 => ("WordSolver$Parser", "openKinds", "[I", true)
  | 8 => ("WordSolver$Parser", "openNodes", "[I", true)
  | 9 => ("WordSolver$Parser", "openDigits", "[I", true)
  | 10 => ("WordSolver$Parser", "openNumbers", "[I", true)
  | 11 => ("WordSolver$Parser", "open", "I", false)
  | _ => ("WordSolver$Parser", "built", "[I", true)
def tyX4 : Nat → FieldType := fun k => match k with
  | 0 => .object "WordSolver$Text"
  | 1 => .int
  | 2 => .int
  | 3 => .array .int
  | 4 => .array .int
  | 5 => .array .int
  | 6 => .int
  | 7 => .array .int
  | 8 => .array .int
  | 9 => .array .int
  | 10 => .array .int
  | 11 => .int
  | _ => .array .int
abbrev wsX40 : List Cond := u_ws RX4 TX4 13
theorem nmX4 : ∀ a, a < 13 → ∀ b, b < 13 → a ≠ b → (TX4 a).2.1 ≠ (TX4 b).2.1 := by decide +kernel
theorem tyX4_ok : ∀ k, k < 13 → parseFieldDescriptor (TX4 k).2.2.1 = some (tyX4 k) := by decide +kernel
abbrev cX4_init : ByteArray := prog_6_method_1_code
def yX4_init : MethodName := ⟨RX4, "<init>", "(LWordSolver$Text;)V"⟩
abbrev cX4_errorPosition : ByteArray := prog_6_method_2_code
def yX4_errorPosition : MethodName := ⟨RX4, "errorPosition", "()I"⟩
abbrev cX4_isWhole : ByteArray := prog_6_method_3_code
def yX4_isWhole : MethodName := ⟨RX4, "isWhole", "()Z"⟩
abbrev cX4_takeNext : ByteArray := prog_6_method_4_code
def yX4_takeNext : MethodName := ⟨RX4, "takeNext", "()V"⟩
abbrev cX4_wantsNode : ByteArray := prog_6_method_5_code
def yX4_wantsNode : MethodName := ⟨RX4, "wantsNode", "()Z"⟩
abbrev cX4_takeLeaf : ByteArray := prog_6_method_6_code
def yX4_takeLeaf : MethodName := ⟨RX4, "takeLeaf", "()V"⟩
abbrev cX4_takeConstant : ByteArray := prog_6_method_7_code
def yX4_takeConstant : MethodName := ⟨RX4, "takeConstant", "()V"⟩
abbrev cX4_takeOpening : ByteArray := prog_6_method_8_code
def yX4_takeOpening : MethodName := ⟨RX4, "takeOpening", "()V"⟩
abbrev cX4_takeWantedDigit : ByteArray := prog_6_method_9_code
def yX4_takeWantedDigit : MethodName := ⟨RX4, "takeWantedDigit", "()V"⟩
abbrev cX4_takeClosing : ByteArray := prog_6_method_10_code
def yX4_takeClosing : MethodName := ⟨RX4, "takeClosing", "()V"⟩
abbrev cX4_takeDigit : ByteArray := prog_6_method_11_code
def yX4_takeDigit : MethodName := ⟨RX4, "takeDigit", "()I"⟩
abbrev cX4_addStep : ByteArray := prog_6_method_12_code
def yX4_addStep : MethodName := ⟨RX4, "addStep", "(III)V"⟩
abbrev cX4_skipSpaces : ByteArray := prog_6_method_13_code
def yX4_skipSpaces : MethodName := ⟨RX4, "skipSpaces", "()V"⟩
abbrev cX4_isDigit : ByteArray := prog_6_method_14_code
def yX4_isDigit : MethodName := ⟨RX4, "isDigit", "(I)Z"⟩
abbrev cX4_isWordLetter : ByteArray := prog_6_method_15_code
def yX4_isWordLetter : MethodName := ⟨RX4, "isWordLetter", "(I)Z"⟩
abbrev cX4_build : ByteArray := prog_6_method_16_code
def yX4_build : MethodName := ⟨RX4, "build", "(LWordSolver$Graph;)I"⟩
abbrev cX4_buildStep : ByteArray := prog_6_method_17_code
def yX4_buildStep : MethodName := ⟨RX4, "buildStep", "(LWordSolver$Graph;II)I"⟩
def RX5 : String := "WordSolver$Search"
def TX5 : u_T := fun k => match k with
  | 0 => ("WordSolver$Search", "graph", "LWordSolver$Graph;", true)
  | 1 => ("WordSolver$Search", "now", "LWordSolver$State;", true)
  | 2 => ("WordSolver$Search", "lanes", "LWordSolver$Lanes;", true)
  | 3 => ("WordSolver$Search", "modelLanes", "[J", true)
  | 4 => ("WordSolver$Search", "known", "Z", false)
  | 5 => ("WordSolver$Search", "least", "I", false)
  | 6 => ("WordSolver$Search", "best", "I", false)
  | 7 => ("WordSolver$Search", "bestModel", "I", false)
  | 8 => ("WordSolver$Search", "seen", "[Z", true)
  | _ => ("WordSolver$Search", "rows", "[J", false)
def tyX5 : Nat → FieldType := fun k => match k with
  | 0 => .object "WordSolver$Graph"
  | 1 => .object "WordSolver$State"
  | 2 => .object "WordSolver$Lanes"
  | 3 => .array .long
  | 4 => .boolean
  | 5 => .int
  | 6 => .int
  | 7 => .int
  | 8 => .array .boolean
  | _ => .array .long
abbrev wsX50 : List Cond := u_ws RX5 TX5 10
theorem nmX5 : ∀ a, a < 10 → ∀ b, b < 10 → a ≠ b → (TX5 a).2.1 ≠ (TX5 b).2.1 := by decide +kernel
theorem tyX5_ok : ∀ k, k < 10 → parseFieldDescriptor (TX5 k).2.2.1 = some (tyX5 k) := by decide +kernel
abbrev cX5_init : ByteArray := prog_7_method_1_code
def yX5_init : MethodName := ⟨RX5, "<init>", "(LWordSolver$Graph;LWordSolver$State;LWordSolver$Lanes;)V"⟩
abbrev cX5_forget : ByteArray := prog_7_method_2_code
def yX5_forget : MethodName := ⟨RX5, "forget", "()V"⟩
abbrev cX5_leastModel : ByteArray := prog_7_method_3_code
def yX5_leastModel : MethodName := ⟨RX5, "leastModel", "()I"⟩
abbrev cX5_findModels : ByteArray := prog_7_method_4_code
def yX5_findModels : MethodName := ⟨RX5, "findModels", "()V"⟩
abbrev cX5_constraintCones : ByteArray := prog_7_method_5_code
def yX5_constraintCones : MethodName := ⟨RX5, "constraintCones", "()J"⟩
abbrev cX5_allConstraints : ByteArray := prog_7_method_6_code
def yX5_allConstraints : MethodName := ⟨RX5, "allConstraints", "()J"⟩
abbrev cX5_firstIn : ByteArray := prog_7_method_7_code
def yX5_firstIn : MethodName := ⟨RX5, "firstIn", "(IJ)I"⟩
abbrev cX5_countModels : ByteArray := prog_7_method_8_code
def yX5_countModels : MethodName := ⟨RX5, "countModels", "()I"⟩
abbrev cX5_best : ByteArray := prog_7_method_9_code
def yX5_best : MethodName := ⟨RX5, "best", "()I"⟩
abbrev cX5_bestModel : ByteArray := prog_7_method_10_code
def yX5_bestModel : MethodName := ⟨RX5, "bestModel", "()I"⟩
abbrev cX5_climb : ByteArray := prog_7_method_11_code
def yX5_climb : MethodName := ⟨RX5, "climb", "(IIII)V"⟩
abbrev cX5_goalWidth : ByteArray := prog_7_method_12_code
def yX5_goalWidth : MethodName := ⟨RX5, "goalWidth", "(II)I"⟩
abbrev cX5_wishCones : ByteArray := prog_7_method_13_code
def yX5_wishCones : MethodName := ⟨RX5, "wishCones", "()J"⟩
abbrev cX5_setGoal : ByteArray := prog_7_method_14_code
def yX5_setGoal : MethodName := ⟨RX5, "setGoal", "(IIII)V"⟩
abbrev cX5_climbIn : ByteArray := prog_7_method_15_code
def yX5_climbIn : MethodName := ⟨RX5, "climbIn", "(II)V"⟩
abbrev cX5_fixedBits : ByteArray := prog_7_method_16_code
def yX5_fixedBits : MethodName := ⟨RX5, "fixedBits", "(IZ)I"⟩
abbrev cX5_bitsThatOccur : ByteArray := prog_7_method_17_code
def yX5_bitsThatOccur : MethodName := ⟨RX5, "bitsThatOccur", "(IIJJ)I"⟩
abbrev cX5_collectWords : ByteArray := prog_7_method_18_code
def yX5_collectWords : MethodName := ⟨RX5, "collectWords", "(I)I"⟩
abbrev cX5_markWords : ByteArray := prog_7_method_19_code
def yX5_markWords : MethodName := ⟨RX5, "markWords", "(II)I"⟩
abbrev cX5_collectedWord : ByteArray := prog_7_method_20_code
def yX5_collectedWord : MethodName := ⟨RX5, "collectedWord", "(I)I"⟩
abbrev cX5_minimalConflict : ByteArray := prog_7_method_21_code
def yX5_minimalConflict : MethodName := ⟨RX5, "minimalConflict", "()I"⟩
abbrev cX5_filledRows : ByteArray := prog_7_method_22_code
def yX5_filledRows : MethodName := ⟨RX5, "filledRows", "()[J"⟩
abbrev cX5_isConflict : ByteArray := prog_7_method_23_code
def yX5_isConflict : MethodName := ⟨RX5, "isConflict", "([JI)Z"⟩
def RX6 : String := "WordSolver$State"
def TX6 : u_T := fun k => match k with
  | 0 => ("WordSolver$State", "nodeCount", "I", false)
  | 1 => ("WordSolver$State", "level", "I", false)
  | 2 => ("WordSolver$State", "constraintCount", "I", false)
  | 3 => ("WordSolver$State", "constraintNodes", "[I", true)
  | 4 => ("WordSolver$State", "constraintLevels", "[I", true)
  | 5 => ("WordSolver$State", "wishCount", "I", false)
  | 6 => ("WordSolver$State", "wishNodes", "[I", true)
  | 7 => ("WordSolver$State", "wishWeights", "[I", true)
  | _ => ("WordSolver$State", "inputs", "[I", true)
def tyX6 : Nat → FieldType := fun k => match k with
  | 0 => .int
  | 1 => .int
  | 2 => .int
  | 3 => .array .int
  | 4 => .array .int
  | 5 => .int
  | 6 => .array .int
  | 7 => .array .int
  | _ => .array .int
abbrev wsX60 : List Cond := u_ws RX6 TX6 9
theorem nmX6 : ∀ a, a < 9 → ∀ b, b < 9 → a ≠ b → (TX6 a).2.1 ≠ (TX6 b).2.1 := by decide +kernel
theorem tyX6_ok : ∀ k, k < 9 → parseFieldDescriptor (TX6 k).2.2.1 = some (tyX6 k) := by decide +kernel
abbrev cX6_init : ByteArray := prog_8_method_1_code
def yX6_init : MethodName := ⟨RX6, "<init>", "()V"⟩
abbrev cX6_copyFrom : ByteArray := prog_8_method_2_code
def yX6_copyFrom : MethodName := ⟨RX6, "copyFrom", "(LWordSolver$State;)V"⟩
abbrev cX6_addConstraint : ByteArray := prog_8_method_3_code
def yX6_addConstraint : MethodName := ⟨RX6, "addConstraint", "(I)I"⟩
abbrev cX6_dropLevel : ByteArray := prog_8_method_4_code
def yX6_dropLevel : MethodName := ⟨RX6, "dropLevel", "()I"⟩
abbrev cX6_addWish : ByteArray := prog_8_method_5_code
def yX6_addWish : MethodName := ⟨RX6, "addWish", "(II)I"⟩
def RX7 : String := "WordSolver$Text"
def TX7 : u_T := fun k => match k with
  | 0 => ("WordSolver$Text", "codes", "[I", true)
  | _ => ("WordSolver$Text", "length", "I", false)
def tyX7 : Nat → FieldType := fun k => match k with
  | 0 => .array .int
  | _ => .int
abbrev wsX70 : List Cond := u_ws RX7 TX7 2
theorem nmX7 : ∀ a, a < 2 → ∀ b, b < 2 → a ≠ b → (TX7 a).2.1 ≠ (TX7 b).2.1 := by decide +kernel
theorem tyX7_ok : ∀ k, k < 2 → parseFieldDescriptor (TX7 k).2.2.1 = some (tyX7 k) := by decide +kernel
abbrev cX7_init : ByteArray := prog_9_method_1_code
def yX7_init : MethodName := ⟨RX7, "<init>", "()V"⟩
abbrev cX7_length : ByteArray := prog_9_method_2_code
def yX7_length : MethodName := ⟨RX7, "length", "()I"⟩
abbrev cX7_at : ByteArray := prog_9_method_3_code
def yX7_at : MethodName := ⟨RX7, "at", "(I)I"⟩
abbrev cX7_add : ByteArray := prog_9_method_4_code
def yX7_add : MethodName := ⟨RX7, "add", "(I)V"⟩
abbrev cX7_empty : ByteArray := prog_9_method_5_code
def yX7_empty : MethodName := ⟨RX7, "empty", "()V"⟩
def RX8 : String := "WordSolver$Writer"
def TX8 : u_T := fun k => match k with
  | 0 => ("WordSolver$Writer", "graph", "LWordSolver$Graph;", true)
  | 1 => ("WordSolver$Writer", "text", "LWordSolver$Text;", true)
  | _ => ("WordSolver$Writer", "lengths", "[I", true)
def tyX8 : Nat → FieldType := fun k => match k with
  | 0 => .object "WordSolver$Graph"
  | 1 => .object "WordSolver$Text"
  | _ => .array .int
abbrev wsX80 : List Cond := u_ws RX8 TX8 3
theorem nmX8 : ∀ a, a < 3 → ∀ b, b < 3 → a ≠ b → (TX8 a).2.1 ≠ (TX8 b).2.1 := by decide +kernel
theorem tyX8_ok : ∀ k, k < 3 → parseFieldDescriptor (TX8 k).2.2.1 = some (tyX8 k) := by decide +kernel
abbrev cX8_init : ByteArray := prog_10_method_1_code
def yX8_init : MethodName := ⟨RX8, "<init>", "(LWordSolver$Graph;LWordSolver$Text;)V"⟩
abbrev cX8_lengthOf : ByteArray := prog_10_method_2_code
def yX8_lengthOf : MethodName := ⟨RX8, "lengthOf", "(I)I"⟩
abbrev cX8_lengthByOperands : ByteArray := prog_10_method_3_code
def yX8_lengthByOperands : MethodName := ⟨RX8, "lengthByOperands", "(I)I"⟩
abbrev cX8_describe : ByteArray := prog_10_method_4_code
def yX8_describe : MethodName := ⟨RX8, "describe", "(II)V"⟩
abbrev cX8_addWord : ByteArray := prog_10_method_5_code
def yX8_addWord : MethodName := ⟨RX8, "addWord", "(I)V"⟩
abbrev cX8_addDigits : ByteArray := prog_10_method_6_code
def yX8_addDigits : MethodName := ⟨RX8, "addDigits", "(II)V"⟩
abbrev cX8_addNumber : ByteArray := prog_10_method_7_code
def yX8_addNumber : MethodName := ⟨RX8, "addNumber", "(I)V"⟩
def RX9 : String := "WordSolver"
def TX9 : u_T := fun k => match k with
  | 0 => ("WordSolver", "graph", "LWordSolver$Graph;", true)
  | 1 => ("WordSolver", "now", "LWordSolver$State;", true)
  | 2 => ("WordSolver", "history", "LWordSolver$History;", true)
  | 3 => ("WordSolver", "lanes", "LWordSolver$Lanes;", true)
  | 4 => ("WordSolver", "search", "LWordSolver$Search;", true)
  | 5 => ("WordSolver", "text", "LWordSolver$Text;", true)
  | 6 => ("WordSolver", "parser", "LWordSolver$Parser;", true)
  | _ => ("WordSolver", "writer", "LWordSolver$Writer;", true)
def tyX9 : Nat → FieldType := fun k => match k with
  | 0 => .object "WordSolver$Graph"
  | 1 => .object "WordSolver$State"
  | 2 => .object "WordSolver$History"
  | 3 => .object "WordSolver$Lanes"
  | 4 => .object "WordSolver$Search"
  | 5 => .object "WordSolver$Text"
  | 6 => .object "WordSolver$Parser"
  | _ => .object "WordSolver$Writer"
abbrev wsX90 : List Cond := u_ws RX9 TX9 8
theorem nmX9 : ∀ a, a < 8 → ∀ b, b < 8 → a ≠ b → (TX9 a).2.1 ≠ (TX9 b).2.1 := by decide +kernel
theorem tyX9_ok : ∀ k, k < 8 → parseFieldDescriptor (TX9 k).2.2.1 = some (tyX9 k) := by decide +kernel
abbrev cX9_init : ByteArray := prog_1_method_1_code
def yX9_init : MethodName := ⟨RX9, "<init>", "()V"⟩
abbrev cX9_variable : ByteArray := prog_1_method_2_code
def yX9_variable : MethodName := ⟨RX9, "variable", "(I)I"⟩
abbrev cX9_constant : ByteArray := prog_1_method_3_code
def yX9_constant : MethodName := ⟨RX9, "constant", "(II)I"⟩
abbrev cX9_binary : ByteArray := prog_1_method_4_code
def yX9_binary : MethodName := ⟨RX9, "binary", "(III)I"⟩
abbrev cX9_unary : ByteArray := prog_1_method_5_code
def yX9_unary : MethodName := ⟨RX9, "unary", "(II)I"⟩
abbrev cX9_slice : ByteArray := prog_1_method_6_code
def yX9_slice : MethodName := ⟨RX9, "slice", "(III)I"⟩
abbrev cX9_extend : ByteArray := prog_1_method_7_code
def yX9_extend : MethodName := ⟨RX9, "extend", "(IIZ)I"⟩
abbrev cX9_choice : ByteArray := prog_1_method_8_code
def yX9_choice : MethodName := ⟨RX9, "choice", "(III)I"⟩
abbrev cX9_nodes : ByteArray := prog_1_method_9_code
def yX9_nodes : MethodName := ⟨RX9, "nodes", "()I"⟩
abbrev cX9_variables : ByteArray := prog_1_method_10_code
def yX9_variables : MethodName := ⟨RX9, "variables", "()I"⟩
abbrev cX9_info : ByteArray := prog_1_method_11_code
def yX9_info : MethodName := ⟨RX9, "info", "(II)I"⟩
abbrev cX9_input : ByteArray := prog_1_method_12_code
def yX9_input : MethodName := ⟨RX9, "input", "(II)I"⟩
abbrev cX9_value : ByteArray := prog_1_method_13_code
def yX9_value : MethodName := ⟨RX9, "value", "(IZ)I"⟩
abbrev cX9_require : ByteArray := prog_1_method_14_code
def yX9_require : MethodName := ⟨RX9, "require", "(I)I"⟩
abbrev cX9_push : ByteArray := prog_1_method_15_code
def yX9_push : MethodName := ⟨RX9, "push", "()I"⟩
abbrev cX9_pop : ByteArray := prog_1_method_16_code
def yX9_pop : MethodName := ⟨RX9, "pop", "()I"⟩
abbrev cX9_constraints : ByteArray := prog_1_method_17_code
def yX9_constraints : MethodName := ⟨RX9, "constraints", "()I"⟩
abbrev cX9_constraint : ByteArray := prog_1_method_18_code
def yX9_constraint : MethodName := ⟨RX9, "constraint", "(IZ)I"⟩
abbrev cX9_satisfiable : ByteArray := prog_1_method_19_code
def yX9_satisfiable : MethodName := ⟨RX9, "satisfiable", "()Z"⟩
abbrev cX9_witness : ByteArray := prog_1_method_20_code
def yX9_witness : MethodName := ⟨RX9, "witness", "(I)I"⟩
abbrev cX9_extreme : ByteArray := prog_1_method_21_code
def yX9_extreme : MethodName := ⟨RX9, "extreme", "(IZZ)I"⟩
abbrev cX9_extremeWitness : ByteArray := prog_1_method_22_code
def yX9_extremeWitness : MethodName := ⟨RX9, "extremeWitness", "(IZI)I"⟩
abbrev cX9_fixed : ByteArray := prog_1_method_23_code
def yX9_fixed : MethodName := ⟨RX9, "fixed", "(IZ)I"⟩
abbrev cX9_models : ByteArray := prog_1_method_24_code
def yX9_models : MethodName := ⟨RX9, "models", "(I)I"⟩
abbrev cX9_values : ByteArray := prog_1_method_25_code
def yX9_values : MethodName := ⟨RX9, "values", "(II)I"⟩
abbrev cX9_valueAt : ByteArray := prog_1_method_26_code
def yX9_valueAt : MethodName := ⟨RX9, "valueAt", "(II)I"⟩
abbrev cX9_equivalent : ByteArray := prog_1_method_27_code
def yX9_equivalent : MethodName := ⟨RX9, "equivalent", "(II)Z"⟩
abbrev cX9_counterexample : ByteArray := prog_1_method_28_code
def yX9_counterexample : MethodName := ⟨RX9, "counterexample", "(III)I"⟩
abbrev cX9_core : ByteArray := prog_1_method_29_code
def yX9_core : MethodName := ⟨RX9, "core", "()I"⟩
abbrev cX9_wish : ByteArray := prog_1_method_30_code
def yX9_wish : MethodName := ⟨RX9, "wish", "(II)I"⟩
abbrev cX9_clearWishes : ByteArray := prog_1_method_31_code
def yX9_clearWishes : MethodName := ⟨RX9, "clearWishes", "()I"⟩
abbrev cX9_gain : ByteArray := prog_1_method_32_code
def yX9_gain : MethodName := ⟨RX9, "gain", "()I"⟩
abbrev cX9_bestWitness : ByteArray := prog_1_method_33_code
def yX9_bestWitness : MethodName := ⟨RX9, "bestWitness", "(I)I"⟩
abbrev cX9_append : ByteArray := prog_1_method_34_code
def yX9_append : MethodName := ⟨RX9, "append", "(I)I"⟩
abbrev cX9_clearText : ByteArray := prog_1_method_35_code
def yX9_clearText : MethodName := ⟨RX9, "clearText", "()I"⟩
abbrev cX9_syntaxError : ByteArray := prog_1_method_36_code
def yX9_syntaxError : MethodName := ⟨RX9, "syntaxError", "()I"⟩
abbrev cX9_read : ByteArray := prog_1_method_37_code
def yX9_read : MethodName := ⟨RX9, "read", "()I"⟩
abbrev cX9_write : ByteArray := prog_1_method_38_code
def yX9_write : MethodName := ⟨RX9, "write", "(I)I"⟩
abbrev cX9_character : ByteArray := prog_1_method_39_code
def yX9_character : MethodName := ⟨RX9, "character", "(I)I"⟩
abbrev cX9_undo : ByteArray := prog_1_method_40_code
def yX9_undo : MethodName := ⟨RX9, "undo", "()I"⟩
abbrev cX9_digest : ByteArray := prog_1_method_41_code
def yX9_digest : MethodName := ⟨RX9, "digest", "()J"⟩
abbrev cX9_hashNodes : ByteArray := prog_1_method_42_code
def yX9_hashNodes : MethodName := ⟨RX9, "hashNodes", "(J)J"⟩
abbrev cX9_hashDemands : ByteArray := prog_1_method_43_code
def yX9_hashDemands : MethodName := ⟨RX9, "hashDemands", "(J)J"⟩
abbrev cX9_mix : ByteArray := prog_1_method_44_code
def yX9_mix : MethodName := ⟨RX9, "mix", "(JJ)J"⟩
abbrev cX9_keepMade : ByteArray := prog_1_method_45_code
def yX9_keepMade : MethodName := ⟨RX9, "keepMade", "(II)I"⟩
abbrev cX9_remember : ByteArray := prog_1_method_46_code
def yX9_remember : MethodName := ⟨RX9, "remember", "()V"⟩
abbrev cX9_demandNode : ByteArray := prog_1_method_47_code
def yX9_demandNode : MethodName := ⟨RX9, "demandNode", "(I)V"⟩
abbrev cX9_demandVariable : ByteArray := prog_1_method_48_code
def yX9_demandVariable : MethodName := ⟨RX9, "demandVariable", "(I)V"⟩
abbrev cX9_demandSameWidth : ByteArray := prog_1_method_49_code
def yX9_demandSameWidth : MethodName := ⟨RX9, "demandSameWidth", "(II)V"⟩
abbrev cX9_demandLimit : ByteArray := prog_1_method_50_code
def yX9_demandLimit : MethodName := ⟨RX9, "demandLimit", "(I)V"⟩
abbrev cX9_isWidth : ByteArray := prog_1_method_51_code
def yX9_isWidth : MethodName := ⟨RX9, "isWidth", "(I)Z"⟩
abbrev cX9_isWord : ByteArray := prog_1_method_52_code
def yX9_isWord : MethodName := ⟨RX9, "isWord", "(II)Z"⟩
abbrev cX9_fullWord : ByteArray := prog_1_method_53_code
def yX9_fullWord : MethodName := ⟨RX9, "fullWord", "(I)I"⟩
abbrev cX9_signedWord : ByteArray := prog_1_method_54_code
def yX9_signedWord : MethodName := ⟨RX9, "signedWord", "(II)I"⟩
def RX10 : String := "WordSolverModel"
def TX10 : u_T := fun k => match k with
  | 0 => ("WordSolverModel", "now", "[I", true)
  | 1 => ("WordSolverModel", "past", "[I", true)
  | 2 => ("WordSolverModel", "before", "[I", true)
  | 3 => ("WordSolverModel", "saved", "I", false)
  | 4 => ("WordSolverModel", "refusal", "I", false)
  | 5 => ("WordSolverModel", "text", "[I", true)
  | 6 => ("WordSolverModel", "length", "I", false)
  | 7 => ("WordSolverModel", "words", "[I", true)
  | 8 => ("WordSolverModel", "val", "[I", true)
  | 9 => ("WordSolverModel", "fulfilled", "[I", true)
  | 10 => ("WordSolverModel", "isOld", "Z", false)
  | 11 => ("WordSolverModel", "assignments", "I", false)
  | 12 => ("WordSolverModel", "met", "[I", true)
  | 13 => ("WordSolverModel", "most", "I", false)
  | 14 => ("WordSolverModel", "tokens", "[I", true)
  | 15 => ("WordSolverModel", "tokenMany", "I", false)
  | 16 => ("WordSolverModel", "open", "[I", true)
  | 17 => ("WordSolverModel", "got", "[I", true)
  | 18 => ("WordSolverModel", "deep", "I", false)
  | 19 => ("WordSolverModel", "place", "I", false)
  | 20 => ("WordSolverModel", "digit", "I", false)
  | 21 => ("WordSolverModel", "operandRow", "[I", true)
  | 22 => ("WordSolverModel", "rest", "[I", true)
  | 23 => ("WordSolverModel", "restMany", "I", false)
  | 24 => ("WordSolverModel", "written", "[I", true)
  | 25 => ("WordSolverModel", "writtenMany", "I", false)
  | _ => ("WordSolverModel", "hash", "J", false)
def tyX10 : Nat → FieldType := fun k => match k with
  | 0 => .array .int
  | 1 => .array .int
  | 2 => .array .int
  | 3 => .int
  | 4 => .int
  | 5 => .array .int
  | 6 => .int
  | 7 => .array .int
  | 8 => .array .int
  | 9 => .array .int
  | 10 => .boolean
  | 11 => .int
  | 12 => .array .int
  | 13 => .int
  | 14 => .array .int
  | 15 => .int
  | 16 => .array .int
  | 17 => .array .int
  | 18 => .int
  | 19 => .int
  | 20 => .int
  | 21 => .array .int
  | 22 => .array .int
  | 23 => .int
  | 24 => .array .int
  | 25 => .int
  | _ => .long
abbrev wsX100 : List Cond := u_ws RX10 TX10 27
theorem nmX10 : ∀ a, a < 27 → ∀ b, b < 27 → a ≠ b → (TX10 a).2.1 ≠ (TX10 b).2.1 := by decide +kernel
theorem tyX10_ok : ∀ k, k < 27 → parseFieldDescriptor (TX10 k).2.2.1 = some (tyX10 k) := by decide +kernel
abbrev cX10_init : ByteArray := prog_12_method_1_code
def yX10_init : MethodName := ⟨RX10, "<init>", "()V"⟩
abbrev cX10_thrown : ByteArray := prog_12_method_2_code
def yX10_thrown : MethodName := ⟨RX10, "thrown", "()I"⟩
abbrev cX10_refused : ByteArray := prog_12_method_3_code
def yX10_refused : MethodName := ⟨RX10, "refused", "(I)Z"⟩
abbrev cX10_within : ByteArray := prog_12_method_4_code
def yX10_within : MethodName := ⟨RX10, "within", "(III)Z"⟩
abbrev cX10_need : ByteArray := prog_12_method_5_code
def yX10_need : MethodName := ⟨RX10, "need", "(Z)I"⟩
abbrev cX10_saves : ByteArray := prog_12_method_6_code
def yX10_saves : MethodName := ⟨RX10, "saves", "()V"⟩
abbrev cX10_undo : ByteArray := prog_12_method_7_code
def yX10_undo : MethodName := ⟨RX10, "undo", "()I"⟩
abbrev cX10_of : ByteArray := prog_12_method_8_code
def yX10_of : MethodName := ⟨RX10, "of", "(II)I"⟩
abbrev cX10_kind : ByteArray := prog_12_method_9_code
def yX10_kind : MethodName := ⟨RX10, "kind", "(I)I"⟩
abbrev cX10_width : ByteArray := prog_12_method_10_code
def yX10_width : MethodName := ⟨RX10, "width", "(I)I"⟩
abbrev cX10_isNode : ByteArray := prog_12_method_11_code
def yX10_isNode : MethodName := ⟨RX10, "isNode", "(I)Z"⟩
abbrev cX10_isVariable : ByteArray := prog_12_method_12_code
def yX10_isVariable : MethodName := ⟨RX10, "isVariable", "(I)Z"⟩
abbrev cX10_mask : ByteArray := prog_12_method_13_code
def yX10_mask : MethodName := ⟨RX10, "mask", "(I)I"⟩
abbrev cX10_makes : ByteArray := prog_12_method_14_code
def yX10_makes : MethodName := ⟨RX10, "makes", "(IIIIIII)I"⟩
abbrev cX10_madeBy : ByteArray := prog_12_method_15_code
def yX10_madeBy : MethodName := ⟨RX10, "madeBy", "(IIIIIIII)I"⟩
abbrev cX10_bitsOfAll : ByteArray := prog_12_method_16_code
def yX10_bitsOfAll : MethodName := ⟨RX10, "bitsOfAll", "()I"⟩
abbrev cX10_variable : ByteArray := prog_12_method_17_code
def yX10_variable : MethodName := ⟨RX10, "variable", "(I)I"⟩
abbrev cX10_isWord : ByteArray := prog_12_method_18_code
def yX10_isWord : MethodName := ⟨RX10, "isWord", "(II)Z"⟩
abbrev cX10_constant : ByteArray := prog_12_method_19_code
def yX10_constant : MethodName := ⟨RX10, "constant", "(II)I"⟩
abbrev cX10_fits : ByteArray := prog_12_method_20_code
def yX10_fits : MethodName := ⟨RX10, "fits", "(III)Z"⟩
abbrev cX10_widthBy : ByteArray := prog_12_method_21_code
def yX10_widthBy : MethodName := ⟨RX10, "widthBy", "(III)I"⟩
abbrev cX10_binary : ByteArray := prog_12_method_22_code
def yX10_binary : MethodName := ⟨RX10, "binary", "(III)I"⟩
abbrev cX10_unary : ByteArray := prog_12_method_23_code
def yX10_unary : MethodName := ⟨RX10, "unary", "(II)I"⟩
abbrev cX10_isSlice : ByteArray := prog_12_method_24_code
def yX10_isSlice : MethodName := ⟨RX10, "isSlice", "(III)Z"⟩
abbrev cX10_slice : ByteArray := prog_12_method_25_code
def yX10_slice : MethodName := ⟨RX10, "slice", "(III)I"⟩
abbrev cX10_isExtended : ByteArray := prog_12_method_26_code
def yX10_isExtended : MethodName := ⟨RX10, "isExtended", "(II)Z"⟩
abbrev cX10_extend : ByteArray := prog_12_method_27_code
def yX10_extend : MethodName := ⟨RX10, "extend", "(IIZ)I"⟩
abbrev cX10_isChoice : ByteArray := prog_12_method_28_code
def yX10_isChoice : MethodName := ⟨RX10, "isChoice", "(III)Z"⟩
abbrev cX10_choice : ByteArray := prog_12_method_29_code
def yX10_choice : MethodName := ⟨RX10, "choice", "(III)I"⟩
abbrev cX10_nodes : ByteArray := prog_12_method_30_code
def yX10_nodes : MethodName := ⟨RX10, "nodes", "()I"⟩
abbrev cX10_variables : ByteArray := prog_12_method_31_code
def yX10_variables : MethodName := ⟨RX10, "variables", "()I"⟩
abbrev cX10_parts : ByteArray := prog_12_method_32_code
def yX10_parts : MethodName := ⟨RX10, "parts", "(I)I"⟩
abbrev cX10_told : ByteArray := prog_12_method_33_code
def yX10_told : MethodName := ⟨RX10, "told", "(II)I"⟩
abbrev cX10_info : ByteArray := prog_12_method_34_code
def yX10_info : MethodName := ⟨RX10, "info", "(II)I"⟩
abbrev cX10_input : ByteArray := prog_12_method_35_code
def yX10_input : MethodName := ⟨RX10, "input", "(II)I"⟩
abbrev cX10_signed : ByteArray := prog_12_method_36_code
def yX10_signed : MethodName := ⟨RX10, "signed", "(II)I"⟩
abbrev cX10_shifted : ByteArray := prog_12_method_37_code
def yX10_shifted : MethodName := ⟨RX10, "shifted", "(IIII)I"⟩
abbrev cX10_compares : ByteArray := prog_12_method_38_code
def yX10_compares : MethodName := ⟨RX10, "compares", "(IIII)Z"⟩
abbrev cX10_valueOf : ByteArray := prog_12_method_39_code
def yX10_valueOf : MethodName := ⟨RX10, "valueOf", "(I)I"⟩
abbrev cX10_laysValues : ByteArray := prog_12_method_40_code
def yX10_laysValues : MethodName := ⟨RX10, "laysValues", "()V"⟩
abbrev cX10_laysInputs : ByteArray := prog_12_method_41_code
def yX10_laysInputs : MethodName := ⟨RX10, "laysInputs", "()V"⟩
abbrev cX10_laysAssignment : ByteArray := prog_12_method_42_code
def yX10_laysAssignment : MethodName := ⟨RX10, "laysAssignment", "(I)V"⟩
abbrev cX10_value : ByteArray := prog_12_method_43_code
def yX10_value : MethodName := ⟨RX10, "value", "(IZ)I"⟩
abbrev cX10_require : ByteArray := prog_12_method_44_code
def yX10_require : MethodName := ⟨RX10, "require", "(I)I"⟩
abbrev cX10_push : ByteArray := prog_12_method_45_code
def yX10_push : MethodName := ⟨RX10, "push", "()I"⟩
abbrev cX10_pop : ByteArray := prog_12_method_46_code
def yX10_pop : MethodName := ⟨RX10, "pop", "()I"⟩
abbrev cX10_constraints : ByteArray := prog_12_method_47_code
def yX10_constraints : MethodName := ⟨RX10, "constraints", "()I"⟩
abbrev cX10_constraint : ByteArray := prog_12_method_48_code
def yX10_constraint : MethodName := ⟨RX10, "constraint", "(IZ)I"⟩
abbrev cX10_lays : ByteArray := prog_12_method_49_code
def yX10_lays : MethodName := ⟨RX10, "lays", "()V"⟩
abbrev cX10_model : ByteArray := prog_12_method_50_code
def yX10_model : MethodName := ⟨RX10, "model", "(I)I"⟩
abbrev cX10_wordOf : ByteArray := prog_12_method_51_code
def yX10_wordOf : MethodName := ⟨RX10, "wordOf", "(II)I"⟩
abbrev cX10_satisfiable : ByteArray := prog_12_method_52_code
def yX10_satisfiable : MethodName := ⟨RX10, "satisfiable", "()Z"⟩
abbrev cX10_witness : ByteArray := prog_12_method_53_code
def yX10_witness : MethodName := ⟨RX10, "witness", "(I)I"⟩
abbrev cX10_extremeModel : ByteArray := prog_12_method_54_code
def yX10_extremeModel : MethodName := ⟨RX10, "extremeModel", "(IZZ)I"⟩
abbrev cX10_extreme : ByteArray := prog_12_method_55_code
def yX10_extreme : MethodName := ⟨RX10, "extreme", "(IZZ)I"⟩
abbrev cX10_extremeWitness : ByteArray := prog_12_method_56_code
def yX10_extremeWitness : MethodName := ⟨RX10, "extremeWitness", "(IZI)I"⟩
abbrev cX10_fixed : ByteArray := prog_12_method_57_code
def yX10_fixed : MethodName := ⟨RX10, "fixed", "(IZ)I"⟩
abbrev cX10_models : ByteArray := prog_12_method_58_code
def yX10_models : MethodName := ⟨RX10, "models", "(I)I"⟩
abbrev cX10_laysMet : ByteArray := prog_12_method_59_code
def yX10_laysMet : MethodName := ⟨RX10, "laysMet", "(I)V"⟩
abbrev cX10_values : ByteArray := prog_12_method_60_code
def yX10_values : MethodName := ⟨RX10, "values", "(II)I"⟩
abbrev cX10_valueAt : ByteArray := prog_12_method_61_code
def yX10_valueAt : MethodName := ⟨RX10, "valueAt", "(II)I"⟩
abbrev cX10_differing : ByteArray := prog_12_method_62_code
def yX10_differing : MethodName := ⟨RX10, "differing", "(II)I"⟩
abbrev cX10_equivalent : ByteArray := prog_12_method_63_code
def yX10_equivalent : MethodName := ⟨RX10, "equivalent", "(II)Z"⟩
abbrev cX10_counterexample : ByteArray := prog_12_method_64_code
def yX10_counterexample : MethodName := ⟨RX10, "counterexample", "(III)I"⟩
abbrev cX10_isConflict : ByteArray := prog_12_method_65_code
def yX10_isConflict : MethodName := ⟨RX10, "isConflict", "(I)Z"⟩
abbrev cX10_core : ByteArray := prog_12_method_66_code
def yX10_core : MethodName := ⟨RX10, "core", "()I"⟩
abbrev cX10_wish : ByteArray := prog_12_method_67_code
def yX10_wish : MethodName := ⟨RX10, "wish", "(II)I"⟩
abbrev cX10_clearWishes : ByteArray := prog_12_method_68_code
def yX10_clearWishes : MethodName := ⟨RX10, "clearWishes", "()I"⟩
abbrev cX10_best : ByteArray := prog_12_method_69_code
def yX10_best : MethodName := ⟨RX10, "best", "()I"⟩
abbrev cX10_gain : ByteArray := prog_12_method_70_code
def yX10_gain : MethodName := ⟨RX10, "gain", "()I"⟩
abbrev cX10_bestWitness : ByteArray := prog_12_method_71_code
def yX10_bestWitness : MethodName := ⟨RX10, "bestWitness", "(I)I"⟩
abbrev cX10_append : ByteArray := prog_12_method_72_code
def yX10_append : MethodName := ⟨RX10, "append", "(I)I"⟩
abbrev cX10_clearText : ByteArray := prog_12_method_73_code
def yX10_clearText : MethodName := ⟨RX10, "clearText", "()I"⟩
abbrev cX10_character : ByteArray := prog_12_method_74_code
def yX10_character : MethodName := ⟨RX10, "character", "(I)I"⟩
abbrev cX10_word : ByteArray := prog_12_method_75_code
def yX10_word : MethodName := ⟨RX10, "word", "(I)J"⟩
abbrev cX10_operands : ByteArray := prog_12_method_76_code
def yX10_operands : MethodName := ⟨RX10, "operands", "(I)I"⟩
abbrev cX10_digits : ByteArray := prog_12_method_77_code
def yX10_digits : MethodName := ⟨RX10, "digits", "(I)I"⟩
abbrev cX10_letter : ByteArray := prog_12_method_78_code
def yX10_letter : MethodName := ⟨RX10, "letter", "(I)I"⟩
abbrev cX10_isDigit : ByteArray := prog_12_method_79_code
def yX10_isDigit : MethodName := ⟨RX10, "isDigit", "(I)Z"⟩
abbrev cX10_skipped : ByteArray := prog_12_method_80_code
def yX10_skipped : MethodName := ⟨RX10, "skipped", "()I"⟩
abbrev cX10_gives : ByteArray := prog_12_method_81_code
def yX10_gives : MethodName := ⟨RX10, "gives", "(III)V"⟩
abbrev cX10_takesDigit : ByteArray := prog_12_method_82_code
def yX10_takesDigit : MethodName := ⟨RX10, "takesDigit", "()Z"⟩
abbrev cX10_takes : ByteArray := prog_12_method_83_code
def yX10_takes : MethodName := ⟨RX10, "takes", "(I)Z"⟩
abbrev cX10_takesConstant : ByteArray := prog_12_method_84_code
def yX10_takesConstant : MethodName := ⟨RX10, "takesConstant", "()Z"⟩
abbrev cX10_takesWord : ByteArray := prog_12_method_85_code
def yX10_takesWord : MethodName := ⟨RX10, "takesWord", "()Z"⟩
abbrev cX10_takesNode : ByteArray := prog_12_method_86_code
def yX10_takesNode : MethodName := ⟨RX10, "takesNode", "()Z"⟩
abbrev cX10_takesEnds : ByteArray := prog_12_method_87_code
def yX10_takesEnds : MethodName := ⟨RX10, "takesEnds", "()Z"⟩
abbrev cX10_reads : ByteArray := prog_12_method_88_code
def yX10_reads : MethodName := ⟨RX10, "reads", "()I"⟩
abbrev cX10_syntaxError : ByteArray := prog_12_method_89_code
def yX10_syntaxError : MethodName := ⟨RX10, "syntaxError", "()I"⟩
abbrev cX10_makesAll : ByteArray := prog_12_method_90_code
def yX10_makesAll : MethodName := ⟨RX10, "makesAll", "()I"⟩
abbrev cX10_makesKind : ByteArray := prog_12_method_91_code
def yX10_makesKind : MethodName := ⟨RX10, "makesKind", "(IIII)I"⟩
abbrev cX10_read : ByteArray := prog_12_method_92_code
def yX10_read : MethodName := ⟨RX10, "read", "()I"⟩
abbrev cX10_puts : ByteArray := prog_12_method_93_code
def yX10_puts : MethodName := ⟨RX10, "puts", "(I)V"⟩
abbrev cX10_later : ByteArray := prog_12_method_94_code
def yX10_later : MethodName := ⟨RX10, "later", "(I)V"⟩
abbrev cX10_putsNumber : ByteArray := prog_12_method_95_code
def yX10_putsNumber : MethodName := ⟨RX10, "putsNumber", "(I)V"⟩
abbrev cX10_begins : ByteArray := prog_12_method_96_code
def yX10_begins : MethodName := ⟨RX10, "begins", "(I)V"⟩
abbrev cX10_write : ByteArray := prog_12_method_97_code
def yX10_write : MethodName := ⟨RX10, "write", "(I)I"⟩
abbrev cX10_mix : ByteArray := prog_12_method_98_code
def yX10_mix : MethodName := ⟨RX10, "mix", "(I)V"⟩
abbrev cX10_digest : ByteArray := prog_12_method_99_code
def yX10_digest : MethodName := ⟨RX10, "digest", "()J"⟩
def RJ13 : String := "java/lang/Long"
def TJ13 : u_T := fun k => match k with
  | _ => ("", "", "", false)
def tyJ13 : Nat → FieldType := fun k => match k with
  | _ => .int
abbrev wsJ130 : List Cond := u_ws RJ13 TJ13 0
theorem nmJ13 : ∀ a, a < 0 → ∀ b, b < 0 → a ≠ b → (TJ13 a).2.1 ≠ (TJ13 b).2.1 := by decide +kernel
theorem tyJ13_ok : ∀ k, k < 0 → parseFieldDescriptor (TJ13 k).2.2.1 = some (tyJ13 k) := by decide +kernel
abbrev cJ13_bitCount_95d88 : ByteArray := prog_17_method_50_code
def yJ13_bitCount_95d88 : MethodName := ⟨RJ13, "bitCount", "(J)I"⟩
def RJ9 : String := "java/lang/Math"
def TJ9 : u_T := fun k => match k with
  | _ => ("", "", "", false)
def tyJ9 : Nat → FieldType := fun k => match k with
  | _ => .int
abbrev wsJ90 : List Cond := u_ws RJ9 TJ9 0
theorem nmJ9 : ∀ a, a < 0 → ∀ b, b < 0 → a ≠ b → (TJ9 a).2.1 ≠ (TJ9 b).2.1 := by decide +kernel
theorem tyJ9_ok : ∀ k, k < 0 → parseFieldDescriptor (TJ9 k).2.2.1 = some (tyJ9 k) := by decide +kernel
abbrev cJ9_max_7cf53 : ByteArray := prog_18_method_65_code
def yJ9_max_7cf53 : MethodName := ⟨RJ9, "max", "(II)I"⟩
abbrev cJ9_min_7cf53 : ByteArray := prog_18_method_69_code
def yJ9_min_7cf53 : MethodName := ⟨RJ9, "min", "(II)I"⟩
def RJ0 : String := "java/lang/String"
def TJ0 : u_T := fun k => match k with
  | _ => ("", "", "", false)
def tyJ0 : Nat → FieldType := fun k => match k with
  | _ => .int
abbrev wsJ00 : List Cond := u_ws RJ0 TJ0 0
theorem nmJ0 : ∀ a, a < 0 → ∀ b, b < 0 → a ≠ b → (TJ0 a).2.1 ≠ (TJ0 b).2.1 := by decide +kernel
theorem tyJ0_ok : ∀ k, k < 0 → parseFieldDescriptor (TJ0 k).2.2.1 = some (tyJ0 k) := by decide +kernel
abbrev cJ0_length_8abf5 : ByteArray := prog_20_method_54_code
def yJ0_length_8abf5 : MethodName := ⟨RJ0, "length", "()I"⟩
abbrev cJ0_charAt_5068e : ByteArray := prog_20_method_56_code
def yJ0_charAt_5068e : MethodName := ⟨RJ0, "charAt", "(I)C"⟩
abbrev cJ0_coder_7d493 : ByteArray := prog_20_method_152_code
def yJ0_coder_7d493 : MethodName := ⟨RJ0, "coder", "()B"⟩
abbrev cJ0_isLatin1_aae02 : ByteArray := prog_20_method_154_code
def yJ0_isLatin1_aae02 : MethodName := ⟨RJ0, "isLatin1", "()Z"⟩
abbrev cJ0_checkIndex_df160 : ByteArray := prog_20_method_155_code
def yJ0_checkIndex_df160 : MethodName := ⟨RJ0, "checkIndex", "(II)V"⟩
def RJ1 : String := "java/lang/StringLatin1"
def TJ1 : u_T := fun k => match k with
  | _ => ("", "", "", false)
def tyJ1 : Nat → FieldType := fun k => match k with
  | _ => .int
abbrev wsJ10 : List Cond := u_ws RJ1 TJ1 0
theorem nmJ1 : ∀ a, a < 0 → ∀ b, b < 0 → a ≠ b → (TJ1 a).2.1 ≠ (TJ1 b).2.1 := by decide +kernel
theorem tyJ1_ok : ∀ k, k < 0 → parseFieldDescriptor (TJ1 k).2.2.1 = some (tyJ1 k) := by decide +kernel
abbrev cJ1_charAt_3b067 : ByteArray := prog_21_method_2_code
def yJ1_charAt_3b067 : MethodName := ⟨RJ1, "charAt", "([BI)C"⟩
def RJ2 : String := "java/lang/StringUTF16"
def TJ2 : u_T := fun k => match k with
  | _ => ("", "", "", false)
def tyJ2 : Nat → FieldType := fun k => match k with
  | _ => .int
abbrev wsJ20 : List Cond := u_ws RJ2 TJ2 0
theorem nmJ2 : ∀ a, a < 0 → ∀ b, b < 0 → a ≠ b → (TJ2 a).2.1 ≠ (TJ2 b).2.1 := by decide +kernel
theorem tyJ2_ok : ∀ k, k < 0 → parseFieldDescriptor (TJ2 k).2.2.1 = some (tyJ2 k) := by decide +kernel
abbrev cJ2_getChar_3b067 : ByteArray := prog_22_method_5_code
def yJ2_getChar_3b067 : MethodName := ⟨RJ2, "getChar", "([BI)C"⟩
abbrev cJ2_length_9d52b : ByteArray := prog_22_method_6_code
def yJ2_length_9d52b : MethodName := ⟨RJ2, "length", "([B)I"⟩
abbrev cJ2_charAt_3b067 : ByteArray := prog_22_method_83_code
def yJ2_charAt_3b067 : MethodName := ⟨RJ2, "charAt", "([BI)C"⟩
abbrev cJ2_checkIndex_2214a : ByteArray := prog_22_method_91_code
def yJ2_checkIndex_2214a : MethodName := ⟨RJ2, "checkIndex", "(I[B)V"⟩
def RJ10 : String := "java/lang/System"
def TJ10 : u_T := fun k => match k with
  | _ => ("", "", "", false)
def tyJ10 : Nat → FieldType := fun k => match k with
  | _ => .int
abbrev wsJ100 : List Cond := u_ws RJ10 TJ10 0
theorem nmJ10 : ∀ a, a < 0 → ∀ b, b < 0 → a ≠ b → (TJ10 a).2.1 ≠ (TJ10 b).2.1 := by decide +kernel
theorem tyJ10_ok : ∀ k, k < 0 → parseFieldDescriptor (TJ10 k).2.2.1 = some (tyJ10 k) := by decide +kernel
def RJ3 : String := "jdk/internal/util/Preconditions"
def TJ3 : u_T := fun k => match k with
  | _ => ("", "", "", false)
def tyJ3 : Nat → FieldType := fun k => match k with
  | _ => .int
abbrev wsJ30 : List Cond := u_ws RJ3 TJ3 0
theorem nmJ3 : ∀ a, a < 0 → ∀ b, b < 0 → a ≠ b → (TJ3 a).2.1 ≠ (TJ3 b).2.1 := by decide +kernel
theorem tyJ3_ok : ∀ k, k < 0 → parseFieldDescriptor (TJ3 k).2.2.1 = some (tyJ3 k) := by decide +kernel
abbrev cJ3_checkIndex_8e157 : ByteArray := prog_25_method_11_code
def yJ3_checkIndex_8e157 : MethodName := ⟨RJ3, "checkIndex", "(IILjava/util/function/BiFunction;)I"⟩
def RL : String := "WordSolverLaw"
abbrev cL_variable : ByteArray := method_3_code
def yL_variable : MethodName := ⟨RL, "variable", "(LWordSolver;I[J)I"⟩
abbrev cL_constant : ByteArray := method_4_code
def yL_constant : MethodName := ⟨RL, "constant", "(LWordSolver;II[J)I"⟩
abbrev cL_binary : ByteArray := method_5_code
def yL_binary : MethodName := ⟨RL, "binary", "(LWordSolver;III[J)I"⟩
abbrev cL_unary : ByteArray := method_6_code
def yL_unary : MethodName := ⟨RL, "unary", "(LWordSolver;II[J)I"⟩
abbrev cL_slice : ByteArray := method_7_code
def yL_slice : MethodName := ⟨RL, "slice", "(LWordSolver;III[J)I"⟩
abbrev cL_extend : ByteArray := method_8_code
def yL_extend : MethodName := ⟨RL, "extend", "(LWordSolver;IIZ[J)I"⟩
abbrev cL_choice : ByteArray := method_9_code
def yL_choice : MethodName := ⟨RL, "choice", "(LWordSolver;III[J)I"⟩
abbrev cL_info : ByteArray := method_10_code
def yL_info : MethodName := ⟨RL, "info", "(LWordSolver;II[J)I"⟩
abbrev cL_input : ByteArray := method_11_code
def yL_input : MethodName := ⟨RL, "input", "(LWordSolver;II[J)I"⟩
abbrev cL_value : ByteArray := method_12_code
def yL_value : MethodName := ⟨RL, "value", "(LWordSolver;IZ[J)I"⟩
abbrev cL_require : ByteArray := method_13_code
def yL_require : MethodName := ⟨RL, "require", "(LWordSolver;I[J)I"⟩
abbrev cL_push : ByteArray := method_14_code
def yL_push : MethodName := ⟨RL, "push", "(LWordSolver;[J)I"⟩
abbrev cL_pop : ByteArray := method_15_code
def yL_pop : MethodName := ⟨RL, "pop", "(LWordSolver;[J)I"⟩
abbrev cL_constraint : ByteArray := method_16_code
def yL_constraint : MethodName := ⟨RL, "constraint", "(LWordSolver;IZ[J)I"⟩
abbrev cL_witness : ByteArray := method_17_code
def yL_witness : MethodName := ⟨RL, "witness", "(LWordSolver;I[J)I"⟩
abbrev cL_extreme : ByteArray := method_18_code
def yL_extreme : MethodName := ⟨RL, "extreme", "(LWordSolver;IZZ[J)I"⟩
abbrev cL_extremeWitness : ByteArray := method_19_code
def yL_extremeWitness : MethodName := ⟨RL, "extremeWitness", "(LWordSolver;IZI[J)I"⟩
abbrev cL_fixed : ByteArray := method_20_code
def yL_fixed : MethodName := ⟨RL, "fixed", "(LWordSolver;IZ[J)I"⟩
abbrev cL_models : ByteArray := method_21_code
def yL_models : MethodName := ⟨RL, "models", "(LWordSolver;I[J)I"⟩
abbrev cL_values : ByteArray := method_22_code
def yL_values : MethodName := ⟨RL, "values", "(LWordSolver;II[J)I"⟩
abbrev cL_valueAt : ByteArray := method_23_code
def yL_valueAt : MethodName := ⟨RL, "valueAt", "(LWordSolver;II[J)I"⟩
abbrev cL_equivalent : ByteArray := method_24_code
def yL_equivalent : MethodName := ⟨RL, "equivalent", "(LWordSolver;II[J)I"⟩
abbrev cL_counterexample : ByteArray := method_25_code
def yL_counterexample : MethodName := ⟨RL, "counterexample", "(LWordSolver;III[J)I"⟩
abbrev cL_wish : ByteArray := method_26_code
def yL_wish : MethodName := ⟨RL, "wish", "(LWordSolver;II[J)I"⟩
abbrev cL_bestWitness : ByteArray := method_27_code
def yL_bestWitness : MethodName := ⟨RL, "bestWitness", "(LWordSolver;I[J)I"⟩
abbrev cL_append : ByteArray := method_28_code
def yL_append : MethodName := ⟨RL, "append", "(LWordSolver;I[J)I"⟩
abbrev cL_read : ByteArray := method_29_code
def yL_read : MethodName := ⟨RL, "read", "(LWordSolver;[J)I"⟩
abbrev cL_write : ByteArray := method_30_code
def yL_write : MethodName := ⟨RL, "write", "(LWordSolver;I[J)I"⟩
abbrev cL_undo : ByteArray := method_31_code
def yL_undo : MethodName := ⟨RL, "undo", "(LWordSolver;[J)I"⟩
abbrev cL_law : ByteArray := code
def yL_law : MethodName := ⟨RL, "law", "([I)Z"⟩
abbrev vwCl : List vw_C := [(RX0, TX0, 5), (RX1, TX1, 2), (RX3, TX3, 3), (RX4, TX4, 13), (RX5, TX5, 10), (RX6, TX6, 9), (RX7, TX7, 2), (RX8, TX8, 3), (RX9, TX9, 8), (RX10, TX10, 27)]
end
section
def nth {α : Type} : List α → Nat → α → α
  | [], _, d => d
  | x :: _, 0, _ => x
  | _ :: l, n + 1, d => nth l n d
/-- objects by number: class and fields, or (20 int, 21 long, 22 boolean, 23 objects) and length -/
def oGK : List (Nat × Int) := [(8, 8), (0, 5), (20, 328), (20, 4), (20, 4), (5, 9), (20, 20), (20, 20), (20, 8), (20, 8), (20, 4), (1, 2), (23, 5), (5, 9), (20, 20), (20, 20), (20, 8), (20, 8), (20, 4), (5, 9), (20, 20), (20, 20), (20, 8), (20, 8), (20, 4), (5, 9), (20, 20), (20, 20), (20, 8), (20, 8), (20, 4), (5, 9), (20, 20), (20, 20), (20, 8), (20, 8), (20, 4), (5, 9), (20, 20), (20, 20), (20, 8), (20, 8), (20, 4), (2, 3), (21, 328), (21, 8), (4, 10), (21, 1024), (22, 256), (6, 2), (20, 120), (3, 13), (20, 120), (20, 120), (20, 120), (20, 120), (20, 120), (20, 120), (20, 120), (20, 120), (7, 3), (20, 40), (9, 27), (20, 349), (20, 1745), (20, 349), (20, 120), (20, 4), (20, 40), (20, 65536), (20, 256), (20, 180), (20, 60), (20, 60), (20, 60), (20, 700), (20, 140), (21, 1), (21, 20480)]
def tGK (a : Nat) : Nat × Int := nth oGK a (99, 0)
/-- what the final fields hold -/
def oGF : List (List (Option Nat)) := [[some 1, some 5, some 11, some 43, some 46, some 49, some 51, some 60], [some 2, some 3, some 4, none, none], [], [], [], [none, none, none, some 6, some 7, none, some 8, some 9, some 10], [], [], [], [], [], [some 12, none], [], [none, none, none, some 14, some 15, none, some 16, some 17, some 18], [], [], [], [], [], [none, none, none, some 20, some 21, none, some 22, some 23, some 24], [], [], [], [], [], [none, none, none, some 26, some 27, none, some 28, some 29, some 30], [], [], [], [], [], [none, none, none, some 32, some 33, none, some 34, some 35, some 36], [], [], [], [], [], [none, none, none, some 38, some 39, none, some 40, some 41, some 42], [], [], [], [], [], [some 1, some 44, some 45], [], [], [some 1, some 5, some 43, some 47, none, none, none, none, some 48, none], [], [], [some 50, none], [], [some 49, none, none, some 52, some 53, some 54, none, some 55, some 56, some 57, some 58, none, some 59], [], [], [], [], [], [], [], [], [some 1, some 49, some 61], [], [some 63, some 64, some 65, none, none, some 66, none, some 67, some 68, some 69, none, none, some 70, none, some 71, none, some 72, some 73, none, none, none, some 74, some 75, none, some 76, none, none], [], [], [], [], [], [], [], [], [], [], [], [], [], [], [], []]
def tGF (a k : Nat) : Option Nat := nth (nth oGF a []) k none
/-- kinds of fields: 0 int, 1 long, 2 reference, 3 boolean -/
def oFT : List (List Nat) := [[2, 2, 2, 0, 0], [2, 0], [2, 2, 2], [2, 0, 0, 2, 2, 2, 0, 2, 2, 2, 2, 0, 2], [2, 2, 2, 2, 3, 0, 0, 0, 2, 2], [0, 0, 0, 2, 2, 0, 2, 2, 2], [2, 0], [2, 2, 2], [2, 2, 2, 2, 2, 2, 2, 2], [2, 2, 2, 0, 0, 2, 0, 2, 2, 2, 3, 0, 2, 0, 2, 0, 2, 2, 0, 0, 0, 2, 2, 0, 2, 0, 1]]
def tFT (ci k : Nat) : Nat := nth (nth oFT ci []) k 9
def tLB (j : Nat) : Int64 := nth [-6148914691236517206, -3689348814741910324, -1085102592571150096, -71777214294589696, -281470681808896, -4294967296] j 0
def oNM : List String := [RX0, RX1, RX3, RX4, RX5, RX6, RX7, RX8, RX9, RX10, RX2, RL, RJ13, RJ9]
def tNM (own : Nat) : String := nth oNM own ""
def cN : Nat → vw_C := fun ci => nth vwCl ci (RX0, TX0, 0)
def oTY : List (Nat → FieldType) := [tyX0, tyX1, tyX3, tyX4, tyX5, tyX6, tyX7, tyX8, tyX9, tyX10]
def tTY (ci : Nat) : Nat → FieldType := nth oTY ci (fun _ => .int)
/-- a method: its name, bytes, locals, what it returns; its table; its kind (0 of an object, 1 static, 2 a constructor), the places of its words -/
abbrev MR : Type := MethodName × (ByteArray × (Nat × (Option FieldType × (List (Nat × Nat × Nat × Nat) × List Nat))))
def mr0 : MR := (yX0_init, (cX0_init, (1, (none, ([], [2, 150, 0, 116, 151, 0, 0, 0])))))
def mr1 : MR := (yX0_count, (cX0_count, (1, (some .int, ([], [0, 397, 398, 116, 399, 0, 0, 1])))))
def mr2 : MR := (yX0_variableCount, (cX0_variableCount, (1, (some .int, ([], [0, 405, 406, 116, 407, 0, 0, 1])))))
def mr3 : MR := (yX0_has, (cX0_has, (2, (some .boolean, ([], [0, 433, 434, 116, 435, 1, 0, 2])))))
def mr4 : MR := (yX0_hasVariable, (cX0_hasVariable, (2, (some .boolean, ([], [0, 481, 482, 116, 483, 1, 0, 2])))))
def mr5 : MR := (yX0_get, (cX0_get, (4, (some .int, ([], [0, 437, 438, 116, 439, 2, 0, 1])))))
def mr6 : MR := (yX0_width, (cX0_width, (2, (some .int, ([], [0, 648, 649, 116, 650, 1, 0, 1])))))
def mr7 : MR := (yX0_variableNode, (cX0_variableNode, (2, (some .int, ([], [0, 879, 880, 116, 881, 1, 0, 1])))))
def mr8 : MR := (yX0_variableWidth, (cX0_variableWidth, (2, (some .int, ([], [0, 875, 876, 116, 877, 1, 0, 1])))))
def mr9 : MR := (yX0_cutTo, (cX0_cutTo, (2, (none, ([], [0, 1359, 1360, 116, 1361, 1, 0, 0])))))
def mr10 : MR := (yX0_makeVariable, (cX0_makeVariable, (4, (some .int, ([], [0, 967, 968, 116, 969, 1, 0, 1])))))
def mr11 : MR := (yX0_makeConstant, (cX0_makeConstant, (3, (some .int, ([], [0, 1023, 1024, 116, 1025, 2, 0, 1])))))
def mr12 : MR := (yX0_makeBinary, (cX0_makeBinary, (5, (some .int, ([], [0, 1058, 1059, 116, 1060, 3, 0, 1])))))
def mr13 : MR := (yX0_makeUnary, (cX0_makeUnary, (3, (some .int, ([], [0, 1075, 1076, 116, 1077, 2, 0, 1])))))
def mr14 : MR := (yX0_makeSlice, (cX0_makeSlice, (4, (some .int, ([], [0, 1091, 1092, 116, 1093, 3, 0, 1])))))
def mr15 : MR := (yX0_makeExtended, (cX0_makeExtended, (4, (some .int, ([], [0, 1108, 1109, 116, 1110, 3, 0, 1])))))
def mr16 : MR := (yX0_makeChoice, (cX0_makeChoice, (4, (some .int, ([], [0, 1120, 1121, 116, 1122, 3, 0, 1])))))
def mr17 : MR := (yX0_canSlice, (cX0_canSlice, (4, (some .boolean, ([], [0, 1086, 1087, 116, 1088, 3, 0, 2])))))
def mr18 : MR := (yX0_canExtend, (cX0_canExtend, (3, (some .boolean, ([], [0, 1103, 1104, 116, 1105, 2, 0, 2])))))
def mr19 : MR := (yX0_binaryWidth, (cX0_binaryWidth, (4, (some .int, ([], [0, 1064, 57, 116, 1065, 3, 0, 1])))))
def mr20 : MR := (yX0_draft, (cX0_draft, (4, (none, ([], [0, 972, 51, 116, 973, 2, 0, 0])))))
def mr21 : MR := (yX0_put, (cX0_put, (3, (none, ([], [0, 976, 52, 116, 977, 2, 0, 0])))))
def mr22 : MR := (yX0_keepDraft, (cX0_keepDraft, (2, (some .int, ([], [0, 980, 53, 116, 981, 0, 0, 1])))))
def mr23 : MR := (yX0_isDrafted, (cX0_isDrafted, (3, (some .boolean, ([], [0, 984, 54, 116, 985, 1, 0, 2])))))
def mr24 : MR := (yX0_allNodes, (cX0_allNodes, (1, (some .long, ([], [0, 850, 851, 116, 852, 0, 0, 3])))))
def mr25 : MR := (yX0_cone, (cX0_cone, (5, (some .long, ([], [0, 429, 430, 116, 431, 1, 0, 3])))))
def mr26 : MR := (yX0_bitOf, (cX0_bitOf, (1, (some .long, ([], [1, 441, 0, 116, 442, 1, 0, 3])))))
def mr27 : MR := (yX0_variableBits, (cX0_variableBits, (1, (some .int, ([], [0, 448, 449, 116, 450, 0, 0, 1])))))
def mr28 : MR := (yX0_placeOf, (cX0_placeOf, (2, (some .int, ([], [0, 477, 478, 116, 479, 1, 0, 1])))))
def mr29 : MR := (yX0_blockCount, (cX0_blockCount, (1, (some .int, ([], [0, 453, 454, 116, 455, 0, 0, 1])))))
def mr30 : MR := (yX0_blockMask, (cX0_blockMask, (2, (some .long, ([], [0, 444, 445, 116, 446, 0, 0, 3])))))
def mr31 : MR := (yX0_assignment, (cX0_assignment, (4, (some .int, ([], [0, 845, 846, 116, 847, 1, 0, 1])))))
def mr32 : MR := (yX0_variableWord, (cX0_variableWord, (3, (some .int, ([], [0, 871, 872, 116, 873, 2, 0, 1])))))
def mr33 : MR := (yX1_init, (cX1_init, (2, (none, ([], [2, 224, 0, 118, 225, 0, 1, 0])))))
def mr34 : MR := (yX1_count, (cX1_count, (1, (some .int, ([], [0, 884, 885, 118, 886, 0, 1, 1])))))
def mr35 : MR := (yX1_save, (cX1_save, (3, (none, ([], [0, 621, 622, 118, 623, 2, 1, 0])))))
def mr36 : MR := (yX1_dropOldest, (cX1_dropOldest, (3, (none, ([], [0, 626, 30, 118, 627, 0, 1, 0])))))
def mr37 : MR := (yX1_restore, (cX1_restore, (2, (none, ([], [0, 1415, 1416, 118, 1417, 1, 1, 0])))))
def mr38 : MR := (yX2_operandCount, (cX2_operandCount, (1, (some .int, ([], [1, 800, 0, 134, 801, 1, 20, 1])))))
def mr39 : MR := (yX2_digitCount, (cX2_digitCount, (1, (some .int, ([], [1, 803, 0, 134, 804, 1, 20, 1])))))
def mr40 : MR := (yX2_wordLength, (cX2_wordLength, (2, (some .int, ([], [1, 1380, 0, 134, 1381, 1, 20, 1])))))
def mr41 : MR := (yX2_letter, (cX2_letter, (3, (some .int, ([], [1, 748, 0, 134, 749, 2, 20, 1])))))
def mr42 : MR := (yX2_kindOf, (cX2_kindOf, (4, (some .int, ([], [1, 741, 0, 134, 742, 3, 20, 1])))))
def mr43 : MR := (yX2_isWordOf, (cX2_isWordOf, (6, (some .boolean, ([], [1, 744, 0, 134, 745, 4, 20, 2])))))
def mr44 : MR := (yX3_init, (cX3_init, (2, (none, ([], [2, 240, 0, 119, 241, 1, 2, 0])))))
def mr45 : MR := (yX3_run, (cX3_run, (5, (none, ([], [0, 460, 461, 119, 462, 2, 2, 0])))))
def mr46 : MR := (yX3_wordAt, (cX3_wordAt, (6, (some .int, ([], [0, 862, 863, 119, 864, 2, 2, 1])))))
def mr47 : MR := (yX3_plane, (cX3_plane, (3, (some .long, ([], [0, 581, 582, 119, 583, 2, 2, 3])))))
def mr48 : MR := (yX3_goalPlane, (cX3_goalPlane, (2, (some .long, ([], [0, 681, 682, 119, 683, 1, 2, 3])))))
def mr49 : MR := (yX3_setGoalToNode, (cX3_setGoalToNode, (4, (none, ([], [0, 660, 661, 119, 662, 2, 2, 0])))))
def mr50 : MR := (yX3_setGoalToDifference, (cX3_setGoalToDifference, (3, (none, ([], [0, 665, 666, 119, 667, 2, 2, 0])))))
def mr51 : MR := (yX3_setGoalToGain, (cX3_setGoalToGain, (3, (none, ([], [0, 669, 670, 119, 671, 1, 2, 0])))))
def mr52 : MR := (yX3_addToGoal, (cX3_addToGoal, (11, (none, ([], [0, 674, 34, 119, 675, 2, 2, 0])))))
def mr53 : MR := (yX3_spread, (cX3_spread, (2, (some .long, ([], [1, 474, 0, 119, 475, 2, 2, 3])))))
def mr54 : MR := (yX3_runNode, (cX3_runNode, (8, (none, ([], [0, 466, 2, 119, 467, 2, 2, 0])))))
def mr55 : MR := (yX3_constantWord, (cX3_constantWord, (5, (none, ([], [0, 471, 3, 119, 472, 3, 2, 0])))))
def mr56 : MR := (yX3_variableWord, (cX3_variableWord, (7, (none, ([], [0, 486, 4, 119, 487, 4, 2, 0])))))
def mr57 : MR := (yX3_calculate, (cX3_calculate, (6, (none, ([], [0, 492, 5, 119, 493, 5, 2, 0])))))
def mr58 : MR := (yX3_add, (cX3_add, (12, (none, ([], [0, 496, 6, 119, 497, 4, 2, 0])))))
def mr59 : MR := (yX3_subtract, (cX3_subtract, (12, (none, ([], [0, 500, 7, 119, 501, 4, 2, 0])))))
def mr60 : MR := (yX3_multiply, (cX3_multiply, (15, (none, ([], [0, 505, 8, 119, 506, 4, 2, 0])))))
def mr61 : MR := (yX3_combine, (cX3_combine, (11, (none, ([], [0, 509, 9, 119, 510, 5, 2, 0])))))
def mr62 : MR := (yX3_shift, (cX3_shift, (9, (none, ([], [0, 513, 10, 119, 514, 5, 2, 0])))))
def mr63 : MR := (yX3_shiftLeft, (cX3_shiftLeft, (9, (none, ([], [0, 517, 11, 119, 518, 4, 2, 0])))))
def mr64 : MR := (yX3_shiftRight, (cX3_shiftRight, (11, (none, ([], [0, 521, 12, 119, 522, 5, 2, 0])))))
def mr65 : MR := (yX3_divide, (cX3_divide, (9, (none, ([], [0, 525, 13, 119, 526, 5, 2, 0])))))
def mr66 : MR := (yX3_borrowFromRest, (cX3_borrowFromRest, (11, (some .long, ([], [0, 529, 14, 119, 530, 3, 2, 3])))))
def mr67 : MR := (yX3_takeFromRest, (cX3_takeFromRest, (13, (none, ([], [0, 537, 16, 119, 538, 4, 2, 0])))))
def mr68 : MR := (yX3_anyBit, (cX3_anyBit, (7, (some .long, ([], [0, 533, 15, 119, 534, 3, 2, 3])))))
def mr69 : MR := (yX3_compare, (cX3_compare, (5, (some .long, ([], [0, 541, 17, 119, 542, 4, 2, 3])))))
def mr70 : MR := (yX3_differs, (cX3_differs, (7, (some .long, ([], [0, 545, 18, 119, 546, 3, 2, 3])))))
def mr71 : MR := (yX3_less, (cX3_less, (14, (some .long, ([], [0, 549, 19, 119, 550, 4, 2, 3])))))
def mr72 : MR := (yX3_choose, (cX3_choose, (9, (none, ([], [0, 553, 20, 119, 554, 5, 2, 0])))))
def mr73 : MR := (yX3_rearrange, (cX3_rearrange, (8, (none, ([], [0, 557, 21, 119, 558, 5, 2, 0])))))
def mr74 : MR := (yX3_move, (cX3_move, (5, (none, ([], [0, 561, 22, 119, 562, 3, 2, 0])))))
def mr75 : MR := (yX3_fillUp, (cX3_fillUp, (7, (none, ([], [0, 573, 25, 119, 574, 4, 2, 0])))))
def mr76 : MR := (yX3_invert, (cX3_invert, (5, (none, ([], [0, 565, 23, 119, 566, 3, 2, 0])))))
def mr77 : MR := (yX3_negate, (cX3_negate, (7, (none, ([], [0, 569, 24, 119, 570, 3, 2, 0])))))
def mr78 : MR := (yX4_init, (cX4_init, (2, (none, ([], [2, 308, 0, 122, 309, 1, 3, 0])))))
def mr79 : MR := (yX4_errorPosition, (cX4_errorPosition, (2, (some .int, ([], [0, 705, 706, 122, 707, 0, 3, 1])))))
def mr80 : MR := (yX4_isWhole, (cX4_isWhole, (1, (some .boolean, ([], [0, 719, 37, 122, 720, 0, 3, 2])))))
def mr81 : MR := (yX4_takeNext, (cX4_takeNext, (1, (none, ([], [0, 711, 36, 122, 712, 0, 3, 0])))))
def mr82 : MR := (yX4_wantsNode, (cX4_wantsNode, (1, (some .boolean, ([], [0, 723, 38, 122, 724, 0, 3, 2])))))
def mr83 : MR := (yX4_takeLeaf, (cX4_takeLeaf, (1, (none, ([], [0, 807, 42, 122, 808, 0, 3, 0])))))
def mr84 : MR := (yX4_takeConstant, (cX4_takeConstant, (3, (none, ([], [0, 819, 45, 122, 820, 0, 3, 0])))))
def mr85 : MR := (yX4_takeOpening, (cX4_takeOpening, (3, (none, ([], [0, 727, 39, 122, 728, 0, 3, 0])))))
def mr86 : MR := (yX4_takeWantedDigit, (cX4_takeWantedDigit, (2, (none, ([], [0, 823, 46, 122, 824, 0, 3, 0])))))
def mr87 : MR := (yX4_takeClosing, (cX4_takeClosing, (1, (none, ([], [0, 827, 47, 122, 828, 0, 3, 0])))))
def mr88 : MR := (yX4_takeDigit, (cX4_takeDigit, (2, (some .int, ([], [0, 811, 43, 122, 812, 0, 3, 1])))))
def mr89 : MR := (yX4_addStep, (cX4_addStep, (4, (none, ([], [0, 815, 44, 122, 816, 3, 3, 0])))))
def mr90 : MR := (yX4_skipSpaces, (cX4_skipSpaces, (1, (none, ([], [0, 731, 40, 122, 732, 0, 3, 0])))))
def mr91 : MR := (yX4_isDigit, (cX4_isDigit, (1, (some .boolean, ([], [1, 738, 0, 122, 739, 1, 3, 2])))))
def mr92 : MR := (yX4_isWordLetter, (cX4_isWordLetter, (3, (some .boolean, ([], [0, 735, 41, 122, 736, 1, 3, 2])))))
def mr93 : MR := (yX4_build, (cX4_build, (5, (some .int, ([], [0, 1344, 1345, 122, 1346, 1, 3, 1])))))
def mr94 : MR := (yX4_buildStep, (cX4_buildStep, (6, (some .int, ([], [0, 1349, 62, 122, 1350, 3, 3, 1])))))
def mr95 : MR := (yX5_init, (cX5_init, (4, (none, ([], [2, 257, 0, 120, 258, 3, 4, 0])))))
def mr96 : MR := (yX5_forget, (cX5_forget, (1, (none, ([], [0, 1007, 1008, 120, 1009, 0, 4, 0])))))
def mr97 : MR := (yX5_leastModel, (cX5_leastModel, (1, (some .int, ([], [0, 417, 418, 120, 419, 0, 4, 1])))))
def mr98 : MR := (yX5_findModels, (cX5_findModels, (7, (none, ([], [0, 422, 0, 120, 423, 0, 4, 0])))))
def mr99 : MR := (yX5_constraintCones, (cX5_constraintCones, (4, (some .long, ([], [0, 426, 1, 120, 427, 0, 4, 3])))))
def mr100 : MR := (yX5_allConstraints, (cX5_allConstraints, (4, (some .long, ([], [0, 577, 26, 120, 578, 0, 4, 3])))))
def mr101 : MR := (yX5_firstIn, (cX5_firstIn, (3, (some .int, ([], [1, 585, 0, 120, 586, 2, 4, 1])))))
def mr102 : MR := (yX5_countModels, (cX5_countModels, (3, (some .int, ([], [0, 1250, 1251, 120, 1252, 0, 4, 1])))))
def mr103 : MR := (yX5_best, (cX5_best, (1, (some .int, ([], [0, 685, 686, 120, 687, 0, 4, 1])))))
def mr104 : MR := (yX5_bestModel, (cX5_bestModel, (1, (some .int, ([], [0, 1220, 1221, 120, 1222, 0, 4, 1])))))
def mr105 : MR := (yX5_climb, (cX5_climb, (10, (none, ([], [0, 640, 641, 120, 642, 4, 4, 0])))))
def mr106 : MR := (yX5_goalWidth, (cX5_goalWidth, (3, (some .int, ([], [0, 645, 31, 120, 646, 2, 4, 1])))))
def mr107 : MR := (yX5_wishCones, (cX5_wishCones, (4, (some .long, ([], [0, 653, 32, 120, 654, 0, 4, 3])))))
def mr108 : MR := (yX5_setGoal, (cX5_setGoal, (5, (none, ([], [0, 657, 33, 120, 658, 4, 4, 0])))))
def mr109 : MR := (yX5_climbIn, (cX5_climbIn, (9, (none, ([], [0, 678, 35, 120, 679, 2, 4, 0])))))
def mr110 : MR := (yX5_fixedBits, (cX5_fixedBits, (9, (some .int, ([], [0, 1231, 1232, 120, 1233, 2, 4, 1])))))
def mr111 : MR := (yX5_bitsThatOccur, (cX5_bitsThatOccur, (9, (some .int, ([], [0, 1236, 59, 120, 1237, 4, 4, 1])))))
def mr112 : MR := (yX5_collectWords, (cX5_collectWords, (7, (some .int, ([], [0, 1264, 1265, 120, 1266, 1, 4, 1])))))
def mr113 : MR := (yX5_markWords, (cX5_markWords, (6, (some .int, ([], [0, 1269, 60, 120, 1270, 2, 4, 1])))))
def mr114 : MR := (yX5_collectedWord, (cX5_collectedWord, (4, (some .int, ([], [0, 1280, 1281, 120, 1282, 1, 4, 1])))))
def mr115 : MR := (yX5_minimalConflict, (cX5_minimalConflict, (5, (some .int, ([], [0, 598, 599, 120, 600, 0, 4, 1])))))
def mr116 : MR := (yX5_filledRows, (cX5_filledRows, (6, (some (.array .long), ([], [0, 603, 27, 120, 604, 0, 4, 4])))))
def mr117 : MR := (yX5_isConflict, (cX5_isConflict, (9, (some .boolean, ([], [0, 610, 28, 120, 611, 2, 4, 2])))))
def mr118 : MR := (yX6_init, (cX6_init, (1, (none, ([], [2, 173, 0, 117, 174, 0, 5, 0])))))
def mr119 : MR := (yX6_copyFrom, (cX6_copyFrom, (2, (none, ([], [0, 629, 630, 117, 631, 1, 5, 0])))))
def mr120 : MR := (yX6_addConstraint, (cX6_addConstraint, (2, (some .int, ([], [0, 1166, 1167, 117, 1168, 1, 5, 1])))))
def mr121 : MR := (yX6_dropLevel, (cX6_dropLevel, (2, (some .int, ([], [0, 1186, 1187, 117, 1188, 0, 5, 1])))))
def mr122 : MR := (yX6_addWish, (cX6_addWish, (3, (some .int, ([], [0, 1312, 1313, 117, 1314, 2, 5, 1])))))
def mr123 : MR := (yX7_init, (cX7_init, (1, (none, ([], [2, 295, 0, 121, 296, 0, 6, 0])))))
def mr124 : MR := (yX7_length, (cX7_length, (1, (some .int, ([], [0, 693, 694, 121, 695, 0, 6, 1])))))
def mr125 : MR := (yX7_at, (cX7_at, (2, (some .int, ([], [0, 714, 715, 121, 716, 1, 6, 1])))))
def mr126 : MR := (yX7_add, (cX7_add, (2, (none, ([], [0, 1332, 1333, 121, 1334, 1, 6, 0])))))
def mr127 : MR := (yX7_empty, (cX7_empty, (1, (none, ([], [0, 697, 698, 121, 699, 0, 6, 0])))))
def mr128 : MR := (yX8_init, (cX8_init, (3, (none, ([], [2, 354, 0, 123, 355, 2, 7, 0])))))
def mr129 : MR := (yX8_lengthOf, (cX8_lengthOf, (3, (some .int, ([], [0, 1371, 1372, 123, 1373, 1, 7, 1])))))
def mr130 : MR := (yX8_lengthByOperands, (cX8_lengthByOperands, (5, (some .int, ([], [0, 1376, 63, 123, 1377, 1, 7, 1])))))
def mr131 : MR := (yX8_describe, (cX8_describe, (5, (none, ([], [0, 1387, 1388, 123, 1389, 2, 7, 0])))))
def mr132 : MR := (yX8_addWord, (cX8_addWord, (3, (none, ([], [0, 1398, 65, 123, 1399, 1, 7, 0])))))
def mr133 : MR := (yX8_addDigits, (cX8_addDigits, (3, (none, ([], [0, 1404, 66, 123, 1405, 2, 7, 0])))))
def mr134 : MR := (yX8_addNumber, (cX8_addNumber, (2, (none, ([], [0, 1393, 64, 123, 1394, 1, 7, 0])))))
def mr135 : MR := (yX9_init, (cX9_init, (1, (none, ([], [2, 142, 0, 115, 143, 0, 8, 0])))))
def mr136 : MR := (yX9_variable, (cX9_variable, (4, (some .int, ([], [0, 893, 894, 115, 895, 1, 8, 1])))))
def mr137 : MR := (yX9_constant, (cX9_constant, (4, (some .int, ([], [0, 1014, 1015, 115, 1016, 2, 8, 1])))))
def mr138 : MR := (yX9_binary, (cX9_binary, (5, (some .int, ([], [0, 1032, 1033, 115, 1034, 3, 8, 1])))))
def mr139 : MR := (yX9_unary, (cX9_unary, (4, (some .int, ([], [0, 1070, 1071, 115, 1072, 2, 8, 1])))))
def mr140 : MR := (yX9_slice, (cX9_slice, (5, (some .int, ([], [0, 1082, 1083, 115, 1084, 3, 8, 1])))))
def mr141 : MR := (yX9_extend, (cX9_extend, (5, (some .int, ([], [0, 1099, 1100, 115, 1101, 3, 8, 1])))))
def mr142 : MR := (yX9_choice, (cX9_choice, (5, (some .int, ([], [0, 1116, 1117, 115, 1118, 3, 8, 1])))))
def mr143 : MR := (yX9_nodes, (cX9_nodes, (1, (some .int, ([], [0, 393, 394, 115, 395, 0, 8, 1])))))
def mr144 : MR := (yX9_variables, (cX9_variables, (1, (some .int, ([], [0, 401, 402, 115, 403, 0, 8, 1])))))
def mr145 : MR := (yX9_info, (cX9_info, (3, (some .int, ([], [0, 1127, 1128, 115, 1129, 2, 8, 1])))))
def mr146 : MR := (yX9_input, (cX9_input, (4, (some .int, ([], [0, 1135, 1136, 115, 1137, 2, 8, 1])))))
def mr147 : MR := (yX9_value, (cX9_value, (5, (some .int, ([], [0, 1150, 1151, 115, 1152, 2, 8, 1])))))
def mr148 : MR := (yX9_require, (cX9_require, (2, (some .int, ([], [0, 1160, 1161, 115, 1162, 1, 8, 1])))))
def mr149 : MR := (yX9_push, (cX9_push, (1, (some .int, ([], [0, 1173, 1174, 115, 1175, 0, 8, 1])))))
def mr150 : MR := (yX9_pop, (cX9_pop, (1, (some .int, ([], [0, 1181, 1182, 115, 1183, 0, 8, 1])))))
def mr151 : MR := (yX9_constraints, (cX9_constraints, (1, (some .int, ([], [0, 409, 410, 115, 411, 0, 8, 1])))))
def mr152 : MR := (yX9_constraint, (cX9_constraint, (3, (some .int, ([], [0, 1193, 1194, 115, 1195, 2, 8, 1])))))
def mr153 : MR := (yX9_satisfiable, (cX9_satisfiable, (1, (some .boolean, ([], [0, 413, 414, 115, 415, 0, 8, 2])))))
def mr154 : MR := (yX9_witness, (cX9_witness, (2, (some .int, ([], [0, 1201, 1202, 115, 1203, 1, 8, 1])))))
def mr155 : MR := (yX9_extreme, (cX9_extreme, (7, (some .int, ([], [0, 1208, 1209, 115, 1210, 3, 8, 1])))))
def mr156 : MR := (yX9_extremeWitness, (cX9_extremeWitness, (5, (some .int, ([], [0, 1216, 1217, 115, 1218, 3, 8, 1])))))
def mr157 : MR := (yX9_fixed, (cX9_fixed, (3, (some .int, ([], [0, 1227, 1228, 115, 1229, 2, 8, 1])))))
def mr158 : MR := (yX9_models, (cX9_models, (2, (some .int, ([], [0, 1242, 1243, 115, 1244, 1, 8, 1])))))
def mr159 : MR := (yX9_values, (cX9_values, (3, (some .int, ([], [0, 1260, 1261, 115, 1262, 2, 8, 1])))))
def mr160 : MR := (yX9_valueAt, (cX9_valueAt, (3, (some .int, ([], [0, 1276, 1277, 115, 1278, 2, 8, 1])))))
def mr161 : MR := (yX9_equivalent, (cX9_equivalent, (3, (some .boolean, ([], [0, 1287, 1288, 115, 1289, 2, 8, 2])))))
def mr162 : MR := (yX9_counterexample, (cX9_counterexample, (4, (some .int, ([], [0, 1299, 1300, 115, 1301, 3, 8, 1])))))
def mr163 : MR := (yX9_core, (cX9_core, (1, (some .int, ([], [0, 594, 595, 115, 596, 0, 8, 1])))))
def mr164 : MR := (yX9_wish, (cX9_wish, (3, (some .int, ([], [0, 1306, 1307, 115, 1308, 2, 8, 1])))))
def mr165 : MR := (yX9_clearWishes, (cX9_clearWishes, (2, (some .int, ([], [0, 613, 614, 115, 615, 0, 8, 1])))))
def mr166 : MR := (yX9_gain, (cX9_gain, (1, (some .int, ([], [0, 636, 637, 115, 638, 0, 8, 1])))))
def mr167 : MR := (yX9_bestWitness, (cX9_bestWitness, (2, (some .int, ([], [0, 1319, 1320, 115, 1321, 1, 8, 1])))))
def mr168 : MR := (yX9_append, (cX9_append, (2, (some .int, ([], [0, 1326, 1327, 115, 1328, 1, 8, 1])))))
def mr169 : MR := (yX9_clearText, (cX9_clearText, (2, (some .int, ([], [0, 689, 690, 115, 691, 0, 8, 1])))))
def mr170 : MR := (yX9_syntaxError, (cX9_syntaxError, (1, (some .int, ([], [0, 701, 702, 115, 703, 0, 8, 1])))))
def mr171 : MR := (yX9_read, (cX9_read, (3, (some .int, ([], [0, 1339, 1340, 115, 1341, 0, 8, 1])))))
def mr172 : MR := (yX9_write, (cX9_write, (2, (some .int, ([], [0, 1367, 1368, 115, 1369, 1, 8, 1])))))
def mr173 : MR := (yX9_character, (cX9_character, (2, (some .int, ([], [0, 831, 832, 115, 833, 1, 8, 1])))))
def mr174 : MR := (yX9_undo, (cX9_undo, (1, (some .int, ([], [0, 1410, 1411, 115, 1412, 0, 8, 1])))))
def mr175 : MR := (yX9_digest, (cX9_digest, (5, (some .long, ([], [0, 836, 837, 115, 838, 0, 8, 3])))))
def mr176 : MR := (yX9_hashNodes, (cX9_hashNodes, (8, (some .long, ([], [0, 842, 48, 115, 843, 1, 8, 3])))))
def mr177 : MR := (yX9_hashDemands, (cX9_hashDemands, (6, (some .long, ([], [0, 868, 49, 115, 869, 1, 8, 3])))))
def mr178 : MR := (yX9_mix, (cX9_mix, (4, (some .long, ([], [1, 855, 0, 115, 856, 2, 8, 3])))))
def mr179 : MR := (yX9_keepMade, (cX9_keepMade, (3, (some .int, ([], [0, 988, 55, 115, 989, 2, 8, 1])))))
def mr180 : MR := (yX9_remember, (cX9_remember, (1, (none, ([], [0, 618, 29, 115, 619, 0, 8, 0])))))
def mr181 : MR := (yX9_demandNode, (cX9_demandNode, (2, (none, ([], [0, 1038, 56, 115, 1039, 1, 8, 0])))))
def mr182 : MR := (yX9_demandVariable, (cX9_demandVariable, (2, (none, ([], [0, 1140, 58, 115, 1141, 1, 8, 0])))))
def mr183 : MR := (yX9_demandSameWidth, (cX9_demandSameWidth, (3, (none, ([], [0, 1292, 61, 115, 1293, 2, 8, 0])))))
def mr184 : MR := (yX9_demandLimit, (cX9_demandLimit, (1, (none, ([], [1, 1246, 0, 115, 1247, 1, 8, 0])))))
def mr185 : MR := (yX9_isWidth, (cX9_isWidth, (1, (some .boolean, ([], [1, 897, 0, 115, 898, 1, 8, 2])))))
def mr186 : MR := (yX9_isWord, (cX9_isWord, (2, (some .boolean, ([], [1, 1018, 0, 115, 1019, 2, 8, 2])))))
def mr187 : MR := (yX9_fullWord, (cX9_fullWord, (1, (some .int, ([], [1, 606, 0, 115, 607, 1, 8, 1])))))
def mr188 : MR := (yX9_signedWord, (cX9_signedWord, (2, (some .int, ([], [1, 1154, 0, 115, 1155, 2, 8, 1])))))
def mr189 : MR := (yX10_init, (cX10_init, (1, (none, ([], [2, 1421, 0, 124, 1422, 0, 9, 0])))))
def mr190 : MR := (yX10_thrown, (cX10_thrown, (1, (some .int, ([], [0, 1508, 1509, 124, 1510, 0, 9, 1])))))
def mr191 : MR := (yX10_refused, (cX10_refused, (2, (some .boolean, ([], [0, 1517, 67, 124, 1518, 1, 9, 2])))))
def mr192 : MR := (yX10_within, (cX10_within, (3, (some .boolean, ([], [1, 1524, 0, 124, 1525, 3, 9, 2])))))
def mr193 : MR := (yX10_need, (cX10_need, (2, (some .int, ([], [0, 1642, 84, 124, 1643, 1, 9, 1])))))
def mr194 : MR := (yX10_saves, (cX10_saves, (2, (none, ([], [0, 1540, 71, 124, 1541, 0, 9, 0])))))
def mr195 : MR := (yX10_undo, (cX10_undo, (2, (some .int, ([], [0, 1512, 1513, 124, 1514, 0, 9, 1])))))
def mr196 : MR := (yX10_of, (cX10_of, (3, (some .int, ([], [0, 1536, 70, 124, 1537, 2, 9, 1])))))
def mr197 : MR := (yX10_kind, (cX10_kind, (2, (some .int, ([], [0, 1548, 73, 124, 1549, 1, 9, 1])))))
def mr198 : MR := (yX10_width, (cX10_width, (2, (some .int, ([], [0, 1532, 69, 124, 1533, 1, 9, 1])))))
def mr199 : MR := (yX10_isNode, (cX10_isNode, (2, (some .boolean, ([], [0, 1570, 75, 124, 1571, 1, 9, 2])))))
def mr200 : MR := (yX10_isVariable, (cX10_isVariable, (2, (some .boolean, ([], [0, 1634, 83, 124, 1635, 1, 9, 2])))))
def mr201 : MR := (yX10_mask, (cX10_mask, (1, (some .int, ([], [1, 1558, 0, 124, 1559, 1, 9, 1])))))
def mr202 : MR := (yX10_makes, (cX10_makes, (9, (some .int, ([], [0, 1544, 72, 124, 1545, 7, 9, 1])))))
def mr203 : MR := (yX10_madeBy, (cX10_madeBy, (11, (some .int, ([], [0, 1562, 74, 124, 1563, 8, 9, 1])))))
def mr204 : MR := (yX10_bitsOfAll, (cX10_bitsOfAll, (3, (some .int, ([], [0, 1528, 68, 124, 1529, 0, 9, 1])))))
def mr205 : MR := (yX10_variable, (cX10_variable, (4, (some .int, ([], [0, 1520, 1521, 124, 1522, 1, 9, 1])))))
def mr206 : MR := (yX10_isWord, (cX10_isWord, (2, (some .boolean, ([], [1, 1555, 0, 124, 1556, 2, 9, 2])))))
def mr207 : MR := (yX10_constant, (cX10_constant, (3, (some .int, ([], [0, 1551, 1552, 124, 1553, 2, 9, 1])))))
def mr208 : MR := (yX10_fits, (cX10_fits, (4, (some .boolean, ([], [0, 1574, 76, 124, 1575, 3, 9, 2])))))
def mr209 : MR := (yX10_widthBy, (cX10_widthBy, (4, (some .int, ([], [0, 1578, 77, 124, 1579, 3, 9, 1])))))
def mr210 : MR := (yX10_binary, (cX10_binary, (6, (some .int, ([], [0, 1565, 1566, 124, 1567, 3, 9, 1])))))
def mr211 : MR := (yX10_unary, (cX10_unary, (3, (some .int, ([], [0, 1581, 1582, 124, 1583, 2, 9, 1])))))
def mr212 : MR := (yX10_isSlice, (cX10_isSlice, (4, (some .boolean, ([], [0, 1590, 78, 124, 1591, 3, 9, 2])))))
def mr213 : MR := (yX10_slice, (cX10_slice, (4, (some .int, ([], [0, 1585, 1586, 124, 1587, 3, 9, 1])))))
def mr214 : MR := (yX10_isExtended, (cX10_isExtended, (3, (some .boolean, ([], [0, 1598, 79, 124, 1599, 2, 9, 2])))))
def mr215 : MR := (yX10_extend, (cX10_extend, (4, (some .int, ([], [0, 1593, 1594, 124, 1595, 3, 9, 1])))))
def mr216 : MR := (yX10_isChoice, (cX10_isChoice, (4, (some .boolean, ([], [0, 1606, 80, 124, 1607, 3, 9, 2])))))
def mr217 : MR := (yX10_choice, (cX10_choice, (5, (some .int, ([], [0, 1601, 1602, 124, 1603, 3, 9, 1])))))
def mr218 : MR := (yX10_nodes, (cX10_nodes, (1, (some .int, ([], [0, 1609, 1610, 124, 1611, 0, 9, 1])))))
def mr219 : MR := (yX10_variables, (cX10_variables, (1, (some .int, ([], [0, 1613, 1614, 124, 1615, 0, 9, 1])))))
def mr220 : MR := (yX10_parts, (cX10_parts, (7, (some .int, ([], [0, 1626, 82, 124, 1627, 1, 9, 1])))))
def mr221 : MR := (yX10_told, (cX10_told, (3, (some .int, ([], [0, 1622, 81, 124, 1623, 2, 9, 1])))))
def mr222 : MR := (yX10_info, (cX10_info, (3, (some .int, ([], [0, 1617, 1618, 124, 1619, 2, 9, 1])))))
def mr223 : MR := (yX10_input, (cX10_input, (5, (some .int, ([], [0, 1629, 1630, 124, 1631, 2, 9, 1])))))
def mr224 : MR := (yX10_signed, (cX10_signed, (2, (some .int, ([], [1, 1660, 0, 124, 1661, 2, 9, 1])))))
def mr225 : MR := (yX10_shifted, (cX10_shifted, (4, (some .int, ([], [1, 1657, 0, 124, 1658, 4, 9, 1])))))
def mr226 : MR := (yX10_compares, (cX10_compares, (6, (some .boolean, ([], [1, 1663, 0, 124, 1664, 4, 9, 2])))))
def mr227 : MR := (yX10_valueOf, (cX10_valueOf, (7, (some .int, ([], [0, 1654, 87, 124, 1655, 1, 9, 1])))))
def mr228 : MR := (yX10_laysValues, (cX10_laysValues, (2, (none, ([], [0, 1650, 86, 124, 1651, 0, 9, 0])))))
def mr229 : MR := (yX10_laysInputs, (cX10_laysInputs, (2, (none, ([], [0, 1646, 85, 124, 1647, 0, 9, 0])))))
def mr230 : MR := (yX10_laysAssignment, (cX10_laysAssignment, (5, (none, ([], [0, 1699, 90, 124, 1700, 1, 9, 0])))))
def mr231 : MR := (yX10_value, (cX10_value, (3, (some .int, ([], [0, 1637, 1638, 124, 1639, 2, 9, 1])))))
def mr232 : MR := (yX10_require, (cX10_require, (4, (some .int, ([], [0, 1666, 1667, 124, 1668, 1, 9, 1])))))
def mr233 : MR := (yX10_push, (cX10_push, (1, (some .int, ([], [0, 1670, 1671, 124, 1672, 0, 9, 1])))))
def mr234 : MR := (yX10_pop, (cX10_pop, (2, (some .int, ([], [0, 1674, 1675, 124, 1676, 0, 9, 1])))))
def mr235 : MR := (yX10_constraints, (cX10_constraints, (1, (some .int, ([], [0, 1678, 1679, 124, 1680, 0, 9, 1])))))
def mr236 : MR := (yX10_constraint, (cX10_constraint, (3, (some .int, ([], [0, 1682, 1683, 124, 1684, 2, 9, 1])))))
def mr237 : MR := (yX10_lays, (cX10_lays, (4, (none, ([], [0, 1695, 89, 124, 1696, 0, 9, 0])))))
def mr238 : MR := (yX10_model, (cX10_model, (4, (some .int, ([], [0, 1691, 88, 124, 1692, 1, 9, 1])))))
def mr239 : MR := (yX10_wordOf, (cX10_wordOf, (3, (some .int, ([], [0, 1707, 91, 124, 1708, 2, 9, 1])))))
def mr240 : MR := (yX10_satisfiable, (cX10_satisfiable, (1, (some .boolean, ([], [0, 1686, 1687, 124, 1688, 0, 9, 2])))))
def mr241 : MR := (yX10_witness, (cX10_witness, (2, (some .int, ([], [0, 1702, 1703, 124, 1704, 1, 9, 1])))))
def mr242 : MR := (yX10_extremeModel, (cX10_extremeModel, (8, (some .int, ([], [0, 1715, 92, 124, 1716, 3, 9, 1])))))
def mr243 : MR := (yX10_extreme, (cX10_extreme, (4, (some .int, ([], [0, 1710, 1711, 124, 1712, 3, 9, 1])))))
def mr244 : MR := (yX10_extremeWitness, (cX10_extremeWitness, (4, (some .int, ([], [0, 1718, 1719, 124, 1720, 3, 9, 1])))))
def mr245 : MR := (yX10_fixed, (cX10_fixed, (6, (some .int, ([], [0, 1722, 1723, 124, 1724, 2, 9, 1])))))
def mr246 : MR := (yX10_models, (cX10_models, (4, (some .int, ([], [0, 1726, 1727, 124, 1728, 1, 9, 1])))))
def mr247 : MR := (yX10_laysMet, (cX10_laysMet, (3, (none, ([], [0, 1735, 93, 124, 1736, 1, 9, 0])))))
def mr248 : MR := (yX10_values, (cX10_values, (5, (some .int, ([], [0, 1730, 1731, 124, 1732, 2, 9, 1])))))
def mr249 : MR := (yX10_valueAt, (cX10_valueAt, (5, (some .int, ([], [0, 1738, 1739, 124, 1740, 2, 9, 1])))))
def mr250 : MR := (yX10_differing, (cX10_differing, (4, (some .int, ([], [0, 1747, 94, 124, 1748, 2, 9, 1])))))
def mr251 : MR := (yX10_equivalent, (cX10_equivalent, (4, (some .boolean, ([], [0, 1742, 1743, 124, 1744, 2, 9, 2])))))
def mr252 : MR := (yX10_counterexample, (cX10_counterexample, (5, (some .int, ([], [0, 1750, 1751, 124, 1752, 3, 9, 1])))))
def mr253 : MR := (yX10_isConflict, (cX10_isConflict, (4, (some .boolean, ([], [0, 1759, 95, 124, 1760, 1, 9, 2])))))
def mr254 : MR := (yX10_core, (cX10_core, (3, (some .int, ([], [0, 1754, 1755, 124, 1756, 0, 9, 1])))))
def mr255 : MR := (yX10_wish, (cX10_wish, (4, (some .int, ([], [0, 1762, 1763, 124, 1764, 2, 9, 1])))))
def mr256 : MR := (yX10_clearWishes, (cX10_clearWishes, (2, (some .int, ([], [0, 1766, 1767, 124, 1768, 0, 9, 1])))))
def mr257 : MR := (yX10_best, (cX10_best, (5, (some .int, ([], [0, 1775, 96, 124, 1776, 0, 9, 1])))))
def mr258 : MR := (yX10_gain, (cX10_gain, (1, (some .int, ([], [0, 1770, 1771, 124, 1772, 0, 9, 1])))))
def mr259 : MR := (yX10_bestWitness, (cX10_bestWitness, (2, (some .int, ([], [0, 1778, 1779, 124, 1780, 1, 9, 1])))))
def mr260 : MR := (yX10_append, (cX10_append, (2, (some .int, ([], [0, 1782, 1783, 124, 1784, 1, 9, 1])))))
def mr261 : MR := (yX10_clearText, (cX10_clearText, (2, (some .int, ([], [0, 1786, 1787, 124, 1788, 0, 9, 1])))))
def mr262 : MR := (yX10_character, (cX10_character, (2, (some .int, ([], [0, 1790, 1791, 124, 1792, 1, 9, 1])))))
def mr263 : MR := (yX10_word, (cX10_word, (1, (some .long, ([], [1, 1838, 0, 124, 1839, 1, 9, 3])))))
def mr264 : MR := (yX10_operands, (cX10_operands, (1, (some .int, ([], [1, 1868, 0, 124, 1869, 1, 9, 1])))))
def mr265 : MR := (yX10_digits, (cX10_digits, (1, (some .int, ([], [1, 1871, 0, 124, 1872, 1, 9, 1])))))
def mr266 : MR := (yX10_letter, (cX10_letter, (2, (some .int, ([], [0, 1811, 100, 124, 1812, 1, 9, 1])))))
def mr267 : MR := (yX10_isDigit, (cX10_isDigit, (1, (some .boolean, ([], [1, 1814, 0, 124, 1815, 1, 9, 2])))))
def mr268 : MR := (yX10_skipped, (cX10_skipped, (1, (some .int, ([], [0, 1807, 99, 124, 1808, 0, 9, 1])))))
def mr269 : MR := (yX10_gives, (cX10_gives, (4, (none, ([], [0, 1822, 102, 124, 1823, 3, 9, 0])))))
def mr270 : MR := (yX10_takesDigit, (cX10_takesDigit, (1, (some .boolean, ([], [0, 1818, 101, 124, 1819, 0, 9, 2])))))
def mr271 : MR := (yX10_takes, (cX10_takes, (3, (some .boolean, ([], [0, 1830, 104, 124, 1831, 1, 9, 2])))))
def mr272 : MR := (yX10_takesConstant, (cX10_takesConstant, (4, (some .boolean, ([], [0, 1826, 103, 124, 1827, 0, 9, 2])))))
def mr273 : MR := (yX10_takesWord, (cX10_takesWord, (5, (some .boolean, ([], [0, 1834, 105, 124, 1835, 0, 9, 2])))))
def mr274 : MR := (yX10_takesNode, (cX10_takesNode, (3, (some .boolean, ([], [0, 1803, 98, 124, 1804, 0, 9, 2])))))
def mr275 : MR := (yX10_takesEnds, (cX10_takesEnds, (5, (some .boolean, ([], [0, 1865, 106, 124, 1866, 0, 9, 2])))))
def mr276 : MR := (yX10_reads, (cX10_reads, (4, (some .int, ([], [0, 1799, 97, 124, 1800, 0, 9, 1])))))
def mr277 : MR := (yX10_syntaxError, (cX10_syntaxError, (1, (some .int, ([], [0, 1794, 1795, 124, 1796, 0, 9, 1])))))
def mr278 : MR := (yX10_makesAll, (cX10_makesAll, (7, (some .int, ([], [0, 1879, 107, 124, 1880, 0, 9, 1])))))
def mr279 : MR := (yX10_makesKind, (cX10_makesKind, (8, (some .int, ([], [0, 1883, 108, 124, 1884, 4, 9, 1])))))
def mr280 : MR := (yX10_read, (cX10_read, (3, (some .int, ([], [0, 1874, 1875, 124, 1876, 0, 9, 1])))))
def mr281 : MR := (yX10_puts, (cX10_puts, (2, (none, ([], [0, 1895, 110, 124, 1896, 1, 9, 0])))))
def mr282 : MR := (yX10_later, (cX10_later, (2, (none, ([], [0, 1891, 109, 124, 1892, 1, 9, 0])))))
def mr283 : MR := (yX10_putsNumber, (cX10_putsNumber, (2, (none, ([], [0, 1903, 112, 124, 1904, 1, 9, 0])))))
def mr284 : MR := (yX10_begins, (cX10_begins, (5, (none, ([], [0, 1899, 111, 124, 1900, 1, 9, 0])))))
def mr285 : MR := (yX10_write, (cX10_write, (4, (some .int, ([], [0, 1886, 1887, 124, 1888, 1, 9, 1])))))
def mr286 : MR := (yX10_mix, (cX10_mix, (2, (none, ([], [0, 1913, 113, 124, 1914, 1, 9, 0])))))
def mr287 : MR := (yX10_digest, (cX10_digest, (3, (some .long, ([], [0, 1907, 1908, 124, 1909, 0, 9, 3])))))
def mr288 : MR := (yJ13_bitCount_95d88, (cJ13_bitCount_95d88, (2, (some .int, ([], [1, 588, 0, 132, 589, 1, 20, 1])))))
def mr289 : MR := (yJ9_max_7cf53, (cJ9_max_7cf53, (2, (some .int, ([], [1, 457, 0, 133, 458, 2, 20, 1])))))
def mr290 : MR := (yJ9_min_7cf53, (cJ9_min_7cf53, (2, (some .int, ([], [1, 1254, 0, 133, 1255, 2, 20, 1])))))
def mr302 : MR := (yL_variable, (cL_variable, (4, (some .int, ([(0, 9, 12, 13), (0, 9, 15, 15)], [1, 888, 0, 114, 889, 3, 20, 1])))))
def mr303 : MR := (yL_constant, (cL_constant, (5, (some .int, ([(0, 10, 13, 13), (0, 10, 17, 15)], [1, 1011, 0, 114, 1012, 4, 20, 1])))))
def mr304 : MR := (yL_binary, (cL_binary, (6, (some .int, ([(0, 12, 15, 13), (0, 12, 19, 25), (0, 12, 23, 15)], [1, 1028, 0, 114, 1029, 5, 20, 1])))))
def mr305 : MR := (yL_unary, (cL_unary, (5, (some .int, ([(0, 10, 13, 13), (0, 10, 17, 25), (0, 10, 21, 15)], [1, 1067, 0, 114, 1068, 4, 20, 1])))))
def mr306 : MR := (yL_slice, (cL_slice, (6, (some .int, ([(0, 12, 15, 25), (0, 12, 19, 13), (0, 12, 23, 15)], [1, 1079, 0, 114, 1080, 5, 20, 1])))))
def mr307 : MR := (yL_extend, (cL_extend, (6, (some .int, ([(0, 12, 15, 25), (0, 12, 19, 13), (0, 12, 23, 15)], [1, 1096, 0, 114, 1097, 5, 20, 1])))))
def mr308 : MR := (yL_choice, (cL_choice, (6, (some .int, ([(0, 12, 15, 25), (0, 12, 19, 15)], [1, 1113, 0, 114, 1114, 5, 20, 1])))))
def mr309 : MR := (yL_info, (cL_info, (5, (some .int, ([(0, 10, 13, 25), (0, 10, 17, 13)], [1, 1124, 0, 114, 1125, 4, 20, 1])))))
def mr310 : MR := (yL_input, (cL_input, (5, (some .int, ([(0, 10, 13, 25), (0, 10, 17, 13)], [1, 1132, 0, 114, 1133, 4, 20, 1])))))
def mr311 : MR := (yL_value, (cL_value, (5, (some .int, ([(0, 10, 13, 25)], [1, 1147, 0, 114, 1148, 4, 20, 1])))))
def mr312 : MR := (yL_require, (cL_require, (4, (some .int, ([(0, 9, 12, 25), (0, 9, 15, 13), (0, 9, 18, 15)], [1, 1157, 0, 114, 1158, 3, 20, 1])))))
def mr313 : MR := (yL_push, (cL_push, (3, (some .int, ([(0, 8, 11, 15)], [1, 1170, 0, 114, 1171, 2, 20, 1])))))
def mr314 : MR := (yL_pop, (cL_pop, (3, (some .int, ([(0, 8, 11, 15)], [1, 1178, 0, 114, 1179, 2, 20, 1])))))
def mr315 : MR := (yL_constraint, (cL_constraint, (5, (some .int, ([(0, 10, 13, 25)], [1, 1190, 0, 114, 1191, 4, 20, 1])))))
def mr316 : MR := (yL_witness, (cL_witness, (4, (some .int, ([(0, 9, 12, 25)], [1, 1198, 0, 114, 1199, 3, 20, 1])))))
def mr317 : MR := (yL_extreme, (cL_extreme, (6, (some .int, ([(0, 12, 15, 25), (0, 12, 19, 15)], [1, 1205, 0, 114, 1206, 5, 20, 1])))))
def mr318 : MR := (yL_extremeWitness, (cL_extremeWitness, (6, (some .int, ([(0, 12, 15, 25)], [1, 1213, 0, 114, 1214, 5, 20, 1])))))
def mr319 : MR := (yL_fixed, (cL_fixed, (5, (some .int, ([(0, 10, 13, 25)], [1, 1224, 0, 114, 1225, 4, 20, 1])))))
def mr320 : MR := (yL_models, (cL_models, (4, (some .int, ([(0, 9, 12, 13)], [1, 1239, 0, 114, 1240, 3, 20, 1])))))
def mr321 : MR := (yL_values, (cL_values, (5, (some .int, ([(0, 10, 13, 25), (0, 10, 17, 13)], [1, 1257, 0, 114, 1258, 4, 20, 1])))))
def mr322 : MR := (yL_valueAt, (cL_valueAt, (5, (some .int, ([(0, 10, 13, 25)], [1, 1273, 0, 114, 1274, 4, 20, 1])))))
def mr323 : MR := (yL_equivalent, (cL_equivalent, (5, (some .int, ([(0, 17, 20, 25), (0, 17, 24, 13)], [1, 1284, 0, 114, 1285, 4, 20, 1])))))
def mr324 : MR := (yL_counterexample, (cL_counterexample, (6, (some .int, ([(0, 12, 15, 25), (0, 12, 19, 13)], [1, 1296, 0, 114, 1297, 5, 20, 1])))))
def mr325 : MR := (yL_wish, (cL_wish, (5, (some .int, ([(0, 10, 13, 25), (0, 10, 17, 13), (0, 10, 21, 15)], [1, 1303, 0, 114, 1304, 4, 20, 1])))))
def mr326 : MR := (yL_bestWitness, (cL_bestWitness, (4, (some .int, ([(0, 9, 12, 25)], [1, 1316, 0, 114, 1317, 3, 20, 1])))))
def mr327 : MR := (yL_append, (cL_append, (4, (some .int, ([(0, 9, 12, 13), (0, 9, 15, 15)], [1, 1323, 0, 114, 1324, 3, 20, 1])))))
def mr328 : MR := (yL_read, (cL_read, (3, (some .int, ([(0, 8, 11, 13), (0, 8, 14, 15)], [1, 1336, 0, 114, 1337, 2, 20, 1])))))
def mr329 : MR := (yL_write, (cL_write, (4, (some .int, ([(0, 9, 12, 25), (0, 9, 15, 15)], [1, 1364, 0, 114, 1365, 3, 20, 1])))))
def mr330 : MR := (yL_undo, (cL_undo, (3, (some .int, ([(0, 8, 11, 15)], [1, 1407, 0, 114, 1408, 2, 20, 1])))))
def oMR : List MR := [mr0, mr1, mr2, mr3, mr4, mr5, mr6, mr7, mr8, mr9, mr10, mr11, mr12, mr13, mr14, mr15, mr16, mr17, mr18, mr19, mr20, mr21, mr22, mr23, mr24, mr25, mr26, mr27, mr28, mr29, mr30, mr31, mr32, mr33, mr34, mr35, mr36, mr37, mr38, mr39, mr40, mr41, mr42, mr43, mr44, mr45, mr46, mr47, mr48, mr49, mr50, mr51, mr52, mr53, mr54, mr55, mr56, mr57, mr58, mr59, mr60, mr61, mr62, mr63, mr64, mr65, mr66, mr67, mr68, mr69, mr70, mr71, mr72, mr73, mr74, mr75, mr76, mr77, mr78, mr79, mr80, mr81, mr82, mr83, mr84, mr85, mr86, mr87, mr88, mr89, mr90, mr91, mr92, mr93, mr94, mr95, mr96, mr97, mr98, mr99, mr100, mr101, mr102, mr103, mr104, mr105, mr106, mr107, mr108, mr109, mr110, mr111, mr112, mr113, mr114, mr115, mr116, mr117, mr118, mr119, mr120, mr121, mr122, mr123, mr124, mr125, mr126, mr127, mr128, mr129, mr130, mr131, mr132, mr133, mr134, mr135, mr136, mr137, mr138, mr139, mr140, mr141, mr142, mr143, mr144, mr145, mr146, mr147, mr148, mr149, mr150, mr151, mr152, mr153, mr154, mr155, mr156, mr157, mr158, mr159, mr160, mr161, mr162, mr163, mr164, mr165, mr166, mr167, mr168, mr169, mr170, mr171, mr172, mr173, mr174, mr175, mr176, mr177, mr178, mr179, mr180, mr181, mr182, mr183, mr184, mr185, mr186, mr187, mr188, mr189, mr190, mr191, mr192, mr193, mr194, mr195, mr196, mr197, mr198, mr199, mr200, mr201, mr202, mr203, mr204, mr205, mr206, mr207, mr208, mr209, mr210, mr211, mr212, mr213, mr214, mr215, mr216, mr217, mr218, mr219, mr220, mr221, mr222, mr223, mr224, mr225, mr226, mr227, mr228, mr229, mr230, mr231, mr232, mr233, mr234, mr235, mr236, mr237, mr238, mr239, mr240, mr241, mr242, mr243, mr244, mr245, mr246, mr247, mr248, mr249, mr250, mr251, mr252, mr253, mr254, mr255, mr256, mr257, mr258, mr259, mr260, mr261, mr262, mr263, mr264, mr265, mr266, mr267, mr268, mr269, mr270, mr271, mr272, mr273, mr274, mr275, mr276, mr277, mr278, mr279, mr280, mr281, mr282, mr283, mr284, mr285, mr286, mr287, mr288, mr289, mr290, mr0, mr0, mr0, mr0, mr0, mr0, mr0, mr0, mr0, mr0, mr0, mr302, mr303, mr304, mr305, mr306, mr307, mr308, mr309, mr310, mr311, mr312, mr313, mr314, mr315, mr316, mr317, mr318, mr319, mr320, mr321, mr322, mr323, mr324, mr325, mr326, mr327, mr328, mr329, mr330, mr0]
def tMR (n : Nat) : MR := nth oMR n mr0
def tEX (E : Nat) : String := nth ["java/lang/IllegalArgumentException", "java/lang/IllegalStateException", "java/lang/IndexOutOfBoundsException"] E ""
/-- the texts of exceptions, by their places in the pool of WordSolver -/
def tSTR : List (Nat × String) := [(79, "no such width"), (355, "the node cannot be made"), (110, "no such width or value"), (115, "no kind with two operands"), (364, "no such node"), (125, "neither 19 nor 20"), (134, "no such bits"), (142, "no greater width"), (150, "nothing is known by that number"), (369, "no such variable"), (171, "no word of the variable's width"), (190, "a constraint has the width 1"), (198, "too many constraints"), (207, "too many levels"), (209, "level 0 stays"), (216, "no such constraint"), (241, "no model"), (373, "no such limit"), (371, "the widths are different"), (274, "a wish has the width 1 and a weight from 1 to 9"), (279, "too many wishes"), (284, "no such character in a text"), (289, "the text is full"), (300, "the text describes no node"), (312, "the description is too long"), (321, "no state is saved")]
def wordsT : String := "add  sub  mul  and  or   xor  shl  shr  sar  div  rem  eq   lt   le   slt  sle  cat  not  neg  slicezext sext ite  "
def wordsB : List Int32 := [97, 100, 100, 32, 32, 115, 117, 98, 32, 32, 109, 117, 108, 32, 32, 97, 110, 100, 32, 32, 111, 114, 32, 32, 32, 120, 111, 114, 32, 32, 115, 104, 108, 32, 32, 115, 104, 114, 32, 32, 115, 97, 114, 32, 32, 100, 105, 118, 32, 32, 114, 101, 109, 32, 32, 101, 113, 32, 32, 32, 108, 116, 32, 32, 32, 108, 101, 32, 32, 32, 115, 108, 116, 32, 32, 115, 108, 101, 32, 32, 99, 97, 116, 32, 32, 110, 111, 116, 32, 32, 110, 101, 103, 32, 32, 115, 108, 105, 99, 101, 122, 101, 120, 116, 32, 115, 101, 120, 116, 32, 105, 116, 101, 32, 32]
/-- the constructors of exceptions in the pool of WordSolver -/
def tIC (E : Nat) : Nat := nth [81, 200, 218] E 0
end
section
/-! ===== an abstract machine over numbered objects: values, heap, instructions (a condition for each of them), one method's code ===== -/
abbrev AV : Type := Int ⊕ (Int64 ⊕ Option Nat)
/-- the locals, by their places -/
abbrev LSt : Type := List (Option AV)
abbrev Hp : Type := Nat × ((Nat → Int → Int) × ((Nat → Int → Int64) × (Nat → Int → Option Nat)))
def hN (h : Hp) : Nat := h.1
def hI (h : Hp) : Nat → Int → Int := h.2.1
def hJ (h : Hp) : Nat → Int → Int64 := h.2.2.1
def hR (h : Hp) : Nat → Int → Option Nat := h.2.2.2
def up {α : Type} (f : Int → α) (k : Int) (x : α) : Int → α := fun j => if j = k then x else f j
/-- a row anew -/
def rI (h : Hp) (a : Nat) (f : Int → Int) : Hp := (h.1, (fun b => if b = a then f else h.2.1 b), h.2.2)
def rJ (h : Hp) (a : Nat) (f : Int → Int64) : Hp := (h.1, h.2.1, (fun b => if b = a then f else h.2.2.1 b), h.2.2.2)
def rR (h : Hp) (a : Nat) (f : Int → Option Nat) : Hp := (h.1, h.2.1, h.2.2.1, fun b => if b = a then f else h.2.2.2 b)
/-- a new object or array, all zero -/
def hnew (h : Hp) : Hp := (h.1 + 1, (fun a => if a = h.1 then (fun _ => 0) else h.2.1 a), (fun a => if a = h.1 then (fun _ => 0) else h.2.2.1 a), fun a => if a = h.1 then (fun _ => none) else h.2.2.2 a)
/-- n ints of the row b from q on come into the row a from d on -/
def cpyI (h : Hp) (b : Nat) (q : Int) (a : Nat) (d n : Int) : Hp := rI h a (fun k => if d ≤ k ∧ k < d + n then hI h b (q + (k - d)) else hI h a k)
abbrev Rng (x : Int) : Prop := -2147483648 ≤ x ∧ x < 2147483648
abbrev iw (x : Int) : Int32 := Int32.ofInt x
def bAnd (x y : Int) : Int := (iw x &&& iw y).toInt
def bOr (x y : Int) : Int := (iw x ||| iw y).toInt
def bXor (x y : Int) : Int := (iw x ^^^ iw y).toInt
def sShl (x y : Int) : Int := (iw x <<< (iw y &&& 31)).toInt
def sShr (x y : Int) : Int := (iw x >>> (iw y &&& 31)).toInt
def lShl (x : Int64) (y : Int) : Int64 := x <<< ((iw y).toInt64 &&& 63)
def lShr (x : Int64) (y : Int) : Int64 := x >>> ((iw y).toInt64 &&& 63)
def lUshr (x : Int64) (y : Int) : Int64 := (x.toUInt64 >>> ((iw y).toInt64.toUInt64 &&& Int64.toUInt64 63)).toInt64
def i2L (x : Int) : Int64 := (iw x).toInt64
def l2I (x : Int64) : Int := x.toInt32.toInt
def cmpL (x y : Int64) : Int := if x > y then 1 else if x = y then 0 else -1
def cat1 : AV → Bool
  | .inr (.inl _) => false
  | _ => true
def catS : List AV → Nat
  | [] => 0
  | v :: l => (if cat1 v then 1 else 2) + catS l
def isJ : Option AV → Bool
  | some (.inr (.inl _)) => true
  | _ => false
/-- what a place of the locals holds -/
def lget : LSt → Nat → Option AV
  | [], _ => none
  | a :: _, 0 => a
  | _ :: l, n + 1 => lget l n
def lkill : LSt → LSt
  | [] => []
  | _ :: l => none :: l
def lset1 : LSt → Nat → AV → LSt
  | [], _, _ => []
  | _ :: l, 0, v => some v :: l
  | a :: l, n + 1, v => cond (Nat.beq n 0 && isJ a) none a :: lset1 l n v
def lset2 : LSt → Nat → AV → LSt
  | [], _, _ => []
  | _ :: l, 0, v => some v :: lkill l
  | a :: l, n + 1, v => cond (Nat.beq n 0 && isJ a) none a :: lset2 l n v
/-- the locals as a call begins: the arguments, then nothing -/
def lent : List AV → LSt
  | [] => []
  | v :: l => some v :: cond (cat1 v) (lent l) (none :: lent l)
def lpad : LSt → Nat → LSt
  | [], n => List.replicate n none
  | a :: l, n => a :: lpad l (n - 1)
/-- where an exception is caught: what is no object of ours is not held on to -/
def lnear : Option AV → Option AV
  | some (.inr (.inr (some a))) => cond (Nat.blt a 79) (some (.inr (.inr (some a)))) none
  | x => x
def ldrop : LSt → LSt
  | [] => []
  | x :: l => lnear x :: ldrop l
/-- the values of the places that live -/
def lsel (ls : LSt) : List Nat → Option (List AV)
  | [] => some []
  | i :: is => match lget ls i with
    | some v => (match lsel ls is with
      | some l => some (v :: l)
      | none => none)
    | none => none
/-- locals that hold these values at these places alone -/
def lmk (i : Nat) : Nat → List Nat → List AV → LSt
  | 0, _, _ => []
  | n + 1, j :: js, v :: vs => cond (Nat.beq i j) (some v :: lmk (i + 1) n js vs) (none :: lmk (i + 1) n (j :: js) (v :: vs))
  | n + 1, _, _ => none :: lmk (i + 1) n [] []
def look {α : Type} : List (Nat × α) → Nat → Option α
  | [], _ => none
  | q :: l, i => cond (Nat.beq q.1 i) (some q.2) (look l i)
/-- a row of code: the place of the next one, and what is known of it: the places that it may jump to, the field, the method .. -/
abbrev Row : Type := Instr × (Nat × (Int × List Nat))
/-- the code from a place on -/
def seek : List (Nat × Row) → Nat → List (Nat × Row)
  | [], _ => []
  | q :: l, i => cond (Nat.beq q.1 i) (q :: l) (seek l i)
abbrev AK : Type := Nat → LSt → List AV → Hp → Nat → Nat → Prop
abbrev Spec : Type := List AV → Hp → (Option AV → Hp → Prop) → (Nat → Hp → Prop) → Prop
/-- what a caller knows of a callee: cells and slots that it may make, how high it stands; what it asks and gives -/
abbrev CS : Type := (List AV → Hp → Nat × (Nat × Nat)) × Spec
def noS : CS := (fun _ _ => (0, (0, 0)), fun _ _ _ _ => False)
def takeA : Nat → List AV → List AV → Option (List AV × List AV)
  | 0, acc, st => some (acc, st)
  | n + 1, acc, v :: st => takeA n (v :: acc) st
  | _ + 1, _, [] => none
def putR (r : Option AV) (st : List AV) : List AV := match r with
  | none => st
  | some v => v :: st
def ob (b : Bool) (P : Prop) : Prop := cond b P False
def hfind (hd : List (Nat × (Nat × (Nat × Nat)))) (pc E : Nat) : Option Nat := match hd with
  | [] => none
  | q :: l => cond (Nat.ble q.1 pc && (Nat.blt pc q.2.1 && Nat.beq q.2.2.1 E)) (some q.2.2.2) (hfind l pc E)
def swt (x lo : Int) (g : Nat → Prop) : List Nat → Prop
  | [] => True
  | t :: l => (x = lo → g t) ∧ swt x (lo + 1) g l
section Stp
variable (fx : Bool) (rk MC MS HT : Nat) (S : Nat → CS) (hd : List (Nat × (Nat × (Nat × Nat)))) (Rt : Option AV → Hp → Prop) (X : Nat → Hp → Prop) (SL : Option Int) (SX : Int → Int) (k : AK)
def ldI (ls : LSt) (n : Nat) (g : AV → Prop) : Prop := match lget ls n with
  | some (.inl x) => g (.inl x)
  | _ => False
def ldL (ls : LSt) (n : Nat) (g : AV → Prop) : Prop := match lget ls n with
  | some (.inr (.inl x)) => g (.inr (.inl x))
  | _ => False
def ldA (ls : LSt) (n : Nat) (g : AV → Prop) : Prop := match lget ls n with
  | some (.inr (.inr x)) => g (.inr (.inr x))
  | _ => False
def two (st : List AV) (g : Int → Int → List AV → Prop) : Prop := match st with
  | .inl y :: .inl x :: r => g x y r
  | _ => False
def twoL (st : List AV) (g : Int64 → Int64 → List AV → Prop) : Prop := match st with
  | .inr (.inl y) :: .inr (.inl x) :: r => g x y r
  | _ => False
def shf (st : List AV) (g : Int64 → Int → List AV → Prop) : Prop := match st with
  | .inl y :: .inr (.inl x) :: r => g x y r
  | _ => False
def oneI (st : List AV) (g : Int → List AV → Prop) : Prop := match st with
  | .inl x :: r => g x r
  | _ => False
def oneL (st : List AV) (g : Int64 → List AV → Prop) : Prop := match st with
  | .inr (.inl x) :: r => g x r
  | _ => False
def oneA (st : List AV) (g : Nat → List AV → Prop) : Prop := match st with
  | .inr (.inr (some a)) :: r => g a r
  | _ => False
def oneR (st : List AV) (g : Option Nat → List AV → Prop) : Prop := match st with
  | .inr (.inr a) :: r => g a r
  | _ => False
def ixA (st : List AV) (g : Int → Nat → List AV → Prop) : Prop := match st with
  | .inl j :: .inr (.inr (some a)) :: r => g j a r
  | _ => False
def br (c : ClassFile.Cond) (x y : Int) (A B : Prop) : Prop := match c with
  | .eq => (x = y → A) ∧ (x ≠ y → B)
  | .ne => (x ≠ y → A) ∧ (x = y → B)
  | .lt => (x < y → A) ∧ (y ≤ x → B)
  | .ge => (y ≤ x → A) ∧ (x < y → B)
  | .gt => (y < x → A) ∧ (x ≤ y → B)
  | .le => (x ≤ y → A) ∧ (y < x → B)
def tg0 (tg : List Nat) : Nat := match tg with
  | t :: _ => t
  | [] => 0
def tg1 (tg : List Nat) : Nat := match tg with
  | _ :: t :: _ => t
  | _ => 0
/-- constants, locals, the stack, jumps -/
def stpA (i : Instr) (nx : Nat) (ax : Int) (tg : List Nat) (ls : LSt) (st : List AV) (h : Hp) (c s : Nat) (other : Prop) : Prop := match i with
  | .iconst n => k nx ls (.inl n :: st) h c s
  | .bipush n => k nx ls (.inl n :: st) h c s
  | .sipush n => k nx ls (.inl n :: st) h c s
  | .lconst n => cond (Nat.beq n 0) (k nx ls (.inr (.inl 0) :: st) h c s) (k nx ls (.inr (.inl 1) :: st) h c s)
  | .ldc _ => k nx ls (.inl ax :: st) h c s
  | .ldc_w _ => k nx ls (.inl ax :: st) h c s
  | .ldc2_w _ => k nx ls (.inr (.inl (Int64.ofNat (tg0 tg))) :: st) h c s
  | .iload_n n => ldI ls n (fun v => k nx ls (v :: st) h c s)
  | .iload n => ldI ls n (fun v => k nx ls (v :: st) h c s)
  | .lload_n n => ldL ls n (fun v => k nx ls (v :: st) h c s)
  | .lload n => ldL ls n (fun v => k nx ls (v :: st) h c s)
  | .aload_n n => ldA ls n (fun v => k nx ls (v :: st) h c s)
  | .aload n => ldA ls n (fun v => k nx ls (v :: st) h c s)
  | .istore_n n => oneI st (fun x r => k nx (lset1 ls n (.inl x)) r h c s)
  | .istore n => oneI st (fun x r => k nx (lset1 ls n (.inl x)) r h c s)
  | .lstore_n n => oneL st (fun x r => k nx (lset2 ls n (.inr (.inl x))) r h c s)
  | .lstore n => oneL st (fun x r => k nx (lset2 ls n (.inr (.inl x))) r h c s)
  | .astore_n n => oneR st (fun x r => k nx (lset1 ls n (.inr (.inr x))) r h c s)
  | .astore n => oneR st (fun x r => k nx (lset1 ls n (.inr (.inr x))) r h c s)
  | .iinc n d => (match lget ls n with
    | some (.inl x) => Rng (x + d) ∧ k nx (lset1 ls n (.inl (x + d))) st h c s
    | _ => False)
  | .dup => (match st with
    | v :: r => ob (cat1 v) (k nx ls (v :: v :: r) h c s)
    | _ => False)
  | .dup2 => (match st with
    | .inl x :: w :: r => ob (cat1 w) (k nx ls (.inl x :: w :: .inl x :: w :: r) h c s)
    | _ => False)
  | .pop => (match st with
    | v :: r => ob (cat1 v) (k nx ls r h c s)
    | _ => False)
  | .goto _ => k (tg0 tg) ls st h c s
  | .ifCond q _ => oneI st (fun x r => br q x 0 (k (tg0 tg) ls r h c s) (k nx ls r h c s))
  | .if_icmp q _ => two st (fun x y r => br q x y (k (tg0 tg) ls r h c s) (k nx ls r h c s))
  | .ifnonnull _ => (match st with
    | .inr (.inr v) :: r => (v ≠ none → k (tg0 tg) ls r h c s) ∧ (v = none → k nx ls r h c s)
    | _ => False)
  | .tableswitch _ lo hi _ => oneI st (fun x r => (match tg with
    | d :: l => (x < lo ∨ hi < x → k d ls r h c s) ∧ swt x lo (fun t => k t ls r h c s) l
    | [] => False))
  | _ => other
/-- arithmetic -/
def stpB (i : Instr) (nx : Nat) (ls : LSt) (st : List AV) (h : Hp) (c s : Nat) (other : Prop) : Prop := match i with
  | .iadd => two st (fun x y r => Rng (x + y) ∧ k nx ls (.inl (x + y) :: r) h c s)
  | .isub => two st (fun x y r => Rng (x - y) ∧ k nx ls (.inl (x - y) :: r) h c s)
  | .imul => two st (fun x y r => Rng (x * y) ∧ k nx ls (.inl (x * y) :: r) h c s)
  | .idiv => two st (fun x y r => (0 ≤ x ∧ 0 < y) ∧ k nx ls (.inl (x / y) :: r) h c s)
  | .irem => two st (fun x y r => (0 ≤ x ∧ 0 < y) ∧ k nx ls (.inl (x % y) :: r) h c s)
  | .iand => two st (fun x y r => k nx ls (.inl (bAnd x y) :: r) h c s)
  | .ior => two st (fun x y r => k nx ls (.inl (bOr x y) :: r) h c s)
  | .ixor => two st (fun x y r => k nx ls (.inl (bXor x y) :: r) h c s)
  | .ishl => two st (fun x y r => k nx ls (.inl (sShl x y) :: r) h c s)
  | .ishr => two st (fun x y r => k nx ls (.inl (sShr x y) :: r) h c s)
  | .ineg => oneI st (fun x r => Rng (-x) ∧ k nx ls (.inl (-x) :: r) h c s)
  | .i2l => oneI st (fun x r => k nx ls (.inr (.inl (i2L x)) :: r) h c s)
  | .l2i => oneL st (fun x r => k nx ls (.inl (l2I x) :: r) h c s)
  | .ladd => twoL st (fun x y r => k nx ls (.inr (.inl (x + y)) :: r) h c s)
  | .lsub => twoL st (fun x y r => k nx ls (.inr (.inl (x - y)) :: r) h c s)
  | .lmul => twoL st (fun x y r => k nx ls (.inr (.inl (x * y)) :: r) h c s)
  | .land => twoL st (fun x y r => k nx ls (.inr (.inl (x &&& y)) :: r) h c s)
  | .lor => twoL st (fun x y r => k nx ls (.inr (.inl (x ||| y)) :: r) h c s)
  | .lxor => twoL st (fun x y r => k nx ls (.inr (.inl (x ^^^ y)) :: r) h c s)
  | .lcmp => twoL st (fun x y r => k nx ls (.inl (cmpL x y) :: r) h c s)
  | .lneg => oneL st (fun x r => k nx ls (.inr (.inl (-x)) :: r) h c s)
  | .lshl => shf st (fun x y r => k nx ls (.inr (.inl (lShl x y)) :: r) h c s)
  | .lshr => shf st (fun x y r => k nx ls (.inr (.inl (lShr x y)) :: r) h c s)
  | .lushr => shf st (fun x y r => k nx ls (.inr (.inl (lUshr x y)) :: r) h c s)
  | _ => other
abbrev inR (i n : Int) : Prop := 0 ≤ i ∧ i < n
def gk (a : Nat) (g : Nat → Int → Prop) : Prop := match tGK a with
  | (kd, len) => g kd len
/-- fields -/
def stpF (i : Instr) (nx : Nat) (ax : Int) (tg : List Nat) (ls : LSt) (st : List AV) (h : Hp) (c s : Nat) (other : Prop) : Prop := match i with
  | .getfield _ => (match tg with
    | ci :: f :: ty :: _ => oneA st (fun a r => ob (Nat.beq (tGK a).1 ci) (match ty with
      | 1 => k nx ls (.inr (.inl (hJ h a ax)) :: r) h c s
      | 2 => (match fx, tGF a f with
        | true, some b => k nx ls (.inr (.inr (some b)) :: r) h c s
        | _, _ => k nx ls (.inr (.inr (hR h a ax)) :: r) h c s)
      | _ => k nx ls (.inl (hI h a ax) :: r) h c s))
    | _ => False)
  | .putfield _ => (match tg with
    | ci :: f :: ty :: _ => (match st with
      | .inl x :: .inr (.inr (some a)) :: r => ob (Nat.beq (tGK a).1 ci) (match ty with
        | 0 => k nx ls r (rI h a (up (hI h a) ax x)) c s
        | 3 => (x = 0 ∨ x = 1) ∧ k nx ls r (rI h a (up (hI h a) ax x)) c s
        | _ => False)
      | .inr (.inl x) :: .inr (.inr (some a)) :: r => ob (Nat.beq (tGK a).1 ci && Nat.beq ty 1) (k nx ls r (rJ h a (up (hJ h a) ax x)) c s)
      | .inr (.inr (some b)) :: .inr (.inr (some a)) :: r => ob (Nat.beq (tGK a).1 ci && (Nat.beq ty 2 && (Nat.blt b 1000 && cond fx ((tGF a f).isNone) true))) (k nx ls r (rR h a (up (hR h a) ax (some b))) c s)
      | _ => False)
    | _ => False)
  | .getstatic _ => k nx ls (.inr (.inr (some 1001)) :: st) h c s
  | _ => other
/-- arrays -/
def stpC (i : Instr) (nx : Nat) (ls : LSt) (st : List AV) (h : Hp) (c s : Nat) (other : Prop) : Prop := match i with
  | .iaload => ixA st (fun j a r => cond (Nat.beq a 1000) (match SL with
    | some n => inR j n ∧ k nx ls (.inl (SX j) :: r) h c s
    | none => False) (gk a (fun kd len => ob (Nat.beq kd 20) (inR j len ∧ k nx ls (.inl (hI h a j) :: r) h c s))))
  | .laload => ixA st (fun j a r => cond (Nat.beq a 1001) (inR j 6 ∧ k nx ls (.inr (.inl (tLB j.toNat)) :: r) h c s) (gk a (fun kd len => ob (Nat.beq kd 21) (inR j len ∧ k nx ls (.inr (.inl (hJ h a j)) :: r) h c s))))
  | .baload => ixA st (fun j a r => gk a (fun kd len => ob (Nat.beq kd 22) (inR j len ∧ k nx ls (.inl (hI h a j) :: r) h c s)))
  | .aaload => ixA st (fun j a r => gk a (fun kd len => ob (Nat.beq kd 23) (inR j len ∧ k nx ls (.inr (.inr (hR h a j)) :: r) h c s)))
  | .iastore => oneI st (fun x q => ixA q (fun j a r => gk a (fun kd len => ob (Nat.beq kd 20) (inR j len ∧ k nx ls r (rI h a (up (hI h a) j x)) c s))))
  | .lastore => oneL st (fun x q => ixA q (fun j a r => gk a (fun kd len => ob (Nat.beq kd 21) (inR j len ∧ k nx ls r (rJ h a (up (hJ h a) j x)) c s))))
  | .bastore => oneI st (fun x q => ixA q (fun j a r => gk a (fun kd len => ob (Nat.beq kd 22) (inR j len ∧ (x = 0 ∨ x = 1) ∧ k nx ls r (rI h a (up (hI h a) j x)) c s))))
  | .aastore => oneA st (fun b q => ixA q (fun j a r => gk a (fun kd len => ob (Nat.beq kd 23 && Nat.beq (tGK b).1 5) (inR j len ∧ k nx ls r (rR h a (up (hR h a) j (some b))) c s))))
  | .arraylength => oneA st (fun a r => cond (Nat.beq a 1000) (match SL with
    | some n => k nx ls (.inl n :: r) h c s
    | none => False) (gk a (fun kd len => ob (Nat.ble 20 kd && Nat.ble kd 23) (k nx ls (.inl len :: r) h c s))))
  | .newarray t => oneI st (fun n r => ob (Nat.blt c MC && (Nat.ble (s + (tGK (hN h)).2.toNat) MS && (match t with
    | .int => Nat.beq (tGK (hN h)).1 20
    | .long => Nat.beq (tGK (hN h)).1 21
    | .boolean => Nat.beq (tGK (hN h)).1 22
    | _ => false))) (n = (tGK (hN h)).2 ∧ k nx ls (.inr (.inr (some (hN h))) :: r) (hnew h) (c + 1) (s + (tGK (hN h)).2.toNat)))
  | .anewarray _ => oneI st (fun n r => ob (Nat.blt c MC && (Nat.ble (s + (tGK (hN h)).2.toNat) MS && Nat.beq (tGK (hN h)).1 23)) (n = (tGK (hN h)).2 ∧ k nx ls (.inr (.inr (some (hN h))) :: r) (hnew h) (c + 1) (s + (tGK (hN h)).2.toNat)))
  | _ => other
/-- a call of the method n: its words -/
def doC (pc nx : Nat) (ls : LSt) (h : Hp) (c s : Nat) (n : Nat) (as rest : List AV) : Prop :=
  ob (Nat.ble (catS rest) 8 && (Nat.ble (c + ((S n).1 as h).1) MC && (Nat.ble (s + ((S n).1 as h).2.1) MS && Nat.blt ((S n).1 as h).2.2 HT))) ((S n).2 as h (fun r h1 => k nx ls (putR r rest) h1 (c + ((S n).1 as h).1) (s + ((S n).1 as h).2.1))
    (fun E h1 => match hfind hd pc E with
      | some t => k t (ldrop ls) [.inr (.inr (some 1003))] h1 (c + ((S n).1 as h).1) (s + ((S n).1 as h).2.1)
      | none => ob hd.isEmpty (X E h1)))
/-- calls, ends, what is made and thrown -/
def stpD (pc : Nat) (i : Instr) (nx : Nat) (tg : List Nat) (ls : LSt) (st : List AV) (h : Hp) (c s : Nat) (other : Prop) : Prop := match i with
  | .invokevirtual _ => (match tg with
    | _ :: n :: np :: rc :: _ => (match takeA np [] st with
      | some (as, .inr (.inr (some a)) :: rest) => ob (Nat.beq (tGK a).1 rc) (doC MC MS HT S hd X k pc nx ls h c s n (.inr (.inr (some a)) :: as) rest)
      | _ => False)
    | _ => False)
  | .invokestatic _ => (match tg with
    | _ :: n :: np :: _ => (match takeA np [] st with
      | some (as, rest) => doC MC MS HT S hd X k pc nx ls h c s n as rest
      | _ => False)
    | [q, _] => two st (fun x y r => ob (Nat.ble (catS r) 8 && (Nat.ble c MC && Nat.ble s MS)) (cond (Nat.beq q 0) ((x < y → k nx ls (.inl y :: r) h c s) ∧ (y ≤ x → k nx ls (.inl x :: r) h c s)) ((y < x → k nx ls (.inl y :: r) h c s) ∧ (x ≤ y → k nx ls (.inl x :: r) h c s))))
    | [_] => (match st with
      | .inl n :: .inl d :: .inr (.inr (some a)) :: .inl q :: .inr (.inr (some b)) :: r => gk a (fun kd len => gk b (fun kd2 len2 => ob (Nat.beq kd 20 && (Nat.beq kd2 20 && Nat.ble (catS r) 8)) ((0 ≤ n ∧ 0 ≤ d ∧ 0 ≤ q ∧ q + n ≤ len2 ∧ d + n ≤ len) ∧ k nx ls r (cpyI h b q a d n) c s)))
      | _ => False)
    | _ => False)
  | .invokespecial _ => (match tg with
    | _ :: n :: np :: rc :: _ => (match takeA np [] st with
      | some (as, .inr (.inr (some a)) :: rest) => ob (Nat.beq (tGK a).1 rc) (doC MC MS HT S hd X k pc nx ls h c s n (.inr (.inr (some a)) :: as) rest)
      | _ => False)
    | [_] => oneA st (fun _ r => ob (Nat.ble (catS r) 8) (k nx ls r h c s))
    | _ => False)
  | .new _ => (match tg with
    | [q, _] => ob (Nat.blt c MC && (Nat.ble (s + (cN q).2.2) MS && (!fx && Nat.beq (tGK (hN h)).1 q))) (k nx ls (.inr (.inr (some (hN h))) :: st) (hnew h) (c + 1) (s + (cN q).2.2))
    | _ => other)
  | _ => other
/-- ends, what is thrown -/
def stpE (i : Instr) (tg : List Nat) (st : List AV) (h : Hp) (c s : Nat) : Prop := match i with
  | .new _ => (match tg with
    | E :: _ :: _ :: _ => ob (hd.isEmpty && (Nat.blt c MC && (Nat.ble (s + 6) MS && Nat.ble (catS st) 8))) (X E h)
    | _ => False)
  | .ireturn => (match st with
    | [.inl x] => ob (Nat.ble c MC && Nat.ble s MS) (match rk with
      | 1 => Rt (some (.inl x)) h
      | 2 => (x = 0 ∨ x = 1) ∧ Rt (some (.inl x)) h
      | _ => False)
    | _ => False)
  | .lreturn => (match st with
    | [.inr (.inl x)] => ob (Nat.beq rk 3 && (Nat.ble c MC && Nat.ble s MS)) (Rt (some (.inr (.inl x))) h)
    | _ => False)
  | .areturn => (match st with
    | [.inr (.inr (some x))] => ob (Nat.blt x 79 && (Nat.beq rk 4 && (Nat.ble c MC && Nat.ble s MS))) (Rt (some (.inr (.inr (some x)))) h)
    | _ => False)
  | .return_ => (match st with
    | [] => ob (Nat.beq rk 0 && (Nat.ble c MC && Nat.ble s MS)) (Rt none h)
    | _ => False)
  | _ => False
def stp (pc : Nat) (i : Instr) (nx : Nat) (ax : Int) (tg : List Nat) (ls : LSt) (st : List AV) (h : Hp) (c s : Nat) : Prop :=
  stpA k i nx ax tg ls st h c s (stpB k i nx ls st h c s (stpF fx k i nx ax tg ls st h c s (stpC MC MS SL SX k i nx ls st h c s (stpD fx MC MS HT S hd X k pc i nx tg ls st h c s (stpE rk MC MS hd Rt X i tg st h c s)))))
end Stp
abbrev AKK : Type := Nat → List AV → Hp → Nat → Nat → Prop
/-- at a cut: the values that live, nothing on the stack -/
def atcut (K : AKK) (live : List Nat) (pc : Nat) (ls : LSt) (st : List AV) (h : Hp) (c s : Nat) : Prop := match st, lsel ls live with
  | [], some vs => K pc vs h c s
  | _, _ => False
/-- from the place pc on, till the places of cut, where K must hold: the condition that all goes well -/
def aw (fx : Bool) (rk MC MS HT : Nat) (S : Nat → CS) (hd : List (Nat × (Nat × (Nat × Nat)))) (Rt : Option AV → Hp → Prop) (X : Nat → Hp → Prop) (SL : Option Int) (SX : Int → Int) (code : List (Nat × Row)) (cut : List (Nat × List Nat)) (K : AKK) : Nat → List (Nat × Row) → AK
  | 0, _, _, _, _, _, _, _ => False
  | n + 1, cur, pc, ls, st, h, c, s => match seek cur pc with
    | (_, (i, (nx, (ax, tg)))) :: tl => stp fx rk MC MS HT S hd Rt X SL SX (fun pc1 ls1 st1 h1 c1 s1 => match look cut pc1 with
      | some live => atcut K live pc1 ls1 st1 h1 c1 s1
      | none => aw fx rk MC MS HT S hd Rt X SL SX code cut K n tl pc1 ls1 st1 h1 c1 s1) pc i nx ax tg ls st h c s
    | [] => match seek code pc with
      | (_, (i, (nx, (ax, tg)))) :: tl => stp fx rk MC MS HT S hd Rt X SL SX (fun pc1 ls1 st1 h1 c1 s1 => match look cut pc1 with
        | some live => atcut K live pc1 ls1 st1 h1 c1 s1
        | none => aw fx rk MC MS HT S hd Rt X SL SX code cut K n tl pc1 ls1 st1 h1 c1 s1) pc i nx ax tg ls st h c s
      | [] => False
end
section
/-! ===== the abstract machine is right: values, the heap's picture, a state's picture ===== -/
def cv (ad : Nat → Nat) : AV → Value
  | .inl x => .int (iw x)
  | .inr (.inl y) => .long y
  | .inr (.inr r) => va_rf (r.map ad)
theorem cv_cat1 (ad : Nat → Nat) (v : AV) (h : cat1 v = true) : (cv ad v).category = 1 := by
  rcases v with x | x | (_ | a) <;> first | rfl | (simp [cat1] at h)
theorem cv_cat2 (ad : Nat → Nat) (v : AV) : ((cv ad v).category == 2) = isJ (some v) := by
  rcases v with x | x | (_ | a) <;> rfl
theorem cv_sum (ad : Nat → Nat) (st : List AV) : ((st.map (cv ad)).map fun v => v.category).sum = catS st := by
  induction st with
  | nil => rfl
  | cons v l ih =>
    simp only [List.map_cons, List.sum_cons, catS]
    rw [ih]
    rcases v with x | x | (_ | a) <;> rfl
def fv (ad : Nat → Nat) (h : Hp) (ci a k : Nat) : Value := match tFT ci k with
  | 1 => .long (hJ h a k)
  | 2 => va_rf ((hR h a k).map ad)
  | _ => .int (iw (hI h a k))
def ent (ad : Nat → Nat) (ca : Nat → ClassId) (h : Hp) (a : Nat) : va_E := match (tGK a).1 with
  | 20 => .inl (ca 0, (tGK a).2.toNat, .inl (fun j => iw (hI h a j)))
  | 21 => .inl (ca 1, (tGK a).2.toNat, .inr (.inl (fun j => hJ h a j)))
  | 22 => .inl (ca 2, (tGK a).2.toNat, .inl (fun j => iw (hI h a j)))
  | 23 => .inl (ca 3, (tGK a).2.toNat, .inr (.inr (.inr (.inr (fun j => (hR h a j).map ad)))))
  | ci => .inr (ci, (List.range (cN ci).2.2).map (fv ad h ci a))
def wo (ad : Nat → Nat) (ca : Nat → ClassId) (h : Hp) : va_W := (List.range (hN h)).map fun a => (ad a, ent ad ca h a)
def vok (N : Nat) : AV → Prop
  | .inl x => Rng x
  | .inr (.inr (some a)) => a < N ∨ 1000 ≤ a
  | _ => True
def hok (h : Hp) : Prop := (∀ a k, Rng (hI h a k)) ∧ (∀ a k b, hR h a k = some b → b < hN h) ∧ hN h ≤ 79
def fixed (h : Hp) : Prop := ∀ a k b, a < hN h → tGF a k = some b → hR h a k = some b ∧ b < hN h
/-- the locals as the kit has them -/
def lp (ad : Nat → Nat) (ls : LSt) : List (Nat × Value) := (List.range ls.length).filterMap fun i => (lget ls i).map fun v => (i, cv ad v)
theorem lget_lt {ls : LSt} {i : Nat} {v : AV} (h : lget ls i = some v) : i < ls.length := by
  induction ls generalizing i with
  | nil => simp [lget] at h
  | cons a l ih =>
    cases i with
    | zero => simp
    | succ i => simp only [lget] at h; simpa using ih h
theorem lp_mem {ad : Nat → Nat} {ls : LSt} {i : Nat} {w : Value} : (i, w) ∈ lp ad ls ↔ ∃ v, lget ls i = some v ∧ w = cv ad v := by
  unfold lp
  rw [List.mem_filterMap]
  constructor
  · rintro ⟨j, hj, h⟩
    cases hg : lget ls j with
    | none => rw [hg] at h; simp at h
    | some v =>
      rw [hg] at h
      simp only [Option.map_some, Option.some.injEq, Prod.mk.injEq] at h
      obtain ⟨rfl, rfl⟩ := h
      exact ⟨v, hg, rfl⟩
  · rintro ⟨v, hg, rfl⟩
    exact ⟨i, List.mem_range.mpr (lget_lt hg), by rw [hg]; rfl⟩
theorem lset1_len (ls : LSt) (i : Nat) (v : AV) : (lset1 ls i v).length = ls.length := by
  induction ls generalizing i with
  | nil => rfl
  | cons a l ih => cases i with
    | zero => rfl
    | succ i => simp only [lset1, List.length_cons]; rw [ih]
theorem lkill_len (ls : LSt) : (lkill ls).length = ls.length := by cases ls <;> rfl
theorem lset2_len (ls : LSt) (i : Nat) (v : AV) : (lset2 ls i v).length = ls.length := by
  induction ls generalizing i with
  | nil => rfl
  | cons a l ih => cases i with
    | zero => simp only [lset2, List.length_cons]; rw [lkill_len]
    | succ i => simp only [lset2, List.length_cons]; rw [ih]
theorem lset1_get {ls : LSt} {i j : Nat} {v w : AV} (h : lget (lset1 ls i v) j = some w) : (j = i ∧ w = v) ∨ (j ≠ i ∧ lget ls j = some w ∧ ¬ (j + 1 = i ∧ isJ (some w) = true)) := by
  induction ls generalizing i j with
  | nil => simp [lset1, lget] at h
  | cons a l ih =>
    cases i with
    | zero =>
      cases j with
      | zero => simp only [lset1, lget, Option.some.injEq] at h; exact Or.inl ⟨rfl, h.symm⟩
      | succ j => simp only [lset1, lget] at h; exact Or.inr ⟨by omega, h, by omega⟩
    | succ i =>
      cases j with
      | zero =>
        simp only [lset1, lget] at h
        cases hc : (Nat.beq i 0 && isJ a) with
        | true => rw [hc] at h; simp at h
        | false =>
          rw [hc] at h
          simp only [cond_false] at h
          refine Or.inr ⟨by omega, h, ?_⟩
          rintro ⟨e, hj⟩
          have : i = 0 := by omega
          subst this
          rw [h, hj] at hc
          simp at hc
      | succ j =>
        simp only [lset1, lget] at h
        rcases ih h with ⟨e, h2⟩ | ⟨e, h2, h3⟩
        · exact Or.inl ⟨by omega, h2⟩
        · exact Or.inr ⟨by omega, h2, fun q => h3 ⟨by omega, q.2⟩⟩
theorem lkill_get {ls : LSt} {j : Nat} {w : AV} (h : lget (lkill ls) j = some w) : j ≠ 0 ∧ lget ls j = some w := by
  cases ls with
  | nil => simp [lkill, lget] at h
  | cons a l => cases j with
    | zero => simp [lkill, lget] at h
    | succ j => exact ⟨by omega, h⟩
theorem lset2_get {ls : LSt} {i j : Nat} {v w : AV} (h : lget (lset2 ls i v) j = some w) : (j = i ∧ w = v) ∨ (j ≠ i ∧ j ≠ i + 1 ∧ lget ls j = some w ∧ ¬ (j + 1 = i ∧ isJ (some w) = true)) := by
  induction ls generalizing i j with
  | nil => simp [lset2, lget] at h
  | cons a l ih =>
    cases i with
    | zero =>
      cases j with
      | zero => simp only [lset2, lget, Option.some.injEq] at h; exact Or.inl ⟨rfl, h.symm⟩
      | succ j =>
        simp only [lset2, lget] at h
        have := lkill_get h
        exact Or.inr ⟨by omega, by omega, this.2, by omega⟩
    | succ i =>
      cases j with
      | zero =>
        simp only [lset2, lget] at h
        cases hc : (Nat.beq i 0 && isJ a) with
        | true => rw [hc] at h; simp at h
        | false =>
          rw [hc] at h
          simp only [cond_false] at h
          refine Or.inr ⟨by omega, by omega, h, ?_⟩
          rintro ⟨e, hj⟩
          have : i = 0 := by omega
          subst this
          rw [h, hj] at hc
          simp at hc
      | succ j =>
        simp only [lset2, lget] at h
        rcases ih h with ⟨e, h2⟩ | ⟨e, e2, h2, h3⟩
        · exact Or.inl ⟨by omega, h2⟩
        · exact Or.inr ⟨by omega, by omega, h2, fun q => h3 ⟨by omega, q.2⟩⟩
theorem lhas_mono {L : Array Slot} {n : Nat} {l l' : List (Nat × Value)} (h : lv_has L n l) (hs : ∀ q ∈ l', q ∈ l) : lv_has L n l' := ⟨h.1, h.2.1, fun q hq => h.2.2 q (hs q hq)⟩
theorem lp_set1 {ad : Nat → Nat} {ls : LSt} {i : Nat} {v : AV} {L : Array Slot} {n : Nat} (h : lv_has L n ((i, cv ad v) :: (lp ad ls).filter (fun q => !(q.1 == i) && !(q.1 + 1 == i && q.2.category == 2)))) : lv_has L n (lp ad (lset1 ls i v)) := by
  refine lhas_mono h ?_
  rintro ⟨j, w⟩ hq
  obtain ⟨u, hu, rfl⟩ := lp_mem.mp hq
  rcases lset1_get hu with ⟨rfl, rfl⟩ | ⟨h1, h2, h3⟩
  · exact List.mem_cons_self
  · refine List.mem_cons_of_mem _ (List.mem_filter.mpr ⟨lp_mem.mpr ⟨u, h2, rfl⟩, ?_⟩)
    rw [cv_cat2]
    by_cases hj : isJ (some u) = true
    · have : j + 1 ≠ i := fun e => h3 ⟨e, hj⟩
      simp [h1, this]
    · simp [h1, hj]
theorem lp_set2 {ad : Nat → Nat} {ls : LSt} {i : Nat} {v : AV} {L : Array Slot} {n : Nat} (h : lv_has L n ((i, cv ad v) :: (lp ad ls).filter (fun q => !(q.1 == i) && (!(q.1 == i + 1) && !(q.1 + 1 == i && q.2.category == 2))))) : lv_has L n (lp ad (lset2 ls i v)) := by
  refine lhas_mono h ?_
  rintro ⟨j, w⟩ hq
  obtain ⟨u, hu, rfl⟩ := lp_mem.mp hq
  rcases lset2_get hu with ⟨rfl, rfl⟩ | ⟨h1, h4, h2, h3⟩
  · exact List.mem_cons_self
  · refine List.mem_cons_of_mem _ (List.mem_filter.mpr ⟨lp_mem.mpr ⟨u, h2, rfl⟩, ?_⟩)
    rw [cv_cat2]
    by_cases hj : isJ (some u) = true
    · have : j + 1 ≠ i := fun e => h3 ⟨e, hj⟩
      simp [h1, h4, this]
    · simp [h1, h4, hj]
def lok (N : Nat) (ls : LSt) : Prop := ∀ i v, lget ls i = some v → vok N v
theorem lok_set1 {N : Nat} {ls : LSt} {i : Nat} {v : AV} (h : lok N ls) (hv : vok N v) : lok N (lset1 ls i v) := by
  intro j w hw
  rcases lset1_get hw with ⟨-, rfl⟩ | ⟨-, h2, -⟩
  · exact hv
  · exact h j w h2
theorem lok_set2 {N : Nat} {ls : LSt} {i : Nat} {v : AV} (h : lok N ls) (hv : vok N v) : lok N (lset2 ls i v) := by
  intro j w hw
  rcases lset2_get hw with ⟨-, rfl⟩ | ⟨-, -, h2, -⟩
  · exact hv
  · exact h j w h2
/-- a state's picture: locals, objects, all in order -/
def Cn (D : va_G) (ca : Nat → ClassId) (A : Nat → Prop) (ad : Nat → Nat) (fx : Bool) (nL : Nat) (ls : LSt) (st : List AV) (h : Hp) (H : Heap) (L : Array Slot) : Prop :=
  lv_has L nL (lp ad ls) ∧ va_P D vwCl (wo ad ca h) H ∧ va_D A (wo ad ca h) ∧ lok (hN h) ls ∧ (∀ v ∈ st, vok (hN h) v) ∧ hok h ∧ (fx = true → fixed h)
theorem rng_of (x : Int32) : Rng x.toInt := by
  have h1 := Int32.le_toInt x
  have h2 := Int32.toInt_lt x
  exact ⟨by omega, by omega⟩
theorem iw_toInt {z : Int} (h : Rng z) : (iw z).toInt = z := by
  have h1 := h.1
  have h2 := h.2
  have h3 : z.bmod (2 ^ 32) = z := by rw [Int.bmod_eq_of_le (by omega) (by omega)]
  exact (Int32.toInt_ofInt).trans h3
theorem iw_of (x : Int32) : iw x.toInt = x := Int32.ofInt_toInt x
theorem iw_inj {x y : Int} (hx : Rng x) (hy : Rng y) : iw x = iw y ↔ x = y := by
  constructor
  · intro e
    rw [← iw_toInt hx, ← iw_toInt hy, e]
  · intro e
    rw [e]
theorem iw_lt {x y : Int} (hx : Rng x) (hy : Rng y) : iw x < iw y ↔ x < y := by rw [Int32.lt_iff_toInt_lt, iw_toInt hx, iw_toInt hy]
theorem iw_le {x y : Int} (hx : Rng x) (hy : Rng y) : iw x ≤ iw y ↔ x ≤ y := by rw [Int32.le_iff_toInt_le, iw_toInt hx, iw_toInt hy]
theorem rng0 : Rng 0 := by constructor <;> decide
theorem iw0 : iw 0 = (0 : Int32) := rfl
theorem iw_add (x y : Int) : iw (x + y) = iw x + iw y := Int32.ofInt_add x y
theorem iw_sub (x y : Int) : iw (x - y) = iw x - iw y := Int32.ofInt_sub x y
theorem iw_mul (x y : Int) : iw (x * y) = iw x * iw y := Int32.ofInt_mul x y
theorem iw_neg (x : Int) : iw (-x) = - iw x := Int32.ofInt_neg x
theorem rng_div {x y : Int} (hx : Rng x) (h0 : 0 ≤ x) (hy : 0 < y) : Rng (x / y) := by
  have h1 := Int.ediv_nonneg h0 (Int.le_of_lt hy)
  have h2 := Int.ediv_le_self y h0
  have h3 := hx.2
  exact ⟨by omega, by omega⟩
theorem rng_mod {x y : Int} (hy1 : Rng y) (hy : 0 < y) : Rng (x % y) := by
  have h1 := Int.emod_nonneg x (show y ≠ 0 by omega)
  have h2 := Int.emod_lt_of_pos x hy
  have h3 := hy1.2
  exact ⟨by omega, by omega⟩
theorem iw_div {x y : Int} (hx : Rng x) (h0 : 0 ≤ x) (hy1 : Rng y) (hy : 0 < y) : iw (x / y) = iw x / iw y := by
  apply Int32.toInt_inj.mp
  rw [iw_toInt (rng_div hx h0 hy), Int32.toInt_div, iw_toInt hx, iw_toInt hy1, Int.tdiv_eq_ediv_of_nonneg h0]
  have h := rng_div hx h0 hy
  have h1 := h.1
  have h2 := h.2
  rw [Int.bmod_eq_of_le (by omega) (by omega)]
theorem iw_mod {x y : Int} (hx : Rng x) (h0 : 0 ≤ x) (hy1 : Rng y) (hy : 0 < y) : iw (x % y) = iw x - iw x / iw y * iw y := by
  rw [← iw_div hx h0 hy1 hy, ← iw_mul, ← iw_sub, Int.emod_def, Int.mul_comm]
theorem iw_cmp (x y : Int64) : iw (cmpL x y) = lg_cmp x y := by
  unfold cmpL lg_cmp
  split
  · rfl
  · split <;> rfl
theorem rng_cmp (x y : Int64) : Rng (cmpL x y) := by
  unfold cmpL
  split
  · constructor <;> decide
  · split <;> constructor <;> decide
theorem iw_in {j n : Int} (hj : Rng j) (hi : inR j n) : vp_in (iw j) n.toNat ∧ (iw j).toNatClampNeg = j.toNat := by
  have h0 := iw_toInt hj
  have h1 := hi.1
  have h2 := hi.2
  refine ⟨vp_in_iff.mpr ⟨by rw [h0]; exact h1, by rw [h0]; omega⟩, ?_⟩
  show (iw j).toInt.toNat = j.toNat
  rw [h0]
theorem iw_nat {j : Int} (hj : Rng j) (h : 0 ≤ j) : ¬ (iw j < 0) ∧ (iw j).toNatClampNeg = j.toNat := by
  have h0 := iw_toInt hj
  refine ⟨fun h2 => ?_, ?_⟩
  · have := (iw_lt hj rng0).mp (by rw [iw0]; exact h2)
    omega
  · show (iw j).toInt.toNat = j.toNat
    rw [h0]
theorem ob_spec {b : Bool} {P : Prop} (h : ob b P) : b = true ∧ P := by
  cases b
  · exact h.elim
  · exact ⟨rfl, h⟩
theorem gk_spec {a : Nat} {g : Nat → Int → Prop} (h : gk a g) : g (tGK a).1 (tGK a).2 := by
  unfold gk at h
  exact h
theorem two_spec {st : List AV} {g : Int → Int → List AV → Prop} (h : two st g) : ∃ x y r, st = .inl y :: .inl x :: r ∧ g x y r := by
  unfold two at h
  split at h
  · exact ⟨_, _, _, rfl, h⟩
  · exact h.elim
theorem twoL_spec {st : List AV} {g : Int64 → Int64 → List AV → Prop} (h : twoL st g) : ∃ x y r, st = .inr (.inl y) :: .inr (.inl x) :: r ∧ g x y r := by
  unfold twoL at h
  split at h
  · exact ⟨_, _, _, rfl, h⟩
  · exact h.elim
theorem shf_spec {st : List AV} {g : Int64 → Int → List AV → Prop} (h : shf st g) : ∃ x y r, st = .inl y :: .inr (.inl x) :: r ∧ g x y r := by
  unfold shf at h
  split at h
  · exact ⟨_, _, _, rfl, h⟩
  · exact h.elim
theorem oneI_spec {st : List AV} {g : Int → List AV → Prop} (h : oneI st g) : ∃ x r, st = .inl x :: r ∧ g x r := by
  unfold oneI at h
  split at h
  · exact ⟨_, _, rfl, h⟩
  · exact h.elim
theorem oneL_spec {st : List AV} {g : Int64 → List AV → Prop} (h : oneL st g) : ∃ x r, st = .inr (.inl x) :: r ∧ g x r := by
  unfold oneL at h
  split at h
  · exact ⟨_, _, rfl, h⟩
  · exact h.elim
theorem oneA_spec {st : List AV} {g : Nat → List AV → Prop} (h : oneA st g) : ∃ x r, st = .inr (.inr (some x)) :: r ∧ g x r := by
  unfold oneA at h
  split at h
  · exact ⟨_, _, rfl, h⟩
  · exact h.elim
theorem oneR_spec {st : List AV} {g : Option Nat → List AV → Prop} (h : oneR st g) : ∃ x r, st = .inr (.inr x) :: r ∧ g x r := by
  unfold oneR at h
  split at h
  · exact ⟨_, _, rfl, h⟩
  · exact h.elim
theorem ixA_spec {st : List AV} {g : Int → Nat → List AV → Prop} (h : ixA st g) : ∃ j x r, st = .inl j :: .inr (.inr (some x)) :: r ∧ g j x r := by
  unfold ixA at h
  split at h
  · exact ⟨_, _, _, rfl, h⟩
  · exact h.elim
theorem ldI_spec {ls : LSt} {n : Nat} {g : AV → Prop} (h : ldI ls n g) : ∃ x, lget ls n = some (.inl x) ∧ g (.inl x) := by
  unfold ldI at h
  split at h
  · exact ⟨_, by assumption, h⟩
  · exact h.elim
theorem ldL_spec {ls : LSt} {n : Nat} {g : AV → Prop} (h : ldL ls n g) : ∃ x, lget ls n = some (.inr (.inl x)) ∧ g (.inr (.inl x)) := by
  unfold ldL at h
  split at h
  · exact ⟨_, by assumption, h⟩
  · exact h.elim
theorem ldA_spec {ls : LSt} {n : Nat} {g : AV → Prop} (h : ldA ls n g) : ∃ x, lget ls n = some (.inr (.inr x)) ∧ g (.inr (.inr x)) := by
  unfold ldA at h
  split at h
  · exact ⟨_, by assumption, h⟩
  · exact h.elim
/-- an instruction's length -/
def il : Instr → Nat
  | .bipush _ | .ldc _ | .iload _ | .lload _ | .aload _ | .istore _ | .lstore _ | .astore _ | .newarray _ => 2
  | .sipush _ | .ldc_w _ | .ldc2_w _ | .iinc _ _ | .goto _ | .ifCond _ _ | .if_icmp _ _ | .ifnonnull _ | .ifnull _ | .getfield _ | .putfield _ | .getstatic _ | .new _ | .anewarray _ | .invokevirtual _ | .invokestatic _ | .invokespecial _ => 3
  | _ => 1
def swOK (pc : Nat) : List Int → List Nat → Bool
  | [], [] => true
  | o :: os, t :: ts => decide ((pc : Int) + o = (t : Int)) && swOK pc os ts
  | _, _ => false
/-- a word of the tables, by its place -/
def crW : Jvm.Cond → Bool
  | .castable .. => true
  | .declares .. => true
  | .fieldLinkNest .. => true
  | .methodLinkNest .. => true
  | .arrayOver (.object _) => true
  | _ => false
def nthO {α : Type} : List α → Nat → Option α
  | [], _ => none
  | x :: _, 0 => some x
  | _ :: l, n + 1 => nthO l n
theorem nthO_mem {α : Type} {l : List α} {n : Nat} {x : α} (h : nthO l n = some x) : x ∈ l := by
  induction l generalizing n with
  | nil => cases h
  | cons a l ih =>
    cases n with
    | zero => cases h; exact List.mem_cons_self
    | succ n => exact List.mem_cons_of_mem _ (ih h)
def selW (q : Option (MethodName × Nat)) : Option Jvm.Cond := match q with
  | some q => some (.selects q.1.cls q.1 q.1)
  | none => none
/-- the i-th word of the tables -/
def tb (i : Nat) : Option Jvm.Cond := cond (Nat.blt i 114) (match i / 16 with
    | 0 => selW (nthO lw_privs_1 (i % 16))
    | 1 => selW (nthO lw_privs_2 (i % 16))
    | 2 => selW (nthO lw_privs_3 (i % 16))
    | 3 => selW (nthO lw_privs_4 (i % 16))
    | 4 => selW (nthO lw_privs_5 (i % 16))
    | 5 => selW (nthO lw_privs_6 (i % 16))
    | 6 => selW (nthO lw_privs_7 (i % 16))
    | _ => selW (nthO lw_privs_8 (i % 16)))
  (match (i - 114) / 240 with
    | 0 => nthO tables_1_1 ((i - 114) % 240)
    | 1 => nthO tables_1_2 ((i - 114) % 240)
    | 2 => nthO tables_1_3 ((i - 114) % 240)
    | 3 => nthO tables_1_4 ((i - 114) % 240)
    | 4 => nthO tables_1_5 ((i - 114) % 240)
    | 5 => nthO tables_1_6 ((i - 114) % 240)
    | 6 => nthO tables_1_7 ((i - 114) % 240)
    | _ => nthO tables_1_8 ((i - 114) % 240))
theorem selW_mem {l : List (MethodName × Nat)} {n : Nat} {w : Jvm.Cond} (hl : ∀ q ∈ l, q ∈ lw_privs) (h : selW (nthO l n) = some w) : w ∈ lw_tbl := by
  unfold selW at h
  split at h
  · rename_i q hq
    cases h
    exact List.mem_append_left _ (List.mem_map.mpr ⟨q, hl q (nthO_mem hq), rfl⟩)
  · cases h
theorem tb_mem {i : Nat} {w : Jvm.Cond} (h : tb i = some w) : w ∈ lw_tbl := by
  unfold tb at h
  cases hb : Nat.blt i 114 with
  | true =>
    rw [hb] at h
    simp only [cond_true] at h
    split at h
    · exact selW_mem (fun q hq => List.mem_append_left _ hq) h
    · exact selW_mem (fun q hq => List.mem_append_right _ (List.mem_append_left _ hq)) h
    · exact selW_mem (fun q hq => List.mem_append_right _ (List.mem_append_right _ (List.mem_append_left _ hq))) h
    · exact selW_mem (fun q hq => List.mem_append_right _ (List.mem_append_right _ (List.mem_append_right _ (List.mem_append_left _ hq)))) h
    · exact selW_mem (fun q hq => List.mem_append_right _ (List.mem_append_right _ (List.mem_append_right _ (List.mem_append_right _ (List.mem_append_left _ hq))))) h
    · exact selW_mem (fun q hq => List.mem_append_right _ (List.mem_append_right _ (List.mem_append_right _ (List.mem_append_right _ (List.mem_append_right _ (List.mem_append_left _ hq)))))) h
    · exact selW_mem (fun q hq => List.mem_append_right _ (List.mem_append_right _ (List.mem_append_right _ (List.mem_append_right _ (List.mem_append_right _ (List.mem_append_right _ (List.mem_append_left _ hq))))))) h
    · exact selW_mem (fun q hq => List.mem_append_right _ (List.mem_append_right _ (List.mem_append_right _ (List.mem_append_right _ (List.mem_append_right _ (List.mem_append_right _ (List.mem_append_right _ hq))))))) h
  | false =>
    rw [hb] at h
    simp only [cond_false] at h
    refine List.mem_append_right _ ?_
    split at h
    · exact List.mem_append_left _ (nthO_mem h)
    · exact List.mem_append_right _ (List.mem_append_left _ (nthO_mem h))
    · exact List.mem_append_right _ (List.mem_append_right _ (List.mem_append_left _ (nthO_mem h)))
    · exact List.mem_append_right _ (List.mem_append_right _ (List.mem_append_right _ (List.mem_append_left _ (nthO_mem h))))
    · exact List.mem_append_right _ (List.mem_append_right _ (List.mem_append_right _ (List.mem_append_right _ (List.mem_append_left _ (nthO_mem h)))))
    · exact List.mem_append_right _ (List.mem_append_right _ (List.mem_append_right _ (List.mem_append_right _ (List.mem_append_right _ (List.mem_append_left _ (nthO_mem h))))))
    · exact List.mem_append_right _ (List.mem_append_right _ (List.mem_append_right _ (List.mem_append_right _ (List.mem_append_right _ (List.mem_append_right _ (List.mem_append_left _ (nthO_mem h)))))))
    · exact List.mem_append_right _ (List.mem_append_right _ (List.mem_append_right _ (List.mem_append_right _ (List.mem_append_right _ (List.mem_append_right _ (List.mem_append_right _ (nthO_mem h)))))))
def wd (i : Nat) (w : Jvm.Cond) : Bool := decide (tb i = some w) && (goodWord w || crW w)
def dec1 (cc : ByteArray) (pc : Nat) (i : Instr) (nx : Nat) : Bool := decide (decode cc pc = .ok (i, il i)) && Nat.beq nx (pc + il i)
def fldB (own idx ci f ty p ne : Nat) (ax : Int) : Bool := Nat.blt f (cN ci).2.2 && (Nat.blt ci 10 && (Nat.beq ty (tFT ci f) && (decide (ax = f) && cond (Nat.beq ne 0) (wd p (.fieldLink (tNM own) idx ((cN ci).2.1 f).1 ((cN ci).2.1 f).2.1 ((cN ci).2.1 f).2.2.1)) (wd p (.fieldLinkNest (tNM own) idx ((cN ci).2.1 f).1 ((cN ci).2.1 f).2.1 ((cN ci).2.1 f).2.2.1 RX9)))))
/-- a row of code is that of the bytes (constants, locals, jumps, arithmetic) -/
def rowA (own nL : Nat) (cc : ByteArray) (pc : Nat) (i : Instr) (nx : Nat) (ax : Int) (tg : List Nat) : Bool := match i with
  | .tableswitch d lo hi offs => (match tg with
    | t :: ts => decide (decode cc pc = .ok (i, nx - pc)) && (decide ((pc : Int) + d = (t : Int)) && (swOK pc offs.toList ts && decide (hi - lo + 1 = (offs.size : Int))))
    | [] => false)
  | .goto o => dec1 cc pc i nx && decide ((pc : Int) + o = (tg0 tg : Int))
  | .ifCond _ o => dec1 cc pc i nx && decide ((pc : Int) + o = (tg0 tg : Int))
  | .if_icmp _ o => dec1 cc pc i nx && decide ((pc : Int) + o = (tg0 tg : Int))
  | .ifnonnull o => dec1 cc pc i nx && decide ((pc : Int) + o = (tg0 tg : Int))
  | .iconst n => dec1 cc pc i nx && decide (-128 ≤ n ∧ n < 128)
  | .bipush n => dec1 cc pc i nx && decide (-128 ≤ n ∧ n < 128)
  | .sipush n => dec1 cc pc i nx && decide (-32768 ≤ n ∧ n < 32768)
  | .ldc idx => dec1 cc pc i nx && (wd (tg0 tg) (.constant (tNM own) idx (iw ax)) && decide (Rng ax))
  | .ldc_w idx => dec1 cc pc i nx && (wd (tg0 tg) (.constant (tNM own) idx (iw ax)) && decide (Rng ax))
  | .ldc2_w idx => dec1 cc pc i nx && wd (tg1 tg) (.constantLong (tNM own) idx (Int64.ofNat (tg0 tg)))
  | .istore_n n => dec1 cc pc i nx && Nat.blt n nL
  | .istore n => dec1 cc pc i nx && Nat.blt n nL
  | .astore_n n => dec1 cc pc i nx && Nat.blt n nL
  | .astore n => dec1 cc pc i nx && Nat.blt n nL
  | .iinc n _ => dec1 cc pc i nx && Nat.blt n nL
  | .lstore_n n => dec1 cc pc i nx && Nat.blt (n + 1) nL
  | .lstore n => dec1 cc pc i nx && Nat.blt (n + 1) nL
  | i => dec1 cc pc i nx
theorem dec1_spec {cc : ByteArray} {pc : Nat} {i : Instr} {nx : Nat} (h : dec1 cc pc i nx = true) : decode cc pc = .ok (i, il i) ∧ nx = pc + il i := by
  unfold dec1 at h
  rw [Bool.and_eq_true] at h
  exact ⟨of_decide_eq_true h.1, Nat.eq_of_beq_eq_true h.2⟩
theorem blt_spec {a b : Nat} (h : Nat.blt a b = true) : a < b := Nat.le_of_ble_eq_true h
theorem iw_b8 {n : Int} (h : -128 ≤ n ∧ n < 128) : (Int8.ofInt n).toInt32 = iw n ∧ Rng n := by
  have hr : Rng n := ⟨by omega, by omega⟩
  refine ⟨?_, hr⟩
  apply Int32.toInt_inj.mp
  rw [iw_toInt hr, Int8.toInt_toInt32]
  have h3 : n.bmod (2 ^ 8) = n := by rw [Int.bmod_eq_of_le (by omega) (by omega)]
  exact (Int8.toInt_ofInt).trans h3
theorem iw_s16 {n : Int} (h : -32768 ≤ n ∧ n < 32768) : (Int16.ofInt n).toInt32 = iw n ∧ Rng n := by
  have hr : Rng n := ⟨by omega, by omega⟩
  refine ⟨?_, hr⟩
  apply Int32.toInt_inj.mp
  rw [iw_toInt hr, Int16.toInt_toInt32]
  have h3 : n.bmod (2 ^ 16) = n := by rw [Int.bmod_eq_of_le (by omega) (by omega)]
  exact (Int16.toInt_ofInt).trans h3
theorem swt_spec {x lo : Int} {g : Nat → Prop} {l : List Nat} (h : swt x lo g l) {j : Nat} {t : Nat} (hj : l[j]? = some t) (e : x = lo + j) : g t := by
  induction l generalizing lo j with
  | nil => simp at hj
  | cons a l ih =>
    cases j with
    | zero =>
      rw [List.getElem?_cons_zero] at hj
      cases hj
      exact h.1 (by omega)
    | succ j =>
      rw [List.getElem?_cons_succ] at hj
      exact ih h.2 hj (by omega)
theorem swOK_spec {pc : Nat} {os : List Int} {ts : List Nat} (h : swOK pc os ts = true) : os.length = ts.length ∧ ∀ j : Nat, ∀ o : Int, os[j]? = some o → ∃ t, ts[j]? = some t ∧ (pc : Int) + o = (t : Int) := by
  induction os generalizing ts with
  | nil =>
    cases ts with
    | nil => exact ⟨rfl, fun j o h => by simp at h⟩
    | cons t ts => simp [swOK] at h
  | cons o os ih =>
    cases ts with
    | nil => simp [swOK] at h
    | cons t ts =>
      simp only [swOK, Bool.and_eq_true, decide_eq_true_eq] at h
      obtain ⟨h1, h2⟩ := ih h.2
      refine ⟨by rw [List.length_cons, List.length_cons, h1], fun j o' hj => ?_⟩
      cases j with
      | zero =>
        rw [List.getElem?_cons_zero] at hj
        cases hj
        exact ⟨t, rfl, h.1⟩
      | succ j =>
        rw [List.getElem?_cons_succ] at hj
        rw [List.getElem?_cons_succ]
        exact h2 j o' hj
end
section
/-! ===== the abstract machine is right: constants, locals, the stack, jumps, arithmetic ===== -/
/-- the script's address; the objects that were there at the start, and their addresses -/
abbrev B0 : Type := Nat × (Nat × (Nat → Nat))
def E0 (b : B0) (ad : Nat → Nat) (h : Hp) : Prop := ad 1000 = b.1 ∧ (∀ a, a < b.2.1 → ad a = b.2.2 a) ∧ b.2.1 ≤ hN h
section Ctx
variable {p : Program} {l : Launch} {e : Env} {R : Room} {s : State} {m : MethodId} {ag : Array Value} {below : List Frame} {meth : Method} {c : Code} {Q : State → Prop} {cc : ByteArray} {nL : Nat} {D : va_G} {ca : Nat → ClassId} {A : Nat → Prop} {b0 : B0} {lb : Nat} {fx : Bool}
/-- what is wanted at a place: from every state of that picture all goes well -/
def AW (p : Program) (l : Launch) (e : Env) (R : Room) (s : State) (m : MethodId) (ag : Array Value) (below : List Frame) (meth : Method) (c : Code) (Q : State → Prop) (nL : Nat) (D : va_G) (ca : Nat → ClassId) (A : Nat → Prop) (b0 : B0) (lb : Nat) (fx : Bool) (pc : Nat) (ls : LSt) (st : List AV) (h : Hp) (u v : Nat) : Prop :=
  ∀ (ad : Nat → Nat) (H : Heap) (locs : List Loc) (L : Array Slot), Cn D ca A ad fx nL ls st h H L → E0 b0 ad h → ad 1001 = lb → va_S A s.heap H locs → W p l e R s m ag below meth c H locs u v Q (F0 m pc L (st.map (cv ad)))
theorem Cn.stk {ad : Nat → Nat} {ls : LSt} {st st' : List AV} {h : Hp} {H : Heap} {L : Array Slot} (C : Cn D ca A ad fx nL ls st h H L) (hv : ∀ v ∈ st', vok (hN h) v) : Cn D ca A ad fx nL ls st' h H L :=
  ⟨C.1, C.2.1, C.2.2.1, C.2.2.2.1, hv, C.2.2.2.2.2⟩
theorem Cn.st {ad : Nat → Nat} {ls : LSt} {st : List AV} {h : Hp} {H : Heap} {L : Array Slot} (C : Cn D ca A ad fx nL ls st h H L) : ∀ v ∈ st, vok (hN h) v := C.2.2.2.2.1
theorem Cn.set1 {ad : Nat → Nat} {ls : LSt} {st st' : List AV} {h : Hp} {H : Heap} {L L' : Array Slot} {i : Nat} {v : AV} (C : Cn D ca A ad fx nL ls st h H L) (hl : lv_has L' nL ((i, cv ad v) :: (lp ad ls).filter (fun q => !(q.1 == i) && !(q.1 + 1 == i && q.2.category == 2)))) (hv : vok (hN h) v) (hs : ∀ v ∈ st', vok (hN h) v) : Cn D ca A ad fx nL (lset1 ls i v) st' h H L' :=
  ⟨lp_set1 hl, C.2.1, C.2.2.1, lok_set1 C.2.2.2.1 hv, hs, C.2.2.2.2.2⟩
theorem Cn.set2 {ad : Nat → Nat} {ls : LSt} {st st' : List AV} {h : Hp} {H : Heap} {L L' : Array Slot} {i : Nat} {v : AV} (C : Cn D ca A ad fx nL ls st h H L) (hl : lv_has L' nL ((i, cv ad v) :: (lp ad ls).filter (fun q => !(q.1 == i) && (!(q.1 == i + 1) && !(q.1 + 1 == i && q.2.category == 2))))) (hv : vok (hN h) v) (hs : ∀ v ∈ st', vok (hN h) v) : Cn D ca A ad fx nL (lset2 ls i v) st' h H L' :=
  ⟨lp_set2 hl, C.2.1, C.2.2.1, lok_set2 C.2.2.2.1 hv, hs, C.2.2.2.2.2⟩
theorem Cn.at {ad : Nat → Nat} {ls : LSt} {st : List AV} {h : Hp} {H : Heap} {L : Array Slot} (C : Cn D ca A ad fx nL ls st h H L) {n : Nat} {v : AV} (hm : lget ls n = some v) : L[n]? = some (.val (cv ad v)) ∧ vok (hN h) v :=
  ⟨C.1.2.2 (n, cv ad v) (lp_mem.mpr ⟨v, hm, rfl⟩), C.2.2.2.1 _ _ hm⟩
theorem vok2 {N : Nat} {a b : AV} {r : List AV} (h : ∀ v ∈ a :: b :: r, vok N v) : vok N a ∧ vok N b ∧ ∀ v ∈ r, vok N v :=
  ⟨h _ List.mem_cons_self, h _ (List.mem_cons_of_mem _ List.mem_cons_self), fun v hv => h v (List.mem_cons_of_mem _ (List.mem_cons_of_mem _ hv))⟩
theorem vok1 {N : Nat} {a : AV} {r : List AV} (h : ∀ v ∈ a :: r, vok N v) : vok N a ∧ ∀ v ∈ r, vok N v := ⟨h _ List.mem_cons_self, fun v hv => h v (List.mem_cons_of_mem _ hv)⟩
theorem vokc {N : Nat} {a : AV} {r : List AV} (h1 : vok N a) (h : ∀ v ∈ r, vok N v) : ∀ v ∈ a :: r, vok N v := by
  intro v hv
  rcases List.mem_cons.mp hv with rfl | hv
  · exact h1
  · exact h v hv
theorem tab_of {pc : Nat} {lo hi d : Int} {offs : Array Int} {ts : List Nat} {t : Nat} {x : Int} (hx : Rng x) (h1 : (pc : Int) + d = (t : Int)) (h2 : swOK pc offs.toList ts = true) (h3 : hi - lo + 1 = (offs.size : Int)) : (x < lo ∨ hi < x) ∨ (¬ (x < lo) ∧ ¬ (hi < x) ∧ ∃ o t', offs[(x - lo).toNat]? = some o ∧ ts[(x - lo).toNat]? = some t' ∧ (pc : Int) + o = (t' : Int)) := by
  by_cases h : x < lo ∨ hi < x
  · exact Or.inl h
  · refine Or.inr ⟨by omega, by omega, ?_⟩
    have hn : (x - lo).toNat < offs.size := by omega
    obtain ⟨-, h4⟩ := swOK_spec h2
    have h5 : offs.toList[(x - lo).toNat]? = some offs[(x - lo).toNat] := by rw [Array.getElem?_toList]; exact Array.getElem?_eq_getElem hn
    obtain ⟨t', h6, h7⟩ := h4 _ _ h5
    exact ⟨_, t', Array.getElem?_eq_getElem hn, h6, h7⟩
theorem stpA_sound (hx : p.tables.exec = Jvm.exec) (hb : c.code = cc) {own : Nat} (hown : s.vm.findClass (tNM own) = some m.cls) (htw : ∀ i w, wd i w = true → w.before ag s = true) {k : AK} (hk : ∀ pc1 ls1 st1 h1 u1 v1, k pc1 ls1 st1 h1 u1 v1 → AW p l e R s m ag below meth c Q nL D ca A b0 lb fx pc1 ls1 st1 h1 u1 v1)
    {pc : Nat} {i : Instr} {nx : Nat} {ax : Int} {tg : List Nat} {ls : LSt} {st : List AV} {h : Hp} {u v : Nat} {other : Prop} (ho : other → AW p l e R s m ag below meth c Q nL D ca A b0 lb fx pc ls st h u v)
    (hrow : rowA own nL cc pc i nx ax tg = true) (hs : stpA k i nx ax tg ls st h u v other) : AW p l e R s m ag below meth c Q nL D ca A b0 lb fx pc ls st h u v := by
  unfold stpA at hs
  split at hs
  · simp only [rowA, il, Bool.and_eq_true, decide_eq_true_eq] at hrow
    obtain ⟨hrow, hrg⟩ := hrow
    obtain ⟨hd, rfl⟩ := dec1_spec hrow
    intro ad H locs L C e0 e1 hS
    refine lv_iconst hx hb hd rfl ?_
    exact hk _ _ _ _ _ _ hs ad H locs L (C.stk (vokc (show Rng _ from ⟨by omega, by omega⟩) C.st)) e0 e1 hS
  · simp only [rowA, il, Bool.and_eq_true, decide_eq_true_eq] at hrow
    obtain ⟨hrow, hrg⟩ := hrow
    obtain ⟨hd, rfl⟩ := dec1_spec hrow
    intro ad H locs L C e0 e1 hS
    refine lv_bipush hx hb hd (iw_b8 hrg).1 ?_
    exact hk _ _ _ _ _ _ hs ad H locs L (C.stk (vokc (iw_b8 hrg).2 C.st)) e0 e1 hS
  · simp only [rowA, il, Bool.and_eq_true, decide_eq_true_eq] at hrow
    obtain ⟨hrow, hrg⟩ := hrow
    obtain ⟨hd, rfl⟩ := dec1_spec hrow
    intro ad H locs L C e0 e1 hS
    refine lv_sipush hx hb hd (iw_s16 hrg).1 ?_
    exact hk _ _ _ _ _ _ hs ad H locs L (C.stk (vokc (iw_s16 hrg).2 C.st)) e0 e1 hS
  · simp only [rowA, il] at hrow
    obtain ⟨hd, rfl⟩ := dec1_spec hrow
    rename_i n
    cases hb9 : Nat.beq n 0 with
    | true =>
      rw [hb9] at hs
      have e9 : (n : Nat) = 0 := Nat.eq_of_beq_eq_true hb9
      intro ad H locs L C e0 e1 hS
      refine lv_lconst (v := 0) hx hb hd (by rw [e9]; rfl) ?_
      exact hk _ _ _ _ _ _ hs ad H locs L (C.stk (vokc trivial C.st)) e0 e1 hS
    | false =>
      rw [hb9] at hs
      have e9 : (n : Nat) = 1 := by
        have : (n : Nat) ≠ 0 := fun e9 => by rw [e9] at hb9; cases hb9
        have := n.isLt
        omega
      intro ad H locs L C e0 e1 hS
      refine lv_lconst (v := 1) hx hb hd (by rw [e9]; rfl) ?_
      exact hk _ _ _ _ _ _ hs ad H locs L (C.stk (vokc trivial C.st)) e0 e1 hS
  · simp only [rowA, il, Bool.and_eq_true, decide_eq_true_eq] at hrow
    obtain ⟨hrow, hw, hrg⟩ := hrow
    obtain ⟨hd, rfl⟩ := dec1_spec hrow
    intro ad H locs L C e0 e1 hS
    refine lv_ldc hx hb hown (htw _ _ hw) hd ?_
    exact hk _ _ _ _ _ _ hs ad H locs L (C.stk (vokc hrg C.st)) e0 e1 hS
  · simp only [rowA, il, Bool.and_eq_true, decide_eq_true_eq] at hrow
    obtain ⟨hrow, hw, hrg⟩ := hrow
    obtain ⟨hd, rfl⟩ := dec1_spec hrow
    intro ad H locs L C e0 e1 hS
    refine lv_ldcw hx hb hown (htw _ _ hw) hd ?_
    exact hk _ _ _ _ _ _ hs ad H locs L (C.stk (vokc hrg C.st)) e0 e1 hS
  · simp only [rowA, il, Bool.and_eq_true, decide_eq_true_eq] at hrow
    obtain ⟨hrow, hw⟩ := hrow
    obtain ⟨hd, rfl⟩ := dec1_spec hrow
    intro ad H locs L C e0 e1 hS
    refine lv_ldc2 hx hb hown (htw _ _ hw) hd ?_
    exact hk _ _ _ _ _ _ hs ad H locs L (C.stk (vokc trivial C.st)) e0 e1 hS
  · simp only [rowA, il] at hrow
    obtain ⟨hd, rfl⟩ := dec1_spec hrow
    obtain ⟨x, hm, hs⟩ := ldI_spec hs
    intro ad H locs L C e0 e1 hS
    obtain ⟨h1, h2⟩ := C.at hm
    refine lv_iload_n hx hb hd rfl h1 ?_
    exact hk _ _ _ _ _ _ hs ad H locs L (C.stk (vokc h2 C.st)) e0 e1 hS
  · simp only [rowA, il] at hrow
    obtain ⟨hd, rfl⟩ := dec1_spec hrow
    obtain ⟨x, hm, hs⟩ := ldI_spec hs
    intro ad H locs L C e0 e1 hS
    obtain ⟨h1, h2⟩ := C.at hm
    refine lv_iload hx hb hd h1 ?_
    exact hk _ _ _ _ _ _ hs ad H locs L (C.stk (vokc h2 C.st)) e0 e1 hS
  · simp only [rowA, il] at hrow
    obtain ⟨hd, rfl⟩ := dec1_spec hrow
    obtain ⟨x, hm, hs⟩ := ldL_spec hs
    intro ad H locs L C e0 e1 hS
    obtain ⟨h1, h2⟩ := C.at hm
    refine lv_lload_n hx hb hd rfl h1 ?_
    exact hk _ _ _ _ _ _ hs ad H locs L (C.stk (vokc h2 C.st)) e0 e1 hS
  · simp only [rowA, il] at hrow
    obtain ⟨hd, rfl⟩ := dec1_spec hrow
    obtain ⟨x, hm, hs⟩ := ldL_spec hs
    intro ad H locs L C e0 e1 hS
    obtain ⟨h1, h2⟩ := C.at hm
    refine lv_lload hx hb hd h1 ?_
    exact hk _ _ _ _ _ _ hs ad H locs L (C.stk (vokc h2 C.st)) e0 e1 hS
  · simp only [rowA, il] at hrow
    obtain ⟨hd, rfl⟩ := dec1_spec hrow
    obtain ⟨x, hm, hs⟩ := ldA_spec hs
    intro ad H locs L C e0 e1 hS
    obtain ⟨h1, h2⟩ := C.at hm
    rcases x with _ | x
    · refine lv_aload_nN hx hb hd rfl h1 ?_
      exact hk _ _ _ _ _ _ hs ad H locs L (C.stk (vokc h2 C.st)) e0 e1 hS
    · refine lv_aload_n hx hb hd rfl h1 ?_
      exact hk _ _ _ _ _ _ hs ad H locs L (C.stk (vokc h2 C.st)) e0 e1 hS
  · simp only [rowA, il] at hrow
    obtain ⟨hd, rfl⟩ := dec1_spec hrow
    obtain ⟨x, hm, hs⟩ := ldA_spec hs
    intro ad H locs L C e0 e1 hS
    obtain ⟨h1, h2⟩ := C.at hm
    rcases x with _ | x
    · refine lv_aloadN hx hb hd h1 ?_
      exact hk _ _ _ _ _ _ hs ad H locs L (C.stk (vokc h2 C.st)) e0 e1 hS
    · refine lv_aload hx hb hd h1 ?_
      exact hk _ _ _ _ _ _ hs ad H locs L (C.stk (vokc h2 C.st)) e0 e1 hS
  · simp only [rowA, il, Bool.and_eq_true, decide_eq_true_eq] at hrow
    obtain ⟨hrow, hlt⟩ := hrow
    obtain ⟨hd, rfl⟩ := dec1_spec hrow
    obtain ⟨x, r, rfl, hs⟩ := oneI_spec hs
    intro ad H locs L C e0 e1 hS
    obtain ⟨h1, h2⟩ := vok1 C.st
    refine lv_istore_n hx hb hd rfl C.1 (blt_spec hlt) rfl (fun L' hl => ?_)
    exact hk _ _ _ _ _ _ hs ad H locs L' (C.set1 hl h1 h2) e0 e1 hS
  · simp only [rowA, il, Bool.and_eq_true, decide_eq_true_eq] at hrow
    obtain ⟨hrow, hlt⟩ := hrow
    obtain ⟨hd, rfl⟩ := dec1_spec hrow
    obtain ⟨x, r, rfl, hs⟩ := oneI_spec hs
    intro ad H locs L C e0 e1 hS
    obtain ⟨h1, h2⟩ := vok1 C.st
    refine lv_istore hx hb hd C.1 (blt_spec hlt) rfl (fun L' hl => ?_)
    exact hk _ _ _ _ _ _ hs ad H locs L' (C.set1 hl h1 h2) e0 e1 hS
  · simp only [rowA, il, Bool.and_eq_true, decide_eq_true_eq] at hrow
    obtain ⟨hrow, hlt⟩ := hrow
    obtain ⟨hd, rfl⟩ := dec1_spec hrow
    obtain ⟨x, r, rfl, hs⟩ := oneL_spec hs
    intro ad H locs L C e0 e1 hS
    obtain ⟨h1, h2⟩ := vok1 C.st
    refine lv_lstore_n hx hb hd rfl C.1 (blt_spec hlt) rfl (fun L' hl => ?_)
    exact hk _ _ _ _ _ _ hs ad H locs L' (C.set2 hl h1 h2) e0 e1 hS
  · simp only [rowA, il, Bool.and_eq_true, decide_eq_true_eq] at hrow
    obtain ⟨hrow, hlt⟩ := hrow
    obtain ⟨hd, rfl⟩ := dec1_spec hrow
    obtain ⟨x, r, rfl, hs⟩ := oneL_spec hs
    intro ad H locs L C e0 e1 hS
    obtain ⟨h1, h2⟩ := vok1 C.st
    refine lv_lstore hx hb hd C.1 (blt_spec hlt) rfl (fun L' hl => ?_)
    exact hk _ _ _ _ _ _ hs ad H locs L' (C.set2 hl h1 h2) e0 e1 hS
  · simp only [rowA, il, Bool.and_eq_true, decide_eq_true_eq] at hrow
    obtain ⟨hrow, hlt⟩ := hrow
    obtain ⟨hd, rfl⟩ := dec1_spec hrow
    obtain ⟨x, r, rfl, hs⟩ := oneR_spec hs
    intro ad H locs L C e0 e1 hS
    obtain ⟨h1, h2⟩ := vok1 C.st
    rcases x with _ | x
    · refine lv_astore_nN hx hb hd rfl C.1 (blt_spec hlt) rfl (fun L' hl => ?_)
      exact hk _ _ _ _ _ _ hs ad H locs L' (C.set1 hl h1 h2) e0 e1 hS
    · refine lv_astore_n hx hb hd rfl C.1 (blt_spec hlt) rfl (fun L' hl => ?_)
      exact hk _ _ _ _ _ _ hs ad H locs L' (C.set1 hl h1 h2) e0 e1 hS
  · simp only [rowA, il, Bool.and_eq_true, decide_eq_true_eq] at hrow
    obtain ⟨hrow, hlt⟩ := hrow
    obtain ⟨hd, rfl⟩ := dec1_spec hrow
    obtain ⟨x, r, rfl, hs⟩ := oneR_spec hs
    intro ad H locs L C e0 e1 hS
    obtain ⟨h1, h2⟩ := vok1 C.st
    rcases x with _ | x
    · refine lv_astoreN hx hb hd C.1 (blt_spec hlt) rfl (fun L' hl => ?_)
      exact hk _ _ _ _ _ _ hs ad H locs L' (C.set1 hl h1 h2) e0 e1 hS
    · refine lv_astore hx hb hd C.1 (blt_spec hlt) rfl (fun L' hl => ?_)
      exact hk _ _ _ _ _ _ hs ad H locs L' (C.set1 hl h1 h2) e0 e1 hS
  · simp only [rowA, il, Bool.and_eq_true, decide_eq_true_eq] at hrow
    obtain ⟨hrow, hlt⟩ := hrow
    obtain ⟨hd, rfl⟩ := dec1_spec hrow
    split at hs
    · rename_i x hm
      intro ad H locs L C e0 e1 hS
      obtain ⟨k9, hk9⟩ := List.getElem?_of_mem (lp_mem (ad := ad).mpr ⟨_, hm, rfl⟩)
      refine lv_iinc hx hb hd C.1 hk9 rfl (blt_spec hlt) rfl (fun L' hl => ?_)
      rw [← iw_add] at hl
      exact hk _ _ _ _ _ _ hs.2 ad H locs L' (C.set1 (v := .inl _) hl hs.1 C.st) e0 e1 hS
    · exact hs.elim
  · simp only [rowA, il] at hrow
    obtain ⟨hd, rfl⟩ := dec1_spec hrow
    split at hs
    · obtain ⟨h9, hs⟩ := ob_spec hs
      intro ad H locs L C e0 e1 hS
      refine lv_dup hx hb hd (cv_cat1 ad _ h9) ?_
      exact hk _ _ _ _ _ _ hs ad H locs L (C.stk (vokc (vok1 C.st).1 C.st)) e0 e1 hS
    · exact hs.elim
  · simp only [rowA, il] at hrow
    obtain ⟨hd, rfl⟩ := dec1_spec hrow
    split at hs
    · obtain ⟨h9, hs⟩ := ob_spec hs
      intro ad H locs L C e0 e1 hS
      refine lv_dup2_11 hx hb hd (cv_cat1 ad _ rfl) (cv_cat1 ad _ h9) ?_
      exact hk _ _ _ _ _ _ hs ad H locs L (C.stk (vokc (vok2 C.st).1 (vokc (vok2 C.st).2.1 C.st))) e0 e1 hS
    · exact hs.elim
  · simp only [rowA, il] at hrow
    obtain ⟨hd, rfl⟩ := dec1_spec hrow
    split at hs
    · obtain ⟨h9, hs⟩ := ob_spec hs
      intro ad H locs L C e0 e1 hS
      refine lv_pop hx hb hd (cv_cat1 ad _ h9) ?_
      exact hk _ _ _ _ _ _ hs ad H locs L (C.stk (vok1 C.st).2) e0 e1 hS
    · exact hs.elim
  · simp only [rowA, il, Bool.and_eq_true, decide_eq_true_eq] at hrow
    obtain ⟨hrow, ht⟩ := hrow
    obtain ⟨hd, rfl⟩ := dec1_spec hrow
    intro ad H locs L C e0 e1 hS
    refine lv_goto hx hb hd ht ?_
    exact hk _ _ _ _ _ _ hs ad H locs L (C.stk C.st) e0 e1 hS
  · simp only [rowA, il, Bool.and_eq_true, decide_eq_true_eq] at hrow
    obtain ⟨hrow, ht⟩ := hrow
    obtain ⟨hd, rfl⟩ := dec1_spec hrow
    obtain ⟨x, r, rfl, hs⟩ := oneI_spec hs
    intro ad H locs L C e0 e1 hS
    obtain ⟨hxx, h2⟩ := vok1 C.st
    have hy : Rng 0 := rng0
    have hxx : Rng x := hxx
    have hy : Rng 0 := hy
    have kt : ∀ pc1, k pc1 ls r h u v → W p l e R s m ag below meth c H locs u v Q (F0 m pc1 L (r.map (cv ad))) := fun pc1 g => hk _ _ _ _ _ _ g ad H locs L (C.stk h2) e0 e1 hS
    unfold br at hs
    split at hs
    · exact lv_if_eq hx hb hd ht (fun g => kt _ (hs.1 ((iw_inj hxx hy).mp g))) (fun g => kt _ (hs.2 (fun z => g ((iw_inj hxx hy).mpr z))))
    · exact lv_if_ne hx hb hd ht (fun g => kt _ (hs.1 (fun z => g ((iw_inj hxx hy).mpr z)))) (fun g => kt _ (hs.2 ((iw_inj hxx hy).mp g)))
    · exact lv_if_lt hx hb hd ht (fun g => kt _ (hs.1 ((iw_lt hxx hy).mp g))) (fun g => kt _ (hs.2 (Int.not_lt.mp (fun z => g ((iw_lt hxx hy).mpr z)))))
    · exact lv_if_ge hx hb hd ht (fun g => kt _ (hs.1 ((iw_le hy hxx).mp g))) (fun g => kt _ (hs.2 (Int.not_le.mp (fun z => g ((iw_le hy hxx).mpr z)))))
    · exact lv_if_gt hx hb hd ht (fun g => kt _ (hs.1 ((iw_lt hy hxx).mp g))) (fun g => kt _ (hs.2 (Int.not_lt.mp (fun z => g ((iw_lt hy hxx).mpr z)))))
    · exact lv_if_le hx hb hd ht (fun g => kt _ (hs.1 ((iw_le hxx hy).mp g))) (fun g => kt _ (hs.2 (Int.not_le.mp (fun z => g ((iw_le hxx hy).mpr z)))))
  · simp only [rowA, il, Bool.and_eq_true, decide_eq_true_eq] at hrow
    obtain ⟨hrow, ht⟩ := hrow
    obtain ⟨hd, rfl⟩ := dec1_spec hrow
    obtain ⟨x, y, r, rfl, hs⟩ := two_spec hs
    intro ad H locs L C e0 e1 hS
    obtain ⟨hy, hxx, h2⟩ := vok2 C.st
    have hxx : Rng x := hxx
    have hy : Rng y := hy
    have kt : ∀ pc1, k pc1 ls r h u v → W p l e R s m ag below meth c H locs u v Q (F0 m pc1 L (r.map (cv ad))) := fun pc1 g => hk _ _ _ _ _ _ g ad H locs L (C.stk h2) e0 e1 hS
    unfold br at hs
    split at hs
    · exact lv_icmp_eq hx hb hd ht (fun g => kt _ (hs.1 ((iw_inj hxx hy).mp g))) (fun g => kt _ (hs.2 (fun z => g ((iw_inj hxx hy).mpr z))))
    · exact lv_icmp_ne hx hb hd ht (fun g => kt _ (hs.1 (fun z => g ((iw_inj hxx hy).mpr z)))) (fun g => kt _ (hs.2 ((iw_inj hxx hy).mp g)))
    · exact lv_icmp_lt hx hb hd ht (fun g => kt _ (hs.1 ((iw_lt hxx hy).mp g))) (fun g => kt _ (hs.2 (Int.not_lt.mp (fun z => g ((iw_lt hxx hy).mpr z)))))
    · exact lv_icmp_ge hx hb hd ht (fun g => kt _ (hs.1 ((iw_le hy hxx).mp g))) (fun g => kt _ (hs.2 (Int.not_le.mp (fun z => g ((iw_le hy hxx).mpr z)))))
    · exact lv_icmp_gt hx hb hd ht (fun g => kt _ (hs.1 ((iw_lt hy hxx).mp g))) (fun g => kt _ (hs.2 (Int.not_lt.mp (fun z => g ((iw_lt hy hxx).mpr z)))))
    · exact lv_icmp_le hx hb hd ht (fun g => kt _ (hs.1 ((iw_le hxx hy).mp g))) (fun g => kt _ (hs.2 (Int.not_le.mp (fun z => g ((iw_le hxx hy).mpr z)))))
  · simp only [rowA, il, Bool.and_eq_true, decide_eq_true_eq] at hrow
    obtain ⟨hrow, ht⟩ := hrow
    obtain ⟨hd, rfl⟩ := dec1_spec hrow
    split at hs
    · rename_i w r
      intro ad H locs L C e0 e1 hS
      cases w with
      | none =>
        refine lv_ifnonnullN hx hb hd ?_
        exact hk _ _ _ _ _ _ (hs.2 rfl) ad H locs L (C.stk (vok1 C.st).2) e0 e1 hS
      | some a =>
        refine lv_ifnonnull hx hb hd ht ?_
        exact hk _ _ _ _ _ _ (hs.1 (by simp)) ad H locs L (C.stk (vok1 C.st).2) e0 e1 hS
    · exact hs.elim
  · obtain ⟨x, r, rfl, hs⟩ := oneI_spec hs
    split at hs
    · rename_i t ts
      simp only [rowA, Bool.and_eq_true, decide_eq_true_eq] at hrow
      obtain ⟨hd, h1, h2, h3⟩ := hrow
      intro ad H locs L C e0 e1 hS
      obtain ⟨hxx, h4⟩ := vok1 C.st
      have hxx : Rng x := hxx
      have e9 := iw_toInt hxx
      rcases tab_of hxx h1 h2 h3 with g | ⟨g1, g2, o, t', g3, g4, g5⟩
      · refine lv_tableOut hx hb hd (by rw [e9]; exact g) h1 ?_
        exact hk _ _ _ _ _ _ (hs.1 g) ad H locs L (C.stk h4) e0 e1 hS
      · refine lv_tableIn hx hb hd (by rw [e9]; exact g1) (by rw [e9]; exact g2) (by rw [e9]; exact g3) g5 ?_
        exact hk _ _ _ _ _ _ (swt_spec hs.2 g4 (by omega)) ad H locs L (C.stk h4) e0 e1 hS
    · exact hs.elim
  · exact ho hs
theorem stpB_sound (hx : p.tables.exec = Jvm.exec) (hb : c.code = cc) {own : Nat} (hown : s.vm.findClass (tNM own) = some m.cls) (htw : ∀ i w, wd i w = true → w.before ag s = true) {k : AK} (hk : ∀ pc1 ls1 st1 h1 u1 v1, k pc1 ls1 st1 h1 u1 v1 → AW p l e R s m ag below meth c Q nL D ca A b0 lb fx pc1 ls1 st1 h1 u1 v1)
    {pc : Nat} {i : Instr} {nx : Nat} {ax : Int} {tg : List Nat} {ls : LSt} {st : List AV} {h : Hp} {u v : Nat} {other : Prop} (ho : other → AW p l e R s m ag below meth c Q nL D ca A b0 lb fx pc ls st h u v)
    (hrow : rowA own nL cc pc i nx ax tg = true) (hs : stpB k i nx ls st h u v other) : AW p l e R s m ag below meth c Q nL D ca A b0 lb fx pc ls st h u v := by
  unfold stpB at hs
  split at hs
  · simp only [rowA, il] at hrow
    obtain ⟨hd, rfl⟩ := dec1_spec hrow
    obtain ⟨x, y, r, rfl, hs⟩ := two_spec hs
    intro ad H locs L C e0 e1 hS
    obtain ⟨hy, hxx, h2⟩ := vok2 C.st
    have hy : Rng y := hy
    have hxx : Rng x := hxx
    refine lv_iadd hx hb hd ?_
    rw [← iw_add]
    exact hk _ _ _ _ _ _ hs.2 ad H locs L (C.stk (vokc (hs.1) h2)) e0 e1 hS
  · simp only [rowA, il] at hrow
    obtain ⟨hd, rfl⟩ := dec1_spec hrow
    obtain ⟨x, y, r, rfl, hs⟩ := two_spec hs
    intro ad H locs L C e0 e1 hS
    obtain ⟨hy, hxx, h2⟩ := vok2 C.st
    have hy : Rng y := hy
    have hxx : Rng x := hxx
    refine lv_isub hx hb hd ?_
    rw [← iw_sub]
    exact hk _ _ _ _ _ _ hs.2 ad H locs L (C.stk (vokc (hs.1) h2)) e0 e1 hS
  · simp only [rowA, il] at hrow
    obtain ⟨hd, rfl⟩ := dec1_spec hrow
    obtain ⟨x, y, r, rfl, hs⟩ := two_spec hs
    intro ad H locs L C e0 e1 hS
    obtain ⟨hy, hxx, h2⟩ := vok2 C.st
    have hy : Rng y := hy
    have hxx : Rng x := hxx
    refine lv_imul hx hb hd ?_
    rw [← iw_mul]
    exact hk _ _ _ _ _ _ hs.2 ad H locs L (C.stk (vokc (hs.1) h2)) e0 e1 hS
  · simp only [rowA, il] at hrow
    obtain ⟨hd, rfl⟩ := dec1_spec hrow
    obtain ⟨x, y, r, rfl, hs⟩ := two_spec hs
    intro ad H locs L C e0 e1 hS
    obtain ⟨hy, hxx, h2⟩ := vok2 C.st
    have hy : Rng y := hy
    have hxx : Rng x := hxx
    obtain ⟨p1, p2⟩ := hs.1
    refine lv_idiv hx hb hd (fun z => absurd ((iw_inj hy rng0).mp z) (by omega)) ?_
    rw [← iw_div hxx hs.1.1 hy hs.1.2]
    exact hk _ _ _ _ _ _ hs.2 ad H locs L (C.stk (vokc (show Rng _ from rng_div hxx hs.1.1 hs.1.2) h2)) e0 e1 hS
  · simp only [rowA, il] at hrow
    obtain ⟨hd, rfl⟩ := dec1_spec hrow
    obtain ⟨x, y, r, rfl, hs⟩ := two_spec hs
    intro ad H locs L C e0 e1 hS
    obtain ⟨hy, hxx, h2⟩ := vok2 C.st
    have hy : Rng y := hy
    have hxx : Rng x := hxx
    obtain ⟨p1, p2⟩ := hs.1
    refine lv_irem hx hb hd (fun z => absurd ((iw_inj hy rng0).mp z) (by omega)) ?_
    rw [← iw_mod hxx hs.1.1 hy hs.1.2]
    exact hk _ _ _ _ _ _ hs.2 ad H locs L (C.stk (vokc (show Rng _ from rng_mod hy hs.1.2) h2)) e0 e1 hS
  · simp only [rowA, il] at hrow
    obtain ⟨hd, rfl⟩ := dec1_spec hrow
    obtain ⟨x, y, r, rfl, hs⟩ := two_spec hs
    intro ad H locs L C e0 e1 hS
    obtain ⟨hy, hxx, h2⟩ := vok2 C.st
    refine lv_iand hx hb hd ?_
    have g := hk _ _ _ _ _ _ hs ad H locs L (C.stk (vokc (show Rng _ from rng_of _) h2)) e0 e1 hS
    rw [List.map_cons, show cv ad (.inl (bAnd x y)) = .int _ from congrArg Value.int (iw_of _)] at g
    exact g
  · simp only [rowA, il] at hrow
    obtain ⟨hd, rfl⟩ := dec1_spec hrow
    obtain ⟨x, y, r, rfl, hs⟩ := two_spec hs
    intro ad H locs L C e0 e1 hS
    obtain ⟨hy, hxx, h2⟩ := vok2 C.st
    refine lv_ior hx hb hd ?_
    have g := hk _ _ _ _ _ _ hs ad H locs L (C.stk (vokc (show Rng _ from rng_of _) h2)) e0 e1 hS
    rw [List.map_cons, show cv ad (.inl (bOr x y)) = .int _ from congrArg Value.int (iw_of _)] at g
    exact g
  · simp only [rowA, il] at hrow
    obtain ⟨hd, rfl⟩ := dec1_spec hrow
    obtain ⟨x, y, r, rfl, hs⟩ := two_spec hs
    intro ad H locs L C e0 e1 hS
    obtain ⟨hy, hxx, h2⟩ := vok2 C.st
    refine lv_ixor hx hb hd ?_
    have g := hk _ _ _ _ _ _ hs ad H locs L (C.stk (vokc (show Rng _ from rng_of _) h2)) e0 e1 hS
    rw [List.map_cons, show cv ad (.inl (bXor x y)) = .int _ from congrArg Value.int (iw_of _)] at g
    exact g
  · simp only [rowA, il] at hrow
    obtain ⟨hd, rfl⟩ := dec1_spec hrow
    obtain ⟨x, y, r, rfl, hs⟩ := two_spec hs
    intro ad H locs L C e0 e1 hS
    obtain ⟨hy, hxx, h2⟩ := vok2 C.st
    refine lv_ishl hx hb hd ?_
    have g := hk _ _ _ _ _ _ hs ad H locs L (C.stk (vokc (show Rng _ from rng_of _) h2)) e0 e1 hS
    rw [List.map_cons, show cv ad (.inl (sShl x y)) = .int _ from congrArg Value.int (iw_of _)] at g
    exact g
  · simp only [rowA, il] at hrow
    obtain ⟨hd, rfl⟩ := dec1_spec hrow
    obtain ⟨x, y, r, rfl, hs⟩ := two_spec hs
    intro ad H locs L C e0 e1 hS
    obtain ⟨hy, hxx, h2⟩ := vok2 C.st
    refine lv_ishr hx hb hd ?_
    have g := hk _ _ _ _ _ _ hs ad H locs L (C.stk (vokc (show Rng _ from rng_of _) h2)) e0 e1 hS
    rw [List.map_cons, show cv ad (.inl (sShr x y)) = .int _ from congrArg Value.int (iw_of _)] at g
    exact g
  · simp only [rowA, il] at hrow
    obtain ⟨hd, rfl⟩ := dec1_spec hrow
    obtain ⟨x, r, rfl, hs⟩ := oneI_spec hs
    intro ad H locs L C e0 e1 hS
    refine lv_ineg hx hb hd ?_
    rw [← iw_neg]
    exact hk _ _ _ _ _ _ hs.2 ad H locs L (C.stk (vokc hs.1 (vok1 C.st).2)) e0 e1 hS
  · simp only [rowA, il] at hrow
    obtain ⟨hd, rfl⟩ := dec1_spec hrow
    obtain ⟨x, r, rfl, hs⟩ := oneI_spec hs
    intro ad H locs L C e0 e1 hS
    refine lv_i2l hx hb hd rfl ?_
    exact hk _ _ _ _ _ _ hs ad H locs L (C.stk (vokc trivial (vok1 C.st).2)) e0 e1 hS
  · simp only [rowA, il] at hrow
    obtain ⟨hd, rfl⟩ := dec1_spec hrow
    obtain ⟨x, r, rfl, hs⟩ := oneL_spec hs
    intro ad H locs L C e0 e1 hS
    refine lv_l2i hx hb hd rfl ?_
    have g := hk _ _ _ _ _ _ hs ad H locs L (C.stk (vokc (show Rng _ from rng_of _) (vok1 C.st).2)) e0 e1 hS
    rw [List.map_cons, show cv ad (.inl (l2I x)) = .int _ from congrArg Value.int (iw_of _)] at g
    exact g
  · simp only [rowA, il] at hrow
    obtain ⟨hd, rfl⟩ := dec1_spec hrow
    obtain ⟨x, y, r, rfl, hs⟩ := twoL_spec hs
    intro ad H locs L C e0 e1 hS
    refine lv_ladd hx hb hd ?_
    exact hk _ _ _ _ _ _ hs ad H locs L (C.stk (vokc trivial (vok2 C.st).2.2)) e0 e1 hS
  · simp only [rowA, il] at hrow
    obtain ⟨hd, rfl⟩ := dec1_spec hrow
    obtain ⟨x, y, r, rfl, hs⟩ := twoL_spec hs
    intro ad H locs L C e0 e1 hS
    refine lv_lsub hx hb hd ?_
    exact hk _ _ _ _ _ _ hs ad H locs L (C.stk (vokc trivial (vok2 C.st).2.2)) e0 e1 hS
  · simp only [rowA, il] at hrow
    obtain ⟨hd, rfl⟩ := dec1_spec hrow
    obtain ⟨x, y, r, rfl, hs⟩ := twoL_spec hs
    intro ad H locs L C e0 e1 hS
    refine lv_lmul hx hb hd ?_
    exact hk _ _ _ _ _ _ hs ad H locs L (C.stk (vokc trivial (vok2 C.st).2.2)) e0 e1 hS
  · simp only [rowA, il] at hrow
    obtain ⟨hd, rfl⟩ := dec1_spec hrow
    obtain ⟨x, y, r, rfl, hs⟩ := twoL_spec hs
    intro ad H locs L C e0 e1 hS
    refine lv_land hx hb hd ?_
    exact hk _ _ _ _ _ _ hs ad H locs L (C.stk (vokc trivial (vok2 C.st).2.2)) e0 e1 hS
  · simp only [rowA, il] at hrow
    obtain ⟨hd, rfl⟩ := dec1_spec hrow
    obtain ⟨x, y, r, rfl, hs⟩ := twoL_spec hs
    intro ad H locs L C e0 e1 hS
    refine lv_lor hx hb hd ?_
    exact hk _ _ _ _ _ _ hs ad H locs L (C.stk (vokc trivial (vok2 C.st).2.2)) e0 e1 hS
  · simp only [rowA, il] at hrow
    obtain ⟨hd, rfl⟩ := dec1_spec hrow
    obtain ⟨x, y, r, rfl, hs⟩ := twoL_spec hs
    intro ad H locs L C e0 e1 hS
    refine lv_lxor hx hb hd ?_
    exact hk _ _ _ _ _ _ hs ad H locs L (C.stk (vokc trivial (vok2 C.st).2.2)) e0 e1 hS
  · simp only [rowA, il] at hrow
    obtain ⟨hd, rfl⟩ := dec1_spec hrow
    obtain ⟨x, y, r, rfl, hs⟩ := twoL_spec hs
    intro ad H locs L C e0 e1 hS
    refine W.lcmp hx hb hd ?_
    rw [← iw_cmp]
    exact hk _ _ _ _ _ _ hs ad H locs L (C.stk (vokc (show Rng _ from rng_cmp _ _) (vok2 C.st).2.2)) e0 e1 hS
  · simp only [rowA, il] at hrow
    obtain ⟨hd, rfl⟩ := dec1_spec hrow
    obtain ⟨x, r, rfl, hs⟩ := oneL_spec hs
    intro ad H locs L C e0 e1 hS
    refine lv_lneg hx hb hd ?_
    exact hk _ _ _ _ _ _ hs ad H locs L (C.stk (vokc trivial (vok1 C.st).2)) e0 e1 hS
  · simp only [rowA, il] at hrow
    obtain ⟨hd, rfl⟩ := dec1_spec hrow
    obtain ⟨x, y, r, rfl, hs⟩ := shf_spec hs
    intro ad H locs L C e0 e1 hS
    refine lv_lshl hx hb hd rfl ?_
    exact hk _ _ _ _ _ _ hs ad H locs L (C.stk (vokc trivial (vok2 C.st).2.2)) e0 e1 hS
  · simp only [rowA, il] at hrow
    obtain ⟨hd, rfl⟩ := dec1_spec hrow
    obtain ⟨x, y, r, rfl, hs⟩ := shf_spec hs
    intro ad H locs L C e0 e1 hS
    refine lv_lshr hx hb hd rfl ?_
    exact hk _ _ _ _ _ _ hs ad H locs L (C.stk (vokc trivial (vok2 C.st).2.2)) e0 e1 hS
  · simp only [rowA, il] at hrow
    obtain ⟨hd, rfl⟩ := dec1_spec hrow
    obtain ⟨x, y, r, rfl, hs⟩ := shf_spec hs
    intro ad H locs L C e0 e1 hS
    refine lv_lushr hx hb hd rfl ?_
    exact hk _ _ _ _ _ _ hs ad H locs L (C.stk (vokc trivial (vok2 C.st).2.2)) e0 e1 hS
  · exact ho hs
end Ctx
end
