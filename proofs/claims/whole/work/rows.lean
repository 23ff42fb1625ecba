section
-- ===== PART A: goes FIRST, ahead of the names: the tables' words, and 'selects' of the private methods out of them =====
/-- a private method of a class that the tables say can be made, by its rows of tables_1 -/
def lw_okq (q : MethodName × Nat) : Prop := (q.1.cls ≠ "java/lang/invoke/MethodHandle" ∧ q.1.cls ≠ "java/lang/invoke/VarHandle") ∧ Cond.instantiable q.1.cls q.2 ∈ tables_1 ∧ Cond.privateMethod q.1 ∈ tables_1 ∧ Cond.instanceMethod q.1 ∈ tables_1
theorem lw_p0 : lw_okq (⟨"WordSolver$Search", "findModels", "()V"⟩, 10) := ⟨⟨by decide +kernel, by decide +kernel⟩, List.mem_of_getElem? (i := 141) (by decide +kernel), List.mem_of_getElem? (i := 307) (by decide +kernel), List.mem_of_getElem? (i := 308) (by decide +kernel)⟩
theorem lw_p1 : lw_okq (⟨"WordSolver$Search", "constraintCones", "()J"⟩, 10) := ⟨⟨by decide +kernel, by decide +kernel⟩, List.mem_of_getElem? (i := 141) (by decide +kernel), List.mem_of_getElem? (i := 311) (by decide +kernel), List.mem_of_getElem? (i := 312) (by decide +kernel)⟩
theorem lw_p2 : lw_okq (⟨"WordSolver$Lanes", "runNode", "(II)V"⟩, 3) := ⟨⟨by decide +kernel, by decide +kernel⟩, List.mem_of_getElem? (i := 124) (by decide +kernel), List.mem_of_getElem? (i := 351) (by decide +kernel), List.mem_of_getElem? (i := 352) (by decide +kernel)⟩
theorem lw_p3 : lw_okq (⟨"WordSolver$Lanes", "constantWord", "(III)V"⟩, 3) := ⟨⟨by decide +kernel, by decide +kernel⟩, List.mem_of_getElem? (i := 124) (by decide +kernel), List.mem_of_getElem? (i := 356) (by decide +kernel), List.mem_of_getElem? (i := 357) (by decide +kernel)⟩
theorem lw_p4 : lw_okq (⟨"WordSolver$Lanes", "variableWord", "(IIII)V"⟩, 3) := ⟨⟨by decide +kernel, by decide +kernel⟩, List.mem_of_getElem? (i := 124) (by decide +kernel), List.mem_of_getElem? (i := 371) (by decide +kernel), List.mem_of_getElem? (i := 372) (by decide +kernel)⟩
theorem lw_p5 : lw_okq (⟨"WordSolver$Lanes", "calculate", "(IIIII)V"⟩, 3) := ⟨⟨by decide +kernel, by decide +kernel⟩, List.mem_of_getElem? (i := 124) (by decide +kernel), List.mem_of_getElem? (i := 377) (by decide +kernel), List.mem_of_getElem? (i := 378) (by decide +kernel)⟩
theorem lw_p6 : lw_okq (⟨"WordSolver$Lanes", "add", "(IIII)V"⟩, 3) := ⟨⟨by decide +kernel, by decide +kernel⟩, List.mem_of_getElem? (i := 124) (by decide +kernel), List.mem_of_getElem? (i := 381) (by decide +kernel), List.mem_of_getElem? (i := 382) (by decide +kernel)⟩
theorem lw_p7 : lw_okq (⟨"WordSolver$Lanes", "subtract", "(IIII)V"⟩, 3) := ⟨⟨by decide +kernel, by decide +kernel⟩, List.mem_of_getElem? (i := 124) (by decide +kernel), List.mem_of_getElem? (i := 385) (by decide +kernel), List.mem_of_getElem? (i := 386) (by decide +kernel)⟩
theorem lw_p8 : lw_okq (⟨"WordSolver$Lanes", "multiply", "(IIII)V"⟩, 3) := ⟨⟨by decide +kernel, by decide +kernel⟩, List.mem_of_getElem? (i := 124) (by decide +kernel), List.mem_of_getElem? (i := 390) (by decide +kernel), List.mem_of_getElem? (i := 391) (by decide +kernel)⟩
theorem lw_p9 : lw_okq (⟨"WordSolver$Lanes", "combine", "(IIIII)V"⟩, 3) := ⟨⟨by decide +kernel, by decide +kernel⟩, List.mem_of_getElem? (i := 124) (by decide +kernel), List.mem_of_getElem? (i := 394) (by decide +kernel), List.mem_of_getElem? (i := 395) (by decide +kernel)⟩
theorem lw_p10 : lw_okq (⟨"WordSolver$Lanes", "shift", "(IIIII)V"⟩, 3) := ⟨⟨by decide +kernel, by decide +kernel⟩, List.mem_of_getElem? (i := 124) (by decide +kernel), List.mem_of_getElem? (i := 398) (by decide +kernel), List.mem_of_getElem? (i := 399) (by decide +kernel)⟩
theorem lw_p11 : lw_okq (⟨"WordSolver$Lanes", "shiftLeft", "(IIIJ)V"⟩, 3) := ⟨⟨by decide +kernel, by decide +kernel⟩, List.mem_of_getElem? (i := 124) (by decide +kernel), List.mem_of_getElem? (i := 402) (by decide +kernel), List.mem_of_getElem? (i := 403) (by decide +kernel)⟩
theorem lw_p12 : lw_okq (⟨"WordSolver$Lanes", "shiftRight", "(IIIJJ)V"⟩, 3) := ⟨⟨by decide +kernel, by decide +kernel⟩, List.mem_of_getElem? (i := 124) (by decide +kernel), List.mem_of_getElem? (i := 406) (by decide +kernel), List.mem_of_getElem? (i := 407) (by decide +kernel)⟩
theorem lw_p13 : lw_okq (⟨"WordSolver$Lanes", "divide", "(IIIII)V"⟩, 3) := ⟨⟨by decide +kernel, by decide +kernel⟩, List.mem_of_getElem? (i := 124) (by decide +kernel), List.mem_of_getElem? (i := 410) (by decide +kernel), List.mem_of_getElem? (i := 411) (by decide +kernel)⟩
theorem lw_p14 : lw_okq (⟨"WordSolver$Lanes", "borrowFromRest", "(III)J"⟩, 3) := ⟨⟨by decide +kernel, by decide +kernel⟩, List.mem_of_getElem? (i := 124) (by decide +kernel), List.mem_of_getElem? (i := 414) (by decide +kernel), List.mem_of_getElem? (i := 415) (by decide +kernel)⟩
theorem lw_p15 : lw_okq (⟨"WordSolver$Lanes", "anyBit", "(III)J"⟩, 3) := ⟨⟨by decide +kernel, by decide +kernel⟩, List.mem_of_getElem? (i := 124) (by decide +kernel), List.mem_of_getElem? (i := 418) (by decide +kernel), List.mem_of_getElem? (i := 419) (by decide +kernel)⟩
def lw_privs_1 : List (MethodName × Nat) := [(⟨"WordSolver$Search", "findModels", "()V"⟩, 10), (⟨"WordSolver$Search", "constraintCones", "()J"⟩, 10), (⟨"WordSolver$Lanes", "runNode", "(II)V"⟩, 3), (⟨"WordSolver$Lanes", "constantWord", "(III)V"⟩, 3), (⟨"WordSolver$Lanes", "variableWord", "(IIII)V"⟩, 3), (⟨"WordSolver$Lanes", "calculate", "(IIIII)V"⟩, 3), (⟨"WordSolver$Lanes", "add", "(IIII)V"⟩, 3), (⟨"WordSolver$Lanes", "subtract", "(IIII)V"⟩, 3), (⟨"WordSolver$Lanes", "multiply", "(IIII)V"⟩, 3), (⟨"WordSolver$Lanes", "combine", "(IIIII)V"⟩, 3), (⟨"WordSolver$Lanes", "shift", "(IIIII)V"⟩, 3), (⟨"WordSolver$Lanes", "shiftLeft", "(IIIJ)V"⟩, 3), (⟨"WordSolver$Lanes", "shiftRight", "(IIIJJ)V"⟩, 3), (⟨"WordSolver$Lanes", "divide", "(IIIII)V"⟩, 3), (⟨"WordSolver$Lanes", "borrowFromRest", "(III)J"⟩, 3), (⟨"WordSolver$Lanes", "anyBit", "(III)J"⟩, 3)]
theorem lw_r1 : ∀ q ∈ lw_privs_1, lw_okq q := List.forall_mem_cons.mpr ⟨lw_p0, List.forall_mem_cons.mpr ⟨lw_p1, List.forall_mem_cons.mpr ⟨lw_p2, List.forall_mem_cons.mpr ⟨lw_p3, List.forall_mem_cons.mpr ⟨lw_p4, List.forall_mem_cons.mpr ⟨lw_p5, List.forall_mem_cons.mpr ⟨lw_p6, List.forall_mem_cons.mpr ⟨lw_p7, List.forall_mem_cons.mpr ⟨lw_p8, List.forall_mem_cons.mpr ⟨lw_p9, List.forall_mem_cons.mpr ⟨lw_p10, List.forall_mem_cons.mpr ⟨lw_p11, List.forall_mem_cons.mpr ⟨lw_p12, List.forall_mem_cons.mpr ⟨lw_p13, List.forall_mem_cons.mpr ⟨lw_p14, List.forall_mem_cons.mpr ⟨lw_p15, fun _ h => absurd h List.not_mem_nil⟩⟩⟩⟩⟩⟩⟩⟩⟩⟩⟩⟩⟩⟩⟩⟩
theorem lw_p16 : lw_okq (⟨"WordSolver$Lanes", "takeFromRest", "(IIIJ)V"⟩, 3) := ⟨⟨by decide +kernel, by decide +kernel⟩, List.mem_of_getElem? (i := 124) (by decide +kernel), List.mem_of_getElem? (i := 422) (by decide +kernel), List.mem_of_getElem? (i := 423) (by decide +kernel)⟩
theorem lw_p17 : lw_okq (⟨"WordSolver$Lanes", "compare", "(IIII)J"⟩, 3) := ⟨⟨by decide +kernel, by decide +kernel⟩, List.mem_of_getElem? (i := 124) (by decide +kernel), List.mem_of_getElem? (i := 426) (by decide +kernel), List.mem_of_getElem? (i := 427) (by decide +kernel)⟩
theorem lw_p18 : lw_okq (⟨"WordSolver$Lanes", "differs", "(III)J"⟩, 3) := ⟨⟨by decide +kernel, by decide +kernel⟩, List.mem_of_getElem? (i := 124) (by decide +kernel), List.mem_of_getElem? (i := 430) (by decide +kernel), List.mem_of_getElem? (i := 431) (by decide +kernel)⟩
theorem lw_p19 : lw_okq (⟨"WordSolver$Lanes", "less", "(IIIZ)J"⟩, 3) := ⟨⟨by decide +kernel, by decide +kernel⟩, List.mem_of_getElem? (i := 124) (by decide +kernel), List.mem_of_getElem? (i := 434) (by decide +kernel), List.mem_of_getElem? (i := 435) (by decide +kernel)⟩
theorem lw_p20 : lw_okq (⟨"WordSolver$Lanes", "choose", "(IIIII)V"⟩, 3) := ⟨⟨by decide +kernel, by decide +kernel⟩, List.mem_of_getElem? (i := 124) (by decide +kernel), List.mem_of_getElem? (i := 438) (by decide +kernel), List.mem_of_getElem? (i := 439) (by decide +kernel)⟩
theorem lw_p21 : lw_okq (⟨"WordSolver$Lanes", "rearrange", "(IIIII)V"⟩, 3) := ⟨⟨by decide +kernel, by decide +kernel⟩, List.mem_of_getElem? (i := 124) (by decide +kernel), List.mem_of_getElem? (i := 442) (by decide +kernel), List.mem_of_getElem? (i := 443) (by decide +kernel)⟩
theorem lw_p22 : lw_okq (⟨"WordSolver$Lanes", "move", "(III)V"⟩, 3) := ⟨⟨by decide +kernel, by decide +kernel⟩, List.mem_of_getElem? (i := 124) (by decide +kernel), List.mem_of_getElem? (i := 446) (by decide +kernel), List.mem_of_getElem? (i := 447) (by decide +kernel)⟩
theorem lw_p23 : lw_okq (⟨"WordSolver$Lanes", "invert", "(III)V"⟩, 3) := ⟨⟨by decide +kernel, by decide +kernel⟩, List.mem_of_getElem? (i := 124) (by decide +kernel), List.mem_of_getElem? (i := 450) (by decide +kernel), List.mem_of_getElem? (i := 451) (by decide +kernel)⟩
theorem lw_p24 : lw_okq (⟨"WordSolver$Lanes", "negate", "(III)V"⟩, 3) := ⟨⟨by decide +kernel, by decide +kernel⟩, List.mem_of_getElem? (i := 124) (by decide +kernel), List.mem_of_getElem? (i := 454) (by decide +kernel), List.mem_of_getElem? (i := 455) (by decide +kernel)⟩
theorem lw_p25 : lw_okq (⟨"WordSolver$Lanes", "fillUp", "(IIIJ)V"⟩, 3) := ⟨⟨by decide +kernel, by decide +kernel⟩, List.mem_of_getElem? (i := 124) (by decide +kernel), List.mem_of_getElem? (i := 458) (by decide +kernel), List.mem_of_getElem? (i := 459) (by decide +kernel)⟩
theorem lw_p26 : lw_okq (⟨"WordSolver$Search", "allConstraints", "()J"⟩, 10) := ⟨⟨by decide +kernel, by decide +kernel⟩, List.mem_of_getElem? (i := 141) (by decide +kernel), List.mem_of_getElem? (i := 462) (by decide +kernel), List.mem_of_getElem? (i := 463) (by decide +kernel)⟩
theorem lw_p27 : lw_okq (⟨"WordSolver$Search", "filledRows", "()[J"⟩, 10) := ⟨⟨by decide +kernel, by decide +kernel⟩, List.mem_of_getElem? (i := 141) (by decide +kernel), List.mem_of_getElem? (i := 488) (by decide +kernel), List.mem_of_getElem? (i := 489) (by decide +kernel)⟩
theorem lw_p28 : lw_okq (⟨"WordSolver$Search", "isConflict", "([JI)Z"⟩, 10) := ⟨⟨by decide +kernel, by decide +kernel⟩, List.mem_of_getElem? (i := 141) (by decide +kernel), List.mem_of_getElem? (i := 495) (by decide +kernel), List.mem_of_getElem? (i := 496) (by decide +kernel)⟩
theorem lw_p29 : lw_okq (⟨"WordSolver", "remember", "()V"⟩, 8) := ⟨⟨by decide +kernel, by decide +kernel⟩, List.mem_of_getElem? (i := 26) (by decide +kernel), List.mem_of_getElem? (i := 503) (by decide +kernel), List.mem_of_getElem? (i := 504) (by decide +kernel)⟩
theorem lw_p30 : lw_okq (⟨"WordSolver$History", "dropOldest", "()V"⟩, 2) := ⟨⟨by decide +kernel, by decide +kernel⟩, List.mem_of_getElem? (i := 108) (by decide +kernel), List.mem_of_getElem? (i := 511) (by decide +kernel), List.mem_of_getElem? (i := 512) (by decide +kernel)⟩
theorem lw_p31 : lw_okq (⟨"WordSolver$Search", "goalWidth", "(II)I"⟩, 10) := ⟨⟨by decide +kernel, by decide +kernel⟩, List.mem_of_getElem? (i := 141) (by decide +kernel), List.mem_of_getElem? (i := 530) (by decide +kernel), List.mem_of_getElem? (i := 531) (by decide +kernel)⟩
def lw_privs_2 : List (MethodName × Nat) := [(⟨"WordSolver$Lanes", "takeFromRest", "(IIIJ)V"⟩, 3), (⟨"WordSolver$Lanes", "compare", "(IIII)J"⟩, 3), (⟨"WordSolver$Lanes", "differs", "(III)J"⟩, 3), (⟨"WordSolver$Lanes", "less", "(IIIZ)J"⟩, 3), (⟨"WordSolver$Lanes", "choose", "(IIIII)V"⟩, 3), (⟨"WordSolver$Lanes", "rearrange", "(IIIII)V"⟩, 3), (⟨"WordSolver$Lanes", "move", "(III)V"⟩, 3), (⟨"WordSolver$Lanes", "invert", "(III)V"⟩, 3), (⟨"WordSolver$Lanes", "negate", "(III)V"⟩, 3), (⟨"WordSolver$Lanes", "fillUp", "(IIIJ)V"⟩, 3), (⟨"WordSolver$Search", "allConstraints", "()J"⟩, 10), (⟨"WordSolver$Search", "filledRows", "()[J"⟩, 10), (⟨"WordSolver$Search", "isConflict", "([JI)Z"⟩, 10), (⟨"WordSolver", "remember", "()V"⟩, 8), (⟨"WordSolver$History", "dropOldest", "()V"⟩, 2), (⟨"WordSolver$Search", "goalWidth", "(II)I"⟩, 10)]
theorem lw_r2 : ∀ q ∈ lw_privs_2, lw_okq q := List.forall_mem_cons.mpr ⟨lw_p16, List.forall_mem_cons.mpr ⟨lw_p17, List.forall_mem_cons.mpr ⟨lw_p18, List.forall_mem_cons.mpr ⟨lw_p19, List.forall_mem_cons.mpr ⟨lw_p20, List.forall_mem_cons.mpr ⟨lw_p21, List.forall_mem_cons.mpr ⟨lw_p22, List.forall_mem_cons.mpr ⟨lw_p23, List.forall_mem_cons.mpr ⟨lw_p24, List.forall_mem_cons.mpr ⟨lw_p25, List.forall_mem_cons.mpr ⟨lw_p26, List.forall_mem_cons.mpr ⟨lw_p27, List.forall_mem_cons.mpr ⟨lw_p28, List.forall_mem_cons.mpr ⟨lw_p29, List.forall_mem_cons.mpr ⟨lw_p30, List.forall_mem_cons.mpr ⟨lw_p31, fun _ h => absurd h List.not_mem_nil⟩⟩⟩⟩⟩⟩⟩⟩⟩⟩⟩⟩⟩⟩⟩⟩
theorem lw_p32 : lw_okq (⟨"WordSolver$Search", "wishCones", "()J"⟩, 10) := ⟨⟨by decide +kernel, by decide +kernel⟩, List.mem_of_getElem? (i := 141) (by decide +kernel), List.mem_of_getElem? (i := 538) (by decide +kernel), List.mem_of_getElem? (i := 539) (by decide +kernel)⟩
theorem lw_p33 : lw_okq (⟨"WordSolver$Search", "setGoal", "(IIII)V"⟩, 10) := ⟨⟨by decide +kernel, by decide +kernel⟩, List.mem_of_getElem? (i := 141) (by decide +kernel), List.mem_of_getElem? (i := 542) (by decide +kernel), List.mem_of_getElem? (i := 543) (by decide +kernel)⟩
theorem lw_p34 : lw_okq (⟨"WordSolver$Lanes", "addToGoal", "(IJ)V"⟩, 3) := ⟨⟨by decide +kernel, by decide +kernel⟩, List.mem_of_getElem? (i := 124) (by decide +kernel), List.mem_of_getElem? (i := 559) (by decide +kernel), List.mem_of_getElem? (i := 560) (by decide +kernel)⟩
theorem lw_p35 : lw_okq (⟨"WordSolver$Search", "climbIn", "(II)V"⟩, 10) := ⟨⟨by decide +kernel, by decide +kernel⟩, List.mem_of_getElem? (i := 141) (by decide +kernel), List.mem_of_getElem? (i := 563) (by decide +kernel), List.mem_of_getElem? (i := 564) (by decide +kernel)⟩
theorem lw_p36 : lw_okq (⟨"WordSolver$Parser", "takeNext", "()V"⟩, 13) := ⟨⟨by decide +kernel, by decide +kernel⟩, List.mem_of_getElem? (i := 192) (by decide +kernel), List.mem_of_getElem? (i := 596) (by decide +kernel), List.mem_of_getElem? (i := 597) (by decide +kernel)⟩
theorem lw_p37 : lw_okq (⟨"WordSolver$Parser", "isWhole", "()Z"⟩, 13) := ⟨⟨by decide +kernel, by decide +kernel⟩, List.mem_of_getElem? (i := 192) (by decide +kernel), List.mem_of_getElem? (i := 604) (by decide +kernel), List.mem_of_getElem? (i := 605) (by decide +kernel)⟩
theorem lw_p38 : lw_okq (⟨"WordSolver$Parser", "wantsNode", "()Z"⟩, 13) := ⟨⟨by decide +kernel, by decide +kernel⟩, List.mem_of_getElem? (i := 192) (by decide +kernel), List.mem_of_getElem? (i := 608) (by decide +kernel), List.mem_of_getElem? (i := 609) (by decide +kernel)⟩
theorem lw_p39 : lw_okq (⟨"WordSolver$Parser", "takeOpening", "()V"⟩, 13) := ⟨⟨by decide +kernel, by decide +kernel⟩, List.mem_of_getElem? (i := 192) (by decide +kernel), List.mem_of_getElem? (i := 612) (by decide +kernel), List.mem_of_getElem? (i := 613) (by decide +kernel)⟩
theorem lw_p40 : lw_okq (⟨"WordSolver$Parser", "skipSpaces", "()V"⟩, 13) := ⟨⟨by decide +kernel, by decide +kernel⟩, List.mem_of_getElem? (i := 192) (by decide +kernel), List.mem_of_getElem? (i := 616) (by decide +kernel), List.mem_of_getElem? (i := 617) (by decide +kernel)⟩
theorem lw_p41 : lw_okq (⟨"WordSolver$Parser", "isWordLetter", "(I)Z"⟩, 13) := ⟨⟨by decide +kernel, by decide +kernel⟩, List.mem_of_getElem? (i := 192) (by decide +kernel), List.mem_of_getElem? (i := 620) (by decide +kernel), List.mem_of_getElem? (i := 621) (by decide +kernel)⟩
theorem lw_p42 : lw_okq (⟨"WordSolver$Parser", "takeLeaf", "()V"⟩, 13) := ⟨⟨by decide +kernel, by decide +kernel⟩, List.mem_of_getElem? (i := 192) (by decide +kernel), List.mem_of_getElem? (i := 692) (by decide +kernel), List.mem_of_getElem? (i := 693) (by decide +kernel)⟩
theorem lw_p43 : lw_okq (⟨"WordSolver$Parser", "takeDigit", "()I"⟩, 13) := ⟨⟨by decide +kernel, by decide +kernel⟩, List.mem_of_getElem? (i := 192) (by decide +kernel), List.mem_of_getElem? (i := 696) (by decide +kernel), List.mem_of_getElem? (i := 697) (by decide +kernel)⟩
theorem lw_p44 : lw_okq (⟨"WordSolver$Parser", "addStep", "(III)V"⟩, 13) := ⟨⟨by decide +kernel, by decide +kernel⟩, List.mem_of_getElem? (i := 192) (by decide +kernel), List.mem_of_getElem? (i := 700) (by decide +kernel), List.mem_of_getElem? (i := 701) (by decide +kernel)⟩
theorem lw_p45 : lw_okq (⟨"WordSolver$Parser", "takeConstant", "()V"⟩, 13) := ⟨⟨by decide +kernel, by decide +kernel⟩, List.mem_of_getElem? (i := 192) (by decide +kernel), List.mem_of_getElem? (i := 704) (by decide +kernel), List.mem_of_getElem? (i := 705) (by decide +kernel)⟩
theorem lw_p46 : lw_okq (⟨"WordSolver$Parser", "takeWantedDigit", "()V"⟩, 13) := ⟨⟨by decide +kernel, by decide +kernel⟩, List.mem_of_getElem? (i := 192) (by decide +kernel), List.mem_of_getElem? (i := 708) (by decide +kernel), List.mem_of_getElem? (i := 709) (by decide +kernel)⟩
theorem lw_p47 : lw_okq (⟨"WordSolver$Parser", "takeClosing", "()V"⟩, 13) := ⟨⟨by decide +kernel, by decide +kernel⟩, List.mem_of_getElem? (i := 192) (by decide +kernel), List.mem_of_getElem? (i := 712) (by decide +kernel), List.mem_of_getElem? (i := 713) (by decide +kernel)⟩
def lw_privs_3 : List (MethodName × Nat) := [(⟨"WordSolver$Search", "wishCones", "()J"⟩, 10), (⟨"WordSolver$Search", "setGoal", "(IIII)V"⟩, 10), (⟨"WordSolver$Lanes", "addToGoal", "(IJ)V"⟩, 3), (⟨"WordSolver$Search", "climbIn", "(II)V"⟩, 10), (⟨"WordSolver$Parser", "takeNext", "()V"⟩, 13), (⟨"WordSolver$Parser", "isWhole", "()Z"⟩, 13), (⟨"WordSolver$Parser", "wantsNode", "()Z"⟩, 13), (⟨"WordSolver$Parser", "takeOpening", "()V"⟩, 13), (⟨"WordSolver$Parser", "skipSpaces", "()V"⟩, 13), (⟨"WordSolver$Parser", "isWordLetter", "(I)Z"⟩, 13), (⟨"WordSolver$Parser", "takeLeaf", "()V"⟩, 13), (⟨"WordSolver$Parser", "takeDigit", "()I"⟩, 13), (⟨"WordSolver$Parser", "addStep", "(III)V"⟩, 13), (⟨"WordSolver$Parser", "takeConstant", "()V"⟩, 13), (⟨"WordSolver$Parser", "takeWantedDigit", "()V"⟩, 13), (⟨"WordSolver$Parser", "takeClosing", "()V"⟩, 13)]
theorem lw_r3 : ∀ q ∈ lw_privs_3, lw_okq q := List.forall_mem_cons.mpr ⟨lw_p32, List.forall_mem_cons.mpr ⟨lw_p33, List.forall_mem_cons.mpr ⟨lw_p34, List.forall_mem_cons.mpr ⟨lw_p35, List.forall_mem_cons.mpr ⟨lw_p36, List.forall_mem_cons.mpr ⟨lw_p37, List.forall_mem_cons.mpr ⟨lw_p38, List.forall_mem_cons.mpr ⟨lw_p39, List.forall_mem_cons.mpr ⟨lw_p40, List.forall_mem_cons.mpr ⟨lw_p41, List.forall_mem_cons.mpr ⟨lw_p42, List.forall_mem_cons.mpr ⟨lw_p43, List.forall_mem_cons.mpr ⟨lw_p44, List.forall_mem_cons.mpr ⟨lw_p45, List.forall_mem_cons.mpr ⟨lw_p46, List.forall_mem_cons.mpr ⟨lw_p47, fun _ h => absurd h List.not_mem_nil⟩⟩⟩⟩⟩⟩⟩⟩⟩⟩⟩⟩⟩⟩⟩⟩
theorem lw_p48 : lw_okq (⟨"WordSolver", "hashNodes", "(J)J"⟩, 8) := ⟨⟨by decide +kernel, by decide +kernel⟩, List.mem_of_getElem? (i := 26) (by decide +kernel), List.mem_of_getElem? (i := 727) (by decide +kernel), List.mem_of_getElem? (i := 728) (by decide +kernel)⟩
theorem lw_p49 : lw_okq (⟨"WordSolver", "hashDemands", "(J)J"⟩, 8) := ⟨⟨by decide +kernel, by decide +kernel⟩, List.mem_of_getElem? (i := 26) (by decide +kernel), List.mem_of_getElem? (i := 753) (by decide +kernel), List.mem_of_getElem? (i := 754) (by decide +kernel)⟩
theorem lw_p50 : lw_okq (⟨"java/lang/Throwable", "fillInStackTrace", "(I)Ljava/lang/Throwable;"⟩, 6) := ⟨⟨by decide +kernel, by decide +kernel⟩, List.mem_of_getElem? (i := 824) (by decide +kernel), List.mem_of_getElem? (i := 822) (by decide +kernel), List.mem_of_getElem? (i := 823) (by decide +kernel)⟩
theorem lw_p51 : lw_okq (⟨"WordSolver$Graph", "draft", "(II)V"⟩, 5) := ⟨⟨by decide +kernel, by decide +kernel⟩, List.mem_of_getElem? (i := 34) (by decide +kernel), List.mem_of_getElem? (i := 857) (by decide +kernel), List.mem_of_getElem? (i := 858) (by decide +kernel)⟩
theorem lw_p52 : lw_okq (⟨"WordSolver$Graph", "put", "(II)V"⟩, 5) := ⟨⟨by decide +kernel, by decide +kernel⟩, List.mem_of_getElem? (i := 34) (by decide +kernel), List.mem_of_getElem? (i := 861) (by decide +kernel), List.mem_of_getElem? (i := 862) (by decide +kernel)⟩
theorem lw_p53 : lw_okq (⟨"WordSolver$Graph", "keepDraft", "()I"⟩, 5) := ⟨⟨by decide +kernel, by decide +kernel⟩, List.mem_of_getElem? (i := 34) (by decide +kernel), List.mem_of_getElem? (i := 865) (by decide +kernel), List.mem_of_getElem? (i := 866) (by decide +kernel)⟩
theorem lw_p54 : lw_okq (⟨"WordSolver$Graph", "isDrafted", "(I)Z"⟩, 5) := ⟨⟨by decide +kernel, by decide +kernel⟩, List.mem_of_getElem? (i := 34) (by decide +kernel), List.mem_of_getElem? (i := 869) (by decide +kernel), List.mem_of_getElem? (i := 870) (by decide +kernel)⟩
theorem lw_p55 : lw_okq (⟨"WordSolver", "keepMade", "(II)I"⟩, 8) := ⟨⟨by decide +kernel, by decide +kernel⟩, List.mem_of_getElem? (i := 26) (by decide +kernel), List.mem_of_getElem? (i := 873) (by decide +kernel), List.mem_of_getElem? (i := 874) (by decide +kernel)⟩
theorem lw_p56 : lw_okq (⟨"WordSolver", "demandNode", "(I)V"⟩, 8) := ⟨⟨by decide +kernel, by decide +kernel⟩, List.mem_of_getElem? (i := 26) (by decide +kernel), List.mem_of_getElem? (i := 923) (by decide +kernel), List.mem_of_getElem? (i := 924) (by decide +kernel)⟩
theorem lw_p57 : lw_okq (⟨"WordSolver$Graph", "binaryWidth", "(III)I"⟩, 5) := ⟨⟨by decide +kernel, by decide +kernel⟩, List.mem_of_getElem? (i := 34) (by decide +kernel), List.mem_of_getElem? (i := 949) (by decide +kernel), List.mem_of_getElem? (i := 950) (by decide +kernel)⟩
theorem lw_p58 : lw_okq (⟨"WordSolver", "demandVariable", "(I)V"⟩, 8) := ⟨⟨by decide +kernel, by decide +kernel⟩, List.mem_of_getElem? (i := 26) (by decide +kernel), List.mem_of_getElem? (i := 1025) (by decide +kernel), List.mem_of_getElem? (i := 1026) (by decide +kernel)⟩
theorem lw_p59 : lw_okq (⟨"WordSolver$Search", "bitsThatOccur", "(IIJJ)I"⟩, 10) := ⟨⟨by decide +kernel, by decide +kernel⟩, List.mem_of_getElem? (i := 141) (by decide +kernel), List.mem_of_getElem? (i := 1121) (by decide +kernel), List.mem_of_getElem? (i := 1122) (by decide +kernel)⟩
theorem lw_p60 : lw_okq (⟨"WordSolver$Search", "markWords", "(II)I"⟩, 10) := ⟨⟨by decide +kernel, by decide +kernel⟩, List.mem_of_getElem? (i := 141) (by decide +kernel), List.mem_of_getElem? (i := 1154) (by decide +kernel), List.mem_of_getElem? (i := 1155) (by decide +kernel)⟩
theorem lw_p61 : lw_okq (⟨"WordSolver", "demandSameWidth", "(II)V"⟩, 8) := ⟨⟨by decide +kernel, by decide +kernel⟩, List.mem_of_getElem? (i := 26) (by decide +kernel), List.mem_of_getElem? (i := 1177) (by decide +kernel), List.mem_of_getElem? (i := 1178) (by decide +kernel)⟩
theorem lw_p62 : lw_okq (⟨"WordSolver$Parser", "buildStep", "(LWordSolver$Graph;II)I"⟩, 13) := ⟨⟨by decide +kernel, by decide +kernel⟩, List.mem_of_getElem? (i := 192) (by decide +kernel), List.mem_of_getElem? (i := 1234) (by decide +kernel), List.mem_of_getElem? (i := 1235) (by decide +kernel)⟩
theorem lw_p63 : lw_okq (⟨"WordSolver$Writer", "lengthByOperands", "(I)I"⟩, 3) := ⟨⟨by decide +kernel, by decide +kernel⟩, List.mem_of_getElem? (i := 238) (by decide +kernel), List.mem_of_getElem? (i := 1261) (by decide +kernel), List.mem_of_getElem? (i := 1262) (by decide +kernel)⟩
def lw_privs_4 : List (MethodName × Nat) := [(⟨"WordSolver", "hashNodes", "(J)J"⟩, 8), (⟨"WordSolver", "hashDemands", "(J)J"⟩, 8), (⟨"java/lang/Throwable", "fillInStackTrace", "(I)Ljava/lang/Throwable;"⟩, 6), (⟨"WordSolver$Graph", "draft", "(II)V"⟩, 5), (⟨"WordSolver$Graph", "put", "(II)V"⟩, 5), (⟨"WordSolver$Graph", "keepDraft", "()I"⟩, 5), (⟨"WordSolver$Graph", "isDrafted", "(I)Z"⟩, 5), (⟨"WordSolver", "keepMade", "(II)I"⟩, 8), (⟨"WordSolver", "demandNode", "(I)V"⟩, 8), (⟨"WordSolver$Graph", "binaryWidth", "(III)I"⟩, 5), (⟨"WordSolver", "demandVariable", "(I)V"⟩, 8), (⟨"WordSolver$Search", "bitsThatOccur", "(IIJJ)I"⟩, 10), (⟨"WordSolver$Search", "markWords", "(II)I"⟩, 10), (⟨"WordSolver", "demandSameWidth", "(II)V"⟩, 8), (⟨"WordSolver$Parser", "buildStep", "(LWordSolver$Graph;II)I"⟩, 13), (⟨"WordSolver$Writer", "lengthByOperands", "(I)I"⟩, 3)]
theorem lw_r4 : ∀ q ∈ lw_privs_4, lw_okq q := List.forall_mem_cons.mpr ⟨lw_p48, List.forall_mem_cons.mpr ⟨lw_p49, List.forall_mem_cons.mpr ⟨lw_p50, List.forall_mem_cons.mpr ⟨lw_p51, List.forall_mem_cons.mpr ⟨lw_p52, List.forall_mem_cons.mpr ⟨lw_p53, List.forall_mem_cons.mpr ⟨lw_p54, List.forall_mem_cons.mpr ⟨lw_p55, List.forall_mem_cons.mpr ⟨lw_p56, List.forall_mem_cons.mpr ⟨lw_p57, List.forall_mem_cons.mpr ⟨lw_p58, List.forall_mem_cons.mpr ⟨lw_p59, List.forall_mem_cons.mpr ⟨lw_p60, List.forall_mem_cons.mpr ⟨lw_p61, List.forall_mem_cons.mpr ⟨lw_p62, List.forall_mem_cons.mpr ⟨lw_p63, fun _ h => absurd h List.not_mem_nil⟩⟩⟩⟩⟩⟩⟩⟩⟩⟩⟩⟩⟩⟩⟩⟩
theorem lw_p64 : lw_okq (⟨"WordSolver$Writer", "addNumber", "(I)V"⟩, 3) := ⟨⟨by decide +kernel, by decide +kernel⟩, List.mem_of_getElem? (i := 238) (by decide +kernel), List.mem_of_getElem? (i := 1278) (by decide +kernel), List.mem_of_getElem? (i := 1279) (by decide +kernel)⟩
theorem lw_p65 : lw_okq (⟨"WordSolver$Writer", "addWord", "(I)V"⟩, 3) := ⟨⟨by decide +kernel, by decide +kernel⟩, List.mem_of_getElem? (i := 238) (by decide +kernel), List.mem_of_getElem? (i := 1283) (by decide +kernel), List.mem_of_getElem? (i := 1284) (by decide +kernel)⟩
theorem lw_p66 : lw_okq (⟨"WordSolver$Writer", "addDigits", "(II)V"⟩, 3) := ⟨⟨by decide +kernel, by decide +kernel⟩, List.mem_of_getElem? (i := 238) (by decide +kernel), List.mem_of_getElem? (i := 1289) (by decide +kernel), List.mem_of_getElem? (i := 1290) (by decide +kernel)⟩
theorem lw_p67 : lw_okq (⟨"WordSolverModel", "refused", "(I)Z"⟩, 27) := ⟨⟨by decide +kernel, by decide +kernel⟩, List.mem_of_getElem? (i := 1305) (by decide +kernel), List.mem_of_getElem? (i := 1402) (by decide +kernel), List.mem_of_getElem? (i := 1403) (by decide +kernel)⟩
theorem lw_p68 : lw_okq (⟨"WordSolverModel", "bitsOfAll", "()I"⟩, 27) := ⟨⟨by decide +kernel, by decide +kernel⟩, List.mem_of_getElem? (i := 1305) (by decide +kernel), List.mem_of_getElem? (i := 1413) (by decide +kernel), List.mem_of_getElem? (i := 1414) (by decide +kernel)⟩
theorem lw_p69 : lw_okq (⟨"WordSolverModel", "width", "(I)I"⟩, 27) := ⟨⟨by decide +kernel, by decide +kernel⟩, List.mem_of_getElem? (i := 1305) (by decide +kernel), List.mem_of_getElem? (i := 1417) (by decide +kernel), List.mem_of_getElem? (i := 1418) (by decide +kernel)⟩
theorem lw_p70 : lw_okq (⟨"WordSolverModel", "of", "(II)I"⟩, 27) := ⟨⟨by decide +kernel, by decide +kernel⟩, List.mem_of_getElem? (i := 1305) (by decide +kernel), List.mem_of_getElem? (i := 1421) (by decide +kernel), List.mem_of_getElem? (i := 1422) (by decide +kernel)⟩
theorem lw_p71 : lw_okq (⟨"WordSolverModel", "saves", "()V"⟩, 27) := ⟨⟨by decide +kernel, by decide +kernel⟩, List.mem_of_getElem? (i := 1305) (by decide +kernel), List.mem_of_getElem? (i := 1425) (by decide +kernel), List.mem_of_getElem? (i := 1426) (by decide +kernel)⟩
theorem lw_p72 : lw_okq (⟨"WordSolverModel", "makes", "(IIIIIII)I"⟩, 27) := ⟨⟨by decide +kernel, by decide +kernel⟩, List.mem_of_getElem? (i := 1305) (by decide +kernel), List.mem_of_getElem? (i := 1429) (by decide +kernel), List.mem_of_getElem? (i := 1430) (by decide +kernel)⟩
theorem lw_p73 : lw_okq (⟨"WordSolverModel", "kind", "(I)I"⟩, 27) := ⟨⟨by decide +kernel, by decide +kernel⟩, List.mem_of_getElem? (i := 1305) (by decide +kernel), List.mem_of_getElem? (i := 1433) (by decide +kernel), List.mem_of_getElem? (i := 1434) (by decide +kernel)⟩
theorem lw_p74 : lw_okq (⟨"WordSolverModel", "madeBy", "(IIIIIIII)I"⟩, 27) := ⟨⟨by decide +kernel, by decide +kernel⟩, List.mem_of_getElem? (i := 1305) (by decide +kernel), List.mem_of_getElem? (i := 1447) (by decide +kernel), List.mem_of_getElem? (i := 1448) (by decide +kernel)⟩
theorem lw_p75 : lw_okq (⟨"WordSolverModel", "isNode", "(I)Z"⟩, 27) := ⟨⟨by decide +kernel, by decide +kernel⟩, List.mem_of_getElem? (i := 1305) (by decide +kernel), List.mem_of_getElem? (i := 1455) (by decide +kernel), List.mem_of_getElem? (i := 1456) (by decide +kernel)⟩
theorem lw_p76 : lw_okq (⟨"WordSolverModel", "fits", "(III)Z"⟩, 27) := ⟨⟨by decide +kernel, by decide +kernel⟩, List.mem_of_getElem? (i := 1305) (by decide +kernel), List.mem_of_getElem? (i := 1459) (by decide +kernel), List.mem_of_getElem? (i := 1460) (by decide +kernel)⟩
theorem lw_p77 : lw_okq (⟨"WordSolverModel", "widthBy", "(III)I"⟩, 27) := ⟨⟨by decide +kernel, by decide +kernel⟩, List.mem_of_getElem? (i := 1305) (by decide +kernel), List.mem_of_getElem? (i := 1463) (by decide +kernel), List.mem_of_getElem? (i := 1464) (by decide +kernel)⟩
theorem lw_p78 : lw_okq (⟨"WordSolverModel", "isSlice", "(III)Z"⟩, 27) := ⟨⟨by decide +kernel, by decide +kernel⟩, List.mem_of_getElem? (i := 1305) (by decide +kernel), List.mem_of_getElem? (i := 1475) (by decide +kernel), List.mem_of_getElem? (i := 1476) (by decide +kernel)⟩
theorem lw_p79 : lw_okq (⟨"WordSolverModel", "isExtended", "(II)Z"⟩, 27) := ⟨⟨by decide +kernel, by decide +kernel⟩, List.mem_of_getElem? (i := 1305) (by decide +kernel), List.mem_of_getElem? (i := 1483) (by decide +kernel), List.mem_of_getElem? (i := 1484) (by decide +kernel)⟩
def lw_privs_5 : List (MethodName × Nat) := [(⟨"WordSolver$Writer", "addNumber", "(I)V"⟩, 3), (⟨"WordSolver$Writer", "addWord", "(I)V"⟩, 3), (⟨"WordSolver$Writer", "addDigits", "(II)V"⟩, 3), (⟨"WordSolverModel", "refused", "(I)Z"⟩, 27), (⟨"WordSolverModel", "bitsOfAll", "()I"⟩, 27), (⟨"WordSolverModel", "width", "(I)I"⟩, 27), (⟨"WordSolverModel", "of", "(II)I"⟩, 27), (⟨"WordSolverModel", "saves", "()V"⟩, 27), (⟨"WordSolverModel", "makes", "(IIIIIII)I"⟩, 27), (⟨"WordSolverModel", "kind", "(I)I"⟩, 27), (⟨"WordSolverModel", "madeBy", "(IIIIIIII)I"⟩, 27), (⟨"WordSolverModel", "isNode", "(I)Z"⟩, 27), (⟨"WordSolverModel", "fits", "(III)Z"⟩, 27), (⟨"WordSolverModel", "widthBy", "(III)I"⟩, 27), (⟨"WordSolverModel", "isSlice", "(III)Z"⟩, 27), (⟨"WordSolverModel", "isExtended", "(II)Z"⟩, 27)]
theorem lw_r5 : ∀ q ∈ lw_privs_5, lw_okq q := List.forall_mem_cons.mpr ⟨lw_p64, List.forall_mem_cons.mpr ⟨lw_p65, List.forall_mem_cons.mpr ⟨lw_p66, List.forall_mem_cons.mpr ⟨lw_p67, List.forall_mem_cons.mpr ⟨lw_p68, List.forall_mem_cons.mpr ⟨lw_p69, List.forall_mem_cons.mpr ⟨lw_p70, List.forall_mem_cons.mpr ⟨lw_p71, List.forall_mem_cons.mpr ⟨lw_p72, List.forall_mem_cons.mpr ⟨lw_p73, List.forall_mem_cons.mpr ⟨lw_p74, List.forall_mem_cons.mpr ⟨lw_p75, List.forall_mem_cons.mpr ⟨lw_p76, List.forall_mem_cons.mpr ⟨lw_p77, List.forall_mem_cons.mpr ⟨lw_p78, List.forall_mem_cons.mpr ⟨lw_p79, fun _ h => absurd h List.not_mem_nil⟩⟩⟩⟩⟩⟩⟩⟩⟩⟩⟩⟩⟩⟩⟩⟩
theorem lw_p80 : lw_okq (⟨"WordSolverModel", "isChoice", "(III)Z"⟩, 27) := ⟨⟨by decide +kernel, by decide +kernel⟩, List.mem_of_getElem? (i := 1305) (by decide +kernel), List.mem_of_getElem? (i := 1491) (by decide +kernel), List.mem_of_getElem? (i := 1492) (by decide +kernel)⟩
theorem lw_p81 : lw_okq (⟨"WordSolverModel", "told", "(II)I"⟩, 27) := ⟨⟨by decide +kernel, by decide +kernel⟩, List.mem_of_getElem? (i := 1305) (by decide +kernel), List.mem_of_getElem? (i := 1507) (by decide +kernel), List.mem_of_getElem? (i := 1508) (by decide +kernel)⟩
theorem lw_p82 : lw_okq (⟨"WordSolverModel", "parts", "(I)I"⟩, 27) := ⟨⟨by decide +kernel, by decide +kernel⟩, List.mem_of_getElem? (i := 1305) (by decide +kernel), List.mem_of_getElem? (i := 1511) (by decide +kernel), List.mem_of_getElem? (i := 1512) (by decide +kernel)⟩
theorem lw_p83 : lw_okq (⟨"WordSolverModel", "isVariable", "(I)Z"⟩, 27) := ⟨⟨by decide +kernel, by decide +kernel⟩, List.mem_of_getElem? (i := 1305) (by decide +kernel), List.mem_of_getElem? (i := 1519) (by decide +kernel), List.mem_of_getElem? (i := 1520) (by decide +kernel)⟩
theorem lw_p84 : lw_okq (⟨"WordSolverModel", "need", "(Z)I"⟩, 27) := ⟨⟨by decide +kernel, by decide +kernel⟩, List.mem_of_getElem? (i := 1305) (by decide +kernel), List.mem_of_getElem? (i := 1527) (by decide +kernel), List.mem_of_getElem? (i := 1528) (by decide +kernel)⟩
theorem lw_p85 : lw_okq (⟨"WordSolverModel", "laysInputs", "()V"⟩, 27) := ⟨⟨by decide +kernel, by decide +kernel⟩, List.mem_of_getElem? (i := 1305) (by decide +kernel), List.mem_of_getElem? (i := 1531) (by decide +kernel), List.mem_of_getElem? (i := 1532) (by decide +kernel)⟩
theorem lw_p86 : lw_okq (⟨"WordSolverModel", "laysValues", "()V"⟩, 27) := ⟨⟨by decide +kernel, by decide +kernel⟩, List.mem_of_getElem? (i := 1305) (by decide +kernel), List.mem_of_getElem? (i := 1535) (by decide +kernel), List.mem_of_getElem? (i := 1536) (by decide +kernel)⟩
theorem lw_p87 : lw_okq (⟨"WordSolverModel", "valueOf", "(I)I"⟩, 27) := ⟨⟨by decide +kernel, by decide +kernel⟩, List.mem_of_getElem? (i := 1305) (by decide +kernel), List.mem_of_getElem? (i := 1539) (by decide +kernel), List.mem_of_getElem? (i := 1540) (by decide +kernel)⟩
theorem lw_p88 : lw_okq (⟨"WordSolverModel", "model", "(I)I"⟩, 27) := ⟨⟨by decide +kernel, by decide +kernel⟩, List.mem_of_getElem? (i := 1305) (by decide +kernel), List.mem_of_getElem? (i := 1576) (by decide +kernel), List.mem_of_getElem? (i := 1577) (by decide +kernel)⟩
theorem lw_p89 : lw_okq (⟨"WordSolverModel", "lays", "()V"⟩, 27) := ⟨⟨by decide +kernel, by decide +kernel⟩, List.mem_of_getElem? (i := 1305) (by decide +kernel), List.mem_of_getElem? (i := 1580) (by decide +kernel), List.mem_of_getElem? (i := 1581) (by decide +kernel)⟩
theorem lw_p90 : lw_okq (⟨"WordSolverModel", "laysAssignment", "(I)V"⟩, 27) := ⟨⟨by decide +kernel, by decide +kernel⟩, List.mem_of_getElem? (i := 1305) (by decide +kernel), List.mem_of_getElem? (i := 1584) (by decide +kernel), List.mem_of_getElem? (i := 1585) (by decide +kernel)⟩
theorem lw_p91 : lw_okq (⟨"WordSolverModel", "wordOf", "(II)I"⟩, 27) := ⟨⟨by decide +kernel, by decide +kernel⟩, List.mem_of_getElem? (i := 1305) (by decide +kernel), List.mem_of_getElem? (i := 1592) (by decide +kernel), List.mem_of_getElem? (i := 1593) (by decide +kernel)⟩
theorem lw_p92 : lw_okq (⟨"WordSolverModel", "extremeModel", "(IZZ)I"⟩, 27) := ⟨⟨by decide +kernel, by decide +kernel⟩, List.mem_of_getElem? (i := 1305) (by decide +kernel), List.mem_of_getElem? (i := 1600) (by decide +kernel), List.mem_of_getElem? (i := 1601) (by decide +kernel)⟩
theorem lw_p93 : lw_okq (⟨"WordSolverModel", "laysMet", "(I)V"⟩, 27) := ⟨⟨by decide +kernel, by decide +kernel⟩, List.mem_of_getElem? (i := 1305) (by decide +kernel), List.mem_of_getElem? (i := 1620) (by decide +kernel), List.mem_of_getElem? (i := 1621) (by decide +kernel)⟩
theorem lw_p94 : lw_okq (⟨"WordSolverModel", "differing", "(II)I"⟩, 27) := ⟨⟨by decide +kernel, by decide +kernel⟩, List.mem_of_getElem? (i := 1305) (by decide +kernel), List.mem_of_getElem? (i := 1632) (by decide +kernel), List.mem_of_getElem? (i := 1633) (by decide +kernel)⟩
theorem lw_p95 : lw_okq (⟨"WordSolverModel", "isConflict", "(I)Z"⟩, 27) := ⟨⟨by decide +kernel, by decide +kernel⟩, List.mem_of_getElem? (i := 1305) (by decide +kernel), List.mem_of_getElem? (i := 1644) (by decide +kernel), List.mem_of_getElem? (i := 1645) (by decide +kernel)⟩
def lw_privs_6 : List (MethodName × Nat) := [(⟨"WordSolverModel", "isChoice", "(III)Z"⟩, 27), (⟨"WordSolverModel", "told", "(II)I"⟩, 27), (⟨"WordSolverModel", "parts", "(I)I"⟩, 27), (⟨"WordSolverModel", "isVariable", "(I)Z"⟩, 27), (⟨"WordSolverModel", "need", "(Z)I"⟩, 27), (⟨"WordSolverModel", "laysInputs", "()V"⟩, 27), (⟨"WordSolverModel", "laysValues", "()V"⟩, 27), (⟨"WordSolverModel", "valueOf", "(I)I"⟩, 27), (⟨"WordSolverModel", "model", "(I)I"⟩, 27), (⟨"WordSolverModel", "lays", "()V"⟩, 27), (⟨"WordSolverModel", "laysAssignment", "(I)V"⟩, 27), (⟨"WordSolverModel", "wordOf", "(II)I"⟩, 27), (⟨"WordSolverModel", "extremeModel", "(IZZ)I"⟩, 27), (⟨"WordSolverModel", "laysMet", "(I)V"⟩, 27), (⟨"WordSolverModel", "differing", "(II)I"⟩, 27), (⟨"WordSolverModel", "isConflict", "(I)Z"⟩, 27)]
theorem lw_r6 : ∀ q ∈ lw_privs_6, lw_okq q := List.forall_mem_cons.mpr ⟨lw_p80, List.forall_mem_cons.mpr ⟨lw_p81, List.forall_mem_cons.mpr ⟨lw_p82, List.forall_mem_cons.mpr ⟨lw_p83, List.forall_mem_cons.mpr ⟨lw_p84, List.forall_mem_cons.mpr ⟨lw_p85, List.forall_mem_cons.mpr ⟨lw_p86, List.forall_mem_cons.mpr ⟨lw_p87, List.forall_mem_cons.mpr ⟨lw_p88, List.forall_mem_cons.mpr ⟨lw_p89, List.forall_mem_cons.mpr ⟨lw_p90, List.forall_mem_cons.mpr ⟨lw_p91, List.forall_mem_cons.mpr ⟨lw_p92, List.forall_mem_cons.mpr ⟨lw_p93, List.forall_mem_cons.mpr ⟨lw_p94, List.forall_mem_cons.mpr ⟨lw_p95, fun _ h => absurd h List.not_mem_nil⟩⟩⟩⟩⟩⟩⟩⟩⟩⟩⟩⟩⟩⟩⟩⟩
theorem lw_p96 : lw_okq (⟨"WordSolverModel", "best", "()I"⟩, 27) := ⟨⟨by decide +kernel, by decide +kernel⟩, List.mem_of_getElem? (i := 1305) (by decide +kernel), List.mem_of_getElem? (i := 1660) (by decide +kernel), List.mem_of_getElem? (i := 1661) (by decide +kernel)⟩
theorem lw_p97 : lw_okq (⟨"WordSolverModel", "reads", "()I"⟩, 27) := ⟨⟨by decide +kernel, by decide +kernel⟩, List.mem_of_getElem? (i := 1305) (by decide +kernel), List.mem_of_getElem? (i := 1684) (by decide +kernel), List.mem_of_getElem? (i := 1685) (by decide +kernel)⟩
theorem lw_p98 : lw_okq (⟨"WordSolverModel", "takesNode", "()Z"⟩, 27) := ⟨⟨by decide +kernel, by decide +kernel⟩, List.mem_of_getElem? (i := 1305) (by decide +kernel), List.mem_of_getElem? (i := 1688) (by decide +kernel), List.mem_of_getElem? (i := 1689) (by decide +kernel)⟩
theorem lw_p99 : lw_okq (⟨"WordSolverModel", "skipped", "()I"⟩, 27) := ⟨⟨by decide +kernel, by decide +kernel⟩, List.mem_of_getElem? (i := 1305) (by decide +kernel), List.mem_of_getElem? (i := 1692) (by decide +kernel), List.mem_of_getElem? (i := 1693) (by decide +kernel)⟩
theorem lw_p100 : lw_okq (⟨"WordSolverModel", "letter", "(I)I"⟩, 27) := ⟨⟨by decide +kernel, by decide +kernel⟩, List.mem_of_getElem? (i := 1305) (by decide +kernel), List.mem_of_getElem? (i := 1696) (by decide +kernel), List.mem_of_getElem? (i := 1697) (by decide +kernel)⟩
theorem lw_p101 : lw_okq (⟨"WordSolverModel", "takesDigit", "()Z"⟩, 27) := ⟨⟨by decide +kernel, by decide +kernel⟩, List.mem_of_getElem? (i := 1305) (by decide +kernel), List.mem_of_getElem? (i := 1703) (by decide +kernel), List.mem_of_getElem? (i := 1704) (by decide +kernel)⟩
theorem lw_p102 : lw_okq (⟨"WordSolverModel", "gives", "(III)V"⟩, 27) := ⟨⟨by decide +kernel, by decide +kernel⟩, List.mem_of_getElem? (i := 1305) (by decide +kernel), List.mem_of_getElem? (i := 1707) (by decide +kernel), List.mem_of_getElem? (i := 1708) (by decide +kernel)⟩
theorem lw_p103 : lw_okq (⟨"WordSolverModel", "takesConstant", "()Z"⟩, 27) := ⟨⟨by decide +kernel, by decide +kernel⟩, List.mem_of_getElem? (i := 1305) (by decide +kernel), List.mem_of_getElem? (i := 1711) (by decide +kernel), List.mem_of_getElem? (i := 1712) (by decide +kernel)⟩
theorem lw_p104 : lw_okq (⟨"WordSolverModel", "takes", "(I)Z"⟩, 27) := ⟨⟨by decide +kernel, by decide +kernel⟩, List.mem_of_getElem? (i := 1305) (by decide +kernel), List.mem_of_getElem? (i := 1715) (by decide +kernel), List.mem_of_getElem? (i := 1716) (by decide +kernel)⟩
theorem lw_p105 : lw_okq (⟨"WordSolverModel", "takesWord", "()Z"⟩, 27) := ⟨⟨by decide +kernel, by decide +kernel⟩, List.mem_of_getElem? (i := 1305) (by decide +kernel), List.mem_of_getElem? (i := 1719) (by decide +kernel), List.mem_of_getElem? (i := 1720) (by decide +kernel)⟩
theorem lw_p106 : lw_okq (⟨"WordSolverModel", "takesEnds", "()Z"⟩, 27) := ⟨⟨by decide +kernel, by decide +kernel⟩, List.mem_of_getElem? (i := 1305) (by decide +kernel), List.mem_of_getElem? (i := 1750) (by decide +kernel), List.mem_of_getElem? (i := 1751) (by decide +kernel)⟩
theorem lw_p107 : lw_okq (⟨"WordSolverModel", "makesAll", "()I"⟩, 27) := ⟨⟨by decide +kernel, by decide +kernel⟩, List.mem_of_getElem? (i := 1305) (by decide +kernel), List.mem_of_getElem? (i := 1764) (by decide +kernel), List.mem_of_getElem? (i := 1765) (by decide +kernel)⟩
theorem lw_p108 : lw_okq (⟨"WordSolverModel", "makesKind", "(IIII)I"⟩, 27) := ⟨⟨by decide +kernel, by decide +kernel⟩, List.mem_of_getElem? (i := 1305) (by decide +kernel), List.mem_of_getElem? (i := 1768) (by decide +kernel), List.mem_of_getElem? (i := 1769) (by decide +kernel)⟩
theorem lw_p109 : lw_okq (⟨"WordSolverModel", "later", "(I)V"⟩, 27) := ⟨⟨by decide +kernel, by decide +kernel⟩, List.mem_of_getElem? (i := 1305) (by decide +kernel), List.mem_of_getElem? (i := 1776) (by decide +kernel), List.mem_of_getElem? (i := 1777) (by decide +kernel)⟩
theorem lw_p110 : lw_okq (⟨"WordSolverModel", "puts", "(I)V"⟩, 27) := ⟨⟨by decide +kernel, by decide +kernel⟩, List.mem_of_getElem? (i := 1305) (by decide +kernel), List.mem_of_getElem? (i := 1780) (by decide +kernel), List.mem_of_getElem? (i := 1781) (by decide +kernel)⟩
theorem lw_p111 : lw_okq (⟨"WordSolverModel", "begins", "(I)V"⟩, 27) := ⟨⟨by decide +kernel, by decide +kernel⟩, List.mem_of_getElem? (i := 1305) (by decide +kernel), List.mem_of_getElem? (i := 1784) (by decide +kernel), List.mem_of_getElem? (i := 1785) (by decide +kernel)⟩
def lw_privs_7 : List (MethodName × Nat) := [(⟨"WordSolverModel", "best", "()I"⟩, 27), (⟨"WordSolverModel", "reads", "()I"⟩, 27), (⟨"WordSolverModel", "takesNode", "()Z"⟩, 27), (⟨"WordSolverModel", "skipped", "()I"⟩, 27), (⟨"WordSolverModel", "letter", "(I)I"⟩, 27), (⟨"WordSolverModel", "takesDigit", "()Z"⟩, 27), (⟨"WordSolverModel", "gives", "(III)V"⟩, 27), (⟨"WordSolverModel", "takesConstant", "()Z"⟩, 27), (⟨"WordSolverModel", "takes", "(I)Z"⟩, 27), (⟨"WordSolverModel", "takesWord", "()Z"⟩, 27), (⟨"WordSolverModel", "takesEnds", "()Z"⟩, 27), (⟨"WordSolverModel", "makesAll", "()I"⟩, 27), (⟨"WordSolverModel", "makesKind", "(IIII)I"⟩, 27), (⟨"WordSolverModel", "later", "(I)V"⟩, 27), (⟨"WordSolverModel", "puts", "(I)V"⟩, 27), (⟨"WordSolverModel", "begins", "(I)V"⟩, 27)]
theorem lw_r7 : ∀ q ∈ lw_privs_7, lw_okq q := List.forall_mem_cons.mpr ⟨lw_p96, List.forall_mem_cons.mpr ⟨lw_p97, List.forall_mem_cons.mpr ⟨lw_p98, List.forall_mem_cons.mpr ⟨lw_p99, List.forall_mem_cons.mpr ⟨lw_p100, List.forall_mem_cons.mpr ⟨lw_p101, List.forall_mem_cons.mpr ⟨lw_p102, List.forall_mem_cons.mpr ⟨lw_p103, List.forall_mem_cons.mpr ⟨lw_p104, List.forall_mem_cons.mpr ⟨lw_p105, List.forall_mem_cons.mpr ⟨lw_p106, List.forall_mem_cons.mpr ⟨lw_p107, List.forall_mem_cons.mpr ⟨lw_p108, List.forall_mem_cons.mpr ⟨lw_p109, List.forall_mem_cons.mpr ⟨lw_p110, List.forall_mem_cons.mpr ⟨lw_p111, fun _ h => absurd h List.not_mem_nil⟩⟩⟩⟩⟩⟩⟩⟩⟩⟩⟩⟩⟩⟩⟩⟩
theorem lw_p112 : lw_okq (⟨"WordSolverModel", "putsNumber", "(I)V"⟩, 27) := ⟨⟨by decide +kernel, by decide +kernel⟩, List.mem_of_getElem? (i := 1305) (by decide +kernel), List.mem_of_getElem? (i := 1788) (by decide +kernel), List.mem_of_getElem? (i := 1789) (by decide +kernel)⟩
theorem lw_p113 : lw_okq (⟨"WordSolverModel", "mix", "(I)V"⟩, 27) := ⟨⟨by decide +kernel, by decide +kernel⟩, List.mem_of_getElem? (i := 1305) (by decide +kernel), List.mem_of_getElem? (i := 1798) (by decide +kernel), List.mem_of_getElem? (i := 1799) (by decide +kernel)⟩
def lw_privs_8 : List (MethodName × Nat) := [(⟨"WordSolverModel", "putsNumber", "(I)V"⟩, 27), (⟨"WordSolverModel", "mix", "(I)V"⟩, 27)]
theorem lw_r8 : ∀ q ∈ lw_privs_8, lw_okq q := List.forall_mem_cons.mpr ⟨lw_p112, List.forall_mem_cons.mpr ⟨lw_p113, fun _ h => absurd h List.not_mem_nil⟩⟩
def lw_privs : List (MethodName × Nat) := lw_privs_1 ++ (lw_privs_2 ++ (lw_privs_3 ++ (lw_privs_4 ++ (lw_privs_5 ++ (lw_privs_6 ++ (lw_privs_7 ++ (lw_privs_8)))))))
def lw_tbl : List Cond := k2_sels lw_privs ++ tables_1
theorem lw_privs_ok : ∀ q ∈ lw_privs, lw_okq q := by
  show ∀ q ∈ lw_privs_1 ++ (lw_privs_2 ++ (lw_privs_3 ++ (lw_privs_4 ++ (lw_privs_5 ++ (lw_privs_6 ++ (lw_privs_7 ++ (lw_privs_8))))))), lw_okq q
  exact List.forall_mem_append.mpr ⟨lw_r1, List.forall_mem_append.mpr ⟨lw_r2, List.forall_mem_append.mpr ⟨lw_r3, List.forall_mem_append.mpr ⟨lw_r4, List.forall_mem_append.mpr ⟨lw_r5, List.forall_mem_append.mpr ⟨lw_r6, List.forall_mem_append.mpr ⟨lw_r7, lw_r8⟩⟩⟩⟩⟩⟩⟩
end
section
def RX0 : String := "WordSolver$Graph"
def RX1 : String := "WordSolver$History"
def RX2 : String := "WordSolver$Kinds"
def RX3 : String := "WordSolver$Lanes"
def RX4 : String := "WordSolver$Parser"
def RX5 : String := "WordSolver$Search"
def RX6 : String := "WordSolver$State"
def RX7 : String := "WordSolver$Text"
def RX8 : String := "WordSolver$Writer"
def RX9 : String := "WordSolver"
def RX10 : String := "WordSolverModel"
def RL : String := "WordSolverLaw"
def RJ13 : String := "java/lang/Long"
def RJ9 : String := "java/lang/Math"
def TX0 : u_T := fun k => match k with
  | 0 => ("WordSolver$Graph", "cells", "[I", true)
  | 1 => ("WordSolver$Graph", "variableNodes", "[I", true)
  | 2 => ("WordSolver$Graph", "variableEnds", "[I", true)
  | 3 => ("WordSolver$Graph", "count", "I", false)
  | _ => ("WordSolver$Graph", "variableCount", "I", false)
def tyX0 : Nat → FieldType := fun k => match k with
  | 0 => .array .int
  | 1 => .array .int
  | 2 => .array .int
  | 3 => .int
  | _ => .int
theorem nmX0 : ∀ a, a < 5 → ∀ b, b < 5 → a ≠ b → (TX0 a).2.1 ≠ (TX0 b).2.1 := by decide +kernel
theorem tyX0_ok : ∀ k, k < 5 → parseFieldDescriptor (TX0 k).2.2.1 = some (tyX0 k) := by decide +kernel
def TX1 : u_T := fun k => match k with
  | 0 => ("WordSolver$History", "saved", "[LWordSolver$State;", true)
  | _ => ("WordSolver$History", "count", "I", false)
def tyX1 : Nat → FieldType := fun k => match k with
  | 0 => .array (.object "WordSolver$State")
  | _ => .int
theorem nmX1 : ∀ a, a < 2 → ∀ b, b < 2 → a ≠ b → (TX1 a).2.1 ≠ (TX1 b).2.1 := by decide +kernel
theorem tyX1_ok : ∀ k, k < 2 → parseFieldDescriptor (TX1 k).2.2.1 = some (tyX1 k) := by decide +kernel
def TX3 : u_T := fun k => match k with
  | 0 => ("WordSolver$Lanes", "graph", "LWordSolver$Graph;", true)
  | 1 => ("WordSolver$Lanes", "planes", "[J", true)
  | _ => ("WordSolver$Lanes", "rest", "[J", true)
def tyX3 : Nat → FieldType := fun k => match k with
  | 0 => .object "WordSolver$Graph"
  | 1 => .array .long
  | _ => .array .long
theorem nmX3 : ∀ a, a < 3 → ∀ b, b < 3 → a ≠ b → (TX3 a).2.1 ≠ (TX3 b).2.1 := by decide +kernel
theorem tyX3_ok : ∀ k, k < 3 → parseFieldDescriptor (TX3 k).2.2.1 = some (tyX3 k) := by decide +kernel
def TX4 : u_T := fun k => match k with
  | 0 => ("WordSolver$Parser", "text", "LWordSolver$Text;", true)
  | 1 => ("WordSolver$Parser", "position", "I", false)
  | 2 => ("WordSolver$Parser", "error", "I", false)
  | 3 => ("WordSolver$Parser", "stepKinds", "[I", true)
  | 4 => ("WordSolver$Parser", "stepNumbers", "[I", true)
  | 5 => ("WordSolver$Parser", "stepWidths", "[I", true)
  | 6 => ("WordSolver$Parser", "steps", "I", false)
  | 7 => ("WordSolver$Parser", "openKinds", "[I", true)
  | 8 => ("WordSolver$Parser", "openNodes", "[I", true)
  | 9 => ("WordSolver$Parser", "openDigits", "[I", true)
  | 10 => ("WordSolver$Parser", "openNumbers", "[I", true)
  | 11 => ("WordSolver$Parser", "open", "I", false)
  | _ => ("WordSolver$Parser", "built", "[I", true)
def tyX4 : Nat → FieldType := fun k => match k with
  | 0 => .object "WordSolver$Text"
  | 1 => .int
  | 2 => .int
  | 3 => .array .int
  | 4 => .array .int
  | 5 => .array .int
  | 6 => .int
  | 7 => .array .int
  | 8 => .array .int
  | 9 => .array .int
  | 10 => .array .int
  | 11 => .int
  | _ => .array .int
theorem nmX4 : ∀ a, a < 13 → ∀ b, b < 13 → a ≠ b → (TX4 a).2.1 ≠ (TX4 b).2.1 := by decide +kernel
theorem tyX4_ok : ∀ k, k < 13 → parseFieldDescriptor (TX4 k).2.2.1 = some (tyX4 k) := by decide +kernel
def TX5 : u_T := fun k => match k with
  | 0 => ("WordSolver$Search", "graph", "LWordSolver$Graph;", true)
  | 1 => ("WordSolver$Search", "now", "LWordSolver$State;", true)
  | 2 => ("WordSolver$Search", "lanes", "LWordSolver$Lanes;", true)
  | 3 => ("WordSolver$Search", "modelLanes", "[J", true)
  | 4 => ("WordSolver$Search", "known", "Z", false)
  | 5 => ("WordSolver$Search", "least", "I", false)
  | 6 => ("WordSolver$Search", "best", "I", false)
  | 7 => ("WordSolver$Search", "bestModel", "I", false)
  | 8 => ("WordSolver$Search", "seen", "[Z", true)
  | _ => ("WordSolver$Search", "rows", "[J", false)
def tyX5 : Nat → FieldType := fun k => match k with
  | 0 => .object "WordSolver$Graph"
  | 1 => .object "WordSolver$State"
  | 2 => .object "WordSolver$Lanes"
  | 3 => .array .long
  | 4 => .boolean
  | 5 => .int
  | 6 => .int
  | 7 => .int
  | 8 => .array .boolean
  | _ => .array .long
theorem nmX5 : ∀ a, a < 10 → ∀ b, b < 10 → a ≠ b → (TX5 a).2.1 ≠ (TX5 b).2.1 := by decide +kernel
theorem tyX5_ok : ∀ k, k < 10 → parseFieldDescriptor (TX5 k).2.2.1 = some (tyX5 k) := by decide +kernel
def TX6 : u_T := fun k => match k with
  | 0 => ("WordSolver$State", "nodeCount", "I", false)
  | 1 => ("WordSolver$State", "level", "I", false)
  | 2 => ("WordSolver$State", "constraintCount", "I", false)
  | 3 => ("WordSolver$State", "constraintNodes", "[I", true)
  | 4 => ("WordSolver$State", "constraintLevels", "[I", true)
  | 5 => ("WordSolver$State", "wishCount", "I", false)
  | 6 => ("WordSolver$State", "wishNodes", "[I", true)
  | 7 => ("WordSolver$State", "wishWeights", "[I", true)
  | _ => ("WordSolver$State", "inputs", "[I", true)
def tyX6 : Nat → FieldType := fun k => match k with
  | 0 => .int
  | 1 => .int
  | 2 => .int
  | 3 => .array .int
  | 4 => .array .int
  | 5 => .int
  | 6 => .array .int
  | 7 => .array .int
  | _ => .array .int
theorem nmX6 : ∀ a, a < 9 → ∀ b, b < 9 → a ≠ b → (TX6 a).2.1 ≠ (TX6 b).2.1 := by decide +kernel
theorem tyX6_ok : ∀ k, k < 9 → parseFieldDescriptor (TX6 k).2.2.1 = some (tyX6 k) := by decide +kernel
def TX7 : u_T := fun k => match k with
  | 0 => ("WordSolver$Text", "codes", "[I", true)
  | _ => ("WordSolver$Text", "length", "I", false)
def tyX7 : Nat → FieldType := fun k => match k with
  | 0 => .array .int
  | _ => .int
theorem nmX7 : ∀ a, a < 2 → ∀ b, b < 2 → a ≠ b → (TX7 a).2.1 ≠ (TX7 b).2.1 := by decide +kernel
theorem tyX7_ok : ∀ k, k < 2 → parseFieldDescriptor (TX7 k).2.2.1 = some (tyX7 k) := by decide +kernel
def TX8 : u_T := fun k => match k with
  | 0 => ("WordSolver$Writer", "graph", "LWordSolver$Graph;", true)
  | 1 => ("WordSolver$Writer", "text", "LWordSolver$Text;", true)
  | _ => ("WordSolver$Writer", "lengths", "[I", true)
def tyX8 : Nat → FieldType := fun k => match k with
  | 0 => .object "WordSolver$Graph"
  | 1 => .object "WordSolver$Text"
  | _ => .array .int
theorem nmX8 : ∀ a, a < 3 → ∀ b, b < 3 → a ≠ b → (TX8 a).2.1 ≠ (TX8 b).2.1 := by decide +kernel
theorem tyX8_ok : ∀ k, k < 3 → parseFieldDescriptor (TX8 k).2.2.1 = some (tyX8 k) := by decide +kernel
def TX9 : u_T := fun k => match k with
  | 0 => ("WordSolver", "graph", "LWordSolver$Graph;", true)
  | 1 => ("WordSolver", "now", "LWordSolver$State;", true)
  | 2 => ("WordSolver", "history", "LWordSolver$History;", true)
  | 3 => ("WordSolver", "lanes", "LWordSolver$Lanes;", true)
  | 4 => ("WordSolver", "search", "LWordSolver$Search;", true)
  | 5 => ("WordSolver", "text", "LWordSolver$Text;", true)
  | 6 => ("WordSolver", "parser", "LWordSolver$Parser;", true)
  | _ => ("WordSolver", "writer", "LWordSolver$Writer;", true)
def tyX9 : Nat → FieldType := fun k => match k with
  | 0 => .object "WordSolver$Graph"
  | 1 => .object "WordSolver$State"
  | 2 => .object "WordSolver$History"
  | 3 => .object "WordSolver$Lanes"
  | 4 => .object "WordSolver$Search"
  | 5 => .object "WordSolver$Text"
  | 6 => .object "WordSolver$Parser"
  | _ => .object "WordSolver$Writer"
theorem nmX9 : ∀ a, a < 8 → ∀ b, b < 8 → a ≠ b → (TX9 a).2.1 ≠ (TX9 b).2.1 := by decide +kernel
theorem tyX9_ok : ∀ k, k < 8 → parseFieldDescriptor (TX9 k).2.2.1 = some (tyX9 k) := by decide +kernel
def TX10 : u_T := fun k => match k with
  | 0 => ("WordSolverModel", "now", "[I", true)
  | 1 => ("WordSolverModel", "past", "[I", true)
  | 2 => ("WordSolverModel", "before", "[I", true)
  | 3 => ("WordSolverModel", "saved", "I", false)
  | 4 => ("WordSolverModel", "refusal", "I", false)
  | 5 => ("WordSolverModel", "text", "[I", true)
  | 6 => ("WordSolverModel", "length", "I", false)
  | 7 => ("WordSolverModel", "words", "[I", true)
  | 8 => ("WordSolverModel", "val", "[I", true)
  | 9 => ("WordSolverModel", "fulfilled", "[I", true)
  | 10 => ("WordSolverModel", "isOld", "Z", false)
  | 11 => ("WordSolverModel", "assignments", "I", false)
  | 12 => ("WordSolverModel", "met", "[I", true)
  | 13 => ("WordSolverModel", "most", "I", false)
  | 14 => ("WordSolverModel", "tokens", "[I", true)
  | 15 => ("WordSolverModel", "tokenMany", "I", false)
  | 16 => ("WordSolverModel", "open", "[I", true)
  | 17 => ("WordSolverModel", "got", "[I", true)
  | 18 => ("WordSolverModel", "deep", "I", false)
  | 19 => ("WordSolverModel", "place", "I", false)
  | 20 => ("WordSolverModel", "digit", "I", false)
  | 21 => ("WordSolverModel", "operandRow", "[I", true)
  | 22 => ("WordSolverModel", "rest", "[I", true)
  | 23 => ("WordSolverModel", "restMany", "I", false)
  | 24 => ("WordSolverModel", "written", "[I", true)
  | 25 => ("WordSolverModel", "writtenMany", "I", false)
  | _ => ("WordSolverModel", "hash", "J", false)
def tyX10 : Nat → FieldType := fun k => match k with
  | 0 => .array .int
  | 1 => .array .int
  | 2 => .array .int
  | 3 => .int
  | 4 => .int
  | 5 => .array .int
  | 6 => .int
  | 7 => .array .int
  | 8 => .array .int
  | 9 => .array .int
  | 10 => .boolean
  | 11 => .int
  | 12 => .array .int
  | 13 => .int
  | 14 => .array .int
  | 15 => .int
  | 16 => .array .int
  | 17 => .array .int
  | 18 => .int
  | 19 => .int
  | 20 => .int
  | 21 => .array .int
  | 22 => .array .int
  | 23 => .int
  | 24 => .array .int
  | 25 => .int
  | _ => .long
theorem nmX10 : ∀ a, a < 27 → ∀ b, b < 27 → a ≠ b → (TX10 a).2.1 ≠ (TX10 b).2.1 := by decide +kernel
theorem tyX10_ok : ∀ k, k < 27 → parseFieldDescriptor (TX10 k).2.2.1 = some (tyX10 k) := by decide +kernel
abbrev vwCl : List vw_C := [(RX0, TX0, 5), (RX1, TX1, 2), (RX3, TX3, 3), (RX4, TX4, 13), (RX5, TX5, 10), (RX6, TX6, 9), (RX7, TX7, 2), (RX8, TX8, 3), (RX9, TX9, 8), (RX10, TX10, 27)]
end
section
def oGK : List (Nat × Nat) := [(8, 8), (0, 5), (20, 328), (20, 4), (20, 4), (5, 9), (20, 20), (20, 20), (20, 8), (20, 8), (20, 4), (1, 2), (23, 5), (5, 9), (20, 20), (20, 20), (20, 8), (20, 8), (20, 4), (5, 9), (20, 20), (20, 20), (20, 8), (20, 8), (20, 4), (5, 9), (20, 20), (20, 20), (20, 8), (20, 8), (20, 4), (5, 9), (20, 20), (20, 20), (20, 8), (20, 8), (20, 4), (5, 9), (20, 20), (20, 20), (20, 8), (20, 8), (20, 4), (2, 3), (21, 328), (21, 8), (4, 10), (21, 1024), (22, 256), (6, 2), (20, 120), (3, 13), (20, 120), (20, 120), (20, 120), (20, 120), (20, 120), (20, 120), (20, 120), (20, 120), (7, 3), (20, 40), (9, 27), (20, 349), (20, 1745), (20, 349), (20, 120), (20, 4), (20, 40), (20, 65536), (20, 256), (20, 180), (20, 60), (20, 60), (20, 60), (20, 700), (20, 140), (21, 1), (21, 20480)]
def tGK (a : Nat) : Nat × Nat := oGK.getD a (99, 0)
def oGF : List (List (Option Nat)) := [[some 1, some 5, some 11, some 43, some 46, some 49, some 51, some 60], [some 2, some 3, some 4, none, none], [], [], [], [none, none, none, some 6, some 7, none, some 8, some 9, some 10], [], [], [], [], [], [some 12, none], [], [none, none, none, some 14, some 15, none, some 16, some 17, some 18], [], [], [], [], [], [none, none, none, some 20, some 21, none, some 22, some 23, some 24], [], [], [], [], [], [none, none, none, some 26, some 27, none, some 28, some 29, some 30], [], [], [], [], [], [none, none, none, some 32, some 33, none, some 34, some 35, some 36], [], [], [], [], [], [none, none, none, some 38, some 39, none, some 40, some 41, some 42], [], [], [], [], [], [some 1, some 44, some 45], [], [], [some 1, some 5, some 43, some 47, none, none, none, none, some 48, none], [], [], [some 50, none], [], [some 49, none, none, some 52, some 53, some 54, none, some 55, some 56, some 57, some 58, none, some 59], [], [], [], [], [], [], [], [], [some 1, some 49, some 61], [], [some 63, some 64, some 65, none, none, some 66, none, some 67, some 68, some 69, none, none, some 70, none, some 71, none, some 72, some 73, none, none, none, some 74, some 75, none, some 76, none, none], [], [], [], [], [], [], [], [], [], [], [], [], [], [], [], []]
def tGF (a k : Nat) : Option Nat := (oGF.getD a []).getD k none
def oFT : List (List Nat) := [[2, 2, 2, 0, 0], [2, 0], [2, 2, 2], [2, 0, 0, 2, 2, 2, 0, 2, 2, 2, 2, 0, 2], [2, 2, 2, 2, 3, 0, 0, 0, 2, 2], [0, 0, 0, 2, 2, 0, 2, 2, 2], [2, 0], [2, 2, 2], [2, 2, 2, 2, 2, 2, 2, 2], [2, 2, 2, 0, 0, 2, 0, 2, 2, 2, 3, 0, 2, 0, 2, 0, 2, 2, 0, 0, 0, 2, 2, 0, 2, 0, 1]]
def tFT (ci k : Nat) : Nat := (oFT.getD ci []).getD k 9
def tNF (ci : Nat) : Nat := (oFT.getD ci []).length
def tLB (j : Nat) : Int64 := ([-6148914691236517206, -3689348814741910324, -1085102592571150096, -71777214294589696, -281470681808896, -4294967296] : List Int64).getD j 0
def oFLD : List (List (Nat × (Nat × (Nat × Nat)))) := [[(9, (0, (0, 0))), (15, (0, (1, 0))), (18, (0, (2, 0))), (21, (0, (3, 0))), (25, (0, (4, 0)))], [(29, (5, (0, 1))), (11, (1, (0, 0))), (18, (1, (1, 0)))], [(51, (5, (5, 1))), (61, (5, (6, 1))), (57, (5, (7, 1))), (18, (2, (0, 0))), (9, (2, (1, 0))), (15, (2, (2, 0)))], [(36, (3, (0, 0))), (40, (3, (1, 0))), (44, (3, (2, 0))), (9, (3, (3, 0))), (15, (3, (4, 0))), (18, (3, (5, 0))), (47, (3, (6, 0))), (21, (3, (7, 0))), (24, (3, (8, 0))), (27, (3, (9, 0))), (30, (3, (10, 0))), (50, (3, (11, 0))), (33, (3, (12, 0)))], [(68, (5, (2, 1))), (73, (5, (3, 1))), (121, (5, (5, 1))), (124, (5, (6, 1))), (19, (4, (0, 0))), (23, (4, (1, 0))), (27, (4, (2, 0))), (9, (4, (3, 0))), (31, (4, (4, 0))), (38, (4, (5, 0))), (93, (4, (6, 0))), (96, (4, (7, 0))), (15, (4, (8, 0))), (158, (4, (9, 0)))], [(27, (5, (0, 0))), (31, (5, (1, 0))), (34, (5, (2, 0))), (9, (5, (3, 0))), (15, (5, (4, 0))), (37, (5, (5, 0))), (18, (5, (6, 0))), (21, (5, (7, 0))), (24, (5, (8, 0)))], [(9, (6, (0, 0))), (15, (6, (1, 0)))], [(15, (7, (0, 0))), (19, (7, (1, 0))), (9, (7, (2, 0)))], [(327, (5, (0, 1))), (204, (5, (1, 1))), (192, (5, (2, 1))), (222, (5, (3, 1))), (219, (5, (4, 1))), (276, (5, (5, 1))), (347, (5, (6, 1))), (350, (5, (7, 1))), (96, (5, (8, 1))), (12, (8, (0, 0))), (19, (8, (1, 0))), (26, (8, (2, 0))), (35, (8, (3, 0))), (44, (8, (4, 0))), (51, (8, (5, 0))), (60, (8, (6, 0))), (69, (8, (7, 0)))], [(7, (9, (0, 0))), (13, (9, (1, 0))), (16, (9, (2, 0))), (61, (9, (3, 0))), (57, (9, (4, 0))), (19, (9, (5, 0))), (192, (9, (6, 0))), (22, (9, (7, 0))), (25, (9, (8, 0))), (29, (9, (9, 0))), (53, (9, (10, 0))), (157, (9, (11, 0))), (32, (9, (12, 0))), (186, (9, (13, 0))), (35, (9, (14, 0))), (247, (9, (15, 0))), (38, (9, (16, 0))), (41, (9, (17, 0))), (276, (9, (18, 0))), (241, (9, (19, 0))), (256, (9, (20, 0))), (44, (9, (21, 0))), (47, (9, (22, 0))), (309, (9, (23, 0))), (50, (9, (24, 0))), (306, (9, (25, 0))), (328, (9, (26, 0)))], [], [], [], []]
def tFLD (own : Nat) : List (Nat × (Nat × (Nat × Nat))) := oFLD.getD own []
def oCALL : List (List (Nat × (Nat × (Nat × Nat)))) := [[(80, (0, (3, 0))), (28, (0, (5, 0))), (83, (1, (26, 0))), (45, (0, (27, 0))), (87, (1, (289, 0))), (32, (0, (4, 0))), (92, (0, (28, 0))), (95, (0, (8, 0))), (36, (0, (7, 0))), (98, (1, (187, 1))), (49, (0, (20, 0))), (53, (0, (21, 0))), (56, (0, (22, 0))), (77, (0, (23, 0))), (59, (1, (186, 1))), (63, (0, (6, 0))), (66, (0, (19, 0))), (70, (0, (17, 0))), (74, (0, (18, 0))), (40, (1, (290, 0)))], [(17, (2, (118, 1))), (22, (0, (36, 0))), (25, (0, (119, 0)))], [(22, (0, (1, 0))), (28, (0, (54, 0))), (36, (0, (5, 0))), (68, (0, (55, 0))), (44, (1, (53, 0))), (72, (0, (28, 0))), (75, (0, (56, 0))), (79, (0, (57, 0))), (105, (0, (58, 0))), (108, (0, (59, 0))), (111, (0, (60, 0))), (83, (0, (61, 0))), (86, (0, (62, 0))), (116, (0, (63, 0))), (120, (0, (64, 0))), (89, (0, (65, 0))), (124, (0, (66, 0))), (127, (0, (68, 0))), (130, (0, (67, 0))), (92, (0, (69, 0))), (47, (0, (70, 0))), (133, (0, (71, 0))), (96, (0, (72, 0))), (99, (0, (73, 0))), (137, (0, (74, 0))), (140, (0, (76, 0))), (143, (0, (77, 0))), (146, (0, (75, 0))), (40, (0, (47, 0))), (64, (0, (52, 0))), (32, (1, (187, 1)))], [(53, (0, (124, 0))), (59, (0, (81, 0))), (66, (0, (125, 0))), (62, (0, (80, 0))), (70, (0, (82, 0))), (73, (0, (85, 0))), (99, (0, (90, 0))), (102, (0, (92, 0))), (85, (1, (91, 0))), (105, (1, (42, 0))), (111, (1, (38, 0))), (114, (1, (39, 0))), (76, (0, (83, 0))), (89, (0, (88, 0))), (92, (0, (89, 0))), (96, (0, (84, 0))), (79, (0, (86, 0))), (82, (0, (87, 0))), (117, (0, (94, 0))), (121, (0, (7, 0))), (126, (0, (11, 0))), (130, (0, (16, 0))), (134, (0, (14, 0))), (137, (0, (15, 0))), (140, (0, (13, 0))), (143, (0, (12, 0)))], [(35, (0, (98, 0))), (42, (0, (99, 0))), (77, (0, (25, 0))), (46, (0, (30, 0))), (51, (0, (29, 0))), (55, (0, (45, 0))), (61, (0, (100, 0))), (83, (0, (47, 0))), (64, (1, (101, 0))), (87, (1, (288, 0))), (150, (0, (116, 0))), (106, (1, (187, 1))), (154, (0, (117, 0))), (99, (0, (106, 0))), (118, (0, (6, 0))), (103, (0, (107, 0))), (110, (0, (108, 0))), (127, (0, (49, 0))), (130, (0, (50, 0))), (133, (0, (51, 0))), (114, (0, (109, 0))), (137, (0, (48, 0))), (140, (0, (111, 0))), (144, (0, (113, 0))), (147, (0, (46, 0)))], [], [], [(23, (0, (130, 0))), (33, (0, (5, 0))), (38, (1, (40, 0))), (43, (1, (39, 0))), (46, (1, (38, 0))), (27, (1, (290, 0))), (49, (0, (126, 0))), (55, (0, (134, 0))), (58, (0, (6, 0))), (61, (0, (132, 0))), (71, (1, (41, 0))), (64, (0, (131, 0))), (68, (0, (133, 0)))], [(11, (2, (0, 1))), (18, (2, (118, 1))), (25, (2, (33, 0))), (32, (2, (44, 0))), (41, (2, (95, 0))), (50, (2, (123, 1))), (57, (2, (78, 0))), (66, (2, (128, 0))), (84, (0, (1, 0))), (100, (0, (2, 0))), (225, (0, (97, 0))), (271, (0, (115, 0))), (173, (0, (180, 0))), (357, (0, (35, 0))), (234, (0, (105, 0))), (238, (0, (103, 0))), (286, (0, (124, 0))), (294, (0, (127, 0))), (297, (0, (79, 0))), (317, (0, (125, 0))), (332, (0, (176, 0))), (176, (0, (31, 0))), (343, (0, (24, 0))), (180, (0, (45, 0))), (336, (1, (178, 0))), (162, (0, (5, 0))), (152, (0, (25, 0))), (156, (1, (288, 0))), (184, (0, (46, 0))), (340, (0, (177, 0))), (228, (0, (32, 0))), (320, (0, (34, 0))), (73, (1, (185, 0))), (88, (0, (10, 0))), (92, (0, (179, 0))), (103, (0, (96, 0))), (106, (1, (186, 0))), (231, (1, (187, 0))), (112, (0, (11, 0))), (117, (0, (181, 0))), (361, (0, (3, 0))), (121, (0, (12, 0))), (127, (0, (13, 0))), (130, (0, (17, 0))), (136, (0, (14, 0))), (139, (0, (18, 0))), (144, (0, (15, 0))), (147, (0, (16, 0))), (165, (0, (182, 0))), (366, (0, (4, 0))), (168, (0, (8, 0))), (187, (1, (188, 0))), (201, (0, (120, 0))), (211, (0, (121, 0))), (243, (0, (104, 0))), (246, (0, (110, 0))), (250, (1, (184, 0))), (253, (0, (102, 0))), (256, (1, (290, 0))), (261, (0, (112, 0))), (264, (0, (114, 0))), (267, (0, (183, 0))), (281, (0, (122, 0))), (291, (0, (126, 0))), (302, (0, (93, 0))), (306, (0, (9, 0))), (309, (0, (129, 0))), (314, (0, (131, 0))), (323, (0, (37, 0)))], [(64, (0, (191, 0))), (72, (1, (192, 0))), (90, (0, (204, 0))), (80, (0, (198, 0))), (68, (0, (196, 0))), (87, (0, (194, 0))), (83, (0, (202, 0))), (76, (0, (197, 0))), (97, (1, (206, 0))), (94, (1, (201, 0))), (101, (0, (203, 0))), (105, (0, (199, 0))), (108, (0, (208, 0))), (111, (0, (209, 0))), (115, (0, (212, 0))), (118, (0, (214, 0))), (121, (0, (216, 0))), (127, (0, (221, 0))), (124, (0, (220, 0))), (130, (0, (200, 0))), (150, (0, (193, 0))), (154, (0, (229, 0))), (147, (0, (228, 0))), (144, (0, (227, 0))), (136, (1, (225, 0))), (133, (1, (224, 0))), (140, (1, (226, 0))), (167, (0, (238, 0))), (164, (0, (237, 0))), (160, (0, (230, 0))), (170, (0, (239, 0))), (173, (0, (242, 0))), (177, (0, (247, 0))), (180, (0, (250, 0))), (183, (0, (253, 0))), (189, (0, (257, 0))), (297, (0, (276, 0))), (291, (0, (274, 0))), (250, (0, (268, 0))), (244, (0, (266, 0))), (253, (1, (267, 0))), (262, (0, (270, 0))), (266, (0, (269, 0))), (279, (0, (272, 0))), (259, (0, (271, 0))), (282, (0, (273, 0))), (272, (1, (263, 0))), (294, (0, (275, 0))), (285, (1, (264, 0))), (288, (1, (265, 0))), (303, (0, (278, 0))), (300, (0, (279, 0))), (320, (0, (282, 0))), (312, (0, (281, 0))), (323, (0, (284, 0))), (315, (0, (283, 0))), (334, (0, (286, 0)))], [(27, (1, (43, 0))), (31, (0, (125, 0))), (11, (1, (41, 0)))], [(111, (2, (135, 0))), (145, (0, (143, 0))), (149, (0, (144, 0))), (173, (0, (151, 0))), (180, (0, (153, 0))), (214, (0, (163, 0))), (221, (0, (165, 0))), (225, (0, (166, 0))), (235, (0, (169, 0))), (239, (0, (170, 0))), (249, (0, (173, 0))), (256, (0, (175, 0))), (115, (1, (302, 0))), (7, (0, (136, 0))), (124, (1, (303, 0))), (17, (0, (137, 0))), (128, (1, (304, 0))), (21, (0, (138, 0))), (132, (1, (305, 0))), (27, (0, (139, 0))), (135, (1, (306, 0))), (30, (0, (140, 0))), (138, (1, (307, 0))), (33, (0, (141, 0))), (142, (1, (308, 0))), (37, (0, (142, 0))), (153, (1, (309, 0))), (40, (0, (145, 0))), (156, (1, (310, 0))), (43, (0, (146, 0))), (159, (1, (311, 0))), (46, (0, (147, 0))), (163, (1, (312, 0))), (50, (0, (148, 0))), (166, (1, (313, 0))), (53, (0, (149, 0))), (170, (1, (314, 0))), (57, (0, (150, 0))), (177, (1, (315, 0))), (60, (0, (152, 0))), (185, (1, (316, 0))), (63, (0, (154, 0))), (188, (1, (317, 0))), (66, (0, (155, 0))), (192, (1, (318, 0))), (70, (0, (156, 0))), (196, (1, (319, 0))), (74, (0, (157, 0))), (199, (1, (320, 0))), (77, (0, (158, 0))), (202, (1, (321, 0))), (80, (0, (159, 0))), (205, (1, (322, 0))), (83, (0, (160, 0))), (208, (1, (323, 0))), (86, (0, (161, 0))), (211, (1, (324, 0))), (90, (0, (162, 0))), (218, (1, (325, 0))), (93, (0, (164, 0))), (229, (1, (326, 0))), (96, (0, (167, 0))), (232, (1, (327, 0))), (99, (0, (168, 0))), (243, (1, (328, 0))), (102, (0, (171, 0))), (246, (1, (329, 0))), (105, (0, (172, 0))), (253, (1, (330, 0))), (108, (0, (174, 0))), (114, (2, (189, 0))), (121, (0, (190, 0))), (255, (0, (195, 0))), (120, (0, (205, 0))), (127, (0, (207, 0))), (131, (0, (210, 0))), (134, (0, (211, 0))), (137, (0, (213, 0))), (141, (0, (215, 0))), (144, (0, (217, 0))), (148, (0, (218, 0))), (152, (0, (219, 0))), (155, (0, (222, 0))), (158, (0, (223, 0))), (162, (0, (231, 0))), (165, (0, (232, 0))), (169, (0, (233, 0))), (172, (0, (234, 0))), (176, (0, (235, 0))), (179, (0, (236, 0))), (184, (0, (240, 0))), (187, (0, (241, 0))), (191, (0, (243, 0))), (195, (0, (244, 0))), (198, (0, (245, 0))), (201, (0, (246, 0))), (204, (0, (248, 0))), (207, (0, (249, 0))), (210, (0, (251, 0))), (213, (0, (252, 0))), (217, (0, (254, 0))), (220, (0, (255, 0))), (224, (0, (256, 0))), (228, (0, (258, 0))), (231, (0, (259, 0))), (234, (0, (260, 0))), (238, (0, (261, 0))), (252, (0, (262, 0))), (242, (0, (277, 0))), (245, (0, (280, 0))), (248, (0, (285, 0))), (260, (0, (287, 0)))], [], []]
def tCALL (own : Nat) : List (Nat × (Nat × (Nat × Nat))) := oCALL.getD own []
def tCON (own : Nat) : List (Nat × Int) := ([[], [], [], [], [], [], [], [], [], [(28, 65536)], [], [], [], []] : List (List (Nat × Int))).getD own []
def oCOL : List (List (Nat × Int64)) := [[(90, -1)], [], [(114, -1)], [], [(81, -1)], [], [], [], [(330, 1862), (353, 31)], [(270, -1), (195, 6579297), (197, 6452595), (199, 7107949), (201, 6581857), (203, 29295), (205, 7499640), (207, 7104627), (209, 7497843), (211, 7496051), (213, 7760228), (215, 7169394), (217, 29029), (219, 29804), (221, 25964), (223, 7629939), (225, 6646899), (227, 7627107), (229, 7630702), (231, 6776174), (233, 435459550323), (235, 1954047354), (237, 1954047347), (239, 6648937), (318, 255), (332, 1862), (326, 31)], [], [], [(314, 6148914691236517205), (316, 3689348814741910323), (318, 1085102592571150095)], []]
def tCOL (own : Nat) : List (Nat × Int64) := oCOL.getD own []
def tNEW (own : Nat) : List (Nat × Nat) := ([[], [(9, 5)], [], [], [], [], [], [], [(9, 0), (16, 5), (23, 1), (30, 2), (39, 4), (48, 6), (55, 3), (64, 7)], [], [], [(8, 8), (112, 9)], [], []] : List (List (Nat × Nat))).getD own []
def oMP : List (Nat × Nat) := [(0, 0), (0, 0), (0, 0), (1, 0), (1, 0), (2, 0), (1, 0), (1, 0), (1, 0), (1, 0), (1, 0), (2, 0), (3, 0), (2, 0), (3, 0), (3, 0), (3, 0), (3, 0), (2, 0), (3, 0), (2, 0), (2, 0), (0, 0), (1, 0), (0, 0), (1, 0), (1, 0), (0, 0), (1, 0), (0, 0), (0, 0), (1, 0), (2, 0), (0, 1), (0, 1), (2, 1), (0, 1), (1, 1), (1, 20), (1, 20), (1, 20), (2, 20), (3, 20), (4, 20), (1, 2), (2, 2), (2, 2), (2, 2), (1, 2), (2, 2), (2, 2), (1, 2), (2, 2), (2, 2), (2, 2), (3, 2), (4, 2), (5, 2), (4, 2), (4, 2), (4, 2), (5, 2), (5, 2), (4, 2), (5, 2), (5, 2), (3, 2), (4, 2), (3, 2), (4, 2), (3, 2), (4, 2), (5, 2), (5, 2), (3, 2), (4, 2), (3, 2), (3, 2), (1, 3), (0, 3), (0, 3), (0, 3), (0, 3), (0, 3), (0, 3), (0, 3), (0, 3), (0, 3), (0, 3), (3, 3), (0, 3), (1, 3), (1, 3), (1, 3), (3, 3), (3, 4), (0, 4), (0, 4), (0, 4), (0, 4), (0, 4), (2, 4), (0, 4), (0, 4), (0, 4), (4, 4), (2, 4), (0, 4), (4, 4), (2, 4), (2, 4), (4, 4), (1, 4), (2, 4), (1, 4), (0, 4), (0, 4), (2, 4), (0, 5), (1, 5), (1, 5), (0, 5), (2, 5), (0, 6), (0, 6), (1, 6), (1, 6), (0, 6), (2, 7), (1, 7), (1, 7), (2, 7), (1, 7), (2, 7), (1, 7), (0, 8), (1, 8), (2, 8), (3, 8), (2, 8), (3, 8), (3, 8), (3, 8), (0, 8), (0, 8), (2, 8), (2, 8), (2, 8), (1, 8), (0, 8), (0, 8), (0, 8), (2, 8), (0, 8), (1, 8), (3, 8), (3, 8), (2, 8), (1, 8), (2, 8), (2, 8), (2, 8), (3, 8), (0, 8), (2, 8), (0, 8), (0, 8), (1, 8), (1, 8), (0, 8), (0, 8), (0, 8), (1, 8), (1, 8), (0, 8), (0, 8), (1, 8), (1, 8), (2, 8), (2, 8), (0, 8), (1, 8), (1, 8), (2, 8), (1, 8), (1, 8), (2, 8), (1, 8), (2, 8), (0, 9), (0, 9), (1, 9), (3, 9), (1, 9), (0, 9), (0, 9), (2, 9), (1, 9), (1, 9), (1, 9), (1, 9), (1, 9), (7, 9), (8, 9), (0, 9), (1, 9), (2, 9), (2, 9), (3, 9), (3, 9), (3, 9), (2, 9), (3, 9), (3, 9), (2, 9), (3, 9), (3, 9), (3, 9), (0, 9), (0, 9), (1, 9), (2, 9), (2, 9), (2, 9), (2, 9), (4, 9), (4, 9), (1, 9), (0, 9), (0, 9), (1, 9), (2, 9), (1, 9), (0, 9), (0, 9), (0, 9), (2, 9), (0, 9), (1, 9), (2, 9), (0, 9), (1, 9), (3, 9), (3, 9), (3, 9), (2, 9), (1, 9), (1, 9), (2, 9), (2, 9), (2, 9), (2, 9), (3, 9), (1, 9), (0, 9), (2, 9), (0, 9), (0, 9), (0, 9), (1, 9), (1, 9), (0, 9), (1, 9), (1, 9), (1, 9), (1, 9), (1, 9), (1, 9), (0, 9), (3, 9), (0, 9), (1, 9), (0, 9), (0, 9), (0, 9), (0, 9), (0, 9), (0, 9), (0, 9), (4, 9), (0, 9), (1, 9), (1, 9), (1, 9), (1, 9), (1, 9), (1, 9), (0, 9), (1, 20), (2, 20), (2, 20), (0, 20), (1, 20), (0, 20), (0, 20), (2, 20), (2, 20), (2, 20), (1, 20), (2, 20), (2, 20), (3, 20), (3, 20), (4, 20), (5, 20), (4, 20), (5, 20), (5, 20), (5, 20), (4, 20), (4, 20), (4, 20), (3, 20), (2, 20), (2, 20), (4, 20), (3, 20), (5, 20), (5, 20), (4, 20), (3, 20), (4, 20), (4, 20), (4, 20), (5, 20), (4, 20), (3, 20), (3, 20), (2, 20), (3, 20), (2, 20), (1, 20)]
def tMP (n : Nat) : Nat × Nat := oMP.getD n (0, 99)
end
section
/-! ===== an abstract machine over numbered objects: values, heap, instructions (a condition for each of them), one method's code ===== -/
abbrev AV : Type := Int ⊕ (Int64 ⊕ Option Nat)
abbrev Hp : Type := Nat × ((Nat → Nat → Int) × ((Nat → Nat → Int64) × (Nat → Nat → Option Nat)))
def hN (h : Hp) : Nat := h.1
def hI (h : Hp) : Nat → Nat → Int := h.2.1
def hJ (h : Hp) : Nat → Nat → Int64 := h.2.2.1
def hR (h : Hp) : Nat → Nat → Option Nat := h.2.2.2
def up2 {α : Type} (f : Nat → Nat → α) (a k : Nat) (x : α) : Nat → Nat → α := fun b j => if b = a ∧ j = k then x else f b j
def setI (h : Hp) (a k : Nat) (x : Int) : Hp := (h.1, up2 h.2.1 a k x, h.2.2)
def setJ (h : Hp) (a k : Nat) (x : Int64) : Hp := (h.1, h.2.1, up2 h.2.2.1 a k x, h.2.2.2)
def setR (h : Hp) (a k : Nat) (x : Option Nat) : Hp := (h.1, h.2.1, h.2.2.1, up2 h.2.2.2 a k x)
/-- a new object or array, all zero -/
def hnew (h : Hp) : Hp := (h.1 + 1, (fun a k => if a = h.1 then 0 else h.2.1 a k), (fun a k => if a = h.1 then 0 else h.2.2.1 a k), (fun a k => if a = h.1 then none else h.2.2.2 a k))
/-- n ints of the row b from q on come into the row a from d on -/
def cpyI (h : Hp) (b q a d n : Nat) : Hp := (h.1, (fun x k => if x = a ∧ d ≤ k ∧ k < d + n then h.2.1 b (q + (k - d)) else h.2.1 x k), h.2.2)
def Rng (x : Int) : Prop := -2147483648 ≤ x ∧ x < 2147483648
abbrev iw (x : Int) : Int32 := Int32.ofInt x
def bAnd (x y : Int) : Int := (iw x &&& iw y).toInt
def bOr (x y : Int) : Int := (iw x ||| iw y).toInt
def bXor (x y : Int) : Int := (iw x ^^^ iw y).toInt
def sShl (x y : Int) : Int := (iw x <<< (iw y &&& 31)).toInt
def sShr (x y : Int) : Int := (iw x >>> (iw y &&& 31)).toInt
def lShl (x : Int64) (y : Int) : Int64 := x <<< ((iw y).toInt64 &&& 63)
def lShr (x : Int64) (y : Int) : Int64 := x >>> ((iw y).toInt64 &&& 63)
def lUshr (x : Int64) (y : Int) : Int64 := (x.toUInt64 >>> ((iw y).toInt64.toUInt64 &&& Int64.toUInt64 63)).toInt64
def i2L (x : Int) : Int64 := (iw x).toInt64
def l2I (x : Int64) : Int := x.toInt32.toInt
def cmpL (x y : Int64) : Int := if x > y then 1 else if x = y then 0 else -1
def cat1 : AV → Bool
  | .inr (.inl _) => false
  | _ => true
def catS : List AV → Nat
  | [] => 0
  | v :: l => (if cat1 v then 1 else 2) + catS l
/-- what a place of the locals holds -/
def lget : List (Nat × AV) → Nat → Option AV
  | [], _ => none
  | q :: l, i => cond (Nat.beq q.1 i) (some q.2) (lget l i)
def lset1 (l : List (Nat × AV)) (i : Nat) (v : AV) : List (Nat × AV) := (i, v) :: l.filter (fun q => !(q.1 == i) && !(q.1 + 1 == i && !(cat1 q.2)))
def lset2 (l : List (Nat × AV)) (i : Nat) (v : AV) : List (Nat × AV) := (i, v) :: l.filter (fun q => !(q.1 == i) && (!(q.1 == i + 1) && !(q.1 + 1 == i && !(cat1 q.2))))
def memb (x : Nat) : List Nat → Bool
  | [] => false
  | y :: l => cond (Nat.beq x y) true (memb x l)
def look {α : Type} : List (Nat × α) → Nat → Option α
  | [], _ => none
  | q :: l, i => cond (Nat.beq q.1 i) (some q.2) (look l i)
/-- a row of code: the place of the next one, the places that it may jump to -/
abbrev Row : Type := Instr × (Nat × List Nat)
abbrev AK : Type := Nat → List (Nat × AV) → List AV → Hp → Nat → Nat → Prop
abbrev Spec : Type := List AV → Hp → (Option AV → Hp → Prop) → (Nat → Hp → Prop) → Prop
/-- what a caller knows of a callee: cells and slots that it may make, what it asks and gives -/
abbrev CS : Type := (List AV → Hp → Nat × Nat) × Spec
def noS : CS := (fun _ _ => (0, 0), fun _ _ _ _ => False)
def zero : List AV → Hp → Nat × Nat := fun _ _ => (0, 0)
def takeA : Nat → List AV → List AV → Option (List AV × List AV)
  | 0, acc, st => some (acc, st)
  | n + 1, acc, v :: st => takeA n (v :: acc) st
  | _ + 1, _, [] => none
def putR (r : Option AV) (st : List AV) : List AV := match r with
  | none => st
  | some v => v :: st
def ob (b : Bool) (P : Prop) : Prop := cond b P False
def hfind (hd : List (Nat × (Nat × (Nat × Nat)))) (pc E : Nat) : Option Nat := match hd with
  | [] => none
  | q :: l => cond (Nat.ble q.1 pc && (Nat.blt pc q.2.1 && Nat.beq q.2.2.1 E)) (some q.2.2.2) (hfind l pc E)
def swt (x lo : Int) (g : Nat → Prop) : List Nat → Prop
  | [] => True
  | t :: l => (x = lo → g t) ∧ swt x (lo + 1) g l
section Stp
variable (fx : Bool) (own rk MC MS : Nat) (S : Nat → CS) (hd : List (Nat × (Nat × (Nat × Nat)))) (Rt : Option AV → Hp → Nat → Nat → Prop) (X : Nat → Hp → Nat → Nat → Prop) (SL : Nat) (SX : Nat → Int) (k : AK)
def ldI (ls : List (Nat × AV)) (n : Nat) (g : AV → Prop) : Prop := match lget ls n with
  | some (.inl x) => g (.inl x)
  | _ => False
def ldL (ls : List (Nat × AV)) (n : Nat) (g : AV → Prop) : Prop := match lget ls n with
  | some (.inr (.inl x)) => g (.inr (.inl x))
  | _ => False
def ldA (ls : List (Nat × AV)) (n : Nat) (g : AV → Prop) : Prop := match lget ls n with
  | some (.inr (.inr x)) => g (.inr (.inr x))
  | _ => False
def two (st : List AV) (g : Int → Int → List AV → Prop) : Prop := match st with
  | .inl y :: .inl x :: r => g x y r
  | _ => False
def twoL (st : List AV) (g : Int64 → Int64 → List AV → Prop) : Prop := match st with
  | .inr (.inl y) :: .inr (.inl x) :: r => g x y r
  | _ => False
def oneI (st : List AV) (g : Int → List AV → Prop) : Prop := match st with
  | .inl x :: r => g x r
  | _ => False
def oneL (st : List AV) (g : Int64 → List AV → Prop) : Prop := match st with
  | .inr (.inl x) :: r => g x r
  | _ => False
def oneA (st : List AV) (g : Nat → List AV → Prop) : Prop := match st with
  | .inr (.inr (some a)) :: r => g a r
  | _ => False
def br (c : ClassFile.Cond) (x y : Int) (A B : Prop) : Prop := match c with
  | .eq => (x = y → A) ∧ (x ≠ y → B)
  | .ne => (x ≠ y → A) ∧ (x = y → B)
  | .lt => (x < y → A) ∧ (y ≤ x → B)
  | .ge => (y ≤ x → A) ∧ (x < y → B)
  | .gt => (y < x → A) ∧ (x ≤ y → B)
  | .le => (x ≤ y → A) ∧ (y < x → B)
def tg0 (tg : List Nat) : Nat := match tg with
  | t :: _ => t
  | [] => 0
/-- constants, locals, the stack, jumps -/
def stpA (pc : Nat) (i : Instr) (nx : Nat) (tg : List Nat) (ls : List (Nat × AV)) (st : List AV) (h : Hp) (c s : Nat) (other : Prop) : Prop := match i with
  | .iconst n => k nx ls (.inl n :: st) h c s
  | .bipush n => k nx ls (.inl n :: st) h c s
  | .sipush n => k nx ls (.inl n :: st) h c s
  | .lconst n => k nx ls (.inr (.inl (Int64.ofNat n)) :: st) h c s
  | .ldc idx => (match look (tCON own) idx with
    | some x => k nx ls (.inl x :: st) h c s
    | none => False)
  | .ldc2_w idx => (match look (tCOL own) idx with
    | some x => k nx ls (.inr (.inl x) :: st) h c s
    | none => False)
  | .aconst_null => k nx ls (.inr (.inr none) :: st) h c s
  | .iload_n n => ldI ls n (fun v => k nx ls (v :: st) h c s)
  | .iload n => ldI ls n (fun v => k nx ls (v :: st) h c s)
  | .lload_n n => ldL ls n (fun v => k nx ls (v :: st) h c s)
  | .lload n => ldL ls n (fun v => k nx ls (v :: st) h c s)
  | .aload_n n => ldA ls n (fun v => k nx ls (v :: st) h c s)
  | .aload n => ldA ls n (fun v => k nx ls (v :: st) h c s)
  | .istore_n n => oneI st (fun x r => k nx (lset1 ls n (.inl x)) r h c s)
  | .istore n => oneI st (fun x r => k nx (lset1 ls n (.inl x)) r h c s)
  | .lstore_n n => oneL st (fun x r => k nx (lset2 ls n (.inr (.inl x))) r h c s)
  | .lstore n => oneL st (fun x r => k nx (lset2 ls n (.inr (.inl x))) r h c s)
  | .astore_n n => oneA st (fun x r => k nx (lset1 ls n (.inr (.inr (some x)))) r h c s)
  | .astore n => oneA st (fun x r => k nx (lset1 ls n (.inr (.inr (some x)))) r h c s)
  | .iinc n d => (match lget ls n with
    | some (.inl x) => Rng (x + d) ∧ k nx (lset1 ls n (.inl (x + d))) st h c s
    | _ => False)
  | .dup => (match st with
    | v :: r => ob (cat1 v) (k nx ls (v :: v :: r) h c s)
    | _ => False)
  | .dup2 => (match st with
    | .inr (.inl x) :: r => k nx ls (.inr (.inl x) :: .inr (.inl x) :: r) h c s
    | v :: w :: r => ob (cat1 v && cat1 w) (k nx ls (v :: w :: v :: w :: r) h c s)
    | _ => False)
  | .pop => (match st with
    | v :: r => ob (cat1 v) (k nx ls r h c s)
    | _ => False)
  | .goto _ => k (tg0 tg) ls st h c s
  | .ifCond q _ => oneI st (fun x r => br q x 0 (k (tg0 tg) ls r h c s) (k nx ls r h c s))
  | .if_icmp q _ => two st (fun x y r => br q x y (k (tg0 tg) ls r h c s) (k nx ls r h c s))
  | .ifnonnull _ => (match st with
    | .inr (.inr v) :: r => (∀ a, v = some a → k (tg0 tg) ls r h c s) ∧ (v = none → k nx ls r h c s)
    | _ => False)
  | .tableswitch _ lo hi _ => oneI st (fun x r => (match tg with
    | d :: l => (x < lo ∨ hi < x → k d ls r h c s) ∧ swt x lo (fun t => k t ls r h c s) l
    | [] => False))
  | _ => other
/-- arithmetic -/
def stpB (i : Instr) (nx : Nat) (ls : List (Nat × AV)) (st : List AV) (h : Hp) (c s : Nat) (other : Prop) : Prop := match i with
  | .iadd => two st (fun x y r => Rng (x + y) ∧ k nx ls (.inl (x + y) :: r) h c s)
  | .isub => two st (fun x y r => Rng (x - y) ∧ k nx ls (.inl (x - y) :: r) h c s)
  | .imul => two st (fun x y r => Rng (x * y) ∧ k nx ls (.inl (x * y) :: r) h c s)
  | .idiv => two st (fun x y r => 0 ≤ x ∧ 0 < y ∧ k nx ls (.inl (x / y) :: r) h c s)
  | .irem => two st (fun x y r => 0 ≤ x ∧ 0 < y ∧ k nx ls (.inl (x % y) :: r) h c s)
  | .iand => two st (fun x y r => k nx ls (.inl (bAnd x y) :: r) h c s)
  | .ior => two st (fun x y r => k nx ls (.inl (bOr x y) :: r) h c s)
  | .ixor => two st (fun x y r => k nx ls (.inl (bXor x y) :: r) h c s)
  | .ishl => two st (fun x y r => k nx ls (.inl (sShl x y) :: r) h c s)
  | .ishr => two st (fun x y r => k nx ls (.inl (sShr x y) :: r) h c s)
  | .ineg => oneI st (fun x r => Rng (-x) ∧ k nx ls (.inl (-x) :: r) h c s)
  | .i2l => oneI st (fun x r => k nx ls (.inr (.inl (i2L x)) :: r) h c s)
  | .l2i => oneL st (fun x r => k nx ls (.inl (l2I x) :: r) h c s)
  | .ladd => twoL st (fun x y r => k nx ls (.inr (.inl (x + y)) :: r) h c s)
  | .lsub => twoL st (fun x y r => k nx ls (.inr (.inl (x - y)) :: r) h c s)
  | .lmul => twoL st (fun x y r => k nx ls (.inr (.inl (x * y)) :: r) h c s)
  | .land => twoL st (fun x y r => k nx ls (.inr (.inl (x &&& y)) :: r) h c s)
  | .lor => twoL st (fun x y r => k nx ls (.inr (.inl (x ||| y)) :: r) h c s)
  | .lxor => twoL st (fun x y r => k nx ls (.inr (.inl (x ^^^ y)) :: r) h c s)
  | .lcmp => twoL st (fun x y r => k nx ls (.inl (cmpL x y) :: r) h c s)
  | .lneg => oneL st (fun x r => k nx ls (.inr (.inl (-x)) :: r) h c s)
  | .lshl => (match st with
    | .inl y :: .inr (.inl x) :: r => k nx ls (.inr (.inl (lShl x y)) :: r) h c s
    | _ => False)
  | .lshr => (match st with
    | .inl y :: .inr (.inl x) :: r => k nx ls (.inr (.inl (lShr x y)) :: r) h c s
    | _ => False)
  | .lushr => (match st with
    | .inl y :: .inr (.inl x) :: r => k nx ls (.inr (.inl (lUshr x y)) :: r) h c s
    | _ => False)
  | _ => other
def inR (i : Int) (n : Nat) : Prop := 0 ≤ i ∧ i < n
/-- fields and arrays -/
def stpC (i : Instr) (nx : Nat) (ls : List (Nat × AV)) (st : List AV) (h : Hp) (c s : Nat) (other : Prop) : Prop := match i with
  | .getfield idx => (match look (tFLD own) idx with
    | some q => oneA st (fun a r => ob (Nat.beq (tGK a).1 q.1) (match tFT q.1 q.2.1 with
      | 1 => k nx ls (.inr (.inl (hJ h a q.2.1)) :: r) h c s
      | 2 => (match tGF a q.2.1 with
        | some b => (cond fx (k nx ls (.inr (.inr (some b)) :: r) h c s) (hR h a q.2.1 = some b ∧ k nx ls (.inr (.inr (some b)) :: r) h c s))
        | none => k nx ls (.inr (.inr (hR h a q.2.1)) :: r) h c s)
      | _ => k nx ls (.inl (hI h a q.2.1) :: r) h c s))
    | none => False)
  | .putfield idx => (match look (tFLD own) idx with
    | some q => (match st with
      | .inl x :: .inr (.inr (some a)) :: r => ob (Nat.beq (tGK a).1 q.1) (match tFT q.1 q.2.1 with
        | 0 => k nx ls r (setI h a q.2.1 x) c s
        | 3 => (x = 0 ∨ x = 1) ∧ k nx ls r (setI h a q.2.1 x) c s
        | _ => False)
      | .inr (.inl x) :: .inr (.inr (some a)) :: r => ob (Nat.beq (tGK a).1 q.1 && Nat.beq (tFT q.1 q.2.1) 1) (k nx ls r (setJ h a q.2.1 x) c s)
      | .inr (.inr (some b)) :: .inr (.inr (some a)) :: r => ob (Nat.beq (tGK a).1 q.1 && (Nat.beq (tFT q.1 q.2.1) 2 && (Nat.blt b 1000 && cond fx ((tGF a q.2.1).isNone) true))) (k nx ls r (setR h a q.2.1 (some b)) c s)
      | _ => False)
    | none => False)
  | .iaload => (match st with
    | .inl j :: .inr (.inr (some a)) :: r => cond (Nat.beq a 1000) (inR j SL ∧ k nx ls (.inl (SX j.toNat) :: r) h c s) (ob (Nat.beq (tGK a).1 20) (inR j (tGK a).2 ∧ k nx ls (.inl (hI h a j.toNat) :: r) h c s))
    | _ => False)
  | .laload => (match st with
    | .inl j :: .inr (.inr (some a)) :: r => cond (Nat.beq a 1001) (inR j 6 ∧ k nx ls (.inr (.inl (tLB j.toNat)) :: r) h c s) (ob (Nat.beq (tGK a).1 21) (inR j (tGK a).2 ∧ k nx ls (.inr (.inl (hJ h a j.toNat)) :: r) h c s))
    | _ => False)
  | .baload => (match st with
    | .inl j :: .inr (.inr (some a)) :: r => ob (Nat.beq (tGK a).1 22) (inR j (tGK a).2 ∧ k nx ls (.inl (hI h a j.toNat) :: r) h c s)
    | _ => False)
  | .aaload => (match st with
    | .inl j :: .inr (.inr (some a)) :: r => ob (Nat.beq (tGK a).1 23) (inR j (tGK a).2 ∧ k nx ls (.inr (.inr (hR h a j.toNat)) :: r) h c s)
    | _ => False)
  | .iastore => (match st with
    | .inl x :: .inl j :: .inr (.inr (some a)) :: r => ob (Nat.beq (tGK a).1 20) (inR j (tGK a).2 ∧ k nx ls r (setI h a j.toNat x) c s)
    | _ => False)
  | .lastore => (match st with
    | .inr (.inl x) :: .inl j :: .inr (.inr (some a)) :: r => ob (Nat.beq (tGK a).1 21) (inR j (tGK a).2 ∧ k nx ls r (setJ h a j.toNat x) c s)
    | _ => False)
  | .bastore => (match st with
    | .inl x :: .inl j :: .inr (.inr (some a)) :: r => ob (Nat.beq (tGK a).1 22) (inR j (tGK a).2 ∧ (x = 0 ∨ x = 1) ∧ k nx ls r (setI h a j.toNat x) c s)
    | _ => False)
  | .aastore => (match st with
    | .inr (.inr (some b)) :: .inl j :: .inr (.inr (some a)) :: r => ob (Nat.beq (tGK a).1 23 && Nat.beq (tGK b).1 5) (inR j (tGK a).2 ∧ b < 1000 ∧ k nx ls r (setR h a j.toNat (some b)) c s)
    | _ => False)
  | .arraylength => oneA st (fun a r => cond (Nat.beq a 1000) (k nx ls (.inl (SL : Int) :: r) h c s) (ob (Nat.ble 20 (tGK a).1) (k nx ls (.inl ((tGK a).2 : Int) :: r) h c s)))
  | .newarray t => (match t, st with
    | .int, .inl n :: r => c + 1 ≤ MC ∧ s + n.toNat ≤ MS ∧ ob (Nat.beq (tGK (hN h)).1 20) (n = (tGK (hN h)).2 ∧ k nx ls (.inr (.inr (some (hN h))) :: r) (hnew h) (c + 1) (s + n.toNat))
    | .long, .inl n :: r => c + 1 ≤ MC ∧ s + n.toNat ≤ MS ∧ ob (Nat.beq (tGK (hN h)).1 21) (n = (tGK (hN h)).2 ∧ k nx ls (.inr (.inr (some (hN h))) :: r) (hnew h) (c + 1) (s + n.toNat))
    | .boolean, .inl n :: r => c + 1 ≤ MC ∧ s + n.toNat ≤ MS ∧ ob (Nat.beq (tGK (hN h)).1 22) (n = (tGK (hN h)).2 ∧ k nx ls (.inr (.inr (some (hN h))) :: r) (hnew h) (c + 1) (s + n.toNat))
    | _, _ => False)
  | .anewarray _ => (match st with
    | .inl n :: r => c + 1 ≤ MC ∧ s + n.toNat ≤ MS ∧ ob (Nat.beq (tGK (hN h)).1 23) (n = (tGK (hN h)).2 ∧ k nx ls (.inr (.inr (some (hN h))) :: r) (hnew h) (c + 1) (s + n.toNat))
    | _ => False)
  | .getstatic _ => k nx ls (.inr (.inr (some 1001)) :: st) h c s
  | _ => other
/-- a call of the method n: its words -/
def doC (pc nx : Nat) (ls : List (Nat × AV)) (h : Hp) (c s : Nat) (n : Nat) (as rest : List AV) : Prop :=
  ob (Nat.ble (catS rest) 8) (c + ((S n).1 as h).1 ≤ MC ∧ s + ((S n).1 as h).2 ≤ MS ∧ (S n).2 as h (fun r h1 => k nx ls (putR r rest) h1 (c + ((S n).1 as h).1) (s + ((S n).1 as h).2))
    (fun E h1 => match hfind hd pc E with
      | some t => k t [] [.inr (.inr (some 1003))] h1 (c + ((S n).1 as h).1) (s + ((S n).1 as h).2)
      | none => X E h1 (c + ((S n).1 as h).1) (s + ((S n).1 as h).2)))
/-- calls, ends, what is made and thrown -/
def stpD (pc : Nat) (i : Instr) (nx : Nat) (tg : List Nat) (ls : List (Nat × AV)) (st : List AV) (h : Hp) (c s : Nat) : Prop := match i with
  | .invokevirtual idx => (match look (tCALL own) idx with
    | some q => (match takeA (tMP q.2.1).1 [] st with
      | some (as, .inr (.inr (some a)) :: rest) => ob (Nat.beq q.1 0 && Nat.beq (tGK a).1 (tMP q.2.1).2) (doC MC MS S hd X k pc nx ls h c s q.2.1 (.inr (.inr (some a)) :: as) rest)
      | _ => False)
    | none => False)
  | .invokestatic idx => (match look (tCALL own) idx with
    | some q => (match takeA (tMP q.2.1).1 [] st with
      | some (as, rest) => ob (Nat.beq q.1 1) (doC MC MS S hd X k pc nx ls h c s q.2.1 as rest)
      | _ => False)
    | none => (match st with
      | .inl n :: .inl d :: .inr (.inr (some a)) :: .inl q :: .inr (.inr (some b)) :: r => ob (Nat.beq (tGK a).1 20 && (Nat.beq (tGK b).1 20 && Nat.ble (catS r) 8)) (0 ≤ n ∧ 0 ≤ d ∧ 0 ≤ q ∧ q + n ≤ (tGK b).2 ∧ d + n ≤ (tGK a).2 ∧ k nx ls r (cpyI h b q.toNat a d.toNat n.toNat) c s)
      | _ => False))
  | .invokespecial idx => (match look (tCALL own) idx with
    | some q => (match takeA (tMP q.2.1).1 [] st with
      | some (as, .inr (.inr (some a)) :: rest) => ob (Nat.beq q.1 2 && Nat.beq (tGK a).1 (tMP q.2.1).2) (doC MC MS S hd X k pc nx ls h c s q.2.1 (.inr (.inr (some a)) :: as) rest)
      | _ => False)
    | none => oneA st (fun _ r => ob (Nat.ble (catS r) 8) (k nx ls r h c s)))
  | .new idx => (match tg with
    | [] => (match look (tNEW own) idx with
      | some q => c + 1 ≤ MC ∧ s + (tNF q) ≤ MS ∧ ob (!fx && Nat.beq (tGK (hN h)).1 q) (k nx ls (.inr (.inr (some (hN h))) :: st) (hnew h) (c + 1) (s + (tNF q)))
      | none => False)
    | E :: _ => c + 1 ≤ MC ∧ s + 6 ≤ MS ∧ ob (Nat.ble (catS st) 8) (X E h (c + 1) (s + 6)))
  | .ireturn => (match st with
    | [.inl x] => (match rk with
      | 1 => Rt (some (.inl x)) h c s
      | 2 => (x = 0 ∨ x = 1) ∧ Rt (some (.inl x)) h c s
      | _ => False)
    | _ => False)
  | .lreturn => (match st with
    | [.inr (.inl x)] => ob (Nat.beq rk 3) (Rt (some (.inr (.inl x))) h c s)
    | _ => False)
  | .areturn => (match st with
    | [.inr (.inr x)] => ob (Nat.beq rk 4) (Rt (some (.inr (.inr x))) h c s)
    | _ => False)
  | .return_ => (match st with
    | [] => ob (Nat.beq rk 0) (Rt none h c s)
    | _ => False)
  | _ => False
def stp (pc : Nat) (i : Instr) (nx : Nat) (tg : List Nat) (ls : List (Nat × AV)) (st : List AV) (h : Hp) (c s : Nat) : Prop :=
  stpA own k pc i nx tg ls st h c s (stpB k i nx ls st h c s (stpC fx own MC MS SL SX k i nx ls st h c s (stpD fx own rk MC MS S hd Rt X k pc i nx tg ls st h c s)))
end Stp
/-- from the place pc on, till the places of cut, where K must hold: the condition that all goes well -/
def aw (fx : Bool) (own rk MC MS : Nat) (S : Nat → CS) (hd : List (Nat × (Nat × (Nat × Nat)))) (Rt : Option AV → Hp → Nat → Nat → Prop) (X : Nat → Hp → Nat → Nat → Prop) (SL : Nat) (SX : Nat → Int) (code : List (Nat × Row)) (cut : List Nat) (K : AK) : Nat → AK
  | 0, _, _, _, _, _, _ => False
  | n + 1, pc, ls, st, h, c, s => match look code pc with
    | none => False
    | some r => stp fx own rk MC MS S hd Rt X SL SX (fun pc1 ls1 st1 h1 c1 s1 => cond (memb pc1 cut) (K pc1 ls1 st1 h1 c1 s1) (aw fx own rk MC MS S hd Rt X SL SX code cut K n pc1 ls1 st1 h1 c1 s1)) pc r.1 r.2.1 r.2.2 ls st h c s
end
section
/-! ===== the abstract machine is right: values, the heap's picture, a state's picture ===== -/
def cv (ad : Nat → Nat) : AV → Value
  | .inl x => .int (iw x)
  | .inr (.inl y) => .long y
  | .inr (.inr r) => va_rf (r.map ad)
theorem cv_int (ad : Nat → Nat) (x : Int) : cv ad (.inl x) = .int (iw x) := rfl
theorem cv_long (ad : Nat → Nat) (x : Int64) : cv ad (.inr (.inl x)) = .long x := rfl
theorem cv_ref (ad : Nat → Nat) (a : Nat) : cv ad (.inr (.inr (some a))) = .ref (ad a) := rfl
theorem cv_nul (ad : Nat → Nat) : cv ad (.inr (.inr none)) = .null := rfl
theorem cv_cat1 (ad : Nat → Nat) (v : AV) (h : cat1 v = true) : (cv ad v).category = 1 := by
  rcases v with x | x | (_ | a) <;> first | rfl | (simp [cat1] at h)
theorem cv_cat2 (ad : Nat → Nat) (v : AV) : ((cv ad v).category == 2) = !(cat1 v) := by
  rcases v with x | x | (_ | a) <;> rfl
theorem cv_sum (ad : Nat → Nat) (st : List AV) : ((st.map (cv ad)).map fun v => v.category).sum = catS st := by
  induction st with
  | nil => rfl
  | cons v l ih =>
    simp only [List.map_cons, List.sum_cons, catS]
    rw [ih]
    rcases v with x | x | (_ | a) <;> rfl
def fv (ad : Nat → Nat) (h : Hp) (ci a k : Nat) : Value := match tFT ci k with
  | 1 => .long (hJ h a k)
  | 2 => va_rf ((hR h a k).map ad)
  | _ => .int (iw (hI h a k))
def ent (ad : Nat → Nat) (ca : Nat → ClassId) (h : Hp) (a : Nat) : va_E := match (tGK a).1 with
  | 20 => .inl (ca 0, (tGK a).2, .inl (fun j => iw (hI h a j)))
  | 21 => .inl (ca 1, (tGK a).2, .inr (.inl (fun j => hJ h a j)))
  | 22 => .inl (ca 2, (tGK a).2, .inl (fun j => iw (hI h a j)))
  | 23 => .inl (ca 3, (tGK a).2, .inr (.inr (.inr (.inr (fun j => (hR h a j).map ad)))))
  | ci => .inr (ci, (List.range (tNF ci)).map (fv ad h ci a))
def wo (ad : Nat → Nat) (ca : Nat → ClassId) (h : Hp) : va_W := (List.range (hN h)).map fun a => (ad a, ent ad ca h a)
def vok (N : Nat) : AV → Prop
  | .inl x => Rng x
  | .inr (.inr (some a)) => a < N ∨ 1000 ≤ a
  | _ => True
def hok (h : Hp) : Prop := (∀ a k, Rng (hI h a k)) ∧ (∀ a k b, hR h a k = some b → b < hN h) ∧ hN h ≤ 79
def fixed (h : Hp) : Prop := ∀ a k b, tGF a k = some b → hR h a k = some b
def Cn (D : va_G) (ca : Nat → ClassId) (A : Nat → Prop) (ad : Nat → Nat) (fx : Bool) (nL : Nat) (ls : List (Nat × AV)) (st : List AV) (h : Hp) (H : Heap) (L : Array Slot) : Prop :=
  lv_has L nL (ls.map fun q => (q.1, cv ad q.2)) ∧ va_P D vwCl (wo ad ca h) H ∧ va_D A (wo ad ca h) ∧ (∀ q ∈ ls, vok (hN h) q.2) ∧ (∀ v ∈ st, vok (hN h) v) ∧ hok h ∧ (fx = true → fixed h)
theorem rng_of (x : Int32) : Rng x.toInt := by
  have h1 := Int32.le_toInt x
  have h2 := Int32.toInt_lt x
  exact ⟨by omega, by omega⟩
theorem iw_toInt {z : Int} (h : Rng z) : (iw z).toInt = z := by
  have h1 := h.1
  have h2 := h.2
  have h3 : z.bmod (2 ^ 32) = z := by rw [Int.bmod_eq_of_le (by omega) (by omega)]
  exact (Int32.toInt_ofInt).trans h3
theorem iw_of (x : Int32) : iw x.toInt = x := Int32.ofInt_toInt x
theorem iw_inj {x y : Int} (hx : Rng x) (hy : Rng y) : iw x = iw y ↔ x = y := by
  constructor
  · intro e
    rw [← iw_toInt hx, ← iw_toInt hy, e]
  · intro e
    rw [e]
theorem iw_lt {x y : Int} (hx : Rng x) (hy : Rng y) : iw x < iw y ↔ x < y := by rw [Int32.lt_iff_toInt_lt, iw_toInt hx, iw_toInt hy]
theorem iw_le {x y : Int} (hx : Rng x) (hy : Rng y) : iw x ≤ iw y ↔ x ≤ y := by rw [Int32.le_iff_toInt_le, iw_toInt hx, iw_toInt hy]
theorem rng0 : Rng 0 := by constructor <;> decide
theorem iw0 : iw 0 = (0 : Int32) := rfl
theorem iw_add (x y : Int) : iw (x + y) = iw x + iw y := Int32.ofInt_add x y
theorem iw_sub (x y : Int) : iw (x - y) = iw x - iw y := Int32.ofInt_sub x y
theorem iw_mul (x y : Int) : iw (x * y) = iw x * iw y := Int32.ofInt_mul x y
theorem iw_neg (x : Int) : iw (-x) = - iw x := Int32.ofInt_neg x
theorem rng_div {x y : Int} (hx : Rng x) (h0 : 0 ≤ x) (hy : 0 < y) : Rng (x / y) := by
  have h1 := Int.ediv_nonneg h0 (Int.le_of_lt hy)
  have h2 := Int.ediv_le_self y h0
  have h3 := hx.2
  exact ⟨by omega, by omega⟩
theorem rng_mod {x y : Int} (hy1 : Rng y) (hy : 0 < y) : Rng (x % y) := by
  have h1 := Int.emod_nonneg x (show y ≠ 0 by omega)
  have h2 := Int.emod_lt_of_pos x hy
  have h3 := hy1.2
  exact ⟨by omega, by omega⟩
theorem iw_div {x y : Int} (hx : Rng x) (h0 : 0 ≤ x) (hy1 : Rng y) (hy : 0 < y) : iw (x / y) = iw x / iw y := by
  apply Int32.toInt_inj.mp
  rw [iw_toInt (rng_div hx h0 hy), Int32.toInt_div, iw_toInt hx, iw_toInt hy1, Int.tdiv_eq_ediv_of_nonneg h0]
  have h := rng_div hx h0 hy
  have h1 := h.1
  have h2 := h.2
  rw [Int.bmod_eq_of_le (by omega) (by omega)]
theorem iw_mod {x y : Int} (hx : Rng x) (h0 : 0 ≤ x) (hy1 : Rng y) (hy : 0 < y) : iw (x % y) = iw x - iw x / iw y * iw y := by
  rw [← iw_div hx h0 hy1 hy, ← iw_mul, ← iw_sub, Int.emod_def, Int.mul_comm]
theorem iw_cmp (x y : Int64) : iw (cmpL x y) = lg_cmp x y := by
  unfold cmpL lg_cmp
  split
  · rfl
  · split <;> rfl
theorem rng_cmp (x y : Int64) : Rng (cmpL x y) := by
  unfold cmpL
  split
  · constructor <;> decide
  · split <;> constructor <;> decide
theorem iw_in {j : Int} {n : Nat} (hj : Rng j) (hi : inR j n) : vp_in (iw j) n ∧ (iw j).toNatClampNeg = j.toNat := by
  have h0 := iw_toInt hj
  refine ⟨vp_in_iff.mpr ⟨by rw [h0]; exact hi.1, by rw [h0]; exact hi.2⟩, ?_⟩
  show (iw j).toInt.toNat = j.toNat
  rw [h0]
theorem iw_nat {j : Int} (hj : Rng j) (h : 0 ≤ j) : ¬ (iw j < 0) ∧ (iw j).toNatClampNeg = j.toNat := by
  have h0 := iw_toInt hj
  refine ⟨fun h2 => ?_, ?_⟩
  · have := (iw_lt hj rng0).mp (by rw [iw0]; exact h2)
    omega
  · show (iw j).toInt.toNat = j.toNat
    rw [h0]
theorem ob_spec {b : Bool} {P : Prop} (h : ob b P) : b = true ∧ P := by
  cases b
  · exact h.elim
  · exact ⟨rfl, h⟩
theorem two_spec {st : List AV} {g : Int → Int → List AV → Prop} (h : two st g) : ∃ x y r, st = .inl y :: .inl x :: r ∧ g x y r := by
  unfold two at h
  split at h
  · exact ⟨_, _, _, rfl, h⟩
  · exact h.elim
theorem twoL_spec {st : List AV} {g : Int64 → Int64 → List AV → Prop} (h : twoL st g) : ∃ x y r, st = .inr (.inl y) :: .inr (.inl x) :: r ∧ g x y r := by
  unfold twoL at h
  split at h
  · exact ⟨_, _, _, rfl, h⟩
  · exact h.elim
theorem oneI_spec {st : List AV} {g : Int → List AV → Prop} (h : oneI st g) : ∃ x r, st = .inl x :: r ∧ g x r := by
  unfold oneI at h
  split at h
  · exact ⟨_, _, rfl, h⟩
  · exact h.elim
theorem oneL_spec {st : List AV} {g : Int64 → List AV → Prop} (h : oneL st g) : ∃ x r, st = .inr (.inl x) :: r ∧ g x r := by
  unfold oneL at h
  split at h
  · exact ⟨_, _, rfl, h⟩
  · exact h.elim
theorem oneA_spec {st : List AV} {g : Nat → List AV → Prop} (h : oneA st g) : ∃ x r, st = .inr (.inr (some x)) :: r ∧ g x r := by
  unfold oneA at h
  split at h
  · exact ⟨_, _, rfl, h⟩
  · exact h.elim
theorem lget_mem {ls : List (Nat × AV)} {n : Nat} {v : AV} (h : lget ls n = some v) : (n, v) ∈ ls := by
  induction ls with
  | nil => simp [lget] at h
  | cons q l ih =>
    unfold lget at h
    cases hb : Nat.beq q.1 n with
    | true =>
      rw [hb] at h
      simp only [cond_true, Option.some.injEq] at h
      have := Nat.eq_of_beq_eq_true hb
      obtain ⟨a, b⟩ := q
      simp only at this h
      subst this; subst h
      exact List.mem_cons_self
    | false =>
      rw [hb] at h
      exact List.mem_cons_of_mem _ (ih h)
theorem ldI_spec {ls : List (Nat × AV)} {n : Nat} {g : AV → Prop} (h : ldI ls n g) : ∃ x, (n, .inl x) ∈ ls ∧ g (.inl x) := by
  unfold ldI at h
  split at h
  · exact ⟨_, lget_mem (by assumption), h⟩
  · exact h.elim
theorem ldL_spec {ls : List (Nat × AV)} {n : Nat} {g : AV → Prop} (h : ldL ls n g) : ∃ x, (n, .inr (.inl x)) ∈ ls ∧ g (.inr (.inl x)) := by
  unfold ldL at h
  split at h
  · exact ⟨_, lget_mem (by assumption), h⟩
  · exact h.elim
theorem ldA_spec {ls : List (Nat × AV)} {n : Nat} {g : AV → Prop} (h : ldA ls n g) : ∃ x, (n, .inr (.inr x)) ∈ ls ∧ g (.inr (.inr x)) := by
  unfold ldA at h
  split at h
  · exact ⟨_, lget_mem (by assumption), h⟩
  · exact h.elim
theorem lset1_map (ad : Nat → Nat) (ls : List (Nat × AV)) (i : Nat) (v : AV) : (lset1 ls i v).map (fun q => (q.1, cv ad q.2)) = (i, cv ad v) :: (ls.map fun q => (q.1, cv ad q.2)).filter (fun q => !(q.1 == i) && !(q.1 + 1 == i && q.2.category == 2)) := by
  unfold lset1
  rw [List.map_cons, List.filter_map]
  simp only [Function.comp_def, cv_cat2]
theorem lset2_map (ad : Nat → Nat) (ls : List (Nat × AV)) (i : Nat) (v : AV) : (lset2 ls i v).map (fun q => (q.1, cv ad q.2)) = (i, cv ad v) :: (ls.map fun q => (q.1, cv ad q.2)).filter (fun q => !(q.1 == i) && (!(q.1 == i + 1) && !(q.1 + 1 == i && q.2.category == 2))) := by
  unfold lset2
  rw [List.map_cons, List.filter_map]
  simp only [Function.comp_def, cv_cat2]
theorem lset1_mem {ls : List (Nat × AV)} {i : Nat} {v : AV} {N : Nat} (h : ∀ q ∈ ls, vok N q.2) (hv : vok N v) : ∀ q ∈ lset1 ls i v, vok N q.2 := by
  intro q hq
  rcases List.mem_cons.mp hq with rfl | hq
  · exact hv
  · exact h q (List.mem_filter.mp hq).1
theorem lset2_mem {ls : List (Nat × AV)} {i : Nat} {v : AV} {N : Nat} (h : ∀ q ∈ ls, vok N q.2) (hv : vok N v) : ∀ q ∈ lset2 ls i v, vok N q.2 := by
  intro q hq
  rcases List.mem_cons.mp hq with rfl | hq
  · exact hv
  · exact h q (List.mem_filter.mp hq).1
/-- an instruction's length -/
def il : Instr → Nat
  | .bipush _ | .ldc _ | .iload _ | .lload _ | .aload _ | .istore _ | .lstore _ | .astore _ | .newarray _ => 2
  | .sipush _ | .ldc_w _ | .ldc2_w _ | .iinc _ _ | .goto _ | .ifCond _ _ | .if_icmp _ _ | .ifnonnull _ | .ifnull _ | .getfield _ | .putfield _ | .getstatic _ | .new _ | .anewarray _ | .invokevirtual _ | .invokestatic _ | .invokespecial _ => 3
  | _ => 1
def swOK (pc : Nat) : List Int → List Nat → Bool
  | [], [] => true
  | o :: os, t :: ts => decide ((pc : Int) + o = (t : Int)) && swOK pc os ts
  | _, _ => false
/-- a row of code is that of the bytes -/
def rowB (cc : ByteArray) (pc : Nat) (r : Row) : Bool := match r.1 with
  | .tableswitch d lo hi offs => (match r.2.2 with
    | t :: ts => decide (decode cc pc = .ok (r.1, r.2.1 - pc)) && (decide ((pc : Int) + d = (t : Int)) && (swOK pc offs.toList ts && decide (hi - lo + 1 = (offs.size : Int))))
    | [] => false)
  | .goto o | .ifCond _ o | .if_icmp _ o | .ifnonnull o => decide (decode cc pc = .ok (r.1, il r.1)) && (decide (r.2.1 = pc + il r.1) && decide ((pc : Int) + o = (tg0 r.2.2 : Int)))
  | i => decide (decode cc pc = .ok (i, il i)) && decide (r.2.1 = pc + il i)
end
