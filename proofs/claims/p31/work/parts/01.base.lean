-- ===== PART A: goes FIRST, ahead of the names: the tables' words, and 'selects' of the private methods out of them =====
/-- a private method of a class that the tables say can be made, by its rows of tables_1 -/
def lw_okq (q : MethodName × Nat) : Prop := (q.1.cls ≠ "java/lang/invoke/MethodHandle" ∧ q.1.cls ≠ "java/lang/invoke/VarHandle") ∧ Cond.instantiable q.1.cls q.2 ∈ tables_1 ∧ Cond.privateMethod q.1 ∈ tables_1 ∧ Cond.instanceMethod q.1 ∈ tables_1
theorem lw_p0 : lw_okq (⟨"PulledSignals", "shelfAt", "(I)LPulledSignals$Shelf;"⟩, 9) := ⟨⟨by decide +kernel, by decide +kernel⟩, List.mem_of_getElem? (i := 18) (by decide +kernel), List.mem_of_getElem? (i := 219) (by decide +kernel), List.mem_of_getElem? (i := 220) (by decide +kernel)⟩
theorem lw_p1 : lw_okq (⟨"PulledSignals", "refuse", "(I)I"⟩, 9) := ⟨⟨by decide +kernel, by decide +kernel⟩, List.mem_of_getElem? (i := 18) (by decide +kernel), List.mem_of_getElem? (i := 223) (by decide +kernel), List.mem_of_getElem? (i := 224) (by decide +kernel)⟩
theorem lw_p2 : lw_okq (⟨"PulledSignals$Shelf", "lowestBits", "(J)J"⟩, 3) := ⟨⟨by decide +kernel, by decide +kernel⟩, List.mem_of_getElem? (i := 171) (by decide +kernel), List.mem_of_getElem? (i := 254) (by decide +kernel), List.mem_of_getElem? (i := 255) (by decide +kernel)⟩
theorem lw_p3 : lw_okq (⟨"PulledSignals", "saidBy", "(LPulledSignals$Cell;II)I"⟩, 9) := ⟨⟨by decide +kernel, by decide +kernel⟩, List.mem_of_getElem? (i := 18) (by decide +kernel), List.mem_of_getElem? (i := 312) (by decide +kernel), List.mem_of_getElem? (i := 313) (by decide +kernel)⟩
theorem lw_p4 : lw_okq (⟨"PulledSignals", "newCell", "(III)I"⟩, 9) := ⟨⟨by decide +kernel, by decide +kernel⟩, List.mem_of_getElem? (i := 18) (by decide +kernel), List.mem_of_getElem? (i := 350) (by decide +kernel), List.mem_of_getElem? (i := 351) (by decide +kernel)⟩
theorem lw_p5 : lw_okq (⟨"PulledSignals$Web", "roomFor", "(I)LPulledSignals$Cell;"⟩, 9) := ⟨⟨by decide +kernel, by decide +kernel⟩, List.mem_of_getElem? (i := 26) (by decide +kernel), List.mem_of_getElem? (i := 367) (by decide +kernel), List.mem_of_getElem? (i := 368) (by decide +kernel)⟩
theorem lw_p6 : lw_okq (⟨"PulledSignals", "newComputed", "(II)I"⟩, 9) := ⟨⟨by decide +kernel, by decide +kernel⟩, List.mem_of_getElem? (i := 18) (by decide +kernel), List.mem_of_getElem? (i := 449) (by decide +kernel), List.mem_of_getElem? (i := 450) (by decide +kernel)⟩
theorem lw_p7 : lw_okq (⟨"PulledSignals$FormulaReader", "start", "(I)V"⟩, 13) := ⟨⟨by decide +kernel, by decide +kernel⟩, List.mem_of_getElem? (i := 120) (by decide +kernel), List.mem_of_getElem? (i := 461) (by decide +kernel), List.mem_of_getElem? (i := 462) (by decide +kernel)⟩
theorem lw_p8 : lw_okq (⟨"PulledSignals$FormulaReader", "readPart", "(LPulledSignals$Numbers;)V"⟩, 13) := ⟨⟨by decide +kernel, by decide +kernel⟩, List.mem_of_getElem? (i := 120) (by decide +kernel), List.mem_of_getElem? (i := 467) (by decide +kernel), List.mem_of_getElem? (i := 468) (by decide +kernel)⟩
theorem lw_p9 : lw_okq (⟨"PulledSignals$FormulaReader", "openUp", "(I)V"⟩, 13) := ⟨⟨by decide +kernel, by decide +kernel⟩, List.mem_of_getElem? (i := 120) (by decide +kernel), List.mem_of_getElem? (i := 475) (by decide +kernel), List.mem_of_getElem? (i := 476) (by decide +kernel)⟩
theorem lw_p10 : lw_okq (⟨"PulledSignals$FormulaReader", "readGreater", "(LPulledSignals$Numbers;)V"⟩, 13) := ⟨⟨by decide +kernel, by decide +kernel⟩, List.mem_of_getElem? (i := 120) (by decide +kernel), List.mem_of_getElem? (i := 480) (by decide +kernel), List.mem_of_getElem? (i := 481) (by decide +kernel)⟩
theorem lw_p11 : lw_okq (⟨"PulledSignals$FormulaReader", "readUntracked", "(LPulledSignals$Numbers;)V"⟩, 13) := ⟨⟨by decide +kernel, by decide +kernel⟩, List.mem_of_getElem? (i := 120) (by decide +kernel), List.mem_of_getElem? (i := 484) (by decide +kernel), List.mem_of_getElem? (i := 485) (by decide +kernel)⟩
theorem lw_p12 : lw_okq (⟨"PulledSignals$FormulaReader", "isLetter", "(I)Z"⟩, 13) := ⟨⟨by decide +kernel, by decide +kernel⟩, List.mem_of_getElem? (i := 120) (by decide +kernel), List.mem_of_getElem? (i := 488) (by decide +kernel), List.mem_of_getElem? (i := 489) (by decide +kernel)⟩
theorem lw_p13 : lw_okq (⟨"PulledSignals$FormulaReader", "addStep", "(II)V"⟩, 13) := ⟨⟨by decide +kernel, by decide +kernel⟩, List.mem_of_getElem? (i := 120) (by decide +kernel), List.mem_of_getElem? (i := 492) (by decide +kernel), List.mem_of_getElem? (i := 493) (by decide +kernel)⟩
theorem lw_p14 : lw_okq (⟨"PulledSignals$FormulaReader", "readPlainPart", "(LPulledSignals$Numbers;I)V"⟩, 13) := ⟨⟨by decide +kernel, by decide +kernel⟩, List.mem_of_getElem? (i := 120) (by decide +kernel), List.mem_of_getElem? (i := 496) (by decide +kernel), List.mem_of_getElem? (i := 497) (by decide +kernel)⟩
theorem lw_p15 : lw_okq (⟨"PulledSignals$FormulaReader", "readNumber", "(LPulledSignals$Numbers;)I"⟩, 13) := ⟨⟨by decide +kernel, by decide +kernel⟩, List.mem_of_getElem? (i := 120) (by decide +kernel), List.mem_of_getElem? (i := 503) (by decide +kernel), List.mem_of_getElem? (i := 504) (by decide +kernel)⟩
def lw_privs_1 : List (MethodName × Nat) := [(⟨"PulledSignals", "shelfAt", "(I)LPulledSignals$Shelf;"⟩, 9), (⟨"PulledSignals", "refuse", "(I)I"⟩, 9), (⟨"PulledSignals$Shelf", "lowestBits", "(J)J"⟩, 3), (⟨"PulledSignals", "saidBy", "(LPulledSignals$Cell;II)I"⟩, 9), (⟨"PulledSignals", "newCell", "(III)I"⟩, 9), (⟨"PulledSignals$Web", "roomFor", "(I)LPulledSignals$Cell;"⟩, 9), (⟨"PulledSignals", "newComputed", "(II)I"⟩, 9), (⟨"PulledSignals$FormulaReader", "start", "(I)V"⟩, 13), (⟨"PulledSignals$FormulaReader", "readPart", "(LPulledSignals$Numbers;)V"⟩, 13), (⟨"PulledSignals$FormulaReader", "openUp", "(I)V"⟩, 13), (⟨"PulledSignals$FormulaReader", "readGreater", "(LPulledSignals$Numbers;)V"⟩, 13), (⟨"PulledSignals$FormulaReader", "readUntracked", "(LPulledSignals$Numbers;)V"⟩, 13), (⟨"PulledSignals$FormulaReader", "isLetter", "(I)Z"⟩, 13), (⟨"PulledSignals$FormulaReader", "addStep", "(II)V"⟩, 13), (⟨"PulledSignals$FormulaReader", "readPlainPart", "(LPulledSignals$Numbers;I)V"⟩, 13), (⟨"PulledSignals$FormulaReader", "readNumber", "(LPulledSignals$Numbers;)I"⟩, 13)]
theorem lw_r1 : ∀ q ∈ lw_privs_1, lw_okq q := List.forall_mem_cons.mpr ⟨lw_p0, List.forall_mem_cons.mpr ⟨lw_p1, List.forall_mem_cons.mpr ⟨lw_p2, List.forall_mem_cons.mpr ⟨lw_p3, List.forall_mem_cons.mpr ⟨lw_p4, List.forall_mem_cons.mpr ⟨lw_p5, List.forall_mem_cons.mpr ⟨lw_p6, List.forall_mem_cons.mpr ⟨lw_p7, List.forall_mem_cons.mpr ⟨lw_p8, List.forall_mem_cons.mpr ⟨lw_p9, List.forall_mem_cons.mpr ⟨lw_p10, List.forall_mem_cons.mpr ⟨lw_p11, List.forall_mem_cons.mpr ⟨lw_p12, List.forall_mem_cons.mpr ⟨lw_p13, List.forall_mem_cons.mpr ⟨lw_p14, List.forall_mem_cons.mpr ⟨lw_p15, fun _ h => absurd h List.not_mem_nil⟩⟩⟩⟩⟩⟩⟩⟩⟩⟩⟩⟩⟩⟩⟩⟩
theorem lw_p16 : lw_okq (⟨"PulledSignals$FormulaReader", "readSign", "(I)V"⟩, 13) := ⟨⟨by decide +kernel, by decide +kernel⟩, List.mem_of_getElem? (i := 120) (by decide +kernel), List.mem_of_getElem? (i := 507) (by decide +kernel), List.mem_of_getElem? (i := 508) (by decide +kernel)⟩
theorem lw_p17 : lw_okq (⟨"PulledSignals$FormulaReader", "gather", "(I)V"⟩, 13) := ⟨⟨by decide +kernel, by decide +kernel⟩, List.mem_of_getElem? (i := 120) (by decide +kernel), List.mem_of_getElem? (i := 514) (by decide +kernel), List.mem_of_getElem? (i := 515) (by decide +kernel)⟩
theorem lw_p18 : lw_okq (⟨"PulledSignals$FormulaReader", "closeDown", "()V"⟩, 13) := ⟨⟨by decide +kernel, by decide +kernel⟩, List.mem_of_getElem? (i := 120) (by decide +kernel), List.mem_of_getElem? (i := 525) (by decide +kernel), List.mem_of_getElem? (i := 526) (by decide +kernel)⟩
theorem lw_p19 : lw_okq (⟨"PulledSignals$FormulaReader", "readBracketSign", "(I)V"⟩, 13) := ⟨⟨by decide +kernel, by decide +kernel⟩, List.mem_of_getElem? (i := 120) (by decide +kernel), List.mem_of_getElem? (i := 537) (by decide +kernel), List.mem_of_getElem? (i := 538) (by decide +kernel)⟩
theorem lw_p20 : lw_okq (⟨"PulledSignals$FormulaReader", "choose", "(II)V"⟩, 13) := ⟨⟨by decide +kernel, by decide +kernel⟩, List.mem_of_getElem? (i := 120) (by decide +kernel), List.mem_of_getElem? (i := 544) (by decide +kernel), List.mem_of_getElem? (i := 545) (by decide +kernel)⟩
theorem lw_p21 : lw_okq (⟨"PulledSignals$FormulaReader", "closeWithPart", "()V"⟩, 13) := ⟨⟨by decide +kernel, by decide +kernel⟩, List.mem_of_getElem? (i := 120) (by decide +kernel), List.mem_of_getElem? (i := 552) (by decide +kernel), List.mem_of_getElem? (i := 553) (by decide +kernel)⟩
theorem lw_p22 : lw_okq (⟨"PulledSignals$FormulaReader", "endPart", "()V"⟩, 13) := ⟨⟨by decide +kernel, by decide +kernel⟩, List.mem_of_getElem? (i := 120) (by decide +kernel), List.mem_of_getElem? (i := 559) (by decide +kernel), List.mem_of_getElem? (i := 560) (by decide +kernel)⟩
theorem lw_p23 : lw_okq (⟨"PulledSignals", "refuseFault", "()I"⟩, 9) := ⟨⟨by decide +kernel, by decide +kernel⟩, List.mem_of_getElem? (i := 18) (by decide +kernel), List.mem_of_getElem? (i := 607) (by decide +kernel), List.mem_of_getElem? (i := 608) (by decide +kernel)⟩
theorem lw_p24 : lw_okq (⟨"PulledSignals$Puller", "refresh", "(II)V"⟩, 1) := ⟨⟨by decide +kernel, by decide +kernel⟩, List.mem_of_getElem? (i := 88) (by decide +kernel), List.mem_of_getElem? (i := 629) (by decide +kernel), List.mem_of_getElem? (i := 630) (by decide +kernel)⟩
theorem lw_p25 : lw_okq (⟨"PulledSignals$Puller", "checkReads", "(LPulledSignals$Cell;I)V"⟩, 1) := ⟨⟨by decide +kernel, by decide +kernel⟩, List.mem_of_getElem? (i := 88) (by decide +kernel), List.mem_of_getElem? (i := 634) (by decide +kernel), List.mem_of_getElem? (i := 635) (by decide +kernel)⟩
theorem lw_p26 : lw_okq (⟨"PulledSignals$Puller", "runOnce", "(LPulledSignals$Cell;II)V"⟩, 1) := ⟨⟨by decide +kernel, by decide +kernel⟩, List.mem_of_getElem? (i := 88) (by decide +kernel), List.mem_of_getElem? (i := 638) (by decide +kernel), List.mem_of_getElem? (i := 639) (by decide +kernel)⟩
theorem lw_p27 : lw_okq (⟨"PulledSignals$Puller", "disposeOwned", "(II)V"⟩, 1) := ⟨⟨by decide +kernel, by decide +kernel⟩, List.mem_of_getElem? (i := 88) (by decide +kernel), List.mem_of_getElem? (i := 649) (by decide +kernel), List.mem_of_getElem? (i := 650) (by decide +kernel)⟩
theorem lw_p28 : lw_okq (⟨"PulledSignals$Puller", "letGo", "(I)V"⟩, 1) := ⟨⟨by decide +kernel, by decide +kernel⟩, List.mem_of_getElem? (i := 88) (by decide +kernel), List.mem_of_getElem? (i := 654) (by decide +kernel), List.mem_of_getElem? (i := 655) (by decide +kernel)⟩
theorem lw_p29 : lw_okq (⟨"PulledSignals$Puller", "colour", "(II)V"⟩, 1) := ⟨⟨by decide +kernel, by decide +kernel⟩, List.mem_of_getElem? (i := 88) (by decide +kernel), List.mem_of_getElem? (i := 668) (by decide +kernel), List.mem_of_getElem? (i := 669) (by decide +kernel)⟩
theorem lw_p30 : lw_okq (⟨"PulledSignals$Formula", "takeStep", "(II)V"⟩, 8) := ⟨⟨by decide +kernel, by decide +kernel⟩, List.mem_of_getElem? (i := 563) (by decide +kernel), List.mem_of_getElem? (i := 684) (by decide +kernel), List.mem_of_getElem? (i := 685) (by decide +kernel)⟩
theorem lw_p31 : lw_okq (⟨"PulledSignals$Formula", "join", "(I)V"⟩, 8) := ⟨⟨by decide +kernel, by decide +kernel⟩, List.mem_of_getElem? (i := 563) (by decide +kernel), List.mem_of_getElem? (i := 693) (by decide +kernel), List.mem_of_getElem? (i := 694) (by decide +kernel)⟩
def lw_privs_2 : List (MethodName × Nat) := [(⟨"PulledSignals$FormulaReader", "readSign", "(I)V"⟩, 13), (⟨"PulledSignals$FormulaReader", "gather", "(I)V"⟩, 13), (⟨"PulledSignals$FormulaReader", "closeDown", "()V"⟩, 13), (⟨"PulledSignals$FormulaReader", "readBracketSign", "(I)V"⟩, 13), (⟨"PulledSignals$FormulaReader", "choose", "(II)V"⟩, 13), (⟨"PulledSignals$FormulaReader", "closeWithPart", "()V"⟩, 13), (⟨"PulledSignals$FormulaReader", "endPart", "()V"⟩, 13), (⟨"PulledSignals", "refuseFault", "()I"⟩, 9), (⟨"PulledSignals$Puller", "refresh", "(II)V"⟩, 1), (⟨"PulledSignals$Puller", "checkReads", "(LPulledSignals$Cell;I)V"⟩, 1), (⟨"PulledSignals$Puller", "runOnce", "(LPulledSignals$Cell;II)V"⟩, 1), (⟨"PulledSignals$Puller", "disposeOwned", "(II)V"⟩, 1), (⟨"PulledSignals$Puller", "letGo", "(I)V"⟩, 1), (⟨"PulledSignals$Puller", "colour", "(II)V"⟩, 1), (⟨"PulledSignals$Formula", "takeStep", "(II)V"⟩, 8), (⟨"PulledSignals$Formula", "join", "(I)V"⟩, 8)]
theorem lw_r2 : ∀ q ∈ lw_privs_2, lw_okq q := List.forall_mem_cons.mpr ⟨lw_p16, List.forall_mem_cons.mpr ⟨lw_p17, List.forall_mem_cons.mpr ⟨lw_p18, List.forall_mem_cons.mpr ⟨lw_p19, List.forall_mem_cons.mpr ⟨lw_p20, List.forall_mem_cons.mpr ⟨lw_p21, List.forall_mem_cons.mpr ⟨lw_p22, List.forall_mem_cons.mpr ⟨lw_p23, List.forall_mem_cons.mpr ⟨lw_p24, List.forall_mem_cons.mpr ⟨lw_p25, List.forall_mem_cons.mpr ⟨lw_p26, List.forall_mem_cons.mpr ⟨lw_p27, List.forall_mem_cons.mpr ⟨lw_p28, List.forall_mem_cons.mpr ⟨lw_p29, List.forall_mem_cons.mpr ⟨lw_p30, List.forall_mem_cons.mpr ⟨lw_p31, fun _ h => absurd h List.not_mem_nil⟩⟩⟩⟩⟩⟩⟩⟩⟩⟩⟩⟩⟩⟩⟩⟩
theorem lw_p32 : lw_okq (⟨"PulledSignals$Puller", "outcomeRead", "(LPulledSignals$Cell;III)J"⟩, 1) := ⟨⟨by decide +kernel, by decide +kernel⟩, List.mem_of_getElem? (i := 88) (by decide +kernel), List.mem_of_getElem? (i := 705) (by decide +kernel), List.mem_of_getElem? (i := 706) (by decide +kernel)⟩
theorem lw_p33 : lw_okq (⟨"PulledSignals", "anotherFormula", "(I)I"⟩, 9) := ⟨⟨by decide +kernel, by decide +kernel⟩, List.mem_of_getElem? (i := 18) (by decide +kernel), List.mem_of_getElem? (i := 745) (by decide +kernel), List.mem_of_getElem? (i := 746) (by decide +kernel)⟩
theorem lw_p34 : lw_okq (⟨"PulledSignals", "refuseLong", "(I)J"⟩, 9) := ⟨⟨by decide +kernel, by decide +kernel⟩, List.mem_of_getElem? (i := 18) (by decide +kernel), List.mem_of_getElem? (i := 785) (by decide +kernel), List.mem_of_getElem? (i := 786) (by decide +kernel)⟩
theorem lw_p35 : lw_okq (⟨"PulledSignals", "hasOutcome", "(I)Z"⟩, 9) := ⟨⟨by decide +kernel, by decide +kernel⟩, List.mem_of_getElem? (i := 18) (by decide +kernel), List.mem_of_getElem? (i := 828) (by decide +kernel), List.mem_of_getElem? (i := 829) (by decide +kernel)⟩
theorem lw_p36 : lw_okq (⟨"PulledSignals$Beside", "outcomeOf", "(II)J"⟩, 5) := ⟨⟨by decide +kernel, by decide +kernel⟩, List.mem_of_getElem? (i := 98) (by decide +kernel), List.mem_of_getElem? (i := 840) (by decide +kernel), List.mem_of_getElem? (i := 841) (by decide +kernel)⟩
theorem lw_p37 : lw_okq (⟨"PulledSignals$Beside", "outcomeRead", "(II)J"⟩, 5) := ⟨⟨by decide +kernel, by decide +kernel⟩, List.mem_of_getElem? (i := 98) (by decide +kernel), List.mem_of_getElem? (i := 850) (by decide +kernel), List.mem_of_getElem? (i := 851) (by decide +kernel)⟩
theorem lw_p38 : lw_okq (⟨"PulledSignals", "isSource", "(I)Z"⟩, 9) := ⟨⟨by decide +kernel, by decide +kernel⟩, List.mem_of_getElem? (i := 18) (by decide +kernel), List.mem_of_getElem? (i := 861) (by decide +kernel), List.mem_of_getElem? (i := 862) (by decide +kernel)⟩
theorem lw_p39 : lw_okq (⟨"PulledSignals", "heldCount", "()I"⟩, 9) := ⟨⟨by decide +kernel, by decide +kernel⟩, List.mem_of_getElem? (i := 18) (by decide +kernel), List.mem_of_getElem? (i := 970) (by decide +kernel), List.mem_of_getElem? (i := 971) (by decide +kernel)⟩
theorem lw_p40 : lw_okq (⟨"PulledSignals", "refusalCount", "(I)I"⟩, 9) := ⟨⟨by decide +kernel, by decide +kernel⟩, List.mem_of_getElem? (i := 18) (by decide +kernel), List.mem_of_getElem? (i := 975) (by decide +kernel), List.mem_of_getElem? (i := 976) (by decide +kernel)⟩
theorem lw_p41 : lw_okq (⟨"PulledSignalsModel", "isCell", "(I)Z"⟩, 29) := ⟨⟨by decide +kernel, by decide +kernel⟩, List.mem_of_getElem? (i := 979) (by decide +kernel), List.mem_of_getElem? (i := 1077) (by decide +kernel), List.mem_of_getElem? (i := 1078) (by decide +kernel)⟩
theorem lw_p42 : lw_okq (⟨"PulledSignalsModel", "isComputed", "(I)Z"⟩, 29) := ⟨⟨by decide +kernel, by decide +kernel⟩, List.mem_of_getElem? (i := 979) (by decide +kernel), List.mem_of_getElem? (i := 1084) (by decide +kernel), List.mem_of_getElem? (i := 1085) (by decide +kernel)⟩
theorem lw_p43 : lw_okq (⟨"PulledSignalsModel", "of", "(II)I"⟩, 29) := ⟨⟨by decide +kernel, by decide +kernel⟩, List.mem_of_getElem? (i := 979) (by decide +kernel), List.mem_of_getElem? (i := 1088) (by decide +kernel), List.mem_of_getElem? (i := 1089) (by decide +kernel)⟩
theorem lw_p44 : lw_okq (⟨"PulledSignalsModel", "refused", "(I)I"⟩, 29) := ⟨⟨by decide +kernel, by decide +kernel⟩, List.mem_of_getElem? (i := 979) (by decide +kernel), List.mem_of_getElem? (i := 1092) (by decide +kernel), List.mem_of_getElem? (i := 1093) (by decide +kernel)⟩
theorem lw_p45 : lw_okq (⟨"PulledSignalsModel", "compTold", "(I)V"⟩, 29) := ⟨⟨by decide +kernel, by decide +kernel⟩, List.mem_of_getElem? (i := 979) (by decide +kernel), List.mem_of_getElem? (i := 1096) (by decide +kernel), List.mem_of_getElem? (i := 1097) (by decide +kernel)⟩
theorem lw_p46 : lw_okq (⟨"PulledSignalsModel", "sumTold", "(I)V"⟩, 29) := ⟨⟨by decide +kernel, by decide +kernel⟩, List.mem_of_getElem? (i := 979) (by decide +kernel), List.mem_of_getElem? (i := 1100) (by decide +kernel), List.mem_of_getElem? (i := 1101) (by decide +kernel)⟩
theorem lw_p47 : lw_okq (⟨"PulledSignalsModel", "termTold", "(I)V"⟩, 29) := ⟨⟨by decide +kernel, by decide +kernel⟩, List.mem_of_getElem? (i := 979) (by decide +kernel), List.mem_of_getElem? (i := 1104) (by decide +kernel), List.mem_of_getElem? (i := 1105) (by decide +kernel)⟩
def lw_privs_3 : List (MethodName × Nat) := [(⟨"PulledSignals$Puller", "outcomeRead", "(LPulledSignals$Cell;III)J"⟩, 1), (⟨"PulledSignals", "anotherFormula", "(I)I"⟩, 9), (⟨"PulledSignals", "refuseLong", "(I)J"⟩, 9), (⟨"PulledSignals", "hasOutcome", "(I)Z"⟩, 9), (⟨"PulledSignals$Beside", "outcomeOf", "(II)J"⟩, 5), (⟨"PulledSignals$Beside", "outcomeRead", "(II)J"⟩, 5), (⟨"PulledSignals", "isSource", "(I)Z"⟩, 9), (⟨"PulledSignals", "heldCount", "()I"⟩, 9), (⟨"PulledSignals", "refusalCount", "(I)I"⟩, 9), (⟨"PulledSignalsModel", "isCell", "(I)Z"⟩, 29), (⟨"PulledSignalsModel", "isComputed", "(I)Z"⟩, 29), (⟨"PulledSignalsModel", "of", "(II)I"⟩, 29), (⟨"PulledSignalsModel", "refused", "(I)I"⟩, 29), (⟨"PulledSignalsModel", "compTold", "(I)V"⟩, 29), (⟨"PulledSignalsModel", "sumTold", "(I)V"⟩, 29), (⟨"PulledSignalsModel", "termTold", "(I)V"⟩, 29)]
theorem lw_r3 : ∀ q ∈ lw_privs_3, lw_okq q := List.forall_mem_cons.mpr ⟨lw_p32, List.forall_mem_cons.mpr ⟨lw_p33, List.forall_mem_cons.mpr ⟨lw_p34, List.forall_mem_cons.mpr ⟨lw_p35, List.forall_mem_cons.mpr ⟨lw_p36, List.forall_mem_cons.mpr ⟨lw_p37, List.forall_mem_cons.mpr ⟨lw_p38, List.forall_mem_cons.mpr ⟨lw_p39, List.forall_mem_cons.mpr ⟨lw_p40, List.forall_mem_cons.mpr ⟨lw_p41, List.forall_mem_cons.mpr ⟨lw_p42, List.forall_mem_cons.mpr ⟨lw_p43, List.forall_mem_cons.mpr ⟨lw_p44, List.forall_mem_cons.mpr ⟨lw_p45, List.forall_mem_cons.mpr ⟨lw_p46, List.forall_mem_cons.mpr ⟨lw_p47, fun _ h => absurd h List.not_mem_nil⟩⟩⟩⟩⟩⟩⟩⟩⟩⟩⟩⟩⟩⟩⟩⟩
theorem lw_p48 : lw_okq (⟨"PulledSignalsModel", "partTold", "(I)V"⟩, 29) := ⟨⟨by decide +kernel, by decide +kernel⟩, List.mem_of_getElem? (i := 979) (by decide +kernel), List.mem_of_getElem? (i := 1108) (by decide +kernel), List.mem_of_getElem? (i := 1109) (by decide +kernel)⟩
theorem lw_p49 : lw_okq (⟨"PulledSignalsModel", "letter", "(II)I"⟩, 29) := ⟨⟨by decide +kernel, by decide +kernel⟩, List.mem_of_getElem? (i := 979) (by decide +kernel), List.mem_of_getElem? (i := 1112) (by decide +kernel), List.mem_of_getElem? (i := 1113) (by decide +kernel)⟩
theorem lw_p50 : lw_okq (⟨"PulledSignalsModel", "tells", "(I)V"⟩, 29) := ⟨⟨by decide +kernel, by decide +kernel⟩, List.mem_of_getElem? (i := 979) (by decide +kernel), List.mem_of_getElem? (i := 1118) (by decide +kernel), List.mem_of_getElem? (i := 1119) (by decide +kernel)⟩
theorem lw_p51 : lw_okq (⟨"PulledSignalsModel", "shifts", "(II)V"⟩, 29) := ⟨⟨by decide +kernel, by decide +kernel⟩, List.mem_of_getElem? (i := 979) (by decide +kernel), List.mem_of_getElem? (i := 1122) (by decide +kernel), List.mem_of_getElem? (i := 1123) (by decide +kernel)⟩
theorem lw_p52 : lw_okq (⟨"PulledSignalsModel", "isUnder", "(II)Z"⟩, 29) := ⟨⟨by decide +kernel, by decide +kernel⟩, List.mem_of_getElem? (i := 979) (by decide +kernel), List.mem_of_getElem? (i := 1164) (by decide +kernel), List.mem_of_getElem? (i := 1165) (by decide +kernel)⟩
theorem lw_p53 : lw_okq (⟨"PulledSignalsModel", "owns", "(I)I"⟩, 29) := ⟨⟨by decide +kernel, by decide +kernel⟩, List.mem_of_getElem? (i := 979) (by decide +kernel), List.mem_of_getElem? (i := 1168) (by decide +kernel), List.mem_of_getElem? (i := 1169) (by decide +kernel)⟩
theorem lw_p54 : lw_okq (⟨"PulledSignalsModel", "plainMade", "(III)I"⟩, 29) := ⟨⟨by decide +kernel, by decide +kernel⟩, List.mem_of_getElem? (i := 979) (by decide +kernel), List.mem_of_getElem? (i := 1186) (by decide +kernel), List.mem_of_getElem? (i := 1187) (by decide +kernel)⟩
theorem lw_p55 : lw_okq (⟨"PulledSignalsModel", "isOwner", "(I)Z"⟩, 29) := ⟨⟨by decide +kernel, by decide +kernel⟩, List.mem_of_getElem? (i := 979) (by decide +kernel), List.mem_of_getElem? (i := 1190) (by decide +kernel), List.mem_of_getElem? (i := 1191) (by decide +kernel)⟩
theorem lw_p56 : lw_okq (⟨"PulledSignalsModel", "made", "(II)I"⟩, 29) := ⟨⟨by decide +kernel, by decide +kernel⟩, List.mem_of_getElem? (i := 979) (by decide +kernel), List.mem_of_getElem? (i := 1194) (by decide +kernel), List.mem_of_getElem? (i := 1195) (by decide +kernel)⟩
theorem lw_p57 : lw_okq (⟨"PulledSignalsModel", "is", "(III)V"⟩, 29) := ⟨⟨by decide +kernel, by decide +kernel⟩, List.mem_of_getElem? (i := 979) (by decide +kernel), List.mem_of_getElem? (i := 1198) (by decide +kernel), List.mem_of_getElem? (i := 1199) (by decide +kernel)⟩
theorem lw_p58 : lw_okq (⟨"PulledSignalsModel", "computed", "(II)I"⟩, 29) := ⟨⟨by decide +kernel, by decide +kernel⟩, List.mem_of_getElem? (i := 979) (by decide +kernel), List.mem_of_getElem? (i := 1210) (by decide +kernel), List.mem_of_getElem? (i := 1211) (by decide +kernel)⟩
theorem lw_p59 : lw_okq (⟨"PulledSignalsModel", "faultRead", "()I"⟩, 29) := ⟨⟨by decide +kernel, by decide +kernel⟩, List.mem_of_getElem? (i := 979) (by decide +kernel), List.mem_of_getElem? (i := 1214) (by decide +kernel), List.mem_of_getElem? (i := 1215) (by decide +kernel)⟩
theorem lw_p60 : lw_okq (⟨"PulledSignalsModel", "isComp", "()Z"⟩, 29) := ⟨⟨by decide +kernel, by decide +kernel⟩, List.mem_of_getElem? (i := 979) (by decide +kernel), List.mem_of_getElem? (i := 1218) (by decide +kernel), List.mem_of_getElem? (i := 1219) (by decide +kernel)⟩
theorem lw_p61 : lw_okq (⟨"PulledSignalsModel", "isSum", "()Z"⟩, 29) := ⟨⟨by decide +kernel, by decide +kernel⟩, List.mem_of_getElem? (i := 979) (by decide +kernel), List.mem_of_getElem? (i := 1222) (by decide +kernel), List.mem_of_getElem? (i := 1223) (by decide +kernel)⟩
theorem lw_p62 : lw_okq (⟨"PulledSignalsModel", "isTerm", "()Z"⟩, 29) := ⟨⟨by decide +kernel, by decide +kernel⟩, List.mem_of_getElem? (i := 979) (by decide +kernel), List.mem_of_getElem? (i := 1226) (by decide +kernel), List.mem_of_getElem? (i := 1227) (by decide +kernel)⟩
theorem lw_p63 : lw_okq (⟨"PulledSignalsModel", "isPart", "()Z"⟩, 29) := ⟨⟨by decide +kernel, by decide +kernel⟩, List.mem_of_getElem? (i := 979) (by decide +kernel), List.mem_of_getElem? (i := 1230) (by decide +kernel), List.mem_of_getElem? (i := 1231) (by decide +kernel)⟩
def lw_privs_4 : List (MethodName × Nat) := [(⟨"PulledSignalsModel", "partTold", "(I)V"⟩, 29), (⟨"PulledSignalsModel", "letter", "(II)I"⟩, 29), (⟨"PulledSignalsModel", "tells", "(I)V"⟩, 29), (⟨"PulledSignalsModel", "shifts", "(II)V"⟩, 29), (⟨"PulledSignalsModel", "isUnder", "(II)Z"⟩, 29), (⟨"PulledSignalsModel", "owns", "(I)I"⟩, 29), (⟨"PulledSignalsModel", "plainMade", "(III)I"⟩, 29), (⟨"PulledSignalsModel", "isOwner", "(I)Z"⟩, 29), (⟨"PulledSignalsModel", "made", "(II)I"⟩, 29), (⟨"PulledSignalsModel", "is", "(III)V"⟩, 29), (⟨"PulledSignalsModel", "computed", "(II)I"⟩, 29), (⟨"PulledSignalsModel", "faultRead", "()I"⟩, 29), (⟨"PulledSignalsModel", "isComp", "()Z"⟩, 29), (⟨"PulledSignalsModel", "isSum", "()Z"⟩, 29), (⟨"PulledSignalsModel", "isTerm", "()Z"⟩, 29), (⟨"PulledSignalsModel", "isPart", "()Z"⟩, 29)]
theorem lw_r4 : ∀ q ∈ lw_privs_4, lw_okq q := List.forall_mem_cons.mpr ⟨lw_p48, List.forall_mem_cons.mpr ⟨lw_p49, List.forall_mem_cons.mpr ⟨lw_p50, List.forall_mem_cons.mpr ⟨lw_p51, List.forall_mem_cons.mpr ⟨lw_p52, List.forall_mem_cons.mpr ⟨lw_p53, List.forall_mem_cons.mpr ⟨lw_p54, List.forall_mem_cons.mpr ⟨lw_p55, List.forall_mem_cons.mpr ⟨lw_p56, List.forall_mem_cons.mpr ⟨lw_p57, List.forall_mem_cons.mpr ⟨lw_p58, List.forall_mem_cons.mpr ⟨lw_p59, List.forall_mem_cons.mpr ⟨lw_p60, List.forall_mem_cons.mpr ⟨lw_p61, List.forall_mem_cons.mpr ⟨lw_p62, List.forall_mem_cons.mpr ⟨lw_p63, fun _ h => absurd h List.not_mem_nil⟩⟩⟩⟩⟩⟩⟩⟩⟩⟩⟩⟩⟩⟩⟩⟩
theorem lw_p64 : lw_okq (⟨"PulledSignalsModel", "byteAt", "(I)I"⟩, 29) := ⟨⟨by decide +kernel, by decide +kernel⟩, List.mem_of_getElem? (i := 979) (by decide +kernel), List.mem_of_getElem? (i := 1234) (by decide +kernel), List.mem_of_getElem? (i := 1235) (by decide +kernel)⟩
theorem lw_p65 : lw_okq (⟨"PulledSignalsModel", "isLetter", "()Z"⟩, 29) := ⟨⟨by decide +kernel, by decide +kernel⟩, List.mem_of_getElem? (i := 979) (by decide +kernel), List.mem_of_getElem? (i := 1240) (by decide +kernel), List.mem_of_getElem? (i := 1241) (by decide +kernel)⟩
theorem lw_p66 : lw_okq (⟨"PulledSignalsModel", "sign", "(I)Z"⟩, 29) := ⟨⟨by decide +kernel, by decide +kernel⟩, List.mem_of_getElem? (i := 979) (by decide +kernel), List.mem_of_getElem? (i := 1244) (by decide +kernel), List.mem_of_getElem? (i := 1245) (by decide +kernel)⟩
theorem lw_p67 : lw_okq (⟨"PulledSignalsModel", "faulty", "(I)I"⟩, 29) := ⟨⟨by decide +kernel, by decide +kernel⟩, List.mem_of_getElem? (i := 979) (by decide +kernel), List.mem_of_getElem? (i := 1248) (by decide +kernel), List.mem_of_getElem? (i := 1249) (by decide +kernel)⟩
theorem lw_p68 : lw_okq (⟨"PulledSignalsModel", "takes", "(I)V"⟩, 29) := ⟨⟨by decide +kernel, by decide +kernel⟩, List.mem_of_getElem? (i := 979) (by decide +kernel), List.mem_of_getElem? (i := 1252) (by decide +kernel), List.mem_of_getElem? (i := 1253) (by decide +kernel)⟩
theorem lw_p69 : lw_okq (⟨"PulledSignalsModel", "queues", "(IZ)V"⟩, 29) := ⟨⟨by decide +kernel, by decide +kernel⟩, List.mem_of_getElem? (i := 979) (by decide +kernel), List.mem_of_getElem? (i := 1256) (by decide +kernel), List.mem_of_getElem? (i := 1257) (by decide +kernel)⟩
theorem lw_p70 : lw_okq (⟨"PulledSignalsModel", "isQueued", "(I)Z"⟩, 29) := ⟨⟨by decide +kernel, by decide +kernel⟩, List.mem_of_getElem? (i := 979) (by decide +kernel), List.mem_of_getElem? (i := 1260) (by decide +kernel), List.mem_of_getElem? (i := 1261) (by decide +kernel)⟩
theorem lw_p71 : lw_okq (⟨"PulledSignalsModel", "flushes", "()V"⟩, 29) := ⟨⟨by decide +kernel, by decide +kernel⟩, List.mem_of_getElem? (i := 979) (by decide +kernel), List.mem_of_getElem? (i := 1264) (by decide +kernel), List.mem_of_getElem? (i := 1265) (by decide +kernel)⟩
theorem lw_p72 : lw_okq (⟨"PulledSignalsModel", "unqueues", "(I)V"⟩, 29) := ⟨⟨by decide +kernel, by decide +kernel⟩, List.mem_of_getElem? (i := 979) (by decide +kernel), List.mem_of_getElem? (i := 1268) (by decide +kernel), List.mem_of_getElem? (i := 1269) (by decide +kernel)⟩
theorem lw_p73 : lw_okq (⟨"PulledSignalsModel", "refreshes", "(I)V"⟩, 29) := ⟨⟨by decide +kernel, by decide +kernel⟩, List.mem_of_getElem? (i := 979) (by decide +kernel), List.mem_of_getElem? (i := 1272) (by decide +kernel), List.mem_of_getElem? (i := 1273) (by decide +kernel)⟩
theorem lw_p74 : lw_okq (⟨"PulledSignalsModel", "runs", "(I)V"⟩, 29) := ⟨⟨by decide +kernel, by decide +kernel⟩, List.mem_of_getElem? (i := 979) (by decide +kernel), List.mem_of_getElem? (i := 1276) (by decide +kernel), List.mem_of_getElem? (i := 1277) (by decide +kernel)⟩
theorem lw_p75 : lw_okq (⟨"PulledSignalsModel", "disposesOwn", "(I)V"⟩, 29) := ⟨⟨by decide +kernel, by decide +kernel⟩, List.mem_of_getElem? (i := 979) (by decide +kernel), List.mem_of_getElem? (i := 1280) (by decide +kernel), List.mem_of_getElem? (i := 1281) (by decide +kernel)⟩
theorem lw_p76 : lw_okq (⟨"PulledSignalsModel", "disposes", "(I)V"⟩, 29) := ⟨⟨by decide +kernel, by decide +kernel⟩, List.mem_of_getElem? (i := 979) (by decide +kernel), List.mem_of_getElem? (i := 1284) (by decide +kernel), List.mem_of_getElem? (i := 1285) (by decide +kernel)⟩
theorem lw_p77 : lw_okq (⟨"PulledSignalsModel", "marks", "(II)V"⟩, 29) := ⟨⟨by decide +kernel, by decide +kernel⟩, List.mem_of_getElem? (i := 979) (by decide +kernel), List.mem_of_getElem? (i := 1288) (by decide +kernel), List.mem_of_getElem? (i := 1289) (by decide +kernel)⟩
theorem lw_p78 : lw_okq (⟨"PulledSignalsModel", "hasRead", "(II)Z"⟩, 29) := ⟨⟨by decide +kernel, by decide +kernel⟩, List.mem_of_getElem? (i := 979) (by decide +kernel), List.mem_of_getElem? (i := 1292) (by decide +kernel), List.mem_of_getElem? (i := 1293) (by decide +kernel)⟩
theorem lw_p79 : lw_okq (⟨"PulledSignalsModel", "worked", "(I)J"⟩, 29) := ⟨⟨by decide +kernel, by decide +kernel⟩, List.mem_of_getElem? (i := 979) (by decide +kernel), List.mem_of_getElem? (i := 1296) (by decide +kernel), List.mem_of_getElem? (i := 1297) (by decide +kernel)⟩
def lw_privs_5 : List (MethodName × Nat) := [(⟨"PulledSignalsModel", "byteAt", "(I)I"⟩, 29), (⟨"PulledSignalsModel", "isLetter", "()Z"⟩, 29), (⟨"PulledSignalsModel", "sign", "(I)Z"⟩, 29), (⟨"PulledSignalsModel", "faulty", "(I)I"⟩, 29), (⟨"PulledSignalsModel", "takes", "(I)V"⟩, 29), (⟨"PulledSignalsModel", "queues", "(IZ)V"⟩, 29), (⟨"PulledSignalsModel", "isQueued", "(I)Z"⟩, 29), (⟨"PulledSignalsModel", "flushes", "()V"⟩, 29), (⟨"PulledSignalsModel", "unqueues", "(I)V"⟩, 29), (⟨"PulledSignalsModel", "refreshes", "(I)V"⟩, 29), (⟨"PulledSignalsModel", "runs", "(I)V"⟩, 29), (⟨"PulledSignalsModel", "disposesOwn", "(I)V"⟩, 29), (⟨"PulledSignalsModel", "disposes", "(I)V"⟩, 29), (⟨"PulledSignalsModel", "marks", "(II)V"⟩, 29), (⟨"PulledSignalsModel", "hasRead", "(II)Z"⟩, 29), (⟨"PulledSignalsModel", "worked", "(I)J"⟩, 29)]
theorem lw_r5 : ∀ q ∈ lw_privs_5, lw_okq q := List.forall_mem_cons.mpr ⟨lw_p64, List.forall_mem_cons.mpr ⟨lw_p65, List.forall_mem_cons.mpr ⟨lw_p66, List.forall_mem_cons.mpr ⟨lw_p67, List.forall_mem_cons.mpr ⟨lw_p68, List.forall_mem_cons.mpr ⟨lw_p69, List.forall_mem_cons.mpr ⟨lw_p70, List.forall_mem_cons.mpr ⟨lw_p71, List.forall_mem_cons.mpr ⟨lw_p72, List.forall_mem_cons.mpr ⟨lw_p73, List.forall_mem_cons.mpr ⟨lw_p74, List.forall_mem_cons.mpr ⟨lw_p75, List.forall_mem_cons.mpr ⟨lw_p76, List.forall_mem_cons.mpr ⟨lw_p77, List.forall_mem_cons.mpr ⟨lw_p78, List.forall_mem_cons.mpr ⟨lw_p79, fun _ h => absurd h List.not_mem_nil⟩⟩⟩⟩⟩⟩⟩⟩⟩⟩⟩⟩⟩⟩⟩⟩
theorem lw_p80 : lw_okq (⟨"PulledSignalsModel", "comp", "(IZ)J"⟩, 29) := ⟨⟨by decide +kernel, by decide +kernel⟩, List.mem_of_getElem? (i := 979) (by decide +kernel), List.mem_of_getElem? (i := 1300) (by decide +kernel), List.mem_of_getElem? (i := 1301) (by decide +kernel)⟩
theorem lw_p81 : lw_okq (⟨"PulledSignalsModel", "sum", "(IZ)J"⟩, 29) := ⟨⟨by decide +kernel, by decide +kernel⟩, List.mem_of_getElem? (i := 979) (by decide +kernel), List.mem_of_getElem? (i := 1304) (by decide +kernel), List.mem_of_getElem? (i := 1305) (by decide +kernel)⟩
theorem lw_p82 : lw_okq (⟨"PulledSignalsModel", "term", "(IZ)J"⟩, 29) := ⟨⟨by decide +kernel, by decide +kernel⟩, List.mem_of_getElem? (i := 979) (by decide +kernel), List.mem_of_getElem? (i := 1308) (by decide +kernel), List.mem_of_getElem? (i := 1309) (by decide +kernel)⟩
theorem lw_p83 : lw_okq (⟨"PulledSignalsModel", "part", "(IZ)J"⟩, 29) := ⟨⟨by decide +kernel, by decide +kernel⟩, List.mem_of_getElem? (i := 979) (by decide +kernel), List.mem_of_getElem? (i := 1312) (by decide +kernel), List.mem_of_getElem? (i := 1313) (by decide +kernel)⟩
theorem lw_p84 : lw_okq (⟨"PulledSignalsModel", "asked", "(IIZ)J"⟩, 29) := ⟨⟨by decide +kernel, by decide +kernel⟩, List.mem_of_getElem? (i := 979) (by decide +kernel), List.mem_of_getElem? (i := 1316) (by decide +kernel), List.mem_of_getElem? (i := 1317) (by decide +kernel)⟩
theorem lw_p85 : lw_okq (⟨"PulledSignalsModel", "readBy", "(IIZ)J"⟩, 29) := ⟨⟨by decide +kernel, by decide +kernel⟩, List.mem_of_getElem? (i := 979) (by decide +kernel), List.mem_of_getElem? (i := 1320) (by decide +kernel), List.mem_of_getElem? (i := 1321) (by decide +kernel)⟩
theorem lw_p86 : lw_okq (⟨"PulledSignalsModel", "plainBy", "(I)J"⟩, 29) := ⟨⟨by decide +kernel, by decide +kernel⟩, List.mem_of_getElem? (i := 979) (by decide +kernel), List.mem_of_getElem? (i := 1326) (by decide +kernel), List.mem_of_getElem? (i := 1327) (by decide +kernel)⟩
theorem lw_p87 : lw_okq (⟨"PulledSignalsModel", "plainOf", "(I)J"⟩, 29) := ⟨⟨by decide +kernel, by decide +kernel⟩, List.mem_of_getElem? (i := 979) (by decide +kernel), List.mem_of_getElem? (i := 1330) (by decide +kernel), List.mem_of_getElem? (i := 1331) (by decide +kernel)⟩
theorem lw_p88 : lw_okq (⟨"PulledSignalsModel", "choice", "(IZ)J"⟩, 29) := ⟨⟨by decide +kernel, by decide +kernel⟩, List.mem_of_getElem? (i := 979) (by decide +kernel), List.mem_of_getElem? (i := 1338) (by decide +kernel), List.mem_of_getElem? (i := 1339) (by decide +kernel)⟩
theorem lw_p89 : lw_okq (⟨"PulledSignalsModel", "logs", "(IJ)V"⟩, 29) := ⟨⟨by decide +kernel, by decide +kernel⟩, List.mem_of_getElem? (i := 979) (by decide +kernel), List.mem_of_getElem? (i := 1347) (by decide +kernel), List.mem_of_getElem? (i := 1348) (by decide +kernel)⟩
theorem lw_p90 : lw_okq (⟨"PulledSignalsModel", "isSource", "(I)Z"⟩, 29) := ⟨⟨by decide +kernel, by decide +kernel⟩, List.mem_of_getElem? (i := 979) (by decide +kernel), List.mem_of_getElem? (i := 1363) (by decide +kernel), List.mem_of_getElem? (i := 1364) (by decide +kernel)⟩
theorem lw_p91 : lw_okq (⟨"PulledSignalsModel", "isWritten", "(II)Z"⟩, 29) := ⟨⟨by decide +kernel, by decide +kernel⟩, List.mem_of_getElem? (i := 979) (by decide +kernel), List.mem_of_getElem? (i := 1367) (by decide +kernel), List.mem_of_getElem? (i := 1368) (by decide +kernel)⟩
theorem lw_p92 : lw_okq (⟨"PulledSignalsModel", "isTelling", "(I)Z"⟩, 29) := ⟨⟨by decide +kernel, by decide +kernel⟩, List.mem_of_getElem? (i := 979) (by decide +kernel), List.mem_of_getElem? (i := 1387) (by decide +kernel), List.mem_of_getElem? (i := 1388) (by decide +kernel)⟩
theorem lw_p93 : lw_okq (⟨"PulledSignalsModel", "refusedLong", "(I)J"⟩, 29) := ⟨⟨by decide +kernel, by decide +kernel⟩, List.mem_of_getElem? (i := 979) (by decide +kernel), List.mem_of_getElem? (i := 1391) (by decide +kernel), List.mem_of_getElem? (i := 1392) (by decide +kernel)⟩
theorem lw_p94 : lw_okq (⟨"PulledSignalsModel", "readersOf", "(I)I"⟩, 29) := ⟨⟨by decide +kernel, by decide +kernel⟩, List.mem_of_getElem? (i := 979) (by decide +kernel), List.mem_of_getElem? (i := 1405) (by decide +kernel), List.mem_of_getElem? (i := 1406) (by decide +kernel)⟩
theorem lw_p95 : lw_okq (⟨"PulledSignalsModel", "reached", "(I)I"⟩, 29) := ⟨⟨by decide +kernel, by decide +kernel⟩, List.mem_of_getElem? (i := 979) (by decide +kernel), List.mem_of_getElem? (i := 1409) (by decide +kernel), List.mem_of_getElem? (i := 1410) (by decide +kernel)⟩
def lw_privs_6 : List (MethodName × Nat) := [(⟨"PulledSignalsModel", "comp", "(IZ)J"⟩, 29), (⟨"PulledSignalsModel", "sum", "(IZ)J"⟩, 29), (⟨"PulledSignalsModel", "term", "(IZ)J"⟩, 29), (⟨"PulledSignalsModel", "part", "(IZ)J"⟩, 29), (⟨"PulledSignalsModel", "asked", "(IIZ)J"⟩, 29), (⟨"PulledSignalsModel", "readBy", "(IIZ)J"⟩, 29), (⟨"PulledSignalsModel", "plainBy", "(I)J"⟩, 29), (⟨"PulledSignalsModel", "plainOf", "(I)J"⟩, 29), (⟨"PulledSignalsModel", "choice", "(IZ)J"⟩, 29), (⟨"PulledSignalsModel", "logs", "(IJ)V"⟩, 29), (⟨"PulledSignalsModel", "isSource", "(I)Z"⟩, 29), (⟨"PulledSignalsModel", "isWritten", "(II)Z"⟩, 29), (⟨"PulledSignalsModel", "isTelling", "(I)Z"⟩, 29), (⟨"PulledSignalsModel", "refusedLong", "(I)J"⟩, 29), (⟨"PulledSignalsModel", "readersOf", "(I)I"⟩, 29), (⟨"PulledSignalsModel", "reached", "(I)I"⟩, 29)]
theorem lw_r6 : ∀ q ∈ lw_privs_6, lw_okq q := List.forall_mem_cons.mpr ⟨lw_p80, List.forall_mem_cons.mpr ⟨lw_p81, List.forall_mem_cons.mpr ⟨lw_p82, List.forall_mem_cons.mpr ⟨lw_p83, List.forall_mem_cons.mpr ⟨lw_p84, List.forall_mem_cons.mpr ⟨lw_p85, List.forall_mem_cons.mpr ⟨lw_p86, List.forall_mem_cons.mpr ⟨lw_p87, List.forall_mem_cons.mpr ⟨lw_p88, List.forall_mem_cons.mpr ⟨lw_p89, List.forall_mem_cons.mpr ⟨lw_p90, List.forall_mem_cons.mpr ⟨lw_p91, List.forall_mem_cons.mpr ⟨lw_p92, List.forall_mem_cons.mpr ⟨lw_p93, List.forall_mem_cons.mpr ⟨lw_p94, List.forall_mem_cons.mpr ⟨lw_p95, fun _ h => absurd h List.not_mem_nil⟩⟩⟩⟩⟩⟩⟩⟩⟩⟩⟩⟩⟩⟩⟩⟩
theorem lw_p96 : lw_okq (⟨"PulledSignalsModel", "readsOf", "(I)I"⟩, 29) := ⟨⟨by decide +kernel, by decide +kernel⟩, List.mem_of_getElem? (i := 979) (by decide +kernel), List.mem_of_getElem? (i := 1413) (by decide +kernel), List.mem_of_getElem? (i := 1414) (by decide +kernel)⟩
theorem lw_p97 : lw_okq (⟨"PulledSignalsModel", "plainly", "(III)J"⟩, 29) := ⟨⟨by decide +kernel, by decide +kernel⟩, List.mem_of_getElem? (i := 979) (by decide +kernel), List.mem_of_getElem? (i := 1425) (by decide +kernel), List.mem_of_getElem? (i := 1426) (by decide +kernel)⟩
theorem lw_p98 : lw_okq (⟨"PulledSignalsModel", "draw", "(I)I"⟩, 29) := ⟨⟨by decide +kernel, by decide +kernel⟩, List.mem_of_getElem? (i := 979) (by decide +kernel), List.mem_of_getElem? (i := 1528) (by decide +kernel), List.mem_of_getElem? (i := 1529) (by decide +kernel)⟩
theorem lw_p99 : lw_okq (⟨"PulledSignalsModel", "gone", "()I"⟩, 29) := ⟨⟨by decide +kernel, by decide +kernel⟩, List.mem_of_getElem? (i := 979) (by decide +kernel), List.mem_of_getElem? (i := 1555) (by decide +kernel), List.mem_of_getElem? (i := 1556) (by decide +kernel)⟩
theorem lw_p100 : lw_okq (⟨"PulledSignalsModel", "runsAll", "()I"⟩, 29) := ⟨⟨by decide +kernel, by decide +kernel⟩, List.mem_of_getElem? (i := 979) (by decide +kernel), List.mem_of_getElem? (i := 1559) (by decide +kernel), List.mem_of_getElem? (i := 1560) (by decide +kernel)⟩
theorem lw_p101 : lw_okq (⟨"PulledSignalsModel", "held", "()I"⟩, 29) := ⟨⟨by decide +kernel, by decide +kernel⟩, List.mem_of_getElem? (i := 979) (by decide +kernel), List.mem_of_getElem? (i := 1563) (by decide +kernel), List.mem_of_getElem? (i := 1564) (by decide +kernel)⟩
def lw_privs_7 : List (MethodName × Nat) := [(⟨"PulledSignalsModel", "readsOf", "(I)I"⟩, 29), (⟨"PulledSignalsModel", "plainly", "(III)J"⟩, 29), (⟨"PulledSignalsModel", "draw", "(I)I"⟩, 29), (⟨"PulledSignalsModel", "gone", "()I"⟩, 29), (⟨"PulledSignalsModel", "runsAll", "()I"⟩, 29), (⟨"PulledSignalsModel", "held", "()I"⟩, 29)]
theorem lw_r7 : ∀ q ∈ lw_privs_7, lw_okq q := List.forall_mem_cons.mpr ⟨lw_p96, List.forall_mem_cons.mpr ⟨lw_p97, List.forall_mem_cons.mpr ⟨lw_p98, List.forall_mem_cons.mpr ⟨lw_p99, List.forall_mem_cons.mpr ⟨lw_p100, List.forall_mem_cons.mpr ⟨lw_p101, fun _ h => absurd h List.not_mem_nil⟩⟩⟩⟩⟩⟩
def lw_privs : List (MethodName × Nat) := lw_privs_1 ++ (lw_privs_2 ++ (lw_privs_3 ++ (lw_privs_4 ++ (lw_privs_5 ++ (lw_privs_6 ++ (lw_privs_7))))))
def lw_tbl : List Cond := k2_sels lw_privs ++ tables_1
theorem lw_privs_ok : ∀ q ∈ lw_privs, lw_okq q := by
  show ∀ q ∈ lw_privs_1 ++ (lw_privs_2 ++ (lw_privs_3 ++ (lw_privs_4 ++ (lw_privs_5 ++ (lw_privs_6 ++ (lw_privs_7)))))), lw_okq q
  exact List.forall_mem_append.mpr ⟨lw_r1, List.forall_mem_append.mpr ⟨lw_r2, List.forall_mem_append.mpr ⟨lw_r3, List.forall_mem_append.mpr ⟨lw_r4, List.forall_mem_append.mpr ⟨lw_r5, List.forall_mem_append.mpr ⟨lw_r6, lw_r7⟩⟩⟩⟩⟩⟩
def RX0 : String := "PulledSignals$Beside"
def TX0 : u_T := fun k => match k with
  | 0 => ("PulledSignals$Beside", "web", "LPulledSignals$Web;", true)
  | 1 => ("PulledSignals$Beside", "outcomes", "[J", true)
  | 2 => ("PulledSignals$Beside", "states", "[I", true)
  | 3 => ("PulledSignals$Beside", "changed", "I", false)
  | _ => ("PulledSignals$Beside", "changedTo", "I", false)
def tyX0 : Nat → FieldType := fun k => match k with
  | 0 => .object "PulledSignals$Web"
  | 1 => .array .long
  | 2 => .array .int
  | 3 => .int
  | _ => .int
theorem nmX0 : ∀ a, a < 5 → ∀ b, b < 5 → a ≠ b → (TX0 a).2.1 ≠ (TX0 b).2.1 := by decide +kernel
theorem tyX0_ok : ∀ k, k < 5 → parseFieldDescriptor (TX0 k).2.2.1 = some (tyX0 k) := by decide +kernel
def RX1 : String := "PulledSignals$Cell"
def TX1 : u_T := fun k => match k with
  | 0 => ("PulledSignals$Cell", "kind", "I", false)
  | 1 => ("PulledSignals$Cell", "owner", "I", false)
  | 2 => ("PulledSignals$Cell", "gone", "Z", false)
  | 3 => ("PulledSignals$Cell", "busy", "Z", false)
  | 4 => ("PulledSignals$Cell", "colour", "I", false)
  | 5 => ("PulledSignals$Cell", "version", "J", false)
  | 6 => ("PulledSignals$Cell", "runs", "I", false)
  | 7 => ("PulledSignals$Cell", "outcome", "J", false)
  | 8 => ("PulledSignals$Cell", "formula", "LPulledSignals$Formula;", false)
  | _ => ("PulledSignals$Cell", "reads", "LPulledSignals$Numbers;", true)
def tyX1 : Nat → FieldType := fun k => match k with
  | 0 => .int
  | 1 => .int
  | 2 => .boolean
  | 3 => .boolean
  | 4 => .int
  | 5 => .long
  | 6 => .int
  | 7 => .long
  | 8 => .object "PulledSignals$Formula"
  | _ => .object "PulledSignals$Numbers"
theorem nmX1 : ∀ a, a < 10 → ∀ b, b < 10 → a ≠ b → (TX1 a).2.1 ≠ (TX1 b).2.1 := by decide +kernel
theorem tyX1_ok : ∀ k, k < 10 → parseFieldDescriptor (TX1 k).2.2.1 = some (tyX1 k) := by decide +kernel
def RX2 : String := "PulledSignals$Formula"
def TX2 : u_T := fun k => match k with
  | 0 => ("PulledSignals$Formula", "steps", "LPulledSignals$Numbers;", true)
  | 1 => ("PulledSignals$Formula", "details", "LPulledSignals$Numbers;", true)
  | 2 => ("PulledSignals$Formula", "text", "LPulledSignals$Numbers;", true)
  | 3 => ("PulledSignals$Formula", "stack", "LPulledSignals$Numbers;", true)
  | 4 => ("PulledSignals$Formula", "place", "I", false)
  | 5 => ("PulledSignals$Formula", "fail", "J", false)
  | 6 => ("PulledSignals$Formula", "asked", "I", false)
  | _ => ("PulledSignals$Formula", "tracked", "Z", false)
def tyX2 : Nat → FieldType := fun k => match k with
  | 0 => .object "PulledSignals$Numbers"
  | 1 => .object "PulledSignals$Numbers"
  | 2 => .object "PulledSignals$Numbers"
  | 3 => .object "PulledSignals$Numbers"
  | 4 => .int
  | 5 => .long
  | 6 => .int
  | _ => .boolean
theorem nmX2 : ∀ a, a < 8 → ∀ b, b < 8 → a ≠ b → (TX2 a).2.1 ≠ (TX2 b).2.1 := by decide +kernel
theorem tyX2_ok : ∀ k, k < 8 → parseFieldDescriptor (TX2 k).2.2.1 = some (tyX2 k) := by decide +kernel
def RX3 : String := "PulledSignals$FormulaReader"
def TX3 : u_T := fun k => match k with
  | 0 => ("PulledSignals$FormulaReader", "steps", "LPulledSignals$Numbers;", true)
  | 1 => ("PulledSignals$FormulaReader", "details", "LPulledSignals$Numbers;", true)
  | 2 => ("PulledSignals$FormulaReader", "text", "LPulledSignals$Numbers;", true)
  | 3 => ("PulledSignals$FormulaReader", "open", "LPulledSignals$Numbers;", true)
  | 4 => ("PulledSignals$FormulaReader", "openText", "LPulledSignals$Numbers;", true)
  | 5 => ("PulledSignals$FormulaReader", "openJump", "LPulledSignals$Numbers;", true)
  | 6 => ("PulledSignals$FormulaReader", "partText", "LPulledSignals$Numbers;", true)
  | 7 => ("PulledSignals$FormulaReader", "deepest", "I", false)
  | 8 => ("PulledSignals$FormulaReader", "cells", "I", false)
  | 9 => ("PulledSignals$FormulaReader", "at", "I", false)
  | 10 => ("PulledSignals$FormulaReader", "fault", "I", false)
  | 11 => ("PulledSignals$FormulaReader", "wantsPart", "Z", false)
  | _ => ("PulledSignals$FormulaReader", "partStands", "Z", false)
def tyX3 : Nat → FieldType := fun k => match k with
  | 0 => .object "PulledSignals$Numbers"
  | 1 => .object "PulledSignals$Numbers"
  | 2 => .object "PulledSignals$Numbers"
  | 3 => .object "PulledSignals$Numbers"
  | 4 => .object "PulledSignals$Numbers"
  | 5 => .object "PulledSignals$Numbers"
  | 6 => .object "PulledSignals$Numbers"
  | 7 => .int
  | 8 => .int
  | 9 => .int
  | 10 => .int
  | 11 => .boolean
  | _ => .boolean
theorem nmX3 : ∀ a, a < 13 → ∀ b, b < 13 → a ≠ b → (TX3 a).2.1 ≠ (TX3 b).2.1 := by decide +kernel
theorem tyX3_ok : ∀ k, k < 13 → parseFieldDescriptor (TX3 k).2.2.1 = some (tyX3 k) := by decide +kernel
def RX4 : String := "PulledSignals$Numbers"
def TX4 : u_T := fun k => match k with
  | 0 => ("PulledSignals$Numbers", "items", "[I", true)
  | 1 => ("PulledSignals$Numbers", "size", "I", false)
  | _ => ("PulledSignals$Numbers", "counted", "I", false)
def tyX4 : Nat → FieldType := fun k => match k with
  | 0 => .array .int
  | 1 => .int
  | _ => .int
theorem nmX4 : ∀ a, a < 3 → ∀ b, b < 3 → a ≠ b → (TX4 a).2.1 ≠ (TX4 b).2.1 := by decide +kernel
theorem tyX4_ok : ∀ k, k < 3 → parseFieldDescriptor (TX4 k).2.2.1 = some (tyX4 k) := by decide +kernel
def RX5 : String := "PulledSignals$Puller"
def TX5 : u_T := fun k => match k with
  | _ => ("PulledSignals$Puller", "web", "LPulledSignals$Web;", true)
def tyX5 : Nat → FieldType := fun k => match k with
  | _ => .object "PulledSignals$Web"
theorem nmX5 : ∀ a, a < 1 → ∀ b, b < 1 → a ≠ b → (TX5 a).2.1 ≠ (TX5 b).2.1 := by decide +kernel
theorem tyX5_ok : ∀ k, k < 1 → parseFieldDescriptor (TX5 k).2.2.1 = some (tyX5 k) := by decide +kernel
def RX6 : String := "PulledSignals$Shelf"
def TX6 : u_T := fun k => match k with
  | 0 => ("PulledSignals$Shelf", "elements", "[J", true)
  | 1 => ("PulledSignals$Shelf", "size", "I", false)
  | _ => ("PulledSignals$Shelf", "holding", "I", false)
def tyX6 : Nat → FieldType := fun k => match k with
  | 0 => .array .long
  | 1 => .int
  | _ => .int
theorem nmX6 : ∀ a, a < 3 → ∀ b, b < 3 → a ≠ b → (TX6 a).2.1 ≠ (TX6 b).2.1 := by decide +kernel
theorem tyX6_ok : ∀ k, k < 3 → parseFieldDescriptor (TX6 k).2.2.1 = some (tyX6 k) := by decide +kernel
def RX7 : String := "PulledSignals$Web"
def TX7 : u_T := fun k => match k with
  | 0 => ("PulledSignals$Web", "cells", "[LPulledSignals$Cell;", true)
  | 1 => ("PulledSignals$Web", "readers", "[I", true)
  | 2 => ("PulledSignals$Web", "count", "I", false)
  | 3 => ("PulledSignals$Web", "queue", "LPulledSignals$Numbers;", true)
  | 4 => ("PulledSignals$Web", "logCells", "LPulledSignals$Numbers;", true)
  | 5 => ("PulledSignals$Web", "logOutcomes", "[J", true)
  | 6 => ("PulledSignals$Web", "disposed", "LPulledSignals$Numbers;", true)
  | 7 => ("PulledSignals$Web", "batches", "I", false)
  | _ => ("PulledSignals$Web", "seed", "I", false)
def tyX7 : Nat → FieldType := fun k => match k with
  | 0 => .array (.object "PulledSignals$Cell")
  | 1 => .array .int
  | 2 => .int
  | 3 => .object "PulledSignals$Numbers"
  | 4 => .object "PulledSignals$Numbers"
  | 5 => .array .long
  | 6 => .object "PulledSignals$Numbers"
  | 7 => .int
  | _ => .int
theorem nmX7 : ∀ a, a < 9 → ∀ b, b < 9 → a ≠ b → (TX7 a).2.1 ≠ (TX7 b).2.1 := by decide +kernel
theorem tyX7_ok : ∀ k, k < 9 → parseFieldDescriptor (TX7 k).2.2.1 = some (tyX7 k) := by decide +kernel
def RX8 : String := "PulledSignals"
def TX8 : u_T := fun k => match k with
  | 0 => ("PulledSignals", "web", "LPulledSignals$Web;", true)
  | 1 => ("PulledSignals", "keptWeb", "LPulledSignals$Web;", true)
  | 2 => ("PulledSignals", "hasImage", "Z", false)
  | 3 => ("PulledSignals", "puller", "LPulledSignals$Puller;", true)
  | 4 => ("PulledSignals", "beside", "LPulledSignals$Beside;", true)
  | 5 => ("PulledSignals", "reader", "LPulledSignals$FormulaReader;", true)
  | 6 => ("PulledSignals", "tape", "LPulledSignals$Numbers;", true)
  | 7 => ("PulledSignals", "shelves", "[LPulledSignals$Shelf;", true)
  | _ => ("PulledSignals", "refusals", "[I", true)
def tyX8 : Nat → FieldType := fun k => match k with
  | 0 => .object "PulledSignals$Web"
  | 1 => .object "PulledSignals$Web"
  | 2 => .boolean
  | 3 => .object "PulledSignals$Puller"
  | 4 => .object "PulledSignals$Beside"
  | 5 => .object "PulledSignals$FormulaReader"
  | 6 => .object "PulledSignals$Numbers"
  | 7 => .array (.object "PulledSignals$Shelf")
  | _ => .array .int
theorem nmX8 : ∀ a, a < 9 → ∀ b, b < 9 → a ≠ b → (TX8 a).2.1 ≠ (TX8 b).2.1 := by decide +kernel
theorem tyX8_ok : ∀ k, k < 9 → parseFieldDescriptor (TX8 k).2.2.1 = some (tyX8 k) := by decide +kernel
def RX9 : String := "PulledSignalsModel"
def TX9 : u_T := fun k => match k with
  | 0 => ("PulledSignalsModel", "now", "[I", true)
  | 1 => ("PulledSignalsModel", "outcomes", "[J", true)
  | 2 => ("PulledSignalsModel", "logOutcomes", "[J", true)
  | 3 => ("PulledSignalsModel", "keptNow", "[I", true)
  | 4 => ("PulledSignalsModel", "keptOutcomes", "[J", true)
  | 5 => ("PulledSignalsModel", "keptLog", "[J", true)
  | 6 => ("PulledSignalsModel", "isKept", "Z", false)
  | 7 => ("PulledSignalsModel", "busy", "[Z", true)
  | 8 => ("PulledSignalsModel", "logCounts", "[I", true)
  | 9 => ("PulledSignalsModel", "keptCounts", "[I", true)
  | 10 => ("PulledSignalsModel", "refusals", "[I", true)
  | 11 => ("PulledSignalsModel", "tape", "[I", true)
  | 12 => ("PulledSignalsModel", "taped", "I", false)
  | 13 => ("PulledSignalsModel", "how", "I", false)
  | 14 => ("PulledSignalsModel", "reader", "I", false)
  | 15 => ("PulledSignalsModel", "base", "[I", true)
  | 16 => ("PulledSignalsModel", "at", "I", false)
  | 17 => ("PulledSignalsModel", "went", "I", false)
  | 18 => ("PulledSignalsModel", "plainState", "[I", true)
  | 19 => ("PulledSignalsModel", "plainOut", "[J", true)
  | 20 => ("PulledSignalsModel", "changedSource", "I", false)
  | 21 => ("PulledSignalsModel", "changedTo", "I", false)
  | 22 => ("PulledSignalsModel", "place", "I", false)
  | 23 => ("PulledSignalsModel", "many", "I", false)
  | 24 => ("PulledSignalsModel", "text", "[I", true)
  | 25 => ("PulledSignalsModel", "texted", "I", false)
  | 26 => ("PulledSignalsModel", "sorts", "[I", true)
  | 27 => ("PulledSignalsModel", "sizes", "[I", true)
  | _ => ("PulledSignalsModel", "elements", "[J", true)
def tyX9 : Nat → FieldType := fun k => match k with
  | 0 => .array .int
  | 1 => .array .long
  | 2 => .array .long
  | 3 => .array .int
  | 4 => .array .long
  | 5 => .array .long
  | 6 => .boolean
  | 7 => .array .boolean
  | 8 => .array .int
  | 9 => .array .int
  | 10 => .array .int
  | 11 => .array .int
  | 12 => .int
  | 13 => .int
  | 14 => .int
  | 15 => .array .int
  | 16 => .int
  | 17 => .int
  | 18 => .array .int
  | 19 => .array .long
  | 20 => .int
  | 21 => .int
  | 22 => .int
  | 23 => .int
  | 24 => .array .int
  | 25 => .int
  | 26 => .array .int
  | 27 => .array .int
  | _ => .array .long
theorem nmX9 : ∀ a, a < 29 → ∀ b, b < 29 → a ≠ b → (TX9 a).2.1 ≠ (TX9 b).2.1 := by decide +kernel
theorem tyX9_ok : ∀ k, k < 29 → parseFieldDescriptor (TX9 k).2.2.1 = some (tyX9 k) := by decide +kernel
def RL : String := "PulledSignalsLaw"
def RJ0 : String := "java/lang/String"
def RJ1 : String := "java/lang/StringLatin1"
def RJ2 : String := "java/lang/StringUTF16"
def RJ3 : String := "jdk/internal/util/Preconditions"
def RJ6 : String := "java/lang/Integer"
def RJ9 : String := "java/lang/Math"
abbrev vwCl : List vw_C := [(RX0, TX0, 5), (RX1, TX1, 10), (RX2, TX2, 8), (RX3, TX3, 13), (RX4, TX4, 3), (RX5, TX5, 1), (RX6, TX6, 3), (RX7, TX7, 9), (RX8, TX8, 9), (RX9, TX9, 29)]
