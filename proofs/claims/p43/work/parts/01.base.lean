-- ===== PART A: goes FIRST, ahead of the names: the tables' words, and 'selects' of the private methods out of them =====
/-- a private method of a class that the tables say can be made, by its rows of tables_1 -/
def lw_okq (q : MethodName × Nat) : Prop := (q.1.cls ≠ "java/lang/invoke/MethodHandle" ∧ q.1.cls ≠ "java/lang/invoke/VarHandle") ∧ Cond.instantiable q.1.cls q.2 ∈ tables_1 ∧ Cond.privateMethod q.1 ∈ tables_1 ∧ Cond.instanceMethod q.1 ∈ tables_1
theorem lw_p0 : lw_okq (⟨"PulledSignals", "newComputed", "(II)I"⟩, 9) := ⟨⟨by decide +kernel, by decide +kernel⟩, List.mem_of_getElem? (i := 28) (by decide +kernel), List.mem_of_getElem? (i := 26) (by decide +kernel), List.mem_of_getElem? (i := 27) (by decide +kernel)⟩
theorem lw_p1 : lw_okq (⟨"PulledSignals", "refuse", "(I)I"⟩, 9) := ⟨⟨by decide +kernel, by decide +kernel⟩, List.mem_of_getElem? (i := 28) (by decide +kernel), List.mem_of_getElem? (i := 39) (by decide +kernel), List.mem_of_getElem? (i := 40) (by decide +kernel)⟩
theorem lw_p2 : lw_okq (⟨"PulledSignals$FormulaReader", "start", "(I)V"⟩, 13) := ⟨⟨by decide +kernel, by decide +kernel⟩, List.mem_of_getElem? (i := 53) (by decide +kernel), List.mem_of_getElem? (i := 51) (by decide +kernel), List.mem_of_getElem? (i := 52) (by decide +kernel)⟩
theorem lw_p3 : lw_okq (⟨"PulledSignals$FormulaReader", "readPart", "(LPulledSignals$Numbers;)V"⟩, 13) := ⟨⟨by decide +kernel, by decide +kernel⟩, List.mem_of_getElem? (i := 53) (by decide +kernel), List.mem_of_getElem? (i := 64) (by decide +kernel), List.mem_of_getElem? (i := 65) (by decide +kernel)⟩
theorem lw_p4 : lw_okq (⟨"PulledSignals$FormulaReader", "openUp", "(I)V"⟩, 13) := ⟨⟨by decide +kernel, by decide +kernel⟩, List.mem_of_getElem? (i := 53) (by decide +kernel), List.mem_of_getElem? (i := 72) (by decide +kernel), List.mem_of_getElem? (i := 73) (by decide +kernel)⟩
theorem lw_p5 : lw_okq (⟨"PulledSignals$FormulaReader", "readGreater", "(LPulledSignals$Numbers;)V"⟩, 13) := ⟨⟨by decide +kernel, by decide +kernel⟩, List.mem_of_getElem? (i := 53) (by decide +kernel), List.mem_of_getElem? (i := 80) (by decide +kernel), List.mem_of_getElem? (i := 81) (by decide +kernel)⟩
theorem lw_p6 : lw_okq (⟨"PulledSignals$FormulaReader", "readUntracked", "(LPulledSignals$Numbers;)V"⟩, 13) := ⟨⟨by decide +kernel, by decide +kernel⟩, List.mem_of_getElem? (i := 53) (by decide +kernel), List.mem_of_getElem? (i := 84) (by decide +kernel), List.mem_of_getElem? (i := 85) (by decide +kernel)⟩
theorem lw_p7 : lw_okq (⟨"PulledSignals$FormulaReader", "isLetter", "(I)Z"⟩, 13) := ⟨⟨by decide +kernel, by decide +kernel⟩, List.mem_of_getElem? (i := 53) (by decide +kernel), List.mem_of_getElem? (i := 88) (by decide +kernel), List.mem_of_getElem? (i := 89) (by decide +kernel)⟩
theorem lw_p8 : lw_okq (⟨"PulledSignals$FormulaReader", "addStep", "(II)V"⟩, 13) := ⟨⟨by decide +kernel, by decide +kernel⟩, List.mem_of_getElem? (i := 53) (by decide +kernel), List.mem_of_getElem? (i := 92) (by decide +kernel), List.mem_of_getElem? (i := 93) (by decide +kernel)⟩
theorem lw_p9 : lw_okq (⟨"PulledSignals$FormulaReader", "readPlainPart", "(LPulledSignals$Numbers;I)V"⟩, 13) := ⟨⟨by decide +kernel, by decide +kernel⟩, List.mem_of_getElem? (i := 53) (by decide +kernel), List.mem_of_getElem? (i := 96) (by decide +kernel), List.mem_of_getElem? (i := 97) (by decide +kernel)⟩
theorem lw_p10 : lw_okq (⟨"PulledSignals$FormulaReader", "readNumber", "(LPulledSignals$Numbers;)I"⟩, 13) := ⟨⟨by decide +kernel, by decide +kernel⟩, List.mem_of_getElem? (i := 53) (by decide +kernel), List.mem_of_getElem? (i := 103) (by decide +kernel), List.mem_of_getElem? (i := 104) (by decide +kernel)⟩
theorem lw_p11 : lw_okq (⟨"PulledSignals$FormulaReader", "readSign", "(I)V"⟩, 13) := ⟨⟨by decide +kernel, by decide +kernel⟩, List.mem_of_getElem? (i := 53) (by decide +kernel), List.mem_of_getElem? (i := 107) (by decide +kernel), List.mem_of_getElem? (i := 108) (by decide +kernel)⟩
theorem lw_p12 : lw_okq (⟨"PulledSignals$FormulaReader", "gather", "(I)V"⟩, 13) := ⟨⟨by decide +kernel, by decide +kernel⟩, List.mem_of_getElem? (i := 53) (by decide +kernel), List.mem_of_getElem? (i := 114) (by decide +kernel), List.mem_of_getElem? (i := 115) (by decide +kernel)⟩
theorem lw_p13 : lw_okq (⟨"PulledSignals$FormulaReader", "closeDown", "()V"⟩, 13) := ⟨⟨by decide +kernel, by decide +kernel⟩, List.mem_of_getElem? (i := 53) (by decide +kernel), List.mem_of_getElem? (i := 125) (by decide +kernel), List.mem_of_getElem? (i := 126) (by decide +kernel)⟩
theorem lw_p14 : lw_okq (⟨"PulledSignals$FormulaReader", "readBracketSign", "(I)V"⟩, 13) := ⟨⟨by decide +kernel, by decide +kernel⟩, List.mem_of_getElem? (i := 53) (by decide +kernel), List.mem_of_getElem? (i := 137) (by decide +kernel), List.mem_of_getElem? (i := 138) (by decide +kernel)⟩
theorem lw_p15 : lw_okq (⟨"PulledSignals$FormulaReader", "choose", "(II)V"⟩, 13) := ⟨⟨by decide +kernel, by decide +kernel⟩, List.mem_of_getElem? (i := 53) (by decide +kernel), List.mem_of_getElem? (i := 144) (by decide +kernel), List.mem_of_getElem? (i := 145) (by decide +kernel)⟩
def lw_privs_1 : List (MethodName × Nat) := [(⟨"PulledSignals", "newComputed", "(II)I"⟩, 9), (⟨"PulledSignals", "refuse", "(I)I"⟩, 9), (⟨"PulledSignals$FormulaReader", "start", "(I)V"⟩, 13), (⟨"PulledSignals$FormulaReader", "readPart", "(LPulledSignals$Numbers;)V"⟩, 13), (⟨"PulledSignals$FormulaReader", "openUp", "(I)V"⟩, 13), (⟨"PulledSignals$FormulaReader", "readGreater", "(LPulledSignals$Numbers;)V"⟩, 13), (⟨"PulledSignals$FormulaReader", "readUntracked", "(LPulledSignals$Numbers;)V"⟩, 13), (⟨"PulledSignals$FormulaReader", "isLetter", "(I)Z"⟩, 13), (⟨"PulledSignals$FormulaReader", "addStep", "(II)V"⟩, 13), (⟨"PulledSignals$FormulaReader", "readPlainPart", "(LPulledSignals$Numbers;I)V"⟩, 13), (⟨"PulledSignals$FormulaReader", "readNumber", "(LPulledSignals$Numbers;)I"⟩, 13), (⟨"PulledSignals$FormulaReader", "readSign", "(I)V"⟩, 13), (⟨"PulledSignals$FormulaReader", "gather", "(I)V"⟩, 13), (⟨"PulledSignals$FormulaReader", "closeDown", "()V"⟩, 13), (⟨"PulledSignals$FormulaReader", "readBracketSign", "(I)V"⟩, 13), (⟨"PulledSignals$FormulaReader", "choose", "(II)V"⟩, 13)]
theorem lw_r1 : ∀ q ∈ lw_privs_1, lw_okq q := List.forall_mem_cons.mpr ⟨lw_p0, List.forall_mem_cons.mpr ⟨lw_p1, List.forall_mem_cons.mpr ⟨lw_p2, List.forall_mem_cons.mpr ⟨lw_p3, List.forall_mem_cons.mpr ⟨lw_p4, List.forall_mem_cons.mpr ⟨lw_p5, List.forall_mem_cons.mpr ⟨lw_p6, List.forall_mem_cons.mpr ⟨lw_p7, List.forall_mem_cons.mpr ⟨lw_p8, List.forall_mem_cons.mpr ⟨lw_p9, List.forall_mem_cons.mpr ⟨lw_p10, List.forall_mem_cons.mpr ⟨lw_p11, List.forall_mem_cons.mpr ⟨lw_p12, List.forall_mem_cons.mpr ⟨lw_p13, List.forall_mem_cons.mpr ⟨lw_p14, List.forall_mem_cons.mpr ⟨lw_p15, fun _ h => absurd h List.not_mem_nil⟩⟩⟩⟩⟩⟩⟩⟩⟩⟩⟩⟩⟩⟩⟩⟩
theorem lw_p16 : lw_okq (⟨"PulledSignals$FormulaReader", "closeWithPart", "()V"⟩, 13) := ⟨⟨by decide +kernel, by decide +kernel⟩, List.mem_of_getElem? (i := 53) (by decide +kernel), List.mem_of_getElem? (i := 152) (by decide +kernel), List.mem_of_getElem? (i := 153) (by decide +kernel)⟩
theorem lw_p17 : lw_okq (⟨"PulledSignals$FormulaReader", "endPart", "()V"⟩, 13) := ⟨⟨by decide +kernel, by decide +kernel⟩, List.mem_of_getElem? (i := 53) (by decide +kernel), List.mem_of_getElem? (i := 159) (by decide +kernel), List.mem_of_getElem? (i := 160) (by decide +kernel)⟩
theorem lw_p18 : lw_okq (⟨"PulledSignals", "refuseFault", "()I"⟩, 9) := ⟨⟨by decide +kernel, by decide +kernel⟩, List.mem_of_getElem? (i := 28) (by decide +kernel), List.mem_of_getElem? (i := 224) (by decide +kernel), List.mem_of_getElem? (i := 225) (by decide +kernel)⟩
theorem lw_p19 : lw_okq (⟨"PulledSignals$Web", "roomFor", "(I)LPulledSignals$Cell;"⟩, 9) := ⟨⟨by decide +kernel, by decide +kernel⟩, List.mem_of_getElem? (i := 242) (by decide +kernel), List.mem_of_getElem? (i := 240) (by decide +kernel), List.mem_of_getElem? (i := 241) (by decide +kernel)⟩
theorem lw_p20 : lw_okq (⟨"PulledSignals$Puller", "refresh", "(II)V"⟩, 1) := ⟨⟨by decide +kernel, by decide +kernel⟩, List.mem_of_getElem? (i := 328) (by decide +kernel), List.mem_of_getElem? (i := 326) (by decide +kernel), List.mem_of_getElem? (i := 327) (by decide +kernel)⟩
theorem lw_p21 : lw_okq (⟨"PulledSignals$Puller", "checkReads", "(LPulledSignals$Cell;I)V"⟩, 1) := ⟨⟨by decide +kernel, by decide +kernel⟩, List.mem_of_getElem? (i := 328) (by decide +kernel), List.mem_of_getElem? (i := 332) (by decide +kernel), List.mem_of_getElem? (i := 333) (by decide +kernel)⟩
theorem lw_p22 : lw_okq (⟨"PulledSignals$Puller", "runOnce", "(LPulledSignals$Cell;II)V"⟩, 1) := ⟨⟨by decide +kernel, by decide +kernel⟩, List.mem_of_getElem? (i := 328) (by decide +kernel), List.mem_of_getElem? (i := 336) (by decide +kernel), List.mem_of_getElem? (i := 337) (by decide +kernel)⟩
theorem lw_p23 : lw_okq (⟨"PulledSignals$Puller", "disposeOwned", "(II)V"⟩, 1) := ⟨⟨by decide +kernel, by decide +kernel⟩, List.mem_of_getElem? (i := 328) (by decide +kernel), List.mem_of_getElem? (i := 347) (by decide +kernel), List.mem_of_getElem? (i := 348) (by decide +kernel)⟩
theorem lw_p24 : lw_okq (⟨"PulledSignals$Puller", "letGo", "(I)V"⟩, 1) := ⟨⟨by decide +kernel, by decide +kernel⟩, List.mem_of_getElem? (i := 328) (by decide +kernel), List.mem_of_getElem? (i := 355) (by decide +kernel), List.mem_of_getElem? (i := 356) (by decide +kernel)⟩
theorem lw_p25 : lw_okq (⟨"PulledSignals$Puller", "colour", "(II)V"⟩, 1) := ⟨⟨by decide +kernel, by decide +kernel⟩, List.mem_of_getElem? (i := 328) (by decide +kernel), List.mem_of_getElem? (i := 369) (by decide +kernel), List.mem_of_getElem? (i := 370) (by decide +kernel)⟩
theorem lw_p26 : lw_okq (⟨"PulledSignals$Formula", "takeStep", "(II)V"⟩, 8) := ⟨⟨by decide +kernel, by decide +kernel⟩, List.mem_of_getElem? (i := 163) (by decide +kernel), List.mem_of_getElem? (i := 385) (by decide +kernel), List.mem_of_getElem? (i := 386) (by decide +kernel)⟩
theorem lw_p27 : lw_okq (⟨"PulledSignals$Formula", "join", "(I)V"⟩, 8) := ⟨⟨by decide +kernel, by decide +kernel⟩, List.mem_of_getElem? (i := 163) (by decide +kernel), List.mem_of_getElem? (i := 394) (by decide +kernel), List.mem_of_getElem? (i := 395) (by decide +kernel)⟩
theorem lw_p28 : lw_okq (⟨"PulledSignals$Puller", "outcomeRead", "(LPulledSignals$Cell;III)J"⟩, 1) := ⟨⟨by decide +kernel, by decide +kernel⟩, List.mem_of_getElem? (i := 328) (by decide +kernel), List.mem_of_getElem? (i := 406) (by decide +kernel), List.mem_of_getElem? (i := 407) (by decide +kernel)⟩
theorem lw_p29 : lw_okq (⟨"PulledSignals", "refuseLong", "(I)J"⟩, 9) := ⟨⟨by decide +kernel, by decide +kernel⟩, List.mem_of_getElem? (i := 28) (by decide +kernel), List.mem_of_getElem? (i := 463) (by decide +kernel), List.mem_of_getElem? (i := 464) (by decide +kernel)⟩
theorem lw_p30 : lw_okq (⟨"PulledSignals", "hasOutcome", "(I)Z"⟩, 9) := ⟨⟨by decide +kernel, by decide +kernel⟩, List.mem_of_getElem? (i := 28) (by decide +kernel), List.mem_of_getElem? (i := 501) (by decide +kernel), List.mem_of_getElem? (i := 502) (by decide +kernel)⟩
theorem lw_p31 : lw_okq (⟨"PulledSignals$Beside", "outcomeOf", "(II)J"⟩, 5) := ⟨⟨by decide +kernel, by decide +kernel⟩, List.mem_of_getElem? (i := 515) (by decide +kernel), List.mem_of_getElem? (i := 513) (by decide +kernel), List.mem_of_getElem? (i := 514) (by decide +kernel)⟩
def lw_privs_2 : List (MethodName × Nat) := [(⟨"PulledSignals$FormulaReader", "closeWithPart", "()V"⟩, 13), (⟨"PulledSignals$FormulaReader", "endPart", "()V"⟩, 13), (⟨"PulledSignals", "refuseFault", "()I"⟩, 9), (⟨"PulledSignals$Web", "roomFor", "(I)LPulledSignals$Cell;"⟩, 9), (⟨"PulledSignals$Puller", "refresh", "(II)V"⟩, 1), (⟨"PulledSignals$Puller", "checkReads", "(LPulledSignals$Cell;I)V"⟩, 1), (⟨"PulledSignals$Puller", "runOnce", "(LPulledSignals$Cell;II)V"⟩, 1), (⟨"PulledSignals$Puller", "disposeOwned", "(II)V"⟩, 1), (⟨"PulledSignals$Puller", "letGo", "(I)V"⟩, 1), (⟨"PulledSignals$Puller", "colour", "(II)V"⟩, 1), (⟨"PulledSignals$Formula", "takeStep", "(II)V"⟩, 8), (⟨"PulledSignals$Formula", "join", "(I)V"⟩, 8), (⟨"PulledSignals$Puller", "outcomeRead", "(LPulledSignals$Cell;III)J"⟩, 1), (⟨"PulledSignals", "refuseLong", "(I)J"⟩, 9), (⟨"PulledSignals", "hasOutcome", "(I)Z"⟩, 9), (⟨"PulledSignals$Beside", "outcomeOf", "(II)J"⟩, 5)]
theorem lw_r2 : ∀ q ∈ lw_privs_2, lw_okq q := List.forall_mem_cons.mpr ⟨lw_p16, List.forall_mem_cons.mpr ⟨lw_p17, List.forall_mem_cons.mpr ⟨lw_p18, List.forall_mem_cons.mpr ⟨lw_p19, List.forall_mem_cons.mpr ⟨lw_p20, List.forall_mem_cons.mpr ⟨lw_p21, List.forall_mem_cons.mpr ⟨lw_p22, List.forall_mem_cons.mpr ⟨lw_p23, List.forall_mem_cons.mpr ⟨lw_p24, List.forall_mem_cons.mpr ⟨lw_p25, List.forall_mem_cons.mpr ⟨lw_p26, List.forall_mem_cons.mpr ⟨lw_p27, List.forall_mem_cons.mpr ⟨lw_p28, List.forall_mem_cons.mpr ⟨lw_p29, List.forall_mem_cons.mpr ⟨lw_p30, List.forall_mem_cons.mpr ⟨lw_p31, fun _ h => absurd h List.not_mem_nil⟩⟩⟩⟩⟩⟩⟩⟩⟩⟩⟩⟩⟩⟩⟩⟩
theorem lw_p32 : lw_okq (⟨"PulledSignals$Beside", "outcomeRead", "(II)J"⟩, 5) := ⟨⟨by decide +kernel, by decide +kernel⟩, List.mem_of_getElem? (i := 515) (by decide +kernel), List.mem_of_getElem? (i := 524) (by decide +kernel), List.mem_of_getElem? (i := 525) (by decide +kernel)⟩
theorem lw_p33 : lw_okq (⟨"PulledSignals", "heldCount", "()I"⟩, 9) := ⟨⟨by decide +kernel, by decide +kernel⟩, List.mem_of_getElem? (i := 28) (by decide +kernel), List.mem_of_getElem? (i := 547) (by decide +kernel), List.mem_of_getElem? (i := 548) (by decide +kernel)⟩
theorem lw_p34 : lw_okq (⟨"PulledSignals", "shelfAt", "(I)LPulledSignals$Shelf;"⟩, 9) := ⟨⟨by decide +kernel, by decide +kernel⟩, List.mem_of_getElem? (i := 28) (by decide +kernel), List.mem_of_getElem? (i := 555) (by decide +kernel), List.mem_of_getElem? (i := 556) (by decide +kernel)⟩
theorem lw_p35 : lw_okq (⟨"PulledSignals", "refusalCount", "(I)I"⟩, 9) := ⟨⟨by decide +kernel, by decide +kernel⟩, List.mem_of_getElem? (i := 28) (by decide +kernel), List.mem_of_getElem? (i := 563) (by decide +kernel), List.mem_of_getElem? (i := 564) (by decide +kernel)⟩
theorem lw_p36 : lw_okq (⟨"PulledSignals", "newCell", "(III)I"⟩, 9) := ⟨⟨by decide +kernel, by decide +kernel⟩, List.mem_of_getElem? (i := 28) (by decide +kernel), List.mem_of_getElem? (i := 818) (by decide +kernel), List.mem_of_getElem? (i := 819) (by decide +kernel)⟩
def lw_privs_3 : List (MethodName × Nat) := [(⟨"PulledSignals$Beside", "outcomeRead", "(II)J"⟩, 5), (⟨"PulledSignals", "heldCount", "()I"⟩, 9), (⟨"PulledSignals", "shelfAt", "(I)LPulledSignals$Shelf;"⟩, 9), (⟨"PulledSignals", "refusalCount", "(I)I"⟩, 9), (⟨"PulledSignals", "newCell", "(III)I"⟩, 9)]
theorem lw_r3 : ∀ q ∈ lw_privs_3, lw_okq q := List.forall_mem_cons.mpr ⟨lw_p32, List.forall_mem_cons.mpr ⟨lw_p33, List.forall_mem_cons.mpr ⟨lw_p34, List.forall_mem_cons.mpr ⟨lw_p35, List.forall_mem_cons.mpr ⟨lw_p36, fun _ h => absurd h List.not_mem_nil⟩⟩⟩⟩⟩
def lw_privs : List (MethodName × Nat) := lw_privs_1 ++ (lw_privs_2 ++ (lw_privs_3))
def lw_tbl : List Cond := k2_sels lw_privs ++ tables_1
theorem lw_privs_ok : ∀ q ∈ lw_privs, lw_okq q := by
  show ∀ q ∈ lw_privs_1 ++ (lw_privs_2 ++ (lw_privs_3)), lw_okq q
  exact List.forall_mem_append.mpr ⟨lw_r1, List.forall_mem_append.mpr ⟨lw_r2, lw_r3⟩⟩
def RX0 : String := "PulledSignals$Beside"
def TX0 : u_T := fun k => match k with
  | 0 => ("PulledSignals$Beside", "web", "LPulledSignals$Web;", true)
  | 1 => ("PulledSignals$Beside", "outcomes", "[J", true)
  | 2 => ("PulledSignals$Beside", "states", "[I", true)
  | 3 => ("PulledSignals$Beside", "changed", "I", false)
  | _ => ("PulledSignals$Beside", "changedTo", "I", false)
def tyX0 : Nat → FieldType := fun k => match k with
  | 0 => .object "PulledSignals$Web"
  | 1 => .array .long
  | 2 => .array .int
  | 3 => .int
  | _ => .int
theorem nmX0 : ∀ a, a < 5 → ∀ b, b < 5 → a ≠ b → (TX0 a).2.1 ≠ (TX0 b).2.1 := by decide +kernel
theorem tyX0_ok : ∀ k, k < 5 → parseFieldDescriptor (TX0 k).2.2.1 = some (tyX0 k) := by decide +kernel
def RX1 : String := "PulledSignals$Cell"
def TX1 : u_T := fun k => match k with
  | 0 => ("PulledSignals$Cell", "kind", "I", false)
  | 1 => ("PulledSignals$Cell", "owner", "I", false)
  | 2 => ("PulledSignals$Cell", "gone", "Z", false)
  | 3 => ("PulledSignals$Cell", "busy", "Z", false)
  | 4 => ("PulledSignals$Cell", "colour", "I", false)
  | 5 => ("PulledSignals$Cell", "version", "J", false)
  | 6 => ("PulledSignals$Cell", "runs", "I", false)
  | 7 => ("PulledSignals$Cell", "outcome", "J", false)
  | 8 => ("PulledSignals$Cell", "formula", "LPulledSignals$Formula;", false)
  | _ => ("PulledSignals$Cell", "reads", "LPulledSignals$Numbers;", true)
def tyX1 : Nat → FieldType := fun k => match k with
  | 0 => .int
  | 1 => .int
  | 2 => .boolean
  | 3 => .boolean
  | 4 => .int
  | 5 => .long
  | 6 => .int
  | 7 => .long
  | 8 => .object "PulledSignals$Formula"
  | _ => .object "PulledSignals$Numbers"
theorem nmX1 : ∀ a, a < 10 → ∀ b, b < 10 → a ≠ b → (TX1 a).2.1 ≠ (TX1 b).2.1 := by decide +kernel
theorem tyX1_ok : ∀ k, k < 10 → parseFieldDescriptor (TX1 k).2.2.1 = some (tyX1 k) := by decide +kernel
def RX2 : String := "PulledSignals$Formula"
def TX2 : u_T := fun k => match k with
  | 0 => ("PulledSignals$Formula", "steps", "LPulledSignals$Numbers;", true)
  | 1 => ("PulledSignals$Formula", "details", "LPulledSignals$Numbers;", true)
  | 2 => ("PulledSignals$Formula", "text", "LPulledSignals$Numbers;", true)
  | 3 => ("PulledSignals$Formula", "stack", "LPulledSignals$Numbers;", true)
  | 4 => ("PulledSignals$Formula", "place", "I", false)
  | 5 => ("PulledSignals$Formula", "fail", "J", false)
  | 6 => ("PulledSignals$Formula", "asked", "I", false)
  | _ => ("PulledSignals$Formula", "tracked", "Z", false)
def tyX2 : Nat → FieldType := fun k => match k with
  | 0 => .object "PulledSignals$Numbers"
  | 1 => .object "PulledSignals$Numbers"
  | 2 => .object "PulledSignals$Numbers"
  | 3 => .object "PulledSignals$Numbers"
  | 4 => .int
  | 5 => .long
  | 6 => .int
  | _ => .boolean
theorem nmX2 : ∀ a, a < 8 → ∀ b, b < 8 → a ≠ b → (TX2 a).2.1 ≠ (TX2 b).2.1 := by decide +kernel
theorem tyX2_ok : ∀ k, k < 8 → parseFieldDescriptor (TX2 k).2.2.1 = some (tyX2 k) := by decide +kernel
def RX3 : String := "PulledSignals$FormulaReader"
def TX3 : u_T := fun k => match k with
  | 0 => ("PulledSignals$FormulaReader", "steps", "LPulledSignals$Numbers;", true)
  | 1 => ("PulledSignals$FormulaReader", "details", "LPulledSignals$Numbers;", true)
  | 2 => ("PulledSignals$FormulaReader", "text", "LPulledSignals$Numbers;", true)
  | 3 => ("PulledSignals$FormulaReader", "open", "LPulledSignals$Numbers;", true)
  | 4 => ("PulledSignals$FormulaReader", "openText", "LPulledSignals$Numbers;", true)
  | 5 => ("PulledSignals$FormulaReader", "openJump", "LPulledSignals$Numbers;", true)
  | 6 => ("PulledSignals$FormulaReader", "partText", "LPulledSignals$Numbers;", true)
  | 7 => ("PulledSignals$FormulaReader", "deepest", "I", false)
  | 8 => ("PulledSignals$FormulaReader", "cells", "I", false)
  | 9 => ("PulledSignals$FormulaReader", "at", "I", false)
  | 10 => ("PulledSignals$FormulaReader", "fault", "I", false)
  | 11 => ("PulledSignals$FormulaReader", "wantsPart", "Z", false)
  | _ => ("PulledSignals$FormulaReader", "partStands", "Z", false)
def tyX3 : Nat → FieldType := fun k => match k with
  | 0 => .object "PulledSignals$Numbers"
  | 1 => .object "PulledSignals$Numbers"
  | 2 => .object "PulledSignals$Numbers"
  | 3 => .object "PulledSignals$Numbers"
  | 4 => .object "PulledSignals$Numbers"
  | 5 => .object "PulledSignals$Numbers"
  | 6 => .object "PulledSignals$Numbers"
  | 7 => .int
  | 8 => .int
  | 9 => .int
  | 10 => .int
  | 11 => .boolean
  | _ => .boolean
theorem nmX3 : ∀ a, a < 13 → ∀ b, b < 13 → a ≠ b → (TX3 a).2.1 ≠ (TX3 b).2.1 := by decide +kernel
theorem tyX3_ok : ∀ k, k < 13 → parseFieldDescriptor (TX3 k).2.2.1 = some (tyX3 k) := by decide +kernel
def RX4 : String := "PulledSignals$Numbers"
def TX4 : u_T := fun k => match k with
  | 0 => ("PulledSignals$Numbers", "items", "[I", true)
  | 1 => ("PulledSignals$Numbers", "size", "I", false)
  | _ => ("PulledSignals$Numbers", "counted", "I", false)
def tyX4 : Nat → FieldType := fun k => match k with
  | 0 => .array .int
  | 1 => .int
  | _ => .int
theorem nmX4 : ∀ a, a < 3 → ∀ b, b < 3 → a ≠ b → (TX4 a).2.1 ≠ (TX4 b).2.1 := by decide +kernel
theorem tyX4_ok : ∀ k, k < 3 → parseFieldDescriptor (TX4 k).2.2.1 = some (tyX4 k) := by decide +kernel
def RX5 : String := "PulledSignals$Puller"
def TX5 : u_T := fun k => match k with
  | _ => ("PulledSignals$Puller", "web", "LPulledSignals$Web;", true)
def tyX5 : Nat → FieldType := fun k => match k with
  | _ => .object "PulledSignals$Web"
theorem nmX5 : ∀ a, a < 1 → ∀ b, b < 1 → a ≠ b → (TX5 a).2.1 ≠ (TX5 b).2.1 := by decide +kernel
theorem tyX5_ok : ∀ k, k < 1 → parseFieldDescriptor (TX5 k).2.2.1 = some (tyX5 k) := by decide +kernel
def RX6 : String := "PulledSignals$Shelf"
def TX6 : u_T := fun k => match k with
  | 0 => ("PulledSignals$Shelf", "elements", "[J", true)
  | 1 => ("PulledSignals$Shelf", "size", "I", false)
  | _ => ("PulledSignals$Shelf", "holding", "I", false)
def tyX6 : Nat → FieldType := fun k => match k with
  | 0 => .array .long
  | 1 => .int
  | _ => .int
theorem nmX6 : ∀ a, a < 3 → ∀ b, b < 3 → a ≠ b → (TX6 a).2.1 ≠ (TX6 b).2.1 := by decide +kernel
theorem tyX6_ok : ∀ k, k < 3 → parseFieldDescriptor (TX6 k).2.2.1 = some (tyX6 k) := by decide +kernel
def RX7 : String := "PulledSignals$Web"
def TX7 : u_T := fun k => match k with
  | 0 => ("PulledSignals$Web", "cells", "[LPulledSignals$Cell;", true)
  | 1 => ("PulledSignals$Web", "readers", "[I", true)
  | 2 => ("PulledSignals$Web", "count", "I", false)
  | 3 => ("PulledSignals$Web", "queue", "LPulledSignals$Numbers;", true)
  | 4 => ("PulledSignals$Web", "logCells", "LPulledSignals$Numbers;", true)
  | 5 => ("PulledSignals$Web", "logOutcomes", "[J", true)
  | 6 => ("PulledSignals$Web", "disposed", "LPulledSignals$Numbers;", true)
  | 7 => ("PulledSignals$Web", "batches", "I", false)
  | _ => ("PulledSignals$Web", "seed", "I", false)
def tyX7 : Nat → FieldType := fun k => match k with
  | 0 => .array (.object "PulledSignals$Cell")
  | 1 => .array .int
  | 2 => .int
  | 3 => .object "PulledSignals$Numbers"
  | 4 => .object "PulledSignals$Numbers"
  | 5 => .array .long
  | 6 => .object "PulledSignals$Numbers"
  | 7 => .int
  | _ => .int
theorem nmX7 : ∀ a, a < 9 → ∀ b, b < 9 → a ≠ b → (TX7 a).2.1 ≠ (TX7 b).2.1 := by decide +kernel
theorem tyX7_ok : ∀ k, k < 9 → parseFieldDescriptor (TX7 k).2.2.1 = some (tyX7 k) := by decide +kernel
def RX8 : String := "PulledSignals"
def TX8 : u_T := fun k => match k with
  | 0 => ("PulledSignals", "web", "LPulledSignals$Web;", true)
  | 1 => ("PulledSignals", "keptWeb", "LPulledSignals$Web;", true)
  | 2 => ("PulledSignals", "hasImage", "Z", false)
  | 3 => ("PulledSignals", "puller", "LPulledSignals$Puller;", true)
  | 4 => ("PulledSignals", "beside", "LPulledSignals$Beside;", true)
  | 5 => ("PulledSignals", "reader", "LPulledSignals$FormulaReader;", true)
  | 6 => ("PulledSignals", "tape", "LPulledSignals$Numbers;", true)
  | 7 => ("PulledSignals", "shelves", "[LPulledSignals$Shelf;", true)
  | _ => ("PulledSignals", "refusals", "[I", true)
def tyX8 : Nat → FieldType := fun k => match k with
  | 0 => .object "PulledSignals$Web"
  | 1 => .object "PulledSignals$Web"
  | 2 => .boolean
  | 3 => .object "PulledSignals$Puller"
  | 4 => .object "PulledSignals$Beside"
  | 5 => .object "PulledSignals$FormulaReader"
  | 6 => .object "PulledSignals$Numbers"
  | 7 => .array (.object "PulledSignals$Shelf")
  | _ => .array .int
theorem nmX8 : ∀ a, a < 9 → ∀ b, b < 9 → a ≠ b → (TX8 a).2.1 ≠ (TX8 b).2.1 := by decide +kernel
theorem tyX8_ok : ∀ k, k < 9 → parseFieldDescriptor (TX8 k).2.2.1 = some (tyX8 k) := by decide +kernel
def RJ0 : String := "java/lang/String"
def TJ0 : u_T := fun k => match k with
  | 0 => ("java/lang/String", "value", "[B", true)
  | 1 => ("java/lang/String", "coder", "B", true)
  | 2 => ("java/lang/String", "hash", "I", false)
  | _ => ("java/lang/String", "hashIsZero", "Z", false)
def tyJ0 : Nat → FieldType := fun k => match k with
  | 0 => .array .byte
  | 1 => .byte
  | 2 => .int
  | _ => .boolean
theorem nmJ0 : ∀ a, a < 4 → ∀ b, b < 4 → a ≠ b → (TJ0 a).2.1 ≠ (TJ0 b).2.1 := by decide +kernel
theorem tyJ0_ok : ∀ k, k < 4 → parseFieldDescriptor (TJ0 k).2.2.1 = some (tyJ0 k) := by decide +kernel
def RJ4 : String := "java/lang/StringBuilder"
def TJ4 : u_T := fun k => match k with
  | 0 => ("java/lang/AbstractStringBuilder", "value", "[B", false)
  | 1 => ("java/lang/AbstractStringBuilder", "coder", "B", false)
  | 2 => ("java/lang/AbstractStringBuilder", "maybeLatin1", "Z", false)
  | _ => ("java/lang/AbstractStringBuilder", "count", "I", false)
def tyJ4 : Nat → FieldType := fun k => match k with
  | 0 => .array .byte
  | 1 => .byte
  | 2 => .boolean
  | _ => .int
theorem nmJ4 : ∀ a, a < 4 → ∀ b, b < 4 → a ≠ b → (TJ4 a).2.1 ≠ (TJ4 b).2.1 := by decide +kernel
theorem tyJ4_ok : ∀ k, k < 4 → parseFieldDescriptor (TJ4 k).2.2.1 = some (tyJ4 k) := by decide +kernel
def RL : String := "PulledSignalsLaw"
def RJ1 : String := "java/lang/StringLatin1"
def RJ10 : String := "java/lang/System"
def RJ2 : String := "java/lang/StringUTF16"
def RJ3 : String := "jdk/internal/util/Preconditions"
def RJ5 : String := "java/lang/AbstractStringBuilder"
def RJ6 : String := "java/lang/Integer"
def RJ7 : String := "java/util/Arrays"
def RJ8 : String := "jdk/internal/util/ArraysSupport"
def RJ9 : String := "java/lang/Math"
def RJx8e188 : String := "java/lang/Cloneable"
abbrev vwCl : List vw_C := [(RX0, TX0, 5), (RX1, TX1, 10), (RX2, TX2, 8), (RX3, TX3, 13), (RX4, TX4, 3), (RX5, TX5, 1), (RX6, TX6, 3), (RX7, TX7, 9), (RX8, TX8, 9), (RJ0, TJ0, 4), (RJ4, TJ4, 4)]
