section
-- ===== PART A: goes FIRST, ahead of the names: the tables' words, and 'selects' of the private methods out of them =====
/-- a private method of a class that the tables say can be made, by its rows of tables_1 -/
def lw_okq (q : MethodName × Nat) : Prop := (q.1.cls ≠ "java/lang/invoke/MethodHandle" ∧ q.1.cls ≠ "java/lang/invoke/VarHandle") ∧ Cond.instantiable q.1.cls q.2 ∈ tables_1 ∧ Cond.privateMethod q.1 ∈ tables_1 ∧ Cond.instanceMethod q.1 ∈ tables_1
theorem lw_p0 : lw_okq (⟨"java/lang/Throwable", "fillInStackTrace", "(I)Ljava/lang/Throwable;"⟩, 6) := ⟨⟨by decide +kernel, by decide +kernel⟩, List.mem_of_getElem? (i := 300) (by decide +kernel), List.mem_of_getElem? (i := 298) (by decide +kernel), List.mem_of_getElem? (i := 299) (by decide +kernel)⟩
theorem lw_p1 : lw_okq (⟨"LaneMachine", "noteStepsDone", "()V"⟩, 14) := ⟨⟨by decide +kernel, by decide +kernel⟩, List.mem_of_getElem? (i := 14) (by decide +kernel), List.mem_of_getElem? (i := 364) (by decide +kernel), List.mem_of_getElem? (i := 365) (by decide +kernel)⟩
theorem lw_p2 : lw_okq (⟨"LaneMachine", "workUnit", "(I)V"⟩, 14) := ⟨⟨by decide +kernel, by decide +kernel⟩, List.mem_of_getElem? (i := 14) (by decide +kernel), List.mem_of_getElem? (i := 368) (by decide +kernel), List.mem_of_getElem? (i := 369) (by decide +kernel)⟩
theorem lw_p3 : lw_okq (⟨"LaneMachine$Work", "writesOf", "(I)J"⟩, 15) := ⟨⟨by decide +kernel, by decide +kernel⟩, List.mem_of_getElem? (i := 106) (by decide +kernel), List.mem_of_getElem? (i := 385) (by decide +kernel), List.mem_of_getElem? (i := 386) (by decide +kernel)⟩
theorem lw_p4 : lw_okq (⟨"LaneMachine$Work", "placeOf", "(II)I"⟩, 15) := ⟨⟨by decide +kernel, by decide +kernel⟩, List.mem_of_getElem? (i := 106) (by decide +kernel), List.mem_of_getElem? (i := 392) (by decide +kernel), List.mem_of_getElem? (i := 393) (by decide +kernel)⟩
theorem lw_p5 : lw_okq (⟨"LaneMachine$Work", "readsOf", "(I)J"⟩, 15) := ⟨⟨by decide +kernel, by decide +kernel⟩, List.mem_of_getElem? (i := 106) (by decide +kernel), List.mem_of_getElem? (i := 396) (by decide +kernel), List.mem_of_getElem? (i := 397) (by decide +kernel)⟩
theorem lw_p6 : lw_okq (⟨"LaneMachine$Work", "readsOfSum", "()J"⟩, 15) := ⟨⟨by decide +kernel, by decide +kernel⟩, List.mem_of_getElem? (i := 106) (by decide +kernel), List.mem_of_getElem? (i := 400) (by decide +kernel), List.mem_of_getElem? (i := 401) (by decide +kernel)⟩
theorem lw_p7 : lw_okq (⟨"LaneMachine$Work", "maskByte", "(I)J"⟩, 15) := ⟨⟨by decide +kernel, by decide +kernel⟩, List.mem_of_getElem? (i := 106) (by decide +kernel), List.mem_of_getElem? (i := 404) (by decide +kernel), List.mem_of_getElem? (i := 405) (by decide +kernel)⟩
theorem lw_p8 : lw_okq (⟨"LaneMachine$Work", "sourcesOf", "(I)J"⟩, 15) := ⟨⟨by decide +kernel, by decide +kernel⟩, List.mem_of_getElem? (i := 106) (by decide +kernel), List.mem_of_getElem? (i := 408) (by decide +kernel), List.mem_of_getElem? (i := 409) (by decide +kernel)⟩
theorem lw_p9 : lw_okq (⟨"LaneMachine$Work", "isInGroup", "(I)Z"⟩, 15) := ⟨⟨by decide +kernel, by decide +kernel⟩, List.mem_of_getElem? (i := 106) (by decide +kernel), List.mem_of_getElem? (i := 412) (by decide +kernel), List.mem_of_getElem? (i := 413) (by decide +kernel)⟩
theorem lw_p10 : lw_okq (⟨"LaneMachine$Work", "isWorkedOn", "(I)Z"⟩, 15) := ⟨⟨by decide +kernel, by decide +kernel⟩, List.mem_of_getElem? (i := 106) (by decide +kernel), List.mem_of_getElem? (i := 420) (by decide +kernel), List.mem_of_getElem? (i := 421) (by decide +kernel)⟩
theorem lw_p11 : lw_okq (⟨"LaneMachine$Work", "writeSum", "()V"⟩, 15) := ⟨⟨by decide +kernel, by decide +kernel⟩, List.mem_of_getElem? (i := 106) (by decide +kernel), List.mem_of_getElem? (i := 425) (by decide +kernel), List.mem_of_getElem? (i := 426) (by decide +kernel)⟩
theorem lw_p12 : lw_okq (⟨"LaneMachine$Work", "element", "(II)I"⟩, 15) := ⟨⟨by decide +kernel, by decide +kernel⟩, List.mem_of_getElem? (i := 106) (by decide +kernel), List.mem_of_getElem? (i := 429) (by decide +kernel), List.mem_of_getElem? (i := 430) (by decide +kernel)⟩
theorem lw_p13 : lw_okq (⟨"LaneMachine$Work", "writeMaskBit", "(IZ)V"⟩, 15) := ⟨⟨by decide +kernel, by decide +kernel⟩, List.mem_of_getElem? (i := 106) (by decide +kernel), List.mem_of_getElem? (i := 438) (by decide +kernel), List.mem_of_getElem? (i := 439) (by decide +kernel)⟩
theorem lw_p14 : lw_okq (⟨"LaneMachine$Work", "result", "(I)I"⟩, 15) := ⟨⟨by decide +kernel, by decide +kernel⟩, List.mem_of_getElem? (i := 106) (by decide +kernel), List.mem_of_getElem? (i := 442) (by decide +kernel), List.mem_of_getElem? (i := 443) (by decide +kernel)⟩
theorem lw_p15 : lw_okq (⟨"LaneMachine$Work", "elementOrZero", "(II)I"⟩, 15) := ⟨⟨by decide +kernel, by decide +kernel⟩, List.mem_of_getElem? (i := 106) (by decide +kernel), List.mem_of_getElem? (i := 446) (by decide +kernel), List.mem_of_getElem? (i := 447) (by decide +kernel)⟩
def lw_privs_1 : List (MethodName × Nat) := [(⟨"java/lang/Throwable", "fillInStackTrace", "(I)Ljava/lang/Throwable;"⟩, 6), (⟨"LaneMachine", "noteStepsDone", "()V"⟩, 14), (⟨"LaneMachine", "workUnit", "(I)V"⟩, 14), (⟨"LaneMachine$Work", "writesOf", "(I)J"⟩, 15), (⟨"LaneMachine$Work", "placeOf", "(II)I"⟩, 15), (⟨"LaneMachine$Work", "readsOf", "(I)J"⟩, 15), (⟨"LaneMachine$Work", "readsOfSum", "()J"⟩, 15), (⟨"LaneMachine$Work", "maskByte", "(I)J"⟩, 15), (⟨"LaneMachine$Work", "sourcesOf", "(I)J"⟩, 15), (⟨"LaneMachine$Work", "isInGroup", "(I)Z"⟩, 15), (⟨"LaneMachine$Work", "isWorkedOn", "(I)Z"⟩, 15), (⟨"LaneMachine$Work", "writeSum", "()V"⟩, 15), (⟨"LaneMachine$Work", "element", "(II)I"⟩, 15), (⟨"LaneMachine$Work", "writeMaskBit", "(IZ)V"⟩, 15), (⟨"LaneMachine$Work", "result", "(I)I"⟩, 15), (⟨"LaneMachine$Work", "elementOrZero", "(II)I"⟩, 15)]
theorem lw_r1 : ∀ q ∈ lw_privs_1, lw_okq q := List.forall_mem_cons.mpr ⟨lw_p0, List.forall_mem_cons.mpr ⟨lw_p1, List.forall_mem_cons.mpr ⟨lw_p2, List.forall_mem_cons.mpr ⟨lw_p3, List.forall_mem_cons.mpr ⟨lw_p4, List.forall_mem_cons.mpr ⟨lw_p5, List.forall_mem_cons.mpr ⟨lw_p6, List.forall_mem_cons.mpr ⟨lw_p7, List.forall_mem_cons.mpr ⟨lw_p8, List.forall_mem_cons.mpr ⟨lw_p9, List.forall_mem_cons.mpr ⟨lw_p10, List.forall_mem_cons.mpr ⟨lw_p11, List.forall_mem_cons.mpr ⟨lw_p12, List.forall_mem_cons.mpr ⟨lw_p13, List.forall_mem_cons.mpr ⟨lw_p14, List.forall_mem_cons.mpr ⟨lw_p15, fun _ h => absurd h List.not_mem_nil⟩⟩⟩⟩⟩⟩⟩⟩⟩⟩⟩⟩⟩⟩⟩⟩
theorem lw_p16 : lw_okq (⟨"LaneMachine$Work", "placeInMemory", "(I)I"⟩, 15) := ⟨⟨by decide +kernel, by decide +kernel⟩, List.mem_of_getElem? (i := 106) (by decide +kernel), List.mem_of_getElem? (i := 450) (by decide +kernel), List.mem_of_getElem? (i := 451) (by decide +kernel)⟩
theorem lw_p17 : lw_okq (⟨"LaneMachine", "dropFinished", "()V"⟩, 14) := ⟨⟨by decide +kernel, by decide +kernel⟩, List.mem_of_getElem? (i := 14) (by decide +kernel), List.mem_of_getElem? (i := 462) (by decide +kernel), List.mem_of_getElem? (i := 463) (by decide +kernel)⟩
theorem lw_p18 : lw_okq (⟨"LaneMachine", "advance", "()V"⟩, 14) := ⟨⟨by decide +kernel, by decide +kernel⟩, List.mem_of_getElem? (i := 14) (by decide +kernel), List.mem_of_getElem? (i := 467) (by decide +kernel), List.mem_of_getElem? (i := 468) (by decide +kernel)⟩
theorem lw_p19 : lw_okq (⟨"LaneMachine$Setting", "isMisplaced", "(LLaneMachine$Instruction;)Z"⟩, 4) := ⟨⟨by decide +kernel, by decide +kernel⟩, List.mem_of_getElem? (i := 40) (by decide +kernel), List.mem_of_getElem? (i := 479) (by decide +kernel), List.mem_of_getElem? (i := 480) (by decide +kernel)⟩
theorem lw_p20 : lw_okq (⟨"LaneMachine$Setting", "spoilsSources", "(LLaneMachine$Instruction;)Z"⟩, 4) := ⟨⟨by decide +kernel, by decide +kernel⟩, List.mem_of_getElem? (i := 40) (by decide +kernel), List.mem_of_getElem? (i := 502) (by decide +kernel), List.mem_of_getElem? (i := 503) (by decide +kernel)⟩
theorem lw_p21 : lw_okq (⟨"LaneMachine$Setting", "isInWideGroup", "(II)Z"⟩, 4) := ⟨⟨by decide +kernel, by decide +kernel⟩, List.mem_of_getElem? (i := 40) (by decide +kernel), List.mem_of_getElem? (i := 506) (by decide +kernel), List.mem_of_getElem? (i := 507) (by decide +kernel)⟩
theorem lw_p22 : lw_okq (⟨"LaneMachine$Setting", "isTooWide", "(LLaneMachine$Instruction;)Z"⟩, 4) := ⟨⟨by decide +kernel, by decide +kernel⟩, List.mem_of_getElem? (i := 40) (by decide +kernel), List.mem_of_getElem? (i := 510) (by decide +kernel), List.mem_of_getElem? (i := 511) (by decide +kernel)⟩
theorem lw_p23 : lw_okq (⟨"LaneMachine", "mustWaitForQueue", "(LLaneMachine$Instruction;)Z"⟩, 14) := ⟨⟨by decide +kernel, by decide +kernel⟩, List.mem_of_getElem? (i := 14) (by decide +kernel), List.mem_of_getElem? (i := 516) (by decide +kernel), List.mem_of_getElem? (i := 517) (by decide +kernel)⟩
theorem lw_p24 : lw_okq (⟨"LaneMachine", "handOut", "(LLaneMachine$Instruction;LLaneMachine$Work;)V"⟩, 14) := ⟨⟨by decide +kernel, by decide +kernel⟩, List.mem_of_getElem? (i := 14) (by decide +kernel), List.mem_of_getElem? (i := 521) (by decide +kernel), List.mem_of_getElem? (i := 522) (by decide +kernel)⟩
theorem lw_p25 : lw_okq (⟨"LaneMachine", "doScalar", "(LLaneMachine$Instruction;)V"⟩, 14) := ⟨⟨by decide +kernel, by decide +kernel⟩, List.mem_of_getElem? (i := 14) (by decide +kernel), List.mem_of_getElem? (i := 548) (by decide +kernel), List.mem_of_getElem? (i := 549) (by decide +kernel)⟩
theorem lw_p26 : lw_okq (⟨"LaneMachine", "setScalar", "(II)V"⟩, 14) := ⟨⟨by decide +kernel, by decide +kernel⟩, List.mem_of_getElem? (i := 14) (by decide +kernel), List.mem_of_getElem? (i := 552) (by decide +kernel), List.mem_of_getElem? (i := 553) (by decide +kernel)⟩
theorem lw_p27 : lw_okq (⟨"LaneMachineModel", "units", "()V"⟩, 31) := ⟨⟨by decide +kernel, by decide +kernel⟩, List.mem_of_getElem? (i := 578) (by decide +kernel), List.mem_of_getElem? (i := 687) (by decide +kernel), List.mem_of_getElem? (i := 688) (by decide +kernel)⟩
theorem lw_p28 : lw_okq (⟨"LaneMachineModel", "free", "(II)Z"⟩, 31) := ⟨⟨by decide +kernel, by decide +kernel⟩, List.mem_of_getElem? (i := 578) (by decide +kernel), List.mem_of_getElem? (i := 694) (by decide +kernel), List.mem_of_getElem? (i := 695) (by decide +kernel)⟩
theorem lw_p29 : lw_okq (⟨"LaneMachineModel", "reads", "(II)J"⟩, 31) := ⟨⟨by decide +kernel, by decide +kernel⟩, List.mem_of_getElem? (i := 578) (by decide +kernel), List.mem_of_getElem? (i := 698) (by decide +kernel), List.mem_of_getElem? (i := 699) (by decide +kernel)⟩
theorem lw_p30 : lw_okq (⟨"LaneMachineModel", "vlOf", "(I)I"⟩, 31) := ⟨⟨by decide +kernel, by decide +kernel⟩, List.mem_of_getElem? (i := 578) (by decide +kernel), List.mem_of_getElem? (i := 702) (by decide +kernel), List.mem_of_getElem? (i := 703) (by decide +kernel)⟩
theorem lw_p31 : lw_okq (⟨"LaneMachineModel", "writes", "(II)J"⟩, 31) := ⟨⟨by decide +kernel, by decide +kernel⟩, List.mem_of_getElem? (i := 578) (by decide +kernel), List.mem_of_getElem? (i := 709) (by decide +kernel), List.mem_of_getElem? (i := 710) (by decide +kernel)⟩
def lw_privs_2 : List (MethodName × Nat) := [(⟨"LaneMachine$Work", "placeInMemory", "(I)I"⟩, 15), (⟨"LaneMachine", "dropFinished", "()V"⟩, 14), (⟨"LaneMachine", "advance", "()V"⟩, 14), (⟨"LaneMachine$Setting", "isMisplaced", "(LLaneMachine$Instruction;)Z"⟩, 4), (⟨"LaneMachine$Setting", "spoilsSources", "(LLaneMachine$Instruction;)Z"⟩, 4), (⟨"LaneMachine$Setting", "isInWideGroup", "(II)Z"⟩, 4), (⟨"LaneMachine$Setting", "isTooWide", "(LLaneMachine$Instruction;)Z"⟩, 4), (⟨"LaneMachine", "mustWaitForQueue", "(LLaneMachine$Instruction;)Z"⟩, 14), (⟨"LaneMachine", "handOut", "(LLaneMachine$Instruction;LLaneMachine$Work;)V"⟩, 14), (⟨"LaneMachine", "doScalar", "(LLaneMachine$Instruction;)V"⟩, 14), (⟨"LaneMachine", "setScalar", "(II)V"⟩, 14), (⟨"LaneMachineModel", "units", "()V"⟩, 31), (⟨"LaneMachineModel", "free", "(II)Z"⟩, 31), (⟨"LaneMachineModel", "reads", "(II)J"⟩, 31), (⟨"LaneMachineModel", "vlOf", "(I)I"⟩, 31), (⟨"LaneMachineModel", "writes", "(II)J"⟩, 31)]
theorem lw_r2 : ∀ q ∈ lw_privs_2, lw_okq q := List.forall_mem_cons.mpr ⟨lw_p16, List.forall_mem_cons.mpr ⟨lw_p17, List.forall_mem_cons.mpr ⟨lw_p18, List.forall_mem_cons.mpr ⟨lw_p19, List.forall_mem_cons.mpr ⟨lw_p20, List.forall_mem_cons.mpr ⟨lw_p21, List.forall_mem_cons.mpr ⟨lw_p22, List.forall_mem_cons.mpr ⟨lw_p23, List.forall_mem_cons.mpr ⟨lw_p24, List.forall_mem_cons.mpr ⟨lw_p25, List.forall_mem_cons.mpr ⟨lw_p26, List.forall_mem_cons.mpr ⟨lw_p27, List.forall_mem_cons.mpr ⟨lw_p28, List.forall_mem_cons.mpr ⟨lw_p29, List.forall_mem_cons.mpr ⟨lw_p30, List.forall_mem_cons.mpr ⟨lw_p31, fun _ h => absurd h List.not_mem_nil⟩⟩⟩⟩⟩⟩⟩⟩⟩⟩⟩⟩⟩⟩⟩⟩
theorem lw_p32 : lw_okq (⟨"LaneMachineModel", "does", "(II)V"⟩, 31) := ⟨⟨by decide +kernel, by decide +kernel⟩, List.mem_of_getElem? (i := 578) (by decide +kernel), List.mem_of_getElem? (i := 713) (by decide +kernel), List.mem_of_getElem? (i := 714) (by decide +kernel)⟩
theorem lw_p33 : lw_okq (⟨"LaneMachineModel", "sums", "(I)V"⟩, 31) := ⟨⟨by decide +kernel, by decide +kernel⟩, List.mem_of_getElem? (i := 578) (by decide +kernel), List.mem_of_getElem? (i := 717) (by decide +kernel), List.mem_of_getElem? (i := 718) (by decide +kernel)⟩
theorem lw_p34 : lw_okq (⟨"LaneMachineModel", "element", "(III)I"⟩, 31) := ⟨⟨by decide +kernel, by decide +kernel⟩, List.mem_of_getElem? (i := 578) (by decide +kernel), List.mem_of_getElem? (i := 721) (by decide +kernel), List.mem_of_getElem? (i := 722) (by decide +kernel)⟩
theorem lw_p35 : lw_okq (⟨"LaneMachineModel", "bit", "(II)Z"⟩, 31) := ⟨⟨by decide +kernel, by decide +kernel⟩, List.mem_of_getElem? (i := 578) (by decide +kernel), List.mem_of_getElem? (i := 729) (by decide +kernel), List.mem_of_getElem? (i := 730) (by decide +kernel)⟩
theorem lw_p36 : lw_okq (⟨"LaneMachineModel", "set", "(IIII)V"⟩, 31) := ⟨⟨by decide +kernel, by decide +kernel⟩, List.mem_of_getElem? (i := 578) (by decide +kernel), List.mem_of_getElem? (i := 733) (by decide +kernel), List.mem_of_getElem? (i := 734) (by decide +kernel)⟩
theorem lw_p37 : lw_okq (⟨"LaneMachineModel", "pairs", "(II)I"⟩, 31) := ⟨⟨by decide +kernel, by decide +kernel⟩, List.mem_of_getElem? (i := 578) (by decide +kernel), List.mem_of_getElem? (i := 737) (by decide +kernel), List.mem_of_getElem? (i := 738) (by decide +kernel)⟩
theorem lw_p38 : lw_okq (⟨"LaneMachineModel", "moves", "(II)V"⟩, 31) := ⟨⟨by decide +kernel, by decide +kernel⟩, List.mem_of_getElem? (i := 578) (by decide +kernel), List.mem_of_getElem? (i := 741) (by decide +kernel), List.mem_of_getElem? (i := 742) (by decide +kernel)⟩
theorem lw_p39 : lw_okq (⟨"LaneMachineModel", "place", "(II)I"⟩, 31) := ⟨⟨by decide +kernel, by decide +kernel⟩, List.mem_of_getElem? (i := 578) (by decide +kernel), List.mem_of_getElem? (i := 745) (by decide +kernel), List.mem_of_getElem? (i := 746) (by decide +kernel)⟩
theorem lw_p40 : lw_okq (⟨"LaneMachineModel", "picks", "(II)I"⟩, 31) := ⟨⟨by decide +kernel, by decide +kernel⟩, List.mem_of_getElem? (i := 578) (by decide +kernel), List.mem_of_getElem? (i := 755) (by decide +kernel), List.mem_of_getElem? (i := 756) (by decide +kernel)⟩
theorem lw_p41 : lw_okq (⟨"LaneMachineModel", "leaves", "()V"⟩, 31) := ⟨⟨by decide +kernel, by decide +kernel⟩, List.mem_of_getElem? (i := 578) (by decide +kernel), List.mem_of_getElem? (i := 759) (by decide +kernel), List.mem_of_getElem? (i := 760) (by decide +kernel)⟩
theorem lw_p42 : lw_okq (⟨"LaneMachineModel", "goesOn", "()V"⟩, 31) := ⟨⟨by decide +kernel, by decide +kernel⟩, List.mem_of_getElem? (i := 578) (by decide +kernel), List.mem_of_getElem? (i := 763) (by decide +kernel), List.mem_of_getElem? (i := 764) (by decide +kernel)⟩
theorem lw_p43 : lw_okq (⟨"LaneMachineModel", "illegal", "(I)Z"⟩, 31) := ⟨⟨by decide +kernel, by decide +kernel⟩, List.mem_of_getElem? (i := 578) (by decide +kernel), List.mem_of_getElem? (i := 767) (by decide +kernel), List.mem_of_getElem? (i := 768) (by decide +kernel)⟩
theorem lw_p44 : lw_okq (⟨"LaneMachineModel", "odd", "(II)Z"⟩, 31) := ⟨⟨by decide +kernel, by decide +kernel⟩, List.mem_of_getElem? (i := 578) (by decide +kernel), List.mem_of_getElem? (i := 771) (by decide +kernel), List.mem_of_getElem? (i := 772) (by decide +kernel)⟩
theorem lw_p45 : lw_okq (⟨"LaneMachineModel", "scalarDone", "(I)Z"⟩, 31) := ⟨⟨by decide +kernel, by decide +kernel⟩, List.mem_of_getElem? (i := 578) (by decide +kernel), List.mem_of_getElem? (i := 775) (by decide +kernel), List.mem_of_getElem? (i := 776) (by decide +kernel)⟩
theorem lw_p46 : lw_okq (⟨"LaneMachineModel", "setX", "(II)V"⟩, 31) := ⟨⟨by decide +kernel, by decide +kernel⟩, List.mem_of_getElem? (i := 578) (by decide +kernel), List.mem_of_getElem? (i := 779) (by decide +kernel), List.mem_of_getElem? (i := 780) (by decide +kernel)⟩
theorem lw_p47 : lw_okq (⟨"LaneMachineModel", "configures", "(I)V"⟩, 31) := ⟨⟨by decide +kernel, by decide +kernel⟩, List.mem_of_getElem? (i := 578) (by decide +kernel), List.mem_of_getElem? (i := 783) (by decide +kernel), List.mem_of_getElem? (i := 784) (by decide +kernel)⟩
def lw_privs_3 : List (MethodName × Nat) := [(⟨"LaneMachineModel", "does", "(II)V"⟩, 31), (⟨"LaneMachineModel", "sums", "(I)V"⟩, 31), (⟨"LaneMachineModel", "element", "(III)I"⟩, 31), (⟨"LaneMachineModel", "bit", "(II)Z"⟩, 31), (⟨"LaneMachineModel", "set", "(IIII)V"⟩, 31), (⟨"LaneMachineModel", "pairs", "(II)I"⟩, 31), (⟨"LaneMachineModel", "moves", "(II)V"⟩, 31), (⟨"LaneMachineModel", "place", "(II)I"⟩, 31), (⟨"LaneMachineModel", "picks", "(II)I"⟩, 31), (⟨"LaneMachineModel", "leaves", "()V"⟩, 31), (⟨"LaneMachineModel", "goesOn", "()V"⟩, 31), (⟨"LaneMachineModel", "illegal", "(I)Z"⟩, 31), (⟨"LaneMachineModel", "odd", "(II)Z"⟩, 31), (⟨"LaneMachineModel", "scalarDone", "(I)Z"⟩, 31), (⟨"LaneMachineModel", "setX", "(II)V"⟩, 31), (⟨"LaneMachineModel", "configures", "(I)V"⟩, 31)]
theorem lw_r3 : ∀ q ∈ lw_privs_3, lw_okq q := List.forall_mem_cons.mpr ⟨lw_p32, List.forall_mem_cons.mpr ⟨lw_p33, List.forall_mem_cons.mpr ⟨lw_p34, List.forall_mem_cons.mpr ⟨lw_p35, List.forall_mem_cons.mpr ⟨lw_p36, List.forall_mem_cons.mpr ⟨lw_p37, List.forall_mem_cons.mpr ⟨lw_p38, List.forall_mem_cons.mpr ⟨lw_p39, List.forall_mem_cons.mpr ⟨lw_p40, List.forall_mem_cons.mpr ⟨lw_p41, List.forall_mem_cons.mpr ⟨lw_p42, List.forall_mem_cons.mpr ⟨lw_p43, List.forall_mem_cons.mpr ⟨lw_p44, List.forall_mem_cons.mpr ⟨lw_p45, List.forall_mem_cons.mpr ⟨lw_p46, List.forall_mem_cons.mpr ⟨lw_p47, fun _ h => absurd h List.not_mem_nil⟩⟩⟩⟩⟩⟩⟩⟩⟩⟩⟩⟩⟩⟩⟩⟩
theorem lw_p48 : lw_okq (⟨"LaneMachineModel", "held", "(I)Z"⟩, 31) := ⟨⟨by decide +kernel, by decide +kernel⟩, List.mem_of_getElem? (i := 578) (by decide +kernel), List.mem_of_getElem? (i := 787) (by decide +kernel), List.mem_of_getElem? (i := 788) (by decide +kernel)⟩
theorem lw_p49 : lw_okq (⟨"LaneMachineModel", "handsOut", "(I)V"⟩, 31) := ⟨⟨by decide +kernel, by decide +kernel⟩, List.mem_of_getElem? (i := 578) (by decide +kernel), List.mem_of_getElem? (i := 791) (by decide +kernel), List.mem_of_getElem? (i := 792) (by decide +kernel)⟩
theorem lw_p50 : lw_okq (⟨"LaneMachineModel", "bad", "(I)I"⟩, 31) := ⟨⟨by decide +kernel, by decide +kernel⟩, List.mem_of_getElem? (i := 578) (by decide +kernel), List.mem_of_getElem? (i := 795) (by decide +kernel), List.mem_of_getElem? (i := 796) (by decide +kernel)⟩
def lw_privs_4 : List (MethodName × Nat) := [(⟨"LaneMachineModel", "held", "(I)Z"⟩, 31), (⟨"LaneMachineModel", "handsOut", "(I)V"⟩, 31), (⟨"LaneMachineModel", "bad", "(I)I"⟩, 31)]
theorem lw_r4 : ∀ q ∈ lw_privs_4, lw_okq q := List.forall_mem_cons.mpr ⟨lw_p48, List.forall_mem_cons.mpr ⟨lw_p49, List.forall_mem_cons.mpr ⟨lw_p50, fun _ h => absurd h List.not_mem_nil⟩⟩⟩
def lw_privs : List (MethodName × Nat) := lw_privs_1 ++ (lw_privs_2 ++ (lw_privs_3 ++ (lw_privs_4)))
def lw_tbl : List Cond := k2_sels lw_privs ++ tables_1
theorem lw_privs_ok : ∀ q ∈ lw_privs, lw_okq q := by
  show ∀ q ∈ lw_privs_1 ++ (lw_privs_2 ++ (lw_privs_3 ++ (lw_privs_4))), lw_okq q
  exact List.forall_mem_append.mpr ⟨lw_r1, List.forall_mem_append.mpr ⟨lw_r2, List.forall_mem_append.mpr ⟨lw_r3, lw_r4⟩⟩⟩
end
section
/-! names, by an own program out of the Statement: classes R_, fields F_ t_, methods y_ b_, words kg_, decode rows d_ -/
/-- all good words of the tables: one list for every method -/
def kg_G : List Cond := lw_tbl.filter goodWord
theorem kg_of {w : Cond} (h : w ∈ lw_tbl) (hg : goodWord w = true) : w ∈ kg_G := List.mem_filter.mpr ⟨h, hg⟩
theorem kg_sel {q : MethodName × Nat} (h : q ∈ lw_privs) : Cond.selects q.1.cls q.1 q.1 ∈ kg_G := kg_of (List.mem_append_left _ (List.mem_map.mpr ⟨q, h, rfl⟩)) rfl
theorem kg_i1 {w : Cond} (k : Nat) (hk : tables_1_1[k]? = some w) (hg : goodWord w = true) : w ∈ kg_G := by
  have h : w ∈ tables_1_1 := List.mem_of_getElem? hk
  have h1 : w ∈ tables_1 := List.mem_append_left _ h
  exact kg_of (List.mem_append_right _ h1) hg
theorem kg_i2 {w : Cond} (k : Nat) (hk : tables_1_2[k]? = some w) (hg : goodWord w = true) : w ∈ kg_G := by
  have h : w ∈ tables_1_2 := List.mem_of_getElem? hk
  have h1 : w ∈ tables_1 := List.mem_append_right _ (List.mem_append_left _ h)
  exact kg_of (List.mem_append_right _ h1) hg
theorem kg_i3 {w : Cond} (k : Nat) (hk : tables_1_3[k]? = some w) (hg : goodWord w = true) : w ∈ kg_G := by
  have h : w ∈ tables_1_3 := List.mem_of_getElem? hk
  have h1 : w ∈ tables_1 := List.mem_append_right _ (List.mem_append_right _ (List.mem_append_left _ h))
  exact kg_of (List.mem_append_right _ h1) hg
theorem kg_i4 {w : Cond} (k : Nat) (hk : tables_1_4[k]? = some w) (hg : goodWord w = true) : w ∈ kg_G := by
  have h : w ∈ tables_1_4 := List.mem_of_getElem? hk
  have h1 : w ∈ tables_1 := List.mem_append_right _ (List.mem_append_right _ (List.mem_append_right _ (h)))
  exact kg_of (List.mem_append_right _ h1) hg
theorem kg_good {x : Cond} {y : MethodName} {b : ByteArray} {n : Nat} {r : Option FieldType} (h : Cond.code y b n r ∈ kg_G) : GoodIn (x :: kg_G) (Cond.code y b n r :: kg_G) := fun w hw => by
  have h1 : w ∈ kg_G := by
    rcases List.mem_cons.mp hw with rfl | h1
    · exact h
    · exact h1
  exact ⟨List.mem_cons_of_mem _ h1, good_of_word (List.mem_filter.mp h1).2⟩
def R_M : String := "LaneMachine"
def R_B : String := "LaneMachine$Bytes"
def R_I : String := "LaneMachine$Instruction"
def R_S : String := "LaneMachine$Setting"
def R_K : String := "LaneMachine$Work"
def R_R : String := "LaneMachineModel"
def R_L : String := "LaneMachineLaw"
def R_JM : String := "java/lang/Math"
def R_JO : String := "java/lang/Object"
def R_JT : String := "java/lang/Throwable"
def R_JE : String := "java/lang/Exception"
def R_JR : String := "java/lang/RuntimeException"
def R_JA : String := "java/lang/IllegalArgumentException"
def R_JS : String := "java/lang/IllegalStateException"
def y_B_bareNumber : MethodName := ⟨"LaneMachine$Bytes", "bareNumber", "(II)I"⟩
def y_B_init : MethodName := ⟨"LaneMachine$Bytes", "<init>", "(I)V"⟩
def y_B_number : MethodName := ⟨"LaneMachine$Bytes", "number", "(II)I"⟩
def y_B_write : MethodName := ⟨"LaneMachine$Bytes", "write", "(III)V"⟩
def y_I_hasGroupAtA : MethodName := ⟨"LaneMachine$Instruction", "hasGroupAtA", "()Z"⟩
def y_I_hasGroupAtB : MethodName := ⟨"LaneMachine$Instruction", "hasGroupAtB", "()Z"⟩
def y_I_hasGroupAtD : MethodName := ⟨"LaneMachine$Instruction", "hasGroupAtD", "()Z"⟩
def y_I_init : MethodName := ⟨"LaneMachine$Instruction", "<init>", "(IIIIIZ)V"⟩
def y_I_isVector : MethodName := ⟨"LaneMachine$Instruction", "isVector", "()Z"⟩
def y_I_needsEmptyQueue : MethodName := ⟨"LaneMachine$Instruction", "needsEmptyQueue", "()Z"⟩
def y_I_unit : MethodName := ⟨"LaneMachine$Instruction", "unit", "()I"⟩
def y_JA_init : MethodName := ⟨"java/lang/IllegalArgumentException", "<init>", "()V"⟩
def y_JE_init : MethodName := ⟨"java/lang/Exception", "<init>", "()V"⟩
def y_JE_initS : MethodName := ⟨"java/lang/Exception", "<init>", "(Ljava/lang/String;)V"⟩
def y_JM_max : MethodName := ⟨"java/lang/Math", "max", "(II)I"⟩
def y_JM_min : MethodName := ⟨"java/lang/Math", "min", "(II)I"⟩
def y_JO_init : MethodName := ⟨"java/lang/Object", "<init>", "()V"⟩
def y_JR_init : MethodName := ⟨"java/lang/RuntimeException", "<init>", "()V"⟩
def y_JR_initS : MethodName := ⟨"java/lang/RuntimeException", "<init>", "(Ljava/lang/String;)V"⟩
def y_JS_init : MethodName := ⟨"java/lang/IllegalStateException", "<init>", "()V"⟩
def y_JT_fill0 : MethodName := ⟨"java/lang/Throwable", "fillInStackTrace", "()Ljava/lang/Throwable;"⟩
def y_JT_fill1 : MethodName := ⟨"java/lang/Throwable", "fillInStackTrace", "(I)Ljava/lang/Throwable;"⟩
def y_JT_init : MethodName := ⟨"java/lang/Throwable", "<init>", "()V"⟩
def y_JT_initS : MethodName := ⟨"java/lang/Throwable", "<init>", "(Ljava/lang/String;)V"⟩
def y_K_doNextStep : MethodName := ⟨"LaneMachine$Work", "doNextStep", "()V"⟩
def y_K_element : MethodName := ⟨"LaneMachine$Work", "element", "(II)I"⟩
def y_K_elementOrZero : MethodName := ⟨"LaneMachine$Work", "elementOrZero", "(II)I"⟩
def y_K_firstBad : MethodName := ⟨"LaneMachine$Work", "firstBad", "(I)I"⟩
def y_K_foresee : MethodName := ⟨"LaneMachine$Work", "foresee", "()V"⟩
def y_K_init : MethodName := ⟨"LaneMachine$Work", "<init>", "(LLaneMachine$Bytes;LLaneMachine$Bytes;LLaneMachine$Instruction;)V"⟩
def y_K_isDone : MethodName := ⟨"LaneMachine$Work", "isDone", "()Z"⟩
def y_K_isInGroup : MethodName := ⟨"LaneMachine$Work", "isInGroup", "(I)Z"⟩
def y_K_isNextStepFree : MethodName := ⟨"LaneMachine$Work", "isNextStepFree", "(JJ)Z"⟩
def y_K_isWorkedOn : MethodName := ⟨"LaneMachine$Work", "isWorkedOn", "(I)Z"⟩
def y_K_maskByte : MethodName := ⟨"LaneMachine$Work", "maskByte", "(I)J"⟩
def y_K_placeInMemory : MethodName := ⟨"LaneMachine$Work", "placeInMemory", "(I)I"⟩
def y_K_placeOf : MethodName := ⟨"LaneMachine$Work", "placeOf", "(II)I"⟩
def y_K_readsFromStep : MethodName := ⟨"LaneMachine$Work", "readsFromStep", "(I)J"⟩
def y_K_readsOf : MethodName := ⟨"LaneMachine$Work", "readsOf", "(I)J"⟩
def y_K_readsOfSum : MethodName := ⟨"LaneMachine$Work", "readsOfSum", "()J"⟩
def y_K_result : MethodName := ⟨"LaneMachine$Work", "result", "(I)I"⟩
def y_K_sourcesOf : MethodName := ⟨"LaneMachine$Work", "sourcesOf", "(I)J"⟩
def y_K_span : MethodName := ⟨"LaneMachine$Work", "span", "(II)J"⟩
def y_K_steps : MethodName := ⟨"LaneMachine$Work", "steps", "()I"⟩
def y_K_take : MethodName := ⟨"LaneMachine$Work", "take", "(LLaneMachine$Instruction;ILLaneMachine$Setting;II)V"⟩
def y_K_writeMaskBit : MethodName := ⟨"LaneMachine$Work", "writeMaskBit", "(IZ)V"⟩
def y_K_writeSum : MethodName := ⟨"LaneMachine$Work", "writeSum", "()V"⟩
def y_K_writesFromStep : MethodName := ⟨"LaneMachine$Work", "writesFromStep", "(I)J"⟩
def y_K_writesOf : MethodName := ⟨"LaneMachine$Work", "writesOf", "(I)J"⟩
def y_L_cell : MethodName := ⟨"LaneMachineLaw", "cell", "([II)I"⟩
def y_L_cycles : MethodName := ⟨"LaneMachineLaw", "cycles", "(LLaneMachine;I[J)I"⟩
def y_L_go : MethodName := ⟨"LaneMachineLaw", "go", "(LLaneMachine;I[J)I"⟩
def y_L_limit : MethodName := ⟨"LaneMachineLaw", "limit", "(LLaneMachine;I[J)I"⟩
def y_L_poke : MethodName := ⟨"LaneMachineLaw", "poke", "(LLaneMachine;II[J)I"⟩
def y_L_put : MethodName := ⟨"LaneMachineLaw", "put", "(LLaneMachine;IIIIIZ[J)I"⟩
def y_L_resume : MethodName := ⟨"LaneMachineLaw", "resume", "(LLaneMachine;[J)I"⟩
def y_M_about : MethodName := ⟨"LaneMachine", "about", "(I)I"⟩
def y_M_advance : MethodName := ⟨"LaneMachine", "advance", "()V"⟩
def y_M_cycles : MethodName := ⟨"LaneMachine", "cycles", "(I)I"⟩
def y_M_doScalar : MethodName := ⟨"LaneMachine", "doScalar", "(LLaneMachine$Instruction;)V"⟩
def y_M_dropFinished : MethodName := ⟨"LaneMachine", "dropFinished", "()V"⟩
def y_M_file : MethodName := ⟨"LaneMachine", "file", "(I)I"⟩
def y_M_go : MethodName := ⟨"LaneMachine", "go", "(I)I"⟩
def y_M_handOut : MethodName := ⟨"LaneMachine", "handOut", "(LLaneMachine$Instruction;LLaneMachine$Work;)V"⟩
def y_M_init : MethodName := ⟨"LaneMachine", "<init>", "(I)V"⟩
def y_M_isRegister : MethodName := ⟨"LaneMachine", "isRegister", "(I)Z"⟩
def y_M_limit : MethodName := ⟨"LaneMachine", "limit", "(I)Z"⟩
def y_M_memory : MethodName := ⟨"LaneMachine", "memory", "(I)I"⟩
def y_M_mustWaitForQueue : MethodName := ⟨"LaneMachine", "mustWaitForQueue", "(LLaneMachine$Instruction;)Z"⟩
def y_M_noteStepsDone : MethodName := ⟨"LaneMachine", "noteStepsDone", "()V"⟩
def y_M_poke : MethodName := ⟨"LaneMachine", "poke", "(II)Z"⟩
def y_M_put : MethodName := ⟨"LaneMachine", "put", "(IIIIIZ)I"⟩
def y_M_queue : MethodName := ⟨"LaneMachine", "queue", "(II)I"⟩
def y_M_resume : MethodName := ⟨"LaneMachine", "resume", "()I"⟩
def y_M_scalar : MethodName := ⟨"LaneMachine", "scalar", "(I)I"⟩
def y_M_setScalar : MethodName := ⟨"LaneMachine", "setScalar", "(II)V"⟩
def y_M_workUnit : MethodName := ⟨"LaneMachine", "workUnit", "(I)V"⟩
def y_R_about : MethodName := ⟨"LaneMachineModel", "about", "(I)I"⟩
def y_R_bad : MethodName := ⟨"LaneMachineModel", "bad", "(I)I"⟩
def y_R_bit : MethodName := ⟨"LaneMachineModel", "bit", "(II)Z"⟩
def y_R_bytes : MethodName := ⟨"LaneMachineModel", "bytes", "(II)J"⟩
def y_R_configures : MethodName := ⟨"LaneMachineModel", "configures", "(I)V"⟩
def y_R_cycles : MethodName := ⟨"LaneMachineModel", "cycles", "(I)I"⟩
def y_R_does : MethodName := ⟨"LaneMachineModel", "does", "(II)V"⟩
def y_R_element : MethodName := ⟨"LaneMachineModel", "element", "(III)I"⟩
def y_R_file : MethodName := ⟨"LaneMachineModel", "file", "(I)I"⟩
def y_R_free : MethodName := ⟨"LaneMachineModel", "free", "(II)Z"⟩
def y_R_go : MethodName := ⟨"LaneMachineModel", "go", "(I)I"⟩
def y_R_goesOn : MethodName := ⟨"LaneMachineModel", "goesOn", "()V"⟩
def y_R_handsOut : MethodName := ⟨"LaneMachineModel", "handsOut", "(I)V"⟩
def y_R_held : MethodName := ⟨"LaneMachineModel", "held", "(I)Z"⟩
def y_R_illegal : MethodName := ⟨"LaneMachineModel", "illegal", "(I)Z"⟩
def y_R_init : MethodName := ⟨"LaneMachineModel", "<init>", "(I)V"⟩
def y_R_isRegister : MethodName := ⟨"LaneMachineModel", "isRegister", "(I)Z"⟩
def y_R_leaves : MethodName := ⟨"LaneMachineModel", "leaves", "()V"⟩
def y_R_limit : MethodName := ⟨"LaneMachineModel", "limit", "(I)Z"⟩
def y_R_memory : MethodName := ⟨"LaneMachineModel", "memory", "(I)I"⟩
def y_R_moves : MethodName := ⟨"LaneMachineModel", "moves", "(II)V"⟩
def y_R_odd : MethodName := ⟨"LaneMachineModel", "odd", "(II)Z"⟩
def y_R_pairs : MethodName := ⟨"LaneMachineModel", "pairs", "(II)I"⟩
def y_R_picks : MethodName := ⟨"LaneMachineModel", "picks", "(II)I"⟩
def y_R_place : MethodName := ⟨"LaneMachineModel", "place", "(II)I"⟩
def y_R_plain : MethodName := ⟨"LaneMachineModel", "plain", "(II)J"⟩
def y_R_poke : MethodName := ⟨"LaneMachineModel", "poke", "(II)Z"⟩
def y_R_put : MethodName := ⟨"LaneMachineModel", "put", "(IIIIIZ)I"⟩
def y_R_queue : MethodName := ⟨"LaneMachineModel", "queue", "(II)I"⟩
def y_R_reads : MethodName := ⟨"LaneMachineModel", "reads", "(II)J"⟩
def y_R_resume : MethodName := ⟨"LaneMachineModel", "resume", "()I"⟩
def y_R_scalar : MethodName := ⟨"LaneMachineModel", "scalar", "(I)I"⟩
def y_R_scalarDone : MethodName := ⟨"LaneMachineModel", "scalarDone", "(I)Z"⟩
def y_R_set : MethodName := ⟨"LaneMachineModel", "set", "(IIII)V"⟩
def y_R_setX : MethodName := ⟨"LaneMachineModel", "setX", "(II)V"⟩
def y_R_signed : MethodName := ⟨"LaneMachineModel", "signed", "(JI)I"⟩
def y_R_sums : MethodName := ⟨"LaneMachineModel", "sums", "(I)V"⟩
def y_R_thrown : MethodName := ⟨"LaneMachineModel", "thrown", "()I"⟩
def y_R_unit : MethodName := ⟨"LaneMachineModel", "unit", "(I)I"⟩
def y_R_units : MethodName := ⟨"LaneMachineModel", "units", "()V"⟩
def y_R_vlOf : MethodName := ⟨"LaneMachineModel", "vlOf", "(I)I"⟩
def y_R_writes : MethodName := ⟨"LaneMachineModel", "writes", "(II)J"⟩
def y_S_configure : MethodName := ⟨"LaneMachine$Setting", "configure", "(II)V"⟩
def y_S_forbids : MethodName := ⟨"LaneMachine$Setting", "forbids", "(LLaneMachine$Instruction;)Z"⟩
def y_S_group : MethodName := ⟨"LaneMachine$Setting", "group", "()I"⟩
def y_S_init : MethodName := ⟨"LaneMachine$Setting", "<init>", "()V"⟩
def y_S_isCode : MethodName := ⟨"LaneMachine$Setting", "isCode", "(I)Z"⟩
def y_S_isInWideGroup : MethodName := ⟨"LaneMachine$Setting", "isInWideGroup", "(II)Z"⟩
def y_S_isMisplaced : MethodName := ⟨"LaneMachine$Setting", "isMisplaced", "(LLaneMachine$Instruction;)Z"⟩
def y_S_isMultiple : MethodName := ⟨"LaneMachine$Setting", "isMultiple", "(II)Z"⟩
def y_S_isTooWide : MethodName := ⟨"LaneMachine$Setting", "isTooWide", "(LLaneMachine$Instruction;)Z"⟩
def y_S_most : MethodName := ⟨"LaneMachine$Setting", "most", "()I"⟩
def y_S_spoilsMask : MethodName := ⟨"LaneMachine$Setting", "spoilsMask", "(LLaneMachine$Instruction;)Z"⟩
def y_S_spoilsSources : MethodName := ⟨"LaneMachine$Setting", "spoilsSources", "(LLaneMachine$Instruction;)Z"⟩
def y_S_width : MethodName := ⟨"LaneMachine$Setting", "width", "()I"⟩
def y_L_law : MethodName := ⟨"LaneMachineLaw", "law", "([I)Z"⟩
def F_B : u_T := fun k => match k with
  | _ => ("LaneMachine$Bytes", "row", "[B", true)
def t_B : Nat → FieldType := fun k => match k with
  | _ => (.array .byte)
theorem nm_B : ∀ a, a < 1 → ∀ b, b < 1 → a ≠ b → (F_B a).2.1 ≠ (F_B b).2.1 := by decide +kernel
theorem ty_B : ∀ k, k < 1 → parseFieldDescriptor (F_B k).2.2.1 = some (t_B k) := by decide +kernel
def F_I : u_T := fun k => match k with
  | 0 => ("LaneMachine$Instruction", "op", "I", true)
  | 1 => ("LaneMachine$Instruction", "d", "I", true)
  | 2 => ("LaneMachine$Instruction", "a", "I", true)
  | 3 => ("LaneMachine$Instruction", "b", "I", true)
  | 4 => ("LaneMachine$Instruction", "n", "I", true)
  | _ => ("LaneMachine$Instruction", "masked", "Z", true)
def t_I : Nat → FieldType := fun k => match k with
  | 0 => .int
  | 1 => .int
  | 2 => .int
  | 3 => .int
  | 4 => .int
  | _ => .boolean
theorem nm_I : ∀ a, a < 6 → ∀ b, b < 6 → a ≠ b → (F_I a).2.1 ≠ (F_I b).2.1 := by decide +kernel
theorem ty_I : ∀ k, k < 6 → parseFieldDescriptor (F_I k).2.2.1 = some (t_I k) := by decide +kernel
def F_S : u_T := fun k => match k with
  | 0 => ("LaneMachine$Setting", "widthPower", "I", false)
  | 1 => ("LaneMachine$Setting", "groupPower", "I", false)
  | 2 => ("LaneMachine$Setting", "length", "I", false)
  | _ => ("LaneMachine$Setting", "start", "I", false)
def t_S : Nat → FieldType := fun k => match k with
  | 0 => .int
  | 1 => .int
  | 2 => .int
  | _ => .int
theorem nm_S : ∀ a, a < 4 → ∀ b, b < 4 → a ≠ b → (F_S a).2.1 ≠ (F_S b).2.1 := by decide +kernel
theorem ty_S : ∀ k, k < 4 → parseFieldDescriptor (F_S k).2.2.1 = some (t_S k) := by decide +kernel
def F_K : u_T := fun k => match k with
  | 0 => ("LaneMachine$Work", "registers", "LLaneMachine$Bytes;", true)
  | 1 => ("LaneMachine$Work", "cells", "LLaneMachine$Bytes;", true)
  | 2 => ("LaneMachine$Work", "readsFrom", "[J", true)
  | 3 => ("LaneMachine$Work", "writesFrom", "[J", true)
  | 4 => ("LaneMachine$Work", "width", "I", false)
  | 5 => ("LaneMachine$Work", "group", "I", false)
  | 6 => ("LaneMachine$Work", "most", "I", false)
  | 7 => ("LaneMachine$Work", "xa", "I", false)
  | 8 => ("LaneMachine$Work", "xb", "I", false)
  | 9 => ("LaneMachine$Work", "from", "I", false)
  | 10 => ("LaneMachine$Work", "what", "LLaneMachine$Instruction;", false)
  | 11 => ("LaneMachine$Work", "number", "I", false)
  | 12 => ("LaneMachine$Work", "to", "I", false)
  | 13 => ("LaneMachine$Work", "done", "I", false)
  | _ => ("LaneMachine$Work", "doneBefore", "I", false)
def t_K : Nat → FieldType := fun k => match k with
  | 0 => (.object "LaneMachine$Bytes")
  | 1 => (.object "LaneMachine$Bytes")
  | 2 => (.array .long)
  | 3 => (.array .long)
  | 4 => .int
  | 5 => .int
  | 6 => .int
  | 7 => .int
  | 8 => .int
  | 9 => .int
  | 10 => (.object "LaneMachine$Instruction")
  | 11 => .int
  | 12 => .int
  | 13 => .int
  | _ => .int
theorem nm_K : ∀ a, a < 15 → ∀ b, b < 15 → a ≠ b → (F_K a).2.1 ≠ (F_K b).2.1 := by decide +kernel
theorem ty_K : ∀ k, k < 15 → parseFieldDescriptor (F_K k).2.2.1 = some (t_K k) := by decide +kernel
def F_M : u_T := fun k => match k with
  | 0 => ("LaneMachine", "lanes", "I", true)
  | 1 => ("LaneMachine", "x", "[I", true)
  | 2 => ("LaneMachine", "registers", "LLaneMachine$Bytes;", true)
  | 3 => ("LaneMachine", "cells", "LLaneMachine$Bytes;", true)
  | 4 => ("LaneMachine", "setting", "LLaneMachine$Setting;", true)
  | 5 => ("LaneMachine", "program", "[LLaneMachine$Instruction;", true)
  | 6 => ("LaneMachine", "works", "[LLaneMachine$Work;", true)
  | 7 => ("LaneMachine", "programSize", "I", false)
  | 8 => ("LaneMachine", "queued", "I", false)
  | 9 => ("LaneMachine", "state", "I", false)
  | 10 => ("LaneMachine", "next", "I", false)
  | 11 => ("LaneMachine", "bound", "I", false)
  | 12 => ("LaneMachine", "cyclesDone", "I", false)
  | _ => ("LaneMachine", "stepsDone", "I", false)
def t_M : Nat → FieldType := fun k => match k with
  | 0 => .int
  | 1 => (.array .int)
  | 2 => (.object "LaneMachine$Bytes")
  | 3 => (.object "LaneMachine$Bytes")
  | 4 => (.object "LaneMachine$Setting")
  | 5 => (.array (.object "LaneMachine$Instruction"))
  | 6 => (.array (.object "LaneMachine$Work"))
  | 7 => .int
  | 8 => .int
  | 9 => .int
  | 10 => .int
  | 11 => .int
  | 12 => .int
  | _ => .int
theorem nm_M : ∀ a, a < 14 → ∀ b, b < 14 → a ≠ b → (F_M a).2.1 ≠ (F_M b).2.1 := by decide +kernel
theorem ty_M : ∀ k, k < 14 → parseFieldDescriptor (F_M k).2.2.1 = some (t_M k) := by decide +kernel
def F_R : u_T := fun k => match k with
  | 0 => ("LaneMachineModel", "lanes", "I", true)
  | 1 => ("LaneMachineModel", "threw", "I", false)
  | 2 => ("LaneMachineModel", "state", "I", false)
  | 3 => ("LaneMachineModel", "next", "I", false)
  | 4 => ("LaneMachineModel", "width", "I", false)
  | 5 => ("LaneMachineModel", "group", "I", false)
  | 6 => ("LaneMachineModel", "vl", "I", false)
  | 7 => ("LaneMachineModel", "start", "I", false)
  | 8 => ("LaneMachineModel", "bound", "I", false)
  | 9 => ("LaneMachineModel", "cycles", "I", false)
  | 10 => ("LaneMachineModel", "stepsDone", "I", false)
  | 11 => ("LaneMachineModel", "x", "[I", true)
  | 12 => ("LaneMachineModel", "file", "[I", true)
  | 13 => ("LaneMachineModel", "memory", "[I", true)
  | 14 => ("LaneMachineModel", "many", "I", false)
  | 15 => ("LaneMachineModel", "op", "[I", true)
  | 16 => ("LaneMachineModel", "d", "[I", true)
  | 17 => ("LaneMachineModel", "a", "[I", true)
  | 18 => ("LaneMachineModel", "b", "[I", true)
  | 19 => ("LaneMachineModel", "n", "[I", true)
  | 20 => ("LaneMachineModel", "masked", "[Z", true)
  | 21 => ("LaneMachineModel", "queued", "I", false)
  | 22 => ("LaneMachineModel", "which", "[I", true)
  | 23 => ("LaneMachineModel", "wide", "[I", true)
  | 24 => ("LaneMachineModel", "regs", "[I", true)
  | 25 => ("LaneMachineModel", "from", "[I", true)
  | 26 => ("LaneMachineModel", "steps", "[I", true)
  | 27 => ("LaneMachineModel", "done", "[I", true)
  | 28 => ("LaneMachineModel", "before", "[I", true)
  | 29 => ("LaneMachineModel", "xa", "[I", true)
  | _ => ("LaneMachineModel", "xb", "[I", true)
def t_R : Nat → FieldType := fun k => match k with
  | 0 => .int
  | 1 => .int
  | 2 => .int
  | 3 => .int
  | 4 => .int
  | 5 => .int
  | 6 => .int
  | 7 => .int
  | 8 => .int
  | 9 => .int
  | 10 => .int
  | 11 => (.array .int)
  | 12 => (.array .int)
  | 13 => (.array .int)
  | 14 => .int
  | 15 => (.array .int)
  | 16 => (.array .int)
  | 17 => (.array .int)
  | 18 => (.array .int)
  | 19 => (.array .int)
  | 20 => (.array .boolean)
  | 21 => .int
  | 22 => (.array .int)
  | 23 => (.array .int)
  | 24 => (.array .int)
  | 25 => (.array .int)
  | 26 => (.array .int)
  | 27 => (.array .int)
  | 28 => (.array .int)
  | 29 => (.array .int)
  | _ => (.array .int)
theorem nm_R : ∀ a, a < 31 → ∀ b, b < 31 → a ≠ b → (F_R a).2.1 ≠ (F_R b).2.1 := by decide +kernel
theorem ty_R : ∀ k, k < 31 → parseFieldDescriptor (F_R k).2.2.1 = some (t_R k) := by decide +kernel
abbrev kc : List vw_C := [(R_B, F_B, 1), (R_I, F_I, 6), (R_S, F_S, 4), (R_K, F_K, 15), (R_M, F_M, 14), (R_R, F_R, 31)]
theorem kg_0 : Cond.initialized "LaneMachineLaw" ∈ kg_G := kg_i1 0 rfl rfl
theorem kg_1 : Cond.initialized "LaneMachine" ∈ kg_G := kg_i1 1 rfl rfl
theorem kg_2 : Cond.initialized "java/lang/Math" ∈ kg_G := kg_i1 2 rfl rfl
theorem kg_3 : Cond.initialized "LaneMachine$Bytes" ∈ kg_G := kg_i1 3 rfl rfl
theorem kg_4 : Cond.initialized "LaneMachine$Setting" ∈ kg_G := kg_i1 4 rfl rfl
theorem kg_5 : Cond.initialized "LaneMachine$Instruction" ∈ kg_G := kg_i1 5 rfl rfl
theorem kg_6 : Cond.initialized "LaneMachine$Work" ∈ kg_G := kg_i1 6 rfl rfl
theorem kg_7 : Cond.initialized "LaneMachineModel" ∈ kg_G := kg_i1 7 rfl rfl
theorem kg_8 : Cond.initialized "java/lang/Throwable" ∈ kg_G := kg_i1 8 rfl rfl
theorem kg_9 : Cond.initialized "java/lang/Exception" ∈ kg_G := kg_i1 9 rfl rfl
theorem kg_10 : Cond.initialized "java/lang/RuntimeException" ∈ kg_G := kg_i1 10 rfl rfl
theorem kg_11 : Cond.initialized "java/lang/IllegalArgumentException" ∈ kg_G := kg_i1 11 rfl rfl
theorem kg_12 : Cond.initialized "java/lang/IllegalStateException" ∈ kg_G := kg_i1 12 rfl rfl
theorem kg_13 : Cond.classLink "LaneMachineLaw" 8 "LaneMachine" ∈ kg_G := kg_i1 13 rfl rfl
theorem kg_14 : Cond.instantiable "LaneMachine" 14 ∈ kg_G := kg_i1 14 rfl rfl
theorem kg_15 : Cond.methodLink "LaneMachineLaw" 42 y_M_init ∈ kg_G := kg_i1 15 rfl rfl
theorem kg_16 : Cond.instanceMethod y_M_init ∈ kg_G := kg_i1 16 rfl rfl
theorem kg_17 : Cond.code y_M_init prog_1_method_1_code 4 none ∈ kg_G := kg_i1 17 rfl rfl
theorem kg_18 : Cond.methodLink "LaneMachine" 1 y_JO_init ∈ kg_G := kg_i1 18 rfl rfl
theorem kg_19 : Cond.instanceMethod y_JO_init ∈ kg_G := kg_i1 19 rfl rfl
theorem kg_20 : Cond.code y_JO_init object_method_1_code 1 none ∈ kg_G := kg_i1 20 rfl rfl
theorem kg_21 : Cond.methodLink "LaneMachine" 9 y_JM_min ∈ kg_G := kg_i1 21 rfl rfl
theorem kg_22 : Cond.static y_JM_min ∈ kg_G := kg_i1 22 rfl rfl
theorem kg_23 : Cond.code y_JM_min prog_11_method_69_code 2 (some .int) ∈ kg_G := kg_i1 23 rfl rfl
theorem kg_24 : Cond.methodLink "LaneMachine" 15 y_JM_max ∈ kg_G := kg_i1 24 rfl rfl
theorem kg_25 : Cond.static y_JM_max ∈ kg_G := kg_i1 25 rfl rfl
theorem kg_26 : Cond.code y_JM_max prog_11_method_65_code 2 (some .int) ∈ kg_G := kg_i1 26 rfl rfl
theorem kg_27 : Cond.classLink "LaneMachine" 26 "LaneMachine$Bytes" ∈ kg_G := kg_i1 27 rfl rfl
theorem kg_28 : Cond.instantiable "LaneMachine$Bytes" 1 ∈ kg_G := kg_i1 28 rfl rfl
theorem kg_29 : Cond.methodLink "LaneMachine" 28 y_B_init ∈ kg_G := kg_i1 29 rfl rfl
theorem kg_30 : Cond.instanceMethod y_B_init ∈ kg_G := kg_i1 30 rfl rfl
theorem kg_31 : Cond.code y_B_init prog_2_method_1_code 2 none ∈ kg_G := kg_i1 31 rfl rfl
theorem kg_32 : Cond.methodLink "LaneMachine$Bytes" 1 y_JO_init ∈ kg_G := kg_i1 32 rfl rfl
theorem kg_33 : Cond.fieldLink "LaneMachine$Bytes" 7 "LaneMachine$Bytes" "row" "[B" ∈ kg_G := kg_i1 33 rfl rfl
theorem kg_34 : Cond.laysFinal "LaneMachine$Bytes" "LaneMachine$Bytes" "row" "[B" ∈ kg_G := kg_i1 34 rfl rfl
theorem kg_37 : Cond.arrayClass .int ∈ kg_G := kg_i1 37 rfl rfl
theorem kg_38 : Cond.arrayClass .byte ∈ kg_G := kg_i1 38 rfl rfl
theorem kg_39 : Cond.classLink "LaneMachine" 38 "LaneMachine$Setting" ∈ kg_G := kg_i1 39 rfl rfl
theorem kg_40 : Cond.instantiable "LaneMachine$Setting" 4 ∈ kg_G := kg_i1 40 rfl rfl
theorem kg_42 : Cond.instanceMethod y_S_init ∈ kg_G := kg_i1 42 rfl rfl
theorem kg_43 : Cond.code y_S_init prog_4_method_1_code 1 none ∈ kg_G := kg_i1 43 rfl rfl
theorem kg_44 : Cond.methodLink "LaneMachine$Setting" 3 y_JO_init ∈ kg_G := kg_i1 44 rfl rfl
theorem kg_45 : Cond.fieldLink "LaneMachine$Setting" 9 "LaneMachine$Setting" "widthPower" "I" ∈ kg_G := kg_i1 45 rfl rfl
theorem kg_46 : Cond.fieldLink "LaneMachine$Setting" 15 "LaneMachine$Setting" "groupPower" "I" ∈ kg_G := kg_i1 46 rfl rfl
theorem kg_47 : Cond.fieldLink "LaneMachine$Work" 63 "LaneMachine$Setting" "length" "I" ∈ kg_G := kg_i1 47 rfl rfl
theorem kg_48 : Cond.fieldLink "LaneMachine$Setting" 31 "LaneMachine$Setting" "length" "I" ∈ kg_G := kg_i1 48 rfl rfl
theorem kg_49 : Cond.fieldLink "LaneMachine" 123 "LaneMachine$Setting" "length" "I" ∈ kg_G := kg_i1 49 rfl rfl
theorem kg_50 : Cond.fieldLink "LaneMachine$Work" 57 "LaneMachine$Setting" "start" "I" ∈ kg_G := kg_i1 50 rfl rfl
theorem kg_51 : Cond.fieldLink "LaneMachine" 91 "LaneMachine$Setting" "start" "I" ∈ kg_G := kg_i1 51 rfl rfl
theorem kg_52 : Cond.fieldLink "LaneMachine$Setting" 34 "LaneMachine$Setting" "start" "I" ∈ kg_G := kg_i1 52 rfl rfl
theorem kg_53 : Cond.lays "LaneMachine$Setting" "LaneMachine$Setting" "widthPower" "I" ∈ kg_G := kg_i1 53 rfl rfl
theorem kg_55 : Cond.lays "LaneMachine$Setting" "LaneMachine$Setting" "groupPower" "I" ∈ kg_G := kg_i1 55 rfl rfl
theorem kg_57 : Cond.lays "LaneMachine$Setting" "LaneMachine$Setting" "length" "I" ∈ kg_G := kg_i1 57 rfl rfl
theorem kg_59 : Cond.lays "LaneMachine$Setting" "LaneMachine$Setting" "start" "I" ∈ kg_G := kg_i1 59 rfl rfl
theorem kg_62 : Cond.classLink "LaneMachine" 45 "LaneMachine$Instruction" ∈ kg_G := kg_i1 62 rfl rfl
theorem kg_64 : Cond.classLink "LaneMachine" 51 "LaneMachine$Work" ∈ kg_G := kg_i1 64 rfl rfl
theorem kg_66 : Cond.instantiable "LaneMachine$Instruction" 6 ∈ kg_G := kg_i1 66 rfl rfl
theorem kg_67 : Cond.methodLink "LaneMachine" 57 y_I_init ∈ kg_G := kg_i1 67 rfl rfl
theorem kg_68 : Cond.instanceMethod y_I_init ∈ kg_G := kg_i1 68 rfl rfl
theorem kg_69 : Cond.code y_I_init prog_3_method_1_code 7 none ∈ kg_G := kg_i1 69 rfl rfl
theorem kg_70 : Cond.methodLink "LaneMachine$Instruction" 3 y_JO_init ∈ kg_G := kg_i1 70 rfl rfl
theorem kg_71 : Cond.fieldLink "LaneMachine$Instruction" 9 "LaneMachine$Instruction" "op" "I" ∈ kg_G := kg_i1 71 rfl rfl
theorem kg_72 : Cond.fieldLink "LaneMachine$Work" 78 "LaneMachine$Instruction" "op" "I" ∈ kg_G := kg_i1 72 rfl rfl
theorem kg_73 : Cond.fieldLink "LaneMachine$Setting" 56 "LaneMachine$Instruction" "op" "I" ∈ kg_G := kg_i1 73 rfl rfl
theorem kg_74 : Cond.fieldLink "LaneMachine" 186 "LaneMachine$Instruction" "op" "I" ∈ kg_G := kg_i1 74 rfl rfl
theorem kg_75 : Cond.fieldLink "LaneMachine$Instruction" 15 "LaneMachine$Instruction" "d" "I" ∈ kg_G := kg_i1 75 rfl rfl
theorem kg_76 : Cond.fieldLink "LaneMachine$Setting" 65 "LaneMachine$Instruction" "d" "I" ∈ kg_G := kg_i1 76 rfl rfl
theorem kg_77 : Cond.fieldLink "LaneMachine$Work" 123 "LaneMachine$Instruction" "d" "I" ∈ kg_G := kg_i1 77 rfl rfl
theorem kg_78 : Cond.fieldLink "LaneMachine" 189 "LaneMachine$Instruction" "d" "I" ∈ kg_G := kg_i1 78 rfl rfl
theorem kg_79 : Cond.fieldLink "LaneMachine$Instruction" 18 "LaneMachine$Instruction" "a" "I" ∈ kg_G := kg_i1 79 rfl rfl
theorem kg_80 : Cond.fieldLink "LaneMachine$Setting" 75 "LaneMachine$Instruction" "a" "I" ∈ kg_G := kg_i1 80 rfl rfl
theorem kg_81 : Cond.fieldLink "LaneMachine$Work" 106 "LaneMachine$Instruction" "a" "I" ∈ kg_G := kg_i1 81 rfl rfl
theorem kg_82 : Cond.fieldLink "LaneMachine" 199 "LaneMachine$Instruction" "a" "I" ∈ kg_G := kg_i1 82 rfl rfl
theorem kg_83 : Cond.fieldLink "LaneMachine$Instruction" 21 "LaneMachine$Instruction" "b" "I" ∈ kg_G := kg_i1 83 rfl rfl
theorem kg_84 : Cond.fieldLink "LaneMachine$Setting" 81 "LaneMachine$Instruction" "b" "I" ∈ kg_G := kg_i1 84 rfl rfl
theorem kg_85 : Cond.fieldLink "LaneMachine$Work" 120 "LaneMachine$Instruction" "b" "I" ∈ kg_G := kg_i1 85 rfl rfl
theorem kg_86 : Cond.fieldLink "LaneMachine" 206 "LaneMachine$Instruction" "b" "I" ∈ kg_G := kg_i1 86 rfl rfl
theorem kg_87 : Cond.fieldLink "LaneMachine$Instruction" 24 "LaneMachine$Instruction" "n" "I" ∈ kg_G := kg_i1 87 rfl rfl
theorem kg_88 : Cond.fieldLink "LaneMachine" 192 "LaneMachine$Instruction" "n" "I" ∈ kg_G := kg_i1 88 rfl rfl
theorem kg_89 : Cond.fieldLink "LaneMachine$Instruction" 27 "LaneMachine$Instruction" "masked" "Z" ∈ kg_G := kg_i1 89 rfl rfl
theorem kg_90 : Cond.fieldLink "LaneMachine$Setting" 84 "LaneMachine$Instruction" "masked" "Z" ∈ kg_G := kg_i1 90 rfl rfl
theorem kg_91 : Cond.fieldLink "LaneMachine$Work" 126 "LaneMachine$Instruction" "masked" "Z" ∈ kg_G := kg_i1 91 rfl rfl
theorem kg_92 : Cond.fieldLink "LaneMachine" 212 "LaneMachine$Instruction" "masked" "Z" ∈ kg_G := kg_i1 92 rfl rfl
theorem kg_93 : Cond.laysFinal "LaneMachine$Instruction" "LaneMachine$Instruction" "op" "I" ∈ kg_G := kg_i1 93 rfl rfl
theorem kg_95 : Cond.laysFinal "LaneMachine$Instruction" "LaneMachine$Instruction" "d" "I" ∈ kg_G := kg_i1 95 rfl rfl
theorem kg_97 : Cond.laysFinal "LaneMachine$Instruction" "LaneMachine$Instruction" "a" "I" ∈ kg_G := kg_i1 97 rfl rfl
theorem kg_99 : Cond.laysFinal "LaneMachine$Instruction" "LaneMachine$Instruction" "b" "I" ∈ kg_G := kg_i1 99 rfl rfl
theorem kg_101 : Cond.laysFinal "LaneMachine$Instruction" "LaneMachine$Instruction" "n" "I" ∈ kg_G := kg_i1 101 rfl rfl
theorem kg_103 : Cond.laysFinal "LaneMachine$Instruction" "LaneMachine$Instruction" "masked" "Z" ∈ kg_G := kg_i1 103 rfl rfl
theorem kg_106 : Cond.instantiable "LaneMachine$Work" 15 ∈ kg_G := kg_i1 106 rfl rfl
theorem kg_107 : Cond.methodLink "LaneMachine" 60 y_K_init ∈ kg_G := kg_i1 107 rfl rfl
theorem kg_108 : Cond.instanceMethod y_K_init ∈ kg_G := kg_i1 108 rfl rfl
theorem kg_109 : Cond.code y_K_init prog_5_method_1_code 4 none ∈ kg_G := kg_i1 109 rfl rfl
theorem kg_110 : Cond.methodLink "LaneMachine$Work" 3 y_JO_init ∈ kg_G := kg_i1 110 rfl rfl
theorem kg_111 : Cond.fieldLink "LaneMachine$Work" 9 "LaneMachine$Work" "registers" "LLaneMachine$Bytes;" ∈ kg_G := kg_i1 111 rfl rfl
theorem kg_112 : Cond.fieldLink "LaneMachine$Work" 15 "LaneMachine$Work" "cells" "LLaneMachine$Bytes;" ∈ kg_G := kg_i1 112 rfl rfl
theorem kg_113 : Cond.fieldLink "LaneMachine$Work" 18 "LaneMachine$Work" "readsFrom" "[J" ∈ kg_G := kg_i1 113 rfl rfl
theorem kg_114 : Cond.fieldLink "LaneMachine$Work" 22 "LaneMachine$Work" "writesFrom" "[J" ∈ kg_G := kg_i1 114 rfl rfl
theorem kg_115 : Cond.fieldLink "LaneMachine$Work" 45 "LaneMachine$Work" "width" "I" ∈ kg_G := kg_i1 115 rfl rfl
theorem kg_116 : Cond.fieldLink "LaneMachine$Work" 50 "LaneMachine$Work" "group" "I" ∈ kg_G := kg_i1 116 rfl rfl
theorem kg_117 : Cond.fieldLink "LaneMachine$Work" 55 "LaneMachine$Work" "most" "I" ∈ kg_G := kg_i1 117 rfl rfl
theorem kg_118 : Cond.fieldLink "LaneMachine$Work" 33 "LaneMachine$Work" "xa" "I" ∈ kg_G := kg_i1 118 rfl rfl
theorem kg_119 : Cond.fieldLink "LaneMachine$Work" 36 "LaneMachine$Work" "xb" "I" ∈ kg_G := kg_i1 119 rfl rfl
theorem kg_120 : Cond.fieldLink "LaneMachine$Work" 60 "LaneMachine$Work" "from" "I" ∈ kg_G := kg_i1 120 rfl rfl
theorem kg_121 : Cond.fieldLink "LaneMachine$Work" 25 "LaneMachine$Work" "what" "LLaneMachine$Instruction;" ∈ kg_G := kg_i1 121 rfl rfl
theorem kg_122 : Cond.fieldLink "LaneMachine" 140 "LaneMachine$Work" "what" "LLaneMachine$Instruction;" ∈ kg_G := kg_i1 122 rfl rfl
theorem kg_123 : Cond.fieldLink "LaneMachine$Work" 29 "LaneMachine$Work" "number" "I" ∈ kg_G := kg_i1 123 rfl rfl
theorem kg_124 : Cond.fieldLink "LaneMachine" 129 "LaneMachine$Work" "number" "I" ∈ kg_G := kg_i1 124 rfl rfl
theorem kg_125 : Cond.fieldLink "LaneMachine$Work" 66 "LaneMachine$Work" "to" "I" ∈ kg_G := kg_i1 125 rfl rfl
theorem kg_126 : Cond.fieldLink "LaneMachine" 227 "LaneMachine$Work" "to" "I" ∈ kg_G := kg_i1 126 rfl rfl
theorem kg_127 : Cond.fieldLink "LaneMachine$Work" 69 "LaneMachine$Work" "done" "I" ∈ kg_G := kg_i1 127 rfl rfl
theorem kg_128 : Cond.fieldLink "LaneMachine" 134 "LaneMachine$Work" "done" "I" ∈ kg_G := kg_i1 128 rfl rfl
theorem kg_129 : Cond.fieldLink "LaneMachine" 137 "LaneMachine$Work" "doneBefore" "I" ∈ kg_G := kg_i1 129 rfl rfl
theorem kg_130 : Cond.laysFinal "LaneMachine$Work" "LaneMachine$Work" "registers" "LLaneMachine$Bytes;" ∈ kg_G := kg_i1 130 rfl rfl
theorem kg_132 : Cond.laysFinal "LaneMachine$Work" "LaneMachine$Work" "cells" "LLaneMachine$Bytes;" ∈ kg_G := kg_i1 132 rfl rfl
theorem kg_134 : Cond.laysFinal "LaneMachine$Work" "LaneMachine$Work" "readsFrom" "[J" ∈ kg_G := kg_i1 134 rfl rfl
theorem kg_136 : Cond.laysFinal "LaneMachine$Work" "LaneMachine$Work" "writesFrom" "[J" ∈ kg_G := kg_i1 136 rfl rfl
theorem kg_138 : Cond.lays "LaneMachine$Work" "LaneMachine$Work" "width" "I" ∈ kg_G := kg_i1 138 rfl rfl
theorem kg_140 : Cond.lays "LaneMachine$Work" "LaneMachine$Work" "group" "I" ∈ kg_G := kg_i1 140 rfl rfl
theorem kg_142 : Cond.lays "LaneMachine$Work" "LaneMachine$Work" "most" "I" ∈ kg_G := kg_i1 142 rfl rfl
theorem kg_144 : Cond.lays "LaneMachine$Work" "LaneMachine$Work" "xa" "I" ∈ kg_G := kg_i1 144 rfl rfl
theorem kg_146 : Cond.lays "LaneMachine$Work" "LaneMachine$Work" "xb" "I" ∈ kg_G := kg_i1 146 rfl rfl
theorem kg_148 : Cond.lays "LaneMachine$Work" "LaneMachine$Work" "from" "I" ∈ kg_G := kg_i1 148 rfl rfl
theorem kg_150 : Cond.lays "LaneMachine$Work" "LaneMachine$Work" "what" "LLaneMachine$Instruction;" ∈ kg_G := kg_i1 150 rfl rfl
theorem kg_152 : Cond.lays "LaneMachine$Work" "LaneMachine$Work" "number" "I" ∈ kg_G := kg_i1 152 rfl rfl
theorem kg_154 : Cond.lays "LaneMachine$Work" "LaneMachine$Work" "to" "I" ∈ kg_G := kg_i1 154 rfl rfl
theorem kg_156 : Cond.lays "LaneMachine$Work" "LaneMachine$Work" "done" "I" ∈ kg_G := kg_i1 156 rfl rfl
theorem kg_158 : Cond.lays "LaneMachine$Work" "LaneMachine$Work" "doneBefore" "I" ∈ kg_G := kg_i1 158 rfl rfl
theorem kg_161 : Cond.arrayClass .long ∈ kg_G := kg_i1 161 rfl rfl
theorem kg_162 : Cond.fieldLink "LaneMachine" 18 "LaneMachine" "lanes" "I" ∈ kg_G := kg_i1 162 rfl rfl
theorem kg_163 : Cond.fieldLink "LaneMachine" 22 "LaneMachine" "x" "[I" ∈ kg_G := kg_i1 163 rfl rfl
theorem kg_164 : Cond.fieldLink "LaneMachine" 31 "LaneMachine" "registers" "LLaneMachine$Bytes;" ∈ kg_G := kg_i1 164 rfl rfl
theorem kg_165 : Cond.fieldLink "LaneMachine" 35 "LaneMachine" "cells" "LLaneMachine$Bytes;" ∈ kg_G := kg_i1 165 rfl rfl
theorem kg_166 : Cond.fieldLink "LaneMachine" 41 "LaneMachine" "setting" "LLaneMachine$Setting;" ∈ kg_G := kg_i1 166 rfl rfl
theorem kg_167 : Cond.fieldLink "LaneMachine" 47 "LaneMachine" "program" "[LLaneMachine$Instruction;" ∈ kg_G := kg_i1 167 rfl rfl
theorem kg_168 : Cond.fieldLink "LaneMachine" 53 "LaneMachine" "works" "[LLaneMachine$Work;" ∈ kg_G := kg_i1 168 rfl rfl
theorem kg_169 : Cond.fieldLink "LaneMachine" 79 "LaneMachine" "programSize" "I" ∈ kg_G := kg_i1 169 rfl rfl
theorem kg_170 : Cond.fieldLink "LaneMachine" 85 "LaneMachine" "queued" "I" ∈ kg_G := kg_i1 170 rfl rfl
theorem kg_171 : Cond.fieldLink "LaneMachine" 63 "LaneMachine" "state" "I" ∈ kg_G := kg_i1 171 rfl rfl
theorem kg_172 : Cond.fieldLink "LaneMachine" 88 "LaneMachine" "next" "I" ∈ kg_G := kg_i1 172 rfl rfl
theorem kg_173 : Cond.fieldLink "LaneMachine" 66 "LaneMachine" "bound" "I" ∈ kg_G := kg_i1 173 rfl rfl
theorem kg_174 : Cond.fieldLink "LaneMachine" 94 "LaneMachine" "cyclesDone" "I" ∈ kg_G := kg_i1 174 rfl rfl
theorem kg_175 : Cond.fieldLink "LaneMachine" 126 "LaneMachine" "stepsDone" "I" ∈ kg_G := kg_i1 175 rfl rfl
theorem kg_176 : Cond.laysFinal "LaneMachine" "LaneMachine" "lanes" "I" ∈ kg_G := kg_i1 176 rfl rfl
theorem kg_178 : Cond.laysFinal "LaneMachine" "LaneMachine" "x" "[I" ∈ kg_G := kg_i1 178 rfl rfl
theorem kg_180 : Cond.laysFinal "LaneMachine" "LaneMachine" "registers" "LLaneMachine$Bytes;" ∈ kg_G := kg_i1 180 rfl rfl
theorem kg_182 : Cond.laysFinal "LaneMachine" "LaneMachine" "cells" "LLaneMachine$Bytes;" ∈ kg_G := kg_i1 182 rfl rfl
theorem kg_184 : Cond.laysFinal "LaneMachine" "LaneMachine" "setting" "LLaneMachine$Setting;" ∈ kg_G := kg_i1 184 rfl rfl
theorem kg_186 : Cond.laysFinal "LaneMachine" "LaneMachine" "program" "[LLaneMachine$Instruction;" ∈ kg_G := kg_i1 186 rfl rfl
theorem kg_188 : Cond.laysFinal "LaneMachine" "LaneMachine" "works" "[LLaneMachine$Work;" ∈ kg_G := kg_i1 188 rfl rfl
theorem kg_190 : Cond.lays "LaneMachine" "LaneMachine" "programSize" "I" ∈ kg_G := kg_i1 190 rfl rfl
theorem kg_192 : Cond.lays "LaneMachine" "LaneMachine" "queued" "I" ∈ kg_G := kg_i1 192 rfl rfl
theorem kg_194 : Cond.lays "LaneMachine" "LaneMachine" "state" "I" ∈ kg_G := kg_i1 194 rfl rfl
theorem kg_196 : Cond.lays "LaneMachine" "LaneMachine" "next" "I" ∈ kg_G := kg_i1 196 rfl rfl
theorem kg_198 : Cond.lays "LaneMachine" "LaneMachine" "bound" "I" ∈ kg_G := kg_i1 198 rfl rfl
theorem kg_200 : Cond.lays "LaneMachine" "LaneMachine" "cyclesDone" "I" ∈ kg_G := kg_i1 200 rfl rfl
theorem kg_202 : Cond.lays "LaneMachine" "LaneMachine" "stepsDone" "I" ∈ kg_G := kg_i1 202 rfl rfl
theorem kg_205 : Cond.methodLink "LaneMachineLaw" 73 y_M_scalar ∈ kg_G := kg_i1 205 rfl rfl
theorem kg_206 : Cond.instanceMethod y_M_scalar ∈ kg_G := kg_i1 206 rfl rfl
theorem kg_207 : Cond.selects "LaneMachine" y_M_scalar y_M_scalar ∈ kg_G := kg_i1 207 rfl rfl
theorem kg_208 : Cond.code y_M_scalar prog_1_method_8_code 2 (some .int) ∈ kg_G := kg_i1 208 rfl rfl
theorem kg_209 : Cond.methodLink "LaneMachineLaw" 77 y_M_file ∈ kg_G := kg_i1 209 rfl rfl
theorem kg_210 : Cond.instanceMethod y_M_file ∈ kg_G := kg_i1 210 rfl rfl
theorem kg_211 : Cond.selects "LaneMachine" y_M_file y_M_file ∈ kg_G := kg_i1 211 rfl rfl
theorem kg_212 : Cond.code y_M_file prog_1_method_9_code 2 (some .int) ∈ kg_G := kg_i1 212 rfl rfl
theorem kg_213 : Cond.methodLink "LaneMachine" 113 y_B_number ∈ kg_G := kg_i1 213 rfl rfl
theorem kg_214 : Cond.instanceMethod y_B_number ∈ kg_G := kg_i1 214 rfl rfl
theorem kg_215 : Cond.selects "LaneMachine$Bytes" y_B_number y_B_number ∈ kg_G := kg_i1 215 rfl rfl
theorem kg_216 : Cond.code y_B_number prog_2_method_2_code 4 (some .int) ∈ kg_G := kg_i1 216 rfl rfl
theorem kg_217 : Cond.methodLink "LaneMachine$Bytes" 13 y_B_bareNumber ∈ kg_G := kg_i1 217 rfl rfl
theorem kg_218 : Cond.instanceMethod y_B_bareNumber ∈ kg_G := kg_i1 218 rfl rfl
theorem kg_219 : Cond.selects "LaneMachine$Bytes" y_B_bareNumber y_B_bareNumber ∈ kg_G := kg_i1 219 rfl rfl
theorem kg_220 : Cond.code y_B_bareNumber prog_2_method_3_code 5 (some .int) ∈ kg_G := kg_i1 220 rfl rfl
theorem kg_221 : Cond.methodLink "LaneMachineLaw" 81 y_M_memory ∈ kg_G := kg_i1 221 rfl rfl
theorem kg_222 : Cond.instanceMethod y_M_memory ∈ kg_G := kg_i1 222 rfl rfl
theorem kg_223 : Cond.selects "LaneMachine" y_M_memory y_M_memory ∈ kg_G := kg_i1 223 rfl rfl
theorem kg_224 : Cond.code y_M_memory prog_1_method_10_code 2 (some .int) ∈ kg_G := kg_i1 224 rfl rfl
theorem kg_225 : Cond.methodLink "LaneMachineLaw" 85 y_M_about ∈ kg_G := kg_i1 225 rfl rfl
theorem kg_226 : Cond.instanceMethod y_M_about ∈ kg_G := kg_i1 226 rfl rfl
theorem kg_227 : Cond.selects "LaneMachine" y_M_about y_M_about ∈ kg_G := kg_i1 227 rfl rfl
theorem kg_228 : Cond.code y_M_about prog_1_method_11_code 2 (some .int) ∈ kg_G := kg_i1 228 rfl rfl
theorem kg_229 : Cond.methodLink "LaneMachine" 116 y_S_width ∈ kg_G := kg_i1 229 rfl rfl
theorem kg_230 : Cond.instanceMethod y_S_width ∈ kg_G := kg_i1 230 rfl rfl
theorem kg_231 : Cond.selects "LaneMachine$Setting" y_S_width y_S_width ∈ kg_G := kg_i1 231 rfl rfl
theorem kg_232 : Cond.code y_S_width prog_4_method_3_code 1 (some .int) ∈ kg_G := kg_i1 232 rfl rfl
theorem kg_233 : Cond.methodLink "LaneMachine" 120 y_S_group ∈ kg_G := kg_i1 233 rfl rfl
theorem kg_234 : Cond.instanceMethod y_S_group ∈ kg_G := kg_i1 234 rfl rfl
theorem kg_235 : Cond.selects "LaneMachine$Setting" y_S_group y_S_group ∈ kg_G := kg_i1 235 rfl rfl
theorem kg_236 : Cond.code y_S_group prog_4_method_4_code 1 (some .int) ∈ kg_G := kg_i1 236 rfl rfl
theorem kg_237 : Cond.methodLink "LaneMachineLaw" 89 y_M_queue ∈ kg_G := kg_i1 237 rfl rfl
theorem kg_238 : Cond.instanceMethod y_M_queue ∈ kg_G := kg_i1 238 rfl rfl
theorem kg_239 : Cond.selects "LaneMachine" y_M_queue y_M_queue ∈ kg_G := kg_i1 239 rfl rfl
theorem kg_240 : Cond.code y_M_queue prog_1_method_12_code 4 (some .int) ∈ kg_G := kg_i2 0 rfl rfl
theorem kg_241 : Cond.methodLink "LaneMachine" 131 y_K_steps ∈ kg_G := kg_i2 1 rfl rfl
theorem kg_242 : Cond.instanceMethod y_K_steps ∈ kg_G := kg_i2 2 rfl rfl
theorem kg_243 : Cond.selects "LaneMachine$Work" y_K_steps y_K_steps ∈ kg_G := kg_i2 3 rfl rfl
theorem kg_244 : Cond.code y_K_steps prog_5_method_3_code 2 (some .int) ∈ kg_G := kg_i2 4 rfl rfl
theorem kg_245 : Cond.methodLink "LaneMachine$Work" 72 y_JM_max ∈ kg_G := kg_i2 5 rfl rfl
theorem kg_246 : Cond.methodLink "LaneMachine$Work" 83 y_JM_min ∈ kg_G := kg_i2 6 rfl rfl
theorem kg_247 : Cond.methodLink "LaneMachineLaw" 36 y_L_cell ∈ kg_G := kg_i2 7 rfl rfl
theorem kg_248 : Cond.static y_L_cell ∈ kg_G := kg_i2 8 rfl rfl
theorem kg_249 : Cond.code y_L_cell method_2_code 2 (some .int) ∈ kg_G := kg_i2 9 rfl rfl
theorem kg_250 : Cond.methodLink "LaneMachineLaw" 48 y_L_put ∈ kg_G := kg_i2 10 rfl rfl
theorem kg_251 : Cond.static y_L_put ∈ kg_G := kg_i2 11 rfl rfl
theorem kg_252 : Cond.codeWith y_L_put method_3_code 9 (some .int) [(0, 18, 21, 13), (0, 18, 25, 15)] ∈ kg_G := kg_i2 12 rfl rfl
theorem kg_253 : Cond.classLink "LaneMachineLaw" 13 "java/lang/IllegalArgumentException" ∈ kg_G := kg_i2 13 rfl rfl
theorem kg_254 : Cond.classLink "LaneMachineLaw" 15 "java/lang/IllegalStateException" ∈ kg_G := kg_i2 14 rfl rfl
theorem kg_255 : Cond.methodLink "LaneMachineLaw" 7 y_M_put ∈ kg_G := kg_i2 15 rfl rfl
theorem kg_256 : Cond.instanceMethod y_M_put ∈ kg_G := kg_i2 16 rfl rfl
theorem kg_257 : Cond.selects "LaneMachine" y_M_put y_M_put ∈ kg_G := kg_i2 17 rfl rfl
theorem kg_258 : Cond.code y_M_put prog_1_method_2_code 7 (some .int) ∈ kg_G := kg_i2 18 rfl rfl
theorem kg_259 : Cond.methodLink "LaneMachine" 69 y_M_isRegister ∈ kg_G := kg_i2 19 rfl rfl
theorem kg_260 : Cond.static y_M_isRegister ∈ kg_G := kg_i2 20 rfl rfl
theorem kg_261 : Cond.code y_M_isRegister prog_1_method_13_code 1 (some .boolean) ∈ kg_G := kg_i2 21 rfl rfl
theorem kg_262 : Cond.classLink "LaneMachine" 73 "java/lang/IllegalArgumentException" ∈ kg_G := kg_i2 22 rfl rfl
theorem kg_263 : Cond.instantiable "java/lang/IllegalArgumentException" 6 ∈ kg_G := kg_i2 23 rfl rfl
theorem kg_271 : Cond.selects "java/lang/IllegalArgumentException" y_JT_fill1 y_JT_fill1 ∈ kg_G := kg_i2 31 rfl rfl
theorem kg_272 : Cond.selects "java/lang/IllegalArgumentException" y_JT_fill0 y_JT_fill0 ∈ kg_G := kg_i2 32 rfl rfl
theorem kg_273 : Cond.lays "java/lang/IllegalArgumentException" "java/lang/Throwable" "cause" "Ljava/lang/Throwable;" ∈ kg_G := kg_i2 33 rfl rfl
theorem kg_274 : Cond.lays "java/lang/Throwable" "java/lang/Throwable" "cause" "Ljava/lang/Throwable;" ∈ kg_G := kg_i2 34 rfl rfl
theorem kg_275 : Cond.lays "java/lang/IllegalArgumentException" "java/lang/Throwable" "stackTrace" "[Ljava/lang/StackTraceElement;" ∈ kg_G := kg_i2 35 rfl rfl
theorem kg_276 : Cond.lays "java/lang/Throwable" "java/lang/Throwable" "stackTrace" "[Ljava/lang/StackTraceElement;" ∈ kg_G := kg_i2 36 rfl rfl
theorem kg_277 : Cond.lays "java/lang/IllegalArgumentException" "java/lang/Throwable" "suppressedExceptions" "Ljava/util/List;" ∈ kg_G := kg_i2 37 rfl rfl
theorem kg_278 : Cond.lays "java/lang/Throwable" "java/lang/Throwable" "suppressedExceptions" "Ljava/util/List;" ∈ kg_G := kg_i2 38 rfl rfl
theorem kg_279 : Cond.lays "java/lang/IllegalArgumentException" "java/lang/Throwable" "detailMessage" "Ljava/lang/String;" ∈ kg_G := kg_i2 39 rfl rfl
theorem kg_280 : Cond.lays "java/lang/Throwable" "java/lang/Throwable" "detailMessage" "Ljava/lang/String;" ∈ kg_G := kg_i2 40 rfl rfl
theorem kg_281 : Cond.lays "java/lang/IllegalArgumentException" "java/lang/Throwable" "backtrace" "Ljava/lang/Object;" ∈ kg_G := kg_i2 41 rfl rfl
theorem kg_282 : Cond.lays "java/lang/Throwable" "java/lang/Throwable" "backtrace" "Ljava/lang/Object;" ∈ kg_G := kg_i2 42 rfl rfl
theorem kg_283 : Cond.fieldLink "java/lang/Throwable" 198 "java/lang/Throwable" "backtrace" "Ljava/lang/Object;" ∈ kg_G := kg_i2 43 rfl rfl
theorem kg_285 : Cond.instanceMethod y_JT_init ∈ kg_G := kg_i2 45 rfl rfl
theorem kg_286 : Cond.code y_JT_init prog_13_method_1_code 1 none ∈ kg_G := kg_i2 46 rfl rfl
theorem kg_287 : Cond.methodLink "java/lang/Throwable" 1 y_JO_init ∈ kg_G := kg_i2 47 rfl rfl
theorem kg_288 : Cond.fieldLink "java/lang/Throwable" 13 "java/lang/Throwable" "UNASSIGNED_STACK" "[Ljava/lang/StackTraceElement;" ∈ kg_G := kg_i2 48 rfl rfl
theorem kg_290 : Cond.fieldLink "java/lang/Throwable" 20 "java/lang/Throwable" "SUPPRESSED_SENTINEL" "Ljava/util/List;" ∈ kg_G := kg_i2 50 rfl rfl
theorem kg_292 : Cond.methodLink "java/lang/Throwable" 27 y_JT_fill0 ∈ kg_G := kg_i2 52 rfl rfl
theorem kg_293 : Cond.instanceMethod y_JT_fill0 ∈ kg_G := kg_i2 53 rfl rfl
theorem kg_295 : Cond.selects "java/lang/IllegalStateException" y_JT_fill0 y_JT_fill0 ∈ kg_G := kg_i2 55 rfl rfl
theorem kg_297 : Cond.methodLink "java/lang/Throwable" 202 y_JT_fill1 ∈ kg_G := kg_i2 57 rfl rfl
theorem kg_299 : Cond.instanceMethod y_JT_fill1 ∈ kg_G := kg_i2 59 rfl rfl
theorem kg_300 : Cond.instantiable "java/lang/Throwable" 6 ∈ kg_G := kg_i2 60 rfl rfl
theorem kg_302 : Cond.methodLink "LaneMachine" 75 y_JA_init ∈ kg_G := kg_i2 62 rfl rfl
theorem kg_303 : Cond.instanceMethod y_JA_init ∈ kg_G := kg_i2 63 rfl rfl
theorem kg_304 : Cond.code y_JA_init prog_9_method_1_code 1 none ∈ kg_G := kg_i2 64 rfl rfl
theorem kg_305 : Cond.methodLink "java/lang/IllegalArgumentException" 1 y_JR_init ∈ kg_G := kg_i2 65 rfl rfl
theorem kg_306 : Cond.instanceMethod y_JR_init ∈ kg_G := kg_i2 66 rfl rfl
theorem kg_307 : Cond.code y_JR_init prog_12_method_1_code 1 none ∈ kg_G := kg_i2 67 rfl rfl
theorem kg_308 : Cond.methodLink "java/lang/RuntimeException" 1 y_JE_init ∈ kg_G := kg_i2 68 rfl rfl
theorem kg_309 : Cond.instanceMethod y_JE_init ∈ kg_G := kg_i2 69 rfl rfl
theorem kg_310 : Cond.code y_JE_init prog_8_method_1_code 1 none ∈ kg_G := kg_i2 70 rfl rfl
theorem kg_311 : Cond.methodLink "java/lang/Exception" 1 y_JT_init ∈ kg_G := kg_i2 71 rfl rfl
theorem kg_313 : Cond.fieldLink "java/lang/Throwable" 7 "java/lang/Throwable" "cause" "Ljava/lang/Throwable;" ∈ kg_G := kg_i2 73 rfl rfl
theorem kg_314 : Cond.fieldLink "java/lang/Throwable" 17 "java/lang/Throwable" "stackTrace" "[Ljava/lang/StackTraceElement;" ∈ kg_G := kg_i2 74 rfl rfl
theorem kg_315 : Cond.fieldLink "java/lang/Throwable" 24 "java/lang/Throwable" "suppressedExceptions" "Ljava/util/List;" ∈ kg_G := kg_i2 75 rfl rfl
theorem kg_320 : Cond.lays "java/lang/IllegalArgumentException" "java/lang/Throwable" "depth" "I" ∈ kg_G := kg_i2 80 rfl rfl
theorem kg_324 : Cond.methodLink "LaneMachine" 76 y_S_isCode ∈ kg_G := kg_i2 84 rfl rfl
theorem kg_325 : Cond.static y_S_isCode ∈ kg_G := kg_i2 85 rfl rfl
theorem kg_326 : Cond.code y_S_isCode prog_4_method_2_code 1 (some .boolean) ∈ kg_G := kg_i2 86 rfl rfl
theorem kg_327 : Cond.classLink "LaneMachine" 82 "java/lang/IllegalStateException" ∈ kg_G := kg_i2 87 rfl rfl
theorem kg_328 : Cond.instantiable "java/lang/IllegalStateException" 6 ∈ kg_G := kg_i2 88 rfl rfl
theorem kg_330 : Cond.selects "java/lang/IllegalStateException" y_JT_fill1 y_JT_fill1 ∈ kg_G := kg_i2 90 rfl rfl
theorem kg_331 : Cond.lays "java/lang/IllegalStateException" "java/lang/Throwable" "cause" "Ljava/lang/Throwable;" ∈ kg_G := kg_i2 91 rfl rfl
theorem kg_332 : Cond.lays "java/lang/IllegalStateException" "java/lang/Throwable" "stackTrace" "[Ljava/lang/StackTraceElement;" ∈ kg_G := kg_i2 92 rfl rfl
theorem kg_333 : Cond.lays "java/lang/IllegalStateException" "java/lang/Throwable" "suppressedExceptions" "Ljava/util/List;" ∈ kg_G := kg_i2 93 rfl rfl
theorem kg_334 : Cond.lays "java/lang/IllegalStateException" "java/lang/Throwable" "detailMessage" "Ljava/lang/String;" ∈ kg_G := kg_i2 94 rfl rfl
theorem kg_335 : Cond.lays "java/lang/IllegalStateException" "java/lang/Throwable" "backtrace" "Ljava/lang/Object;" ∈ kg_G := kg_i2 95 rfl rfl
theorem kg_336 : Cond.methodLink "LaneMachine" 84 y_JS_init ∈ kg_G := kg_i2 96 rfl rfl
theorem kg_337 : Cond.instanceMethod y_JS_init ∈ kg_G := kg_i2 97 rfl rfl
theorem kg_338 : Cond.code y_JS_init prog_10_method_1_code 1 none ∈ kg_G := kg_i2 98 rfl rfl
theorem kg_339 : Cond.methodLink "java/lang/IllegalStateException" 1 y_JR_init ∈ kg_G := kg_i2 99 rfl rfl
theorem kg_340 : Cond.lays "java/lang/IllegalStateException" "java/lang/Throwable" "depth" "I" ∈ kg_G := kg_i2 100 rfl rfl
theorem kg_342 : Cond.methodLink "LaneMachineLaw" 55 y_L_go ∈ kg_G := kg_i2 102 rfl rfl
theorem kg_343 : Cond.static y_L_go ∈ kg_G := kg_i2 103 rfl rfl
theorem kg_344 : Cond.codeWith y_L_go method_4_code 4 (some .int) [(0, 9, 12, 13), (0, 9, 15, 15)] ∈ kg_G := kg_i2 104 rfl rfl
theorem kg_345 : Cond.methodLink "LaneMachineLaw" 17 y_M_go ∈ kg_G := kg_i2 105 rfl rfl
theorem kg_346 : Cond.instanceMethod y_M_go ∈ kg_G := kg_i2 106 rfl rfl
theorem kg_347 : Cond.selects "LaneMachine" y_M_go y_M_go ∈ kg_G := kg_i2 107 rfl rfl
theorem kg_348 : Cond.code y_M_go prog_1_method_3_code 2 (some .int) ∈ kg_G := kg_i2 108 rfl rfl
theorem kg_349 : Cond.methodLink "LaneMachineLaw" 59 y_L_resume ∈ kg_G := kg_i2 109 rfl rfl
theorem kg_350 : Cond.static y_L_resume ∈ kg_G := kg_i2 110 rfl rfl
theorem kg_351 : Cond.codeWith y_L_resume method_5_code 3 (some .int) [(0, 8, 11, 15)] ∈ kg_G := kg_i2 111 rfl rfl
theorem kg_352 : Cond.methodLink "LaneMachineLaw" 21 y_M_resume ∈ kg_G := kg_i2 112 rfl rfl
theorem kg_353 : Cond.instanceMethod y_M_resume ∈ kg_G := kg_i2 113 rfl rfl
theorem kg_354 : Cond.selects "LaneMachine" y_M_resume y_M_resume ∈ kg_G := kg_i2 114 rfl rfl
theorem kg_355 : Cond.code y_M_resume prog_1_method_4_code 1 (some .int) ∈ kg_G := kg_i2 115 rfl rfl
theorem kg_356 : Cond.methodLink "LaneMachineLaw" 63 y_L_cycles ∈ kg_G := kg_i2 116 rfl rfl
theorem kg_357 : Cond.static y_L_cycles ∈ kg_G := kg_i2 117 rfl rfl
theorem kg_358 : Cond.codeWith y_L_cycles method_6_code 4 (some .int) [(0, 9, 12, 13)] ∈ kg_G := kg_i2 118 rfl rfl
theorem kg_359 : Cond.methodLink "LaneMachineLaw" 25 y_M_cycles ∈ kg_G := kg_i2 119 rfl rfl
theorem kg_360 : Cond.instanceMethod y_M_cycles ∈ kg_G := kg_i2 120 rfl rfl
theorem kg_361 : Cond.selects "LaneMachine" y_M_cycles y_M_cycles ∈ kg_G := kg_i2 121 rfl rfl
theorem kg_362 : Cond.code y_M_cycles prog_1_method_5_code 4 (some .int) ∈ kg_G := kg_i2 122 rfl rfl
theorem kg_363 : Cond.methodLink "LaneMachine" 97 y_M_noteStepsDone ∈ kg_G := kg_i2 123 rfl rfl
theorem kg_365 : Cond.instanceMethod y_M_noteStepsDone ∈ kg_G := kg_i2 125 rfl rfl
theorem kg_366 : Cond.code y_M_noteStepsDone prog_1_method_14_code 2 none ∈ kg_G := kg_i2 126 rfl rfl
theorem kg_367 : Cond.methodLink "LaneMachine" 100 y_M_workUnit ∈ kg_G := kg_i2 127 rfl rfl
theorem kg_369 : Cond.instanceMethod y_M_workUnit ∈ kg_G := kg_i2 129 rfl rfl
theorem kg_370 : Cond.code y_M_workUnit prog_1_method_15_code 9 none ∈ kg_G := kg_i2 130 rfl rfl
theorem kg_371 : Cond.methodLink "LaneMachine" 144 y_I_unit ∈ kg_G := kg_i2 131 rfl rfl
theorem kg_372 : Cond.instanceMethod y_I_unit ∈ kg_G := kg_i2 132 rfl rfl
theorem kg_373 : Cond.selects "LaneMachine$Instruction" y_I_unit y_I_unit ∈ kg_G := kg_i2 133 rfl rfl
theorem kg_374 : Cond.code y_I_unit prog_3_method_4_code 1 (some .int) ∈ kg_G := kg_i2 134 rfl rfl
theorem kg_375 : Cond.methodLink "LaneMachine" 147 y_K_isNextStepFree ∈ kg_G := kg_i2 135 rfl rfl
theorem kg_376 : Cond.instanceMethod y_K_isNextStepFree ∈ kg_G := kg_i2 136 rfl rfl
theorem kg_377 : Cond.selects "LaneMachine$Work" y_K_isNextStepFree y_K_isNextStepFree ∈ kg_G := kg_i2 137 rfl rfl
theorem kg_378 : Cond.code y_K_isNextStepFree prog_5_method_15_code 7 (some .boolean) ∈ kg_G := kg_i2 138 rfl rfl
theorem kg_379 : Cond.methodLink "LaneMachine$Work" 130 y_K_isDone ∈ kg_G := kg_i2 139 rfl rfl
theorem kg_380 : Cond.instanceMethod y_K_isDone ∈ kg_G := kg_i2 140 rfl rfl
theorem kg_381 : Cond.selects "LaneMachine$Work" y_K_isDone y_K_isDone ∈ kg_G := kg_i2 141 rfl rfl
theorem kg_382 : Cond.code y_K_isDone prog_5_method_14_code 1 (some .boolean) ∈ kg_G := kg_i2 142 rfl rfl
theorem kg_383 : Cond.methodLink "LaneMachine$Work" 86 y_K_steps ∈ kg_G := kg_i2 143 rfl rfl
theorem kg_384 : Cond.methodLink "LaneMachine$Work" 93 y_K_writesOf ∈ kg_G := kg_i2 144 rfl rfl
theorem kg_386 : Cond.instanceMethod y_K_writesOf ∈ kg_G := kg_i2 146 rfl rfl
theorem kg_387 : Cond.code y_K_writesOf prog_5_method_13_code 3 (some .long) ∈ kg_G := kg_i2 147 rfl rfl
theorem kg_388 : Cond.methodLink "LaneMachine$Work" 112 y_K_span ∈ kg_G := kg_i2 148 rfl rfl
theorem kg_389 : Cond.static y_K_span ∈ kg_G := kg_i2 149 rfl rfl
theorem kg_390 : Cond.code y_K_span prog_5_method_7_code 2 (some .long) ∈ kg_G := kg_i2 150 rfl rfl
theorem kg_391 : Cond.methodLink "LaneMachine$Work" 109 y_K_placeOf ∈ kg_G := kg_i2 151 rfl rfl
theorem kg_393 : Cond.instanceMethod y_K_placeOf ∈ kg_G := kg_i2 153 rfl rfl
theorem kg_394 : Cond.code y_K_placeOf prog_5_method_8_code 3 (some .int) ∈ kg_G := kg_i2 154 rfl rfl
theorem kg_395 : Cond.methodLink "LaneMachine$Work" 89 y_K_readsOf ∈ kg_G := kg_i2 155 rfl rfl
theorem kg_397 : Cond.instanceMethod y_K_readsOf ∈ kg_G := kg_i2 157 rfl rfl
theorem kg_398 : Cond.code y_K_readsOf prog_5_method_9_code 3 (some .long) ∈ kg_G := kg_i2 158 rfl rfl
theorem kg_399 : Cond.methodLink "LaneMachine$Work" 96 y_K_readsOfSum ∈ kg_G := kg_i2 159 rfl rfl
theorem kg_401 : Cond.instanceMethod y_K_readsOfSum ∈ kg_G := kg_i2 161 rfl rfl
theorem kg_402 : Cond.code y_K_readsOfSum prog_5_method_11_code 4 (some .long) ∈ kg_G := kg_i2 162 rfl rfl
theorem kg_403 : Cond.methodLink "LaneMachine$Work" 100 y_K_maskByte ∈ kg_G := kg_i2 163 rfl rfl
theorem kg_405 : Cond.instanceMethod y_K_maskByte ∈ kg_G := kg_i2 165 rfl rfl
theorem kg_406 : Cond.code y_K_maskByte prog_5_method_12_code 2 (some .long) ∈ kg_G := kg_i2 166 rfl rfl
theorem kg_407 : Cond.methodLink "LaneMachine$Work" 103 y_K_sourcesOf ∈ kg_G := kg_i2 167 rfl rfl
theorem kg_409 : Cond.instanceMethod y_K_sourcesOf ∈ kg_G := kg_i2 169 rfl rfl
theorem kg_410 : Cond.code y_K_sourcesOf prog_5_method_10_code 2 (some .long) ∈ kg_G := kg_i2 170 rfl rfl
theorem kg_411 : Cond.methodLink "LaneMachine$Work" 116 y_K_isInGroup ∈ kg_G := kg_i2 171 rfl rfl
theorem kg_413 : Cond.instanceMethod y_K_isInGroup ∈ kg_G := kg_i2 173 rfl rfl
theorem kg_414 : Cond.code y_K_isInGroup prog_5_method_23_code 2 (some .boolean) ∈ kg_G := kg_i2 174 rfl rfl
theorem kg_415 : Cond.methodLink "LaneMachine" 151 y_K_doNextStep ∈ kg_G := kg_i2 175 rfl rfl
theorem kg_416 : Cond.instanceMethod y_K_doNextStep ∈ kg_G := kg_i2 176 rfl rfl
theorem kg_417 : Cond.selects "LaneMachine$Work" y_K_doNextStep y_K_doNextStep ∈ kg_G := kg_i2 177 rfl rfl
theorem kg_418 : Cond.code y_K_doNextStep prog_5_method_16_code 2 none ∈ kg_G := kg_i2 178 rfl rfl
theorem kg_419 : Cond.methodLink "LaneMachine$Work" 134 y_K_isWorkedOn ∈ kg_G := kg_i2 179 rfl rfl
theorem kg_421 : Cond.instanceMethod y_K_isWorkedOn ∈ kg_G := kg_i2 181 rfl rfl
theorem kg_422 : Cond.code y_K_isWorkedOn prog_5_method_17_code 2 (some .boolean) ∈ kg_G := kg_i2 182 rfl rfl
theorem kg_423 : Cond.methodLink "LaneMachine$Work" 160 y_B_bareNumber ∈ kg_G := kg_i2 183 rfl rfl
theorem kg_424 : Cond.methodLink "LaneMachine$Work" 137 y_K_writeSum ∈ kg_G := kg_i2 184 rfl rfl
theorem kg_426 : Cond.instanceMethod y_K_writeSum ∈ kg_G := kg_i2 186 rfl rfl
theorem kg_427 : Cond.code y_K_writeSum prog_5_method_18_code 4 none ∈ kg_G := kg_i2 187 rfl rfl
theorem kg_428 : Cond.methodLink "LaneMachine$Work" 140 y_K_element ∈ kg_G := kg_i2 188 rfl rfl
theorem kg_430 : Cond.instanceMethod y_K_element ∈ kg_G := kg_i2 190 rfl rfl
theorem kg_431 : Cond.code y_K_element prog_5_method_21_code 3 (some .int) ∈ kg_G := kg_i2 191 rfl rfl
theorem kg_432 : Cond.methodLink "LaneMachine$Work" 166 y_B_number ∈ kg_G := kg_i2 192 rfl rfl
theorem kg_433 : Cond.methodLink "LaneMachine$Work" 151 y_B_write ∈ kg_G := kg_i2 193 rfl rfl
theorem kg_434 : Cond.instanceMethod y_B_write ∈ kg_G := kg_i2 194 rfl rfl
theorem kg_435 : Cond.selects "LaneMachine$Bytes" y_B_write y_B_write ∈ kg_G := kg_i2 195 rfl rfl
theorem kg_436 : Cond.code y_B_write prog_2_method_4_code 5 none ∈ kg_G := kg_i2 196 rfl rfl
theorem kg_437 : Cond.methodLink "LaneMachine$Work" 143 y_K_writeMaskBit ∈ kg_G := kg_i2 197 rfl rfl
theorem kg_439 : Cond.instanceMethod y_K_writeMaskBit ∈ kg_G := kg_i2 199 rfl rfl
theorem kg_440 : Cond.code y_K_writeMaskBit prog_5_method_19_code 6 none ∈ kg_G := kg_i2 200 rfl rfl
theorem kg_441 : Cond.methodLink "LaneMachine$Work" 147 y_K_result ∈ kg_G := kg_i2 201 rfl rfl
theorem kg_443 : Cond.instanceMethod y_K_result ∈ kg_G := kg_i2 203 rfl rfl
theorem kg_444 : Cond.code y_K_result prog_5_method_20_code 2 (some .int) ∈ kg_G := kg_i2 204 rfl rfl
theorem kg_445 : Cond.methodLink "LaneMachine$Work" 163 y_K_elementOrZero ∈ kg_G := kg_i2 205 rfl rfl
theorem kg_447 : Cond.instanceMethod y_K_elementOrZero ∈ kg_G := kg_i2 207 rfl rfl
theorem kg_448 : Cond.code y_K_elementOrZero prog_5_method_22_code 3 (some .int) ∈ kg_G := kg_i2 208 rfl rfl
theorem kg_449 : Cond.methodLink "LaneMachine$Work" 157 y_K_placeInMemory ∈ kg_G := kg_i2 209 rfl rfl
theorem kg_451 : Cond.instanceMethod y_K_placeInMemory ∈ kg_G := kg_i2 211 rfl rfl
theorem kg_452 : Cond.code y_K_placeInMemory prog_5_method_24_code 2 (some .int) ∈ kg_G := kg_i2 212 rfl rfl
theorem kg_453 : Cond.methodLink "LaneMachine" 154 y_K_readsFromStep ∈ kg_G := kg_i2 213 rfl rfl
theorem kg_454 : Cond.instanceMethod y_K_readsFromStep ∈ kg_G := kg_i2 214 rfl rfl
theorem kg_455 : Cond.selects "LaneMachine$Work" y_K_readsFromStep y_K_readsFromStep ∈ kg_G := kg_i2 215 rfl rfl
theorem kg_456 : Cond.code y_K_readsFromStep prog_5_method_5_code 2 (some .long) ∈ kg_G := kg_i2 216 rfl rfl
theorem kg_457 : Cond.methodLink "LaneMachine" 158 y_K_writesFromStep ∈ kg_G := kg_i2 217 rfl rfl
theorem kg_458 : Cond.instanceMethod y_K_writesFromStep ∈ kg_G := kg_i2 218 rfl rfl
theorem kg_459 : Cond.selects "LaneMachine$Work" y_K_writesFromStep y_K_writesFromStep ∈ kg_G := kg_i2 219 rfl rfl
theorem kg_460 : Cond.code y_K_writesFromStep prog_5_method_6_code 2 (some .long) ∈ kg_G := kg_i2 220 rfl rfl
theorem kg_461 : Cond.methodLink "LaneMachine" 103 y_M_dropFinished ∈ kg_G := kg_i2 221 rfl rfl
theorem kg_463 : Cond.instanceMethod y_M_dropFinished ∈ kg_G := kg_i2 223 rfl rfl
theorem kg_464 : Cond.code y_M_dropFinished prog_1_method_16_code 4 none ∈ kg_G := kg_i2 224 rfl rfl
theorem kg_465 : Cond.methodLink "LaneMachine" 161 y_K_isDone ∈ kg_G := kg_i2 225 rfl rfl
theorem kg_466 : Cond.methodLink "LaneMachine" 106 y_M_advance ∈ kg_G := kg_i2 226 rfl rfl
theorem kg_468 : Cond.instanceMethod y_M_advance ∈ kg_G := kg_i2 228 rfl rfl
theorem kg_469 : Cond.code y_M_advance prog_1_method_17_code 2 none ∈ kg_G := kg_i2 229 rfl rfl
theorem kg_470 : Cond.methodLink "LaneMachine" 165 y_S_forbids ∈ kg_G := kg_i2 230 rfl rfl
theorem kg_471 : Cond.instanceMethod y_S_forbids ∈ kg_G := kg_i2 231 rfl rfl
theorem kg_472 : Cond.selects "LaneMachine$Setting" y_S_forbids y_S_forbids ∈ kg_G := kg_i2 232 rfl rfl
theorem kg_473 : Cond.code y_S_forbids prog_4_method_7_code 2 (some .boolean) ∈ kg_G := kg_i2 233 rfl rfl
theorem kg_474 : Cond.methodLink "LaneMachine$Setting" 37 y_I_isVector ∈ kg_G := kg_i2 234 rfl rfl
theorem kg_475 : Cond.instanceMethod y_I_isVector ∈ kg_G := kg_i2 235 rfl rfl
theorem kg_476 : Cond.selects "LaneMachine$Instruction" y_I_isVector y_I_isVector ∈ kg_G := kg_i2 236 rfl rfl
theorem kg_477 : Cond.code y_I_isVector prog_3_method_2_code 1 (some .boolean) ∈ kg_G := kg_i2 237 rfl rfl
theorem kg_478 : Cond.methodLink "LaneMachine$Setting" 43 y_S_isMisplaced ∈ kg_G := kg_i2 238 rfl rfl
theorem kg_480 : Cond.instanceMethod y_S_isMisplaced ∈ kg_G := kg_i3 0 rfl rfl
theorem kg_481 : Cond.code y_S_isMisplaced prog_4_method_8_code 3 (some .boolean) ∈ kg_G := kg_i3 1 rfl rfl
theorem kg_482 : Cond.methodLink "LaneMachine$Setting" 59 y_S_group ∈ kg_G := kg_i3 2 rfl rfl
theorem kg_483 : Cond.methodLink "LaneMachine$Setting" 62 y_I_hasGroupAtD ∈ kg_G := kg_i3 3 rfl rfl
theorem kg_484 : Cond.instanceMethod y_I_hasGroupAtD ∈ kg_G := kg_i3 4 rfl rfl
theorem kg_485 : Cond.selects "LaneMachine$Instruction" y_I_hasGroupAtD y_I_hasGroupAtD ∈ kg_G := kg_i3 5 rfl rfl
theorem kg_486 : Cond.code y_I_hasGroupAtD prog_3_method_5_code 1 (some .boolean) ∈ kg_G := kg_i3 6 rfl rfl
theorem kg_487 : Cond.methodLink "LaneMachine$Setting" 68 y_S_isMultiple ∈ kg_G := kg_i3 7 rfl rfl
theorem kg_488 : Cond.static y_S_isMultiple ∈ kg_G := kg_i3 8 rfl rfl
theorem kg_489 : Cond.code y_S_isMultiple prog_4_method_9_code 2 (some .boolean) ∈ kg_G := kg_i3 9 rfl rfl
theorem kg_490 : Cond.methodLink "LaneMachine$Setting" 72 y_I_hasGroupAtA ∈ kg_G := kg_i3 10 rfl rfl
theorem kg_491 : Cond.instanceMethod y_I_hasGroupAtA ∈ kg_G := kg_i3 11 rfl rfl
theorem kg_492 : Cond.selects "LaneMachine$Instruction" y_I_hasGroupAtA y_I_hasGroupAtA ∈ kg_G := kg_i3 12 rfl rfl
theorem kg_493 : Cond.code y_I_hasGroupAtA prog_3_method_6_code 1 (some .boolean) ∈ kg_G := kg_i3 13 rfl rfl
theorem kg_494 : Cond.methodLink "LaneMachine$Setting" 78 y_I_hasGroupAtB ∈ kg_G := kg_i3 14 rfl rfl
theorem kg_495 : Cond.instanceMethod y_I_hasGroupAtB ∈ kg_G := kg_i3 15 rfl rfl
theorem kg_496 : Cond.selects "LaneMachine$Instruction" y_I_hasGroupAtB y_I_hasGroupAtB ∈ kg_G := kg_i3 16 rfl rfl
theorem kg_497 : Cond.code y_I_hasGroupAtB prog_3_method_7_code 1 (some .boolean) ∈ kg_G := kg_i3 17 rfl rfl
theorem kg_498 : Cond.methodLink "LaneMachine$Setting" 47 y_S_spoilsMask ∈ kg_G := kg_i3 18 rfl rfl
theorem kg_499 : Cond.static y_S_spoilsMask ∈ kg_G := kg_i3 19 rfl rfl
theorem kg_500 : Cond.code y_S_spoilsMask prog_4_method_10_code 1 (some .boolean) ∈ kg_G := kg_i3 20 rfl rfl
theorem kg_501 : Cond.methodLink "LaneMachine$Setting" 50 y_S_spoilsSources ∈ kg_G := kg_i3 21 rfl rfl
theorem kg_503 : Cond.instanceMethod y_S_spoilsSources ∈ kg_G := kg_i3 23 rfl rfl
theorem kg_504 : Cond.code y_S_spoilsSources prog_4_method_11_code 2 (some .boolean) ∈ kg_G := kg_i3 24 rfl rfl
theorem kg_505 : Cond.methodLink "LaneMachine$Setting" 88 y_S_isInWideGroup ∈ kg_G := kg_i3 25 rfl rfl
theorem kg_507 : Cond.instanceMethod y_S_isInWideGroup ∈ kg_G := kg_i3 27 rfl rfl
theorem kg_508 : Cond.code y_S_isInWideGroup prog_4_method_12_code 3 (some .boolean) ∈ kg_G := kg_i3 28 rfl rfl
theorem kg_509 : Cond.methodLink "LaneMachine$Setting" 53 y_S_isTooWide ∈ kg_G := kg_i3 29 rfl rfl
theorem kg_511 : Cond.instanceMethod y_S_isTooWide ∈ kg_G := kg_i3 31 rfl rfl
theorem kg_512 : Cond.code y_S_isTooWide prog_4_method_13_code 2 (some .boolean) ∈ kg_G := kg_i3 32 rfl rfl
theorem kg_513 : Cond.methodLink "LaneMachine$Setting" 91 y_S_width ∈ kg_G := kg_i3 33 rfl rfl
theorem kg_514 : Cond.methodLink "LaneMachine" 169 y_I_isVector ∈ kg_G := kg_i3 34 rfl rfl
theorem kg_515 : Cond.methodLink "LaneMachine" 172 y_M_mustWaitForQueue ∈ kg_G := kg_i3 35 rfl rfl
theorem kg_517 : Cond.instanceMethod y_M_mustWaitForQueue ∈ kg_G := kg_i3 37 rfl rfl
theorem kg_518 : Cond.code y_M_mustWaitForQueue prog_1_method_20_code 6 (some .boolean) ∈ kg_G := kg_i3 38 rfl rfl
theorem kg_519 : Cond.methodLink "LaneMachine" 216 y_K_span ∈ kg_G := kg_i3 39 rfl rfl
theorem kg_520 : Cond.methodLink "LaneMachine" 175 y_M_handOut ∈ kg_G := kg_i3 40 rfl rfl
theorem kg_522 : Cond.instanceMethod y_M_handOut ∈ kg_G := kg_i3 42 rfl rfl
theorem kg_523 : Cond.code y_M_handOut prog_1_method_21_code 4 none ∈ kg_G := kg_i3 43 rfl rfl
theorem kg_524 : Cond.methodLink "LaneMachine" 202 y_M_scalar ∈ kg_G := kg_i3 44 rfl rfl
theorem kg_525 : Cond.methodLink "LaneMachine" 220 y_K_take ∈ kg_G := kg_i3 45 rfl rfl
theorem kg_526 : Cond.instanceMethod y_K_take ∈ kg_G := kg_i3 46 rfl rfl
theorem kg_527 : Cond.selects "LaneMachine$Work" y_K_take y_K_take ∈ kg_G := kg_i3 47 rfl rfl
theorem kg_528 : Cond.code y_K_take prog_5_method_2_code 6 none ∈ kg_G := kg_i3 48 rfl rfl
theorem kg_529 : Cond.methodLink "LaneMachine$Work" 39 y_S_width ∈ kg_G := kg_i3 49 rfl rfl
theorem kg_530 : Cond.methodLink "LaneMachine$Work" 47 y_S_group ∈ kg_G := kg_i3 50 rfl rfl
theorem kg_531 : Cond.methodLink "LaneMachine$Work" 52 y_S_most ∈ kg_G := kg_i3 51 rfl rfl
theorem kg_532 : Cond.instanceMethod y_S_most ∈ kg_G := kg_i3 52 rfl rfl
theorem kg_533 : Cond.selects "LaneMachine$Setting" y_S_most y_S_most ∈ kg_G := kg_i3 53 rfl rfl
theorem kg_534 : Cond.code y_S_most prog_4_method_5_code 1 (some .int) ∈ kg_G := kg_i3 54 rfl rfl
theorem kg_535 : Cond.methodLink "LaneMachine" 224 y_K_firstBad ∈ kg_G := kg_i3 55 rfl rfl
theorem kg_536 : Cond.instanceMethod y_K_firstBad ∈ kg_G := kg_i3 56 rfl rfl
theorem kg_537 : Cond.selects "LaneMachine$Work" y_K_firstBad y_K_firstBad ∈ kg_G := kg_i3 57 rfl rfl
theorem kg_538 : Cond.code y_K_firstBad prog_5_method_25_code 4 (some .int) ∈ kg_G := kg_i3 58 rfl rfl
theorem kg_539 : Cond.methodLink "LaneMachine" 230 y_K_foresee ∈ kg_G := kg_i3 59 rfl rfl
theorem kg_540 : Cond.instanceMethod y_K_foresee ∈ kg_G := kg_i3 60 rfl rfl
theorem kg_541 : Cond.selects "LaneMachine$Work" y_K_foresee y_K_foresee ∈ kg_G := kg_i3 61 rfl rfl
theorem kg_542 : Cond.code y_K_foresee prog_5_method_4_code 7 none ∈ kg_G := kg_i3 62 rfl rfl
theorem kg_543 : Cond.methodLink "LaneMachine" 179 y_I_needsEmptyQueue ∈ kg_G := kg_i3 63 rfl rfl
theorem kg_544 : Cond.instanceMethod y_I_needsEmptyQueue ∈ kg_G := kg_i3 64 rfl rfl
theorem kg_545 : Cond.selects "LaneMachine$Instruction" y_I_needsEmptyQueue y_I_needsEmptyQueue ∈ kg_G := kg_i3 65 rfl rfl
theorem kg_546 : Cond.code y_I_needsEmptyQueue prog_3_method_3_code 1 (some .boolean) ∈ kg_G := kg_i3 66 rfl rfl
theorem kg_547 : Cond.methodLink "LaneMachine" 182 y_M_doScalar ∈ kg_G := kg_i3 67 rfl rfl
theorem kg_549 : Cond.instanceMethod y_M_doScalar ∈ kg_G := kg_i3 69 rfl rfl
theorem kg_550 : Cond.code y_M_doScalar prog_1_method_18_code 3 none ∈ kg_G := kg_i3 70 rfl rfl
theorem kg_551 : Cond.methodLink "LaneMachine" 195 y_M_setScalar ∈ kg_G := kg_i3 71 rfl rfl
theorem kg_553 : Cond.instanceMethod y_M_setScalar ∈ kg_G := kg_i3 73 rfl rfl
theorem kg_554 : Cond.code y_M_setScalar prog_1_method_19_code 3 none ∈ kg_G := kg_i3 74 rfl rfl
theorem kg_555 : Cond.methodLink "LaneMachine" 209 y_S_configure ∈ kg_G := kg_i3 75 rfl rfl
theorem kg_556 : Cond.instanceMethod y_S_configure ∈ kg_G := kg_i3 76 rfl rfl
theorem kg_557 : Cond.selects "LaneMachine$Setting" y_S_configure y_S_configure ∈ kg_G := kg_i3 77 rfl rfl
theorem kg_558 : Cond.code y_S_configure prog_4_method_6_code 3 none ∈ kg_G := kg_i3 78 rfl rfl
theorem kg_559 : Cond.methodLink "LaneMachine$Setting" 18 y_S_most ∈ kg_G := kg_i3 79 rfl rfl
theorem kg_560 : Cond.methodLink "LaneMachine$Setting" 22 y_JM_min ∈ kg_G := kg_i3 80 rfl rfl
theorem kg_561 : Cond.methodLink "LaneMachine$Setting" 28 y_JM_max ∈ kg_G := kg_i3 81 rfl rfl
theorem kg_562 : Cond.methodLink "LaneMachineLaw" 66 y_L_poke ∈ kg_G := kg_i3 82 rfl rfl
theorem kg_563 : Cond.static y_L_poke ∈ kg_G := kg_i3 83 rfl rfl
theorem kg_564 : Cond.codeWith y_L_poke method_7_code 5 (some .int) [(0, 17, 20, 13)] ∈ kg_G := kg_i3 84 rfl rfl
theorem kg_565 : Cond.methodLink "LaneMachineLaw" 28 y_M_poke ∈ kg_G := kg_i3 85 rfl rfl
theorem kg_566 : Cond.instanceMethod y_M_poke ∈ kg_G := kg_i3 86 rfl rfl
theorem kg_567 : Cond.selects "LaneMachine" y_M_poke y_M_poke ∈ kg_G := kg_i3 87 rfl rfl
theorem kg_568 : Cond.code y_M_poke prog_1_method_6_code 3 (some .boolean) ∈ kg_G := kg_i3 88 rfl rfl
theorem kg_569 : Cond.methodLink "LaneMachine" 109 y_B_write ∈ kg_G := kg_i3 89 rfl rfl
theorem kg_570 : Cond.methodLink "LaneMachineLaw" 70 y_L_limit ∈ kg_G := kg_i3 90 rfl rfl
theorem kg_571 : Cond.static y_L_limit ∈ kg_G := kg_i3 91 rfl rfl
theorem kg_572 : Cond.codeWith y_L_limit method_8_code 4 (some .int) [(0, 16, 19, 13), (0, 16, 22, 15)] ∈ kg_G := kg_i3 92 rfl rfl
theorem kg_573 : Cond.methodLink "LaneMachineLaw" 32 y_M_limit ∈ kg_G := kg_i3 93 rfl rfl
theorem kg_574 : Cond.instanceMethod y_M_limit ∈ kg_G := kg_i3 94 rfl rfl
theorem kg_575 : Cond.selects "LaneMachine" y_M_limit y_M_limit ∈ kg_G := kg_i3 95 rfl rfl
theorem kg_576 : Cond.code y_M_limit prog_1_method_7_code 2 (some .boolean) ∈ kg_G := kg_i3 96 rfl rfl
theorem kg_577 : Cond.classLink "LaneMachineLaw" 45 "LaneMachineModel" ∈ kg_G := kg_i3 97 rfl rfl
theorem kg_578 : Cond.instantiable "LaneMachineModel" 31 ∈ kg_G := kg_i3 98 rfl rfl
theorem kg_579 : Cond.methodLink "LaneMachineLaw" 47 y_R_init ∈ kg_G := kg_i3 99 rfl rfl
theorem kg_580 : Cond.instanceMethod y_R_init ∈ kg_G := kg_i3 100 rfl rfl
theorem kg_581 : Cond.code y_R_init prog_7_method_1_code 2 none ∈ kg_G := kg_i3 101 rfl rfl
theorem kg_582 : Cond.methodLink "LaneMachineModel" 1 y_JO_init ∈ kg_G := kg_i3 102 rfl rfl
theorem kg_583 : Cond.fieldLink "LaneMachineModel" 78 "LaneMachineModel" "lanes" "I" ∈ kg_G := kg_i3 103 rfl rfl
theorem kg_584 : Cond.fieldLink "LaneMachineModel" 81 "LaneMachineModel" "threw" "I" ∈ kg_G := kg_i3 104 rfl rfl
theorem kg_585 : Cond.fieldLink "LaneMachineModel" 9 "LaneMachineModel" "state" "I" ∈ kg_G := kg_i3 105 rfl rfl
theorem kg_586 : Cond.fieldLink "LaneMachineModel" 170 "LaneMachineModel" "next" "I" ∈ kg_G := kg_i3 106 rfl rfl
theorem kg_587 : Cond.fieldLink "LaneMachineModel" 13 "LaneMachineModel" "width" "I" ∈ kg_G := kg_i3 107 rfl rfl
theorem kg_588 : Cond.fieldLink "LaneMachineModel" 16 "LaneMachineModel" "group" "I" ∈ kg_G := kg_i3 108 rfl rfl
theorem kg_589 : Cond.fieldLink "LaneMachineModel" 161 "LaneMachineModel" "vl" "I" ∈ kg_G := kg_i3 109 rfl rfl
theorem kg_590 : Cond.fieldLink "LaneMachineModel" 167 "LaneMachineModel" "start" "I" ∈ kg_G := kg_i3 110 rfl rfl
theorem kg_591 : Cond.fieldLink "LaneMachineModel" 19 "LaneMachineModel" "bound" "I" ∈ kg_G := kg_i3 111 rfl rfl
theorem kg_592 : Cond.fieldLink "LaneMachineModel" 195 "LaneMachineModel" "cycles" "I" ∈ kg_G := kg_i3 112 rfl rfl
theorem kg_593 : Cond.fieldLink "LaneMachineModel" 129 "LaneMachineModel" "stepsDone" "I" ∈ kg_G := kg_i3 113 rfl rfl
theorem kg_594 : Cond.fieldLink "LaneMachineModel" 22 "LaneMachineModel" "x" "[I" ∈ kg_G := kg_i3 114 rfl rfl
theorem kg_595 : Cond.fieldLink "LaneMachineModel" 26 "LaneMachineModel" "file" "[I" ∈ kg_G := kg_i3 115 rfl rfl
theorem kg_596 : Cond.fieldLink "LaneMachineModel" 29 "LaneMachineModel" "memory" "[I" ∈ kg_G := kg_i3 116 rfl rfl
theorem kg_597 : Cond.fieldLink "LaneMachineModel" 179 "LaneMachineModel" "many" "I" ∈ kg_G := kg_i3 117 rfl rfl
theorem kg_598 : Cond.fieldLink "LaneMachineModel" 32 "LaneMachineModel" "op" "[I" ∈ kg_G := kg_i3 118 rfl rfl
theorem kg_599 : Cond.fieldLink "LaneMachineModel" 35 "LaneMachineModel" "d" "[I" ∈ kg_G := kg_i3 119 rfl rfl
theorem kg_600 : Cond.fieldLink "LaneMachineModel" 38 "LaneMachineModel" "a" "[I" ∈ kg_G := kg_i3 120 rfl rfl
theorem kg_601 : Cond.fieldLink "LaneMachineModel" 41 "LaneMachineModel" "b" "[I" ∈ kg_G := kg_i3 121 rfl rfl
theorem kg_602 : Cond.fieldLink "LaneMachineModel" 44 "LaneMachineModel" "n" "[I" ∈ kg_G := kg_i3 122 rfl rfl
theorem kg_603 : Cond.fieldLink "LaneMachineModel" 47 "LaneMachineModel" "masked" "[Z" ∈ kg_G := kg_i3 123 rfl rfl
theorem kg_604 : Cond.fieldLink "LaneMachineModel" 146 "LaneMachineModel" "queued" "I" ∈ kg_G := kg_i3 124 rfl rfl
theorem kg_605 : Cond.fieldLink "LaneMachineModel" 51 "LaneMachineModel" "which" "[I" ∈ kg_G := kg_i3 125 rfl rfl
theorem kg_606 : Cond.fieldLink "LaneMachineModel" 54 "LaneMachineModel" "wide" "[I" ∈ kg_G := kg_i3 126 rfl rfl
theorem kg_607 : Cond.fieldLink "LaneMachineModel" 57 "LaneMachineModel" "regs" "[I" ∈ kg_G := kg_i3 127 rfl rfl
theorem kg_608 : Cond.fieldLink "LaneMachineModel" 60 "LaneMachineModel" "from" "[I" ∈ kg_G := kg_i3 128 rfl rfl
theorem kg_609 : Cond.fieldLink "LaneMachineModel" 63 "LaneMachineModel" "steps" "[I" ∈ kg_G := kg_i3 129 rfl rfl
theorem kg_610 : Cond.fieldLink "LaneMachineModel" 66 "LaneMachineModel" "done" "[I" ∈ kg_G := kg_i3 130 rfl rfl
theorem kg_611 : Cond.fieldLink "LaneMachineModel" 69 "LaneMachineModel" "before" "[I" ∈ kg_G := kg_i3 131 rfl rfl
theorem kg_612 : Cond.fieldLink "LaneMachineModel" 72 "LaneMachineModel" "xa" "[I" ∈ kg_G := kg_i3 132 rfl rfl
theorem kg_613 : Cond.fieldLink "LaneMachineModel" 75 "LaneMachineModel" "xb" "[I" ∈ kg_G := kg_i3 133 rfl rfl
theorem kg_614 : Cond.laysFinal "LaneMachineModel" "LaneMachineModel" "lanes" "I" ∈ kg_G := kg_i3 134 rfl rfl
theorem kg_616 : Cond.lays "LaneMachineModel" "LaneMachineModel" "threw" "I" ∈ kg_G := kg_i3 136 rfl rfl
theorem kg_618 : Cond.lays "LaneMachineModel" "LaneMachineModel" "state" "I" ∈ kg_G := kg_i3 138 rfl rfl
theorem kg_620 : Cond.lays "LaneMachineModel" "LaneMachineModel" "next" "I" ∈ kg_G := kg_i3 140 rfl rfl
theorem kg_622 : Cond.lays "LaneMachineModel" "LaneMachineModel" "width" "I" ∈ kg_G := kg_i3 142 rfl rfl
theorem kg_624 : Cond.lays "LaneMachineModel" "LaneMachineModel" "group" "I" ∈ kg_G := kg_i3 144 rfl rfl
theorem kg_626 : Cond.lays "LaneMachineModel" "LaneMachineModel" "vl" "I" ∈ kg_G := kg_i3 146 rfl rfl
theorem kg_628 : Cond.lays "LaneMachineModel" "LaneMachineModel" "start" "I" ∈ kg_G := kg_i3 148 rfl rfl
theorem kg_630 : Cond.lays "LaneMachineModel" "LaneMachineModel" "bound" "I" ∈ kg_G := kg_i3 150 rfl rfl
theorem kg_632 : Cond.lays "LaneMachineModel" "LaneMachineModel" "cycles" "I" ∈ kg_G := kg_i3 152 rfl rfl
theorem kg_634 : Cond.lays "LaneMachineModel" "LaneMachineModel" "stepsDone" "I" ∈ kg_G := kg_i3 154 rfl rfl
theorem kg_636 : Cond.laysFinal "LaneMachineModel" "LaneMachineModel" "x" "[I" ∈ kg_G := kg_i3 156 rfl rfl
theorem kg_638 : Cond.laysFinal "LaneMachineModel" "LaneMachineModel" "file" "[I" ∈ kg_G := kg_i3 158 rfl rfl
theorem kg_640 : Cond.laysFinal "LaneMachineModel" "LaneMachineModel" "memory" "[I" ∈ kg_G := kg_i3 160 rfl rfl
theorem kg_642 : Cond.lays "LaneMachineModel" "LaneMachineModel" "many" "I" ∈ kg_G := kg_i3 162 rfl rfl
theorem kg_644 : Cond.laysFinal "LaneMachineModel" "LaneMachineModel" "op" "[I" ∈ kg_G := kg_i3 164 rfl rfl
theorem kg_646 : Cond.laysFinal "LaneMachineModel" "LaneMachineModel" "d" "[I" ∈ kg_G := kg_i3 166 rfl rfl
theorem kg_648 : Cond.laysFinal "LaneMachineModel" "LaneMachineModel" "a" "[I" ∈ kg_G := kg_i3 168 rfl rfl
theorem kg_650 : Cond.laysFinal "LaneMachineModel" "LaneMachineModel" "b" "[I" ∈ kg_G := kg_i3 170 rfl rfl
theorem kg_652 : Cond.laysFinal "LaneMachineModel" "LaneMachineModel" "n" "[I" ∈ kg_G := kg_i3 172 rfl rfl
theorem kg_654 : Cond.laysFinal "LaneMachineModel" "LaneMachineModel" "masked" "[Z" ∈ kg_G := kg_i3 174 rfl rfl
theorem kg_656 : Cond.lays "LaneMachineModel" "LaneMachineModel" "queued" "I" ∈ kg_G := kg_i3 176 rfl rfl
theorem kg_658 : Cond.laysFinal "LaneMachineModel" "LaneMachineModel" "which" "[I" ∈ kg_G := kg_i3 178 rfl rfl
theorem kg_660 : Cond.laysFinal "LaneMachineModel" "LaneMachineModel" "wide" "[I" ∈ kg_G := kg_i3 180 rfl rfl
theorem kg_662 : Cond.laysFinal "LaneMachineModel" "LaneMachineModel" "regs" "[I" ∈ kg_G := kg_i3 182 rfl rfl
theorem kg_664 : Cond.laysFinal "LaneMachineModel" "LaneMachineModel" "from" "[I" ∈ kg_G := kg_i3 184 rfl rfl
theorem kg_666 : Cond.laysFinal "LaneMachineModel" "LaneMachineModel" "steps" "[I" ∈ kg_G := kg_i3 186 rfl rfl
theorem kg_668 : Cond.laysFinal "LaneMachineModel" "LaneMachineModel" "done" "[I" ∈ kg_G := kg_i3 188 rfl rfl
theorem kg_670 : Cond.laysFinal "LaneMachineModel" "LaneMachineModel" "before" "[I" ∈ kg_G := kg_i3 190 rfl rfl
theorem kg_672 : Cond.laysFinal "LaneMachineModel" "LaneMachineModel" "xa" "[I" ∈ kg_G := kg_i3 192 rfl rfl
theorem kg_674 : Cond.laysFinal "LaneMachineModel" "LaneMachineModel" "xb" "[I" ∈ kg_G := kg_i3 194 rfl rfl
theorem kg_677 : Cond.arrayClass .boolean ∈ kg_G := kg_i3 197 rfl rfl
theorem kg_678 : Cond.methodLink "LaneMachineLaw" 52 y_R_thrown ∈ kg_G := kg_i3 198 rfl rfl
theorem kg_679 : Cond.instanceMethod y_R_thrown ∈ kg_G := kg_i3 199 rfl rfl
theorem kg_680 : Cond.selects "LaneMachineModel" y_R_thrown y_R_thrown ∈ kg_G := kg_i3 200 rfl rfl
theorem kg_681 : Cond.code y_R_thrown prog_7_method_2_code 1 (some .int) ∈ kg_G := kg_i3 201 rfl rfl
theorem kg_682 : Cond.methodLink "LaneMachineLaw" 65 y_R_cycles ∈ kg_G := kg_i3 202 rfl rfl
theorem kg_683 : Cond.instanceMethod y_R_cycles ∈ kg_G := kg_i3 203 rfl rfl
theorem kg_684 : Cond.selects "LaneMachineModel" y_R_cycles y_R_cycles ∈ kg_G := kg_i3 204 rfl rfl
theorem kg_685 : Cond.code y_R_cycles prog_7_method_31_code 3 (some .int) ∈ kg_G := kg_i3 205 rfl rfl
theorem kg_686 : Cond.methodLink "LaneMachineModel" 198 y_R_units ∈ kg_G := kg_i3 206 rfl rfl
theorem kg_688 : Cond.instanceMethod y_R_units ∈ kg_G := kg_i3 208 rfl rfl
theorem kg_689 : Cond.code y_R_units prog_7_method_20_code 5 none ∈ kg_G := kg_i3 209 rfl rfl
theorem kg_690 : Cond.methodLink "LaneMachineModel" 149 y_R_unit ∈ kg_G := kg_i3 210 rfl rfl
theorem kg_691 : Cond.static y_R_unit ∈ kg_G := kg_i3 211 rfl rfl
theorem kg_692 : Cond.code y_R_unit prog_7_method_9_code 1 (some .int) ∈ kg_G := kg_i3 212 rfl rfl
theorem kg_693 : Cond.methodLink "LaneMachineModel" 152 y_R_free ∈ kg_G := kg_i3 213 rfl rfl
theorem kg_695 : Cond.instanceMethod y_R_free ∈ kg_G := kg_i3 215 rfl rfl
theorem kg_696 : Cond.code y_R_free prog_7_method_13_code 10 (some .boolean) ∈ kg_G := kg_i3 216 rfl rfl
theorem kg_697 : Cond.methodLink "LaneMachineModel" 104 y_R_reads ∈ kg_G := kg_i3 217 rfl rfl
theorem kg_699 : Cond.instanceMethod y_R_reads ∈ kg_G := kg_i3 219 rfl rfl
theorem kg_700 : Cond.code y_R_reads prog_7_method_10_code 11 (some .long) ∈ kg_G := kg_i3 220 rfl rfl
theorem kg_701 : Cond.methodLink "LaneMachineModel" 96 y_R_vlOf ∈ kg_G := kg_i3 221 rfl rfl
theorem kg_703 : Cond.instanceMethod y_R_vlOf ∈ kg_G := kg_i3 223 rfl rfl
theorem kg_704 : Cond.code y_R_vlOf prog_7_method_11_code 2 (some .int) ∈ kg_G := kg_i3 224 rfl rfl
theorem kg_705 : Cond.methodLink "LaneMachineModel" 100 y_R_bytes ∈ kg_G := kg_i3 225 rfl rfl
theorem kg_706 : Cond.static y_R_bytes ∈ kg_G := kg_i3 226 rfl rfl
theorem kg_707 : Cond.code y_R_bytes prog_7_method_3_code 2 (some .long) ∈ kg_G := kg_i3 227 rfl rfl
theorem kg_708 : Cond.methodLink "LaneMachineModel" 107 y_R_writes ∈ kg_G := kg_i3 228 rfl rfl
theorem kg_710 : Cond.instanceMethod y_R_writes ∈ kg_G := kg_i3 230 rfl rfl
theorem kg_711 : Cond.code y_R_writes prog_7_method_12_code 7 (some .long) ∈ kg_G := kg_i3 231 rfl rfl
theorem kg_712 : Cond.methodLink "LaneMachineModel" 155 y_R_does ∈ kg_G := kg_i3 232 rfl rfl
theorem kg_714 : Cond.instanceMethod y_R_does ∈ kg_G := kg_i3 234 rfl rfl
theorem kg_715 : Cond.code y_R_does prog_7_method_19_code 9 none ∈ kg_G := kg_i3 235 rfl rfl
theorem kg_716 : Cond.methodLink "LaneMachineModel" 132 y_R_sums ∈ kg_G := kg_i3 236 rfl rfl
theorem kg_718 : Cond.instanceMethod y_R_sums ∈ kg_G := kg_i3 238 rfl rfl
theorem kg_719 : Cond.code y_R_sums prog_7_method_14_code 8 none ∈ kg_G := kg_i3 239 rfl rfl
theorem kg_720 : Cond.methodLink "LaneMachineModel" 110 y_R_element ∈ kg_G := kg_i4 0 rfl rfl
theorem kg_722 : Cond.instanceMethod y_R_element ∈ kg_G := kg_i4 2 rfl rfl
theorem kg_723 : Cond.code y_R_element prog_7_method_5_code 7 (some .int) ∈ kg_G := kg_i4 3 rfl rfl
theorem kg_724 : Cond.constantLong "LaneMachineModel" 84 256 ∈ kg_G := kg_i4 4 rfl rfl
theorem kg_725 : Cond.methodLink "LaneMachineModel" 86 y_R_signed ∈ kg_G := kg_i4 5 rfl rfl
theorem kg_726 : Cond.static y_R_signed ∈ kg_G := kg_i4 6 rfl rfl
theorem kg_727 : Cond.code y_R_signed prog_7_method_4_code 3 (some .int) ∈ kg_G := kg_i4 7 rfl rfl
theorem kg_728 : Cond.methodLink "LaneMachineModel" 114 y_R_bit ∈ kg_G := kg_i4 8 rfl rfl
theorem kg_730 : Cond.instanceMethod y_R_bit ∈ kg_G := kg_i4 10 rfl rfl
theorem kg_731 : Cond.code y_R_bit prog_7_method_8_code 3 (some .boolean) ∈ kg_G := kg_i4 11 rfl rfl
theorem kg_732 : Cond.methodLink "LaneMachineModel" 118 y_R_set ∈ kg_G := kg_i4 12 rfl rfl
theorem kg_734 : Cond.instanceMethod y_R_set ∈ kg_G := kg_i4 14 rfl rfl
theorem kg_735 : Cond.code y_R_set prog_7_method_6_code 6 none ∈ kg_G := kg_i4 15 rfl rfl
theorem kg_736 : Cond.methodLink "LaneMachineModel" 136 y_R_pairs ∈ kg_G := kg_i4 16 rfl rfl
theorem kg_738 : Cond.instanceMethod y_R_pairs ∈ kg_G := kg_i4 18 rfl rfl
theorem kg_739 : Cond.code y_R_pairs prog_7_method_17_code 7 (some .int) ∈ kg_G := kg_i4 19 rfl rfl
theorem kg_740 : Cond.methodLink "LaneMachineModel" 139 y_R_moves ∈ kg_G := kg_i4 20 rfl rfl
theorem kg_742 : Cond.instanceMethod y_R_moves ∈ kg_G := kg_i4 22 rfl rfl
theorem kg_743 : Cond.code y_R_moves prog_7_method_16_code 7 none ∈ kg_G := kg_i4 23 rfl rfl
theorem kg_744 : Cond.methodLink "LaneMachineModel" 125 y_R_place ∈ kg_G := kg_i4 24 rfl rfl
theorem kg_746 : Cond.instanceMethod y_R_place ∈ kg_G := kg_i4 26 rfl rfl
theorem kg_747 : Cond.code y_R_place prog_7_method_15_code 4 (some .int) ∈ kg_G := kg_i4 27 rfl rfl
theorem kg_748 : Cond.methodLink "LaneMachineModel" 122 y_R_plain ∈ kg_G := kg_i4 28 rfl rfl
theorem kg_749 : Cond.static y_R_plain ∈ kg_G := kg_i4 29 rfl rfl
theorem kg_750 : Cond.code y_R_plain prog_7_method_7_code 2 (some .long) ∈ kg_G := kg_i4 30 rfl rfl
theorem kg_751 : Cond.constantLong "LaneMachineModel" 90 4294967295 ∈ kg_G := kg_i4 31 rfl rfl
theorem kg_752 : Cond.constantLong "LaneMachineModel" 92 65535 ∈ kg_G := kg_i4 32 rfl rfl
theorem kg_753 : Cond.constantLong "LaneMachineModel" 94 255 ∈ kg_G := kg_i4 33 rfl rfl
theorem kg_754 : Cond.methodLink "LaneMachineModel" 143 y_R_picks ∈ kg_G := kg_i4 34 rfl rfl
theorem kg_756 : Cond.instanceMethod y_R_picks ∈ kg_G := kg_i4 36 rfl rfl
theorem kg_757 : Cond.code y_R_picks prog_7_method_18_code 8 (some .int) ∈ kg_G := kg_i4 37 rfl rfl
theorem kg_758 : Cond.methodLink "LaneMachineModel" 201 y_R_leaves ∈ kg_G := kg_i4 38 rfl rfl
theorem kg_760 : Cond.instanceMethod y_R_leaves ∈ kg_G := kg_i4 40 rfl rfl
theorem kg_761 : Cond.code y_R_leaves prog_7_method_21_code 3 none ∈ kg_G := kg_i4 41 rfl rfl
theorem kg_762 : Cond.methodLink "LaneMachineModel" 204 y_R_goesOn ∈ kg_G := kg_i4 42 rfl rfl
theorem kg_764 : Cond.instanceMethod y_R_goesOn ∈ kg_G := kg_i4 44 rfl rfl
theorem kg_765 : Cond.code y_R_goesOn prog_7_method_30_code 2 none ∈ kg_G := kg_i4 45 rfl rfl
theorem kg_766 : Cond.methodLink "LaneMachineModel" 182 y_R_illegal ∈ kg_G := kg_i4 46 rfl rfl
theorem kg_768 : Cond.instanceMethod y_R_illegal ∈ kg_G := kg_i4 48 rfl rfl
theorem kg_769 : Cond.code y_R_illegal prog_7_method_23_code 7 (some .boolean) ∈ kg_G := kg_i4 49 rfl rfl
theorem kg_770 : Cond.methodLink "LaneMachineModel" 158 y_R_odd ∈ kg_G := kg_i4 50 rfl rfl
theorem kg_772 : Cond.instanceMethod y_R_odd ∈ kg_G := kg_i4 52 rfl rfl
theorem kg_773 : Cond.code y_R_odd prog_7_method_22_code 3 (some .boolean) ∈ kg_G := kg_i4 53 rfl rfl
theorem kg_774 : Cond.methodLink "LaneMachineModel" 186 y_R_scalarDone ∈ kg_G := kg_i4 54 rfl rfl
theorem kg_776 : Cond.instanceMethod y_R_scalarDone ∈ kg_G := kg_i4 56 rfl rfl
theorem kg_777 : Cond.code y_R_scalarDone prog_7_method_26_code 4 (some .boolean) ∈ kg_G := kg_i4 57 rfl rfl
theorem kg_778 : Cond.methodLink "LaneMachineModel" 164 y_R_setX ∈ kg_G := kg_i4 58 rfl rfl
theorem kg_780 : Cond.instanceMethod y_R_setX ∈ kg_G := kg_i4 60 rfl rfl
theorem kg_781 : Cond.code y_R_setX prog_7_method_24_code 3 none ∈ kg_G := kg_i4 61 rfl rfl
theorem kg_782 : Cond.methodLink "LaneMachineModel" 173 y_R_configures ∈ kg_G := kg_i4 62 rfl rfl
theorem kg_784 : Cond.instanceMethod y_R_configures ∈ kg_G := kg_i4 64 rfl rfl
theorem kg_785 : Cond.code y_R_configures prog_7_method_25_code 6 none ∈ kg_G := kg_i4 65 rfl rfl
theorem kg_786 : Cond.methodLink "LaneMachineModel" 189 y_R_held ∈ kg_G := kg_i4 66 rfl rfl
theorem kg_788 : Cond.instanceMethod y_R_held ∈ kg_G := kg_i4 68 rfl rfl
theorem kg_789 : Cond.code y_R_held prog_7_method_27_code 7 (some .boolean) ∈ kg_G := kg_i4 69 rfl rfl
theorem kg_790 : Cond.methodLink "LaneMachineModel" 192 y_R_handsOut ∈ kg_G := kg_i4 70 rfl rfl
theorem kg_792 : Cond.instanceMethod y_R_handsOut ∈ kg_G := kg_i4 72 rfl rfl
theorem kg_793 : Cond.code y_R_handsOut prog_7_method_29_code 6 none ∈ kg_G := kg_i4 73 rfl rfl
theorem kg_794 : Cond.methodLink "LaneMachineModel" 176 y_R_bad ∈ kg_G := kg_i4 74 rfl rfl
theorem kg_796 : Cond.instanceMethod y_R_bad ∈ kg_G := kg_i4 76 rfl rfl
theorem kg_797 : Cond.code y_R_bad prog_7_method_28_code 5 (some .int) ∈ kg_G := kg_i4 77 rfl rfl
theorem kg_798 : Cond.methodLink "LaneMachineLaw" 51 y_R_put ∈ kg_G := kg_i4 78 rfl rfl
theorem kg_799 : Cond.instanceMethod y_R_put ∈ kg_G := kg_i4 79 rfl rfl
theorem kg_800 : Cond.selects "LaneMachineModel" y_R_put y_R_put ∈ kg_G := kg_i4 80 rfl rfl
theorem kg_801 : Cond.code y_R_put prog_7_method_33_code 8 (some .int) ∈ kg_G := kg_i4 81 rfl rfl
theorem kg_802 : Cond.methodLink "LaneMachineModel" 207 y_R_isRegister ∈ kg_G := kg_i4 82 rfl rfl
theorem kg_803 : Cond.static y_R_isRegister ∈ kg_G := kg_i4 83 rfl rfl
theorem kg_804 : Cond.code y_R_isRegister prog_7_method_32_code 1 (some .boolean) ∈ kg_G := kg_i4 84 rfl rfl
theorem kg_805 : Cond.methodLink "LaneMachineLaw" 58 y_R_go ∈ kg_G := kg_i4 85 rfl rfl
theorem kg_806 : Cond.instanceMethod y_R_go ∈ kg_G := kg_i4 86 rfl rfl
theorem kg_807 : Cond.selects "LaneMachineModel" y_R_go y_R_go ∈ kg_G := kg_i4 87 rfl rfl
theorem kg_808 : Cond.code y_R_go prog_7_method_34_code 2 (some .int) ∈ kg_G := kg_i4 88 rfl rfl
theorem kg_809 : Cond.methodLink "LaneMachineLaw" 62 y_R_resume ∈ kg_G := kg_i4 89 rfl rfl
theorem kg_810 : Cond.instanceMethod y_R_resume ∈ kg_G := kg_i4 90 rfl rfl
theorem kg_811 : Cond.selects "LaneMachineModel" y_R_resume y_R_resume ∈ kg_G := kg_i4 91 rfl rfl
theorem kg_812 : Cond.code y_R_resume prog_7_method_35_code 1 (some .int) ∈ kg_G := kg_i4 92 rfl rfl
theorem kg_813 : Cond.methodLink "LaneMachineLaw" 69 y_R_poke ∈ kg_G := kg_i4 93 rfl rfl
theorem kg_814 : Cond.instanceMethod y_R_poke ∈ kg_G := kg_i4 94 rfl rfl
theorem kg_815 : Cond.selects "LaneMachineModel" y_R_poke y_R_poke ∈ kg_G := kg_i4 95 rfl rfl
theorem kg_816 : Cond.code y_R_poke prog_7_method_36_code 3 (some .boolean) ∈ kg_G := kg_i4 96 rfl rfl
theorem kg_817 : Cond.methodLink "LaneMachineLaw" 72 y_R_limit ∈ kg_G := kg_i4 97 rfl rfl
theorem kg_818 : Cond.instanceMethod y_R_limit ∈ kg_G := kg_i4 98 rfl rfl
theorem kg_819 : Cond.selects "LaneMachineModel" y_R_limit y_R_limit ∈ kg_G := kg_i4 99 rfl rfl
theorem kg_820 : Cond.code y_R_limit prog_7_method_37_code 2 (some .boolean) ∈ kg_G := kg_i4 100 rfl rfl
theorem kg_821 : Cond.methodLink "LaneMachineLaw" 76 y_R_scalar ∈ kg_G := kg_i4 101 rfl rfl
theorem kg_822 : Cond.instanceMethod y_R_scalar ∈ kg_G := kg_i4 102 rfl rfl
theorem kg_823 : Cond.selects "LaneMachineModel" y_R_scalar y_R_scalar ∈ kg_G := kg_i4 103 rfl rfl
theorem kg_824 : Cond.code y_R_scalar prog_7_method_38_code 2 (some .int) ∈ kg_G := kg_i4 104 rfl rfl
theorem kg_825 : Cond.methodLink "LaneMachineLaw" 80 y_R_file ∈ kg_G := kg_i4 105 rfl rfl
theorem kg_826 : Cond.instanceMethod y_R_file ∈ kg_G := kg_i4 106 rfl rfl
theorem kg_827 : Cond.selects "LaneMachineModel" y_R_file y_R_file ∈ kg_G := kg_i4 107 rfl rfl
theorem kg_828 : Cond.code y_R_file prog_7_method_39_code 2 (some .int) ∈ kg_G := kg_i4 108 rfl rfl
theorem kg_829 : Cond.methodLink "LaneMachineLaw" 84 y_R_memory ∈ kg_G := kg_i4 109 rfl rfl
theorem kg_830 : Cond.instanceMethod y_R_memory ∈ kg_G := kg_i4 110 rfl rfl
theorem kg_831 : Cond.selects "LaneMachineModel" y_R_memory y_R_memory ∈ kg_G := kg_i4 111 rfl rfl
theorem kg_832 : Cond.code y_R_memory prog_7_method_40_code 2 (some .int) ∈ kg_G := kg_i4 112 rfl rfl
theorem kg_833 : Cond.methodLink "LaneMachineLaw" 88 y_R_about ∈ kg_G := kg_i4 113 rfl rfl
theorem kg_834 : Cond.instanceMethod y_R_about ∈ kg_G := kg_i4 114 rfl rfl
theorem kg_835 : Cond.selects "LaneMachineModel" y_R_about y_R_about ∈ kg_G := kg_i4 115 rfl rfl
theorem kg_836 : Cond.code y_R_about prog_7_method_41_code 2 (some .int) ∈ kg_G := kg_i4 116 rfl rfl
theorem kg_837 : Cond.methodLink "LaneMachineLaw" 93 y_R_queue ∈ kg_G := kg_i4 117 rfl rfl
theorem kg_838 : Cond.instanceMethod y_R_queue ∈ kg_G := kg_i4 118 rfl rfl
theorem kg_839 : Cond.selects "LaneMachineModel" y_R_queue y_R_queue ∈ kg_G := kg_i4 119 rfl rfl
theorem kg_840 : Cond.code y_R_queue prog_7_method_42_code 3 (some .int) ∈ kg_G := kg_i4 120 rfl rfl
end
section
theorem in_B : ∀ w ∈ u_ws R_B F_B 1, w ∈ kg_G := by
  intro w hw
  obtain ⟨k, hk, rfl⟩ := List.mem_map.mp hw
  have h : k < 1 := List.mem_range.mp hk
  clear hw hk
  by_cases h0 : k = 0
  · subst h0; exact kg_34
  omega
theorem in_I : ∀ w ∈ u_ws R_I F_I 6, w ∈ kg_G := by
  intro w hw
  obtain ⟨k, hk, rfl⟩ := List.mem_map.mp hw
  have h : k < 6 := List.mem_range.mp hk
  clear hw hk
  by_cases h0 : k = 0
  · subst h0; exact kg_93
  by_cases h1 : k = 1
  · subst h1; exact kg_95
  by_cases h2 : k = 2
  · subst h2; exact kg_97
  by_cases h3 : k = 3
  · subst h3; exact kg_99
  by_cases h4 : k = 4
  · subst h4; exact kg_101
  by_cases h5 : k = 5
  · subst h5; exact kg_103
  omega
theorem in_S : ∀ w ∈ u_ws R_S F_S 4, w ∈ kg_G := by
  intro w hw
  obtain ⟨k, hk, rfl⟩ := List.mem_map.mp hw
  have h : k < 4 := List.mem_range.mp hk
  clear hw hk
  by_cases h0 : k = 0
  · subst h0; exact kg_53
  by_cases h1 : k = 1
  · subst h1; exact kg_55
  by_cases h2 : k = 2
  · subst h2; exact kg_57
  by_cases h3 : k = 3
  · subst h3; exact kg_59
  omega
theorem in_K : ∀ w ∈ u_ws R_K F_K 15, w ∈ kg_G := by
  intro w hw
  obtain ⟨k, hk, rfl⟩ := List.mem_map.mp hw
  have h : k < 15 := List.mem_range.mp hk
  clear hw hk
  by_cases h0 : k = 0
  · subst h0; exact kg_130
  by_cases h1 : k = 1
  · subst h1; exact kg_132
  by_cases h2 : k = 2
  · subst h2; exact kg_134
  by_cases h3 : k = 3
  · subst h3; exact kg_136
  by_cases h4 : k = 4
  · subst h4; exact kg_138
  by_cases h5 : k = 5
  · subst h5; exact kg_140
  by_cases h6 : k = 6
  · subst h6; exact kg_142
  by_cases h7 : k = 7
  · subst h7; exact kg_144
  by_cases h8 : k = 8
  · subst h8; exact kg_146
  by_cases h9 : k = 9
  · subst h9; exact kg_148
  by_cases h10 : k = 10
  · subst h10; exact kg_150
  by_cases h11 : k = 11
  · subst h11; exact kg_152
  by_cases h12 : k = 12
  · subst h12; exact kg_154
  by_cases h13 : k = 13
  · subst h13; exact kg_156
  by_cases h14 : k = 14
  · subst h14; exact kg_158
  omega
theorem in_M : ∀ w ∈ u_ws R_M F_M 14, w ∈ kg_G := by
  intro w hw
  obtain ⟨k, hk, rfl⟩ := List.mem_map.mp hw
  have h : k < 14 := List.mem_range.mp hk
  clear hw hk
  by_cases h0 : k = 0
  · subst h0; exact kg_176
  by_cases h1 : k = 1
  · subst h1; exact kg_178
  by_cases h2 : k = 2
  · subst h2; exact kg_180
  by_cases h3 : k = 3
  · subst h3; exact kg_182
  by_cases h4 : k = 4
  · subst h4; exact kg_184
  by_cases h5 : k = 5
  · subst h5; exact kg_186
  by_cases h6 : k = 6
  · subst h6; exact kg_188
  by_cases h7 : k = 7
  · subst h7; exact kg_190
  by_cases h8 : k = 8
  · subst h8; exact kg_192
  by_cases h9 : k = 9
  · subst h9; exact kg_194
  by_cases h10 : k = 10
  · subst h10; exact kg_196
  by_cases h11 : k = 11
  · subst h11; exact kg_198
  by_cases h12 : k = 12
  · subst h12; exact kg_200
  by_cases h13 : k = 13
  · subst h13; exact kg_202
  omega
theorem in_R : ∀ w ∈ u_ws R_R F_R 31, w ∈ kg_G := by
  intro w hw
  obtain ⟨k, hk, rfl⟩ := List.mem_map.mp hw
  have h : k < 31 := List.mem_range.mp hk
  clear hw hk
  by_cases h0 : k = 0
  · subst h0; exact kg_614
  by_cases h1 : k = 1
  · subst h1; exact kg_616
  by_cases h2 : k = 2
  · subst h2; exact kg_618
  by_cases h3 : k = 3
  · subst h3; exact kg_620
  by_cases h4 : k = 4
  · subst h4; exact kg_622
  by_cases h5 : k = 5
  · subst h5; exact kg_624
  by_cases h6 : k = 6
  · subst h6; exact kg_626
  by_cases h7 : k = 7
  · subst h7; exact kg_628
  by_cases h8 : k = 8
  · subst h8; exact kg_630
  by_cases h9 : k = 9
  · subst h9; exact kg_632
  by_cases h10 : k = 10
  · subst h10; exact kg_634
  by_cases h11 : k = 11
  · subst h11; exact kg_636
  by_cases h12 : k = 12
  · subst h12; exact kg_638
  by_cases h13 : k = 13
  · subst h13; exact kg_640
  by_cases h14 : k = 14
  · subst h14; exact kg_642
  by_cases h15 : k = 15
  · subst h15; exact kg_644
  by_cases h16 : k = 16
  · subst h16; exact kg_646
  by_cases h17 : k = 17
  · subst h17; exact kg_648
  by_cases h18 : k = 18
  · subst h18; exact kg_650
  by_cases h19 : k = 19
  · subst h19; exact kg_652
  by_cases h20 : k = 20
  · subst h20; exact kg_654
  by_cases h21 : k = 21
  · subst h21; exact kg_656
  by_cases h22 : k = 22
  · subst h22; exact kg_658
  by_cases h23 : k = 23
  · subst h23; exact kg_660
  by_cases h24 : k = 24
  · subst h24; exact kg_662
  by_cases h25 : k = 25
  · subst h25; exact kg_664
  by_cases h26 : k = 26
  · subst h26; exact kg_666
  by_cases h27 : k = 27
  · subst h27; exact kg_668
  by_cases h28 : k = 28
  · subst h28; exact kg_670
  by_cases h29 : k = 29
  · subst h29; exact kg_672
  by_cases h30 : k = 30
  · subst h30; exact kg_674
  omega
abbrev b_M_init : ByteArray := prog_1_method_1_code
abbrev w_M_init : List Cond := Cond.code y_M_init b_M_init 4 none :: kg_G
abbrev b_JO_init : ByteArray := object_method_1_code
abbrev w_JO_init : List Cond := Cond.code y_JO_init b_JO_init 1 none :: kg_G
abbrev b_JM_min : ByteArray := prog_11_method_69_code
abbrev w_JM_min : List Cond := Cond.code y_JM_min b_JM_min 2 (some .int) :: kg_G
abbrev b_JM_max : ByteArray := prog_11_method_65_code
abbrev w_JM_max : List Cond := Cond.code y_JM_max b_JM_max 2 (some .int) :: kg_G
abbrev b_B_init : ByteArray := prog_2_method_1_code
abbrev w_B_init : List Cond := Cond.code y_B_init b_B_init 2 none :: kg_G
abbrev b_S_init : ByteArray := prog_4_method_1_code
abbrev w_S_init : List Cond := Cond.code y_S_init b_S_init 1 none :: kg_G
abbrev b_I_init : ByteArray := prog_3_method_1_code
abbrev w_I_init : List Cond := Cond.code y_I_init b_I_init 7 none :: kg_G
abbrev b_K_init : ByteArray := prog_5_method_1_code
abbrev w_K_init : List Cond := Cond.code y_K_init b_K_init 4 none :: kg_G
abbrev b_M_scalar : ByteArray := prog_1_method_8_code
abbrev w_M_scalar : List Cond := Cond.code y_M_scalar b_M_scalar 2 (some .int) :: kg_G
abbrev b_M_file : ByteArray := prog_1_method_9_code
abbrev w_M_file : List Cond := Cond.code y_M_file b_M_file 2 (some .int) :: kg_G
abbrev b_B_number : ByteArray := prog_2_method_2_code
abbrev w_B_number : List Cond := Cond.code y_B_number b_B_number 4 (some .int) :: kg_G
abbrev b_B_bareNumber : ByteArray := prog_2_method_3_code
abbrev w_B_bareNumber : List Cond := Cond.code y_B_bareNumber b_B_bareNumber 5 (some .int) :: kg_G
abbrev b_M_memory : ByteArray := prog_1_method_10_code
abbrev w_M_memory : List Cond := Cond.code y_M_memory b_M_memory 2 (some .int) :: kg_G
abbrev b_M_about : ByteArray := prog_1_method_11_code
abbrev w_M_about : List Cond := Cond.code y_M_about b_M_about 2 (some .int) :: kg_G
abbrev b_S_width : ByteArray := prog_4_method_3_code
abbrev w_S_width : List Cond := Cond.code y_S_width b_S_width 1 (some .int) :: kg_G
abbrev b_S_group : ByteArray := prog_4_method_4_code
abbrev w_S_group : List Cond := Cond.code y_S_group b_S_group 1 (some .int) :: kg_G
abbrev b_M_queue : ByteArray := prog_1_method_12_code
abbrev w_M_queue : List Cond := Cond.code y_M_queue b_M_queue 4 (some .int) :: kg_G
abbrev b_K_steps : ByteArray := prog_5_method_3_code
abbrev w_K_steps : List Cond := Cond.code y_K_steps b_K_steps 2 (some .int) :: kg_G
abbrev b_L_cell : ByteArray := method_2_code
abbrev w_L_cell : List Cond := Cond.code y_L_cell b_L_cell 2 (some .int) :: kg_G
abbrev b_L_put : ByteArray := method_3_code
abbrev w_L_put : List Cond := Cond.codeWith y_L_put b_L_put 9 (some .int) [(0, 18, 21, 13), (0, 18, 25, 15)] :: kg_G
abbrev b_M_put : ByteArray := prog_1_method_2_code
abbrev w_M_put : List Cond := Cond.code y_M_put b_M_put 7 (some .int) :: kg_G
abbrev b_M_isRegister : ByteArray := prog_1_method_13_code
abbrev w_M_isRegister : List Cond := Cond.code y_M_isRegister b_M_isRegister 1 (some .boolean) :: kg_G
abbrev b_JT_init : ByteArray := prog_13_method_1_code
abbrev w_JT_init : List Cond := Cond.code y_JT_init b_JT_init 1 none :: kg_G
abbrev b_JA_init : ByteArray := prog_9_method_1_code
abbrev w_JA_init : List Cond := Cond.code y_JA_init b_JA_init 1 none :: kg_G
abbrev b_JR_init : ByteArray := prog_12_method_1_code
abbrev w_JR_init : List Cond := Cond.code y_JR_init b_JR_init 1 none :: kg_G
abbrev b_JE_init : ByteArray := prog_8_method_1_code
abbrev w_JE_init : List Cond := Cond.code y_JE_init b_JE_init 1 none :: kg_G
abbrev b_S_isCode : ByteArray := prog_4_method_2_code
abbrev w_S_isCode : List Cond := Cond.code y_S_isCode b_S_isCode 1 (some .boolean) :: kg_G
abbrev b_JS_init : ByteArray := prog_10_method_1_code
abbrev w_JS_init : List Cond := Cond.code y_JS_init b_JS_init 1 none :: kg_G
abbrev b_L_go : ByteArray := method_4_code
abbrev w_L_go : List Cond := Cond.codeWith y_L_go b_L_go 4 (some .int) [(0, 9, 12, 13), (0, 9, 15, 15)] :: kg_G
abbrev b_M_go : ByteArray := prog_1_method_3_code
abbrev w_M_go : List Cond := Cond.code y_M_go b_M_go 2 (some .int) :: kg_G
abbrev b_L_resume : ByteArray := method_5_code
abbrev w_L_resume : List Cond := Cond.codeWith y_L_resume b_L_resume 3 (some .int) [(0, 8, 11, 15)] :: kg_G
abbrev b_M_resume : ByteArray := prog_1_method_4_code
abbrev w_M_resume : List Cond := Cond.code y_M_resume b_M_resume 1 (some .int) :: kg_G
abbrev b_L_cycles : ByteArray := method_6_code
abbrev w_L_cycles : List Cond := Cond.codeWith y_L_cycles b_L_cycles 4 (some .int) [(0, 9, 12, 13)] :: kg_G
abbrev b_M_cycles : ByteArray := prog_1_method_5_code
abbrev w_M_cycles : List Cond := Cond.code y_M_cycles b_M_cycles 4 (some .int) :: kg_G
abbrev b_M_noteStepsDone : ByteArray := prog_1_method_14_code
abbrev w_M_noteStepsDone : List Cond := Cond.code y_M_noteStepsDone b_M_noteStepsDone 2 none :: kg_G
abbrev b_M_workUnit : ByteArray := prog_1_method_15_code
abbrev w_M_workUnit : List Cond := Cond.code y_M_workUnit b_M_workUnit 9 none :: kg_G
abbrev b_I_unit : ByteArray := prog_3_method_4_code
abbrev w_I_unit : List Cond := Cond.code y_I_unit b_I_unit 1 (some .int) :: kg_G
abbrev b_K_isNextStepFree : ByteArray := prog_5_method_15_code
abbrev w_K_isNextStepFree : List Cond := Cond.code y_K_isNextStepFree b_K_isNextStepFree 7 (some .boolean) :: kg_G
abbrev b_K_isDone : ByteArray := prog_5_method_14_code
abbrev w_K_isDone : List Cond := Cond.code y_K_isDone b_K_isDone 1 (some .boolean) :: kg_G
abbrev b_K_writesOf : ByteArray := prog_5_method_13_code
abbrev w_K_writesOf : List Cond := Cond.code y_K_writesOf b_K_writesOf 3 (some .long) :: kg_G
abbrev b_K_span : ByteArray := prog_5_method_7_code
abbrev w_K_span : List Cond := Cond.code y_K_span b_K_span 2 (some .long) :: kg_G
abbrev b_K_placeOf : ByteArray := prog_5_method_8_code
abbrev w_K_placeOf : List Cond := Cond.code y_K_placeOf b_K_placeOf 3 (some .int) :: kg_G
abbrev b_K_readsOf : ByteArray := prog_5_method_9_code
abbrev w_K_readsOf : List Cond := Cond.code y_K_readsOf b_K_readsOf 3 (some .long) :: kg_G
abbrev b_K_readsOfSum : ByteArray := prog_5_method_11_code
abbrev w_K_readsOfSum : List Cond := Cond.code y_K_readsOfSum b_K_readsOfSum 4 (some .long) :: kg_G
abbrev b_K_maskByte : ByteArray := prog_5_method_12_code
abbrev w_K_maskByte : List Cond := Cond.code y_K_maskByte b_K_maskByte 2 (some .long) :: kg_G
abbrev b_K_sourcesOf : ByteArray := prog_5_method_10_code
abbrev w_K_sourcesOf : List Cond := Cond.code y_K_sourcesOf b_K_sourcesOf 2 (some .long) :: kg_G
abbrev b_K_isInGroup : ByteArray := prog_5_method_23_code
abbrev w_K_isInGroup : List Cond := Cond.code y_K_isInGroup b_K_isInGroup 2 (some .boolean) :: kg_G
abbrev b_K_doNextStep : ByteArray := prog_5_method_16_code
abbrev w_K_doNextStep : List Cond := Cond.code y_K_doNextStep b_K_doNextStep 2 none :: kg_G
abbrev b_K_isWorkedOn : ByteArray := prog_5_method_17_code
abbrev w_K_isWorkedOn : List Cond := Cond.code y_K_isWorkedOn b_K_isWorkedOn 2 (some .boolean) :: kg_G
abbrev b_K_writeSum : ByteArray := prog_5_method_18_code
abbrev w_K_writeSum : List Cond := Cond.code y_K_writeSum b_K_writeSum 4 none :: kg_G
abbrev b_K_element : ByteArray := prog_5_method_21_code
abbrev w_K_element : List Cond := Cond.code y_K_element b_K_element 3 (some .int) :: kg_G
abbrev b_B_write : ByteArray := prog_2_method_4_code
abbrev w_B_write : List Cond := Cond.code y_B_write b_B_write 5 none :: kg_G
abbrev b_K_writeMaskBit : ByteArray := prog_5_method_19_code
abbrev w_K_writeMaskBit : List Cond := Cond.code y_K_writeMaskBit b_K_writeMaskBit 6 none :: kg_G
abbrev b_K_result : ByteArray := prog_5_method_20_code
abbrev w_K_result : List Cond := Cond.code y_K_result b_K_result 2 (some .int) :: kg_G
abbrev b_K_elementOrZero : ByteArray := prog_5_method_22_code
abbrev w_K_elementOrZero : List Cond := Cond.code y_K_elementOrZero b_K_elementOrZero 3 (some .int) :: kg_G
abbrev b_K_placeInMemory : ByteArray := prog_5_method_24_code
abbrev w_K_placeInMemory : List Cond := Cond.code y_K_placeInMemory b_K_placeInMemory 2 (some .int) :: kg_G
abbrev b_K_readsFromStep : ByteArray := prog_5_method_5_code
abbrev w_K_readsFromStep : List Cond := Cond.code y_K_readsFromStep b_K_readsFromStep 2 (some .long) :: kg_G
abbrev b_K_writesFromStep : ByteArray := prog_5_method_6_code
abbrev w_K_writesFromStep : List Cond := Cond.code y_K_writesFromStep b_K_writesFromStep 2 (some .long) :: kg_G
abbrev b_M_dropFinished : ByteArray := prog_1_method_16_code
abbrev w_M_dropFinished : List Cond := Cond.code y_M_dropFinished b_M_dropFinished 4 none :: kg_G
abbrev b_M_advance : ByteArray := prog_1_method_17_code
abbrev w_M_advance : List Cond := Cond.code y_M_advance b_M_advance 2 none :: kg_G
abbrev b_S_forbids : ByteArray := prog_4_method_7_code
abbrev w_S_forbids : List Cond := Cond.code y_S_forbids b_S_forbids 2 (some .boolean) :: kg_G
abbrev b_I_isVector : ByteArray := prog_3_method_2_code
abbrev w_I_isVector : List Cond := Cond.code y_I_isVector b_I_isVector 1 (some .boolean) :: kg_G
abbrev b_S_isMisplaced : ByteArray := prog_4_method_8_code
abbrev w_S_isMisplaced : List Cond := Cond.code y_S_isMisplaced b_S_isMisplaced 3 (some .boolean) :: kg_G
abbrev b_I_hasGroupAtD : ByteArray := prog_3_method_5_code
abbrev w_I_hasGroupAtD : List Cond := Cond.code y_I_hasGroupAtD b_I_hasGroupAtD 1 (some .boolean) :: kg_G
abbrev b_S_isMultiple : ByteArray := prog_4_method_9_code
abbrev w_S_isMultiple : List Cond := Cond.code y_S_isMultiple b_S_isMultiple 2 (some .boolean) :: kg_G
abbrev b_I_hasGroupAtA : ByteArray := prog_3_method_6_code
abbrev w_I_hasGroupAtA : List Cond := Cond.code y_I_hasGroupAtA b_I_hasGroupAtA 1 (some .boolean) :: kg_G
abbrev b_I_hasGroupAtB : ByteArray := prog_3_method_7_code
abbrev w_I_hasGroupAtB : List Cond := Cond.code y_I_hasGroupAtB b_I_hasGroupAtB 1 (some .boolean) :: kg_G
abbrev b_S_spoilsMask : ByteArray := prog_4_method_10_code
abbrev w_S_spoilsMask : List Cond := Cond.code y_S_spoilsMask b_S_spoilsMask 1 (some .boolean) :: kg_G
abbrev b_S_spoilsSources : ByteArray := prog_4_method_11_code
abbrev w_S_spoilsSources : List Cond := Cond.code y_S_spoilsSources b_S_spoilsSources 2 (some .boolean) :: kg_G
abbrev b_S_isInWideGroup : ByteArray := prog_4_method_12_code
abbrev w_S_isInWideGroup : List Cond := Cond.code y_S_isInWideGroup b_S_isInWideGroup 3 (some .boolean) :: kg_G
abbrev b_S_isTooWide : ByteArray := prog_4_method_13_code
abbrev w_S_isTooWide : List Cond := Cond.code y_S_isTooWide b_S_isTooWide 2 (some .boolean) :: kg_G
abbrev b_M_mustWaitForQueue : ByteArray := prog_1_method_20_code
abbrev w_M_mustWaitForQueue : List Cond := Cond.code y_M_mustWaitForQueue b_M_mustWaitForQueue 6 (some .boolean) :: kg_G
abbrev b_M_handOut : ByteArray := prog_1_method_21_code
abbrev w_M_handOut : List Cond := Cond.code y_M_handOut b_M_handOut 4 none :: kg_G
abbrev b_K_take : ByteArray := prog_5_method_2_code
abbrev w_K_take : List Cond := Cond.code y_K_take b_K_take 6 none :: kg_G
abbrev b_S_most : ByteArray := prog_4_method_5_code
abbrev w_S_most : List Cond := Cond.code y_S_most b_S_most 1 (some .int) :: kg_G
abbrev b_K_firstBad : ByteArray := prog_5_method_25_code
abbrev w_K_firstBad : List Cond := Cond.code y_K_firstBad b_K_firstBad 4 (some .int) :: kg_G
abbrev b_K_foresee : ByteArray := prog_5_method_4_code
abbrev w_K_foresee : List Cond := Cond.code y_K_foresee b_K_foresee 7 none :: kg_G
abbrev b_I_needsEmptyQueue : ByteArray := prog_3_method_3_code
abbrev w_I_needsEmptyQueue : List Cond := Cond.code y_I_needsEmptyQueue b_I_needsEmptyQueue 1 (some .boolean) :: kg_G
abbrev b_M_doScalar : ByteArray := prog_1_method_18_code
abbrev w_M_doScalar : List Cond := Cond.code y_M_doScalar b_M_doScalar 3 none :: kg_G
abbrev b_M_setScalar : ByteArray := prog_1_method_19_code
abbrev w_M_setScalar : List Cond := Cond.code y_M_setScalar b_M_setScalar 3 none :: kg_G
abbrev b_S_configure : ByteArray := prog_4_method_6_code
abbrev w_S_configure : List Cond := Cond.code y_S_configure b_S_configure 3 none :: kg_G
abbrev b_L_poke : ByteArray := method_7_code
abbrev w_L_poke : List Cond := Cond.codeWith y_L_poke b_L_poke 5 (some .int) [(0, 17, 20, 13)] :: kg_G
abbrev b_M_poke : ByteArray := prog_1_method_6_code
abbrev w_M_poke : List Cond := Cond.code y_M_poke b_M_poke 3 (some .boolean) :: kg_G
abbrev b_L_limit : ByteArray := method_8_code
abbrev w_L_limit : List Cond := Cond.codeWith y_L_limit b_L_limit 4 (some .int) [(0, 16, 19, 13), (0, 16, 22, 15)] :: kg_G
abbrev b_M_limit : ByteArray := prog_1_method_7_code
abbrev w_M_limit : List Cond := Cond.code y_M_limit b_M_limit 2 (some .boolean) :: kg_G
abbrev b_R_init : ByteArray := prog_7_method_1_code
abbrev w_R_init : List Cond := Cond.code y_R_init b_R_init 2 none :: kg_G
abbrev b_R_thrown : ByteArray := prog_7_method_2_code
abbrev w_R_thrown : List Cond := Cond.code y_R_thrown b_R_thrown 1 (some .int) :: kg_G
abbrev b_R_cycles : ByteArray := prog_7_method_31_code
abbrev w_R_cycles : List Cond := Cond.code y_R_cycles b_R_cycles 3 (some .int) :: kg_G
abbrev b_R_units : ByteArray := prog_7_method_20_code
abbrev w_R_units : List Cond := Cond.code y_R_units b_R_units 5 none :: kg_G
abbrev b_R_unit : ByteArray := prog_7_method_9_code
abbrev w_R_unit : List Cond := Cond.code y_R_unit b_R_unit 1 (some .int) :: kg_G
abbrev b_R_free : ByteArray := prog_7_method_13_code
abbrev w_R_free : List Cond := Cond.code y_R_free b_R_free 10 (some .boolean) :: kg_G
abbrev b_R_reads : ByteArray := prog_7_method_10_code
abbrev w_R_reads : List Cond := Cond.code y_R_reads b_R_reads 11 (some .long) :: kg_G
abbrev b_R_vlOf : ByteArray := prog_7_method_11_code
abbrev w_R_vlOf : List Cond := Cond.code y_R_vlOf b_R_vlOf 2 (some .int) :: kg_G
abbrev b_R_bytes : ByteArray := prog_7_method_3_code
abbrev w_R_bytes : List Cond := Cond.code y_R_bytes b_R_bytes 2 (some .long) :: kg_G
abbrev b_R_writes : ByteArray := prog_7_method_12_code
abbrev w_R_writes : List Cond := Cond.code y_R_writes b_R_writes 7 (some .long) :: kg_G
abbrev b_R_does : ByteArray := prog_7_method_19_code
abbrev w_R_does : List Cond := Cond.code y_R_does b_R_does 9 none :: kg_G
abbrev b_R_sums : ByteArray := prog_7_method_14_code
abbrev w_R_sums : List Cond := Cond.code y_R_sums b_R_sums 8 none :: kg_G
abbrev b_R_element : ByteArray := prog_7_method_5_code
abbrev w_R_element : List Cond := Cond.code y_R_element b_R_element 7 (some .int) :: kg_G
abbrev b_R_signed : ByteArray := prog_7_method_4_code
abbrev w_R_signed : List Cond := Cond.code y_R_signed b_R_signed 3 (some .int) :: kg_G
abbrev b_R_bit : ByteArray := prog_7_method_8_code
abbrev w_R_bit : List Cond := Cond.code y_R_bit b_R_bit 3 (some .boolean) :: kg_G
abbrev b_R_set : ByteArray := prog_7_method_6_code
abbrev w_R_set : List Cond := Cond.code y_R_set b_R_set 6 none :: kg_G
abbrev b_R_pairs : ByteArray := prog_7_method_17_code
abbrev w_R_pairs : List Cond := Cond.code y_R_pairs b_R_pairs 7 (some .int) :: kg_G
abbrev b_R_moves : ByteArray := prog_7_method_16_code
abbrev w_R_moves : List Cond := Cond.code y_R_moves b_R_moves 7 none :: kg_G
abbrev b_R_place : ByteArray := prog_7_method_15_code
abbrev w_R_place : List Cond := Cond.code y_R_place b_R_place 4 (some .int) :: kg_G
abbrev b_R_plain : ByteArray := prog_7_method_7_code
abbrev w_R_plain : List Cond := Cond.code y_R_plain b_R_plain 2 (some .long) :: kg_G
abbrev b_R_picks : ByteArray := prog_7_method_18_code
abbrev w_R_picks : List Cond := Cond.code y_R_picks b_R_picks 8 (some .int) :: kg_G
abbrev b_R_leaves : ByteArray := prog_7_method_21_code
abbrev w_R_leaves : List Cond := Cond.code y_R_leaves b_R_leaves 3 none :: kg_G
abbrev b_R_goesOn : ByteArray := prog_7_method_30_code
abbrev w_R_goesOn : List Cond := Cond.code y_R_goesOn b_R_goesOn 2 none :: kg_G
abbrev b_R_illegal : ByteArray := prog_7_method_23_code
abbrev w_R_illegal : List Cond := Cond.code y_R_illegal b_R_illegal 7 (some .boolean) :: kg_G
abbrev b_R_odd : ByteArray := prog_7_method_22_code
abbrev w_R_odd : List Cond := Cond.code y_R_odd b_R_odd 3 (some .boolean) :: kg_G
abbrev b_R_scalarDone : ByteArray := prog_7_method_26_code
abbrev w_R_scalarDone : List Cond := Cond.code y_R_scalarDone b_R_scalarDone 4 (some .boolean) :: kg_G
abbrev b_R_setX : ByteArray := prog_7_method_24_code
abbrev w_R_setX : List Cond := Cond.code y_R_setX b_R_setX 3 none :: kg_G
abbrev b_R_configures : ByteArray := prog_7_method_25_code
abbrev w_R_configures : List Cond := Cond.code y_R_configures b_R_configures 6 none :: kg_G
abbrev b_R_held : ByteArray := prog_7_method_27_code
abbrev w_R_held : List Cond := Cond.code y_R_held b_R_held 7 (some .boolean) :: kg_G
abbrev b_R_handsOut : ByteArray := prog_7_method_29_code
abbrev w_R_handsOut : List Cond := Cond.code y_R_handsOut b_R_handsOut 6 none :: kg_G
abbrev b_R_bad : ByteArray := prog_7_method_28_code
abbrev w_R_bad : List Cond := Cond.code y_R_bad b_R_bad 5 (some .int) :: kg_G
abbrev b_R_put : ByteArray := prog_7_method_33_code
abbrev w_R_put : List Cond := Cond.code y_R_put b_R_put 8 (some .int) :: kg_G
abbrev b_R_isRegister : ByteArray := prog_7_method_32_code
abbrev w_R_isRegister : List Cond := Cond.code y_R_isRegister b_R_isRegister 1 (some .boolean) :: kg_G
abbrev b_R_go : ByteArray := prog_7_method_34_code
abbrev w_R_go : List Cond := Cond.code y_R_go b_R_go 2 (some .int) :: kg_G
abbrev b_R_resume : ByteArray := prog_7_method_35_code
abbrev w_R_resume : List Cond := Cond.code y_R_resume b_R_resume 1 (some .int) :: kg_G
abbrev b_R_poke : ByteArray := prog_7_method_36_code
abbrev w_R_poke : List Cond := Cond.code y_R_poke b_R_poke 3 (some .boolean) :: kg_G
abbrev b_R_limit : ByteArray := prog_7_method_37_code
abbrev w_R_limit : List Cond := Cond.code y_R_limit b_R_limit 2 (some .boolean) :: kg_G
abbrev b_R_scalar : ByteArray := prog_7_method_38_code
abbrev w_R_scalar : List Cond := Cond.code y_R_scalar b_R_scalar 2 (some .int) :: kg_G
abbrev b_R_file : ByteArray := prog_7_method_39_code
abbrev w_R_file : List Cond := Cond.code y_R_file b_R_file 2 (some .int) :: kg_G
abbrev b_R_memory : ByteArray := prog_7_method_40_code
abbrev w_R_memory : List Cond := Cond.code y_R_memory b_R_memory 2 (some .int) :: kg_G
abbrev b_R_about : ByteArray := prog_7_method_41_code
abbrev w_R_about : List Cond := Cond.code y_R_about b_R_about 2 (some .int) :: kg_G
abbrev b_R_queue : ByteArray := prog_7_method_42_code
abbrev w_R_queue : List Cond := Cond.code y_R_queue b_R_queue 3 (some .int) :: kg_G
abbrev b_L_law : ByteArray := code
end
section
theorem d_B_init_0 : decode b_B_init 0 = .ok (.aload_n 0, 1) := by decide +kernel
theorem d_B_init_1 : decode b_B_init 1 = .ok (.invokespecial 1, 3) := by decide +kernel
theorem d_B_init_4 : decode b_B_init 4 = .ok (.aload_n 0, 1) := by decide +kernel
theorem d_B_init_5 : decode b_B_init 5 = .ok (.iload_n 1, 1) := by decide +kernel
theorem d_B_init_6 : decode b_B_init 6 = .ok (.newarray .byte, 2) := by decide +kernel
theorem d_B_init_8 : decode b_B_init 8 = .ok (.putfield 7, 3) := by decide +kernel
theorem d_B_init_11 : decode b_B_init 11 = .ok (.return_, 1) := by decide +kernel
theorem d_B_number_0 : decode b_B_number 0 = .ok (.bipush 32, 2) := by decide +kernel
theorem d_B_number_2 : decode b_B_number 2 = .ok (.bipush 8, 2) := by decide +kernel
theorem d_B_number_4 : decode b_B_number 4 = .ok (.iload_n 2, 1) := by decide +kernel
theorem d_B_number_5 : decode b_B_number 5 = .ok (.imul, 1) := by decide +kernel
theorem d_B_number_6 : decode b_B_number 6 = .ok (.isub, 1) := by decide +kernel
theorem d_B_number_7 : decode b_B_number 7 = .ok (.istore_n 3, 1) := by decide +kernel
theorem d_B_number_8 : decode b_B_number 8 = .ok (.aload_n 0, 1) := by decide +kernel
theorem d_B_number_9 : decode b_B_number 9 = .ok (.iload_n 1, 1) := by decide +kernel
theorem d_B_number_10 : decode b_B_number 10 = .ok (.iload_n 2, 1) := by decide +kernel
theorem d_B_number_11 : decode b_B_number 11 = .ok (.invokevirtual 13, 3) := by decide +kernel
theorem d_B_number_14 : decode b_B_number 14 = .ok (.iload_n 3, 1) := by decide +kernel
theorem d_B_number_15 : decode b_B_number 15 = .ok (.ishl, 1) := by decide +kernel
theorem d_B_number_16 : decode b_B_number 16 = .ok (.iload_n 3, 1) := by decide +kernel
theorem d_B_number_17 : decode b_B_number 17 = .ok (.ishr, 1) := by decide +kernel
theorem d_B_number_18 : decode b_B_number 18 = .ok (.ireturn, 1) := by decide +kernel
theorem d_B_bareNumber_0 : decode b_B_bareNumber 0 = .ok (.iconst 0, 1) := by decide +kernel
theorem d_B_bareNumber_1 : decode b_B_bareNumber 1 = .ok (.istore_n 3, 1) := by decide +kernel
theorem d_B_bareNumber_2 : decode b_B_bareNumber 2 = .ok (.iload_n 1, 1) := by decide +kernel
theorem d_B_bareNumber_3 : decode b_B_bareNumber 3 = .ok (.ifCond .lt 49, 3) := by decide +kernel
theorem d_B_bareNumber_6 : decode b_B_bareNumber 6 = .ok (.iload_n 1, 1) := by decide +kernel
theorem d_B_bareNumber_7 : decode b_B_bareNumber 7 = .ok (.aload_n 0, 1) := by decide +kernel
theorem d_B_bareNumber_8 : decode b_B_bareNumber 8 = .ok (.getfield 7, 3) := by decide +kernel
theorem d_B_bareNumber_11 : decode b_B_bareNumber 11 = .ok (.arraylength, 1) := by decide +kernel
theorem d_B_bareNumber_12 : decode b_B_bareNumber 12 = .ok (.iload_n 2, 1) := by decide +kernel
theorem d_B_bareNumber_13 : decode b_B_bareNumber 13 = .ok (.isub, 1) := by decide +kernel
theorem d_B_bareNumber_14 : decode b_B_bareNumber 14 = .ok (.if_icmp .gt 38, 3) := by decide +kernel
theorem d_B_bareNumber_17 : decode b_B_bareNumber 17 = .ok (.iload_n 2, 1) := by decide +kernel
theorem d_B_bareNumber_18 : decode b_B_bareNumber 18 = .ok (.iconst 1, 1) := by decide +kernel
theorem d_B_bareNumber_19 : decode b_B_bareNumber 19 = .ok (.isub, 1) := by decide +kernel
theorem d_B_bareNumber_20 : decode b_B_bareNumber 20 = .ok (.istore 4, 2) := by decide +kernel
theorem d_B_bareNumber_22 : decode b_B_bareNumber 22 = .ok (.iload 4, 2) := by decide +kernel
theorem d_B_bareNumber_24 : decode b_B_bareNumber 24 = .ok (.ifCond .lt 28, 3) := by decide +kernel
theorem d_B_bareNumber_27 : decode b_B_bareNumber 27 = .ok (.iload_n 3, 1) := by decide +kernel
theorem d_B_bareNumber_28 : decode b_B_bareNumber 28 = .ok (.bipush 8, 2) := by decide +kernel
theorem d_B_bareNumber_30 : decode b_B_bareNumber 30 = .ok (.ishl, 1) := by decide +kernel
theorem d_B_bareNumber_31 : decode b_B_bareNumber 31 = .ok (.aload_n 0, 1) := by decide +kernel
theorem d_B_bareNumber_32 : decode b_B_bareNumber 32 = .ok (.getfield 7, 3) := by decide +kernel
theorem d_B_bareNumber_35 : decode b_B_bareNumber 35 = .ok (.iload_n 1, 1) := by decide +kernel
theorem d_B_bareNumber_36 : decode b_B_bareNumber 36 = .ok (.iload 4, 2) := by decide +kernel
theorem d_B_bareNumber_38 : decode b_B_bareNumber 38 = .ok (.iadd, 1) := by decide +kernel
theorem d_B_bareNumber_39 : decode b_B_bareNumber 39 = .ok (.baload, 1) := by decide +kernel
theorem d_B_bareNumber_40 : decode b_B_bareNumber 40 = .ok (.sipush 255, 3) := by decide +kernel
theorem d_B_bareNumber_43 : decode b_B_bareNumber 43 = .ok (.iand, 1) := by decide +kernel
theorem d_B_bareNumber_44 : decode b_B_bareNumber 44 = .ok (.ior, 1) := by decide +kernel
theorem d_B_bareNumber_45 : decode b_B_bareNumber 45 = .ok (.istore_n 3, 1) := by decide +kernel
theorem d_B_bareNumber_46 : decode b_B_bareNumber 46 = .ok (.iinc 4 (-1), 3) := by decide +kernel
theorem d_B_bareNumber_49 : decode b_B_bareNumber 49 = .ok (.goto (-27), 3) := by decide +kernel
theorem d_B_bareNumber_52 : decode b_B_bareNumber 52 = .ok (.iload_n 3, 1) := by decide +kernel
theorem d_B_bareNumber_53 : decode b_B_bareNumber 53 = .ok (.ireturn, 1) := by decide +kernel
theorem d_B_write_0 : decode b_B_write 0 = .ok (.iload_n 1, 1) := by decide +kernel
theorem d_B_write_1 : decode b_B_write 1 = .ok (.ifCond .lt 46, 3) := by decide +kernel
theorem d_B_write_4 : decode b_B_write 4 = .ok (.iload_n 1, 1) := by decide +kernel
theorem d_B_write_5 : decode b_B_write 5 = .ok (.aload_n 0, 1) := by decide +kernel
theorem d_B_write_6 : decode b_B_write 6 = .ok (.getfield 7, 3) := by decide +kernel
theorem d_B_write_9 : decode b_B_write 9 = .ok (.arraylength, 1) := by decide +kernel
theorem d_B_write_10 : decode b_B_write 10 = .ok (.iload_n 2, 1) := by decide +kernel
theorem d_B_write_11 : decode b_B_write 11 = .ok (.isub, 1) := by decide +kernel
theorem d_B_write_12 : decode b_B_write 12 = .ok (.if_icmp .gt 35, 3) := by decide +kernel
theorem d_B_write_15 : decode b_B_write 15 = .ok (.iconst 0, 1) := by decide +kernel
theorem d_B_write_16 : decode b_B_write 16 = .ok (.istore 4, 2) := by decide +kernel
theorem d_B_write_18 : decode b_B_write 18 = .ok (.iload 4, 2) := by decide +kernel
theorem d_B_write_20 : decode b_B_write 20 = .ok (.iload_n 2, 1) := by decide +kernel
theorem d_B_write_21 : decode b_B_write 21 = .ok (.if_icmp .ge 26, 3) := by decide +kernel
theorem d_B_write_24 : decode b_B_write 24 = .ok (.aload_n 0, 1) := by decide +kernel
theorem d_B_write_25 : decode b_B_write 25 = .ok (.getfield 7, 3) := by decide +kernel
theorem d_B_write_28 : decode b_B_write 28 = .ok (.iload_n 1, 1) := by decide +kernel
theorem d_B_write_29 : decode b_B_write 29 = .ok (.iload 4, 2) := by decide +kernel
theorem d_B_write_31 : decode b_B_write 31 = .ok (.iadd, 1) := by decide +kernel
theorem d_B_write_32 : decode b_B_write 32 = .ok (.iload_n 3, 1) := by decide +kernel
theorem d_B_write_33 : decode b_B_write 33 = .ok (.bipush 8, 2) := by decide +kernel
theorem d_B_write_35 : decode b_B_write 35 = .ok (.iload 4, 2) := by decide +kernel
theorem d_B_write_37 : decode b_B_write 37 = .ok (.imul, 1) := by decide +kernel
theorem d_B_write_38 : decode b_B_write 38 = .ok (.ishr, 1) := by decide +kernel
theorem d_B_write_39 : decode b_B_write 39 = .ok (.i2b, 1) := by decide +kernel
theorem d_B_write_40 : decode b_B_write 40 = .ok (.bastore, 1) := by decide +kernel
theorem d_B_write_41 : decode b_B_write 41 = .ok (.iinc 4 1, 3) := by decide +kernel
theorem d_B_write_44 : decode b_B_write 44 = .ok (.goto (-26), 3) := by decide +kernel
theorem d_B_write_47 : decode b_B_write 47 = .ok (.return_, 1) := by decide +kernel
end
section
theorem d_I_init_0 : decode b_I_init 0 = .ok (.aload_n 0, 1) := by decide +kernel
theorem d_I_init_1 : decode b_I_init 1 = .ok (.invokespecial 3, 3) := by decide +kernel
theorem d_I_init_4 : decode b_I_init 4 = .ok (.aload_n 0, 1) := by decide +kernel
theorem d_I_init_5 : decode b_I_init 5 = .ok (.iload_n 1, 1) := by decide +kernel
theorem d_I_init_6 : decode b_I_init 6 = .ok (.putfield 9, 3) := by decide +kernel
theorem d_I_init_9 : decode b_I_init 9 = .ok (.aload_n 0, 1) := by decide +kernel
theorem d_I_init_10 : decode b_I_init 10 = .ok (.iload_n 2, 1) := by decide +kernel
theorem d_I_init_11 : decode b_I_init 11 = .ok (.putfield 15, 3) := by decide +kernel
theorem d_I_init_14 : decode b_I_init 14 = .ok (.aload_n 0, 1) := by decide +kernel
theorem d_I_init_15 : decode b_I_init 15 = .ok (.iload_n 3, 1) := by decide +kernel
theorem d_I_init_16 : decode b_I_init 16 = .ok (.putfield 18, 3) := by decide +kernel
theorem d_I_init_19 : decode b_I_init 19 = .ok (.aload_n 0, 1) := by decide +kernel
theorem d_I_init_20 : decode b_I_init 20 = .ok (.iload 4, 2) := by decide +kernel
theorem d_I_init_22 : decode b_I_init 22 = .ok (.putfield 21, 3) := by decide +kernel
theorem d_I_init_25 : decode b_I_init 25 = .ok (.aload_n 0, 1) := by decide +kernel
theorem d_I_init_26 : decode b_I_init 26 = .ok (.iload 5, 2) := by decide +kernel
theorem d_I_init_28 : decode b_I_init 28 = .ok (.putfield 24, 3) := by decide +kernel
theorem d_I_init_31 : decode b_I_init 31 = .ok (.aload_n 0, 1) := by decide +kernel
theorem d_I_init_32 : decode b_I_init 32 = .ok (.iload 6, 2) := by decide +kernel
theorem d_I_init_34 : decode b_I_init 34 = .ok (.putfield 27, 3) := by decide +kernel
theorem d_I_init_37 : decode b_I_init 37 = .ok (.return_, 1) := by decide +kernel
theorem d_I_unit_0 : decode b_I_unit 0 = .ok (.aload_n 0, 1) := by decide +kernel
theorem d_I_unit_1 : decode b_I_unit 1 = .ok (.getfield 9, 3) := by decide +kernel
theorem d_I_unit_4 : decode b_I_unit 4 = .ok (.bipush 17, 2) := by decide +kernel
theorem d_I_unit_6 : decode b_I_unit 6 = .ok (.if_icmp .lt 5, 3) := by decide +kernel
theorem d_I_unit_9 : decode b_I_unit 9 = .ok (.iconst 2, 1) := by decide +kernel
theorem d_I_unit_10 : decode b_I_unit 10 = .ok (.ireturn, 1) := by decide +kernel
theorem d_I_unit_11 : decode b_I_unit 11 = .ok (.aload_n 0, 1) := by decide +kernel
theorem d_I_unit_12 : decode b_I_unit 12 = .ok (.getfield 9, 3) := by decide +kernel
theorem d_I_unit_15 : decode b_I_unit 15 = .ok (.bipush 10, 2) := by decide +kernel
theorem d_I_unit_17 : decode b_I_unit 17 = .ok (.if_icmp .eq 12, 3) := by decide +kernel
theorem d_I_unit_20 : decode b_I_unit 20 = .ok (.aload_n 0, 1) := by decide +kernel
theorem d_I_unit_21 : decode b_I_unit 21 = .ok (.getfield 9, 3) := by decide +kernel
theorem d_I_unit_24 : decode b_I_unit 24 = .ok (.bipush 14, 2) := by decide +kernel
theorem d_I_unit_26 : decode b_I_unit 26 = .ok (.if_icmp .lt 7, 3) := by decide +kernel
theorem d_I_unit_29 : decode b_I_unit 29 = .ok (.iconst 1, 1) := by decide +kernel
theorem d_I_unit_30 : decode b_I_unit 30 = .ok (.goto 4, 3) := by decide +kernel
theorem d_I_unit_33 : decode b_I_unit 33 = .ok (.iconst 0, 1) := by decide +kernel
theorem d_I_unit_34 : decode b_I_unit 34 = .ok (.ireturn, 1) := by decide +kernel
theorem d_I_isVector_0 : decode b_I_isVector 0 = .ok (.aload_n 0, 1) := by decide +kernel
theorem d_I_isVector_1 : decode b_I_isVector 1 = .ok (.getfield 9, 3) := by decide +kernel
theorem d_I_isVector_4 : decode b_I_isVector 4 = .ok (.bipush 8, 2) := by decide +kernel
theorem d_I_isVector_6 : decode b_I_isVector 6 = .ok (.if_icmp .lt 7, 3) := by decide +kernel
theorem d_I_isVector_9 : decode b_I_isVector 9 = .ok (.iconst 1, 1) := by decide +kernel
theorem d_I_isVector_10 : decode b_I_isVector 10 = .ok (.goto 4, 3) := by decide +kernel
theorem d_I_isVector_13 : decode b_I_isVector 13 = .ok (.iconst 0, 1) := by decide +kernel
theorem d_I_isVector_14 : decode b_I_isVector 14 = .ok (.ireturn, 1) := by decide +kernel
theorem d_I_hasGroupAtD_0 : decode b_I_hasGroupAtD 0 = .ok (.aload_n 0, 1) := by decide +kernel
theorem d_I_hasGroupAtD_1 : decode b_I_hasGroupAtD 1 = .ok (.getfield 9, 3) := by decide +kernel
theorem d_I_hasGroupAtD_4 : decode b_I_hasGroupAtD 4 = .ok (.bipush 12, 2) := by decide +kernel
theorem d_I_hasGroupAtD_6 : decode b_I_hasGroupAtD 6 = .ok (.if_icmp .eq 16, 3) := by decide +kernel
theorem d_I_hasGroupAtD_9 : decode b_I_hasGroupAtD 9 = .ok (.aload_n 0, 1) := by decide +kernel
theorem d_I_hasGroupAtD_10 : decode b_I_hasGroupAtD 10 = .ok (.getfield 9, 3) := by decide +kernel
theorem d_I_hasGroupAtD_13 : decode b_I_hasGroupAtD 13 = .ok (.bipush 14, 2) := by decide +kernel
theorem d_I_hasGroupAtD_15 : decode b_I_hasGroupAtD 15 = .ok (.if_icmp .eq 7, 3) := by decide +kernel
theorem d_I_hasGroupAtD_18 : decode b_I_hasGroupAtD 18 = .ok (.iconst 1, 1) := by decide +kernel
theorem d_I_hasGroupAtD_19 : decode b_I_hasGroupAtD 19 = .ok (.goto 4, 3) := by decide +kernel
theorem d_I_hasGroupAtD_22 : decode b_I_hasGroupAtD 22 = .ok (.iconst 0, 1) := by decide +kernel
theorem d_I_hasGroupAtD_23 : decode b_I_hasGroupAtD 23 = .ok (.ireturn, 1) := by decide +kernel
theorem d_I_hasGroupAtA_0 : decode b_I_hasGroupAtA 0 = .ok (.aload_n 0, 1) := by decide +kernel
theorem d_I_hasGroupAtA_1 : decode b_I_hasGroupAtA 1 = .ok (.getfield 9, 3) := by decide +kernel
theorem d_I_hasGroupAtA_4 : decode b_I_hasGroupAtA 4 = .ok (.bipush 16, 2) := by decide +kernel
theorem d_I_hasGroupAtA_6 : decode b_I_hasGroupAtA 6 = .ok (.if_icmp .gt 7, 3) := by decide +kernel
theorem d_I_hasGroupAtA_9 : decode b_I_hasGroupAtA 9 = .ok (.iconst 1, 1) := by decide +kernel
theorem d_I_hasGroupAtA_10 : decode b_I_hasGroupAtA 10 = .ok (.goto 4, 3) := by decide +kernel
theorem d_I_hasGroupAtA_13 : decode b_I_hasGroupAtA 13 = .ok (.iconst 0, 1) := by decide +kernel
theorem d_I_hasGroupAtA_14 : decode b_I_hasGroupAtA 14 = .ok (.ireturn, 1) := by decide +kernel
theorem d_I_hasGroupAtB_0 : decode b_I_hasGroupAtB 0 = .ok (.aload_n 0, 1) := by decide +kernel
theorem d_I_hasGroupAtB_1 : decode b_I_hasGroupAtB 1 = .ok (.getfield 9, 3) := by decide +kernel
theorem d_I_hasGroupAtB_4 : decode b_I_hasGroupAtB 4 = .ok (.bipush 19, 2) := by decide +kernel
theorem d_I_hasGroupAtB_6 : decode b_I_hasGroupAtB 6 = .ok (.if_icmp .eq 39, 3) := by decide +kernel
theorem d_I_hasGroupAtB_9 : decode b_I_hasGroupAtB 9 = .ok (.aload_n 0, 1) := by decide +kernel
theorem d_I_hasGroupAtB_10 : decode b_I_hasGroupAtB 10 = .ok (.getfield 9, 3) := by decide +kernel
theorem d_I_hasGroupAtB_13 : decode b_I_hasGroupAtB 13 = .ok (.bipush 16, 2) := by decide +kernel
theorem d_I_hasGroupAtB_15 : decode b_I_hasGroupAtB 15 = .ok (.if_icmp .gt 34, 3) := by decide +kernel
theorem d_I_hasGroupAtB_18 : decode b_I_hasGroupAtB 18 = .ok (.aload_n 0, 1) := by decide +kernel
theorem d_I_hasGroupAtB_19 : decode b_I_hasGroupAtB 19 = .ok (.getfield 9, 3) := by decide +kernel
theorem d_I_hasGroupAtB_22 : decode b_I_hasGroupAtB 22 = .ok (.bipush 11, 2) := by decide +kernel
theorem d_I_hasGroupAtB_24 : decode b_I_hasGroupAtB 24 = .ok (.if_icmp .eq 25, 3) := by decide +kernel
theorem d_I_hasGroupAtB_27 : decode b_I_hasGroupAtB 27 = .ok (.aload_n 0, 1) := by decide +kernel
theorem d_I_hasGroupAtB_28 : decode b_I_hasGroupAtB 28 = .ok (.getfield 9, 3) := by decide +kernel
theorem d_I_hasGroupAtB_31 : decode b_I_hasGroupAtB 31 = .ok (.bipush 15, 2) := by decide +kernel
theorem d_I_hasGroupAtB_33 : decode b_I_hasGroupAtB 33 = .ok (.if_icmp .eq 16, 3) := by decide +kernel
theorem d_I_hasGroupAtB_36 : decode b_I_hasGroupAtB 36 = .ok (.aload_n 0, 1) := by decide +kernel
theorem d_I_hasGroupAtB_37 : decode b_I_hasGroupAtB 37 = .ok (.getfield 9, 3) := by decide +kernel
theorem d_I_hasGroupAtB_40 : decode b_I_hasGroupAtB 40 = .ok (.bipush 14, 2) := by decide +kernel
theorem d_I_hasGroupAtB_42 : decode b_I_hasGroupAtB 42 = .ok (.if_icmp .eq 7, 3) := by decide +kernel
theorem d_I_hasGroupAtB_45 : decode b_I_hasGroupAtB 45 = .ok (.iconst 1, 1) := by decide +kernel
theorem d_I_hasGroupAtB_46 : decode b_I_hasGroupAtB 46 = .ok (.goto 4, 3) := by decide +kernel
theorem d_I_hasGroupAtB_49 : decode b_I_hasGroupAtB 49 = .ok (.iconst 0, 1) := by decide +kernel
theorem d_I_hasGroupAtB_50 : decode b_I_hasGroupAtB 50 = .ok (.ireturn, 1) := by decide +kernel
theorem d_I_needsEmptyQueue_0 : decode b_I_needsEmptyQueue 0 = .ok (.aload_n 0, 1) := by decide +kernel
theorem d_I_needsEmptyQueue_1 : decode b_I_needsEmptyQueue 1 = .ok (.getfield 9, 3) := by decide +kernel
theorem d_I_needsEmptyQueue_4 : decode b_I_needsEmptyQueue 4 = .ok (.bipush 7, 2) := by decide +kernel
theorem d_I_needsEmptyQueue_6 : decode b_I_needsEmptyQueue 6 = .ok (.if_icmp .eq 20, 3) := by decide +kernel
theorem d_I_needsEmptyQueue_9 : decode b_I_needsEmptyQueue 9 = .ok (.aload_n 0, 1) := by decide +kernel
theorem d_I_needsEmptyQueue_10 : decode b_I_needsEmptyQueue 10 = .ok (.getfield 9, 3) := by decide +kernel
theorem d_I_needsEmptyQueue_13 : decode b_I_needsEmptyQueue 13 = .ok (.bipush 6, 2) := by decide +kernel
theorem d_I_needsEmptyQueue_15 : decode b_I_needsEmptyQueue 15 = .ok (.if_icmp .eq 11, 3) := by decide +kernel
theorem d_I_needsEmptyQueue_18 : decode b_I_needsEmptyQueue 18 = .ok (.aload_n 0, 1) := by decide +kernel
theorem d_I_needsEmptyQueue_19 : decode b_I_needsEmptyQueue 19 = .ok (.getfield 9, 3) := by decide +kernel
theorem d_I_needsEmptyQueue_22 : decode b_I_needsEmptyQueue 22 = .ok (.iconst 5, 1) := by decide +kernel
theorem d_I_needsEmptyQueue_23 : decode b_I_needsEmptyQueue 23 = .ok (.if_icmp .ne 7, 3) := by decide +kernel
theorem d_I_needsEmptyQueue_26 : decode b_I_needsEmptyQueue 26 = .ok (.iconst 1, 1) := by decide +kernel
theorem d_I_needsEmptyQueue_27 : decode b_I_needsEmptyQueue 27 = .ok (.goto 4, 3) := by decide +kernel
theorem d_I_needsEmptyQueue_30 : decode b_I_needsEmptyQueue 30 = .ok (.iconst 0, 1) := by decide +kernel
theorem d_I_needsEmptyQueue_31 : decode b_I_needsEmptyQueue 31 = .ok (.ireturn, 1) := by decide +kernel
end
section
theorem d_S_init_0 : decode b_S_init 0 = .ok (.aload_n 0, 1) := by decide +kernel
theorem d_S_init_1 : decode b_S_init 1 = .ok (.invokespecial 3, 3) := by decide +kernel
theorem d_S_init_4 : decode b_S_init 4 = .ok (.return_, 1) := by decide +kernel
theorem d_S_width_0 : decode b_S_width 0 = .ok (.iconst 1, 1) := by decide +kernel
theorem d_S_width_1 : decode b_S_width 1 = .ok (.aload_n 0, 1) := by decide +kernel
theorem d_S_width_2 : decode b_S_width 2 = .ok (.getfield 9, 3) := by decide +kernel
theorem d_S_width_5 : decode b_S_width 5 = .ok (.ishl, 1) := by decide +kernel
theorem d_S_width_6 : decode b_S_width 6 = .ok (.ireturn, 1) := by decide +kernel
theorem d_S_group_0 : decode b_S_group 0 = .ok (.iconst 1, 1) := by decide +kernel
theorem d_S_group_1 : decode b_S_group 1 = .ok (.aload_n 0, 1) := by decide +kernel
theorem d_S_group_2 : decode b_S_group 2 = .ok (.getfield 15, 3) := by decide +kernel
theorem d_S_group_5 : decode b_S_group 5 = .ok (.ishl, 1) := by decide +kernel
theorem d_S_group_6 : decode b_S_group 6 = .ok (.ireturn, 1) := by decide +kernel
theorem d_S_isCode_0 : decode b_S_isCode 0 = .ok (.iload_n 0, 1) := by decide +kernel
theorem d_S_isCode_1 : decode b_S_isCode 1 = .ok (.ifCond .lt 20, 3) := by decide +kernel
theorem d_S_isCode_4 : decode b_S_isCode 4 = .ok (.iload_n 0, 1) := by decide +kernel
theorem d_S_isCode_5 : decode b_S_isCode 5 = .ok (.bipush 10, 2) := by decide +kernel
theorem d_S_isCode_7 : decode b_S_isCode 7 = .ok (.if_icmp .gt 14, 3) := by decide +kernel
theorem d_S_isCode_10 : decode b_S_isCode 10 = .ok (.iload_n 0, 1) := by decide +kernel
theorem d_S_isCode_11 : decode b_S_isCode 11 = .ok (.iconst 4, 1) := by decide +kernel
theorem d_S_isCode_12 : decode b_S_isCode 12 = .ok (.irem, 1) := by decide +kernel
theorem d_S_isCode_13 : decode b_S_isCode 13 = .ok (.iconst 3, 1) := by decide +kernel
theorem d_S_isCode_14 : decode b_S_isCode 14 = .ok (.if_icmp .eq 7, 3) := by decide +kernel
theorem d_S_isCode_17 : decode b_S_isCode 17 = .ok (.iconst 1, 1) := by decide +kernel
theorem d_S_isCode_18 : decode b_S_isCode 18 = .ok (.goto 4, 3) := by decide +kernel
theorem d_S_isCode_21 : decode b_S_isCode 21 = .ok (.iconst 0, 1) := by decide +kernel
theorem d_S_isCode_22 : decode b_S_isCode 22 = .ok (.ireturn, 1) := by decide +kernel
theorem d_S_forbids_0 : decode b_S_forbids 0 = .ok (.aload_n 1, 1) := by decide +kernel
theorem d_S_forbids_1 : decode b_S_forbids 1 = .ok (.invokevirtual 37, 3) := by decide +kernel
theorem d_S_forbids_4 : decode b_S_forbids 4 = .ok (.ifCond .eq 38, 3) := by decide +kernel
theorem d_S_forbids_7 : decode b_S_forbids 7 = .ok (.aload_n 0, 1) := by decide +kernel
theorem d_S_forbids_8 : decode b_S_forbids 8 = .ok (.aload_n 1, 1) := by decide +kernel
theorem d_S_forbids_9 : decode b_S_forbids 9 = .ok (.invokevirtual 43, 3) := by decide +kernel
theorem d_S_forbids_12 : decode b_S_forbids 12 = .ok (.ifCond .ne 26, 3) := by decide +kernel
theorem d_S_forbids_15 : decode b_S_forbids 15 = .ok (.aload_n 1, 1) := by decide +kernel
theorem d_S_forbids_16 : decode b_S_forbids 16 = .ok (.invokestatic 47, 3) := by decide +kernel
theorem d_S_forbids_19 : decode b_S_forbids 19 = .ok (.ifCond .ne 19, 3) := by decide +kernel
theorem d_S_forbids_22 : decode b_S_forbids 22 = .ok (.aload_n 0, 1) := by decide +kernel
theorem d_S_forbids_23 : decode b_S_forbids 23 = .ok (.aload_n 1, 1) := by decide +kernel
theorem d_S_forbids_24 : decode b_S_forbids 24 = .ok (.invokevirtual 50, 3) := by decide +kernel
theorem d_S_forbids_27 : decode b_S_forbids 27 = .ok (.ifCond .ne 11, 3) := by decide +kernel
theorem d_S_forbids_30 : decode b_S_forbids 30 = .ok (.aload_n 0, 1) := by decide +kernel
theorem d_S_forbids_31 : decode b_S_forbids 31 = .ok (.aload_n 1, 1) := by decide +kernel
theorem d_S_forbids_32 : decode b_S_forbids 32 = .ok (.invokevirtual 53, 3) := by decide +kernel
theorem d_S_forbids_35 : decode b_S_forbids 35 = .ok (.ifCond .eq 7, 3) := by decide +kernel
theorem d_S_forbids_38 : decode b_S_forbids 38 = .ok (.iconst 1, 1) := by decide +kernel
theorem d_S_forbids_39 : decode b_S_forbids 39 = .ok (.goto 4, 3) := by decide +kernel
theorem d_S_forbids_42 : decode b_S_forbids 42 = .ok (.iconst 0, 1) := by decide +kernel
theorem d_S_forbids_43 : decode b_S_forbids 43 = .ok (.ireturn, 1) := by decide +kernel
theorem d_S_isMisplaced_0 : decode b_S_isMisplaced 0 = .ok (.aload_n 1, 1) := by decide +kernel
theorem d_S_isMisplaced_1 : decode b_S_isMisplaced 1 = .ok (.getfield 56, 3) := by decide +kernel
theorem d_S_isMisplaced_4 : decode b_S_isMisplaced 4 = .ok (.bipush 13, 2) := by decide +kernel
theorem d_S_isMisplaced_6 : decode b_S_isMisplaced 6 = .ok (.if_icmp .ne 12, 3) := by decide +kernel
theorem d_S_isMisplaced_9 : decode b_S_isMisplaced 9 = .ok (.iconst 2, 1) := by decide +kernel
theorem d_S_isMisplaced_10 : decode b_S_isMisplaced 10 = .ok (.aload_n 0, 1) := by decide +kernel
theorem d_S_isMisplaced_11 : decode b_S_isMisplaced 11 = .ok (.invokevirtual 59, 3) := by decide +kernel
theorem d_S_isMisplaced_14 : decode b_S_isMisplaced 14 = .ok (.imul, 1) := by decide +kernel
theorem d_S_isMisplaced_15 : decode b_S_isMisplaced 15 = .ok (.goto 7, 3) := by decide +kernel
theorem d_S_isMisplaced_18 : decode b_S_isMisplaced 18 = .ok (.aload_n 0, 1) := by decide +kernel
theorem d_S_isMisplaced_19 : decode b_S_isMisplaced 19 = .ok (.invokevirtual 59, 3) := by decide +kernel
theorem d_S_isMisplaced_22 : decode b_S_isMisplaced 22 = .ok (.istore_n 2, 1) := by decide +kernel
theorem d_S_isMisplaced_23 : decode b_S_isMisplaced 23 = .ok (.aload_n 1, 1) := by decide +kernel
theorem d_S_isMisplaced_24 : decode b_S_isMisplaced 24 = .ok (.invokevirtual 62, 3) := by decide +kernel
theorem d_S_isMisplaced_27 : decode b_S_isMisplaced 27 = .ok (.ifCond .eq 14, 3) := by decide +kernel
theorem d_S_isMisplaced_30 : decode b_S_isMisplaced 30 = .ok (.aload_n 1, 1) := by decide +kernel
theorem d_S_isMisplaced_31 : decode b_S_isMisplaced 31 = .ok (.getfield 65, 3) := by decide +kernel
theorem d_S_isMisplaced_34 : decode b_S_isMisplaced 34 = .ok (.iload_n 2, 1) := by decide +kernel
theorem d_S_isMisplaced_35 : decode b_S_isMisplaced 35 = .ok (.invokestatic 68, 3) := by decide +kernel
theorem d_S_isMisplaced_38 : decode b_S_isMisplaced 38 = .ok (.ifCond .eq 45, 3) := by decide +kernel
theorem d_S_isMisplaced_41 : decode b_S_isMisplaced 41 = .ok (.aload_n 1, 1) := by decide +kernel
theorem d_S_isMisplaced_42 : decode b_S_isMisplaced 42 = .ok (.invokevirtual 72, 3) := by decide +kernel
theorem d_S_isMisplaced_45 : decode b_S_isMisplaced 45 = .ok (.ifCond .eq 17, 3) := by decide +kernel
theorem d_S_isMisplaced_48 : decode b_S_isMisplaced 48 = .ok (.aload_n 1, 1) := by decide +kernel
theorem d_S_isMisplaced_49 : decode b_S_isMisplaced 49 = .ok (.getfield 75, 3) := by decide +kernel
theorem d_S_isMisplaced_52 : decode b_S_isMisplaced 52 = .ok (.aload_n 0, 1) := by decide +kernel
theorem d_S_isMisplaced_53 : decode b_S_isMisplaced 53 = .ok (.invokevirtual 59, 3) := by decide +kernel
theorem d_S_isMisplaced_56 : decode b_S_isMisplaced 56 = .ok (.invokestatic 68, 3) := by decide +kernel
theorem d_S_isMisplaced_59 : decode b_S_isMisplaced 59 = .ok (.ifCond .eq 24, 3) := by decide +kernel
theorem d_S_isMisplaced_62 : decode b_S_isMisplaced 62 = .ok (.aload_n 1, 1) := by decide +kernel
theorem d_S_isMisplaced_63 : decode b_S_isMisplaced 63 = .ok (.invokevirtual 78, 3) := by decide +kernel
theorem d_S_isMisplaced_66 : decode b_S_isMisplaced 66 = .ok (.ifCond .eq 21, 3) := by decide +kernel
theorem d_S_isMisplaced_69 : decode b_S_isMisplaced 69 = .ok (.aload_n 1, 1) := by decide +kernel
theorem d_S_isMisplaced_70 : decode b_S_isMisplaced 70 = .ok (.getfield 81, 3) := by decide +kernel
theorem d_S_isMisplaced_73 : decode b_S_isMisplaced 73 = .ok (.aload_n 0, 1) := by decide +kernel
theorem d_S_isMisplaced_74 : decode b_S_isMisplaced 74 = .ok (.invokevirtual 59, 3) := by decide +kernel
theorem d_S_isMisplaced_77 : decode b_S_isMisplaced 77 = .ok (.invokestatic 68, 3) := by decide +kernel
theorem d_S_isMisplaced_80 : decode b_S_isMisplaced 80 = .ok (.ifCond .ne 7, 3) := by decide +kernel
theorem d_S_isMisplaced_83 : decode b_S_isMisplaced 83 = .ok (.iconst 1, 1) := by decide +kernel
theorem d_S_isMisplaced_84 : decode b_S_isMisplaced 84 = .ok (.goto 4, 3) := by decide +kernel
theorem d_S_isMisplaced_87 : decode b_S_isMisplaced 87 = .ok (.iconst 0, 1) := by decide +kernel
theorem d_S_isMisplaced_88 : decode b_S_isMisplaced 88 = .ok (.ireturn, 1) := by decide +kernel
theorem d_S_isMultiple_0 : decode b_S_isMultiple 0 = .ok (.iload_n 0, 1) := by decide +kernel
theorem d_S_isMultiple_1 : decode b_S_isMultiple 1 = .ok (.iload_n 1, 1) := by decide +kernel
theorem d_S_isMultiple_2 : decode b_S_isMultiple 2 = .ok (.iconst 1, 1) := by decide +kernel
theorem d_S_isMultiple_3 : decode b_S_isMultiple 3 = .ok (.isub, 1) := by decide +kernel
theorem d_S_isMultiple_4 : decode b_S_isMultiple 4 = .ok (.iand, 1) := by decide +kernel
theorem d_S_isMultiple_5 : decode b_S_isMultiple 5 = .ok (.ifCond .ne 7, 3) := by decide +kernel
theorem d_S_isMultiple_8 : decode b_S_isMultiple 8 = .ok (.iconst 1, 1) := by decide +kernel
theorem d_S_isMultiple_9 : decode b_S_isMultiple 9 = .ok (.goto 4, 3) := by decide +kernel
theorem d_S_isMultiple_12 : decode b_S_isMultiple 12 = .ok (.iconst 0, 1) := by decide +kernel
theorem d_S_isMultiple_13 : decode b_S_isMultiple 13 = .ok (.ireturn, 1) := by decide +kernel
theorem d_S_spoilsMask_0 : decode b_S_spoilsMask 0 = .ok (.aload_n 0, 1) := by decide +kernel
theorem d_S_spoilsMask_1 : decode b_S_spoilsMask 1 = .ok (.getfield 84, 3) := by decide +kernel
theorem d_S_spoilsMask_4 : decode b_S_spoilsMask 4 = .ok (.ifCond .eq 32, 3) := by decide +kernel
theorem d_S_spoilsMask_7 : decode b_S_spoilsMask 7 = .ok (.aload_n 0, 1) := by decide +kernel
theorem d_S_spoilsMask_8 : decode b_S_spoilsMask 8 = .ok (.getfield 65, 3) := by decide +kernel
theorem d_S_spoilsMask_11 : decode b_S_spoilsMask 11 = .ok (.ifCond .ne 25, 3) := by decide +kernel
theorem d_S_spoilsMask_14 : decode b_S_spoilsMask 14 = .ok (.aload_n 0, 1) := by decide +kernel
theorem d_S_spoilsMask_15 : decode b_S_spoilsMask 15 = .ok (.getfield 56, 3) := by decide +kernel
theorem d_S_spoilsMask_18 : decode b_S_spoilsMask 18 = .ok (.bipush 12, 2) := by decide +kernel
theorem d_S_spoilsMask_20 : decode b_S_spoilsMask 20 = .ok (.if_icmp .eq 16, 3) := by decide +kernel
theorem d_S_spoilsMask_23 : decode b_S_spoilsMask 23 = .ok (.aload_n 0, 1) := by decide +kernel
theorem d_S_spoilsMask_24 : decode b_S_spoilsMask 24 = .ok (.getfield 56, 3) := by decide +kernel
theorem d_S_spoilsMask_27 : decode b_S_spoilsMask 27 = .ok (.bipush 18, 2) := by decide +kernel
theorem d_S_spoilsMask_29 : decode b_S_spoilsMask 29 = .ok (.if_icmp .eq 7, 3) := by decide +kernel
theorem d_S_spoilsMask_32 : decode b_S_spoilsMask 32 = .ok (.iconst 1, 1) := by decide +kernel
theorem d_S_spoilsMask_33 : decode b_S_spoilsMask 33 = .ok (.goto 4, 3) := by decide +kernel
theorem d_S_spoilsMask_36 : decode b_S_spoilsMask 36 = .ok (.iconst 0, 1) := by decide +kernel
theorem d_S_spoilsMask_37 : decode b_S_spoilsMask 37 = .ok (.ireturn, 1) := by decide +kernel
theorem d_S_spoilsSources_0 : decode b_S_spoilsSources 0 = .ok (.aload_n 1, 1) := by decide +kernel
theorem d_S_spoilsSources_1 : decode b_S_spoilsSources 1 = .ok (.getfield 56, 3) := by decide +kernel
theorem d_S_spoilsSources_4 : decode b_S_spoilsSources 4 = .ok (.tableswitch 113 13 16 #[77, 113, 32, 49], 32) := by decide +kernel
theorem d_S_spoilsSources_36 : decode b_S_spoilsSources 36 = .ok (.aload_n 1, 1) := by decide +kernel
theorem d_S_spoilsSources_37 : decode b_S_spoilsSources 37 = .ok (.getfield 65, 3) := by decide +kernel
theorem d_S_spoilsSources_40 : decode b_S_spoilsSources 40 = .ok (.aload_n 1, 1) := by decide +kernel
theorem d_S_spoilsSources_41 : decode b_S_spoilsSources 41 = .ok (.getfield 75, 3) := by decide +kernel
theorem d_S_spoilsSources_44 : decode b_S_spoilsSources 44 = .ok (.if_icmp .ne 7, 3) := by decide +kernel
theorem d_S_spoilsSources_47 : decode b_S_spoilsSources 47 = .ok (.iconst 1, 1) := by decide +kernel
theorem d_S_spoilsSources_48 : decode b_S_spoilsSources 48 = .ok (.goto 4, 3) := by decide +kernel
theorem d_S_spoilsSources_51 : decode b_S_spoilsSources 51 = .ok (.iconst 0, 1) := by decide +kernel
theorem d_S_spoilsSources_52 : decode b_S_spoilsSources 52 = .ok (.ireturn, 1) := by decide +kernel
theorem d_S_spoilsSources_53 : decode b_S_spoilsSources 53 = .ok (.aload_n 1, 1) := by decide +kernel
theorem d_S_spoilsSources_54 : decode b_S_spoilsSources 54 = .ok (.getfield 65, 3) := by decide +kernel
theorem d_S_spoilsSources_57 : decode b_S_spoilsSources 57 = .ok (.aload_n 1, 1) := by decide +kernel
theorem d_S_spoilsSources_58 : decode b_S_spoilsSources 58 = .ok (.getfield 75, 3) := by decide +kernel
theorem d_S_spoilsSources_61 : decode b_S_spoilsSources 61 = .ok (.if_icmp .eq 14, 3) := by decide +kernel
theorem d_S_spoilsSources_64 : decode b_S_spoilsSources 64 = .ok (.aload_n 1, 1) := by decide +kernel
theorem d_S_spoilsSources_65 : decode b_S_spoilsSources 65 = .ok (.getfield 65, 3) := by decide +kernel
theorem d_S_spoilsSources_68 : decode b_S_spoilsSources 68 = .ok (.aload_n 1, 1) := by decide +kernel
theorem d_S_spoilsSources_69 : decode b_S_spoilsSources 69 = .ok (.getfield 81, 3) := by decide +kernel
theorem d_S_spoilsSources_72 : decode b_S_spoilsSources 72 = .ok (.if_icmp .ne 7, 3) := by decide +kernel
theorem d_S_spoilsSources_75 : decode b_S_spoilsSources 75 = .ok (.iconst 1, 1) := by decide +kernel
theorem d_S_spoilsSources_76 : decode b_S_spoilsSources 76 = .ok (.goto 4, 3) := by decide +kernel
theorem d_S_spoilsSources_79 : decode b_S_spoilsSources 79 = .ok (.iconst 0, 1) := by decide +kernel
theorem d_S_spoilsSources_80 : decode b_S_spoilsSources 80 = .ok (.ireturn, 1) := by decide +kernel
theorem d_S_spoilsSources_81 : decode b_S_spoilsSources 81 = .ok (.aload_n 0, 1) := by decide +kernel
theorem d_S_spoilsSources_82 : decode b_S_spoilsSources 82 = .ok (.aload_n 1, 1) := by decide +kernel
theorem d_S_spoilsSources_83 : decode b_S_spoilsSources 83 = .ok (.getfield 65, 3) := by decide +kernel
theorem d_S_spoilsSources_86 : decode b_S_spoilsSources 86 = .ok (.aload_n 1, 1) := by decide +kernel
theorem d_S_spoilsSources_87 : decode b_S_spoilsSources 87 = .ok (.getfield 75, 3) := by decide +kernel
theorem d_S_spoilsSources_90 : decode b_S_spoilsSources 90 = .ok (.invokevirtual 88, 3) := by decide +kernel
theorem d_S_spoilsSources_93 : decode b_S_spoilsSources 93 = .ok (.ifCond .ne 18, 3) := by decide +kernel
theorem d_S_spoilsSources_96 : decode b_S_spoilsSources 96 = .ok (.aload_n 0, 1) := by decide +kernel
theorem d_S_spoilsSources_97 : decode b_S_spoilsSources 97 = .ok (.aload_n 1, 1) := by decide +kernel
theorem d_S_spoilsSources_98 : decode b_S_spoilsSources 98 = .ok (.getfield 65, 3) := by decide +kernel
theorem d_S_spoilsSources_101 : decode b_S_spoilsSources 101 = .ok (.aload_n 1, 1) := by decide +kernel
theorem d_S_spoilsSources_102 : decode b_S_spoilsSources 102 = .ok (.getfield 81, 3) := by decide +kernel
theorem d_S_spoilsSources_105 : decode b_S_spoilsSources 105 = .ok (.invokevirtual 88, 3) := by decide +kernel
theorem d_S_spoilsSources_108 : decode b_S_spoilsSources 108 = .ok (.ifCond .eq 7, 3) := by decide +kernel
theorem d_S_spoilsSources_111 : decode b_S_spoilsSources 111 = .ok (.iconst 1, 1) := by decide +kernel
theorem d_S_spoilsSources_112 : decode b_S_spoilsSources 112 = .ok (.goto 4, 3) := by decide +kernel
theorem d_S_spoilsSources_115 : decode b_S_spoilsSources 115 = .ok (.iconst 0, 1) := by decide +kernel
theorem d_S_spoilsSources_116 : decode b_S_spoilsSources 116 = .ok (.ireturn, 1) := by decide +kernel
theorem d_S_spoilsSources_117 : decode b_S_spoilsSources 117 = .ok (.iconst 0, 1) := by decide +kernel
theorem d_S_spoilsSources_118 : decode b_S_spoilsSources 118 = .ok (.ireturn, 1) := by decide +kernel
theorem d_S_isInWideGroup_0 : decode b_S_isInWideGroup 0 = .ok (.iload_n 2, 1) := by decide +kernel
theorem d_S_isInWideGroup_1 : decode b_S_isInWideGroup 1 = .ok (.iload_n 1, 1) := by decide +kernel
theorem d_S_isInWideGroup_2 : decode b_S_isInWideGroup 2 = .ok (.if_icmp .lt 19, 3) := by decide +kernel
theorem d_S_isInWideGroup_5 : decode b_S_isInWideGroup 5 = .ok (.iload_n 2, 1) := by decide +kernel
theorem d_S_isInWideGroup_6 : decode b_S_isInWideGroup 6 = .ok (.iload_n 1, 1) := by decide +kernel
theorem d_S_isInWideGroup_7 : decode b_S_isInWideGroup 7 = .ok (.iconst 2, 1) := by decide +kernel
theorem d_S_isInWideGroup_8 : decode b_S_isInWideGroup 8 = .ok (.aload_n 0, 1) := by decide +kernel
theorem d_S_isInWideGroup_9 : decode b_S_isInWideGroup 9 = .ok (.invokevirtual 59, 3) := by decide +kernel
theorem d_S_isInWideGroup_12 : decode b_S_isInWideGroup 12 = .ok (.imul, 1) := by decide +kernel
theorem d_S_isInWideGroup_13 : decode b_S_isInWideGroup 13 = .ok (.iadd, 1) := by decide +kernel
theorem d_S_isInWideGroup_14 : decode b_S_isInWideGroup 14 = .ok (.if_icmp .ge 7, 3) := by decide +kernel
theorem d_S_isInWideGroup_17 : decode b_S_isInWideGroup 17 = .ok (.iconst 1, 1) := by decide +kernel
theorem d_S_isInWideGroup_18 : decode b_S_isInWideGroup 18 = .ok (.goto 4, 3) := by decide +kernel
theorem d_S_isInWideGroup_21 : decode b_S_isInWideGroup 21 = .ok (.iconst 0, 1) := by decide +kernel
theorem d_S_isInWideGroup_22 : decode b_S_isInWideGroup 22 = .ok (.ireturn, 1) := by decide +kernel
theorem d_S_isTooWide_0 : decode b_S_isTooWide 0 = .ok (.aload_n 1, 1) := by decide +kernel
theorem d_S_isTooWide_1 : decode b_S_isTooWide 1 = .ok (.getfield 56, 3) := by decide +kernel
theorem d_S_isTooWide_4 : decode b_S_isTooWide 4 = .ok (.bipush 13, 2) := by decide +kernel
theorem d_S_isTooWide_6 : decode b_S_isTooWide 6 = .ok (.if_icmp .ne 23, 3) := by decide +kernel
theorem d_S_isTooWide_9 : decode b_S_isTooWide 9 = .ok (.aload_n 0, 1) := by decide +kernel
theorem d_S_isTooWide_10 : decode b_S_isTooWide 10 = .ok (.invokevirtual 91, 3) := by decide +kernel
theorem d_S_isTooWide_13 : decode b_S_isTooWide 13 = .ok (.iconst 4, 1) := by decide +kernel
theorem d_S_isTooWide_14 : decode b_S_isTooWide 14 = .ok (.if_icmp .eq 11, 3) := by decide +kernel
theorem d_S_isTooWide_17 : decode b_S_isTooWide 17 = .ok (.aload_n 0, 1) := by decide +kernel
theorem d_S_isTooWide_18 : decode b_S_isTooWide 18 = .ok (.invokevirtual 59, 3) := by decide +kernel
theorem d_S_isTooWide_21 : decode b_S_isTooWide 21 = .ok (.iconst 4, 1) := by decide +kernel
theorem d_S_isTooWide_22 : decode b_S_isTooWide 22 = .ok (.if_icmp .ne 7, 3) := by decide +kernel
theorem d_S_isTooWide_25 : decode b_S_isTooWide 25 = .ok (.iconst 1, 1) := by decide +kernel
theorem d_S_isTooWide_26 : decode b_S_isTooWide 26 = .ok (.goto 4, 3) := by decide +kernel
theorem d_S_isTooWide_29 : decode b_S_isTooWide 29 = .ok (.iconst 0, 1) := by decide +kernel
theorem d_S_isTooWide_30 : decode b_S_isTooWide 30 = .ok (.ireturn, 1) := by decide +kernel
theorem d_S_most_0 : decode b_S_most 0 = .ok (.bipush 8, 2) := by decide +kernel
theorem d_S_most_2 : decode b_S_most 2 = .ok (.aload_n 0, 1) := by decide +kernel
theorem d_S_most_3 : decode b_S_most 3 = .ok (.getfield 15, 3) := by decide +kernel
theorem d_S_most_6 : decode b_S_most 6 = .ok (.ishl, 1) := by decide +kernel
theorem d_S_most_7 : decode b_S_most 7 = .ok (.aload_n 0, 1) := by decide +kernel
theorem d_S_most_8 : decode b_S_most 8 = .ok (.getfield 9, 3) := by decide +kernel
theorem d_S_most_11 : decode b_S_most 11 = .ok (.ishr, 1) := by decide +kernel
theorem d_S_most_12 : decode b_S_most 12 = .ok (.ireturn, 1) := by decide +kernel
theorem d_S_configure_0 : decode b_S_configure 0 = .ok (.aload_n 0, 1) := by decide +kernel
theorem d_S_configure_1 : decode b_S_configure 1 = .ok (.iload_n 1, 1) := by decide +kernel
theorem d_S_configure_2 : decode b_S_configure 2 = .ok (.iconst 4, 1) := by decide +kernel
theorem d_S_configure_3 : decode b_S_configure 3 = .ok (.irem, 1) := by decide +kernel
theorem d_S_configure_4 : decode b_S_configure 4 = .ok (.putfield 9, 3) := by decide +kernel
theorem d_S_configure_7 : decode b_S_configure 7 = .ok (.aload_n 0, 1) := by decide +kernel
theorem d_S_configure_8 : decode b_S_configure 8 = .ok (.iload_n 1, 1) := by decide +kernel
theorem d_S_configure_9 : decode b_S_configure 9 = .ok (.iconst 4, 1) := by decide +kernel
theorem d_S_configure_10 : decode b_S_configure 10 = .ok (.idiv, 1) := by decide +kernel
theorem d_S_configure_11 : decode b_S_configure 11 = .ok (.putfield 15, 3) := by decide +kernel
theorem d_S_configure_14 : decode b_S_configure 14 = .ok (.aload_n 0, 1) := by decide +kernel
theorem d_S_configure_15 : decode b_S_configure 15 = .ok (.iconst 0, 1) := by decide +kernel
theorem d_S_configure_16 : decode b_S_configure 16 = .ok (.aload_n 0, 1) := by decide +kernel
theorem d_S_configure_17 : decode b_S_configure 17 = .ok (.invokevirtual 18, 3) := by decide +kernel
theorem d_S_configure_20 : decode b_S_configure 20 = .ok (.iload_n 2, 1) := by decide +kernel
theorem d_S_configure_21 : decode b_S_configure 21 = .ok (.invokestatic 22, 3) := by decide +kernel
theorem d_S_configure_24 : decode b_S_configure 24 = .ok (.invokestatic 28, 3) := by decide +kernel
theorem d_S_configure_27 : decode b_S_configure 27 = .ok (.putfield 31, 3) := by decide +kernel
theorem d_S_configure_30 : decode b_S_configure 30 = .ok (.aload_n 0, 1) := by decide +kernel
theorem d_S_configure_31 : decode b_S_configure 31 = .ok (.iconst 0, 1) := by decide +kernel
theorem d_S_configure_32 : decode b_S_configure 32 = .ok (.putfield 34, 3) := by decide +kernel
theorem d_S_configure_35 : decode b_S_configure 35 = .ok (.return_, 1) := by decide +kernel
end
section
theorem d_K_init_0 : decode b_K_init 0 = .ok (.aload_n 0, 1) := by decide +kernel
theorem d_K_init_1 : decode b_K_init 1 = .ok (.invokespecial 3, 3) := by decide +kernel
theorem d_K_init_4 : decode b_K_init 4 = .ok (.aload_n 0, 1) := by decide +kernel
theorem d_K_init_5 : decode b_K_init 5 = .ok (.aload_n 1, 1) := by decide +kernel
theorem d_K_init_6 : decode b_K_init 6 = .ok (.putfield 9, 3) := by decide +kernel
theorem d_K_init_9 : decode b_K_init 9 = .ok (.aload_n 0, 1) := by decide +kernel
theorem d_K_init_10 : decode b_K_init 10 = .ok (.aload_n 2, 1) := by decide +kernel
theorem d_K_init_11 : decode b_K_init 11 = .ok (.putfield 15, 3) := by decide +kernel
theorem d_K_init_14 : decode b_K_init 14 = .ok (.aload_n 0, 1) := by decide +kernel
theorem d_K_init_15 : decode b_K_init 15 = .ok (.bipush 33, 2) := by decide +kernel
theorem d_K_init_17 : decode b_K_init 17 = .ok (.newarray .long, 2) := by decide +kernel
theorem d_K_init_19 : decode b_K_init 19 = .ok (.putfield 18, 3) := by decide +kernel
theorem d_K_init_22 : decode b_K_init 22 = .ok (.aload_n 0, 1) := by decide +kernel
theorem d_K_init_23 : decode b_K_init 23 = .ok (.bipush 33, 2) := by decide +kernel
theorem d_K_init_25 : decode b_K_init 25 = .ok (.newarray .long, 2) := by decide +kernel
theorem d_K_init_27 : decode b_K_init 27 = .ok (.putfield 22, 3) := by decide +kernel
theorem d_K_init_30 : decode b_K_init 30 = .ok (.aload_n 0, 1) := by decide +kernel
theorem d_K_init_31 : decode b_K_init 31 = .ok (.aload_n 3, 1) := by decide +kernel
theorem d_K_init_32 : decode b_K_init 32 = .ok (.putfield 25, 3) := by decide +kernel
theorem d_K_init_35 : decode b_K_init 35 = .ok (.return_, 1) := by decide +kernel
theorem d_K_steps_0 : decode b_K_steps 0 = .ok (.iconst 0, 1) := by decide +kernel
theorem d_K_steps_1 : decode b_K_steps 1 = .ok (.aload_n 0, 1) := by decide +kernel
theorem d_K_steps_2 : decode b_K_steps 2 = .ok (.getfield 66, 3) := by decide +kernel
theorem d_K_steps_5 : decode b_K_steps 5 = .ok (.aload_n 0, 1) := by decide +kernel
theorem d_K_steps_6 : decode b_K_steps 6 = .ok (.getfield 60, 3) := by decide +kernel
theorem d_K_steps_9 : decode b_K_steps 9 = .ok (.isub, 1) := by decide +kernel
theorem d_K_steps_10 : decode b_K_steps 10 = .ok (.invokestatic 72, 3) := by decide +kernel
theorem d_K_steps_13 : decode b_K_steps 13 = .ok (.istore_n 1, 1) := by decide +kernel
theorem d_K_steps_14 : decode b_K_steps 14 = .ok (.aload_n 0, 1) := by decide +kernel
theorem d_K_steps_15 : decode b_K_steps 15 = .ok (.getfield 25, 3) := by decide +kernel
theorem d_K_steps_18 : decode b_K_steps 18 = .ok (.getfield 78, 3) := by decide +kernel
theorem d_K_steps_21 : decode b_K_steps 21 = .ok (.bipush 14, 2) := by decide +kernel
theorem d_K_steps_23 : decode b_K_steps 23 = .ok (.if_icmp .ne 11, 3) := by decide +kernel
theorem d_K_steps_26 : decode b_K_steps 26 = .ok (.iconst 1, 1) := by decide +kernel
theorem d_K_steps_27 : decode b_K_steps 27 = .ok (.iload_n 1, 1) := by decide +kernel
theorem d_K_steps_28 : decode b_K_steps 28 = .ok (.invokestatic 83, 3) := by decide +kernel
theorem d_K_steps_31 : decode b_K_steps 31 = .ok (.goto 4, 3) := by decide +kernel
theorem d_K_steps_34 : decode b_K_steps 34 = .ok (.iload_n 1, 1) := by decide +kernel
theorem d_K_steps_35 : decode b_K_steps 35 = .ok (.ireturn, 1) := by decide +kernel
theorem d_K_isNextStepFree_0 : decode b_K_isNextStepFree 0 = .ok (.aload_n 0, 1) := by decide +kernel
theorem d_K_isNextStepFree_1 : decode b_K_isNextStepFree 1 = .ok (.invokevirtual 130, 3) := by decide +kernel
theorem d_K_isNextStepFree_4 : decode b_K_isNextStepFree 4 = .ok (.ifCond .eq 5, 3) := by decide +kernel
theorem d_K_isNextStepFree_7 : decode b_K_isNextStepFree 7 = .ok (.iconst 0, 1) := by decide +kernel
theorem d_K_isNextStepFree_8 : decode b_K_isNextStepFree 8 = .ok (.ireturn, 1) := by decide +kernel
theorem d_K_isNextStepFree_9 : decode b_K_isNextStepFree 9 = .ok (.aload_n 0, 1) := by decide +kernel
theorem d_K_isNextStepFree_10 : decode b_K_isNextStepFree 10 = .ok (.aload_n 0, 1) := by decide +kernel
theorem d_K_isNextStepFree_11 : decode b_K_isNextStepFree 11 = .ok (.getfield 69, 3) := by decide +kernel
theorem d_K_isNextStepFree_14 : decode b_K_isNextStepFree 14 = .ok (.invokevirtual 93, 3) := by decide +kernel
theorem d_K_isNextStepFree_17 : decode b_K_isNextStepFree 17 = .ok (.lstore 5, 2) := by decide +kernel
theorem d_K_isNextStepFree_19 : decode b_K_isNextStepFree 19 = .ok (.lload_n 3, 1) := by decide +kernel
theorem d_K_isNextStepFree_20 : decode b_K_isNextStepFree 20 = .ok (.aload_n 0, 1) := by decide +kernel
theorem d_K_isNextStepFree_21 : decode b_K_isNextStepFree 21 = .ok (.aload_n 0, 1) := by decide +kernel
theorem d_K_isNextStepFree_22 : decode b_K_isNextStepFree 22 = .ok (.getfield 69, 3) := by decide +kernel
theorem d_K_isNextStepFree_25 : decode b_K_isNextStepFree 25 = .ok (.invokevirtual 89, 3) := by decide +kernel
theorem d_K_isNextStepFree_28 : decode b_K_isNextStepFree 28 = .ok (.lload 5, 2) := by decide +kernel
theorem d_K_isNextStepFree_30 : decode b_K_isNextStepFree 30 = .ok (.lor, 1) := by decide +kernel
theorem d_K_isNextStepFree_31 : decode b_K_isNextStepFree 31 = .ok (.land, 1) := by decide +kernel
theorem d_K_isNextStepFree_32 : decode b_K_isNextStepFree 32 = .ok (.lconst 0, 1) := by decide +kernel
theorem d_K_isNextStepFree_33 : decode b_K_isNextStepFree 33 = .ok (.lcmp, 1) := by decide +kernel
theorem d_K_isNextStepFree_34 : decode b_K_isNextStepFree 34 = .ok (.ifCond .ne 16, 3) := by decide +kernel
theorem d_K_isNextStepFree_37 : decode b_K_isNextStepFree 37 = .ok (.lload_n 1, 1) := by decide +kernel
theorem d_K_isNextStepFree_38 : decode b_K_isNextStepFree 38 = .ok (.lload 5, 2) := by decide +kernel
theorem d_K_isNextStepFree_40 : decode b_K_isNextStepFree 40 = .ok (.land, 1) := by decide +kernel
theorem d_K_isNextStepFree_41 : decode b_K_isNextStepFree 41 = .ok (.lconst 0, 1) := by decide +kernel
theorem d_K_isNextStepFree_42 : decode b_K_isNextStepFree 42 = .ok (.lcmp, 1) := by decide +kernel
theorem d_K_isNextStepFree_43 : decode b_K_isNextStepFree 43 = .ok (.ifCond .ne 7, 3) := by decide +kernel
theorem d_K_isNextStepFree_46 : decode b_K_isNextStepFree 46 = .ok (.iconst 1, 1) := by decide +kernel
theorem d_K_isNextStepFree_47 : decode b_K_isNextStepFree 47 = .ok (.goto 4, 3) := by decide +kernel
theorem d_K_isNextStepFree_50 : decode b_K_isNextStepFree 50 = .ok (.iconst 0, 1) := by decide +kernel
theorem d_K_isNextStepFree_51 : decode b_K_isNextStepFree 51 = .ok (.ireturn, 1) := by decide +kernel
theorem d_K_isDone_0 : decode b_K_isDone 0 = .ok (.aload_n 0, 1) := by decide +kernel
theorem d_K_isDone_1 : decode b_K_isDone 1 = .ok (.getfield 69, 3) := by decide +kernel
theorem d_K_isDone_4 : decode b_K_isDone 4 = .ok (.aload_n 0, 1) := by decide +kernel
theorem d_K_isDone_5 : decode b_K_isDone 5 = .ok (.invokevirtual 86, 3) := by decide +kernel
theorem d_K_isDone_8 : decode b_K_isDone 8 = .ok (.if_icmp .lt 7, 3) := by decide +kernel
theorem d_K_isDone_11 : decode b_K_isDone 11 = .ok (.iconst 1, 1) := by decide +kernel
theorem d_K_isDone_12 : decode b_K_isDone 12 = .ok (.goto 4, 3) := by decide +kernel
theorem d_K_isDone_15 : decode b_K_isDone 15 = .ok (.iconst 0, 1) := by decide +kernel
theorem d_K_isDone_16 : decode b_K_isDone 16 = .ok (.ireturn, 1) := by decide +kernel
theorem d_K_writesOf_0 : decode b_K_writesOf 0 = .ok (.aload_n 0, 1) := by decide +kernel
theorem d_K_writesOf_1 : decode b_K_writesOf 1 = .ok (.getfield 60, 3) := by decide +kernel
theorem d_K_writesOf_4 : decode b_K_writesOf 4 = .ok (.iload_n 1, 1) := by decide +kernel
theorem d_K_writesOf_5 : decode b_K_writesOf 5 = .ok (.iadd, 1) := by decide +kernel
theorem d_K_writesOf_6 : decode b_K_writesOf 6 = .ok (.istore_n 2, 1) := by decide +kernel
theorem d_K_writesOf_7 : decode b_K_writesOf 7 = .ok (.aload_n 0, 1) := by decide +kernel
theorem d_K_writesOf_8 : decode b_K_writesOf 8 = .ok (.getfield 25, 3) := by decide +kernel
theorem d_K_writesOf_11 : decode b_K_writesOf 11 = .ok (.getfield 78, 3) := by decide +kernel
theorem d_K_writesOf_14 : decode b_K_writesOf 14 = .ok (.tableswitch 113 12 18 #[42, 62, 91, 113, 113, 113, 111], 42) := by decide +kernel
theorem d_K_writesOf_56 : decode b_K_writesOf 56 = .ok (.bipush 8, 2) := by decide +kernel
theorem d_K_writesOf_58 : decode b_K_writesOf 58 = .ok (.aload_n 0, 1) := by decide +kernel
theorem d_K_writesOf_59 : decode b_K_writesOf 59 = .ok (.getfield 25, 3) := by decide +kernel
theorem d_K_writesOf_62 : decode b_K_writesOf 62 = .ok (.getfield 123, 3) := by decide +kernel
theorem d_K_writesOf_65 : decode b_K_writesOf 65 = .ok (.imul, 1) := by decide +kernel
theorem d_K_writesOf_66 : decode b_K_writesOf 66 = .ok (.iload_n 2, 1) := by decide +kernel
theorem d_K_writesOf_67 : decode b_K_writesOf 67 = .ok (.bipush 8, 2) := by decide +kernel
theorem d_K_writesOf_69 : decode b_K_writesOf 69 = .ok (.idiv, 1) := by decide +kernel
theorem d_K_writesOf_70 : decode b_K_writesOf 70 = .ok (.iadd, 1) := by decide +kernel
theorem d_K_writesOf_71 : decode b_K_writesOf 71 = .ok (.iconst 1, 1) := by decide +kernel
theorem d_K_writesOf_72 : decode b_K_writesOf 72 = .ok (.invokestatic 112, 3) := by decide +kernel
theorem d_K_writesOf_75 : decode b_K_writesOf 75 = .ok (.lreturn, 1) := by decide +kernel
theorem d_K_writesOf_76 : decode b_K_writesOf 76 = .ok (.bipush 8, 2) := by decide +kernel
theorem d_K_writesOf_78 : decode b_K_writesOf 78 = .ok (.aload_n 0, 1) := by decide +kernel
theorem d_K_writesOf_79 : decode b_K_writesOf 79 = .ok (.getfield 25, 3) := by decide +kernel
theorem d_K_writesOf_82 : decode b_K_writesOf 82 = .ok (.getfield 123, 3) := by decide +kernel
theorem d_K_writesOf_85 : decode b_K_writesOf 85 = .ok (.imul, 1) := by decide +kernel
theorem d_K_writesOf_86 : decode b_K_writesOf 86 = .ok (.iconst 2, 1) := by decide +kernel
theorem d_K_writesOf_87 : decode b_K_writesOf 87 = .ok (.iload_n 2, 1) := by decide +kernel
theorem d_K_writesOf_88 : decode b_K_writesOf 88 = .ok (.imul, 1) := by decide +kernel
theorem d_K_writesOf_89 : decode b_K_writesOf 89 = .ok (.aload_n 0, 1) := by decide +kernel
theorem d_K_writesOf_90 : decode b_K_writesOf 90 = .ok (.getfield 45, 3) := by decide +kernel
theorem d_K_writesOf_93 : decode b_K_writesOf 93 = .ok (.imul, 1) := by decide +kernel
theorem d_K_writesOf_94 : decode b_K_writesOf 94 = .ok (.iadd, 1) := by decide +kernel
theorem d_K_writesOf_95 : decode b_K_writesOf 95 = .ok (.iconst 2, 1) := by decide +kernel
theorem d_K_writesOf_96 : decode b_K_writesOf 96 = .ok (.aload_n 0, 1) := by decide +kernel
theorem d_K_writesOf_97 : decode b_K_writesOf 97 = .ok (.getfield 45, 3) := by decide +kernel
theorem d_K_writesOf_100 : decode b_K_writesOf 100 = .ok (.imul, 1) := by decide +kernel
theorem d_K_writesOf_101 : decode b_K_writesOf 101 = .ok (.invokestatic 112, 3) := by decide +kernel
theorem d_K_writesOf_104 : decode b_K_writesOf 104 = .ok (.lreturn, 1) := by decide +kernel
theorem d_K_writesOf_105 : decode b_K_writesOf 105 = .ok (.aload_n 0, 1) := by decide +kernel
theorem d_K_writesOf_106 : decode b_K_writesOf 106 = .ok (.aload_n 0, 1) := by decide +kernel
theorem d_K_writesOf_107 : decode b_K_writesOf 107 = .ok (.getfield 25, 3) := by decide +kernel
theorem d_K_writesOf_110 : decode b_K_writesOf 110 = .ok (.getfield 123, 3) := by decide +kernel
theorem d_K_writesOf_113 : decode b_K_writesOf 113 = .ok (.iconst 0, 1) := by decide +kernel
theorem d_K_writesOf_114 : decode b_K_writesOf 114 = .ok (.invokevirtual 109, 3) := by decide +kernel
theorem d_K_writesOf_117 : decode b_K_writesOf 117 = .ok (.aload_n 0, 1) := by decide +kernel
theorem d_K_writesOf_118 : decode b_K_writesOf 118 = .ok (.getfield 45, 3) := by decide +kernel
theorem d_K_writesOf_121 : decode b_K_writesOf 121 = .ok (.invokestatic 112, 3) := by decide +kernel
theorem d_K_writesOf_124 : decode b_K_writesOf 124 = .ok (.lreturn, 1) := by decide +kernel
theorem d_K_writesOf_125 : decode b_K_writesOf 125 = .ok (.lconst 0, 1) := by decide +kernel
theorem d_K_writesOf_126 : decode b_K_writesOf 126 = .ok (.lreturn, 1) := by decide +kernel
theorem d_K_writesOf_127 : decode b_K_writesOf 127 = .ok (.aload_n 0, 1) := by decide +kernel
theorem d_K_writesOf_128 : decode b_K_writesOf 128 = .ok (.aload_n 0, 1) := by decide +kernel
theorem d_K_writesOf_129 : decode b_K_writesOf 129 = .ok (.getfield 25, 3) := by decide +kernel
theorem d_K_writesOf_132 : decode b_K_writesOf 132 = .ok (.getfield 123, 3) := by decide +kernel
theorem d_K_writesOf_135 : decode b_K_writesOf 135 = .ok (.iload_n 2, 1) := by decide +kernel
theorem d_K_writesOf_136 : decode b_K_writesOf 136 = .ok (.invokevirtual 109, 3) := by decide +kernel
theorem d_K_writesOf_139 : decode b_K_writesOf 139 = .ok (.aload_n 0, 1) := by decide +kernel
theorem d_K_writesOf_140 : decode b_K_writesOf 140 = .ok (.getfield 45, 3) := by decide +kernel
theorem d_K_writesOf_143 : decode b_K_writesOf 143 = .ok (.invokestatic 112, 3) := by decide +kernel
theorem d_K_writesOf_146 : decode b_K_writesOf 146 = .ok (.lreturn, 1) := by decide +kernel
theorem d_K_span_0 : decode b_K_span 0 = .ok (.lconst 1, 1) := by decide +kernel
theorem d_K_span_1 : decode b_K_span 1 = .ok (.iload_n 1, 1) := by decide +kernel
theorem d_K_span_2 : decode b_K_span 2 = .ok (.lshl, 1) := by decide +kernel
theorem d_K_span_3 : decode b_K_span 3 = .ok (.lconst 1, 1) := by decide +kernel
theorem d_K_span_4 : decode b_K_span 4 = .ok (.lsub, 1) := by decide +kernel
theorem d_K_span_5 : decode b_K_span 5 = .ok (.iload_n 0, 1) := by decide +kernel
theorem d_K_span_6 : decode b_K_span 6 = .ok (.lshl, 1) := by decide +kernel
theorem d_K_span_7 : decode b_K_span 7 = .ok (.lreturn, 1) := by decide +kernel
theorem d_K_placeOf_0 : decode b_K_placeOf 0 = .ok (.bipush 8, 2) := by decide +kernel
theorem d_K_placeOf_2 : decode b_K_placeOf 2 = .ok (.iload_n 1, 1) := by decide +kernel
theorem d_K_placeOf_3 : decode b_K_placeOf 3 = .ok (.imul, 1) := by decide +kernel
theorem d_K_placeOf_4 : decode b_K_placeOf 4 = .ok (.iload_n 2, 1) := by decide +kernel
theorem d_K_placeOf_5 : decode b_K_placeOf 5 = .ok (.aload_n 0, 1) := by decide +kernel
theorem d_K_placeOf_6 : decode b_K_placeOf 6 = .ok (.getfield 45, 3) := by decide +kernel
theorem d_K_placeOf_9 : decode b_K_placeOf 9 = .ok (.imul, 1) := by decide +kernel
theorem d_K_placeOf_10 : decode b_K_placeOf 10 = .ok (.iadd, 1) := by decide +kernel
theorem d_K_placeOf_11 : decode b_K_placeOf 11 = .ok (.ireturn, 1) := by decide +kernel
theorem d_K_readsOf_0 : decode b_K_readsOf 0 = .ok (.aload_n 0, 1) := by decide +kernel
theorem d_K_readsOf_1 : decode b_K_readsOf 1 = .ok (.getfield 60, 3) := by decide +kernel
theorem d_K_readsOf_4 : decode b_K_readsOf 4 = .ok (.iload_n 1, 1) := by decide +kernel
theorem d_K_readsOf_5 : decode b_K_readsOf 5 = .ok (.iadd, 1) := by decide +kernel
theorem d_K_readsOf_6 : decode b_K_readsOf 6 = .ok (.istore_n 2, 1) := by decide +kernel
theorem d_K_readsOf_7 : decode b_K_readsOf 7 = .ok (.aload_n 0, 1) := by decide +kernel
theorem d_K_readsOf_8 : decode b_K_readsOf 8 = .ok (.getfield 25, 3) := by decide +kernel
theorem d_K_readsOf_11 : decode b_K_readsOf 11 = .ok (.getfield 78, 3) := by decide +kernel
theorem d_K_readsOf_14 : decode b_K_readsOf 14 = .ok (.bipush 14, 2) := by decide +kernel
theorem d_K_readsOf_16 : decode b_K_readsOf 16 = .ok (.if_icmp .ne 10, 3) := by decide +kernel
theorem d_K_readsOf_19 : decode b_K_readsOf 19 = .ok (.aload_n 0, 1) := by decide +kernel
theorem d_K_readsOf_20 : decode b_K_readsOf 20 = .ok (.invokevirtual 96, 3) := by decide +kernel
theorem d_K_readsOf_23 : decode b_K_readsOf 23 = .ok (.goto 14, 3) := by decide +kernel
theorem d_K_readsOf_26 : decode b_K_readsOf 26 = .ok (.aload_n 0, 1) := by decide +kernel
theorem d_K_readsOf_27 : decode b_K_readsOf 27 = .ok (.iload_n 2, 1) := by decide +kernel
theorem d_K_readsOf_28 : decode b_K_readsOf 28 = .ok (.invokevirtual 100, 3) := by decide +kernel
theorem d_K_readsOf_31 : decode b_K_readsOf 31 = .ok (.aload_n 0, 1) := by decide +kernel
theorem d_K_readsOf_32 : decode b_K_readsOf 32 = .ok (.iload_n 2, 1) := by decide +kernel
theorem d_K_readsOf_33 : decode b_K_readsOf 33 = .ok (.invokevirtual 103, 3) := by decide +kernel
theorem d_K_readsOf_36 : decode b_K_readsOf 36 = .ok (.lor, 1) := by decide +kernel
theorem d_K_readsOf_37 : decode b_K_readsOf 37 = .ok (.lreturn, 1) := by decide +kernel
theorem d_K_readsOfSum_0 : decode b_K_readsOfSum 0 = .ok (.aload_n 0, 1) := by decide +kernel
theorem d_K_readsOfSum_1 : decode b_K_readsOfSum 1 = .ok (.aload_n 0, 1) := by decide +kernel
theorem d_K_readsOfSum_2 : decode b_K_readsOfSum 2 = .ok (.getfield 25, 3) := by decide +kernel
theorem d_K_readsOfSum_5 : decode b_K_readsOfSum 5 = .ok (.getfield 120, 3) := by decide +kernel
theorem d_K_readsOfSum_8 : decode b_K_readsOfSum 8 = .ok (.iconst 0, 1) := by decide +kernel
theorem d_K_readsOfSum_9 : decode b_K_readsOfSum 9 = .ok (.invokevirtual 109, 3) := by decide +kernel
theorem d_K_readsOfSum_12 : decode b_K_readsOfSum 12 = .ok (.aload_n 0, 1) := by decide +kernel
theorem d_K_readsOfSum_13 : decode b_K_readsOfSum 13 = .ok (.getfield 45, 3) := by decide +kernel
theorem d_K_readsOfSum_16 : decode b_K_readsOfSum 16 = .ok (.invokestatic 112, 3) := by decide +kernel
theorem d_K_readsOfSum_19 : decode b_K_readsOfSum 19 = .ok (.lstore_n 1, 1) := by decide +kernel
theorem d_K_readsOfSum_20 : decode b_K_readsOfSum 20 = .ok (.aload_n 0, 1) := by decide +kernel
theorem d_K_readsOfSum_21 : decode b_K_readsOfSum 21 = .ok (.getfield 60, 3) := by decide +kernel
theorem d_K_readsOfSum_24 : decode b_K_readsOfSum 24 = .ok (.istore_n 3, 1) := by decide +kernel
theorem d_K_readsOfSum_25 : decode b_K_readsOfSum 25 = .ok (.iload_n 3, 1) := by decide +kernel
theorem d_K_readsOfSum_26 : decode b_K_readsOfSum 26 = .ok (.aload_n 0, 1) := by decide +kernel
theorem d_K_readsOfSum_27 : decode b_K_readsOfSum 27 = .ok (.getfield 66, 3) := by decide +kernel
theorem d_K_readsOfSum_30 : decode b_K_readsOfSum 30 = .ok (.if_icmp .ge 37, 3) := by decide +kernel
theorem d_K_readsOfSum_33 : decode b_K_readsOfSum 33 = .ok (.lload_n 1, 1) := by decide +kernel
theorem d_K_readsOfSum_34 : decode b_K_readsOfSum 34 = .ok (.aload_n 0, 1) := by decide +kernel
theorem d_K_readsOfSum_35 : decode b_K_readsOfSum 35 = .ok (.iload_n 3, 1) := by decide +kernel
theorem d_K_readsOfSum_36 : decode b_K_readsOfSum 36 = .ok (.invokevirtual 100, 3) := by decide +kernel
theorem d_K_readsOfSum_39 : decode b_K_readsOfSum 39 = .ok (.aload_n 0, 1) := by decide +kernel
theorem d_K_readsOfSum_40 : decode b_K_readsOfSum 40 = .ok (.aload_n 0, 1) := by decide +kernel
theorem d_K_readsOfSum_41 : decode b_K_readsOfSum 41 = .ok (.getfield 25, 3) := by decide +kernel
theorem d_K_readsOfSum_44 : decode b_K_readsOfSum 44 = .ok (.getfield 106, 3) := by decide +kernel
theorem d_K_readsOfSum_47 : decode b_K_readsOfSum 47 = .ok (.iload_n 3, 1) := by decide +kernel
theorem d_K_readsOfSum_48 : decode b_K_readsOfSum 48 = .ok (.invokevirtual 109, 3) := by decide +kernel
theorem d_K_readsOfSum_51 : decode b_K_readsOfSum 51 = .ok (.aload_n 0, 1) := by decide +kernel
theorem d_K_readsOfSum_52 : decode b_K_readsOfSum 52 = .ok (.getfield 45, 3) := by decide +kernel
theorem d_K_readsOfSum_55 : decode b_K_readsOfSum 55 = .ok (.invokestatic 112, 3) := by decide +kernel
theorem d_K_readsOfSum_58 : decode b_K_readsOfSum 58 = .ok (.lor, 1) := by decide +kernel
theorem d_K_readsOfSum_59 : decode b_K_readsOfSum 59 = .ok (.lor, 1) := by decide +kernel
theorem d_K_readsOfSum_60 : decode b_K_readsOfSum 60 = .ok (.lstore_n 1, 1) := by decide +kernel
theorem d_K_readsOfSum_61 : decode b_K_readsOfSum 61 = .ok (.iinc 3 1, 3) := by decide +kernel
theorem d_K_readsOfSum_64 : decode b_K_readsOfSum 64 = .ok (.goto (-39), 3) := by decide +kernel
theorem d_K_readsOfSum_67 : decode b_K_readsOfSum 67 = .ok (.lload_n 1, 1) := by decide +kernel
theorem d_K_readsOfSum_68 : decode b_K_readsOfSum 68 = .ok (.lreturn, 1) := by decide +kernel
theorem d_K_maskByte_0 : decode b_K_maskByte 0 = .ok (.aload_n 0, 1) := by decide +kernel
theorem d_K_maskByte_1 : decode b_K_maskByte 1 = .ok (.getfield 25, 3) := by decide +kernel
theorem d_K_maskByte_4 : decode b_K_maskByte 4 = .ok (.getfield 126, 3) := by decide +kernel
theorem d_K_maskByte_7 : decode b_K_maskByte 7 = .ok (.ifCond .eq 12, 3) := by decide +kernel
theorem d_K_maskByte_10 : decode b_K_maskByte 10 = .ok (.lconst 1, 1) := by decide +kernel
theorem d_K_maskByte_11 : decode b_K_maskByte 11 = .ok (.iload_n 1, 1) := by decide +kernel
theorem d_K_maskByte_12 : decode b_K_maskByte 12 = .ok (.bipush 8, 2) := by decide +kernel
theorem d_K_maskByte_14 : decode b_K_maskByte 14 = .ok (.idiv, 1) := by decide +kernel
theorem d_K_maskByte_15 : decode b_K_maskByte 15 = .ok (.lshl, 1) := by decide +kernel
theorem d_K_maskByte_16 : decode b_K_maskByte 16 = .ok (.goto 4, 3) := by decide +kernel
theorem d_K_maskByte_19 : decode b_K_maskByte 19 = .ok (.lconst 0, 1) := by decide +kernel
theorem d_K_maskByte_20 : decode b_K_maskByte 20 = .ok (.lreturn, 1) := by decide +kernel
theorem d_K_sourcesOf_0 : decode b_K_sourcesOf 0 = .ok (.aload_n 0, 1) := by decide +kernel
theorem d_K_sourcesOf_1 : decode b_K_sourcesOf 1 = .ok (.getfield 25, 3) := by decide +kernel
theorem d_K_sourcesOf_4 : decode b_K_sourcesOf 4 = .ok (.getfield 78, 3) := by decide +kernel
theorem d_K_sourcesOf_7 : decode b_K_sourcesOf 7 = .ok (.tableswitch 200 11 20 #[53, 200, 200, 200, 73, 115, 198, 158, 178, 198], 53) := by decide +kernel
theorem d_K_sourcesOf_60 : decode b_K_sourcesOf 60 = .ok (.aload_n 0, 1) := by decide +kernel
theorem d_K_sourcesOf_61 : decode b_K_sourcesOf 61 = .ok (.aload_n 0, 1) := by decide +kernel
theorem d_K_sourcesOf_62 : decode b_K_sourcesOf 62 = .ok (.getfield 25, 3) := by decide +kernel
theorem d_K_sourcesOf_65 : decode b_K_sourcesOf 65 = .ok (.getfield 106, 3) := by decide +kernel
theorem d_K_sourcesOf_68 : decode b_K_sourcesOf 68 = .ok (.iload_n 1, 1) := by decide +kernel
theorem d_K_sourcesOf_69 : decode b_K_sourcesOf 69 = .ok (.invokevirtual 109, 3) := by decide +kernel
theorem d_K_sourcesOf_72 : decode b_K_sourcesOf 72 = .ok (.aload_n 0, 1) := by decide +kernel
theorem d_K_sourcesOf_73 : decode b_K_sourcesOf 73 = .ok (.getfield 45, 3) := by decide +kernel
theorem d_K_sourcesOf_76 : decode b_K_sourcesOf 76 = .ok (.invokestatic 112, 3) := by decide +kernel
theorem d_K_sourcesOf_79 : decode b_K_sourcesOf 79 = .ok (.lreturn, 1) := by decide +kernel
theorem d_K_sourcesOf_80 : decode b_K_sourcesOf 80 = .ok (.aload_n 0, 1) := by decide +kernel
theorem d_K_sourcesOf_81 : decode b_K_sourcesOf 81 = .ok (.iload_n 1, 1) := by decide +kernel
theorem d_K_sourcesOf_82 : decode b_K_sourcesOf 82 = .ok (.aload_n 0, 1) := by decide +kernel
theorem d_K_sourcesOf_83 : decode b_K_sourcesOf 83 = .ok (.getfield 36, 3) := by decide +kernel
theorem d_K_sourcesOf_86 : decode b_K_sourcesOf 86 = .ok (.iadd, 1) := by decide +kernel
theorem d_K_sourcesOf_87 : decode b_K_sourcesOf 87 = .ok (.invokevirtual 116, 3) := by decide +kernel
theorem d_K_sourcesOf_90 : decode b_K_sourcesOf 90 = .ok (.ifCond .eq 30, 3) := by decide +kernel
theorem d_K_sourcesOf_93 : decode b_K_sourcesOf 93 = .ok (.aload_n 0, 1) := by decide +kernel
theorem d_K_sourcesOf_94 : decode b_K_sourcesOf 94 = .ok (.aload_n 0, 1) := by decide +kernel
theorem d_K_sourcesOf_95 : decode b_K_sourcesOf 95 = .ok (.getfield 25, 3) := by decide +kernel
theorem d_K_sourcesOf_98 : decode b_K_sourcesOf 98 = .ok (.getfield 106, 3) := by decide +kernel
theorem d_K_sourcesOf_101 : decode b_K_sourcesOf 101 = .ok (.iload_n 1, 1) := by decide +kernel
theorem d_K_sourcesOf_102 : decode b_K_sourcesOf 102 = .ok (.aload_n 0, 1) := by decide +kernel
theorem d_K_sourcesOf_103 : decode b_K_sourcesOf 103 = .ok (.getfield 36, 3) := by decide +kernel
theorem d_K_sourcesOf_106 : decode b_K_sourcesOf 106 = .ok (.iadd, 1) := by decide +kernel
theorem d_K_sourcesOf_107 : decode b_K_sourcesOf 107 = .ok (.invokevirtual 109, 3) := by decide +kernel
theorem d_K_sourcesOf_110 : decode b_K_sourcesOf 110 = .ok (.aload_n 0, 1) := by decide +kernel
theorem d_K_sourcesOf_111 : decode b_K_sourcesOf 111 = .ok (.getfield 45, 3) := by decide +kernel
theorem d_K_sourcesOf_114 : decode b_K_sourcesOf 114 = .ok (.invokestatic 112, 3) := by decide +kernel
theorem d_K_sourcesOf_117 : decode b_K_sourcesOf 117 = .ok (.goto 4, 3) := by decide +kernel
theorem d_K_sourcesOf_120 : decode b_K_sourcesOf 120 = .ok (.lconst 0, 1) := by decide +kernel
theorem d_K_sourcesOf_121 : decode b_K_sourcesOf 121 = .ok (.lreturn, 1) := by decide +kernel
theorem d_K_sourcesOf_122 : decode b_K_sourcesOf 122 = .ok (.aload_n 0, 1) := by decide +kernel
theorem d_K_sourcesOf_123 : decode b_K_sourcesOf 123 = .ok (.aload_n 0, 1) := by decide +kernel
theorem d_K_sourcesOf_124 : decode b_K_sourcesOf 124 = .ok (.getfield 25, 3) := by decide +kernel
theorem d_K_sourcesOf_127 : decode b_K_sourcesOf 127 = .ok (.getfield 106, 3) := by decide +kernel
theorem d_K_sourcesOf_130 : decode b_K_sourcesOf 130 = .ok (.iconst 0, 1) := by decide +kernel
theorem d_K_sourcesOf_131 : decode b_K_sourcesOf 131 = .ok (.invokevirtual 109, 3) := by decide +kernel
theorem d_K_sourcesOf_134 : decode b_K_sourcesOf 134 = .ok (.bipush 8, 2) := by decide +kernel
theorem d_K_sourcesOf_136 : decode b_K_sourcesOf 136 = .ok (.aload_n 0, 1) := by decide +kernel
theorem d_K_sourcesOf_137 : decode b_K_sourcesOf 137 = .ok (.getfield 50, 3) := by decide +kernel
theorem d_K_sourcesOf_140 : decode b_K_sourcesOf 140 = .ok (.imul, 1) := by decide +kernel
theorem d_K_sourcesOf_141 : decode b_K_sourcesOf 141 = .ok (.invokestatic 112, 3) := by decide +kernel
theorem d_K_sourcesOf_144 : decode b_K_sourcesOf 144 = .ok (.aload_n 0, 1) := by decide +kernel
theorem d_K_sourcesOf_145 : decode b_K_sourcesOf 145 = .ok (.aload_n 0, 1) := by decide +kernel
theorem d_K_sourcesOf_146 : decode b_K_sourcesOf 146 = .ok (.getfield 25, 3) := by decide +kernel
theorem d_K_sourcesOf_149 : decode b_K_sourcesOf 149 = .ok (.getfield 120, 3) := by decide +kernel
theorem d_K_sourcesOf_152 : decode b_K_sourcesOf 152 = .ok (.iload_n 1, 1) := by decide +kernel
theorem d_K_sourcesOf_153 : decode b_K_sourcesOf 153 = .ok (.invokevirtual 109, 3) := by decide +kernel
theorem d_K_sourcesOf_156 : decode b_K_sourcesOf 156 = .ok (.aload_n 0, 1) := by decide +kernel
theorem d_K_sourcesOf_157 : decode b_K_sourcesOf 157 = .ok (.getfield 45, 3) := by decide +kernel
theorem d_K_sourcesOf_160 : decode b_K_sourcesOf 160 = .ok (.invokestatic 112, 3) := by decide +kernel
theorem d_K_sourcesOf_163 : decode b_K_sourcesOf 163 = .ok (.lor, 1) := by decide +kernel
theorem d_K_sourcesOf_164 : decode b_K_sourcesOf 164 = .ok (.lreturn, 1) := by decide +kernel
theorem d_K_sourcesOf_165 : decode b_K_sourcesOf 165 = .ok (.aload_n 0, 1) := by decide +kernel
theorem d_K_sourcesOf_166 : decode b_K_sourcesOf 166 = .ok (.aload_n 0, 1) := by decide +kernel
theorem d_K_sourcesOf_167 : decode b_K_sourcesOf 167 = .ok (.getfield 25, 3) := by decide +kernel
theorem d_K_sourcesOf_170 : decode b_K_sourcesOf 170 = .ok (.getfield 123, 3) := by decide +kernel
theorem d_K_sourcesOf_173 : decode b_K_sourcesOf 173 = .ok (.iload_n 1, 1) := by decide +kernel
theorem d_K_sourcesOf_174 : decode b_K_sourcesOf 174 = .ok (.invokevirtual 109, 3) := by decide +kernel
theorem d_K_sourcesOf_177 : decode b_K_sourcesOf 177 = .ok (.aload_n 0, 1) := by decide +kernel
theorem d_K_sourcesOf_178 : decode b_K_sourcesOf 178 = .ok (.getfield 45, 3) := by decide +kernel
theorem d_K_sourcesOf_181 : decode b_K_sourcesOf 181 = .ok (.invokestatic 112, 3) := by decide +kernel
theorem d_K_sourcesOf_184 : decode b_K_sourcesOf 184 = .ok (.lreturn, 1) := by decide +kernel
theorem d_K_sourcesOf_185 : decode b_K_sourcesOf 185 = .ok (.aload_n 0, 1) := by decide +kernel
theorem d_K_sourcesOf_186 : decode b_K_sourcesOf 186 = .ok (.aload_n 0, 1) := by decide +kernel
theorem d_K_sourcesOf_187 : decode b_K_sourcesOf 187 = .ok (.getfield 25, 3) := by decide +kernel
theorem d_K_sourcesOf_190 : decode b_K_sourcesOf 190 = .ok (.getfield 120, 3) := by decide +kernel
theorem d_K_sourcesOf_193 : decode b_K_sourcesOf 193 = .ok (.iload_n 1, 1) := by decide +kernel
theorem d_K_sourcesOf_194 : decode b_K_sourcesOf 194 = .ok (.invokevirtual 109, 3) := by decide +kernel
theorem d_K_sourcesOf_197 : decode b_K_sourcesOf 197 = .ok (.aload_n 0, 1) := by decide +kernel
theorem d_K_sourcesOf_198 : decode b_K_sourcesOf 198 = .ok (.getfield 45, 3) := by decide +kernel
theorem d_K_sourcesOf_201 : decode b_K_sourcesOf 201 = .ok (.invokestatic 112, 3) := by decide +kernel
theorem d_K_sourcesOf_204 : decode b_K_sourcesOf 204 = .ok (.lreturn, 1) := by decide +kernel
theorem d_K_sourcesOf_205 : decode b_K_sourcesOf 205 = .ok (.lconst 0, 1) := by decide +kernel
theorem d_K_sourcesOf_206 : decode b_K_sourcesOf 206 = .ok (.lreturn, 1) := by decide +kernel
theorem d_K_sourcesOf_207 : decode b_K_sourcesOf 207 = .ok (.aload_n 0, 1) := by decide +kernel
theorem d_K_sourcesOf_208 : decode b_K_sourcesOf 208 = .ok (.aload_n 0, 1) := by decide +kernel
theorem d_K_sourcesOf_209 : decode b_K_sourcesOf 209 = .ok (.getfield 25, 3) := by decide +kernel
theorem d_K_sourcesOf_212 : decode b_K_sourcesOf 212 = .ok (.getfield 106, 3) := by decide +kernel
theorem d_K_sourcesOf_215 : decode b_K_sourcesOf 215 = .ok (.iload_n 1, 1) := by decide +kernel
theorem d_K_sourcesOf_216 : decode b_K_sourcesOf 216 = .ok (.invokevirtual 109, 3) := by decide +kernel
theorem d_K_sourcesOf_219 : decode b_K_sourcesOf 219 = .ok (.aload_n 0, 1) := by decide +kernel
theorem d_K_sourcesOf_220 : decode b_K_sourcesOf 220 = .ok (.getfield 45, 3) := by decide +kernel
theorem d_K_sourcesOf_223 : decode b_K_sourcesOf 223 = .ok (.invokestatic 112, 3) := by decide +kernel
theorem d_K_sourcesOf_226 : decode b_K_sourcesOf 226 = .ok (.aload_n 0, 1) := by decide +kernel
theorem d_K_sourcesOf_227 : decode b_K_sourcesOf 227 = .ok (.aload_n 0, 1) := by decide +kernel
theorem d_K_sourcesOf_228 : decode b_K_sourcesOf 228 = .ok (.getfield 25, 3) := by decide +kernel
theorem d_K_sourcesOf_231 : decode b_K_sourcesOf 231 = .ok (.getfield 120, 3) := by decide +kernel
theorem d_K_sourcesOf_234 : decode b_K_sourcesOf 234 = .ok (.iload_n 1, 1) := by decide +kernel
theorem d_K_sourcesOf_235 : decode b_K_sourcesOf 235 = .ok (.invokevirtual 109, 3) := by decide +kernel
theorem d_K_sourcesOf_238 : decode b_K_sourcesOf 238 = .ok (.aload_n 0, 1) := by decide +kernel
theorem d_K_sourcesOf_239 : decode b_K_sourcesOf 239 = .ok (.getfield 45, 3) := by decide +kernel
theorem d_K_sourcesOf_242 : decode b_K_sourcesOf 242 = .ok (.invokestatic 112, 3) := by decide +kernel
theorem d_K_sourcesOf_245 : decode b_K_sourcesOf 245 = .ok (.lor, 1) := by decide +kernel
theorem d_K_sourcesOf_246 : decode b_K_sourcesOf 246 = .ok (.lreturn, 1) := by decide +kernel
theorem d_K_isInGroup_0 : decode b_K_isInGroup 0 = .ok (.iload_n 1, 1) := by decide +kernel
theorem d_K_isInGroup_1 : decode b_K_isInGroup 1 = .ok (.ifCond .lt 15, 3) := by decide +kernel
theorem d_K_isInGroup_4 : decode b_K_isInGroup 4 = .ok (.iload_n 1, 1) := by decide +kernel
theorem d_K_isInGroup_5 : decode b_K_isInGroup 5 = .ok (.aload_n 0, 1) := by decide +kernel
theorem d_K_isInGroup_6 : decode b_K_isInGroup 6 = .ok (.getfield 55, 3) := by decide +kernel
theorem d_K_isInGroup_9 : decode b_K_isInGroup 9 = .ok (.if_icmp .ge 7, 3) := by decide +kernel
theorem d_K_isInGroup_12 : decode b_K_isInGroup 12 = .ok (.iconst 1, 1) := by decide +kernel
theorem d_K_isInGroup_13 : decode b_K_isInGroup 13 = .ok (.goto 4, 3) := by decide +kernel
theorem d_K_isInGroup_16 : decode b_K_isInGroup 16 = .ok (.iconst 0, 1) := by decide +kernel
theorem d_K_isInGroup_17 : decode b_K_isInGroup 17 = .ok (.ireturn, 1) := by decide +kernel
theorem d_K_doNextStep_0 : decode b_K_doNextStep 0 = .ok (.aload_n 0, 1) := by decide +kernel
theorem d_K_doNextStep_1 : decode b_K_doNextStep 1 = .ok (.getfield 60, 3) := by decide +kernel
theorem d_K_doNextStep_4 : decode b_K_doNextStep 4 = .ok (.aload_n 0, 1) := by decide +kernel
theorem d_K_doNextStep_5 : decode b_K_doNextStep 5 = .ok (.getfield 69, 3) := by decide +kernel
theorem d_K_doNextStep_8 : decode b_K_doNextStep 8 = .ok (.iadd, 1) := by decide +kernel
theorem d_K_doNextStep_9 : decode b_K_doNextStep 9 = .ok (.istore_n 1, 1) := by decide +kernel
theorem d_K_doNextStep_10 : decode b_K_doNextStep 10 = .ok (.aload_n 0, 1) := by decide +kernel
theorem d_K_doNextStep_11 : decode b_K_doNextStep 11 = .ok (.dup, 1) := by decide +kernel
theorem d_K_doNextStep_12 : decode b_K_doNextStep 12 = .ok (.getfield 69, 3) := by decide +kernel
theorem d_K_doNextStep_15 : decode b_K_doNextStep 15 = .ok (.iconst 1, 1) := by decide +kernel
theorem d_K_doNextStep_16 : decode b_K_doNextStep 16 = .ok (.iadd, 1) := by decide +kernel
theorem d_K_doNextStep_17 : decode b_K_doNextStep 17 = .ok (.putfield 69, 3) := by decide +kernel
theorem d_K_doNextStep_20 : decode b_K_doNextStep 20 = .ok (.aload_n 0, 1) := by decide +kernel
theorem d_K_doNextStep_21 : decode b_K_doNextStep 21 = .ok (.getfield 25, 3) := by decide +kernel
theorem d_K_doNextStep_24 : decode b_K_doNextStep 24 = .ok (.getfield 78, 3) := by decide +kernel
theorem d_K_doNextStep_27 : decode b_K_doNextStep 27 = .ok (.bipush 14, 2) := by decide +kernel
theorem d_K_doNextStep_29 : decode b_K_doNextStep 29 = .ok (.if_icmp .eq 12, 3) := by decide +kernel
theorem d_K_doNextStep_32 : decode b_K_doNextStep 32 = .ok (.aload_n 0, 1) := by decide +kernel
theorem d_K_doNextStep_33 : decode b_K_doNextStep 33 = .ok (.iload_n 1, 1) := by decide +kernel
theorem d_K_doNextStep_34 : decode b_K_doNextStep 34 = .ok (.invokevirtual 134, 3) := by decide +kernel
theorem d_K_doNextStep_37 : decode b_K_doNextStep 37 = .ok (.ifCond .ne 4, 3) := by decide +kernel
theorem d_K_doNextStep_40 : decode b_K_doNextStep 40 = .ok (.return_, 1) := by decide +kernel
theorem d_K_doNextStep_41 : decode b_K_doNextStep 41 = .ok (.aload_n 0, 1) := by decide +kernel
theorem d_K_doNextStep_42 : decode b_K_doNextStep 42 = .ok (.getfield 25, 3) := by decide +kernel
theorem d_K_doNextStep_45 : decode b_K_doNextStep 45 = .ok (.getfield 78, 3) := by decide +kernel
theorem d_K_doNextStep_48 : decode b_K_doNextStep 48 = .ok (.tableswitch 162 12 18 #[51, 91, 44, 162, 162, 162, 131], 44) := by decide +kernel
theorem d_K_doNextStep_92 : decode b_K_doNextStep 92 = .ok (.aload_n 0, 1) := by decide +kernel
theorem d_K_doNextStep_93 : decode b_K_doNextStep 93 = .ok (.invokevirtual 137, 3) := by decide +kernel
theorem d_K_doNextStep_96 : decode b_K_doNextStep 96 = .ok (.goto 142, 3) := by decide +kernel
theorem d_K_doNextStep_99 : decode b_K_doNextStep 99 = .ok (.aload_n 0, 1) := by decide +kernel
theorem d_K_doNextStep_100 : decode b_K_doNextStep 100 = .ok (.iload_n 1, 1) := by decide +kernel
theorem d_K_doNextStep_101 : decode b_K_doNextStep 101 = .ok (.aload_n 0, 1) := by decide +kernel
theorem d_K_doNextStep_102 : decode b_K_doNextStep 102 = .ok (.aload_n 0, 1) := by decide +kernel
theorem d_K_doNextStep_103 : decode b_K_doNextStep 103 = .ok (.getfield 25, 3) := by decide +kernel
theorem d_K_doNextStep_106 : decode b_K_doNextStep 106 = .ok (.getfield 106, 3) := by decide +kernel
theorem d_K_doNextStep_109 : decode b_K_doNextStep 109 = .ok (.iload_n 1, 1) := by decide +kernel
theorem d_K_doNextStep_110 : decode b_K_doNextStep 110 = .ok (.invokevirtual 140, 3) := by decide +kernel
theorem d_K_doNextStep_113 : decode b_K_doNextStep 113 = .ok (.aload_n 0, 1) := by decide +kernel
theorem d_K_doNextStep_114 : decode b_K_doNextStep 114 = .ok (.aload_n 0, 1) := by decide +kernel
theorem d_K_doNextStep_115 : decode b_K_doNextStep 115 = .ok (.getfield 25, 3) := by decide +kernel
theorem d_K_doNextStep_118 : decode b_K_doNextStep 118 = .ok (.getfield 120, 3) := by decide +kernel
theorem d_K_doNextStep_121 : decode b_K_doNextStep 121 = .ok (.iload_n 1, 1) := by decide +kernel
theorem d_K_doNextStep_122 : decode b_K_doNextStep 122 = .ok (.invokevirtual 140, 3) := by decide +kernel
theorem d_K_doNextStep_125 : decode b_K_doNextStep 125 = .ok (.if_icmp .ge 7, 3) := by decide +kernel
theorem d_K_doNextStep_128 : decode b_K_doNextStep 128 = .ok (.iconst 1, 1) := by decide +kernel
theorem d_K_doNextStep_129 : decode b_K_doNextStep 129 = .ok (.goto 4, 3) := by decide +kernel
theorem d_K_doNextStep_132 : decode b_K_doNextStep 132 = .ok (.iconst 0, 1) := by decide +kernel
theorem d_K_doNextStep_133 : decode b_K_doNextStep 133 = .ok (.invokevirtual 143, 3) := by decide +kernel
theorem d_K_doNextStep_136 : decode b_K_doNextStep 136 = .ok (.goto 102, 3) := by decide +kernel
theorem d_K_doNextStep_139 : decode b_K_doNextStep 139 = .ok (.aload_n 0, 1) := by decide +kernel
theorem d_K_doNextStep_140 : decode b_K_doNextStep 140 = .ok (.getfield 9, 3) := by decide +kernel
theorem d_K_doNextStep_143 : decode b_K_doNextStep 143 = .ok (.bipush 8, 2) := by decide +kernel
theorem d_K_doNextStep_145 : decode b_K_doNextStep 145 = .ok (.aload_n 0, 1) := by decide +kernel
theorem d_K_doNextStep_146 : decode b_K_doNextStep 146 = .ok (.getfield 25, 3) := by decide +kernel
theorem d_K_doNextStep_149 : decode b_K_doNextStep 149 = .ok (.getfield 123, 3) := by decide +kernel
theorem d_K_doNextStep_152 : decode b_K_doNextStep 152 = .ok (.imul, 1) := by decide +kernel
theorem d_K_doNextStep_153 : decode b_K_doNextStep 153 = .ok (.iconst 2, 1) := by decide +kernel
theorem d_K_doNextStep_154 : decode b_K_doNextStep 154 = .ok (.iload_n 1, 1) := by decide +kernel
theorem d_K_doNextStep_155 : decode b_K_doNextStep 155 = .ok (.imul, 1) := by decide +kernel
theorem d_K_doNextStep_156 : decode b_K_doNextStep 156 = .ok (.aload_n 0, 1) := by decide +kernel
theorem d_K_doNextStep_157 : decode b_K_doNextStep 157 = .ok (.getfield 45, 3) := by decide +kernel
theorem d_K_doNextStep_160 : decode b_K_doNextStep 160 = .ok (.imul, 1) := by decide +kernel
theorem d_K_doNextStep_161 : decode b_K_doNextStep 161 = .ok (.iadd, 1) := by decide +kernel
theorem d_K_doNextStep_162 : decode b_K_doNextStep 162 = .ok (.iconst 2, 1) := by decide +kernel
theorem d_K_doNextStep_163 : decode b_K_doNextStep 163 = .ok (.aload_n 0, 1) := by decide +kernel
theorem d_K_doNextStep_164 : decode b_K_doNextStep 164 = .ok (.getfield 45, 3) := by decide +kernel
theorem d_K_doNextStep_167 : decode b_K_doNextStep 167 = .ok (.imul, 1) := by decide +kernel
theorem d_K_doNextStep_168 : decode b_K_doNextStep 168 = .ok (.aload_n 0, 1) := by decide +kernel
theorem d_K_doNextStep_169 : decode b_K_doNextStep 169 = .ok (.iload_n 1, 1) := by decide +kernel
theorem d_K_doNextStep_170 : decode b_K_doNextStep 170 = .ok (.invokevirtual 147, 3) := by decide +kernel
theorem d_K_doNextStep_173 : decode b_K_doNextStep 173 = .ok (.invokevirtual 151, 3) := by decide +kernel
theorem d_K_doNextStep_176 : decode b_K_doNextStep 176 = .ok (.goto 62, 3) := by decide +kernel
theorem d_K_doNextStep_179 : decode b_K_doNextStep 179 = .ok (.aload_n 0, 1) := by decide +kernel
theorem d_K_doNextStep_180 : decode b_K_doNextStep 180 = .ok (.getfield 15, 3) := by decide +kernel
theorem d_K_doNextStep_183 : decode b_K_doNextStep 183 = .ok (.aload_n 0, 1) := by decide +kernel
theorem d_K_doNextStep_184 : decode b_K_doNextStep 184 = .ok (.iload_n 1, 1) := by decide +kernel
theorem d_K_doNextStep_185 : decode b_K_doNextStep 185 = .ok (.invokevirtual 157, 3) := by decide +kernel
theorem d_K_doNextStep_188 : decode b_K_doNextStep 188 = .ok (.aload_n 0, 1) := by decide +kernel
theorem d_K_doNextStep_189 : decode b_K_doNextStep 189 = .ok (.getfield 45, 3) := by decide +kernel
theorem d_K_doNextStep_192 : decode b_K_doNextStep 192 = .ok (.aload_n 0, 1) := by decide +kernel
theorem d_K_doNextStep_193 : decode b_K_doNextStep 193 = .ok (.aload_n 0, 1) := by decide +kernel
theorem d_K_doNextStep_194 : decode b_K_doNextStep 194 = .ok (.getfield 25, 3) := by decide +kernel
theorem d_K_doNextStep_197 : decode b_K_doNextStep 197 = .ok (.getfield 123, 3) := by decide +kernel
theorem d_K_doNextStep_200 : decode b_K_doNextStep 200 = .ok (.iload_n 1, 1) := by decide +kernel
theorem d_K_doNextStep_201 : decode b_K_doNextStep 201 = .ok (.invokevirtual 140, 3) := by decide +kernel
theorem d_K_doNextStep_204 : decode b_K_doNextStep 204 = .ok (.invokevirtual 151, 3) := by decide +kernel
theorem d_K_doNextStep_207 : decode b_K_doNextStep 207 = .ok (.goto 31, 3) := by decide +kernel
theorem d_K_doNextStep_210 : decode b_K_doNextStep 210 = .ok (.aload_n 0, 1) := by decide +kernel
theorem d_K_doNextStep_211 : decode b_K_doNextStep 211 = .ok (.getfield 9, 3) := by decide +kernel
theorem d_K_doNextStep_214 : decode b_K_doNextStep 214 = .ok (.aload_n 0, 1) := by decide +kernel
theorem d_K_doNextStep_215 : decode b_K_doNextStep 215 = .ok (.aload_n 0, 1) := by decide +kernel
theorem d_K_doNextStep_216 : decode b_K_doNextStep 216 = .ok (.getfield 25, 3) := by decide +kernel
theorem d_K_doNextStep_219 : decode b_K_doNextStep 219 = .ok (.getfield 123, 3) := by decide +kernel
theorem d_K_doNextStep_222 : decode b_K_doNextStep 222 = .ok (.iload_n 1, 1) := by decide +kernel
theorem d_K_doNextStep_223 : decode b_K_doNextStep 223 = .ok (.invokevirtual 109, 3) := by decide +kernel
theorem d_K_doNextStep_226 : decode b_K_doNextStep 226 = .ok (.aload_n 0, 1) := by decide +kernel
theorem d_K_doNextStep_227 : decode b_K_doNextStep 227 = .ok (.getfield 45, 3) := by decide +kernel
theorem d_K_doNextStep_230 : decode b_K_doNextStep 230 = .ok (.aload_n 0, 1) := by decide +kernel
theorem d_K_doNextStep_231 : decode b_K_doNextStep 231 = .ok (.iload_n 1, 1) := by decide +kernel
theorem d_K_doNextStep_232 : decode b_K_doNextStep 232 = .ok (.invokevirtual 147, 3) := by decide +kernel
theorem d_K_doNextStep_235 : decode b_K_doNextStep 235 = .ok (.invokevirtual 151, 3) := by decide +kernel
theorem d_K_doNextStep_238 : decode b_K_doNextStep 238 = .ok (.return_, 1) := by decide +kernel
theorem d_K_isWorkedOn_0 : decode b_K_isWorkedOn 0 = .ok (.aload_n 0, 1) := by decide +kernel
theorem d_K_isWorkedOn_1 : decode b_K_isWorkedOn 1 = .ok (.getfield 25, 3) := by decide +kernel
theorem d_K_isWorkedOn_4 : decode b_K_isWorkedOn 4 = .ok (.getfield 126, 3) := by decide +kernel
theorem d_K_isWorkedOn_7 : decode b_K_isWorkedOn 7 = .ok (.ifCond .eq 26, 3) := by decide +kernel
theorem d_K_isWorkedOn_10 : decode b_K_isWorkedOn 10 = .ok (.aload_n 0, 1) := by decide +kernel
theorem d_K_isWorkedOn_11 : decode b_K_isWorkedOn 11 = .ok (.getfield 9, 3) := by decide +kernel
theorem d_K_isWorkedOn_14 : decode b_K_isWorkedOn 14 = .ok (.iload_n 1, 1) := by decide +kernel
theorem d_K_isWorkedOn_15 : decode b_K_isWorkedOn 15 = .ok (.bipush 8, 2) := by decide +kernel
theorem d_K_isWorkedOn_17 : decode b_K_isWorkedOn 17 = .ok (.idiv, 1) := by decide +kernel
theorem d_K_isWorkedOn_18 : decode b_K_isWorkedOn 18 = .ok (.iconst 1, 1) := by decide +kernel
theorem d_K_isWorkedOn_19 : decode b_K_isWorkedOn 19 = .ok (.invokevirtual 160, 3) := by decide +kernel
theorem d_K_isWorkedOn_22 : decode b_K_isWorkedOn 22 = .ok (.iload_n 1, 1) := by decide +kernel
theorem d_K_isWorkedOn_23 : decode b_K_isWorkedOn 23 = .ok (.bipush 8, 2) := by decide +kernel
theorem d_K_isWorkedOn_25 : decode b_K_isWorkedOn 25 = .ok (.irem, 1) := by decide +kernel
theorem d_K_isWorkedOn_26 : decode b_K_isWorkedOn 26 = .ok (.ishr, 1) := by decide +kernel
theorem d_K_isWorkedOn_27 : decode b_K_isWorkedOn 27 = .ok (.iconst 1, 1) := by decide +kernel
theorem d_K_isWorkedOn_28 : decode b_K_isWorkedOn 28 = .ok (.iand, 1) := by decide +kernel
theorem d_K_isWorkedOn_29 : decode b_K_isWorkedOn 29 = .ok (.iconst 1, 1) := by decide +kernel
theorem d_K_isWorkedOn_30 : decode b_K_isWorkedOn 30 = .ok (.if_icmp .ne 7, 3) := by decide +kernel
theorem d_K_isWorkedOn_33 : decode b_K_isWorkedOn 33 = .ok (.iconst 1, 1) := by decide +kernel
theorem d_K_isWorkedOn_34 : decode b_K_isWorkedOn 34 = .ok (.goto 4, 3) := by decide +kernel
theorem d_K_isWorkedOn_37 : decode b_K_isWorkedOn 37 = .ok (.iconst 0, 1) := by decide +kernel
theorem d_K_isWorkedOn_38 : decode b_K_isWorkedOn 38 = .ok (.ireturn, 1) := by decide +kernel
theorem d_K_writeSum_0 : decode b_K_writeSum 0 = .ok (.aload_n 0, 1) := by decide +kernel
theorem d_K_writeSum_1 : decode b_K_writeSum 1 = .ok (.aload_n 0, 1) := by decide +kernel
theorem d_K_writeSum_2 : decode b_K_writeSum 2 = .ok (.getfield 25, 3) := by decide +kernel
theorem d_K_writeSum_5 : decode b_K_writeSum 5 = .ok (.getfield 120, 3) := by decide +kernel
theorem d_K_writeSum_8 : decode b_K_writeSum 8 = .ok (.iconst 0, 1) := by decide +kernel
theorem d_K_writeSum_9 : decode b_K_writeSum 9 = .ok (.invokevirtual 140, 3) := by decide +kernel
theorem d_K_writeSum_12 : decode b_K_writeSum 12 = .ok (.istore_n 1, 1) := by decide +kernel
theorem d_K_writeSum_13 : decode b_K_writeSum 13 = .ok (.iconst 0, 1) := by decide +kernel
theorem d_K_writeSum_14 : decode b_K_writeSum 14 = .ok (.istore_n 2, 1) := by decide +kernel
theorem d_K_writeSum_15 : decode b_K_writeSum 15 = .ok (.aload_n 0, 1) := by decide +kernel
theorem d_K_writeSum_16 : decode b_K_writeSum 16 = .ok (.getfield 60, 3) := by decide +kernel
theorem d_K_writeSum_19 : decode b_K_writeSum 19 = .ok (.istore_n 3, 1) := by decide +kernel
theorem d_K_writeSum_20 : decode b_K_writeSum 20 = .ok (.iload_n 3, 1) := by decide +kernel
theorem d_K_writeSum_21 : decode b_K_writeSum 21 = .ok (.aload_n 0, 1) := by decide +kernel
theorem d_K_writeSum_22 : decode b_K_writeSum 22 = .ok (.getfield 66, 3) := by decide +kernel
theorem d_K_writeSum_25 : decode b_K_writeSum 25 = .ok (.if_icmp .ge 34, 3) := by decide +kernel
theorem d_K_writeSum_28 : decode b_K_writeSum 28 = .ok (.aload_n 0, 1) := by decide +kernel
theorem d_K_writeSum_29 : decode b_K_writeSum 29 = .ok (.iload_n 3, 1) := by decide +kernel
theorem d_K_writeSum_30 : decode b_K_writeSum 30 = .ok (.invokevirtual 134, 3) := by decide +kernel
theorem d_K_writeSum_33 : decode b_K_writeSum 33 = .ok (.ifCond .eq 20, 3) := by decide +kernel
theorem d_K_writeSum_36 : decode b_K_writeSum 36 = .ok (.iload_n 1, 1) := by decide +kernel
theorem d_K_writeSum_37 : decode b_K_writeSum 37 = .ok (.aload_n 0, 1) := by decide +kernel
theorem d_K_writeSum_38 : decode b_K_writeSum 38 = .ok (.aload_n 0, 1) := by decide +kernel
theorem d_K_writeSum_39 : decode b_K_writeSum 39 = .ok (.getfield 25, 3) := by decide +kernel
theorem d_K_writeSum_42 : decode b_K_writeSum 42 = .ok (.getfield 106, 3) := by decide +kernel
theorem d_K_writeSum_45 : decode b_K_writeSum 45 = .ok (.iload_n 3, 1) := by decide +kernel
theorem d_K_writeSum_46 : decode b_K_writeSum 46 = .ok (.invokevirtual 140, 3) := by decide +kernel
theorem d_K_writeSum_49 : decode b_K_writeSum 49 = .ok (.iadd, 1) := by decide +kernel
theorem d_K_writeSum_50 : decode b_K_writeSum 50 = .ok (.istore_n 1, 1) := by decide +kernel
theorem d_K_writeSum_51 : decode b_K_writeSum 51 = .ok (.iconst 1, 1) := by decide +kernel
theorem d_K_writeSum_52 : decode b_K_writeSum 52 = .ok (.istore_n 2, 1) := by decide +kernel
theorem d_K_writeSum_53 : decode b_K_writeSum 53 = .ok (.iinc 3 1, 3) := by decide +kernel
theorem d_K_writeSum_56 : decode b_K_writeSum 56 = .ok (.goto (-36), 3) := by decide +kernel
theorem d_K_writeSum_59 : decode b_K_writeSum 59 = .ok (.iload_n 2, 1) := by decide +kernel
theorem d_K_writeSum_60 : decode b_K_writeSum 60 = .ok (.ifCond .eq 27, 3) := by decide +kernel
theorem d_K_writeSum_63 : decode b_K_writeSum 63 = .ok (.aload_n 0, 1) := by decide +kernel
theorem d_K_writeSum_64 : decode b_K_writeSum 64 = .ok (.getfield 9, 3) := by decide +kernel
theorem d_K_writeSum_67 : decode b_K_writeSum 67 = .ok (.aload_n 0, 1) := by decide +kernel
theorem d_K_writeSum_68 : decode b_K_writeSum 68 = .ok (.aload_n 0, 1) := by decide +kernel
theorem d_K_writeSum_69 : decode b_K_writeSum 69 = .ok (.getfield 25, 3) := by decide +kernel
theorem d_K_writeSum_72 : decode b_K_writeSum 72 = .ok (.getfield 123, 3) := by decide +kernel
theorem d_K_writeSum_75 : decode b_K_writeSum 75 = .ok (.iconst 0, 1) := by decide +kernel
theorem d_K_writeSum_76 : decode b_K_writeSum 76 = .ok (.invokevirtual 109, 3) := by decide +kernel
theorem d_K_writeSum_79 : decode b_K_writeSum 79 = .ok (.aload_n 0, 1) := by decide +kernel
theorem d_K_writeSum_80 : decode b_K_writeSum 80 = .ok (.getfield 45, 3) := by decide +kernel
theorem d_K_writeSum_83 : decode b_K_writeSum 83 = .ok (.iload_n 1, 1) := by decide +kernel
theorem d_K_writeSum_84 : decode b_K_writeSum 84 = .ok (.invokevirtual 151, 3) := by decide +kernel
theorem d_K_writeSum_87 : decode b_K_writeSum 87 = .ok (.return_, 1) := by decide +kernel
theorem d_K_element_0 : decode b_K_element 0 = .ok (.aload_n 0, 1) := by decide +kernel
theorem d_K_element_1 : decode b_K_element 1 = .ok (.getfield 9, 3) := by decide +kernel
theorem d_K_element_4 : decode b_K_element 4 = .ok (.aload_n 0, 1) := by decide +kernel
theorem d_K_element_5 : decode b_K_element 5 = .ok (.iload_n 1, 1) := by decide +kernel
theorem d_K_element_6 : decode b_K_element 6 = .ok (.iload_n 2, 1) := by decide +kernel
theorem d_K_element_7 : decode b_K_element 7 = .ok (.invokevirtual 109, 3) := by decide +kernel
theorem d_K_element_10 : decode b_K_element 10 = .ok (.aload_n 0, 1) := by decide +kernel
theorem d_K_element_11 : decode b_K_element 11 = .ok (.getfield 45, 3) := by decide +kernel
theorem d_K_element_14 : decode b_K_element 14 = .ok (.invokevirtual 166, 3) := by decide +kernel
theorem d_K_element_17 : decode b_K_element 17 = .ok (.ireturn, 1) := by decide +kernel
theorem d_K_writeMaskBit_0 : decode b_K_writeMaskBit 0 = .ok (.bipush 8, 2) := by decide +kernel
theorem d_K_writeMaskBit_2 : decode b_K_writeMaskBit 2 = .ok (.aload_n 0, 1) := by decide +kernel
theorem d_K_writeMaskBit_3 : decode b_K_writeMaskBit 3 = .ok (.getfield 25, 3) := by decide +kernel
theorem d_K_writeMaskBit_6 : decode b_K_writeMaskBit 6 = .ok (.getfield 123, 3) := by decide +kernel
theorem d_K_writeMaskBit_9 : decode b_K_writeMaskBit 9 = .ok (.imul, 1) := by decide +kernel
theorem d_K_writeMaskBit_10 : decode b_K_writeMaskBit 10 = .ok (.iload_n 1, 1) := by decide +kernel
theorem d_K_writeMaskBit_11 : decode b_K_writeMaskBit 11 = .ok (.bipush 8, 2) := by decide +kernel
theorem d_K_writeMaskBit_13 : decode b_K_writeMaskBit 13 = .ok (.idiv, 1) := by decide +kernel
theorem d_K_writeMaskBit_14 : decode b_K_writeMaskBit 14 = .ok (.iadd, 1) := by decide +kernel
theorem d_K_writeMaskBit_15 : decode b_K_writeMaskBit 15 = .ok (.istore_n 3, 1) := by decide +kernel
theorem d_K_writeMaskBit_16 : decode b_K_writeMaskBit 16 = .ok (.iconst 1, 1) := by decide +kernel
theorem d_K_writeMaskBit_17 : decode b_K_writeMaskBit 17 = .ok (.iload_n 1, 1) := by decide +kernel
theorem d_K_writeMaskBit_18 : decode b_K_writeMaskBit 18 = .ok (.bipush 8, 2) := by decide +kernel
theorem d_K_writeMaskBit_20 : decode b_K_writeMaskBit 20 = .ok (.irem, 1) := by decide +kernel
theorem d_K_writeMaskBit_21 : decode b_K_writeMaskBit 21 = .ok (.ishl, 1) := by decide +kernel
theorem d_K_writeMaskBit_22 : decode b_K_writeMaskBit 22 = .ok (.istore 4, 2) := by decide +kernel
theorem d_K_writeMaskBit_24 : decode b_K_writeMaskBit 24 = .ok (.aload_n 0, 1) := by decide +kernel
theorem d_K_writeMaskBit_25 : decode b_K_writeMaskBit 25 = .ok (.getfield 9, 3) := by decide +kernel
theorem d_K_writeMaskBit_28 : decode b_K_writeMaskBit 28 = .ok (.iload_n 3, 1) := by decide +kernel
theorem d_K_writeMaskBit_29 : decode b_K_writeMaskBit 29 = .ok (.iconst 1, 1) := by decide +kernel
theorem d_K_writeMaskBit_30 : decode b_K_writeMaskBit 30 = .ok (.invokevirtual 160, 3) := by decide +kernel
theorem d_K_writeMaskBit_33 : decode b_K_writeMaskBit 33 = .ok (.iload 4, 2) := by decide +kernel
theorem d_K_writeMaskBit_35 : decode b_K_writeMaskBit 35 = .ok (.iconst (-1), 1) := by decide +kernel
theorem d_K_writeMaskBit_36 : decode b_K_writeMaskBit 36 = .ok (.ixor, 1) := by decide +kernel
theorem d_K_writeMaskBit_37 : decode b_K_writeMaskBit 37 = .ok (.iand, 1) := by decide +kernel
theorem d_K_writeMaskBit_38 : decode b_K_writeMaskBit 38 = .ok (.istore 5, 2) := by decide +kernel
theorem d_K_writeMaskBit_40 : decode b_K_writeMaskBit 40 = .ok (.aload_n 0, 1) := by decide +kernel
theorem d_K_writeMaskBit_41 : decode b_K_writeMaskBit 41 = .ok (.getfield 9, 3) := by decide +kernel
theorem d_K_writeMaskBit_44 : decode b_K_writeMaskBit 44 = .ok (.iload_n 3, 1) := by decide +kernel
theorem d_K_writeMaskBit_45 : decode b_K_writeMaskBit 45 = .ok (.iconst 1, 1) := by decide +kernel
theorem d_K_writeMaskBit_46 : decode b_K_writeMaskBit 46 = .ok (.iload_n 2, 1) := by decide +kernel
theorem d_K_writeMaskBit_47 : decode b_K_writeMaskBit 47 = .ok (.ifCond .eq 11, 3) := by decide +kernel
theorem d_K_writeMaskBit_50 : decode b_K_writeMaskBit 50 = .ok (.iload 5, 2) := by decide +kernel
theorem d_K_writeMaskBit_52 : decode b_K_writeMaskBit 52 = .ok (.iload 4, 2) := by decide +kernel
theorem d_K_writeMaskBit_54 : decode b_K_writeMaskBit 54 = .ok (.ior, 1) := by decide +kernel
theorem d_K_writeMaskBit_55 : decode b_K_writeMaskBit 55 = .ok (.goto 5, 3) := by decide +kernel
theorem d_K_writeMaskBit_58 : decode b_K_writeMaskBit 58 = .ok (.iload 5, 2) := by decide +kernel
theorem d_K_writeMaskBit_60 : decode b_K_writeMaskBit 60 = .ok (.invokevirtual 151, 3) := by decide +kernel
theorem d_K_writeMaskBit_63 : decode b_K_writeMaskBit 63 = .ok (.return_, 1) := by decide +kernel
theorem d_K_result_0 : decode b_K_result 0 = .ok (.aload_n 0, 1) := by decide +kernel
theorem d_K_result_1 : decode b_K_result 1 = .ok (.getfield 25, 3) := by decide +kernel
theorem d_K_result_4 : decode b_K_result 4 = .ok (.getfield 78, 3) := by decide +kernel
theorem d_K_result_7 : decode b_K_result 7 = .ok (.tableswitch 198 8 16 #[49, 75, 101, 127, 198, 49, 198, 145, 163], 49) := by decide +kernel
theorem d_K_result_56 : decode b_K_result 56 = .ok (.aload_n 0, 1) := by decide +kernel
theorem d_K_result_57 : decode b_K_result 57 = .ok (.aload_n 0, 1) := by decide +kernel
theorem d_K_result_58 : decode b_K_result 58 = .ok (.getfield 25, 3) := by decide +kernel
theorem d_K_result_61 : decode b_K_result 61 = .ok (.getfield 106, 3) := by decide +kernel
theorem d_K_result_64 : decode b_K_result 64 = .ok (.iload_n 1, 1) := by decide +kernel
theorem d_K_result_65 : decode b_K_result 65 = .ok (.invokevirtual 140, 3) := by decide +kernel
theorem d_K_result_68 : decode b_K_result 68 = .ok (.aload_n 0, 1) := by decide +kernel
theorem d_K_result_69 : decode b_K_result 69 = .ok (.aload_n 0, 1) := by decide +kernel
theorem d_K_result_70 : decode b_K_result 70 = .ok (.getfield 25, 3) := by decide +kernel
theorem d_K_result_73 : decode b_K_result 73 = .ok (.getfield 120, 3) := by decide +kernel
theorem d_K_result_76 : decode b_K_result 76 = .ok (.iload_n 1, 1) := by decide +kernel
theorem d_K_result_77 : decode b_K_result 77 = .ok (.invokevirtual 140, 3) := by decide +kernel
theorem d_K_result_80 : decode b_K_result 80 = .ok (.iadd, 1) := by decide +kernel
theorem d_K_result_81 : decode b_K_result 81 = .ok (.ireturn, 1) := by decide +kernel
theorem d_K_result_82 : decode b_K_result 82 = .ok (.aload_n 0, 1) := by decide +kernel
theorem d_K_result_83 : decode b_K_result 83 = .ok (.aload_n 0, 1) := by decide +kernel
theorem d_K_result_84 : decode b_K_result 84 = .ok (.getfield 25, 3) := by decide +kernel
theorem d_K_result_87 : decode b_K_result 87 = .ok (.getfield 106, 3) := by decide +kernel
theorem d_K_result_90 : decode b_K_result 90 = .ok (.iload_n 1, 1) := by decide +kernel
theorem d_K_result_91 : decode b_K_result 91 = .ok (.invokevirtual 140, 3) := by decide +kernel
theorem d_K_result_94 : decode b_K_result 94 = .ok (.aload_n 0, 1) := by decide +kernel
theorem d_K_result_95 : decode b_K_result 95 = .ok (.aload_n 0, 1) := by decide +kernel
theorem d_K_result_96 : decode b_K_result 96 = .ok (.getfield 25, 3) := by decide +kernel
theorem d_K_result_99 : decode b_K_result 99 = .ok (.getfield 120, 3) := by decide +kernel
theorem d_K_result_102 : decode b_K_result 102 = .ok (.iload_n 1, 1) := by decide +kernel
theorem d_K_result_103 : decode b_K_result 103 = .ok (.invokevirtual 140, 3) := by decide +kernel
theorem d_K_result_106 : decode b_K_result 106 = .ok (.isub, 1) := by decide +kernel
theorem d_K_result_107 : decode b_K_result 107 = .ok (.ireturn, 1) := by decide +kernel
theorem d_K_result_108 : decode b_K_result 108 = .ok (.aload_n 0, 1) := by decide +kernel
theorem d_K_result_109 : decode b_K_result 109 = .ok (.aload_n 0, 1) := by decide +kernel
theorem d_K_result_110 : decode b_K_result 110 = .ok (.getfield 25, 3) := by decide +kernel
theorem d_K_result_113 : decode b_K_result 113 = .ok (.getfield 106, 3) := by decide +kernel
theorem d_K_result_116 : decode b_K_result 116 = .ok (.iload_n 1, 1) := by decide +kernel
theorem d_K_result_117 : decode b_K_result 117 = .ok (.invokevirtual 140, 3) := by decide +kernel
theorem d_K_result_120 : decode b_K_result 120 = .ok (.aload_n 0, 1) := by decide +kernel
theorem d_K_result_121 : decode b_K_result 121 = .ok (.aload_n 0, 1) := by decide +kernel
theorem d_K_result_122 : decode b_K_result 122 = .ok (.getfield 25, 3) := by decide +kernel
theorem d_K_result_125 : decode b_K_result 125 = .ok (.getfield 120, 3) := by decide +kernel
theorem d_K_result_128 : decode b_K_result 128 = .ok (.iload_n 1, 1) := by decide +kernel
theorem d_K_result_129 : decode b_K_result 129 = .ok (.invokevirtual 140, 3) := by decide +kernel
theorem d_K_result_132 : decode b_K_result 132 = .ok (.imul, 1) := by decide +kernel
theorem d_K_result_133 : decode b_K_result 133 = .ok (.ireturn, 1) := by decide +kernel
theorem d_K_result_134 : decode b_K_result 134 = .ok (.aload_n 0, 1) := by decide +kernel
theorem d_K_result_135 : decode b_K_result 135 = .ok (.aload_n 0, 1) := by decide +kernel
theorem d_K_result_136 : decode b_K_result 136 = .ok (.getfield 25, 3) := by decide +kernel
theorem d_K_result_139 : decode b_K_result 139 = .ok (.getfield 106, 3) := by decide +kernel
theorem d_K_result_142 : decode b_K_result 142 = .ok (.iload_n 1, 1) := by decide +kernel
theorem d_K_result_143 : decode b_K_result 143 = .ok (.invokevirtual 140, 3) := by decide +kernel
theorem d_K_result_146 : decode b_K_result 146 = .ok (.aload_n 0, 1) := by decide +kernel
theorem d_K_result_147 : decode b_K_result 147 = .ok (.getfield 36, 3) := by decide +kernel
theorem d_K_result_150 : decode b_K_result 150 = .ok (.iadd, 1) := by decide +kernel
theorem d_K_result_151 : decode b_K_result 151 = .ok (.ireturn, 1) := by decide +kernel
theorem d_K_result_152 : decode b_K_result 152 = .ok (.aload_n 0, 1) := by decide +kernel
theorem d_K_result_153 : decode b_K_result 153 = .ok (.aload_n 0, 1) := by decide +kernel
theorem d_K_result_154 : decode b_K_result 154 = .ok (.getfield 25, 3) := by decide +kernel
theorem d_K_result_157 : decode b_K_result 157 = .ok (.getfield 106, 3) := by decide +kernel
theorem d_K_result_160 : decode b_K_result 160 = .ok (.iload_n 1, 1) := by decide +kernel
theorem d_K_result_161 : decode b_K_result 161 = .ok (.aload_n 0, 1) := by decide +kernel
theorem d_K_result_162 : decode b_K_result 162 = .ok (.getfield 36, 3) := by decide +kernel
theorem d_K_result_165 : decode b_K_result 165 = .ok (.iadd, 1) := by decide +kernel
theorem d_K_result_166 : decode b_K_result 166 = .ok (.invokevirtual 163, 3) := by decide +kernel
theorem d_K_result_169 : decode b_K_result 169 = .ok (.ireturn, 1) := by decide +kernel
theorem d_K_result_170 : decode b_K_result 170 = .ok (.aload_n 0, 1) := by decide +kernel
theorem d_K_result_171 : decode b_K_result 171 = .ok (.aload_n 0, 1) := by decide +kernel
theorem d_K_result_172 : decode b_K_result 172 = .ok (.getfield 25, 3) := by decide +kernel
theorem d_K_result_175 : decode b_K_result 175 = .ok (.getfield 106, 3) := by decide +kernel
theorem d_K_result_178 : decode b_K_result 178 = .ok (.aload_n 0, 1) := by decide +kernel
theorem d_K_result_179 : decode b_K_result 179 = .ok (.getfield 9, 3) := by decide +kernel
theorem d_K_result_182 : decode b_K_result 182 = .ok (.aload_n 0, 1) := by decide +kernel
theorem d_K_result_183 : decode b_K_result 183 = .ok (.aload_n 0, 1) := by decide +kernel
theorem d_K_result_184 : decode b_K_result 184 = .ok (.getfield 25, 3) := by decide +kernel
theorem d_K_result_187 : decode b_K_result 187 = .ok (.getfield 120, 3) := by decide +kernel
theorem d_K_result_190 : decode b_K_result 190 = .ok (.iload_n 1, 1) := by decide +kernel
theorem d_K_result_191 : decode b_K_result 191 = .ok (.invokevirtual 109, 3) := by decide +kernel
theorem d_K_result_194 : decode b_K_result 194 = .ok (.aload_n 0, 1) := by decide +kernel
theorem d_K_result_195 : decode b_K_result 195 = .ok (.getfield 45, 3) := by decide +kernel
theorem d_K_result_198 : decode b_K_result 198 = .ok (.invokevirtual 160, 3) := by decide +kernel
theorem d_K_result_201 : decode b_K_result 201 = .ok (.invokevirtual 163, 3) := by decide +kernel
theorem d_K_result_204 : decode b_K_result 204 = .ok (.ireturn, 1) := by decide +kernel
theorem d_K_result_205 : decode b_K_result 205 = .ok (.aload_n 0, 1) := by decide +kernel
theorem d_K_result_206 : decode b_K_result 206 = .ok (.getfield 15, 3) := by decide +kernel
theorem d_K_result_209 : decode b_K_result 209 = .ok (.aload_n 0, 1) := by decide +kernel
theorem d_K_result_210 : decode b_K_result 210 = .ok (.iload_n 1, 1) := by decide +kernel
theorem d_K_result_211 : decode b_K_result 211 = .ok (.invokevirtual 157, 3) := by decide +kernel
theorem d_K_result_214 : decode b_K_result 214 = .ok (.aload_n 0, 1) := by decide +kernel
theorem d_K_result_215 : decode b_K_result 215 = .ok (.getfield 45, 3) := by decide +kernel
theorem d_K_result_218 : decode b_K_result 218 = .ok (.invokevirtual 166, 3) := by decide +kernel
theorem d_K_result_221 : decode b_K_result 221 = .ok (.ireturn, 1) := by decide +kernel
theorem d_K_elementOrZero_0 : decode b_K_elementOrZero 0 = .ok (.aload_n 0, 1) := by decide +kernel
theorem d_K_elementOrZero_1 : decode b_K_elementOrZero 1 = .ok (.iload_n 2, 1) := by decide +kernel
theorem d_K_elementOrZero_2 : decode b_K_elementOrZero 2 = .ok (.invokevirtual 116, 3) := by decide +kernel
theorem d_K_elementOrZero_5 : decode b_K_elementOrZero 5 = .ok (.ifCond .eq 23, 3) := by decide +kernel
theorem d_K_elementOrZero_8 : decode b_K_elementOrZero 8 = .ok (.aload_n 0, 1) := by decide +kernel
theorem d_K_elementOrZero_9 : decode b_K_elementOrZero 9 = .ok (.getfield 9, 3) := by decide +kernel
theorem d_K_elementOrZero_12 : decode b_K_elementOrZero 12 = .ok (.aload_n 0, 1) := by decide +kernel
theorem d_K_elementOrZero_13 : decode b_K_elementOrZero 13 = .ok (.iload_n 1, 1) := by decide +kernel
theorem d_K_elementOrZero_14 : decode b_K_elementOrZero 14 = .ok (.iload_n 2, 1) := by decide +kernel
theorem d_K_elementOrZero_15 : decode b_K_elementOrZero 15 = .ok (.invokevirtual 109, 3) := by decide +kernel
theorem d_K_elementOrZero_18 : decode b_K_elementOrZero 18 = .ok (.aload_n 0, 1) := by decide +kernel
theorem d_K_elementOrZero_19 : decode b_K_elementOrZero 19 = .ok (.getfield 45, 3) := by decide +kernel
theorem d_K_elementOrZero_22 : decode b_K_elementOrZero 22 = .ok (.invokevirtual 166, 3) := by decide +kernel
theorem d_K_elementOrZero_25 : decode b_K_elementOrZero 25 = .ok (.goto 4, 3) := by decide +kernel
theorem d_K_elementOrZero_28 : decode b_K_elementOrZero 28 = .ok (.iconst 0, 1) := by decide +kernel
theorem d_K_elementOrZero_29 : decode b_K_elementOrZero 29 = .ok (.ireturn, 1) := by decide +kernel
theorem d_K_placeInMemory_0 : decode b_K_placeInMemory 0 = .ok (.aload_n 0, 1) := by decide +kernel
theorem d_K_placeInMemory_1 : decode b_K_placeInMemory 1 = .ok (.getfield 33, 3) := by decide +kernel
theorem d_K_placeInMemory_4 : decode b_K_placeInMemory 4 = .ok (.aload_n 0, 1) := by decide +kernel
theorem d_K_placeInMemory_5 : decode b_K_placeInMemory 5 = .ok (.getfield 25, 3) := by decide +kernel
theorem d_K_placeInMemory_8 : decode b_K_placeInMemory 8 = .ok (.getfield 78, 3) := by decide +kernel
theorem d_K_placeInMemory_11 : decode b_K_placeInMemory 11 = .ok (.bipush 19, 2) := by decide +kernel
theorem d_K_placeInMemory_13 : decode b_K_placeInMemory 13 = .ok (.if_icmp .ne 29, 3) := by decide +kernel
theorem d_K_placeInMemory_16 : decode b_K_placeInMemory 16 = .ok (.aload_n 0, 1) := by decide +kernel
theorem d_K_placeInMemory_17 : decode b_K_placeInMemory 17 = .ok (.getfield 9, 3) := by decide +kernel
theorem d_K_placeInMemory_20 : decode b_K_placeInMemory 20 = .ok (.aload_n 0, 1) := by decide +kernel
theorem d_K_placeInMemory_21 : decode b_K_placeInMemory 21 = .ok (.aload_n 0, 1) := by decide +kernel
theorem d_K_placeInMemory_22 : decode b_K_placeInMemory 22 = .ok (.getfield 25, 3) := by decide +kernel
theorem d_K_placeInMemory_25 : decode b_K_placeInMemory 25 = .ok (.getfield 120, 3) := by decide +kernel
theorem d_K_placeInMemory_28 : decode b_K_placeInMemory 28 = .ok (.iload_n 1, 1) := by decide +kernel
theorem d_K_placeInMemory_29 : decode b_K_placeInMemory 29 = .ok (.invokevirtual 109, 3) := by decide +kernel
theorem d_K_placeInMemory_32 : decode b_K_placeInMemory 32 = .ok (.aload_n 0, 1) := by decide +kernel
theorem d_K_placeInMemory_33 : decode b_K_placeInMemory 33 = .ok (.getfield 45, 3) := by decide +kernel
theorem d_K_placeInMemory_36 : decode b_K_placeInMemory 36 = .ok (.invokevirtual 160, 3) := by decide +kernel
theorem d_K_placeInMemory_39 : decode b_K_placeInMemory 39 = .ok (.goto 9, 3) := by decide +kernel
theorem d_K_placeInMemory_42 : decode b_K_placeInMemory 42 = .ok (.iload_n 1, 1) := by decide +kernel
theorem d_K_placeInMemory_43 : decode b_K_placeInMemory 43 = .ok (.aload_n 0, 1) := by decide +kernel
theorem d_K_placeInMemory_44 : decode b_K_placeInMemory 44 = .ok (.getfield 36, 3) := by decide +kernel
theorem d_K_placeInMemory_47 : decode b_K_placeInMemory 47 = .ok (.imul, 1) := by decide +kernel
theorem d_K_placeInMemory_48 : decode b_K_placeInMemory 48 = .ok (.iadd, 1) := by decide +kernel
theorem d_K_placeInMemory_49 : decode b_K_placeInMemory 49 = .ok (.ireturn, 1) := by decide +kernel
theorem d_K_readsFromStep_0 : decode b_K_readsFromStep 0 = .ok (.iload_n 1, 1) := by decide +kernel
theorem d_K_readsFromStep_1 : decode b_K_readsFromStep 1 = .ok (.ifCond .lt 18, 3) := by decide +kernel
theorem d_K_readsFromStep_4 : decode b_K_readsFromStep 4 = .ok (.iload_n 1, 1) := by decide +kernel
theorem d_K_readsFromStep_5 : decode b_K_readsFromStep 5 = .ok (.bipush 32, 2) := by decide +kernel
theorem d_K_readsFromStep_7 : decode b_K_readsFromStep 7 = .ok (.if_icmp .gt 12, 3) := by decide +kernel
theorem d_K_readsFromStep_10 : decode b_K_readsFromStep 10 = .ok (.aload_n 0, 1) := by decide +kernel
theorem d_K_readsFromStep_11 : decode b_K_readsFromStep 11 = .ok (.getfield 18, 3) := by decide +kernel
theorem d_K_readsFromStep_14 : decode b_K_readsFromStep 14 = .ok (.iload_n 1, 1) := by decide +kernel
theorem d_K_readsFromStep_15 : decode b_K_readsFromStep 15 = .ok (.laload, 1) := by decide +kernel
theorem d_K_readsFromStep_16 : decode b_K_readsFromStep 16 = .ok (.goto 4, 3) := by decide +kernel
theorem d_K_readsFromStep_19 : decode b_K_readsFromStep 19 = .ok (.lconst 0, 1) := by decide +kernel
theorem d_K_readsFromStep_20 : decode b_K_readsFromStep 20 = .ok (.lreturn, 1) := by decide +kernel
theorem d_K_writesFromStep_0 : decode b_K_writesFromStep 0 = .ok (.iload_n 1, 1) := by decide +kernel
theorem d_K_writesFromStep_1 : decode b_K_writesFromStep 1 = .ok (.ifCond .lt 18, 3) := by decide +kernel
theorem d_K_writesFromStep_4 : decode b_K_writesFromStep 4 = .ok (.iload_n 1, 1) := by decide +kernel
theorem d_K_writesFromStep_5 : decode b_K_writesFromStep 5 = .ok (.bipush 32, 2) := by decide +kernel
theorem d_K_writesFromStep_7 : decode b_K_writesFromStep 7 = .ok (.if_icmp .gt 12, 3) := by decide +kernel
theorem d_K_writesFromStep_10 : decode b_K_writesFromStep 10 = .ok (.aload_n 0, 1) := by decide +kernel
theorem d_K_writesFromStep_11 : decode b_K_writesFromStep 11 = .ok (.getfield 22, 3) := by decide +kernel
theorem d_K_writesFromStep_14 : decode b_K_writesFromStep 14 = .ok (.iload_n 1, 1) := by decide +kernel
theorem d_K_writesFromStep_15 : decode b_K_writesFromStep 15 = .ok (.laload, 1) := by decide +kernel
theorem d_K_writesFromStep_16 : decode b_K_writesFromStep 16 = .ok (.goto 4, 3) := by decide +kernel
theorem d_K_writesFromStep_19 : decode b_K_writesFromStep 19 = .ok (.lconst 0, 1) := by decide +kernel
theorem d_K_writesFromStep_20 : decode b_K_writesFromStep 20 = .ok (.lreturn, 1) := by decide +kernel
theorem d_K_take_0 : decode b_K_take 0 = .ok (.aload_n 0, 1) := by decide +kernel
theorem d_K_take_1 : decode b_K_take 1 = .ok (.aload_n 1, 1) := by decide +kernel
theorem d_K_take_2 : decode b_K_take 2 = .ok (.putfield 25, 3) := by decide +kernel
theorem d_K_take_5 : decode b_K_take 5 = .ok (.aload_n 0, 1) := by decide +kernel
theorem d_K_take_6 : decode b_K_take 6 = .ok (.iload_n 2, 1) := by decide +kernel
theorem d_K_take_7 : decode b_K_take 7 = .ok (.putfield 29, 3) := by decide +kernel
theorem d_K_take_10 : decode b_K_take 10 = .ok (.aload_n 0, 1) := by decide +kernel
theorem d_K_take_11 : decode b_K_take 11 = .ok (.iload 4, 2) := by decide +kernel
theorem d_K_take_13 : decode b_K_take 13 = .ok (.putfield 33, 3) := by decide +kernel
theorem d_K_take_16 : decode b_K_take 16 = .ok (.aload_n 0, 1) := by decide +kernel
theorem d_K_take_17 : decode b_K_take 17 = .ok (.iload 5, 2) := by decide +kernel
theorem d_K_take_19 : decode b_K_take 19 = .ok (.putfield 36, 3) := by decide +kernel
theorem d_K_take_22 : decode b_K_take 22 = .ok (.aload_n 0, 1) := by decide +kernel
theorem d_K_take_23 : decode b_K_take 23 = .ok (.aload_n 3, 1) := by decide +kernel
theorem d_K_take_24 : decode b_K_take 24 = .ok (.invokevirtual 39, 3) := by decide +kernel
theorem d_K_take_27 : decode b_K_take 27 = .ok (.putfield 45, 3) := by decide +kernel
theorem d_K_take_30 : decode b_K_take 30 = .ok (.aload_n 0, 1) := by decide +kernel
theorem d_K_take_31 : decode b_K_take 31 = .ok (.aload_n 3, 1) := by decide +kernel
theorem d_K_take_32 : decode b_K_take 32 = .ok (.invokevirtual 47, 3) := by decide +kernel
theorem d_K_take_35 : decode b_K_take 35 = .ok (.putfield 50, 3) := by decide +kernel
theorem d_K_take_38 : decode b_K_take 38 = .ok (.aload_n 0, 1) := by decide +kernel
theorem d_K_take_39 : decode b_K_take 39 = .ok (.aload_n 3, 1) := by decide +kernel
theorem d_K_take_40 : decode b_K_take 40 = .ok (.invokevirtual 52, 3) := by decide +kernel
theorem d_K_take_43 : decode b_K_take 43 = .ok (.putfield 55, 3) := by decide +kernel
theorem d_K_take_46 : decode b_K_take 46 = .ok (.aload_n 0, 1) := by decide +kernel
theorem d_K_take_47 : decode b_K_take 47 = .ok (.aload_n 3, 1) := by decide +kernel
theorem d_K_take_48 : decode b_K_take 48 = .ok (.getfield 57, 3) := by decide +kernel
theorem d_K_take_51 : decode b_K_take 51 = .ok (.putfield 60, 3) := by decide +kernel
theorem d_K_take_54 : decode b_K_take 54 = .ok (.aload_n 0, 1) := by decide +kernel
theorem d_K_take_55 : decode b_K_take 55 = .ok (.aload_n 3, 1) := by decide +kernel
theorem d_K_take_56 : decode b_K_take 56 = .ok (.getfield 63, 3) := by decide +kernel
theorem d_K_take_59 : decode b_K_take 59 = .ok (.putfield 66, 3) := by decide +kernel
theorem d_K_take_62 : decode b_K_take 62 = .ok (.aload_n 0, 1) := by decide +kernel
theorem d_K_take_63 : decode b_K_take 63 = .ok (.iconst 0, 1) := by decide +kernel
theorem d_K_take_64 : decode b_K_take 64 = .ok (.putfield 69, 3) := by decide +kernel
theorem d_K_take_67 : decode b_K_take 67 = .ok (.return_, 1) := by decide +kernel
theorem d_K_firstBad_0 : decode b_K_firstBad 0 = .ok (.aload_n 0, 1) := by decide +kernel
theorem d_K_firstBad_1 : decode b_K_firstBad 1 = .ok (.getfield 60, 3) := by decide +kernel
theorem d_K_firstBad_4 : decode b_K_firstBad 4 = .ok (.istore_n 2, 1) := by decide +kernel
theorem d_K_firstBad_5 : decode b_K_firstBad 5 = .ok (.iload_n 2, 1) := by decide +kernel
theorem d_K_firstBad_6 : decode b_K_firstBad 6 = .ok (.aload_n 0, 1) := by decide +kernel
theorem d_K_firstBad_7 : decode b_K_firstBad 7 = .ok (.getfield 66, 3) := by decide +kernel
theorem d_K_firstBad_10 : decode b_K_firstBad 10 = .ok (.if_icmp .ge 39, 3) := by decide +kernel
theorem d_K_firstBad_13 : decode b_K_firstBad 13 = .ok (.aload_n 0, 1) := by decide +kernel
theorem d_K_firstBad_14 : decode b_K_firstBad 14 = .ok (.iload_n 2, 1) := by decide +kernel
theorem d_K_firstBad_15 : decode b_K_firstBad 15 = .ok (.invokevirtual 157, 3) := by decide +kernel
theorem d_K_firstBad_18 : decode b_K_firstBad 18 = .ok (.istore_n 3, 1) := by decide +kernel
theorem d_K_firstBad_19 : decode b_K_firstBad 19 = .ok (.iload_n 3, 1) := by decide +kernel
theorem d_K_firstBad_20 : decode b_K_firstBad 20 = .ok (.ifCond .lt 13, 3) := by decide +kernel
theorem d_K_firstBad_23 : decode b_K_firstBad 23 = .ok (.iload_n 3, 1) := by decide +kernel
theorem d_K_firstBad_24 : decode b_K_firstBad 24 = .ok (.iload_n 1, 1) := by decide +kernel
theorem d_K_firstBad_25 : decode b_K_firstBad 25 = .ok (.aload_n 0, 1) := by decide +kernel
theorem d_K_firstBad_26 : decode b_K_firstBad 26 = .ok (.getfield 45, 3) := by decide +kernel
theorem d_K_firstBad_29 : decode b_K_firstBad 29 = .ok (.isub, 1) := by decide +kernel
theorem d_K_firstBad_30 : decode b_K_firstBad 30 = .ok (.if_icmp .le 13, 3) := by decide +kernel
theorem d_K_firstBad_33 : decode b_K_firstBad 33 = .ok (.aload_n 0, 1) := by decide +kernel
theorem d_K_firstBad_34 : decode b_K_firstBad 34 = .ok (.iload_n 2, 1) := by decide +kernel
theorem d_K_firstBad_35 : decode b_K_firstBad 35 = .ok (.invokevirtual 134, 3) := by decide +kernel
theorem d_K_firstBad_38 : decode b_K_firstBad 38 = .ok (.ifCond .eq 5, 3) := by decide +kernel
theorem d_K_firstBad_41 : decode b_K_firstBad 41 = .ok (.iload_n 2, 1) := by decide +kernel
theorem d_K_firstBad_42 : decode b_K_firstBad 42 = .ok (.ireturn, 1) := by decide +kernel
theorem d_K_firstBad_43 : decode b_K_firstBad 43 = .ok (.iinc 2 1, 3) := by decide +kernel
theorem d_K_firstBad_46 : decode b_K_firstBad 46 = .ok (.goto (-41), 3) := by decide +kernel
theorem d_K_firstBad_49 : decode b_K_firstBad 49 = .ok (.iconst (-1), 1) := by decide +kernel
theorem d_K_firstBad_50 : decode b_K_firstBad 50 = .ok (.ireturn, 1) := by decide +kernel
theorem d_K_foresee_0 : decode b_K_foresee 0 = .ok (.aload_n 0, 1) := by decide +kernel
theorem d_K_foresee_1 : decode b_K_foresee 1 = .ok (.invokevirtual 86, 3) := by decide +kernel
theorem d_K_foresee_4 : decode b_K_foresee 4 = .ok (.istore_n 1, 1) := by decide +kernel
theorem d_K_foresee_5 : decode b_K_foresee 5 = .ok (.lconst 0, 1) := by decide +kernel
theorem d_K_foresee_6 : decode b_K_foresee 6 = .ok (.lstore_n 2, 1) := by decide +kernel
theorem d_K_foresee_7 : decode b_K_foresee 7 = .ok (.lconst 0, 1) := by decide +kernel
theorem d_K_foresee_8 : decode b_K_foresee 8 = .ok (.lstore 4, 2) := by decide +kernel
theorem d_K_foresee_10 : decode b_K_foresee 10 = .ok (.bipush 32, 2) := by decide +kernel
theorem d_K_foresee_12 : decode b_K_foresee 12 = .ok (.istore 6, 2) := by decide +kernel
theorem d_K_foresee_14 : decode b_K_foresee 14 = .ok (.iload 6, 2) := by decide +kernel
theorem d_K_foresee_16 : decode b_K_foresee 16 = .ok (.ifCond .lt 52, 3) := by decide +kernel
theorem d_K_foresee_19 : decode b_K_foresee 19 = .ok (.iload 6, 2) := by decide +kernel
theorem d_K_foresee_21 : decode b_K_foresee 21 = .ok (.iload_n 1, 1) := by decide +kernel
theorem d_K_foresee_22 : decode b_K_foresee 22 = .ok (.if_icmp .ge 23, 3) := by decide +kernel
theorem d_K_foresee_25 : decode b_K_foresee 25 = .ok (.lload_n 2, 1) := by decide +kernel
theorem d_K_foresee_26 : decode b_K_foresee 26 = .ok (.aload_n 0, 1) := by decide +kernel
theorem d_K_foresee_27 : decode b_K_foresee 27 = .ok (.iload 6, 2) := by decide +kernel
theorem d_K_foresee_29 : decode b_K_foresee 29 = .ok (.invokevirtual 89, 3) := by decide +kernel
theorem d_K_foresee_32 : decode b_K_foresee 32 = .ok (.lor, 1) := by decide +kernel
theorem d_K_foresee_33 : decode b_K_foresee 33 = .ok (.lstore_n 2, 1) := by decide +kernel
theorem d_K_foresee_34 : decode b_K_foresee 34 = .ok (.lload 4, 2) := by decide +kernel
theorem d_K_foresee_36 : decode b_K_foresee 36 = .ok (.aload_n 0, 1) := by decide +kernel
theorem d_K_foresee_37 : decode b_K_foresee 37 = .ok (.iload 6, 2) := by decide +kernel
theorem d_K_foresee_39 : decode b_K_foresee 39 = .ok (.invokevirtual 93, 3) := by decide +kernel
theorem d_K_foresee_42 : decode b_K_foresee 42 = .ok (.lor, 1) := by decide +kernel
theorem d_K_foresee_43 : decode b_K_foresee 43 = .ok (.lstore 4, 2) := by decide +kernel
theorem d_K_foresee_45 : decode b_K_foresee 45 = .ok (.aload_n 0, 1) := by decide +kernel
theorem d_K_foresee_46 : decode b_K_foresee 46 = .ok (.getfield 18, 3) := by decide +kernel
theorem d_K_foresee_49 : decode b_K_foresee 49 = .ok (.iload 6, 2) := by decide +kernel
theorem d_K_foresee_51 : decode b_K_foresee 51 = .ok (.lload_n 2, 1) := by decide +kernel
theorem d_K_foresee_52 : decode b_K_foresee 52 = .ok (.lastore, 1) := by decide +kernel
theorem d_K_foresee_53 : decode b_K_foresee 53 = .ok (.aload_n 0, 1) := by decide +kernel
theorem d_K_foresee_54 : decode b_K_foresee 54 = .ok (.getfield 22, 3) := by decide +kernel
theorem d_K_foresee_57 : decode b_K_foresee 57 = .ok (.iload 6, 2) := by decide +kernel
theorem d_K_foresee_59 : decode b_K_foresee 59 = .ok (.lload 4, 2) := by decide +kernel
theorem d_K_foresee_61 : decode b_K_foresee 61 = .ok (.lastore, 1) := by decide +kernel
theorem d_K_foresee_62 : decode b_K_foresee 62 = .ok (.iinc 6 (-1), 3) := by decide +kernel
theorem d_K_foresee_65 : decode b_K_foresee 65 = .ok (.goto (-51), 3) := by decide +kernel
theorem d_K_foresee_68 : decode b_K_foresee 68 = .ok (.return_, 1) := by decide +kernel
end
section
theorem d_M_init_0 : decode b_M_init 0 = .ok (.aload_n 0, 1) := by decide +kernel
theorem d_M_init_1 : decode b_M_init 1 = .ok (.invokespecial 1, 3) := by decide +kernel
theorem d_M_init_4 : decode b_M_init 4 = .ok (.aload_n 0, 1) := by decide +kernel
theorem d_M_init_5 : decode b_M_init 5 = .ok (.iconst 1, 1) := by decide +kernel
theorem d_M_init_6 : decode b_M_init 6 = .ok (.bipush 8, 2) := by decide +kernel
theorem d_M_init_8 : decode b_M_init 8 = .ok (.iload_n 1, 1) := by decide +kernel
theorem d_M_init_9 : decode b_M_init 9 = .ok (.invokestatic 9, 3) := by decide +kernel
theorem d_M_init_12 : decode b_M_init 12 = .ok (.invokestatic 15, 3) := by decide +kernel
theorem d_M_init_15 : decode b_M_init 15 = .ok (.putfield 18, 3) := by decide +kernel
theorem d_M_init_18 : decode b_M_init 18 = .ok (.aload_n 0, 1) := by decide +kernel
theorem d_M_init_19 : decode b_M_init 19 = .ok (.bipush 8, 2) := by decide +kernel
theorem d_M_init_21 : decode b_M_init 21 = .ok (.newarray .int, 2) := by decide +kernel
theorem d_M_init_23 : decode b_M_init 23 = .ok (.putfield 22, 3) := by decide +kernel
theorem d_M_init_26 : decode b_M_init 26 = .ok (.aload_n 0, 1) := by decide +kernel
theorem d_M_init_27 : decode b_M_init 27 = .ok (.new 26, 3) := by decide +kernel
theorem d_M_init_30 : decode b_M_init 30 = .ok (.dup, 1) := by decide +kernel
theorem d_M_init_31 : decode b_M_init 31 = .ok (.bipush 64, 2) := by decide +kernel
theorem d_M_init_33 : decode b_M_init 33 = .ok (.invokespecial 28, 3) := by decide +kernel
theorem d_M_init_36 : decode b_M_init 36 = .ok (.putfield 31, 3) := by decide +kernel
theorem d_M_init_39 : decode b_M_init 39 = .ok (.aload_n 0, 1) := by decide +kernel
theorem d_M_init_40 : decode b_M_init 40 = .ok (.new 26, 3) := by decide +kernel
theorem d_M_init_43 : decode b_M_init 43 = .ok (.dup, 1) := by decide +kernel
theorem d_M_init_44 : decode b_M_init 44 = .ok (.sipush 128, 3) := by decide +kernel
theorem d_M_init_47 : decode b_M_init 47 = .ok (.invokespecial 28, 3) := by decide +kernel
theorem d_M_init_50 : decode b_M_init 50 = .ok (.putfield 35, 3) := by decide +kernel
theorem d_M_init_53 : decode b_M_init 53 = .ok (.aload_n 0, 1) := by decide +kernel
theorem d_M_init_54 : decode b_M_init 54 = .ok (.new 38, 3) := by decide +kernel
theorem d_M_init_57 : decode b_M_init 57 = .ok (.dup, 1) := by decide +kernel
theorem d_M_init_58 : decode b_M_init 58 = .ok (.invokespecial 40, 3) := by decide +kernel
theorem d_M_init_61 : decode b_M_init 61 = .ok (.putfield 41, 3) := by decide +kernel
theorem d_M_init_64 : decode b_M_init 64 = .ok (.aload_n 0, 1) := by decide +kernel
theorem d_M_init_65 : decode b_M_init 65 = .ok (.bipush 40, 2) := by decide +kernel
theorem d_M_init_67 : decode b_M_init 67 = .ok (.anewarray 45, 3) := by decide +kernel
theorem d_M_init_70 : decode b_M_init 70 = .ok (.putfield 47, 3) := by decide +kernel
theorem d_M_init_73 : decode b_M_init 73 = .ok (.aload_n 0, 1) := by decide +kernel
theorem d_M_init_74 : decode b_M_init 74 = .ok (.iconst 4, 1) := by decide +kernel
theorem d_M_init_75 : decode b_M_init 75 = .ok (.anewarray 51, 3) := by decide +kernel
theorem d_M_init_78 : decode b_M_init 78 = .ok (.putfield 53, 3) := by decide +kernel
theorem d_M_init_81 : decode b_M_init 81 = .ok (.new 45, 3) := by decide +kernel
theorem d_M_init_84 : decode b_M_init 84 = .ok (.dup, 1) := by decide +kernel
theorem d_M_init_85 : decode b_M_init 85 = .ok (.iconst 4, 1) := by decide +kernel
theorem d_M_init_86 : decode b_M_init 86 = .ok (.iconst 0, 1) := by decide +kernel
theorem d_M_init_87 : decode b_M_init 87 = .ok (.iconst 0, 1) := by decide +kernel
theorem d_M_init_88 : decode b_M_init 88 = .ok (.iconst 0, 1) := by decide +kernel
theorem d_M_init_89 : decode b_M_init 89 = .ok (.iconst 0, 1) := by decide +kernel
theorem d_M_init_90 : decode b_M_init 90 = .ok (.iconst 0, 1) := by decide +kernel
theorem d_M_init_91 : decode b_M_init 91 = .ok (.invokespecial 57, 3) := by decide +kernel
theorem d_M_init_94 : decode b_M_init 94 = .ok (.astore_n 2, 1) := by decide +kernel
theorem d_M_init_95 : decode b_M_init 95 = .ok (.iconst 0, 1) := by decide +kernel
theorem d_M_init_96 : decode b_M_init 96 = .ok (.istore_n 3, 1) := by decide +kernel
theorem d_M_init_97 : decode b_M_init 97 = .ok (.iload_n 3, 1) := by decide +kernel
theorem d_M_init_98 : decode b_M_init 98 = .ok (.iconst 4, 1) := by decide +kernel
theorem d_M_init_99 : decode b_M_init 99 = .ok (.if_icmp .ge 31, 3) := by decide +kernel
theorem d_M_init_102 : decode b_M_init 102 = .ok (.aload_n 0, 1) := by decide +kernel
theorem d_M_init_103 : decode b_M_init 103 = .ok (.getfield 53, 3) := by decide +kernel
theorem d_M_init_106 : decode b_M_init 106 = .ok (.iload_n 3, 1) := by decide +kernel
theorem d_M_init_107 : decode b_M_init 107 = .ok (.new 51, 3) := by decide +kernel
theorem d_M_init_110 : decode b_M_init 110 = .ok (.dup, 1) := by decide +kernel
theorem d_M_init_111 : decode b_M_init 111 = .ok (.aload_n 0, 1) := by decide +kernel
theorem d_M_init_112 : decode b_M_init 112 = .ok (.getfield 31, 3) := by decide +kernel
theorem d_M_init_115 : decode b_M_init 115 = .ok (.aload_n 0, 1) := by decide +kernel
theorem d_M_init_116 : decode b_M_init 116 = .ok (.getfield 35, 3) := by decide +kernel
theorem d_M_init_119 : decode b_M_init 119 = .ok (.aload_n 2, 1) := by decide +kernel
theorem d_M_init_120 : decode b_M_init 120 = .ok (.invokespecial 60, 3) := by decide +kernel
theorem d_M_init_123 : decode b_M_init 123 = .ok (.aastore, 1) := by decide +kernel
theorem d_M_init_124 : decode b_M_init 124 = .ok (.iinc 3 1, 3) := by decide +kernel
theorem d_M_init_127 : decode b_M_init 127 = .ok (.goto (-30), 3) := by decide +kernel
theorem d_M_init_130 : decode b_M_init 130 = .ok (.aload_n 0, 1) := by decide +kernel
theorem d_M_init_131 : decode b_M_init 131 = .ok (.iconst 1, 1) := by decide +kernel
theorem d_M_init_132 : decode b_M_init 132 = .ok (.putfield 63, 3) := by decide +kernel
theorem d_M_init_135 : decode b_M_init 135 = .ok (.aload_n 0, 1) := by decide +kernel
theorem d_M_init_136 : decode b_M_init 136 = .ok (.sipush 128, 3) := by decide +kernel
theorem d_M_init_139 : decode b_M_init 139 = .ok (.putfield 66, 3) := by decide +kernel
theorem d_M_init_142 : decode b_M_init 142 = .ok (.return_, 1) := by decide +kernel
theorem d_M_scalar_0 : decode b_M_scalar 0 = .ok (.iload_n 1, 1) := by decide +kernel
theorem d_M_scalar_1 : decode b_M_scalar 1 = .ok (.ifCond .lt 18, 3) := by decide +kernel
theorem d_M_scalar_4 : decode b_M_scalar 4 = .ok (.iload_n 1, 1) := by decide +kernel
theorem d_M_scalar_5 : decode b_M_scalar 5 = .ok (.bipush 8, 2) := by decide +kernel
theorem d_M_scalar_7 : decode b_M_scalar 7 = .ok (.if_icmp .ge 12, 3) := by decide +kernel
theorem d_M_scalar_10 : decode b_M_scalar 10 = .ok (.aload_n 0, 1) := by decide +kernel
theorem d_M_scalar_11 : decode b_M_scalar 11 = .ok (.getfield 22, 3) := by decide +kernel
theorem d_M_scalar_14 : decode b_M_scalar 14 = .ok (.iload_n 1, 1) := by decide +kernel
theorem d_M_scalar_15 : decode b_M_scalar 15 = .ok (.iaload, 1) := by decide +kernel
theorem d_M_scalar_16 : decode b_M_scalar 16 = .ok (.goto 4, 3) := by decide +kernel
theorem d_M_scalar_19 : decode b_M_scalar 19 = .ok (.iconst 0, 1) := by decide +kernel
theorem d_M_scalar_20 : decode b_M_scalar 20 = .ok (.ireturn, 1) := by decide +kernel
theorem d_M_file_0 : decode b_M_file 0 = .ok (.aload_n 0, 1) := by decide +kernel
theorem d_M_file_1 : decode b_M_file 1 = .ok (.getfield 31, 3) := by decide +kernel
theorem d_M_file_4 : decode b_M_file 4 = .ok (.iload_n 1, 1) := by decide +kernel
theorem d_M_file_5 : decode b_M_file 5 = .ok (.iconst 1, 1) := by decide +kernel
theorem d_M_file_6 : decode b_M_file 6 = .ok (.invokevirtual 113, 3) := by decide +kernel
theorem d_M_file_9 : decode b_M_file 9 = .ok (.ireturn, 1) := by decide +kernel
theorem d_M_memory_0 : decode b_M_memory 0 = .ok (.aload_n 0, 1) := by decide +kernel
theorem d_M_memory_1 : decode b_M_memory 1 = .ok (.getfield 35, 3) := by decide +kernel
theorem d_M_memory_4 : decode b_M_memory 4 = .ok (.iload_n 1, 1) := by decide +kernel
theorem d_M_memory_5 : decode b_M_memory 5 = .ok (.iconst 1, 1) := by decide +kernel
theorem d_M_memory_6 : decode b_M_memory 6 = .ok (.invokevirtual 113, 3) := by decide +kernel
theorem d_M_memory_9 : decode b_M_memory 9 = .ok (.ireturn, 1) := by decide +kernel
theorem d_M_about_0 : decode b_M_about 0 = .ok (.iload_n 1, 1) := by decide +kernel
theorem d_M_about_1 : decode b_M_about 1 = .ok (.tableswitch 126 0 10 #[59, 64, 69, 77, 85, 93, 101, 106, 111, 116, 121], 59) := by decide +kernel
theorem d_M_about_60 : decode b_M_about 60 = .ok (.aload_n 0, 1) := by decide +kernel
theorem d_M_about_61 : decode b_M_about 61 = .ok (.getfield 63, 3) := by decide +kernel
theorem d_M_about_64 : decode b_M_about 64 = .ok (.ireturn, 1) := by decide +kernel
theorem d_M_about_65 : decode b_M_about 65 = .ok (.aload_n 0, 1) := by decide +kernel
theorem d_M_about_66 : decode b_M_about 66 = .ok (.getfield 88, 3) := by decide +kernel
theorem d_M_about_69 : decode b_M_about 69 = .ok (.ireturn, 1) := by decide +kernel
theorem d_M_about_70 : decode b_M_about 70 = .ok (.aload_n 0, 1) := by decide +kernel
theorem d_M_about_71 : decode b_M_about 71 = .ok (.getfield 41, 3) := by decide +kernel
theorem d_M_about_74 : decode b_M_about 74 = .ok (.invokevirtual 116, 3) := by decide +kernel
theorem d_M_about_77 : decode b_M_about 77 = .ok (.ireturn, 1) := by decide +kernel
theorem d_M_about_78 : decode b_M_about 78 = .ok (.aload_n 0, 1) := by decide +kernel
theorem d_M_about_79 : decode b_M_about 79 = .ok (.getfield 41, 3) := by decide +kernel
theorem d_M_about_82 : decode b_M_about 82 = .ok (.invokevirtual 120, 3) := by decide +kernel
theorem d_M_about_85 : decode b_M_about 85 = .ok (.ireturn, 1) := by decide +kernel
theorem d_M_about_86 : decode b_M_about 86 = .ok (.aload_n 0, 1) := by decide +kernel
theorem d_M_about_87 : decode b_M_about 87 = .ok (.getfield 41, 3) := by decide +kernel
theorem d_M_about_90 : decode b_M_about 90 = .ok (.getfield 123, 3) := by decide +kernel
theorem d_M_about_93 : decode b_M_about 93 = .ok (.ireturn, 1) := by decide +kernel
theorem d_M_about_94 : decode b_M_about 94 = .ok (.aload_n 0, 1) := by decide +kernel
theorem d_M_about_95 : decode b_M_about 95 = .ok (.getfield 41, 3) := by decide +kernel
theorem d_M_about_98 : decode b_M_about 98 = .ok (.getfield 91, 3) := by decide +kernel
theorem d_M_about_101 : decode b_M_about 101 = .ok (.ireturn, 1) := by decide +kernel
theorem d_M_about_102 : decode b_M_about 102 = .ok (.aload_n 0, 1) := by decide +kernel
theorem d_M_about_103 : decode b_M_about 103 = .ok (.getfield 66, 3) := by decide +kernel
theorem d_M_about_106 : decode b_M_about 106 = .ok (.ireturn, 1) := by decide +kernel
theorem d_M_about_107 : decode b_M_about 107 = .ok (.aload_n 0, 1) := by decide +kernel
theorem d_M_about_108 : decode b_M_about 108 = .ok (.getfield 94, 3) := by decide +kernel
theorem d_M_about_111 : decode b_M_about 111 = .ok (.ireturn, 1) := by decide +kernel
theorem d_M_about_112 : decode b_M_about 112 = .ok (.aload_n 0, 1) := by decide +kernel
theorem d_M_about_113 : decode b_M_about 113 = .ok (.getfield 85, 3) := by decide +kernel
theorem d_M_about_116 : decode b_M_about 116 = .ok (.ireturn, 1) := by decide +kernel
theorem d_M_about_117 : decode b_M_about 117 = .ok (.aload_n 0, 1) := by decide +kernel
theorem d_M_about_118 : decode b_M_about 118 = .ok (.getfield 79, 3) := by decide +kernel
theorem d_M_about_121 : decode b_M_about 121 = .ok (.ireturn, 1) := by decide +kernel
theorem d_M_about_122 : decode b_M_about 122 = .ok (.aload_n 0, 1) := by decide +kernel
theorem d_M_about_123 : decode b_M_about 123 = .ok (.getfield 126, 3) := by decide +kernel
theorem d_M_about_126 : decode b_M_about 126 = .ok (.ireturn, 1) := by decide +kernel
theorem d_M_about_127 : decode b_M_about 127 = .ok (.iconst (-1), 1) := by decide +kernel
theorem d_M_about_128 : decode b_M_about 128 = .ok (.ireturn, 1) := by decide +kernel
theorem d_M_queue_0 : decode b_M_queue 0 = .ok (.iload_n 1, 1) := by decide +kernel
theorem d_M_queue_1 : decode b_M_queue 1 = .ok (.ifCond .lt 16, 3) := by decide +kernel
theorem d_M_queue_4 : decode b_M_queue 4 = .ok (.iload_n 1, 1) := by decide +kernel
theorem d_M_queue_5 : decode b_M_queue 5 = .ok (.aload_n 0, 1) := by decide +kernel
theorem d_M_queue_6 : decode b_M_queue 6 = .ok (.getfield 85, 3) := by decide +kernel
theorem d_M_queue_9 : decode b_M_queue 9 = .ok (.if_icmp .ge 8, 3) := by decide +kernel
theorem d_M_queue_12 : decode b_M_queue 12 = .ok (.iload_n 1, 1) := by decide +kernel
theorem d_M_queue_13 : decode b_M_queue 13 = .ok (.iconst 4, 1) := by decide +kernel
theorem d_M_queue_14 : decode b_M_queue 14 = .ok (.if_icmp .lt 5, 3) := by decide +kernel
theorem d_M_queue_17 : decode b_M_queue 17 = .ok (.iconst (-1), 1) := by decide +kernel
theorem d_M_queue_18 : decode b_M_queue 18 = .ok (.ireturn, 1) := by decide +kernel
theorem d_M_queue_19 : decode b_M_queue 19 = .ok (.aload_n 0, 1) := by decide +kernel
theorem d_M_queue_20 : decode b_M_queue 20 = .ok (.getfield 53, 3) := by decide +kernel
theorem d_M_queue_23 : decode b_M_queue 23 = .ok (.iload_n 1, 1) := by decide +kernel
theorem d_M_queue_24 : decode b_M_queue 24 = .ok (.aaload, 1) := by decide +kernel
theorem d_M_queue_25 : decode b_M_queue 25 = .ok (.astore_n 3, 1) := by decide +kernel
theorem d_M_queue_26 : decode b_M_queue 26 = .ok (.iload_n 2, 1) := by decide +kernel
theorem d_M_queue_27 : decode b_M_queue 27 = .ok (.tableswitch 40 0 2 #[25, 30, 35], 25) := by decide +kernel
theorem d_M_queue_52 : decode b_M_queue 52 = .ok (.aload_n 3, 1) := by decide +kernel
theorem d_M_queue_53 : decode b_M_queue 53 = .ok (.getfield 129, 3) := by decide +kernel
theorem d_M_queue_56 : decode b_M_queue 56 = .ok (.ireturn, 1) := by decide +kernel
theorem d_M_queue_57 : decode b_M_queue 57 = .ok (.aload_n 3, 1) := by decide +kernel
theorem d_M_queue_58 : decode b_M_queue 58 = .ok (.invokevirtual 131, 3) := by decide +kernel
theorem d_M_queue_61 : decode b_M_queue 61 = .ok (.ireturn, 1) := by decide +kernel
theorem d_M_queue_62 : decode b_M_queue 62 = .ok (.aload_n 3, 1) := by decide +kernel
theorem d_M_queue_63 : decode b_M_queue 63 = .ok (.getfield 134, 3) := by decide +kernel
theorem d_M_queue_66 : decode b_M_queue 66 = .ok (.ireturn, 1) := by decide +kernel
theorem d_M_queue_67 : decode b_M_queue 67 = .ok (.iconst (-1), 1) := by decide +kernel
theorem d_M_queue_68 : decode b_M_queue 68 = .ok (.ireturn, 1) := by decide +kernel
theorem d_M_put_0 : decode b_M_put 0 = .ok (.iload_n 1, 1) := by decide +kernel
theorem d_M_put_1 : decode b_M_put 1 = .ok (.ifCond .lt 31, 3) := by decide +kernel
theorem d_M_put_4 : decode b_M_put 4 = .ok (.iload_n 1, 1) := by decide +kernel
theorem d_M_put_5 : decode b_M_put 5 = .ok (.bipush 20, 2) := by decide +kernel
theorem d_M_put_7 : decode b_M_put 7 = .ok (.if_icmp .gt 25, 3) := by decide +kernel
theorem d_M_put_10 : decode b_M_put 10 = .ok (.iload_n 2, 1) := by decide +kernel
theorem d_M_put_11 : decode b_M_put 11 = .ok (.invokestatic 69, 3) := by decide +kernel
theorem d_M_put_14 : decode b_M_put 14 = .ok (.ifCond .eq 18, 3) := by decide +kernel
theorem d_M_put_17 : decode b_M_put 17 = .ok (.iload_n 3, 1) := by decide +kernel
theorem d_M_put_18 : decode b_M_put 18 = .ok (.invokestatic 69, 3) := by decide +kernel
theorem d_M_put_21 : decode b_M_put 21 = .ok (.ifCond .eq 11, 3) := by decide +kernel
theorem d_M_put_24 : decode b_M_put 24 = .ok (.iload 4, 2) := by decide +kernel
theorem d_M_put_26 : decode b_M_put 26 = .ok (.invokestatic 69, 3) := by decide +kernel
theorem d_M_put_29 : decode b_M_put 29 = .ok (.ifCond .ne 11, 3) := by decide +kernel
theorem d_M_put_32 : decode b_M_put 32 = .ok (.new 73, 3) := by decide +kernel
theorem d_M_put_35 : decode b_M_put 35 = .ok (.dup, 1) := by decide +kernel
theorem d_M_put_36 : decode b_M_put 36 = .ok (.invokespecial 75, 3) := by decide +kernel
theorem d_M_put_39 : decode b_M_put 39 = .ok (.athrow, 1) := by decide +kernel
theorem d_M_put_40 : decode b_M_put 40 = .ok (.iload_n 1, 1) := by decide +kernel
theorem d_M_put_41 : decode b_M_put 41 = .ok (.bipush 6, 2) := by decide +kernel
theorem d_M_put_43 : decode b_M_put 43 = .ok (.if_icmp .ne 19, 3) := by decide +kernel
theorem d_M_put_46 : decode b_M_put 46 = .ok (.iload 5, 2) := by decide +kernel
theorem d_M_put_48 : decode b_M_put 48 = .ok (.invokestatic 76, 3) := by decide +kernel
theorem d_M_put_51 : decode b_M_put 51 = .ok (.ifCond .ne 11, 3) := by decide +kernel
theorem d_M_put_54 : decode b_M_put 54 = .ok (.new 73, 3) := by decide +kernel
theorem d_M_put_57 : decode b_M_put 57 = .ok (.dup, 1) := by decide +kernel
theorem d_M_put_58 : decode b_M_put 58 = .ok (.invokespecial 75, 3) := by decide +kernel
theorem d_M_put_61 : decode b_M_put 61 = .ok (.athrow, 1) := by decide +kernel
theorem d_M_put_62 : decode b_M_put 62 = .ok (.aload_n 0, 1) := by decide +kernel
theorem d_M_put_63 : decode b_M_put 63 = .ok (.getfield 63, 3) := by decide +kernel
theorem d_M_put_66 : decode b_M_put 66 = .ok (.ifCond .eq 12, 3) := by decide +kernel
theorem d_M_put_69 : decode b_M_put 69 = .ok (.aload_n 0, 1) := by decide +kernel
theorem d_M_put_70 : decode b_M_put 70 = .ok (.getfield 79, 3) := by decide +kernel
theorem d_M_put_73 : decode b_M_put 73 = .ok (.bipush 40, 2) := by decide +kernel
theorem d_M_put_75 : decode b_M_put 75 = .ok (.if_icmp .lt 11, 3) := by decide +kernel
theorem d_M_put_78 : decode b_M_put 78 = .ok (.new 82, 3) := by decide +kernel
theorem d_M_put_81 : decode b_M_put 81 = .ok (.dup, 1) := by decide +kernel
theorem d_M_put_82 : decode b_M_put 82 = .ok (.invokespecial 84, 3) := by decide +kernel
theorem d_M_put_85 : decode b_M_put 85 = .ok (.athrow, 1) := by decide +kernel
theorem d_M_put_86 : decode b_M_put 86 = .ok (.aload_n 0, 1) := by decide +kernel
theorem d_M_put_87 : decode b_M_put 87 = .ok (.getfield 47, 3) := by decide +kernel
theorem d_M_put_90 : decode b_M_put 90 = .ok (.aload_n 0, 1) := by decide +kernel
theorem d_M_put_91 : decode b_M_put 91 = .ok (.getfield 79, 3) := by decide +kernel
theorem d_M_put_94 : decode b_M_put 94 = .ok (.new 45, 3) := by decide +kernel
theorem d_M_put_97 : decode b_M_put 97 = .ok (.dup, 1) := by decide +kernel
theorem d_M_put_98 : decode b_M_put 98 = .ok (.iload_n 1, 1) := by decide +kernel
theorem d_M_put_99 : decode b_M_put 99 = .ok (.iload_n 2, 1) := by decide +kernel
theorem d_M_put_100 : decode b_M_put 100 = .ok (.iload_n 3, 1) := by decide +kernel
theorem d_M_put_101 : decode b_M_put 101 = .ok (.iload 4, 2) := by decide +kernel
theorem d_M_put_103 : decode b_M_put 103 = .ok (.iload 5, 2) := by decide +kernel
theorem d_M_put_105 : decode b_M_put 105 = .ok (.iload 6, 2) := by decide +kernel
theorem d_M_put_107 : decode b_M_put 107 = .ok (.invokespecial 57, 3) := by decide +kernel
theorem d_M_put_110 : decode b_M_put 110 = .ok (.aastore, 1) := by decide +kernel
theorem d_M_put_111 : decode b_M_put 111 = .ok (.aload_n 0, 1) := by decide +kernel
theorem d_M_put_112 : decode b_M_put 112 = .ok (.dup, 1) := by decide +kernel
theorem d_M_put_113 : decode b_M_put 113 = .ok (.getfield 79, 3) := by decide +kernel
theorem d_M_put_116 : decode b_M_put 116 = .ok (.iconst 1, 1) := by decide +kernel
theorem d_M_put_117 : decode b_M_put 117 = .ok (.iadd, 1) := by decide +kernel
theorem d_M_put_118 : decode b_M_put 118 = .ok (.putfield 79, 3) := by decide +kernel
theorem d_M_put_121 : decode b_M_put 121 = .ok (.aload_n 0, 1) := by decide +kernel
theorem d_M_put_122 : decode b_M_put 122 = .ok (.getfield 79, 3) := by decide +kernel
theorem d_M_put_125 : decode b_M_put 125 = .ok (.iconst 1, 1) := by decide +kernel
theorem d_M_put_126 : decode b_M_put 126 = .ok (.isub, 1) := by decide +kernel
theorem d_M_put_127 : decode b_M_put 127 = .ok (.ireturn, 1) := by decide +kernel
theorem d_M_isRegister_0 : decode b_M_isRegister 0 = .ok (.iload_n 0, 1) := by decide +kernel
theorem d_M_isRegister_1 : decode b_M_isRegister 1 = .ok (.ifCond .lt 13, 3) := by decide +kernel
theorem d_M_isRegister_4 : decode b_M_isRegister 4 = .ok (.iload_n 0, 1) := by decide +kernel
theorem d_M_isRegister_5 : decode b_M_isRegister 5 = .ok (.bipush 8, 2) := by decide +kernel
theorem d_M_isRegister_7 : decode b_M_isRegister 7 = .ok (.if_icmp .ge 7, 3) := by decide +kernel
theorem d_M_isRegister_10 : decode b_M_isRegister 10 = .ok (.iconst 1, 1) := by decide +kernel
theorem d_M_isRegister_11 : decode b_M_isRegister 11 = .ok (.goto 4, 3) := by decide +kernel
theorem d_M_isRegister_14 : decode b_M_isRegister 14 = .ok (.iconst 0, 1) := by decide +kernel
theorem d_M_isRegister_15 : decode b_M_isRegister 15 = .ok (.ireturn, 1) := by decide +kernel
theorem d_M_go_0 : decode b_M_go 0 = .ok (.iload_n 1, 1) := by decide +kernel
theorem d_M_go_1 : decode b_M_go 1 = .ok (.ifCond .lt 11, 3) := by decide +kernel
theorem d_M_go_4 : decode b_M_go 4 = .ok (.iload_n 1, 1) := by decide +kernel
theorem d_M_go_5 : decode b_M_go 5 = .ok (.aload_n 0, 1) := by decide +kernel
theorem d_M_go_6 : decode b_M_go 6 = .ok (.getfield 79, 3) := by decide +kernel
theorem d_M_go_9 : decode b_M_go 9 = .ok (.if_icmp .lt 11, 3) := by decide +kernel
theorem d_M_go_12 : decode b_M_go 12 = .ok (.new 73, 3) := by decide +kernel
theorem d_M_go_15 : decode b_M_go 15 = .ok (.dup, 1) := by decide +kernel
theorem d_M_go_16 : decode b_M_go 16 = .ok (.invokespecial 75, 3) := by decide +kernel
theorem d_M_go_19 : decode b_M_go 19 = .ok (.athrow, 1) := by decide +kernel
theorem d_M_go_20 : decode b_M_go 20 = .ok (.aload_n 0, 1) := by decide +kernel
theorem d_M_go_21 : decode b_M_go 21 = .ok (.getfield 63, 3) := by decide +kernel
theorem d_M_go_24 : decode b_M_go 24 = .ok (.ifCond .eq 10, 3) := by decide +kernel
theorem d_M_go_27 : decode b_M_go 27 = .ok (.aload_n 0, 1) := by decide +kernel
theorem d_M_go_28 : decode b_M_go 28 = .ok (.getfield 85, 3) := by decide +kernel
theorem d_M_go_31 : decode b_M_go 31 = .ok (.ifCond .le 11, 3) := by decide +kernel
theorem d_M_go_34 : decode b_M_go 34 = .ok (.new 82, 3) := by decide +kernel
theorem d_M_go_37 : decode b_M_go 37 = .ok (.dup, 1) := by decide +kernel
theorem d_M_go_38 : decode b_M_go 38 = .ok (.invokespecial 84, 3) := by decide +kernel
theorem d_M_go_41 : decode b_M_go 41 = .ok (.athrow, 1) := by decide +kernel
theorem d_M_go_42 : decode b_M_go 42 = .ok (.aload_n 0, 1) := by decide +kernel
theorem d_M_go_43 : decode b_M_go 43 = .ok (.iload_n 1, 1) := by decide +kernel
theorem d_M_go_44 : decode b_M_go 44 = .ok (.putfield 88, 3) := by decide +kernel
theorem d_M_go_47 : decode b_M_go 47 = .ok (.aload_n 0, 1) := by decide +kernel
theorem d_M_go_48 : decode b_M_go 48 = .ok (.getfield 41, 3) := by decide +kernel
theorem d_M_go_51 : decode b_M_go 51 = .ok (.iconst 0, 1) := by decide +kernel
theorem d_M_go_52 : decode b_M_go 52 = .ok (.putfield 91, 3) := by decide +kernel
theorem d_M_go_55 : decode b_M_go 55 = .ok (.aload_n 0, 1) := by decide +kernel
theorem d_M_go_56 : decode b_M_go 56 = .ok (.iconst 0, 1) := by decide +kernel
theorem d_M_go_57 : decode b_M_go 57 = .ok (.putfield 63, 3) := by decide +kernel
theorem d_M_go_60 : decode b_M_go 60 = .ok (.iload_n 1, 1) := by decide +kernel
theorem d_M_go_61 : decode b_M_go 61 = .ok (.ireturn, 1) := by decide +kernel
theorem d_M_resume_0 : decode b_M_resume 0 = .ok (.aload_n 0, 1) := by decide +kernel
theorem d_M_resume_1 : decode b_M_resume 1 = .ok (.getfield 63, 3) := by decide +kernel
theorem d_M_resume_4 : decode b_M_resume 4 = .ok (.iconst 2, 1) := by decide +kernel
theorem d_M_resume_5 : decode b_M_resume 5 = .ok (.if_icmp .ne 10, 3) := by decide +kernel
theorem d_M_resume_8 : decode b_M_resume 8 = .ok (.aload_n 0, 1) := by decide +kernel
theorem d_M_resume_9 : decode b_M_resume 9 = .ok (.getfield 85, 3) := by decide +kernel
theorem d_M_resume_12 : decode b_M_resume 12 = .ok (.ifCond .le 11, 3) := by decide +kernel
theorem d_M_resume_15 : decode b_M_resume 15 = .ok (.new 82, 3) := by decide +kernel
theorem d_M_resume_18 : decode b_M_resume 18 = .ok (.dup, 1) := by decide +kernel
theorem d_M_resume_19 : decode b_M_resume 19 = .ok (.invokespecial 84, 3) := by decide +kernel
theorem d_M_resume_22 : decode b_M_resume 22 = .ok (.athrow, 1) := by decide +kernel
theorem d_M_resume_23 : decode b_M_resume 23 = .ok (.aload_n 0, 1) := by decide +kernel
theorem d_M_resume_24 : decode b_M_resume 24 = .ok (.iconst 0, 1) := by decide +kernel
theorem d_M_resume_25 : decode b_M_resume 25 = .ok (.putfield 63, 3) := by decide +kernel
theorem d_M_resume_28 : decode b_M_resume 28 = .ok (.aload_n 0, 1) := by decide +kernel
theorem d_M_resume_29 : decode b_M_resume 29 = .ok (.getfield 41, 3) := by decide +kernel
theorem d_M_resume_32 : decode b_M_resume 32 = .ok (.getfield 91, 3) := by decide +kernel
theorem d_M_resume_35 : decode b_M_resume 35 = .ok (.ireturn, 1) := by decide +kernel
theorem d_M_cycles_0 : decode b_M_cycles 0 = .ok (.iload_n 1, 1) := by decide +kernel
theorem d_M_cycles_1 : decode b_M_cycles 1 = .ok (.iconst 1, 1) := by decide +kernel
theorem d_M_cycles_2 : decode b_M_cycles 2 = .ok (.if_icmp .lt 10, 3) := by decide +kernel
theorem d_M_cycles_5 : decode b_M_cycles 5 = .ok (.iload_n 1, 1) := by decide +kernel
theorem d_M_cycles_6 : decode b_M_cycles 6 = .ok (.sipush 200, 3) := by decide +kernel
theorem d_M_cycles_9 : decode b_M_cycles 9 = .ok (.if_icmp .le 11, 3) := by decide +kernel
theorem d_M_cycles_12 : decode b_M_cycles 12 = .ok (.new 73, 3) := by decide +kernel
theorem d_M_cycles_15 : decode b_M_cycles 15 = .ok (.dup, 1) := by decide +kernel
theorem d_M_cycles_16 : decode b_M_cycles 16 = .ok (.invokespecial 75, 3) := by decide +kernel
theorem d_M_cycles_19 : decode b_M_cycles 19 = .ok (.athrow, 1) := by decide +kernel
theorem d_M_cycles_20 : decode b_M_cycles 20 = .ok (.iconst 0, 1) := by decide +kernel
theorem d_M_cycles_21 : decode b_M_cycles 21 = .ok (.istore_n 2, 1) := by decide +kernel
theorem d_M_cycles_22 : decode b_M_cycles 22 = .ok (.iload_n 2, 1) := by decide +kernel
theorem d_M_cycles_23 : decode b_M_cycles 23 = .ok (.iload_n 1, 1) := by decide +kernel
theorem d_M_cycles_24 : decode b_M_cycles 24 = .ok (.if_icmp .ge 56, 3) := by decide +kernel
theorem d_M_cycles_27 : decode b_M_cycles 27 = .ok (.aload_n 0, 1) := by decide +kernel
theorem d_M_cycles_28 : decode b_M_cycles 28 = .ok (.dup, 1) := by decide +kernel
theorem d_M_cycles_29 : decode b_M_cycles 29 = .ok (.getfield 94, 3) := by decide +kernel
theorem d_M_cycles_32 : decode b_M_cycles 32 = .ok (.iconst 1, 1) := by decide +kernel
theorem d_M_cycles_33 : decode b_M_cycles 33 = .ok (.iadd, 1) := by decide +kernel
theorem d_M_cycles_34 : decode b_M_cycles 34 = .ok (.putfield 94, 3) := by decide +kernel
theorem d_M_cycles_37 : decode b_M_cycles 37 = .ok (.aload_n 0, 1) := by decide +kernel
theorem d_M_cycles_38 : decode b_M_cycles 38 = .ok (.invokevirtual 97, 3) := by decide +kernel
theorem d_M_cycles_41 : decode b_M_cycles 41 = .ok (.iconst 0, 1) := by decide +kernel
theorem d_M_cycles_42 : decode b_M_cycles 42 = .ok (.istore_n 3, 1) := by decide +kernel
theorem d_M_cycles_43 : decode b_M_cycles 43 = .ok (.iload_n 3, 1) := by decide +kernel
theorem d_M_cycles_44 : decode b_M_cycles 44 = .ok (.iconst 3, 1) := by decide +kernel
theorem d_M_cycles_45 : decode b_M_cycles 45 = .ok (.if_icmp .ge 14, 3) := by decide +kernel
theorem d_M_cycles_48 : decode b_M_cycles 48 = .ok (.aload_n 0, 1) := by decide +kernel
theorem d_M_cycles_49 : decode b_M_cycles 49 = .ok (.iload_n 3, 1) := by decide +kernel
theorem d_M_cycles_50 : decode b_M_cycles 50 = .ok (.invokevirtual 100, 3) := by decide +kernel
theorem d_M_cycles_53 : decode b_M_cycles 53 = .ok (.iinc 3 1, 3) := by decide +kernel
theorem d_M_cycles_56 : decode b_M_cycles 56 = .ok (.goto (-13), 3) := by decide +kernel
theorem d_M_cycles_59 : decode b_M_cycles 59 = .ok (.aload_n 0, 1) := by decide +kernel
theorem d_M_cycles_60 : decode b_M_cycles 60 = .ok (.invokevirtual 103, 3) := by decide +kernel
theorem d_M_cycles_63 : decode b_M_cycles 63 = .ok (.aload_n 0, 1) := by decide +kernel
theorem d_M_cycles_64 : decode b_M_cycles 64 = .ok (.getfield 63, 3) := by decide +kernel
theorem d_M_cycles_67 : decode b_M_cycles 67 = .ok (.ifCond .ne 7, 3) := by decide +kernel
theorem d_M_cycles_70 : decode b_M_cycles 70 = .ok (.aload_n 0, 1) := by decide +kernel
theorem d_M_cycles_71 : decode b_M_cycles 71 = .ok (.invokevirtual 106, 3) := by decide +kernel
theorem d_M_cycles_74 : decode b_M_cycles 74 = .ok (.iinc 2 1, 3) := by decide +kernel
theorem d_M_cycles_77 : decode b_M_cycles 77 = .ok (.goto (-55), 3) := by decide +kernel
theorem d_M_cycles_80 : decode b_M_cycles 80 = .ok (.aload_n 0, 1) := by decide +kernel
theorem d_M_cycles_81 : decode b_M_cycles 81 = .ok (.getfield 94, 3) := by decide +kernel
theorem d_M_cycles_84 : decode b_M_cycles 84 = .ok (.ireturn, 1) := by decide +kernel
theorem d_M_noteStepsDone_0 : decode b_M_noteStepsDone 0 = .ok (.iconst 0, 1) := by decide +kernel
theorem d_M_noteStepsDone_1 : decode b_M_noteStepsDone 1 = .ok (.istore_n 1, 1) := by decide +kernel
theorem d_M_noteStepsDone_2 : decode b_M_noteStepsDone 2 = .ok (.iload_n 1, 1) := by decide +kernel
theorem d_M_noteStepsDone_3 : decode b_M_noteStepsDone 3 = .ok (.aload_n 0, 1) := by decide +kernel
theorem d_M_noteStepsDone_4 : decode b_M_noteStepsDone 4 = .ok (.getfield 85, 3) := by decide +kernel
theorem d_M_noteStepsDone_7 : decode b_M_noteStepsDone 7 = .ok (.if_icmp .ge 32, 3) := by decide +kernel
theorem d_M_noteStepsDone_10 : decode b_M_noteStepsDone 10 = .ok (.iload_n 1, 1) := by decide +kernel
theorem d_M_noteStepsDone_11 : decode b_M_noteStepsDone 11 = .ok (.iconst 4, 1) := by decide +kernel
theorem d_M_noteStepsDone_12 : decode b_M_noteStepsDone 12 = .ok (.if_icmp .ge 27, 3) := by decide +kernel
theorem d_M_noteStepsDone_15 : decode b_M_noteStepsDone 15 = .ok (.aload_n 0, 1) := by decide +kernel
theorem d_M_noteStepsDone_16 : decode b_M_noteStepsDone 16 = .ok (.getfield 53, 3) := by decide +kernel
theorem d_M_noteStepsDone_19 : decode b_M_noteStepsDone 19 = .ok (.iload_n 1, 1) := by decide +kernel
theorem d_M_noteStepsDone_20 : decode b_M_noteStepsDone 20 = .ok (.aaload, 1) := by decide +kernel
theorem d_M_noteStepsDone_21 : decode b_M_noteStepsDone 21 = .ok (.aload_n 0, 1) := by decide +kernel
theorem d_M_noteStepsDone_22 : decode b_M_noteStepsDone 22 = .ok (.getfield 53, 3) := by decide +kernel
theorem d_M_noteStepsDone_25 : decode b_M_noteStepsDone 25 = .ok (.iload_n 1, 1) := by decide +kernel
theorem d_M_noteStepsDone_26 : decode b_M_noteStepsDone 26 = .ok (.aaload, 1) := by decide +kernel
theorem d_M_noteStepsDone_27 : decode b_M_noteStepsDone 27 = .ok (.getfield 134, 3) := by decide +kernel
theorem d_M_noteStepsDone_30 : decode b_M_noteStepsDone 30 = .ok (.putfield 137, 3) := by decide +kernel
theorem d_M_noteStepsDone_33 : decode b_M_noteStepsDone 33 = .ok (.iinc 1 1, 3) := by decide +kernel
theorem d_M_noteStepsDone_36 : decode b_M_noteStepsDone 36 = .ok (.goto (-34), 3) := by decide +kernel
theorem d_M_noteStepsDone_39 : decode b_M_noteStepsDone 39 = .ok (.return_, 1) := by decide +kernel
theorem d_M_workUnit_0 : decode b_M_workUnit 0 = .ok (.lconst 0, 1) := by decide +kernel
theorem d_M_workUnit_1 : decode b_M_workUnit 1 = .ok (.lstore_n 2, 1) := by decide +kernel
theorem d_M_workUnit_2 : decode b_M_workUnit 2 = .ok (.lconst 0, 1) := by decide +kernel
theorem d_M_workUnit_3 : decode b_M_workUnit 3 = .ok (.lstore 4, 2) := by decide +kernel
theorem d_M_workUnit_5 : decode b_M_workUnit 5 = .ok (.iconst 0, 1) := by decide +kernel
theorem d_M_workUnit_6 : decode b_M_workUnit 6 = .ok (.istore 6, 2) := by decide +kernel
theorem d_M_workUnit_8 : decode b_M_workUnit 8 = .ok (.iload 6, 2) := by decide +kernel
theorem d_M_workUnit_10 : decode b_M_workUnit 10 = .ok (.aload_n 0, 1) := by decide +kernel
theorem d_M_workUnit_11 : decode b_M_workUnit 11 = .ok (.getfield 85, 3) := by decide +kernel
theorem d_M_workUnit_14 : decode b_M_workUnit 14 = .ok (.if_icmp .ge 109, 3) := by decide +kernel
theorem d_M_workUnit_17 : decode b_M_workUnit 17 = .ok (.iload 6, 2) := by decide +kernel
theorem d_M_workUnit_19 : decode b_M_workUnit 19 = .ok (.iconst 4, 1) := by decide +kernel
theorem d_M_workUnit_20 : decode b_M_workUnit 20 = .ok (.if_icmp .ge 103, 3) := by decide +kernel
theorem d_M_workUnit_23 : decode b_M_workUnit 23 = .ok (.aload_n 0, 1) := by decide +kernel
theorem d_M_workUnit_24 : decode b_M_workUnit 24 = .ok (.getfield 53, 3) := by decide +kernel
theorem d_M_workUnit_27 : decode b_M_workUnit 27 = .ok (.iload 6, 2) := by decide +kernel
theorem d_M_workUnit_29 : decode b_M_workUnit 29 = .ok (.aaload, 1) := by decide +kernel
theorem d_M_workUnit_30 : decode b_M_workUnit 30 = .ok (.astore 7, 2) := by decide +kernel
theorem d_M_workUnit_32 : decode b_M_workUnit 32 = .ok (.aload 7, 2) := by decide +kernel
theorem d_M_workUnit_34 : decode b_M_workUnit 34 = .ok (.getfield 140, 3) := by decide +kernel
theorem d_M_workUnit_37 : decode b_M_workUnit 37 = .ok (.invokevirtual 144, 3) := by decide +kernel
theorem d_M_workUnit_40 : decode b_M_workUnit 40 = .ok (.iload_n 1, 1) := by decide +kernel
theorem d_M_workUnit_41 : decode b_M_workUnit 41 = .ok (.if_icmp .ne 48, 3) := by decide +kernel
theorem d_M_workUnit_44 : decode b_M_workUnit 44 = .ok (.iconst 0, 1) := by decide +kernel
theorem d_M_workUnit_45 : decode b_M_workUnit 45 = .ok (.istore 8, 2) := by decide +kernel
theorem d_M_workUnit_47 : decode b_M_workUnit 47 = .ok (.iload 8, 2) := by decide +kernel
theorem d_M_workUnit_49 : decode b_M_workUnit 49 = .ok (.aload_n 0, 1) := by decide +kernel
theorem d_M_workUnit_50 : decode b_M_workUnit 50 = .ok (.getfield 18, 3) := by decide +kernel
theorem d_M_workUnit_53 : decode b_M_workUnit 53 = .ok (.if_icmp .ge 35, 3) := by decide +kernel
theorem d_M_workUnit_56 : decode b_M_workUnit 56 = .ok (.aload 7, 2) := by decide +kernel
theorem d_M_workUnit_58 : decode b_M_workUnit 58 = .ok (.lload_n 2, 1) := by decide +kernel
theorem d_M_workUnit_59 : decode b_M_workUnit 59 = .ok (.lload 4, 2) := by decide +kernel
theorem d_M_workUnit_61 : decode b_M_workUnit 61 = .ok (.invokevirtual 147, 3) := by decide +kernel
theorem d_M_workUnit_64 : decode b_M_workUnit 64 = .ok (.ifCond .eq 24, 3) := by decide +kernel
theorem d_M_workUnit_67 : decode b_M_workUnit 67 = .ok (.aload 7, 2) := by decide +kernel
theorem d_M_workUnit_69 : decode b_M_workUnit 69 = .ok (.invokevirtual 151, 3) := by decide +kernel
theorem d_M_workUnit_72 : decode b_M_workUnit 72 = .ok (.aload_n 0, 1) := by decide +kernel
theorem d_M_workUnit_73 : decode b_M_workUnit 73 = .ok (.dup, 1) := by decide +kernel
theorem d_M_workUnit_74 : decode b_M_workUnit 74 = .ok (.getfield 126, 3) := by decide +kernel
theorem d_M_workUnit_77 : decode b_M_workUnit 77 = .ok (.iconst 1, 1) := by decide +kernel
theorem d_M_workUnit_78 : decode b_M_workUnit 78 = .ok (.iadd, 1) := by decide +kernel
theorem d_M_workUnit_79 : decode b_M_workUnit 79 = .ok (.putfield 126, 3) := by decide +kernel
theorem d_M_workUnit_82 : decode b_M_workUnit 82 = .ok (.iinc 8 1, 3) := by decide +kernel
theorem d_M_workUnit_85 : decode b_M_workUnit 85 = .ok (.goto (-38), 3) := by decide +kernel
theorem d_M_workUnit_88 : decode b_M_workUnit 88 = .ok (.return_, 1) := by decide +kernel
theorem d_M_workUnit_89 : decode b_M_workUnit 89 = .ok (.lload_n 2, 1) := by decide +kernel
theorem d_M_workUnit_90 : decode b_M_workUnit 90 = .ok (.aload 7, 2) := by decide +kernel
theorem d_M_workUnit_92 : decode b_M_workUnit 92 = .ok (.aload 7, 2) := by decide +kernel
theorem d_M_workUnit_94 : decode b_M_workUnit 94 = .ok (.getfield 137, 3) := by decide +kernel
theorem d_M_workUnit_97 : decode b_M_workUnit 97 = .ok (.invokevirtual 154, 3) := by decide +kernel
theorem d_M_workUnit_100 : decode b_M_workUnit 100 = .ok (.lor, 1) := by decide +kernel
theorem d_M_workUnit_101 : decode b_M_workUnit 101 = .ok (.lstore_n 2, 1) := by decide +kernel
theorem d_M_workUnit_102 : decode b_M_workUnit 102 = .ok (.lload 4, 2) := by decide +kernel
theorem d_M_workUnit_104 : decode b_M_workUnit 104 = .ok (.aload 7, 2) := by decide +kernel
theorem d_M_workUnit_106 : decode b_M_workUnit 106 = .ok (.aload 7, 2) := by decide +kernel
theorem d_M_workUnit_108 : decode b_M_workUnit 108 = .ok (.getfield 137, 3) := by decide +kernel
theorem d_M_workUnit_111 : decode b_M_workUnit 111 = .ok (.invokevirtual 158, 3) := by decide +kernel
theorem d_M_workUnit_114 : decode b_M_workUnit 114 = .ok (.lor, 1) := by decide +kernel
theorem d_M_workUnit_115 : decode b_M_workUnit 115 = .ok (.lstore 4, 2) := by decide +kernel
theorem d_M_workUnit_117 : decode b_M_workUnit 117 = .ok (.iinc 6 1, 3) := by decide +kernel
theorem d_M_workUnit_120 : decode b_M_workUnit 120 = .ok (.goto (-112), 3) := by decide +kernel
theorem d_M_workUnit_123 : decode b_M_workUnit 123 = .ok (.return_, 1) := by decide +kernel
theorem d_M_dropFinished_0 : decode b_M_dropFinished 0 = .ok (.iconst 0, 1) := by decide +kernel
theorem d_M_dropFinished_1 : decode b_M_dropFinished 1 = .ok (.istore_n 1, 1) := by decide +kernel
theorem d_M_dropFinished_2 : decode b_M_dropFinished 2 = .ok (.iconst 0, 1) := by decide +kernel
theorem d_M_dropFinished_3 : decode b_M_dropFinished 3 = .ok (.istore_n 2, 1) := by decide +kernel
theorem d_M_dropFinished_4 : decode b_M_dropFinished 4 = .ok (.iload_n 2, 1) := by decide +kernel
theorem d_M_dropFinished_5 : decode b_M_dropFinished 5 = .ok (.aload_n 0, 1) := by decide +kernel
theorem d_M_dropFinished_6 : decode b_M_dropFinished 6 = .ok (.getfield 85, 3) := by decide +kernel
theorem d_M_dropFinished_9 : decode b_M_dropFinished 9 = .ok (.if_icmp .ge 50, 3) := by decide +kernel
theorem d_M_dropFinished_12 : decode b_M_dropFinished 12 = .ok (.iload_n 2, 1) := by decide +kernel
theorem d_M_dropFinished_13 : decode b_M_dropFinished 13 = .ok (.iconst 4, 1) := by decide +kernel
theorem d_M_dropFinished_14 : decode b_M_dropFinished 14 = .ok (.if_icmp .ge 45, 3) := by decide +kernel
theorem d_M_dropFinished_17 : decode b_M_dropFinished 17 = .ok (.aload_n 0, 1) := by decide +kernel
theorem d_M_dropFinished_18 : decode b_M_dropFinished 18 = .ok (.getfield 53, 3) := by decide +kernel
theorem d_M_dropFinished_21 : decode b_M_dropFinished 21 = .ok (.iload_n 2, 1) := by decide +kernel
theorem d_M_dropFinished_22 : decode b_M_dropFinished 22 = .ok (.aaload, 1) := by decide +kernel
theorem d_M_dropFinished_23 : decode b_M_dropFinished 23 = .ok (.astore_n 3, 1) := by decide +kernel
theorem d_M_dropFinished_24 : decode b_M_dropFinished 24 = .ok (.aload_n 3, 1) := by decide +kernel
theorem d_M_dropFinished_25 : decode b_M_dropFinished 25 = .ok (.invokevirtual 161, 3) := by decide +kernel
theorem d_M_dropFinished_28 : decode b_M_dropFinished 28 = .ok (.ifCond .ne 25, 3) := by decide +kernel
theorem d_M_dropFinished_31 : decode b_M_dropFinished 31 = .ok (.aload_n 0, 1) := by decide +kernel
theorem d_M_dropFinished_32 : decode b_M_dropFinished 32 = .ok (.getfield 53, 3) := by decide +kernel
theorem d_M_dropFinished_35 : decode b_M_dropFinished 35 = .ok (.iload_n 2, 1) := by decide +kernel
theorem d_M_dropFinished_36 : decode b_M_dropFinished 36 = .ok (.aload_n 0, 1) := by decide +kernel
theorem d_M_dropFinished_37 : decode b_M_dropFinished 37 = .ok (.getfield 53, 3) := by decide +kernel
theorem d_M_dropFinished_40 : decode b_M_dropFinished 40 = .ok (.iload_n 1, 1) := by decide +kernel
theorem d_M_dropFinished_41 : decode b_M_dropFinished 41 = .ok (.aaload, 1) := by decide +kernel
theorem d_M_dropFinished_42 : decode b_M_dropFinished 42 = .ok (.aastore, 1) := by decide +kernel
theorem d_M_dropFinished_43 : decode b_M_dropFinished 43 = .ok (.aload_n 0, 1) := by decide +kernel
theorem d_M_dropFinished_44 : decode b_M_dropFinished 44 = .ok (.getfield 53, 3) := by decide +kernel
theorem d_M_dropFinished_47 : decode b_M_dropFinished 47 = .ok (.iload_n 1, 1) := by decide +kernel
theorem d_M_dropFinished_48 : decode b_M_dropFinished 48 = .ok (.aload_n 3, 1) := by decide +kernel
theorem d_M_dropFinished_49 : decode b_M_dropFinished 49 = .ok (.aastore, 1) := by decide +kernel
theorem d_M_dropFinished_50 : decode b_M_dropFinished 50 = .ok (.iinc 1 1, 3) := by decide +kernel
theorem d_M_dropFinished_53 : decode b_M_dropFinished 53 = .ok (.iinc 2 1, 3) := by decide +kernel
theorem d_M_dropFinished_56 : decode b_M_dropFinished 56 = .ok (.goto (-52), 3) := by decide +kernel
theorem d_M_dropFinished_59 : decode b_M_dropFinished 59 = .ok (.aload_n 0, 1) := by decide +kernel
theorem d_M_dropFinished_60 : decode b_M_dropFinished 60 = .ok (.iload_n 1, 1) := by decide +kernel
theorem d_M_dropFinished_61 : decode b_M_dropFinished 61 = .ok (.putfield 85, 3) := by decide +kernel
theorem d_M_dropFinished_64 : decode b_M_dropFinished 64 = .ok (.return_, 1) := by decide +kernel
theorem d_M_advance_0 : decode b_M_advance 0 = .ok (.aload_n 0, 1) := by decide +kernel
theorem d_M_advance_1 : decode b_M_advance 1 = .ok (.getfield 88, 3) := by decide +kernel
theorem d_M_advance_4 : decode b_M_advance 4 = .ok (.ifCond .lt 35, 3) := by decide +kernel
theorem d_M_advance_7 : decode b_M_advance 7 = .ok (.aload_n 0, 1) := by decide +kernel
theorem d_M_advance_8 : decode b_M_advance 8 = .ok (.getfield 88, 3) := by decide +kernel
theorem d_M_advance_11 : decode b_M_advance 11 = .ok (.aload_n 0, 1) := by decide +kernel
theorem d_M_advance_12 : decode b_M_advance 12 = .ok (.getfield 79, 3) := by decide +kernel
theorem d_M_advance_15 : decode b_M_advance 15 = .ok (.if_icmp .ge 24, 3) := by decide +kernel
theorem d_M_advance_18 : decode b_M_advance 18 = .ok (.aload_n 0, 1) := by decide +kernel
theorem d_M_advance_19 : decode b_M_advance 19 = .ok (.getfield 88, 3) := by decide +kernel
theorem d_M_advance_22 : decode b_M_advance 22 = .ok (.bipush 40, 2) := by decide +kernel
theorem d_M_advance_24 : decode b_M_advance 24 = .ok (.if_icmp .ge 15, 3) := by decide +kernel
theorem d_M_advance_27 : decode b_M_advance 27 = .ok (.aload_n 0, 1) := by decide +kernel
theorem d_M_advance_28 : decode b_M_advance 28 = .ok (.getfield 47, 3) := by decide +kernel
theorem d_M_advance_31 : decode b_M_advance 31 = .ok (.aload_n 0, 1) := by decide +kernel
theorem d_M_advance_32 : decode b_M_advance 32 = .ok (.getfield 88, 3) := by decide +kernel
theorem d_M_advance_35 : decode b_M_advance 35 = .ok (.aaload, 1) := by decide +kernel
theorem d_M_advance_36 : decode b_M_advance 36 = .ok (.goto 4, 3) := by decide +kernel
theorem d_M_advance_39 : decode b_M_advance 39 = .ok (.aconst_null, 1) := by decide +kernel
theorem d_M_advance_40 : decode b_M_advance 40 = .ok (.astore_n 1, 1) := by decide +kernel
theorem d_M_advance_41 : decode b_M_advance 41 = .ok (.aload_n 1, 1) := by decide +kernel
theorem d_M_advance_42 : decode b_M_advance 42 = .ok (.ifnull 14, 3) := by decide +kernel
theorem d_M_advance_45 : decode b_M_advance 45 = .ok (.aload_n 0, 1) := by decide +kernel
theorem d_M_advance_46 : decode b_M_advance 46 = .ok (.getfield 41, 3) := by decide +kernel
theorem d_M_advance_49 : decode b_M_advance 49 = .ok (.aload_n 1, 1) := by decide +kernel
theorem d_M_advance_50 : decode b_M_advance 50 = .ok (.invokevirtual 165, 3) := by decide +kernel
theorem d_M_advance_53 : decode b_M_advance 53 = .ok (.ifCond .eq 11, 3) := by decide +kernel
theorem d_M_advance_56 : decode b_M_advance 56 = .ok (.aload_n 0, 1) := by decide +kernel
theorem d_M_advance_57 : decode b_M_advance 57 = .ok (.iconst 3, 1) := by decide +kernel
theorem d_M_advance_58 : decode b_M_advance 58 = .ok (.putfield 63, 3) := by decide +kernel
theorem d_M_advance_61 : decode b_M_advance 61 = .ok (.goto 62, 3) := by decide +kernel
theorem d_M_advance_64 : decode b_M_advance 64 = .ok (.aload_n 1, 1) := by decide +kernel
theorem d_M_advance_65 : decode b_M_advance 65 = .ok (.invokevirtual 169, 3) := by decide +kernel
theorem d_M_advance_68 : decode b_M_advance 68 = .ok (.ifCond .eq 36, 3) := by decide +kernel
theorem d_M_advance_71 : decode b_M_advance 71 = .ok (.aload_n 0, 1) := by decide +kernel
theorem d_M_advance_72 : decode b_M_advance 72 = .ok (.getfield 85, 3) := by decide +kernel
theorem d_M_advance_75 : decode b_M_advance 75 = .ok (.iconst 4, 1) := by decide +kernel
theorem d_M_advance_76 : decode b_M_advance 76 = .ok (.if_icmp .ge 47, 3) := by decide +kernel
theorem d_M_advance_79 : decode b_M_advance 79 = .ok (.aload_n 0, 1) := by decide +kernel
theorem d_M_advance_80 : decode b_M_advance 80 = .ok (.aload_n 1, 1) := by decide +kernel
theorem d_M_advance_81 : decode b_M_advance 81 = .ok (.invokevirtual 172, 3) := by decide +kernel
theorem d_M_advance_84 : decode b_M_advance 84 = .ok (.ifCond .ne 39, 3) := by decide +kernel
theorem d_M_advance_87 : decode b_M_advance 87 = .ok (.aload_n 0, 1) := by decide +kernel
theorem d_M_advance_88 : decode b_M_advance 88 = .ok (.aload_n 1, 1) := by decide +kernel
theorem d_M_advance_89 : decode b_M_advance 89 = .ok (.aload_n 0, 1) := by decide +kernel
theorem d_M_advance_90 : decode b_M_advance 90 = .ok (.getfield 53, 3) := by decide +kernel
theorem d_M_advance_93 : decode b_M_advance 93 = .ok (.aload_n 0, 1) := by decide +kernel
theorem d_M_advance_94 : decode b_M_advance 94 = .ok (.getfield 85, 3) := by decide +kernel
theorem d_M_advance_97 : decode b_M_advance 97 = .ok (.aaload, 1) := by decide +kernel
theorem d_M_advance_98 : decode b_M_advance 98 = .ok (.invokevirtual 175, 3) := by decide +kernel
theorem d_M_advance_101 : decode b_M_advance 101 = .ok (.goto 22, 3) := by decide +kernel
theorem d_M_advance_104 : decode b_M_advance 104 = .ok (.aload_n 0, 1) := by decide +kernel
theorem d_M_advance_105 : decode b_M_advance 105 = .ok (.getfield 85, 3) := by decide +kernel
theorem d_M_advance_108 : decode b_M_advance 108 = .ok (.ifCond .eq 10, 3) := by decide +kernel
theorem d_M_advance_111 : decode b_M_advance 111 = .ok (.aload_n 1, 1) := by decide +kernel
theorem d_M_advance_112 : decode b_M_advance 112 = .ok (.invokevirtual 179, 3) := by decide +kernel
theorem d_M_advance_115 : decode b_M_advance 115 = .ok (.ifCond .ne 8, 3) := by decide +kernel
theorem d_M_advance_118 : decode b_M_advance 118 = .ok (.aload_n 0, 1) := by decide +kernel
theorem d_M_advance_119 : decode b_M_advance 119 = .ok (.aload_n 1, 1) := by decide +kernel
theorem d_M_advance_120 : decode b_M_advance 120 = .ok (.invokevirtual 182, 3) := by decide +kernel
theorem d_M_advance_123 : decode b_M_advance 123 = .ok (.return_, 1) := by decide +kernel
theorem d_M_mustWaitForQueue_0 : decode b_M_mustWaitForQueue 0 = .ok (.aload_n 1, 1) := by decide +kernel
theorem d_M_mustWaitForQueue_1 : decode b_M_mustWaitForQueue 1 = .ok (.invokevirtual 144, 3) := by decide +kernel
theorem d_M_mustWaitForQueue_4 : decode b_M_mustWaitForQueue 4 = .ok (.iconst 2, 1) := by decide +kernel
theorem d_M_mustWaitForQueue_5 : decode b_M_mustWaitForQueue 5 = .ok (.if_icmp .eq 5, 3) := by decide +kernel
theorem d_M_mustWaitForQueue_8 : decode b_M_mustWaitForQueue 8 = .ok (.iconst 0, 1) := by decide +kernel
theorem d_M_mustWaitForQueue_9 : decode b_M_mustWaitForQueue 9 = .ok (.ireturn, 1) := by decide +kernel
theorem d_M_mustWaitForQueue_10 : decode b_M_mustWaitForQueue 10 = .ok (.aload_n 1, 1) := by decide +kernel
theorem d_M_mustWaitForQueue_11 : decode b_M_mustWaitForQueue 11 = .ok (.getfield 212, 3) := by decide +kernel
theorem d_M_mustWaitForQueue_14 : decode b_M_mustWaitForQueue 14 = .ok (.ifCond .eq 12, 3) := by decide +kernel
theorem d_M_mustWaitForQueue_17 : decode b_M_mustWaitForQueue 17 = .ok (.iconst 0, 1) := by decide +kernel
theorem d_M_mustWaitForQueue_18 : decode b_M_mustWaitForQueue 18 = .ok (.bipush 8, 2) := by decide +kernel
theorem d_M_mustWaitForQueue_20 : decode b_M_mustWaitForQueue 20 = .ok (.invokestatic 216, 3) := by decide +kernel
theorem d_M_mustWaitForQueue_23 : decode b_M_mustWaitForQueue 23 = .ok (.goto 4, 3) := by decide +kernel
theorem d_M_mustWaitForQueue_26 : decode b_M_mustWaitForQueue 26 = .ok (.lconst 0, 1) := by decide +kernel
theorem d_M_mustWaitForQueue_27 : decode b_M_mustWaitForQueue 27 = .ok (.lstore_n 2, 1) := by decide +kernel
theorem d_M_mustWaitForQueue_28 : decode b_M_mustWaitForQueue 28 = .ok (.aload_n 1, 1) := by decide +kernel
theorem d_M_mustWaitForQueue_29 : decode b_M_mustWaitForQueue 29 = .ok (.getfield 186, 3) := by decide +kernel
theorem d_M_mustWaitForQueue_32 : decode b_M_mustWaitForQueue 32 = .ok (.bipush 19, 2) := by decide +kernel
theorem d_M_mustWaitForQueue_34 : decode b_M_mustWaitForQueue 34 = .ok (.if_icmp .ne 26, 3) := by decide +kernel
theorem d_M_mustWaitForQueue_37 : decode b_M_mustWaitForQueue 37 = .ok (.lload_n 2, 1) := by decide +kernel
theorem d_M_mustWaitForQueue_38 : decode b_M_mustWaitForQueue 38 = .ok (.bipush 8, 2) := by decide +kernel
theorem d_M_mustWaitForQueue_40 : decode b_M_mustWaitForQueue 40 = .ok (.aload_n 1, 1) := by decide +kernel
theorem d_M_mustWaitForQueue_41 : decode b_M_mustWaitForQueue 41 = .ok (.getfield 206, 3) := by decide +kernel
theorem d_M_mustWaitForQueue_44 : decode b_M_mustWaitForQueue 44 = .ok (.imul, 1) := by decide +kernel
theorem d_M_mustWaitForQueue_45 : decode b_M_mustWaitForQueue 45 = .ok (.bipush 8, 2) := by decide +kernel
theorem d_M_mustWaitForQueue_47 : decode b_M_mustWaitForQueue 47 = .ok (.aload_n 0, 1) := by decide +kernel
theorem d_M_mustWaitForQueue_48 : decode b_M_mustWaitForQueue 48 = .ok (.getfield 41, 3) := by decide +kernel
theorem d_M_mustWaitForQueue_51 : decode b_M_mustWaitForQueue 51 = .ok (.invokevirtual 120, 3) := by decide +kernel
theorem d_M_mustWaitForQueue_54 : decode b_M_mustWaitForQueue 54 = .ok (.imul, 1) := by decide +kernel
theorem d_M_mustWaitForQueue_55 : decode b_M_mustWaitForQueue 55 = .ok (.invokestatic 216, 3) := by decide +kernel
theorem d_M_mustWaitForQueue_58 : decode b_M_mustWaitForQueue 58 = .ok (.lor, 1) := by decide +kernel
theorem d_M_mustWaitForQueue_59 : decode b_M_mustWaitForQueue 59 = .ok (.lstore_n 2, 1) := by decide +kernel
theorem d_M_mustWaitForQueue_60 : decode b_M_mustWaitForQueue 60 = .ok (.iconst 0, 1) := by decide +kernel
theorem d_M_mustWaitForQueue_61 : decode b_M_mustWaitForQueue 61 = .ok (.istore 4, 2) := by decide +kernel
theorem d_M_mustWaitForQueue_63 : decode b_M_mustWaitForQueue 63 = .ok (.iload 4, 2) := by decide +kernel
theorem d_M_mustWaitForQueue_65 : decode b_M_mustWaitForQueue 65 = .ok (.aload_n 0, 1) := by decide +kernel
theorem d_M_mustWaitForQueue_66 : decode b_M_mustWaitForQueue 66 = .ok (.getfield 85, 3) := by decide +kernel
theorem d_M_mustWaitForQueue_69 : decode b_M_mustWaitForQueue 69 = .ok (.if_icmp .ge 55, 3) := by decide +kernel
theorem d_M_mustWaitForQueue_72 : decode b_M_mustWaitForQueue 72 = .ok (.iload 4, 2) := by decide +kernel
theorem d_M_mustWaitForQueue_74 : decode b_M_mustWaitForQueue 74 = .ok (.iconst 4, 1) := by decide +kernel
theorem d_M_mustWaitForQueue_75 : decode b_M_mustWaitForQueue 75 = .ok (.if_icmp .ge 49, 3) := by decide +kernel
theorem d_M_mustWaitForQueue_78 : decode b_M_mustWaitForQueue 78 = .ok (.aload_n 0, 1) := by decide +kernel
theorem d_M_mustWaitForQueue_79 : decode b_M_mustWaitForQueue 79 = .ok (.getfield 53, 3) := by decide +kernel
theorem d_M_mustWaitForQueue_82 : decode b_M_mustWaitForQueue 82 = .ok (.iload 4, 2) := by decide +kernel
theorem d_M_mustWaitForQueue_84 : decode b_M_mustWaitForQueue 84 = .ok (.aaload, 1) := by decide +kernel
theorem d_M_mustWaitForQueue_85 : decode b_M_mustWaitForQueue 85 = .ok (.astore 5, 2) := by decide +kernel
theorem d_M_mustWaitForQueue_87 : decode b_M_mustWaitForQueue 87 = .ok (.aload 5, 2) := by decide +kernel
theorem d_M_mustWaitForQueue_89 : decode b_M_mustWaitForQueue 89 = .ok (.getfield 140, 3) := by decide +kernel
theorem d_M_mustWaitForQueue_92 : decode b_M_mustWaitForQueue 92 = .ok (.invokevirtual 144, 3) := by decide +kernel
theorem d_M_mustWaitForQueue_95 : decode b_M_mustWaitForQueue 95 = .ok (.iconst 2, 1) := by decide +kernel
theorem d_M_mustWaitForQueue_96 : decode b_M_mustWaitForQueue 96 = .ok (.if_icmp .eq 20, 3) := by decide +kernel
theorem d_M_mustWaitForQueue_99 : decode b_M_mustWaitForQueue 99 = .ok (.aload 5, 2) := by decide +kernel
theorem d_M_mustWaitForQueue_101 : decode b_M_mustWaitForQueue 101 = .ok (.aload 5, 2) := by decide +kernel
theorem d_M_mustWaitForQueue_103 : decode b_M_mustWaitForQueue 103 = .ok (.getfield 134, 3) := by decide +kernel
theorem d_M_mustWaitForQueue_106 : decode b_M_mustWaitForQueue 106 = .ok (.invokevirtual 158, 3) := by decide +kernel
theorem d_M_mustWaitForQueue_109 : decode b_M_mustWaitForQueue 109 = .ok (.lload_n 2, 1) := by decide +kernel
theorem d_M_mustWaitForQueue_110 : decode b_M_mustWaitForQueue 110 = .ok (.land, 1) := by decide +kernel
theorem d_M_mustWaitForQueue_111 : decode b_M_mustWaitForQueue 111 = .ok (.lconst 0, 1) := by decide +kernel
theorem d_M_mustWaitForQueue_112 : decode b_M_mustWaitForQueue 112 = .ok (.lcmp, 1) := by decide +kernel
theorem d_M_mustWaitForQueue_113 : decode b_M_mustWaitForQueue 113 = .ok (.ifCond .eq 5, 3) := by decide +kernel
theorem d_M_mustWaitForQueue_116 : decode b_M_mustWaitForQueue 116 = .ok (.iconst 1, 1) := by decide +kernel
theorem d_M_mustWaitForQueue_117 : decode b_M_mustWaitForQueue 117 = .ok (.ireturn, 1) := by decide +kernel
theorem d_M_mustWaitForQueue_118 : decode b_M_mustWaitForQueue 118 = .ok (.iinc 4 1, 3) := by decide +kernel
theorem d_M_mustWaitForQueue_121 : decode b_M_mustWaitForQueue 121 = .ok (.goto (-58), 3) := by decide +kernel
theorem d_M_mustWaitForQueue_124 : decode b_M_mustWaitForQueue 124 = .ok (.iconst 0, 1) := by decide +kernel
theorem d_M_mustWaitForQueue_125 : decode b_M_mustWaitForQueue 125 = .ok (.ireturn, 1) := by decide +kernel
theorem d_M_handOut_0 : decode b_M_handOut 0 = .ok (.aload_n 2, 1) := by decide +kernel
theorem d_M_handOut_1 : decode b_M_handOut 1 = .ok (.aload_n 1, 1) := by decide +kernel
theorem d_M_handOut_2 : decode b_M_handOut 2 = .ok (.aload_n 0, 1) := by decide +kernel
theorem d_M_handOut_3 : decode b_M_handOut 3 = .ok (.getfield 88, 3) := by decide +kernel
theorem d_M_handOut_6 : decode b_M_handOut 6 = .ok (.aload_n 0, 1) := by decide +kernel
theorem d_M_handOut_7 : decode b_M_handOut 7 = .ok (.getfield 41, 3) := by decide +kernel
theorem d_M_handOut_10 : decode b_M_handOut 10 = .ok (.aload_n 0, 1) := by decide +kernel
theorem d_M_handOut_11 : decode b_M_handOut 11 = .ok (.aload_n 1, 1) := by decide +kernel
theorem d_M_handOut_12 : decode b_M_handOut 12 = .ok (.getfield 199, 3) := by decide +kernel
theorem d_M_handOut_15 : decode b_M_handOut 15 = .ok (.invokevirtual 202, 3) := by decide +kernel
theorem d_M_handOut_18 : decode b_M_handOut 18 = .ok (.aload_n 0, 1) := by decide +kernel
theorem d_M_handOut_19 : decode b_M_handOut 19 = .ok (.aload_n 1, 1) := by decide +kernel
theorem d_M_handOut_20 : decode b_M_handOut 20 = .ok (.getfield 206, 3) := by decide +kernel
theorem d_M_handOut_23 : decode b_M_handOut 23 = .ok (.invokevirtual 202, 3) := by decide +kernel
theorem d_M_handOut_26 : decode b_M_handOut 26 = .ok (.invokevirtual 220, 3) := by decide +kernel
theorem d_M_handOut_29 : decode b_M_handOut 29 = .ok (.aload_n 1, 1) := by decide +kernel
theorem d_M_handOut_30 : decode b_M_handOut 30 = .ok (.invokevirtual 144, 3) := by decide +kernel
theorem d_M_handOut_33 : decode b_M_handOut 33 = .ok (.iconst 2, 1) := by decide +kernel
theorem d_M_handOut_34 : decode b_M_handOut 34 = .ok (.if_icmp .ne 14, 3) := by decide +kernel
theorem d_M_handOut_37 : decode b_M_handOut 37 = .ok (.aload_n 2, 1) := by decide +kernel
theorem d_M_handOut_38 : decode b_M_handOut 38 = .ok (.aload_n 0, 1) := by decide +kernel
theorem d_M_handOut_39 : decode b_M_handOut 39 = .ok (.getfield 66, 3) := by decide +kernel
theorem d_M_handOut_42 : decode b_M_handOut 42 = .ok (.invokevirtual 224, 3) := by decide +kernel
theorem d_M_handOut_45 : decode b_M_handOut 45 = .ok (.goto 4, 3) := by decide +kernel
theorem d_M_handOut_48 : decode b_M_handOut 48 = .ok (.iconst (-1), 1) := by decide +kernel
theorem d_M_handOut_49 : decode b_M_handOut 49 = .ok (.istore_n 3, 1) := by decide +kernel
theorem d_M_handOut_50 : decode b_M_handOut 50 = .ok (.iload_n 3, 1) := by decide +kernel
theorem d_M_handOut_51 : decode b_M_handOut 51 = .ok (.iconst (-1), 1) := by decide +kernel
theorem d_M_handOut_52 : decode b_M_handOut 52 = .ok (.if_icmp .eq 8, 3) := by decide +kernel
theorem d_M_handOut_55 : decode b_M_handOut 55 = .ok (.aload_n 2, 1) := by decide +kernel
theorem d_M_handOut_56 : decode b_M_handOut 56 = .ok (.iload_n 3, 1) := by decide +kernel
theorem d_M_handOut_57 : decode b_M_handOut 57 = .ok (.putfield 227, 3) := by decide +kernel
theorem d_M_handOut_60 : decode b_M_handOut 60 = .ok (.aload_n 2, 1) := by decide +kernel
theorem d_M_handOut_61 : decode b_M_handOut 61 = .ok (.invokevirtual 131, 3) := by decide +kernel
theorem d_M_handOut_64 : decode b_M_handOut 64 = .ok (.ifCond .le 17, 3) := by decide +kernel
theorem d_M_handOut_67 : decode b_M_handOut 67 = .ok (.aload_n 2, 1) := by decide +kernel
theorem d_M_handOut_68 : decode b_M_handOut 68 = .ok (.invokevirtual 230, 3) := by decide +kernel
theorem d_M_handOut_71 : decode b_M_handOut 71 = .ok (.aload_n 0, 1) := by decide +kernel
theorem d_M_handOut_72 : decode b_M_handOut 72 = .ok (.dup, 1) := by decide +kernel
theorem d_M_handOut_73 : decode b_M_handOut 73 = .ok (.getfield 85, 3) := by decide +kernel
theorem d_M_handOut_76 : decode b_M_handOut 76 = .ok (.iconst 1, 1) := by decide +kernel
theorem d_M_handOut_77 : decode b_M_handOut 77 = .ok (.iadd, 1) := by decide +kernel
theorem d_M_handOut_78 : decode b_M_handOut 78 = .ok (.putfield 85, 3) := by decide +kernel
theorem d_M_handOut_81 : decode b_M_handOut 81 = .ok (.iload_n 3, 1) := by decide +kernel
theorem d_M_handOut_82 : decode b_M_handOut 82 = .ok (.iconst (-1), 1) := by decide +kernel
theorem d_M_handOut_83 : decode b_M_handOut 83 = .ok (.if_icmp .ne 24, 3) := by decide +kernel
theorem d_M_handOut_86 : decode b_M_handOut 86 = .ok (.aload_n 0, 1) := by decide +kernel
theorem d_M_handOut_87 : decode b_M_handOut 87 = .ok (.getfield 41, 3) := by decide +kernel
theorem d_M_handOut_90 : decode b_M_handOut 90 = .ok (.iconst 0, 1) := by decide +kernel
theorem d_M_handOut_91 : decode b_M_handOut 91 = .ok (.putfield 91, 3) := by decide +kernel
theorem d_M_handOut_94 : decode b_M_handOut 94 = .ok (.aload_n 0, 1) := by decide +kernel
theorem d_M_handOut_95 : decode b_M_handOut 95 = .ok (.dup, 1) := by decide +kernel
theorem d_M_handOut_96 : decode b_M_handOut 96 = .ok (.getfield 88, 3) := by decide +kernel
theorem d_M_handOut_99 : decode b_M_handOut 99 = .ok (.iconst 1, 1) := by decide +kernel
theorem d_M_handOut_100 : decode b_M_handOut 100 = .ok (.iadd, 1) := by decide +kernel
theorem d_M_handOut_101 : decode b_M_handOut 101 = .ok (.putfield 88, 3) := by decide +kernel
theorem d_M_handOut_104 : decode b_M_handOut 104 = .ok (.goto 58, 3) := by decide +kernel
theorem d_M_handOut_107 : decode b_M_handOut 107 = .ok (.aload_n 1, 1) := by decide +kernel
theorem d_M_handOut_108 : decode b_M_handOut 108 = .ok (.getfield 186, 3) := by decide +kernel
theorem d_M_handOut_111 : decode b_M_handOut 111 = .ok (.bipush 20, 2) := by decide +kernel
theorem d_M_handOut_113 : decode b_M_handOut 113 = .ok (.if_icmp .ne 36, 3) := by decide +kernel
theorem d_M_handOut_116 : decode b_M_handOut 116 = .ok (.iload_n 3, 1) := by decide +kernel
theorem d_M_handOut_117 : decode b_M_handOut 117 = .ok (.ifCond .le 32, 3) := by decide +kernel
theorem d_M_handOut_120 : decode b_M_handOut 120 = .ok (.aload_n 0, 1) := by decide +kernel
theorem d_M_handOut_121 : decode b_M_handOut 121 = .ok (.getfield 41, 3) := by decide +kernel
theorem d_M_handOut_124 : decode b_M_handOut 124 = .ok (.iload_n 3, 1) := by decide +kernel
theorem d_M_handOut_125 : decode b_M_handOut 125 = .ok (.putfield 123, 3) := by decide +kernel
theorem d_M_handOut_128 : decode b_M_handOut 128 = .ok (.aload_n 0, 1) := by decide +kernel
theorem d_M_handOut_129 : decode b_M_handOut 129 = .ok (.getfield 41, 3) := by decide +kernel
theorem d_M_handOut_132 : decode b_M_handOut 132 = .ok (.iconst 0, 1) := by decide +kernel
theorem d_M_handOut_133 : decode b_M_handOut 133 = .ok (.putfield 91, 3) := by decide +kernel
theorem d_M_handOut_136 : decode b_M_handOut 136 = .ok (.aload_n 0, 1) := by decide +kernel
theorem d_M_handOut_137 : decode b_M_handOut 137 = .ok (.dup, 1) := by decide +kernel
theorem d_M_handOut_138 : decode b_M_handOut 138 = .ok (.getfield 88, 3) := by decide +kernel
theorem d_M_handOut_141 : decode b_M_handOut 141 = .ok (.iconst 1, 1) := by decide +kernel
theorem d_M_handOut_142 : decode b_M_handOut 142 = .ok (.iadd, 1) := by decide +kernel
theorem d_M_handOut_143 : decode b_M_handOut 143 = .ok (.putfield 88, 3) := by decide +kernel
theorem d_M_handOut_146 : decode b_M_handOut 146 = .ok (.goto 16, 3) := by decide +kernel
theorem d_M_handOut_149 : decode b_M_handOut 149 = .ok (.aload_n 0, 1) := by decide +kernel
theorem d_M_handOut_150 : decode b_M_handOut 150 = .ok (.getfield 41, 3) := by decide +kernel
theorem d_M_handOut_153 : decode b_M_handOut 153 = .ok (.iload_n 3, 1) := by decide +kernel
theorem d_M_handOut_154 : decode b_M_handOut 154 = .ok (.putfield 91, 3) := by decide +kernel
theorem d_M_handOut_157 : decode b_M_handOut 157 = .ok (.aload_n 0, 1) := by decide +kernel
theorem d_M_handOut_158 : decode b_M_handOut 158 = .ok (.iconst 2, 1) := by decide +kernel
theorem d_M_handOut_159 : decode b_M_handOut 159 = .ok (.putfield 63, 3) := by decide +kernel
theorem d_M_handOut_162 : decode b_M_handOut 162 = .ok (.return_, 1) := by decide +kernel
theorem d_M_doScalar_0 : decode b_M_doScalar 0 = .ok (.aload_n 0, 1) := by decide +kernel
theorem d_M_doScalar_1 : decode b_M_doScalar 1 = .ok (.getfield 88, 3) := by decide +kernel
theorem d_M_doScalar_4 : decode b_M_doScalar 4 = .ok (.iconst 1, 1) := by decide +kernel
theorem d_M_doScalar_5 : decode b_M_doScalar 5 = .ok (.iadd, 1) := by decide +kernel
theorem d_M_doScalar_6 : decode b_M_doScalar 6 = .ok (.istore_n 2, 1) := by decide +kernel
theorem d_M_doScalar_7 : decode b_M_doScalar 7 = .ok (.aload_n 1, 1) := by decide +kernel
theorem d_M_doScalar_8 : decode b_M_doScalar 8 = .ok (.getfield 186, 3) := by decide +kernel
theorem d_M_doScalar_11 : decode b_M_doScalar 11 = .ok (.tableswitch 237 0 7 #[45, 60, 88, 112, 237, 143, 168, 205], 45) := by decide +kernel
theorem d_M_doScalar_56 : decode b_M_doScalar 56 = .ok (.aload_n 0, 1) := by decide +kernel
theorem d_M_doScalar_57 : decode b_M_doScalar 57 = .ok (.aload_n 1, 1) := by decide +kernel
theorem d_M_doScalar_58 : decode b_M_doScalar 58 = .ok (.getfield 189, 3) := by decide +kernel
theorem d_M_doScalar_61 : decode b_M_doScalar 61 = .ok (.aload_n 1, 1) := by decide +kernel
theorem d_M_doScalar_62 : decode b_M_doScalar 62 = .ok (.getfield 192, 3) := by decide +kernel
theorem d_M_doScalar_65 : decode b_M_doScalar 65 = .ok (.invokevirtual 195, 3) := by decide +kernel
theorem d_M_doScalar_68 : decode b_M_doScalar 68 = .ok (.goto 190, 3) := by decide +kernel
theorem d_M_doScalar_71 : decode b_M_doScalar 71 = .ok (.aload_n 0, 1) := by decide +kernel
theorem d_M_doScalar_72 : decode b_M_doScalar 72 = .ok (.aload_n 1, 1) := by decide +kernel
theorem d_M_doScalar_73 : decode b_M_doScalar 73 = .ok (.getfield 189, 3) := by decide +kernel
theorem d_M_doScalar_76 : decode b_M_doScalar 76 = .ok (.aload_n 0, 1) := by decide +kernel
theorem d_M_doScalar_77 : decode b_M_doScalar 77 = .ok (.aload_n 1, 1) := by decide +kernel
theorem d_M_doScalar_78 : decode b_M_doScalar 78 = .ok (.getfield 199, 3) := by decide +kernel
theorem d_M_doScalar_81 : decode b_M_doScalar 81 = .ok (.invokevirtual 202, 3) := by decide +kernel
theorem d_M_doScalar_84 : decode b_M_doScalar 84 = .ok (.aload_n 0, 1) := by decide +kernel
theorem d_M_doScalar_85 : decode b_M_doScalar 85 = .ok (.aload_n 1, 1) := by decide +kernel
theorem d_M_doScalar_86 : decode b_M_doScalar 86 = .ok (.getfield 206, 3) := by decide +kernel
theorem d_M_doScalar_89 : decode b_M_doScalar 89 = .ok (.invokevirtual 202, 3) := by decide +kernel
theorem d_M_doScalar_92 : decode b_M_doScalar 92 = .ok (.iadd, 1) := by decide +kernel
theorem d_M_doScalar_93 : decode b_M_doScalar 93 = .ok (.invokevirtual 195, 3) := by decide +kernel
theorem d_M_doScalar_96 : decode b_M_doScalar 96 = .ok (.goto 162, 3) := by decide +kernel
theorem d_M_doScalar_99 : decode b_M_doScalar 99 = .ok (.aload_n 0, 1) := by decide +kernel
theorem d_M_doScalar_100 : decode b_M_doScalar 100 = .ok (.aload_n 1, 1) := by decide +kernel
theorem d_M_doScalar_101 : decode b_M_doScalar 101 = .ok (.getfield 189, 3) := by decide +kernel
theorem d_M_doScalar_104 : decode b_M_doScalar 104 = .ok (.aload_n 0, 1) := by decide +kernel
theorem d_M_doScalar_105 : decode b_M_doScalar 105 = .ok (.aload_n 1, 1) := by decide +kernel
theorem d_M_doScalar_106 : decode b_M_doScalar 106 = .ok (.getfield 199, 3) := by decide +kernel
theorem d_M_doScalar_109 : decode b_M_doScalar 109 = .ok (.invokevirtual 202, 3) := by decide +kernel
theorem d_M_doScalar_112 : decode b_M_doScalar 112 = .ok (.aload_n 1, 1) := by decide +kernel
theorem d_M_doScalar_113 : decode b_M_doScalar 113 = .ok (.getfield 192, 3) := by decide +kernel
theorem d_M_doScalar_116 : decode b_M_doScalar 116 = .ok (.iadd, 1) := by decide +kernel
theorem d_M_doScalar_117 : decode b_M_doScalar 117 = .ok (.invokevirtual 195, 3) := by decide +kernel
theorem d_M_doScalar_120 : decode b_M_doScalar 120 = .ok (.goto 138, 3) := by decide +kernel
theorem d_M_doScalar_123 : decode b_M_doScalar 123 = .ok (.aload_n 0, 1) := by decide +kernel
theorem d_M_doScalar_124 : decode b_M_doScalar 124 = .ok (.aload_n 1, 1) := by decide +kernel
theorem d_M_doScalar_125 : decode b_M_doScalar 125 = .ok (.getfield 199, 3) := by decide +kernel
theorem d_M_doScalar_128 : decode b_M_doScalar 128 = .ok (.invokevirtual 202, 3) := by decide +kernel
theorem d_M_doScalar_131 : decode b_M_doScalar 131 = .ok (.aload_n 0, 1) := by decide +kernel
theorem d_M_doScalar_132 : decode b_M_doScalar 132 = .ok (.aload_n 1, 1) := by decide +kernel
theorem d_M_doScalar_133 : decode b_M_doScalar 133 = .ok (.getfield 206, 3) := by decide +kernel
theorem d_M_doScalar_136 : decode b_M_doScalar 136 = .ok (.invokevirtual 202, 3) := by decide +kernel
theorem d_M_doScalar_139 : decode b_M_doScalar 139 = .ok (.if_icmp .eq 10, 3) := by decide +kernel
theorem d_M_doScalar_142 : decode b_M_doScalar 142 = .ok (.aload_n 1, 1) := by decide +kernel
theorem d_M_doScalar_143 : decode b_M_doScalar 143 = .ok (.getfield 192, 3) := by decide +kernel
theorem d_M_doScalar_146 : decode b_M_doScalar 146 = .ok (.goto 4, 3) := by decide +kernel
theorem d_M_doScalar_149 : decode b_M_doScalar 149 = .ok (.iload_n 2, 1) := by decide +kernel
theorem d_M_doScalar_150 : decode b_M_doScalar 150 = .ok (.istore_n 2, 1) := by decide +kernel
theorem d_M_doScalar_151 : decode b_M_doScalar 151 = .ok (.goto 107, 3) := by decide +kernel
theorem d_M_doScalar_154 : decode b_M_doScalar 154 = .ok (.aload_n 0, 1) := by decide +kernel
theorem d_M_doScalar_155 : decode b_M_doScalar 155 = .ok (.iconst 0, 1) := by decide +kernel
theorem d_M_doScalar_156 : decode b_M_doScalar 156 = .ok (.sipush 128, 3) := by decide +kernel
theorem d_M_doScalar_159 : decode b_M_doScalar 159 = .ok (.aload_n 0, 1) := by decide +kernel
theorem d_M_doScalar_160 : decode b_M_doScalar 160 = .ok (.aload_n 1, 1) := by decide +kernel
theorem d_M_doScalar_161 : decode b_M_doScalar 161 = .ok (.getfield 199, 3) := by decide +kernel
theorem d_M_doScalar_164 : decode b_M_doScalar 164 = .ok (.invokevirtual 202, 3) := by decide +kernel
theorem d_M_doScalar_167 : decode b_M_doScalar 167 = .ok (.invokestatic 9, 3) := by decide +kernel
theorem d_M_doScalar_170 : decode b_M_doScalar 170 = .ok (.invokestatic 15, 3) := by decide +kernel
theorem d_M_doScalar_173 : decode b_M_doScalar 173 = .ok (.putfield 66, 3) := by decide +kernel
theorem d_M_doScalar_176 : decode b_M_doScalar 176 = .ok (.goto 82, 3) := by decide +kernel
theorem d_M_doScalar_179 : decode b_M_doScalar 179 = .ok (.aload_n 0, 1) := by decide +kernel
theorem d_M_doScalar_180 : decode b_M_doScalar 180 = .ok (.getfield 41, 3) := by decide +kernel
theorem d_M_doScalar_183 : decode b_M_doScalar 183 = .ok (.aload_n 1, 1) := by decide +kernel
theorem d_M_doScalar_184 : decode b_M_doScalar 184 = .ok (.getfield 192, 3) := by decide +kernel
theorem d_M_doScalar_187 : decode b_M_doScalar 187 = .ok (.aload_n 0, 1) := by decide +kernel
theorem d_M_doScalar_188 : decode b_M_doScalar 188 = .ok (.aload_n 1, 1) := by decide +kernel
theorem d_M_doScalar_189 : decode b_M_doScalar 189 = .ok (.getfield 199, 3) := by decide +kernel
theorem d_M_doScalar_192 : decode b_M_doScalar 192 = .ok (.invokevirtual 202, 3) := by decide +kernel
theorem d_M_doScalar_195 : decode b_M_doScalar 195 = .ok (.invokevirtual 209, 3) := by decide +kernel
theorem d_M_doScalar_198 : decode b_M_doScalar 198 = .ok (.aload_n 0, 1) := by decide +kernel
theorem d_M_doScalar_199 : decode b_M_doScalar 199 = .ok (.aload_n 1, 1) := by decide +kernel
theorem d_M_doScalar_200 : decode b_M_doScalar 200 = .ok (.getfield 189, 3) := by decide +kernel
theorem d_M_doScalar_203 : decode b_M_doScalar 203 = .ok (.aload_n 0, 1) := by decide +kernel
theorem d_M_doScalar_204 : decode b_M_doScalar 204 = .ok (.getfield 41, 3) := by decide +kernel
theorem d_M_doScalar_207 : decode b_M_doScalar 207 = .ok (.getfield 123, 3) := by decide +kernel
theorem d_M_doScalar_210 : decode b_M_doScalar 210 = .ok (.invokevirtual 195, 3) := by decide +kernel
theorem d_M_doScalar_213 : decode b_M_doScalar 213 = .ok (.goto 45, 3) := by decide +kernel
theorem d_M_doScalar_216 : decode b_M_doScalar 216 = .ok (.aload_n 0, 1) := by decide +kernel
theorem d_M_doScalar_217 : decode b_M_doScalar 217 = .ok (.aload_n 1, 1) := by decide +kernel
theorem d_M_doScalar_218 : decode b_M_doScalar 218 = .ok (.getfield 189, 3) := by decide +kernel
theorem d_M_doScalar_221 : decode b_M_doScalar 221 = .ok (.aload_n 0, 1) := by decide +kernel
theorem d_M_doScalar_222 : decode b_M_doScalar 222 = .ok (.getfield 31, 3) := by decide +kernel
theorem d_M_doScalar_225 : decode b_M_doScalar 225 = .ok (.bipush 8, 2) := by decide +kernel
theorem d_M_doScalar_227 : decode b_M_doScalar 227 = .ok (.aload_n 1, 1) := by decide +kernel
theorem d_M_doScalar_228 : decode b_M_doScalar 228 = .ok (.getfield 199, 3) := by decide +kernel
theorem d_M_doScalar_231 : decode b_M_doScalar 231 = .ok (.imul, 1) := by decide +kernel
theorem d_M_doScalar_232 : decode b_M_doScalar 232 = .ok (.aload_n 0, 1) := by decide +kernel
theorem d_M_doScalar_233 : decode b_M_doScalar 233 = .ok (.getfield 41, 3) := by decide +kernel
theorem d_M_doScalar_236 : decode b_M_doScalar 236 = .ok (.invokevirtual 116, 3) := by decide +kernel
theorem d_M_doScalar_239 : decode b_M_doScalar 239 = .ok (.invokevirtual 113, 3) := by decide +kernel
theorem d_M_doScalar_242 : decode b_M_doScalar 242 = .ok (.invokevirtual 195, 3) := by decide +kernel
theorem d_M_doScalar_245 : decode b_M_doScalar 245 = .ok (.goto 13, 3) := by decide +kernel
theorem d_M_doScalar_248 : decode b_M_doScalar 248 = .ok (.aload_n 0, 1) := by decide +kernel
theorem d_M_doScalar_249 : decode b_M_doScalar 249 = .ok (.iconst 1, 1) := by decide +kernel
theorem d_M_doScalar_250 : decode b_M_doScalar 250 = .ok (.putfield 63, 3) := by decide +kernel
theorem d_M_doScalar_253 : decode b_M_doScalar 253 = .ok (.aload_n 0, 1) := by decide +kernel
theorem d_M_doScalar_254 : decode b_M_doScalar 254 = .ok (.getfield 88, 3) := by decide +kernel
theorem d_M_doScalar_257 : decode b_M_doScalar 257 = .ok (.istore_n 2, 1) := by decide +kernel
theorem d_M_doScalar_258 : decode b_M_doScalar 258 = .ok (.aload_n 0, 1) := by decide +kernel
theorem d_M_doScalar_259 : decode b_M_doScalar 259 = .ok (.iload_n 2, 1) := by decide +kernel
theorem d_M_doScalar_260 : decode b_M_doScalar 260 = .ok (.putfield 88, 3) := by decide +kernel
theorem d_M_doScalar_263 : decode b_M_doScalar 263 = .ok (.return_, 1) := by decide +kernel
theorem d_M_setScalar_0 : decode b_M_setScalar 0 = .ok (.iload_n 1, 1) := by decide +kernel
theorem d_M_setScalar_1 : decode b_M_setScalar 1 = .ok (.ifCond .le 16, 3) := by decide +kernel
theorem d_M_setScalar_4 : decode b_M_setScalar 4 = .ok (.iload_n 1, 1) := by decide +kernel
theorem d_M_setScalar_5 : decode b_M_setScalar 5 = .ok (.bipush 8, 2) := by decide +kernel
theorem d_M_setScalar_7 : decode b_M_setScalar 7 = .ok (.if_icmp .ge 10, 3) := by decide +kernel
theorem d_M_setScalar_10 : decode b_M_setScalar 10 = .ok (.aload_n 0, 1) := by decide +kernel
theorem d_M_setScalar_11 : decode b_M_setScalar 11 = .ok (.getfield 22, 3) := by decide +kernel
theorem d_M_setScalar_14 : decode b_M_setScalar 14 = .ok (.iload_n 1, 1) := by decide +kernel
theorem d_M_setScalar_15 : decode b_M_setScalar 15 = .ok (.iload_n 2, 1) := by decide +kernel
theorem d_M_setScalar_16 : decode b_M_setScalar 16 = .ok (.iastore, 1) := by decide +kernel
theorem d_M_setScalar_17 : decode b_M_setScalar 17 = .ok (.return_, 1) := by decide +kernel
theorem d_M_poke_0 : decode b_M_poke 0 = .ok (.iload_n 1, 1) := by decide +kernel
theorem d_M_poke_1 : decode b_M_poke 1 = .ok (.ifCond .lt 23, 3) := by decide +kernel
theorem d_M_poke_4 : decode b_M_poke 4 = .ok (.iload_n 1, 1) := by decide +kernel
theorem d_M_poke_5 : decode b_M_poke 5 = .ok (.sipush 128, 3) := by decide +kernel
theorem d_M_poke_8 : decode b_M_poke 8 = .ok (.if_icmp .ge 16, 3) := by decide +kernel
theorem d_M_poke_11 : decode b_M_poke 11 = .ok (.iload_n 2, 1) := by decide +kernel
theorem d_M_poke_12 : decode b_M_poke 12 = .ok (.bipush (-128), 2) := by decide +kernel
theorem d_M_poke_14 : decode b_M_poke 14 = .ok (.if_icmp .lt 10, 3) := by decide +kernel
theorem d_M_poke_17 : decode b_M_poke 17 = .ok (.iload_n 2, 1) := by decide +kernel
theorem d_M_poke_18 : decode b_M_poke 18 = .ok (.sipush 255, 3) := by decide +kernel
theorem d_M_poke_21 : decode b_M_poke 21 = .ok (.if_icmp .le 11, 3) := by decide +kernel
theorem d_M_poke_24 : decode b_M_poke 24 = .ok (.new 73, 3) := by decide +kernel
theorem d_M_poke_27 : decode b_M_poke 27 = .ok (.dup, 1) := by decide +kernel
theorem d_M_poke_28 : decode b_M_poke 28 = .ok (.invokespecial 75, 3) := by decide +kernel
theorem d_M_poke_31 : decode b_M_poke 31 = .ok (.athrow, 1) := by decide +kernel
theorem d_M_poke_32 : decode b_M_poke 32 = .ok (.aload_n 0, 1) := by decide +kernel
theorem d_M_poke_33 : decode b_M_poke 33 = .ok (.getfield 35, 3) := by decide +kernel
theorem d_M_poke_36 : decode b_M_poke 36 = .ok (.iload_n 1, 1) := by decide +kernel
theorem d_M_poke_37 : decode b_M_poke 37 = .ok (.iconst 1, 1) := by decide +kernel
theorem d_M_poke_38 : decode b_M_poke 38 = .ok (.iload_n 2, 1) := by decide +kernel
theorem d_M_poke_39 : decode b_M_poke 39 = .ok (.invokevirtual 109, 3) := by decide +kernel
theorem d_M_poke_42 : decode b_M_poke 42 = .ok (.iconst 1, 1) := by decide +kernel
theorem d_M_poke_43 : decode b_M_poke 43 = .ok (.ireturn, 1) := by decide +kernel
theorem d_M_limit_0 : decode b_M_limit 0 = .ok (.iload_n 1, 1) := by decide +kernel
theorem d_M_limit_1 : decode b_M_limit 1 = .ok (.ifCond .lt 10, 3) := by decide +kernel
theorem d_M_limit_4 : decode b_M_limit 4 = .ok (.iload_n 1, 1) := by decide +kernel
theorem d_M_limit_5 : decode b_M_limit 5 = .ok (.sipush 128, 3) := by decide +kernel
theorem d_M_limit_8 : decode b_M_limit 8 = .ok (.if_icmp .le 11, 3) := by decide +kernel
theorem d_M_limit_11 : decode b_M_limit 11 = .ok (.new 73, 3) := by decide +kernel
theorem d_M_limit_14 : decode b_M_limit 14 = .ok (.dup, 1) := by decide +kernel
theorem d_M_limit_15 : decode b_M_limit 15 = .ok (.invokespecial 75, 3) := by decide +kernel
theorem d_M_limit_18 : decode b_M_limit 18 = .ok (.athrow, 1) := by decide +kernel
theorem d_M_limit_19 : decode b_M_limit 19 = .ok (.aload_n 0, 1) := by decide +kernel
theorem d_M_limit_20 : decode b_M_limit 20 = .ok (.getfield 63, 3) := by decide +kernel
theorem d_M_limit_23 : decode b_M_limit 23 = .ok (.ifCond .eq 10, 3) := by decide +kernel
theorem d_M_limit_26 : decode b_M_limit 26 = .ok (.aload_n 0, 1) := by decide +kernel
theorem d_M_limit_27 : decode b_M_limit 27 = .ok (.getfield 85, 3) := by decide +kernel
theorem d_M_limit_30 : decode b_M_limit 30 = .ok (.ifCond .le 11, 3) := by decide +kernel
theorem d_M_limit_33 : decode b_M_limit 33 = .ok (.new 82, 3) := by decide +kernel
theorem d_M_limit_36 : decode b_M_limit 36 = .ok (.dup, 1) := by decide +kernel
theorem d_M_limit_37 : decode b_M_limit 37 = .ok (.invokespecial 84, 3) := by decide +kernel
theorem d_M_limit_40 : decode b_M_limit 40 = .ok (.athrow, 1) := by decide +kernel
theorem d_M_limit_41 : decode b_M_limit 41 = .ok (.aload_n 0, 1) := by decide +kernel
theorem d_M_limit_42 : decode b_M_limit 42 = .ok (.iload_n 1, 1) := by decide +kernel
theorem d_M_limit_43 : decode b_M_limit 43 = .ok (.putfield 66, 3) := by decide +kernel
theorem d_M_limit_46 : decode b_M_limit 46 = .ok (.iconst 1, 1) := by decide +kernel
theorem d_M_limit_47 : decode b_M_limit 47 = .ok (.ireturn, 1) := by decide +kernel
end
section
theorem d_R_init_0 : decode b_R_init 0 = .ok (.aload_n 0, 1) := by decide +kernel
theorem d_R_init_1 : decode b_R_init 1 = .ok (.invokespecial 1, 3) := by decide +kernel
theorem d_R_init_4 : decode b_R_init 4 = .ok (.aload_n 0, 1) := by decide +kernel
theorem d_R_init_5 : decode b_R_init 5 = .ok (.iconst 1, 1) := by decide +kernel
theorem d_R_init_6 : decode b_R_init 6 = .ok (.putfield 9, 3) := by decide +kernel
theorem d_R_init_9 : decode b_R_init 9 = .ok (.aload_n 0, 1) := by decide +kernel
theorem d_R_init_10 : decode b_R_init 10 = .ok (.iconst 1, 1) := by decide +kernel
theorem d_R_init_11 : decode b_R_init 11 = .ok (.putfield 13, 3) := by decide +kernel
theorem d_R_init_14 : decode b_R_init 14 = .ok (.aload_n 0, 1) := by decide +kernel
theorem d_R_init_15 : decode b_R_init 15 = .ok (.iconst 1, 1) := by decide +kernel
theorem d_R_init_16 : decode b_R_init 16 = .ok (.putfield 16, 3) := by decide +kernel
theorem d_R_init_19 : decode b_R_init 19 = .ok (.aload_n 0, 1) := by decide +kernel
theorem d_R_init_20 : decode b_R_init 20 = .ok (.sipush 128, 3) := by decide +kernel
theorem d_R_init_23 : decode b_R_init 23 = .ok (.putfield 19, 3) := by decide +kernel
theorem d_R_init_26 : decode b_R_init 26 = .ok (.aload_n 0, 1) := by decide +kernel
theorem d_R_init_27 : decode b_R_init 27 = .ok (.bipush 8, 2) := by decide +kernel
theorem d_R_init_29 : decode b_R_init 29 = .ok (.newarray .int, 2) := by decide +kernel
theorem d_R_init_31 : decode b_R_init 31 = .ok (.putfield 22, 3) := by decide +kernel
theorem d_R_init_34 : decode b_R_init 34 = .ok (.aload_n 0, 1) := by decide +kernel
theorem d_R_init_35 : decode b_R_init 35 = .ok (.bipush 64, 2) := by decide +kernel
theorem d_R_init_37 : decode b_R_init 37 = .ok (.newarray .int, 2) := by decide +kernel
theorem d_R_init_39 : decode b_R_init 39 = .ok (.putfield 26, 3) := by decide +kernel
theorem d_R_init_42 : decode b_R_init 42 = .ok (.aload_n 0, 1) := by decide +kernel
theorem d_R_init_43 : decode b_R_init 43 = .ok (.sipush 128, 3) := by decide +kernel
theorem d_R_init_46 : decode b_R_init 46 = .ok (.newarray .int, 2) := by decide +kernel
theorem d_R_init_48 : decode b_R_init 48 = .ok (.putfield 29, 3) := by decide +kernel
theorem d_R_init_51 : decode b_R_init 51 = .ok (.aload_n 0, 1) := by decide +kernel
theorem d_R_init_52 : decode b_R_init 52 = .ok (.bipush 40, 2) := by decide +kernel
theorem d_R_init_54 : decode b_R_init 54 = .ok (.newarray .int, 2) := by decide +kernel
theorem d_R_init_56 : decode b_R_init 56 = .ok (.putfield 32, 3) := by decide +kernel
theorem d_R_init_59 : decode b_R_init 59 = .ok (.aload_n 0, 1) := by decide +kernel
theorem d_R_init_60 : decode b_R_init 60 = .ok (.bipush 40, 2) := by decide +kernel
theorem d_R_init_62 : decode b_R_init 62 = .ok (.newarray .int, 2) := by decide +kernel
theorem d_R_init_64 : decode b_R_init 64 = .ok (.putfield 35, 3) := by decide +kernel
theorem d_R_init_67 : decode b_R_init 67 = .ok (.aload_n 0, 1) := by decide +kernel
theorem d_R_init_68 : decode b_R_init 68 = .ok (.bipush 40, 2) := by decide +kernel
theorem d_R_init_70 : decode b_R_init 70 = .ok (.newarray .int, 2) := by decide +kernel
theorem d_R_init_72 : decode b_R_init 72 = .ok (.putfield 38, 3) := by decide +kernel
theorem d_R_init_75 : decode b_R_init 75 = .ok (.aload_n 0, 1) := by decide +kernel
theorem d_R_init_76 : decode b_R_init 76 = .ok (.bipush 40, 2) := by decide +kernel
theorem d_R_init_78 : decode b_R_init 78 = .ok (.newarray .int, 2) := by decide +kernel
theorem d_R_init_80 : decode b_R_init 80 = .ok (.putfield 41, 3) := by decide +kernel
theorem d_R_init_83 : decode b_R_init 83 = .ok (.aload_n 0, 1) := by decide +kernel
theorem d_R_init_84 : decode b_R_init 84 = .ok (.bipush 40, 2) := by decide +kernel
theorem d_R_init_86 : decode b_R_init 86 = .ok (.newarray .int, 2) := by decide +kernel
theorem d_R_init_88 : decode b_R_init 88 = .ok (.putfield 44, 3) := by decide +kernel
theorem d_R_init_91 : decode b_R_init 91 = .ok (.aload_n 0, 1) := by decide +kernel
theorem d_R_init_92 : decode b_R_init 92 = .ok (.bipush 40, 2) := by decide +kernel
theorem d_R_init_94 : decode b_R_init 94 = .ok (.newarray .boolean, 2) := by decide +kernel
theorem d_R_init_96 : decode b_R_init 96 = .ok (.putfield 47, 3) := by decide +kernel
theorem d_R_init_99 : decode b_R_init 99 = .ok (.aload_n 0, 1) := by decide +kernel
theorem d_R_init_100 : decode b_R_init 100 = .ok (.iconst 5, 1) := by decide +kernel
theorem d_R_init_101 : decode b_R_init 101 = .ok (.newarray .int, 2) := by decide +kernel
theorem d_R_init_103 : decode b_R_init 103 = .ok (.putfield 51, 3) := by decide +kernel
theorem d_R_init_106 : decode b_R_init 106 = .ok (.aload_n 0, 1) := by decide +kernel
theorem d_R_init_107 : decode b_R_init 107 = .ok (.iconst 5, 1) := by decide +kernel
theorem d_R_init_108 : decode b_R_init 108 = .ok (.newarray .int, 2) := by decide +kernel
theorem d_R_init_110 : decode b_R_init 110 = .ok (.putfield 54, 3) := by decide +kernel
theorem d_R_init_113 : decode b_R_init 113 = .ok (.aload_n 0, 1) := by decide +kernel
theorem d_R_init_114 : decode b_R_init 114 = .ok (.iconst 5, 1) := by decide +kernel
theorem d_R_init_115 : decode b_R_init 115 = .ok (.newarray .int, 2) := by decide +kernel
theorem d_R_init_117 : decode b_R_init 117 = .ok (.putfield 57, 3) := by decide +kernel
theorem d_R_init_120 : decode b_R_init 120 = .ok (.aload_n 0, 1) := by decide +kernel
theorem d_R_init_121 : decode b_R_init 121 = .ok (.iconst 5, 1) := by decide +kernel
theorem d_R_init_122 : decode b_R_init 122 = .ok (.newarray .int, 2) := by decide +kernel
theorem d_R_init_124 : decode b_R_init 124 = .ok (.putfield 60, 3) := by decide +kernel
theorem d_R_init_127 : decode b_R_init 127 = .ok (.aload_n 0, 1) := by decide +kernel
theorem d_R_init_128 : decode b_R_init 128 = .ok (.iconst 5, 1) := by decide +kernel
theorem d_R_init_129 : decode b_R_init 129 = .ok (.newarray .int, 2) := by decide +kernel
theorem d_R_init_131 : decode b_R_init 131 = .ok (.putfield 63, 3) := by decide +kernel
theorem d_R_init_134 : decode b_R_init 134 = .ok (.aload_n 0, 1) := by decide +kernel
theorem d_R_init_135 : decode b_R_init 135 = .ok (.iconst 5, 1) := by decide +kernel
theorem d_R_init_136 : decode b_R_init 136 = .ok (.newarray .int, 2) := by decide +kernel
theorem d_R_init_138 : decode b_R_init 138 = .ok (.putfield 66, 3) := by decide +kernel
theorem d_R_init_141 : decode b_R_init 141 = .ok (.aload_n 0, 1) := by decide +kernel
theorem d_R_init_142 : decode b_R_init 142 = .ok (.iconst 5, 1) := by decide +kernel
theorem d_R_init_143 : decode b_R_init 143 = .ok (.newarray .int, 2) := by decide +kernel
theorem d_R_init_145 : decode b_R_init 145 = .ok (.putfield 69, 3) := by decide +kernel
theorem d_R_init_148 : decode b_R_init 148 = .ok (.aload_n 0, 1) := by decide +kernel
theorem d_R_init_149 : decode b_R_init 149 = .ok (.iconst 5, 1) := by decide +kernel
theorem d_R_init_150 : decode b_R_init 150 = .ok (.newarray .int, 2) := by decide +kernel
theorem d_R_init_152 : decode b_R_init 152 = .ok (.putfield 72, 3) := by decide +kernel
theorem d_R_init_155 : decode b_R_init 155 = .ok (.aload_n 0, 1) := by decide +kernel
theorem d_R_init_156 : decode b_R_init 156 = .ok (.iconst 5, 1) := by decide +kernel
theorem d_R_init_157 : decode b_R_init 157 = .ok (.newarray .int, 2) := by decide +kernel
theorem d_R_init_159 : decode b_R_init 159 = .ok (.putfield 75, 3) := by decide +kernel
theorem d_R_init_162 : decode b_R_init 162 = .ok (.aload_n 0, 1) := by decide +kernel
theorem d_R_init_163 : decode b_R_init 163 = .ok (.iload_n 1, 1) := by decide +kernel
theorem d_R_init_164 : decode b_R_init 164 = .ok (.iconst 1, 1) := by decide +kernel
theorem d_R_init_165 : decode b_R_init 165 = .ok (.if_icmp .ge 7, 3) := by decide +kernel
theorem d_R_init_168 : decode b_R_init 168 = .ok (.iconst 1, 1) := by decide +kernel
theorem d_R_init_169 : decode b_R_init 169 = .ok (.goto 15, 3) := by decide +kernel
theorem d_R_init_172 : decode b_R_init 172 = .ok (.iload_n 1, 1) := by decide +kernel
theorem d_R_init_173 : decode b_R_init 173 = .ok (.bipush 8, 2) := by decide +kernel
theorem d_R_init_175 : decode b_R_init 175 = .ok (.if_icmp .le 8, 3) := by decide +kernel
theorem d_R_init_178 : decode b_R_init 178 = .ok (.bipush 8, 2) := by decide +kernel
theorem d_R_init_180 : decode b_R_init 180 = .ok (.goto 4, 3) := by decide +kernel
theorem d_R_init_183 : decode b_R_init 183 = .ok (.iload_n 1, 1) := by decide +kernel
theorem d_R_init_184 : decode b_R_init 184 = .ok (.putfield 78, 3) := by decide +kernel
theorem d_R_init_187 : decode b_R_init 187 = .ok (.return_, 1) := by decide +kernel
theorem d_R_thrown_0 : decode b_R_thrown 0 = .ok (.aload_n 0, 1) := by decide +kernel
theorem d_R_thrown_1 : decode b_R_thrown 1 = .ok (.getfield 81, 3) := by decide +kernel
theorem d_R_thrown_4 : decode b_R_thrown 4 = .ok (.ireturn, 1) := by decide +kernel
theorem d_R_cycles_0 : decode b_R_cycles 0 = .ok (.aload_n 0, 1) := by decide +kernel
theorem d_R_cycles_1 : decode b_R_cycles 1 = .ok (.iload_n 1, 1) := by decide +kernel
theorem d_R_cycles_2 : decode b_R_cycles 2 = .ok (.iconst 1, 1) := by decide +kernel
theorem d_R_cycles_3 : decode b_R_cycles 3 = .ok (.if_icmp .lt 10, 3) := by decide +kernel
theorem d_R_cycles_6 : decode b_R_cycles 6 = .ok (.iload_n 1, 1) := by decide +kernel
theorem d_R_cycles_7 : decode b_R_cycles 7 = .ok (.sipush 200, 3) := by decide +kernel
theorem d_R_cycles_10 : decode b_R_cycles 10 = .ok (.if_icmp .le 7, 3) := by decide +kernel
theorem d_R_cycles_13 : decode b_R_cycles 13 = .ok (.iconst 1, 1) := by decide +kernel
theorem d_R_cycles_14 : decode b_R_cycles 14 = .ok (.goto 4, 3) := by decide +kernel
theorem d_R_cycles_17 : decode b_R_cycles 17 = .ok (.iconst 0, 1) := by decide +kernel
theorem d_R_cycles_18 : decode b_R_cycles 18 = .ok (.putfield 81, 3) := by decide +kernel
theorem d_R_cycles_21 : decode b_R_cycles 21 = .ok (.iconst 0, 1) := by decide +kernel
theorem d_R_cycles_22 : decode b_R_cycles 22 = .ok (.istore_n 2, 1) := by decide +kernel
theorem d_R_cycles_23 : decode b_R_cycles 23 = .ok (.iload_n 2, 1) := by decide +kernel
theorem d_R_cycles_24 : decode b_R_cycles 24 = .ok (.iload_n 1, 1) := by decide +kernel
theorem d_R_cycles_25 : decode b_R_cycles 25 = .ok (.if_icmp .ge 45, 3) := by decide +kernel
theorem d_R_cycles_28 : decode b_R_cycles 28 = .ok (.aload_n 0, 1) := by decide +kernel
theorem d_R_cycles_29 : decode b_R_cycles 29 = .ok (.getfield 81, 3) := by decide +kernel
theorem d_R_cycles_32 : decode b_R_cycles 32 = .ok (.ifCond .ne 38, 3) := by decide +kernel
theorem d_R_cycles_35 : decode b_R_cycles 35 = .ok (.aload_n 0, 1) := by decide +kernel
theorem d_R_cycles_36 : decode b_R_cycles 36 = .ok (.dup, 1) := by decide +kernel
theorem d_R_cycles_37 : decode b_R_cycles 37 = .ok (.getfield 195, 3) := by decide +kernel
theorem d_R_cycles_40 : decode b_R_cycles 40 = .ok (.iconst 1, 1) := by decide +kernel
theorem d_R_cycles_41 : decode b_R_cycles 41 = .ok (.iadd, 1) := by decide +kernel
theorem d_R_cycles_42 : decode b_R_cycles 42 = .ok (.putfield 195, 3) := by decide +kernel
theorem d_R_cycles_45 : decode b_R_cycles 45 = .ok (.aload_n 0, 1) := by decide +kernel
theorem d_R_cycles_46 : decode b_R_cycles 46 = .ok (.invokevirtual 198, 3) := by decide +kernel
theorem d_R_cycles_49 : decode b_R_cycles 49 = .ok (.aload_n 0, 1) := by decide +kernel
theorem d_R_cycles_50 : decode b_R_cycles 50 = .ok (.invokevirtual 201, 3) := by decide +kernel
theorem d_R_cycles_53 : decode b_R_cycles 53 = .ok (.aload_n 0, 1) := by decide +kernel
theorem d_R_cycles_54 : decode b_R_cycles 54 = .ok (.getfield 9, 3) := by decide +kernel
theorem d_R_cycles_57 : decode b_R_cycles 57 = .ok (.ifCond .ne 7, 3) := by decide +kernel
theorem d_R_cycles_60 : decode b_R_cycles 60 = .ok (.aload_n 0, 1) := by decide +kernel
theorem d_R_cycles_61 : decode b_R_cycles 61 = .ok (.invokevirtual 204, 3) := by decide +kernel
theorem d_R_cycles_64 : decode b_R_cycles 64 = .ok (.iinc 2 1, 3) := by decide +kernel
theorem d_R_cycles_67 : decode b_R_cycles 67 = .ok (.goto (-44), 3) := by decide +kernel
theorem d_R_cycles_70 : decode b_R_cycles 70 = .ok (.aload_n 0, 1) := by decide +kernel
theorem d_R_cycles_71 : decode b_R_cycles 71 = .ok (.getfield 195, 3) := by decide +kernel
theorem d_R_cycles_74 : decode b_R_cycles 74 = .ok (.ireturn, 1) := by decide +kernel
theorem d_R_units_0 : decode b_R_units 0 = .ok (.iconst 0, 1) := by decide +kernel
theorem d_R_units_1 : decode b_R_units 1 = .ok (.istore_n 1, 1) := by decide +kernel
theorem d_R_units_2 : decode b_R_units 2 = .ok (.iload_n 1, 1) := by decide +kernel
theorem d_R_units_3 : decode b_R_units 3 = .ok (.aload_n 0, 1) := by decide +kernel
theorem d_R_units_4 : decode b_R_units 4 = .ok (.getfield 146, 3) := by decide +kernel
theorem d_R_units_7 : decode b_R_units 7 = .ok (.if_icmp .ge 21, 3) := by decide +kernel
theorem d_R_units_10 : decode b_R_units 10 = .ok (.aload_n 0, 1) := by decide +kernel
theorem d_R_units_11 : decode b_R_units 11 = .ok (.getfield 69, 3) := by decide +kernel
theorem d_R_units_14 : decode b_R_units 14 = .ok (.iload_n 1, 1) := by decide +kernel
theorem d_R_units_15 : decode b_R_units 15 = .ok (.aload_n 0, 1) := by decide +kernel
theorem d_R_units_16 : decode b_R_units 16 = .ok (.getfield 66, 3) := by decide +kernel
theorem d_R_units_19 : decode b_R_units 19 = .ok (.iload_n 1, 1) := by decide +kernel
theorem d_R_units_20 : decode b_R_units 20 = .ok (.iaload, 1) := by decide +kernel
theorem d_R_units_21 : decode b_R_units 21 = .ok (.iastore, 1) := by decide +kernel
theorem d_R_units_22 : decode b_R_units 22 = .ok (.iinc 1 1, 3) := by decide +kernel
theorem d_R_units_25 : decode b_R_units 25 = .ok (.goto (-23), 3) := by decide +kernel
theorem d_R_units_28 : decode b_R_units 28 = .ok (.iconst 0, 1) := by decide +kernel
theorem d_R_units_29 : decode b_R_units 29 = .ok (.istore_n 1, 1) := by decide +kernel
theorem d_R_units_30 : decode b_R_units 30 = .ok (.iload_n 1, 1) := by decide +kernel
theorem d_R_units_31 : decode b_R_units 31 = .ok (.iconst 3, 1) := by decide +kernel
theorem d_R_units_32 : decode b_R_units 32 = .ok (.if_icmp .ge 139, 3) := by decide +kernel
theorem d_R_units_35 : decode b_R_units 35 = .ok (.iconst 0, 1) := by decide +kernel
theorem d_R_units_36 : decode b_R_units 36 = .ok (.istore_n 2, 1) := by decide +kernel
theorem d_R_units_37 : decode b_R_units 37 = .ok (.iload_n 2, 1) := by decide +kernel
theorem d_R_units_38 : decode b_R_units 38 = .ok (.aload_n 0, 1) := by decide +kernel
theorem d_R_units_39 : decode b_R_units 39 = .ok (.getfield 146, 3) := by decide +kernel
theorem d_R_units_42 : decode b_R_units 42 = .ok (.if_icmp .ge 27, 3) := by decide +kernel
theorem d_R_units_45 : decode b_R_units 45 = .ok (.aload_n 0, 1) := by decide +kernel
theorem d_R_units_46 : decode b_R_units 46 = .ok (.getfield 32, 3) := by decide +kernel
theorem d_R_units_49 : decode b_R_units 49 = .ok (.aload_n 0, 1) := by decide +kernel
theorem d_R_units_50 : decode b_R_units 50 = .ok (.getfield 51, 3) := by decide +kernel
theorem d_R_units_53 : decode b_R_units 53 = .ok (.iload_n 2, 1) := by decide +kernel
theorem d_R_units_54 : decode b_R_units 54 = .ok (.iaload, 1) := by decide +kernel
theorem d_R_units_55 : decode b_R_units 55 = .ok (.iaload, 1) := by decide +kernel
theorem d_R_units_56 : decode b_R_units 56 = .ok (.invokestatic 149, 3) := by decide +kernel
theorem d_R_units_59 : decode b_R_units 59 = .ok (.iload_n 1, 1) := by decide +kernel
theorem d_R_units_60 : decode b_R_units 60 = .ok (.if_icmp .eq 9, 3) := by decide +kernel
theorem d_R_units_63 : decode b_R_units 63 = .ok (.iinc 2 1, 3) := by decide +kernel
theorem d_R_units_66 : decode b_R_units 66 = .ok (.goto (-29), 3) := by decide +kernel
theorem d_R_units_69 : decode b_R_units 69 = .ok (.iload_n 2, 1) := by decide +kernel
theorem d_R_units_70 : decode b_R_units 70 = .ok (.aload_n 0, 1) := by decide +kernel
theorem d_R_units_71 : decode b_R_units 71 = .ok (.getfield 146, 3) := by decide +kernel
theorem d_R_units_74 : decode b_R_units 74 = .ok (.if_icmp .ge 7, 3) := by decide +kernel
theorem d_R_units_77 : decode b_R_units 77 = .ok (.iconst 1, 1) := by decide +kernel
theorem d_R_units_78 : decode b_R_units 78 = .ok (.goto 4, 3) := by decide +kernel
theorem d_R_units_81 : decode b_R_units 81 = .ok (.iconst 0, 1) := by decide +kernel
theorem d_R_units_82 : decode b_R_units 82 = .ok (.istore_n 3, 1) := by decide +kernel
theorem d_R_units_83 : decode b_R_units 83 = .ok (.iconst 0, 1) := by decide +kernel
theorem d_R_units_84 : decode b_R_units 84 = .ok (.istore 4, 2) := by decide +kernel
theorem d_R_units_86 : decode b_R_units 86 = .ok (.iload 4, 2) := by decide +kernel
theorem d_R_units_88 : decode b_R_units 88 = .ok (.aload_n 0, 1) := by decide +kernel
theorem d_R_units_89 : decode b_R_units 89 = .ok (.getfield 78, 3) := by decide +kernel
theorem d_R_units_92 : decode b_R_units 92 = .ok (.if_icmp .ge 73, 3) := by decide +kernel
theorem d_R_units_95 : decode b_R_units 95 = .ok (.iload_n 3, 1) := by decide +kernel
theorem d_R_units_96 : decode b_R_units 96 = .ok (.ifCond .eq 69, 3) := by decide +kernel
theorem d_R_units_99 : decode b_R_units 99 = .ok (.aload_n 0, 1) := by decide +kernel
theorem d_R_units_100 : decode b_R_units 100 = .ok (.getfield 66, 3) := by decide +kernel
theorem d_R_units_103 : decode b_R_units 103 = .ok (.iload_n 2, 1) := by decide +kernel
theorem d_R_units_104 : decode b_R_units 104 = .ok (.iaload, 1) := by decide +kernel
theorem d_R_units_105 : decode b_R_units 105 = .ok (.aload_n 0, 1) := by decide +kernel
theorem d_R_units_106 : decode b_R_units 106 = .ok (.getfield 63, 3) := by decide +kernel
theorem d_R_units_109 : decode b_R_units 109 = .ok (.iload_n 2, 1) := by decide +kernel
theorem d_R_units_110 : decode b_R_units 110 = .ok (.iaload, 1) := by decide +kernel
theorem d_R_units_111 : decode b_R_units 111 = .ok (.if_icmp .ge 21, 3) := by decide +kernel
theorem d_R_units_114 : decode b_R_units 114 = .ok (.aload_n 0, 1) := by decide +kernel
theorem d_R_units_115 : decode b_R_units 115 = .ok (.iload_n 2, 1) := by decide +kernel
theorem d_R_units_116 : decode b_R_units 116 = .ok (.aload_n 0, 1) := by decide +kernel
theorem d_R_units_117 : decode b_R_units 117 = .ok (.getfield 66, 3) := by decide +kernel
theorem d_R_units_120 : decode b_R_units 120 = .ok (.iload_n 2, 1) := by decide +kernel
theorem d_R_units_121 : decode b_R_units 121 = .ok (.iaload, 1) := by decide +kernel
theorem d_R_units_122 : decode b_R_units 122 = .ok (.invokevirtual 152, 3) := by decide +kernel
theorem d_R_units_125 : decode b_R_units 125 = .ok (.ifCond .eq 7, 3) := by decide +kernel
theorem d_R_units_128 : decode b_R_units 128 = .ok (.iconst 1, 1) := by decide +kernel
theorem d_R_units_129 : decode b_R_units 129 = .ok (.goto 4, 3) := by decide +kernel
theorem d_R_units_132 : decode b_R_units 132 = .ok (.iconst 0, 1) := by decide +kernel
theorem d_R_units_133 : decode b_R_units 133 = .ok (.istore_n 3, 1) := by decide +kernel
theorem d_R_units_134 : decode b_R_units 134 = .ok (.iload_n 3, 1) := by decide +kernel
theorem d_R_units_135 : decode b_R_units 135 = .ok (.ifCond .eq 24, 3) := by decide +kernel
theorem d_R_units_138 : decode b_R_units 138 = .ok (.aload_n 0, 1) := by decide +kernel
theorem d_R_units_139 : decode b_R_units 139 = .ok (.iload_n 2, 1) := by decide +kernel
theorem d_R_units_140 : decode b_R_units 140 = .ok (.aload_n 0, 1) := by decide +kernel
theorem d_R_units_141 : decode b_R_units 141 = .ok (.getfield 66, 3) := by decide +kernel
theorem d_R_units_144 : decode b_R_units 144 = .ok (.iload_n 2, 1) := by decide +kernel
theorem d_R_units_145 : decode b_R_units 145 = .ok (.iaload, 1) := by decide +kernel
theorem d_R_units_146 : decode b_R_units 146 = .ok (.invokevirtual 155, 3) := by decide +kernel
theorem d_R_units_149 : decode b_R_units 149 = .ok (.aload_n 0, 1) := by decide +kernel
theorem d_R_units_150 : decode b_R_units 150 = .ok (.getfield 66, 3) := by decide +kernel
theorem d_R_units_153 : decode b_R_units 153 = .ok (.iload_n 2, 1) := by decide +kernel
theorem d_R_units_154 : decode b_R_units 154 = .ok (.dup2, 1) := by decide +kernel
theorem d_R_units_155 : decode b_R_units 155 = .ok (.iaload, 1) := by decide +kernel
theorem d_R_units_156 : decode b_R_units 156 = .ok (.iconst 1, 1) := by decide +kernel
theorem d_R_units_157 : decode b_R_units 157 = .ok (.iadd, 1) := by decide +kernel
theorem d_R_units_158 : decode b_R_units 158 = .ok (.iastore, 1) := by decide +kernel
theorem d_R_units_159 : decode b_R_units 159 = .ok (.iinc 4 1, 3) := by decide +kernel
theorem d_R_units_162 : decode b_R_units 162 = .ok (.goto (-76), 3) := by decide +kernel
theorem d_R_units_165 : decode b_R_units 165 = .ok (.iinc 1 1, 3) := by decide +kernel
theorem d_R_units_168 : decode b_R_units 168 = .ok (.goto (-138), 3) := by decide +kernel
theorem d_R_units_171 : decode b_R_units 171 = .ok (.return_, 1) := by decide +kernel
theorem d_R_unit_0 : decode b_R_unit 0 = .ok (.iload_n 0, 1) := by decide +kernel
theorem d_R_unit_1 : decode b_R_unit 1 = .ok (.bipush 17, 2) := by decide +kernel
theorem d_R_unit_3 : decode b_R_unit 3 = .ok (.if_icmp .lt 7, 3) := by decide +kernel
theorem d_R_unit_6 : decode b_R_unit 6 = .ok (.iconst 2, 1) := by decide +kernel
theorem d_R_unit_7 : decode b_R_unit 7 = .ok (.goto 20, 3) := by decide +kernel
theorem d_R_unit_10 : decode b_R_unit 10 = .ok (.iload_n 0, 1) := by decide +kernel
theorem d_R_unit_11 : decode b_R_unit 11 = .ok (.bipush 10, 2) := by decide +kernel
theorem d_R_unit_13 : decode b_R_unit 13 = .ok (.if_icmp .eq 9, 3) := by decide +kernel
theorem d_R_unit_16 : decode b_R_unit 16 = .ok (.iload_n 0, 1) := by decide +kernel
theorem d_R_unit_17 : decode b_R_unit 17 = .ok (.bipush 14, 2) := by decide +kernel
theorem d_R_unit_19 : decode b_R_unit 19 = .ok (.if_icmp .lt 7, 3) := by decide +kernel
theorem d_R_unit_22 : decode b_R_unit 22 = .ok (.iconst 1, 1) := by decide +kernel
theorem d_R_unit_23 : decode b_R_unit 23 = .ok (.goto 4, 3) := by decide +kernel
theorem d_R_unit_26 : decode b_R_unit 26 = .ok (.iconst 0, 1) := by decide +kernel
theorem d_R_unit_27 : decode b_R_unit 27 = .ok (.ireturn, 1) := by decide +kernel
theorem d_R_free_0 : decode b_R_free 0 = .ok (.aload_n 0, 1) := by decide +kernel
theorem d_R_free_1 : decode b_R_free 1 = .ok (.iload_n 1, 1) := by decide +kernel
theorem d_R_free_2 : decode b_R_free 2 = .ok (.iload_n 2, 1) := by decide +kernel
theorem d_R_free_3 : decode b_R_free 3 = .ok (.invokevirtual 104, 3) := by decide +kernel
theorem d_R_free_6 : decode b_R_free 6 = .ok (.lstore_n 3, 1) := by decide +kernel
theorem d_R_free_7 : decode b_R_free 7 = .ok (.aload_n 0, 1) := by decide +kernel
theorem d_R_free_8 : decode b_R_free 8 = .ok (.iload_n 1, 1) := by decide +kernel
theorem d_R_free_9 : decode b_R_free 9 = .ok (.iload_n 2, 1) := by decide +kernel
theorem d_R_free_10 : decode b_R_free 10 = .ok (.invokevirtual 107, 3) := by decide +kernel
theorem d_R_free_13 : decode b_R_free 13 = .ok (.lstore 5, 2) := by decide +kernel
theorem d_R_free_15 : decode b_R_free 15 = .ok (.iconst 1, 1) := by decide +kernel
theorem d_R_free_16 : decode b_R_free 16 = .ok (.istore 7, 2) := by decide +kernel
theorem d_R_free_18 : decode b_R_free 18 = .ok (.iconst 0, 1) := by decide +kernel
theorem d_R_free_19 : decode b_R_free 19 = .ok (.istore 8, 2) := by decide +kernel
theorem d_R_free_21 : decode b_R_free 21 = .ok (.iload 8, 2) := by decide +kernel
theorem d_R_free_23 : decode b_R_free 23 = .ok (.iload_n 1, 1) := by decide +kernel
theorem d_R_free_24 : decode b_R_free 24 = .ok (.if_icmp .ge 82, 3) := by decide +kernel
theorem d_R_free_27 : decode b_R_free 27 = .ok (.aload_n 0, 1) := by decide +kernel
theorem d_R_free_28 : decode b_R_free 28 = .ok (.getfield 69, 3) := by decide +kernel
theorem d_R_free_31 : decode b_R_free 31 = .ok (.iload 8, 2) := by decide +kernel
theorem d_R_free_33 : decode b_R_free 33 = .ok (.iaload, 1) := by decide +kernel
theorem d_R_free_34 : decode b_R_free 34 = .ok (.istore 9, 2) := by decide +kernel
theorem d_R_free_36 : decode b_R_free 36 = .ok (.iload 9, 2) := by decide +kernel
theorem d_R_free_38 : decode b_R_free 38 = .ok (.aload_n 0, 1) := by decide +kernel
theorem d_R_free_39 : decode b_R_free 39 = .ok (.getfield 63, 3) := by decide +kernel
theorem d_R_free_42 : decode b_R_free 42 = .ok (.iload 8, 2) := by decide +kernel
theorem d_R_free_44 : decode b_R_free 44 = .ok (.iaload, 1) := by decide +kernel
theorem d_R_free_45 : decode b_R_free 45 = .ok (.if_icmp .ge 55, 3) := by decide +kernel
theorem d_R_free_48 : decode b_R_free 48 = .ok (.iload 7, 2) := by decide +kernel
theorem d_R_free_50 : decode b_R_free 50 = .ok (.ifCond .eq 41, 3) := by decide +kernel
theorem d_R_free_53 : decode b_R_free 53 = .ok (.aload_n 0, 1) := by decide +kernel
theorem d_R_free_54 : decode b_R_free 54 = .ok (.iload 8, 2) := by decide +kernel
theorem d_R_free_56 : decode b_R_free 56 = .ok (.iload 9, 2) := by decide +kernel
theorem d_R_free_58 : decode b_R_free 58 = .ok (.invokevirtual 107, 3) := by decide +kernel
theorem d_R_free_61 : decode b_R_free 61 = .ok (.lload_n 3, 1) := by decide +kernel
theorem d_R_free_62 : decode b_R_free 62 = .ok (.lload 5, 2) := by decide +kernel
theorem d_R_free_64 : decode b_R_free 64 = .ok (.lor, 1) := by decide +kernel
theorem d_R_free_65 : decode b_R_free 65 = .ok (.land, 1) := by decide +kernel
theorem d_R_free_66 : decode b_R_free 66 = .ok (.lconst 0, 1) := by decide +kernel
theorem d_R_free_67 : decode b_R_free 67 = .ok (.lcmp, 1) := by decide +kernel
theorem d_R_free_68 : decode b_R_free 68 = .ok (.ifCond .ne 23, 3) := by decide +kernel
theorem d_R_free_71 : decode b_R_free 71 = .ok (.aload_n 0, 1) := by decide +kernel
theorem d_R_free_72 : decode b_R_free 72 = .ok (.iload 8, 2) := by decide +kernel
theorem d_R_free_74 : decode b_R_free 74 = .ok (.iload 9, 2) := by decide +kernel
theorem d_R_free_76 : decode b_R_free 76 = .ok (.invokevirtual 104, 3) := by decide +kernel
theorem d_R_free_79 : decode b_R_free 79 = .ok (.lload 5, 2) := by decide +kernel
theorem d_R_free_81 : decode b_R_free 81 = .ok (.land, 1) := by decide +kernel
theorem d_R_free_82 : decode b_R_free 82 = .ok (.lconst 0, 1) := by decide +kernel
theorem d_R_free_83 : decode b_R_free 83 = .ok (.lcmp, 1) := by decide +kernel
theorem d_R_free_84 : decode b_R_free 84 = .ok (.ifCond .ne 7, 3) := by decide +kernel
theorem d_R_free_87 : decode b_R_free 87 = .ok (.iconst 1, 1) := by decide +kernel
theorem d_R_free_88 : decode b_R_free 88 = .ok (.goto 4, 3) := by decide +kernel
theorem d_R_free_91 : decode b_R_free 91 = .ok (.iconst 0, 1) := by decide +kernel
theorem d_R_free_92 : decode b_R_free 92 = .ok (.istore 7, 2) := by decide +kernel
theorem d_R_free_94 : decode b_R_free 94 = .ok (.iinc 9 1, 3) := by decide +kernel
theorem d_R_free_97 : decode b_R_free 97 = .ok (.goto (-61), 3) := by decide +kernel
theorem d_R_free_100 : decode b_R_free 100 = .ok (.iinc 8 1, 3) := by decide +kernel
theorem d_R_free_103 : decode b_R_free 103 = .ok (.goto (-82), 3) := by decide +kernel
theorem d_R_free_106 : decode b_R_free 106 = .ok (.iload 7, 2) := by decide +kernel
theorem d_R_free_108 : decode b_R_free 108 = .ok (.ireturn, 1) := by decide +kernel
theorem d_R_reads_0 : decode b_R_reads 0 = .ok (.aload_n 0, 1) := by decide +kernel
theorem d_R_reads_1 : decode b_R_reads 1 = .ok (.getfield 51, 3) := by decide +kernel
theorem d_R_reads_4 : decode b_R_reads 4 = .ok (.iload_n 1, 1) := by decide +kernel
theorem d_R_reads_5 : decode b_R_reads 5 = .ok (.iaload, 1) := by decide +kernel
theorem d_R_reads_6 : decode b_R_reads 6 = .ok (.istore_n 3, 1) := by decide +kernel
theorem d_R_reads_7 : decode b_R_reads 7 = .ok (.aload_n 0, 1) := by decide +kernel
theorem d_R_reads_8 : decode b_R_reads 8 = .ok (.getfield 54, 3) := by decide +kernel
theorem d_R_reads_11 : decode b_R_reads 11 = .ok (.iload_n 1, 1) := by decide +kernel
theorem d_R_reads_12 : decode b_R_reads 12 = .ok (.iaload, 1) := by decide +kernel
theorem d_R_reads_13 : decode b_R_reads 13 = .ok (.istore 4, 2) := by decide +kernel
theorem d_R_reads_15 : decode b_R_reads 15 = .ok (.aload_n 0, 1) := by decide +kernel
theorem d_R_reads_16 : decode b_R_reads 16 = .ok (.getfield 60, 3) := by decide +kernel
theorem d_R_reads_19 : decode b_R_reads 19 = .ok (.iload_n 1, 1) := by decide +kernel
theorem d_R_reads_20 : decode b_R_reads 20 = .ok (.iaload, 1) := by decide +kernel
theorem d_R_reads_21 : decode b_R_reads 21 = .ok (.iload_n 2, 1) := by decide +kernel
theorem d_R_reads_22 : decode b_R_reads 22 = .ok (.iadd, 1) := by decide +kernel
theorem d_R_reads_23 : decode b_R_reads 23 = .ok (.istore 5, 2) := by decide +kernel
theorem d_R_reads_25 : decode b_R_reads 25 = .ok (.aload_n 0, 1) := by decide +kernel
theorem d_R_reads_26 : decode b_R_reads 26 = .ok (.getfield 32, 3) := by decide +kernel
theorem d_R_reads_29 : decode b_R_reads 29 = .ok (.iload_n 3, 1) := by decide +kernel
theorem d_R_reads_30 : decode b_R_reads 30 = .ok (.iaload, 1) := by decide +kernel
theorem d_R_reads_31 : decode b_R_reads 31 = .ok (.istore 6, 2) := by decide +kernel
theorem d_R_reads_33 : decode b_R_reads 33 = .ok (.lconst 0, 1) := by decide +kernel
theorem d_R_reads_34 : decode b_R_reads 34 = .ok (.lstore 7, 2) := by decide +kernel
theorem d_R_reads_36 : decode b_R_reads 36 = .ok (.iload 6, 2) := by decide +kernel
theorem d_R_reads_38 : decode b_R_reads 38 = .ok (.bipush 14, 2) := by decide +kernel
theorem d_R_reads_40 : decode b_R_reads 40 = .ok (.if_icmp .ne 119, 3) := by decide +kernel
theorem d_R_reads_43 : decode b_R_reads 43 = .ok (.aload_n 0, 1) := by decide +kernel
theorem d_R_reads_44 : decode b_R_reads 44 = .ok (.iload_n 1, 1) := by decide +kernel
theorem d_R_reads_45 : decode b_R_reads 45 = .ok (.invokevirtual 96, 3) := by decide +kernel
theorem d_R_reads_48 : decode b_R_reads 48 = .ok (.aload_n 0, 1) := by decide +kernel
theorem d_R_reads_49 : decode b_R_reads 49 = .ok (.getfield 60, 3) := by decide +kernel
theorem d_R_reads_52 : decode b_R_reads 52 = .ok (.iload_n 1, 1) := by decide +kernel
theorem d_R_reads_53 : decode b_R_reads 53 = .ok (.iaload, 1) := by decide +kernel
theorem d_R_reads_54 : decode b_R_reads 54 = .ok (.isub, 1) := by decide +kernel
theorem d_R_reads_55 : decode b_R_reads 55 = .ok (.istore 9, 2) := by decide +kernel
theorem d_R_reads_57 : decode b_R_reads 57 = .ok (.bipush 8, 2) := by decide +kernel
theorem d_R_reads_59 : decode b_R_reads 59 = .ok (.aload_n 0, 1) := by decide +kernel
theorem d_R_reads_60 : decode b_R_reads 60 = .ok (.getfield 41, 3) := by decide +kernel
theorem d_R_reads_63 : decode b_R_reads 63 = .ok (.iload_n 3, 1) := by decide +kernel
theorem d_R_reads_64 : decode b_R_reads 64 = .ok (.iaload, 1) := by decide +kernel
theorem d_R_reads_65 : decode b_R_reads 65 = .ok (.imul, 1) := by decide +kernel
theorem d_R_reads_66 : decode b_R_reads 66 = .ok (.iload 4, 2) := by decide +kernel
theorem d_R_reads_68 : decode b_R_reads 68 = .ok (.invokestatic 100, 3) := by decide +kernel
theorem d_R_reads_71 : decode b_R_reads 71 = .ok (.lstore 7, 2) := by decide +kernel
theorem d_R_reads_73 : decode b_R_reads 73 = .ok (.iconst 0, 1) := by decide +kernel
theorem d_R_reads_74 : decode b_R_reads 74 = .ok (.istore 10, 2) := by decide +kernel
theorem d_R_reads_76 : decode b_R_reads 76 = .ok (.iload 10, 2) := by decide +kernel
theorem d_R_reads_78 : decode b_R_reads 78 = .ok (.iload 9, 2) := by decide +kernel
theorem d_R_reads_80 : decode b_R_reads 80 = .ok (.if_icmp .ge 76, 3) := by decide +kernel
theorem d_R_reads_83 : decode b_R_reads 83 = .ok (.lload 7, 2) := by decide +kernel
theorem d_R_reads_85 : decode b_R_reads 85 = .ok (.bipush 8, 2) := by decide +kernel
theorem d_R_reads_87 : decode b_R_reads 87 = .ok (.aload_n 0, 1) := by decide +kernel
theorem d_R_reads_88 : decode b_R_reads 88 = .ok (.getfield 38, 3) := by decide +kernel
theorem d_R_reads_91 : decode b_R_reads 91 = .ok (.iload_n 3, 1) := by decide +kernel
theorem d_R_reads_92 : decode b_R_reads 92 = .ok (.iaload, 1) := by decide +kernel
theorem d_R_reads_93 : decode b_R_reads 93 = .ok (.imul, 1) := by decide +kernel
theorem d_R_reads_94 : decode b_R_reads 94 = .ok (.aload_n 0, 1) := by decide +kernel
theorem d_R_reads_95 : decode b_R_reads 95 = .ok (.getfield 60, 3) := by decide +kernel
theorem d_R_reads_98 : decode b_R_reads 98 = .ok (.iload_n 1, 1) := by decide +kernel
theorem d_R_reads_99 : decode b_R_reads 99 = .ok (.iaload, 1) := by decide +kernel
theorem d_R_reads_100 : decode b_R_reads 100 = .ok (.iload 10, 2) := by decide +kernel
theorem d_R_reads_102 : decode b_R_reads 102 = .ok (.iadd, 1) := by decide +kernel
theorem d_R_reads_103 : decode b_R_reads 103 = .ok (.iload 4, 2) := by decide +kernel
theorem d_R_reads_105 : decode b_R_reads 105 = .ok (.imul, 1) := by decide +kernel
theorem d_R_reads_106 : decode b_R_reads 106 = .ok (.iadd, 1) := by decide +kernel
theorem d_R_reads_107 : decode b_R_reads 107 = .ok (.iload 4, 2) := by decide +kernel
theorem d_R_reads_109 : decode b_R_reads 109 = .ok (.invokestatic 100, 3) := by decide +kernel
theorem d_R_reads_112 : decode b_R_reads 112 = .ok (.lor, 1) := by decide +kernel
theorem d_R_reads_113 : decode b_R_reads 113 = .ok (.lstore 7, 2) := by decide +kernel
theorem d_R_reads_115 : decode b_R_reads 115 = .ok (.aload_n 0, 1) := by decide +kernel
theorem d_R_reads_116 : decode b_R_reads 116 = .ok (.getfield 47, 3) := by decide +kernel
theorem d_R_reads_119 : decode b_R_reads 119 = .ok (.iload_n 3, 1) := by decide +kernel
theorem d_R_reads_120 : decode b_R_reads 120 = .ok (.baload, 1) := by decide +kernel
theorem d_R_reads_121 : decode b_R_reads 121 = .ok (.ifCond .eq 25, 3) := by decide +kernel
theorem d_R_reads_124 : decode b_R_reads 124 = .ok (.lload 7, 2) := by decide +kernel
theorem d_R_reads_126 : decode b_R_reads 126 = .ok (.aload_n 0, 1) := by decide +kernel
theorem d_R_reads_127 : decode b_R_reads 127 = .ok (.getfield 60, 3) := by decide +kernel
theorem d_R_reads_130 : decode b_R_reads 130 = .ok (.iload_n 1, 1) := by decide +kernel
theorem d_R_reads_131 : decode b_R_reads 131 = .ok (.iaload, 1) := by decide +kernel
theorem d_R_reads_132 : decode b_R_reads 132 = .ok (.iload 10, 2) := by decide +kernel
theorem d_R_reads_134 : decode b_R_reads 134 = .ok (.iadd, 1) := by decide +kernel
theorem d_R_reads_135 : decode b_R_reads 135 = .ok (.bipush 8, 2) := by decide +kernel
theorem d_R_reads_137 : decode b_R_reads 137 = .ok (.idiv, 1) := by decide +kernel
theorem d_R_reads_138 : decode b_R_reads 138 = .ok (.iconst 1, 1) := by decide +kernel
theorem d_R_reads_139 : decode b_R_reads 139 = .ok (.invokestatic 100, 3) := by decide +kernel
theorem d_R_reads_142 : decode b_R_reads 142 = .ok (.lor, 1) := by decide +kernel
theorem d_R_reads_143 : decode b_R_reads 143 = .ok (.goto 5, 3) := by decide +kernel
theorem d_R_reads_146 : decode b_R_reads 146 = .ok (.lload 7, 2) := by decide +kernel
theorem d_R_reads_148 : decode b_R_reads 148 = .ok (.lstore 7, 2) := by decide +kernel
theorem d_R_reads_150 : decode b_R_reads 150 = .ok (.iinc 10 1, 3) := by decide +kernel
theorem d_R_reads_153 : decode b_R_reads 153 = .ok (.goto (-77), 3) := by decide +kernel
theorem d_R_reads_156 : decode b_R_reads 156 = .ok (.lload 7, 2) := by decide +kernel
theorem d_R_reads_158 : decode b_R_reads 158 = .ok (.lreturn, 1) := by decide +kernel
theorem d_R_reads_159 : decode b_R_reads 159 = .ok (.iload 6, 2) := by decide +kernel
theorem d_R_reads_161 : decode b_R_reads 161 = .ok (.bipush 11, 2) := by decide +kernel
theorem d_R_reads_163 : decode b_R_reads 163 = .ok (.if_icmp .le 17, 3) := by decide +kernel
theorem d_R_reads_166 : decode b_R_reads 166 = .ok (.iload 6, 2) := by decide +kernel
theorem d_R_reads_168 : decode b_R_reads 168 = .ok (.bipush 12, 2) := by decide +kernel
theorem d_R_reads_170 : decode b_R_reads 170 = .ok (.if_icmp .eq 10, 3) := by decide +kernel
theorem d_R_reads_173 : decode b_R_reads 173 = .ok (.iload 6, 2) := by decide +kernel
theorem d_R_reads_175 : decode b_R_reads 175 = .ok (.bipush 13, 2) := by decide +kernel
theorem d_R_reads_177 : decode b_R_reads 177 = .ok (.if_icmp .ne 65, 3) := by decide +kernel
theorem d_R_reads_180 : decode b_R_reads 180 = .ok (.bipush 8, 2) := by decide +kernel
theorem d_R_reads_182 : decode b_R_reads 182 = .ok (.aload_n 0, 1) := by decide +kernel
theorem d_R_reads_183 : decode b_R_reads 183 = .ok (.getfield 38, 3) := by decide +kernel
theorem d_R_reads_186 : decode b_R_reads 186 = .ok (.iload_n 3, 1) := by decide +kernel
theorem d_R_reads_187 : decode b_R_reads 187 = .ok (.iaload, 1) := by decide +kernel
theorem d_R_reads_188 : decode b_R_reads 188 = .ok (.imul, 1) := by decide +kernel
theorem d_R_reads_189 : decode b_R_reads 189 = .ok (.iload 5, 2) := by decide +kernel
theorem d_R_reads_191 : decode b_R_reads 191 = .ok (.iload 4, 2) := by decide +kernel
theorem d_R_reads_193 : decode b_R_reads 193 = .ok (.imul, 1) := by decide +kernel
theorem d_R_reads_194 : decode b_R_reads 194 = .ok (.iadd, 1) := by decide +kernel
theorem d_R_reads_195 : decode b_R_reads 195 = .ok (.iload 4, 2) := by decide +kernel
theorem d_R_reads_197 : decode b_R_reads 197 = .ok (.invokestatic 100, 3) := by decide +kernel
theorem d_R_reads_200 : decode b_R_reads 200 = .ok (.lstore 7, 2) := by decide +kernel
theorem d_R_reads_202 : decode b_R_reads 202 = .ok (.iload 6, 2) := by decide +kernel
theorem d_R_reads_204 : decode b_R_reads 204 = .ok (.bipush 11, 2) := by decide +kernel
theorem d_R_reads_206 : decode b_R_reads 206 = .ok (.if_icmp .ne 8, 3) := by decide +kernel
theorem d_R_reads_209 : decode b_R_reads 209 = .ok (.lload 7, 2) := by decide +kernel
theorem d_R_reads_211 : decode b_R_reads 211 = .ok (.goto 26, 3) := by decide +kernel
theorem d_R_reads_214 : decode b_R_reads 214 = .ok (.lload 7, 2) := by decide +kernel
theorem d_R_reads_216 : decode b_R_reads 216 = .ok (.bipush 8, 2) := by decide +kernel
theorem d_R_reads_218 : decode b_R_reads 218 = .ok (.aload_n 0, 1) := by decide +kernel
theorem d_R_reads_219 : decode b_R_reads 219 = .ok (.getfield 41, 3) := by decide +kernel
theorem d_R_reads_222 : decode b_R_reads 222 = .ok (.iload_n 3, 1) := by decide +kernel
theorem d_R_reads_223 : decode b_R_reads 223 = .ok (.iaload, 1) := by decide +kernel
theorem d_R_reads_224 : decode b_R_reads 224 = .ok (.imul, 1) := by decide +kernel
theorem d_R_reads_225 : decode b_R_reads 225 = .ok (.iload 5, 2) := by decide +kernel
theorem d_R_reads_227 : decode b_R_reads 227 = .ok (.iload 4, 2) := by decide +kernel
theorem d_R_reads_229 : decode b_R_reads 229 = .ok (.imul, 1) := by decide +kernel
theorem d_R_reads_230 : decode b_R_reads 230 = .ok (.iadd, 1) := by decide +kernel
theorem d_R_reads_231 : decode b_R_reads 231 = .ok (.iload 4, 2) := by decide +kernel
theorem d_R_reads_233 : decode b_R_reads 233 = .ok (.invokestatic 100, 3) := by decide +kernel
theorem d_R_reads_236 : decode b_R_reads 236 = .ok (.lor, 1) := by decide +kernel
theorem d_R_reads_237 : decode b_R_reads 237 = .ok (.lstore 7, 2) := by decide +kernel
theorem d_R_reads_239 : decode b_R_reads 239 = .ok (.goto 212, 3) := by decide +kernel
theorem d_R_reads_242 : decode b_R_reads 242 = .ok (.iload 6, 2) := by decide +kernel
theorem d_R_reads_244 : decode b_R_reads 244 = .ok (.bipush 15, 2) := by decide +kernel
theorem d_R_reads_246 : decode b_R_reads 246 = .ok (.if_icmp .ne 65, 3) := by decide +kernel
theorem d_R_reads_249 : decode b_R_reads 249 = .ok (.iload 5, 2) := by decide +kernel
theorem d_R_reads_251 : decode b_R_reads 251 = .ok (.aload_n 0, 1) := by decide +kernel
theorem d_R_reads_252 : decode b_R_reads 252 = .ok (.getfield 75, 3) := by decide +kernel
theorem d_R_reads_255 : decode b_R_reads 255 = .ok (.iload_n 1, 1) := by decide +kernel
theorem d_R_reads_256 : decode b_R_reads 256 = .ok (.iaload, 1) := by decide +kernel
theorem d_R_reads_257 : decode b_R_reads 257 = .ok (.iadd, 1) := by decide +kernel
theorem d_R_reads_258 : decode b_R_reads 258 = .ok (.istore 9, 2) := by decide +kernel
theorem d_R_reads_260 : decode b_R_reads 260 = .ok (.iload 9, 2) := by decide +kernel
theorem d_R_reads_262 : decode b_R_reads 262 = .ok (.ifCond .lt 43, 3) := by decide +kernel
theorem d_R_reads_265 : decode b_R_reads 265 = .ok (.iload 9, 2) := by decide +kernel
theorem d_R_reads_267 : decode b_R_reads 267 = .ok (.bipush 8, 2) := by decide +kernel
theorem d_R_reads_269 : decode b_R_reads 269 = .ok (.aload_n 0, 1) := by decide +kernel
theorem d_R_reads_270 : decode b_R_reads 270 = .ok (.getfield 57, 3) := by decide +kernel
theorem d_R_reads_273 : decode b_R_reads 273 = .ok (.iload_n 1, 1) := by decide +kernel
theorem d_R_reads_274 : decode b_R_reads 274 = .ok (.iaload, 1) := by decide +kernel
theorem d_R_reads_275 : decode b_R_reads 275 = .ok (.imul, 1) := by decide +kernel
theorem d_R_reads_276 : decode b_R_reads 276 = .ok (.iload 4, 2) := by decide +kernel
theorem d_R_reads_278 : decode b_R_reads 278 = .ok (.idiv, 1) := by decide +kernel
theorem d_R_reads_279 : decode b_R_reads 279 = .ok (.if_icmp .ge 26, 3) := by decide +kernel
theorem d_R_reads_282 : decode b_R_reads 282 = .ok (.bipush 8, 2) := by decide +kernel
theorem d_R_reads_284 : decode b_R_reads 284 = .ok (.aload_n 0, 1) := by decide +kernel
theorem d_R_reads_285 : decode b_R_reads 285 = .ok (.getfield 38, 3) := by decide +kernel
theorem d_R_reads_288 : decode b_R_reads 288 = .ok (.iload_n 3, 1) := by decide +kernel
theorem d_R_reads_289 : decode b_R_reads 289 = .ok (.iaload, 1) := by decide +kernel
theorem d_R_reads_290 : decode b_R_reads 290 = .ok (.imul, 1) := by decide +kernel
theorem d_R_reads_291 : decode b_R_reads 291 = .ok (.iload 9, 2) := by decide +kernel
theorem d_R_reads_293 : decode b_R_reads 293 = .ok (.iload 4, 2) := by decide +kernel
theorem d_R_reads_295 : decode b_R_reads 295 = .ok (.imul, 1) := by decide +kernel
theorem d_R_reads_296 : decode b_R_reads 296 = .ok (.iadd, 1) := by decide +kernel
theorem d_R_reads_297 : decode b_R_reads 297 = .ok (.iload 4, 2) := by decide +kernel
theorem d_R_reads_299 : decode b_R_reads 299 = .ok (.invokestatic 100, 3) := by decide +kernel
theorem d_R_reads_302 : decode b_R_reads 302 = .ok (.goto 4, 3) := by decide +kernel
theorem d_R_reads_305 : decode b_R_reads 305 = .ok (.lconst 0, 1) := by decide +kernel
theorem d_R_reads_306 : decode b_R_reads 306 = .ok (.lstore 7, 2) := by decide +kernel
theorem d_R_reads_308 : decode b_R_reads 308 = .ok (.goto 143, 3) := by decide +kernel
theorem d_R_reads_311 : decode b_R_reads 311 = .ok (.iload 6, 2) := by decide +kernel
theorem d_R_reads_313 : decode b_R_reads 313 = .ok (.bipush 16, 2) := by decide +kernel
theorem d_R_reads_315 : decode b_R_reads 315 = .ok (.if_icmp .ne 75, 3) := by decide +kernel
theorem d_R_reads_318 : decode b_R_reads 318 = .ok (.iconst 0, 1) := by decide +kernel
theorem d_R_reads_319 : decode b_R_reads 319 = .ok (.istore 9, 2) := by decide +kernel
theorem d_R_reads_321 : decode b_R_reads 321 = .ok (.iload 9, 2) := by decide +kernel
theorem d_R_reads_323 : decode b_R_reads 323 = .ok (.bipush 8, 2) := by decide +kernel
theorem d_R_reads_325 : decode b_R_reads 325 = .ok (.aload_n 0, 1) := by decide +kernel
theorem d_R_reads_326 : decode b_R_reads 326 = .ok (.getfield 57, 3) := by decide +kernel
theorem d_R_reads_329 : decode b_R_reads 329 = .ok (.iload_n 1, 1) := by decide +kernel
theorem d_R_reads_330 : decode b_R_reads 330 = .ok (.iaload, 1) := by decide +kernel
theorem d_R_reads_331 : decode b_R_reads 331 = .ok (.imul, 1) := by decide +kernel
theorem d_R_reads_332 : decode b_R_reads 332 = .ok (.if_icmp .ge 30, 3) := by decide +kernel
theorem d_R_reads_335 : decode b_R_reads 335 = .ok (.lload 7, 2) := by decide +kernel
theorem d_R_reads_337 : decode b_R_reads 337 = .ok (.bipush 8, 2) := by decide +kernel
theorem d_R_reads_339 : decode b_R_reads 339 = .ok (.aload_n 0, 1) := by decide +kernel
theorem d_R_reads_340 : decode b_R_reads 340 = .ok (.getfield 38, 3) := by decide +kernel
theorem d_R_reads_343 : decode b_R_reads 343 = .ok (.iload_n 3, 1) := by decide +kernel
theorem d_R_reads_344 : decode b_R_reads 344 = .ok (.iaload, 1) := by decide +kernel
theorem d_R_reads_345 : decode b_R_reads 345 = .ok (.imul, 1) := by decide +kernel
theorem d_R_reads_346 : decode b_R_reads 346 = .ok (.iload 9, 2) := by decide +kernel
theorem d_R_reads_348 : decode b_R_reads 348 = .ok (.iadd, 1) := by decide +kernel
theorem d_R_reads_349 : decode b_R_reads 349 = .ok (.iconst 1, 1) := by decide +kernel
theorem d_R_reads_350 : decode b_R_reads 350 = .ok (.invokestatic 100, 3) := by decide +kernel
theorem d_R_reads_353 : decode b_R_reads 353 = .ok (.lor, 1) := by decide +kernel
theorem d_R_reads_354 : decode b_R_reads 354 = .ok (.lstore 7, 2) := by decide +kernel
theorem d_R_reads_356 : decode b_R_reads 356 = .ok (.iinc 9 1, 3) := by decide +kernel
theorem d_R_reads_359 : decode b_R_reads 359 = .ok (.goto (-38), 3) := by decide +kernel
theorem d_R_reads_362 : decode b_R_reads 362 = .ok (.lload 7, 2) := by decide +kernel
theorem d_R_reads_364 : decode b_R_reads 364 = .ok (.bipush 8, 2) := by decide +kernel
theorem d_R_reads_366 : decode b_R_reads 366 = .ok (.aload_n 0, 1) := by decide +kernel
theorem d_R_reads_367 : decode b_R_reads 367 = .ok (.getfield 41, 3) := by decide +kernel
theorem d_R_reads_370 : decode b_R_reads 370 = .ok (.iload_n 3, 1) := by decide +kernel
theorem d_R_reads_371 : decode b_R_reads 371 = .ok (.iaload, 1) := by decide +kernel
theorem d_R_reads_372 : decode b_R_reads 372 = .ok (.imul, 1) := by decide +kernel
theorem d_R_reads_373 : decode b_R_reads 373 = .ok (.iload 5, 2) := by decide +kernel
theorem d_R_reads_375 : decode b_R_reads 375 = .ok (.iload 4, 2) := by decide +kernel
theorem d_R_reads_377 : decode b_R_reads 377 = .ok (.imul, 1) := by decide +kernel
theorem d_R_reads_378 : decode b_R_reads 378 = .ok (.iadd, 1) := by decide +kernel
theorem d_R_reads_379 : decode b_R_reads 379 = .ok (.iload 4, 2) := by decide +kernel
theorem d_R_reads_381 : decode b_R_reads 381 = .ok (.invokestatic 100, 3) := by decide +kernel
theorem d_R_reads_384 : decode b_R_reads 384 = .ok (.lor, 1) := by decide +kernel
theorem d_R_reads_385 : decode b_R_reads 385 = .ok (.lstore 7, 2) := by decide +kernel
theorem d_R_reads_387 : decode b_R_reads 387 = .ok (.goto 64, 3) := by decide +kernel
theorem d_R_reads_390 : decode b_R_reads 390 = .ok (.iload 6, 2) := by decide +kernel
theorem d_R_reads_392 : decode b_R_reads 392 = .ok (.bipush 18, 2) := by decide +kernel
theorem d_R_reads_394 : decode b_R_reads 394 = .ok (.if_icmp .ne 28, 3) := by decide +kernel
theorem d_R_reads_397 : decode b_R_reads 397 = .ok (.bipush 8, 2) := by decide +kernel
theorem d_R_reads_399 : decode b_R_reads 399 = .ok (.aload_n 0, 1) := by decide +kernel
theorem d_R_reads_400 : decode b_R_reads 400 = .ok (.getfield 35, 3) := by decide +kernel
theorem d_R_reads_403 : decode b_R_reads 403 = .ok (.iload_n 3, 1) := by decide +kernel
theorem d_R_reads_404 : decode b_R_reads 404 = .ok (.iaload, 1) := by decide +kernel
theorem d_R_reads_405 : decode b_R_reads 405 = .ok (.imul, 1) := by decide +kernel
theorem d_R_reads_406 : decode b_R_reads 406 = .ok (.iload 5, 2) := by decide +kernel
theorem d_R_reads_408 : decode b_R_reads 408 = .ok (.iload 4, 2) := by decide +kernel
theorem d_R_reads_410 : decode b_R_reads 410 = .ok (.imul, 1) := by decide +kernel
theorem d_R_reads_411 : decode b_R_reads 411 = .ok (.iadd, 1) := by decide +kernel
theorem d_R_reads_412 : decode b_R_reads 412 = .ok (.iload 4, 2) := by decide +kernel
theorem d_R_reads_414 : decode b_R_reads 414 = .ok (.invokestatic 100, 3) := by decide +kernel
theorem d_R_reads_417 : decode b_R_reads 417 = .ok (.lstore 7, 2) := by decide +kernel
theorem d_R_reads_419 : decode b_R_reads 419 = .ok (.goto 32, 3) := by decide +kernel
theorem d_R_reads_422 : decode b_R_reads 422 = .ok (.iload 6, 2) := by decide +kernel
theorem d_R_reads_424 : decode b_R_reads 424 = .ok (.bipush 19, 2) := by decide +kernel
theorem d_R_reads_426 : decode b_R_reads 426 = .ok (.if_icmp .ne 25, 3) := by decide +kernel
theorem d_R_reads_429 : decode b_R_reads 429 = .ok (.bipush 8, 2) := by decide +kernel
theorem d_R_reads_431 : decode b_R_reads 431 = .ok (.aload_n 0, 1) := by decide +kernel
theorem d_R_reads_432 : decode b_R_reads 432 = .ok (.getfield 41, 3) := by decide +kernel
theorem d_R_reads_435 : decode b_R_reads 435 = .ok (.iload_n 3, 1) := by decide +kernel
theorem d_R_reads_436 : decode b_R_reads 436 = .ok (.iaload, 1) := by decide +kernel
theorem d_R_reads_437 : decode b_R_reads 437 = .ok (.imul, 1) := by decide +kernel
theorem d_R_reads_438 : decode b_R_reads 438 = .ok (.iload 5, 2) := by decide +kernel
theorem d_R_reads_440 : decode b_R_reads 440 = .ok (.iload 4, 2) := by decide +kernel
theorem d_R_reads_442 : decode b_R_reads 442 = .ok (.imul, 1) := by decide +kernel
theorem d_R_reads_443 : decode b_R_reads 443 = .ok (.iadd, 1) := by decide +kernel
theorem d_R_reads_444 : decode b_R_reads 444 = .ok (.iload 4, 2) := by decide +kernel
theorem d_R_reads_446 : decode b_R_reads 446 = .ok (.invokestatic 100, 3) := by decide +kernel
theorem d_R_reads_449 : decode b_R_reads 449 = .ok (.lstore 7, 2) := by decide +kernel
theorem d_R_reads_451 : decode b_R_reads 451 = .ok (.aload_n 0, 1) := by decide +kernel
theorem d_R_reads_452 : decode b_R_reads 452 = .ok (.getfield 47, 3) := by decide +kernel
theorem d_R_reads_455 : decode b_R_reads 455 = .ok (.iload_n 3, 1) := by decide +kernel
theorem d_R_reads_456 : decode b_R_reads 456 = .ok (.baload, 1) := by decide +kernel
theorem d_R_reads_457 : decode b_R_reads 457 = .ok (.ifCond .eq 18, 3) := by decide +kernel
theorem d_R_reads_460 : decode b_R_reads 460 = .ok (.lload 7, 2) := by decide +kernel
theorem d_R_reads_462 : decode b_R_reads 462 = .ok (.iload 5, 2) := by decide +kernel
theorem d_R_reads_464 : decode b_R_reads 464 = .ok (.bipush 8, 2) := by decide +kernel
theorem d_R_reads_466 : decode b_R_reads 466 = .ok (.idiv, 1) := by decide +kernel
theorem d_R_reads_467 : decode b_R_reads 467 = .ok (.iconst 1, 1) := by decide +kernel
theorem d_R_reads_468 : decode b_R_reads 468 = .ok (.invokestatic 100, 3) := by decide +kernel
theorem d_R_reads_471 : decode b_R_reads 471 = .ok (.lor, 1) := by decide +kernel
theorem d_R_reads_472 : decode b_R_reads 472 = .ok (.goto 5, 3) := by decide +kernel
theorem d_R_reads_475 : decode b_R_reads 475 = .ok (.lload 7, 2) := by decide +kernel
theorem d_R_reads_477 : decode b_R_reads 477 = .ok (.lreturn, 1) := by decide +kernel
theorem d_R_vlOf_0 : decode b_R_vlOf 0 = .ok (.aload_n 0, 1) := by decide +kernel
theorem d_R_vlOf_1 : decode b_R_vlOf 1 = .ok (.getfield 72, 3) := by decide +kernel
theorem d_R_vlOf_4 : decode b_R_vlOf 4 = .ok (.iload_n 1, 1) := by decide +kernel
theorem d_R_vlOf_5 : decode b_R_vlOf 5 = .ok (.iaload, 1) := by decide +kernel
theorem d_R_vlOf_6 : decode b_R_vlOf 6 = .ok (.ireturn, 1) := by decide +kernel
theorem d_R_bytes_0 : decode b_R_bytes 0 = .ok (.lconst 1, 1) := by decide +kernel
theorem d_R_bytes_1 : decode b_R_bytes 1 = .ok (.iload_n 1, 1) := by decide +kernel
theorem d_R_bytes_2 : decode b_R_bytes 2 = .ok (.lshl, 1) := by decide +kernel
theorem d_R_bytes_3 : decode b_R_bytes 3 = .ok (.lconst 1, 1) := by decide +kernel
theorem d_R_bytes_4 : decode b_R_bytes 4 = .ok (.lsub, 1) := by decide +kernel
theorem d_R_bytes_5 : decode b_R_bytes 5 = .ok (.iload_n 0, 1) := by decide +kernel
theorem d_R_bytes_6 : decode b_R_bytes 6 = .ok (.lshl, 1) := by decide +kernel
theorem d_R_bytes_7 : decode b_R_bytes 7 = .ok (.lreturn, 1) := by decide +kernel
theorem d_R_writes_0 : decode b_R_writes 0 = .ok (.aload_n 0, 1) := by decide +kernel
theorem d_R_writes_1 : decode b_R_writes 1 = .ok (.getfield 51, 3) := by decide +kernel
theorem d_R_writes_4 : decode b_R_writes 4 = .ok (.iload_n 1, 1) := by decide +kernel
theorem d_R_writes_5 : decode b_R_writes 5 = .ok (.iaload, 1) := by decide +kernel
theorem d_R_writes_6 : decode b_R_writes 6 = .ok (.istore_n 3, 1) := by decide +kernel
theorem d_R_writes_7 : decode b_R_writes 7 = .ok (.aload_n 0, 1) := by decide +kernel
theorem d_R_writes_8 : decode b_R_writes 8 = .ok (.getfield 54, 3) := by decide +kernel
theorem d_R_writes_11 : decode b_R_writes 11 = .ok (.iload_n 1, 1) := by decide +kernel
theorem d_R_writes_12 : decode b_R_writes 12 = .ok (.iaload, 1) := by decide +kernel
theorem d_R_writes_13 : decode b_R_writes 13 = .ok (.istore 4, 2) := by decide +kernel
theorem d_R_writes_15 : decode b_R_writes 15 = .ok (.aload_n 0, 1) := by decide +kernel
theorem d_R_writes_16 : decode b_R_writes 16 = .ok (.getfield 60, 3) := by decide +kernel
theorem d_R_writes_19 : decode b_R_writes 19 = .ok (.iload_n 1, 1) := by decide +kernel
theorem d_R_writes_20 : decode b_R_writes 20 = .ok (.iaload, 1) := by decide +kernel
theorem d_R_writes_21 : decode b_R_writes 21 = .ok (.iload_n 2, 1) := by decide +kernel
theorem d_R_writes_22 : decode b_R_writes 22 = .ok (.iadd, 1) := by decide +kernel
theorem d_R_writes_23 : decode b_R_writes 23 = .ok (.istore 5, 2) := by decide +kernel
theorem d_R_writes_25 : decode b_R_writes 25 = .ok (.aload_n 0, 1) := by decide +kernel
theorem d_R_writes_26 : decode b_R_writes 26 = .ok (.getfield 32, 3) := by decide +kernel
theorem d_R_writes_29 : decode b_R_writes 29 = .ok (.iload_n 3, 1) := by decide +kernel
theorem d_R_writes_30 : decode b_R_writes 30 = .ok (.iaload, 1) := by decide +kernel
theorem d_R_writes_31 : decode b_R_writes 31 = .ok (.istore 6, 2) := by decide +kernel
theorem d_R_writes_33 : decode b_R_writes 33 = .ok (.iload 6, 2) := by decide +kernel
theorem d_R_writes_35 : decode b_R_writes 35 = .ok (.bipush 18, 2) := by decide +kernel
theorem d_R_writes_37 : decode b_R_writes 37 = .ok (.if_icmp .ne 5, 3) := by decide +kernel
theorem d_R_writes_40 : decode b_R_writes 40 = .ok (.lconst 0, 1) := by decide +kernel
theorem d_R_writes_41 : decode b_R_writes 41 = .ok (.lreturn, 1) := by decide +kernel
theorem d_R_writes_42 : decode b_R_writes 42 = .ok (.iload 6, 2) := by decide +kernel
theorem d_R_writes_44 : decode b_R_writes 44 = .ok (.bipush 12, 2) := by decide +kernel
theorem d_R_writes_46 : decode b_R_writes 46 = .ok (.if_icmp .ne 23, 3) := by decide +kernel
theorem d_R_writes_49 : decode b_R_writes 49 = .ok (.bipush 8, 2) := by decide +kernel
theorem d_R_writes_51 : decode b_R_writes 51 = .ok (.aload_n 0, 1) := by decide +kernel
theorem d_R_writes_52 : decode b_R_writes 52 = .ok (.getfield 35, 3) := by decide +kernel
theorem d_R_writes_55 : decode b_R_writes 55 = .ok (.iload_n 3, 1) := by decide +kernel
theorem d_R_writes_56 : decode b_R_writes 56 = .ok (.iaload, 1) := by decide +kernel
theorem d_R_writes_57 : decode b_R_writes 57 = .ok (.imul, 1) := by decide +kernel
theorem d_R_writes_58 : decode b_R_writes 58 = .ok (.iload 5, 2) := by decide +kernel
theorem d_R_writes_60 : decode b_R_writes 60 = .ok (.bipush 8, 2) := by decide +kernel
theorem d_R_writes_62 : decode b_R_writes 62 = .ok (.idiv, 1) := by decide +kernel
theorem d_R_writes_63 : decode b_R_writes 63 = .ok (.iadd, 1) := by decide +kernel
theorem d_R_writes_64 : decode b_R_writes 64 = .ok (.iconst 1, 1) := by decide +kernel
theorem d_R_writes_65 : decode b_R_writes 65 = .ok (.invokestatic 100, 3) := by decide +kernel
theorem d_R_writes_68 : decode b_R_writes 68 = .ok (.lreturn, 1) := by decide +kernel
theorem d_R_writes_69 : decode b_R_writes 69 = .ok (.iload 6, 2) := by decide +kernel
theorem d_R_writes_71 : decode b_R_writes 71 = .ok (.bipush 14, 2) := by decide +kernel
theorem d_R_writes_73 : decode b_R_writes 73 = .ok (.if_icmp .ne 20, 3) := by decide +kernel
theorem d_R_writes_76 : decode b_R_writes 76 = .ok (.bipush 8, 2) := by decide +kernel
theorem d_R_writes_78 : decode b_R_writes 78 = .ok (.aload_n 0, 1) := by decide +kernel
theorem d_R_writes_79 : decode b_R_writes 79 = .ok (.getfield 35, 3) := by decide +kernel
theorem d_R_writes_82 : decode b_R_writes 82 = .ok (.iload_n 3, 1) := by decide +kernel
theorem d_R_writes_83 : decode b_R_writes 83 = .ok (.iaload, 1) := by decide +kernel
theorem d_R_writes_84 : decode b_R_writes 84 = .ok (.imul, 1) := by decide +kernel
theorem d_R_writes_85 : decode b_R_writes 85 = .ok (.iload 4, 2) := by decide +kernel
theorem d_R_writes_87 : decode b_R_writes 87 = .ok (.invokestatic 100, 3) := by decide +kernel
theorem d_R_writes_90 : decode b_R_writes 90 = .ok (.goto 57, 3) := by decide +kernel
theorem d_R_writes_93 : decode b_R_writes 93 = .ok (.iload 6, 2) := by decide +kernel
theorem d_R_writes_95 : decode b_R_writes 95 = .ok (.bipush 13, 2) := by decide +kernel
theorem d_R_writes_97 : decode b_R_writes 97 = .ok (.if_icmp .ne 30, 3) := by decide +kernel
theorem d_R_writes_100 : decode b_R_writes 100 = .ok (.bipush 8, 2) := by decide +kernel
theorem d_R_writes_102 : decode b_R_writes 102 = .ok (.aload_n 0, 1) := by decide +kernel
theorem d_R_writes_103 : decode b_R_writes 103 = .ok (.getfield 35, 3) := by decide +kernel
theorem d_R_writes_106 : decode b_R_writes 106 = .ok (.iload_n 3, 1) := by decide +kernel
theorem d_R_writes_107 : decode b_R_writes 107 = .ok (.iaload, 1) := by decide +kernel
theorem d_R_writes_108 : decode b_R_writes 108 = .ok (.imul, 1) := by decide +kernel
theorem d_R_writes_109 : decode b_R_writes 109 = .ok (.iconst 2, 1) := by decide +kernel
theorem d_R_writes_110 : decode b_R_writes 110 = .ok (.iload 5, 2) := by decide +kernel
theorem d_R_writes_112 : decode b_R_writes 112 = .ok (.imul, 1) := by decide +kernel
theorem d_R_writes_113 : decode b_R_writes 113 = .ok (.iload 4, 2) := by decide +kernel
theorem d_R_writes_115 : decode b_R_writes 115 = .ok (.imul, 1) := by decide +kernel
theorem d_R_writes_116 : decode b_R_writes 116 = .ok (.iadd, 1) := by decide +kernel
theorem d_R_writes_117 : decode b_R_writes 117 = .ok (.iconst 2, 1) := by decide +kernel
theorem d_R_writes_118 : decode b_R_writes 118 = .ok (.iload 4, 2) := by decide +kernel
theorem d_R_writes_120 : decode b_R_writes 120 = .ok (.imul, 1) := by decide +kernel
theorem d_R_writes_121 : decode b_R_writes 121 = .ok (.invokestatic 100, 3) := by decide +kernel
theorem d_R_writes_124 : decode b_R_writes 124 = .ok (.goto 23, 3) := by decide +kernel
theorem d_R_writes_127 : decode b_R_writes 127 = .ok (.bipush 8, 2) := by decide +kernel
theorem d_R_writes_129 : decode b_R_writes 129 = .ok (.aload_n 0, 1) := by decide +kernel
theorem d_R_writes_130 : decode b_R_writes 130 = .ok (.getfield 35, 3) := by decide +kernel
theorem d_R_writes_133 : decode b_R_writes 133 = .ok (.iload_n 3, 1) := by decide +kernel
theorem d_R_writes_134 : decode b_R_writes 134 = .ok (.iaload, 1) := by decide +kernel
theorem d_R_writes_135 : decode b_R_writes 135 = .ok (.imul, 1) := by decide +kernel
theorem d_R_writes_136 : decode b_R_writes 136 = .ok (.iload 5, 2) := by decide +kernel
theorem d_R_writes_138 : decode b_R_writes 138 = .ok (.iload 4, 2) := by decide +kernel
theorem d_R_writes_140 : decode b_R_writes 140 = .ok (.imul, 1) := by decide +kernel
theorem d_R_writes_141 : decode b_R_writes 141 = .ok (.iadd, 1) := by decide +kernel
theorem d_R_writes_142 : decode b_R_writes 142 = .ok (.iload 4, 2) := by decide +kernel
theorem d_R_writes_144 : decode b_R_writes 144 = .ok (.invokestatic 100, 3) := by decide +kernel
theorem d_R_writes_147 : decode b_R_writes 147 = .ok (.lreturn, 1) := by decide +kernel
theorem d_R_does_0 : decode b_R_does 0 = .ok (.aload_n 0, 1) := by decide +kernel
theorem d_R_does_1 : decode b_R_does 1 = .ok (.getfield 51, 3) := by decide +kernel
theorem d_R_does_4 : decode b_R_does 4 = .ok (.iload_n 1, 1) := by decide +kernel
theorem d_R_does_5 : decode b_R_does 5 = .ok (.iaload, 1) := by decide +kernel
theorem d_R_does_6 : decode b_R_does 6 = .ok (.istore_n 3, 1) := by decide +kernel
theorem d_R_does_7 : decode b_R_does 7 = .ok (.aload_n 0, 1) := by decide +kernel
theorem d_R_does_8 : decode b_R_does 8 = .ok (.getfield 60, 3) := by decide +kernel
theorem d_R_does_11 : decode b_R_does 11 = .ok (.iload_n 1, 1) := by decide +kernel
theorem d_R_does_12 : decode b_R_does 12 = .ok (.iaload, 1) := by decide +kernel
theorem d_R_does_13 : decode b_R_does 13 = .ok (.iload_n 2, 1) := by decide +kernel
theorem d_R_does_14 : decode b_R_does 14 = .ok (.iadd, 1) := by decide +kernel
theorem d_R_does_15 : decode b_R_does 15 = .ok (.istore 4, 2) := by decide +kernel
theorem d_R_does_17 : decode b_R_does 17 = .ok (.aload_n 0, 1) := by decide +kernel
theorem d_R_does_18 : decode b_R_does 18 = .ok (.getfield 32, 3) := by decide +kernel
theorem d_R_does_21 : decode b_R_does 21 = .ok (.iload_n 3, 1) := by decide +kernel
theorem d_R_does_22 : decode b_R_does 22 = .ok (.iaload, 1) := by decide +kernel
theorem d_R_does_23 : decode b_R_does 23 = .ok (.istore 5, 2) := by decide +kernel
theorem d_R_does_25 : decode b_R_does 25 = .ok (.aload_n 0, 1) := by decide +kernel
theorem d_R_does_26 : decode b_R_does 26 = .ok (.dup, 1) := by decide +kernel
theorem d_R_does_27 : decode b_R_does 27 = .ok (.getfield 129, 3) := by decide +kernel
theorem d_R_does_30 : decode b_R_does 30 = .ok (.iconst 1, 1) := by decide +kernel
theorem d_R_does_31 : decode b_R_does 31 = .ok (.iadd, 1) := by decide +kernel
theorem d_R_does_32 : decode b_R_does 32 = .ok (.putfield 129, 3) := by decide +kernel
theorem d_R_does_35 : decode b_R_does 35 = .ok (.iload 5, 2) := by decide +kernel
theorem d_R_does_37 : decode b_R_does 37 = .ok (.bipush 14, 2) := by decide +kernel
theorem d_R_does_39 : decode b_R_does 39 = .ok (.if_icmp .ne 9, 3) := by decide +kernel
theorem d_R_does_42 : decode b_R_does 42 = .ok (.aload_n 0, 1) := by decide +kernel
theorem d_R_does_43 : decode b_R_does 43 = .ok (.iload_n 1, 1) := by decide +kernel
theorem d_R_does_44 : decode b_R_does 44 = .ok (.invokevirtual 132, 3) := by decide +kernel
theorem d_R_does_47 : decode b_R_does 47 = .ok (.return_, 1) := by decide +kernel
theorem d_R_does_48 : decode b_R_does 48 = .ok (.aload_n 0, 1) := by decide +kernel
theorem d_R_does_49 : decode b_R_does 49 = .ok (.getfield 47, 3) := by decide +kernel
theorem d_R_does_52 : decode b_R_does 52 = .ok (.iload_n 3, 1) := by decide +kernel
theorem d_R_does_53 : decode b_R_does 53 = .ok (.baload, 1) := by decide +kernel
theorem d_R_does_54 : decode b_R_does 54 = .ok (.ifCond .eq 14, 3) := by decide +kernel
theorem d_R_does_57 : decode b_R_does 57 = .ok (.aload_n 0, 1) := by decide +kernel
theorem d_R_does_58 : decode b_R_does 58 = .ok (.iconst 0, 1) := by decide +kernel
theorem d_R_does_59 : decode b_R_does 59 = .ok (.iload 4, 2) := by decide +kernel
theorem d_R_does_61 : decode b_R_does 61 = .ok (.invokevirtual 114, 3) := by decide +kernel
theorem d_R_does_64 : decode b_R_does 64 = .ok (.ifCond .ne 4, 3) := by decide +kernel
theorem d_R_does_67 : decode b_R_does 67 = .ok (.return_, 1) := by decide +kernel
theorem d_R_does_68 : decode b_R_does 68 = .ok (.iload 5, 2) := by decide +kernel
theorem d_R_does_70 : decode b_R_does 70 = .ok (.bipush 12, 2) := by decide +kernel
theorem d_R_does_72 : decode b_R_does 72 = .ok (.if_icmp .ne 121, 3) := by decide +kernel
theorem d_R_does_75 : decode b_R_does 75 = .ok (.aload_n 0, 1) := by decide +kernel
theorem d_R_does_76 : decode b_R_does 76 = .ok (.aload_n 0, 1) := by decide +kernel
theorem d_R_does_77 : decode b_R_does 77 = .ok (.getfield 38, 3) := by decide +kernel
theorem d_R_does_80 : decode b_R_does 80 = .ok (.iload_n 3, 1) := by decide +kernel
theorem d_R_does_81 : decode b_R_does 81 = .ok (.iaload, 1) := by decide +kernel
theorem d_R_does_82 : decode b_R_does 82 = .ok (.iload 4, 2) := by decide +kernel
theorem d_R_does_84 : decode b_R_does 84 = .ok (.aload_n 0, 1) := by decide +kernel
theorem d_R_does_85 : decode b_R_does 85 = .ok (.getfield 54, 3) := by decide +kernel
theorem d_R_does_88 : decode b_R_does 88 = .ok (.iload_n 1, 1) := by decide +kernel
theorem d_R_does_89 : decode b_R_does 89 = .ok (.iaload, 1) := by decide +kernel
theorem d_R_does_90 : decode b_R_does 90 = .ok (.invokevirtual 110, 3) := by decide +kernel
theorem d_R_does_93 : decode b_R_does 93 = .ok (.aload_n 0, 1) := by decide +kernel
theorem d_R_does_94 : decode b_R_does 94 = .ok (.aload_n 0, 1) := by decide +kernel
theorem d_R_does_95 : decode b_R_does 95 = .ok (.getfield 41, 3) := by decide +kernel
theorem d_R_does_98 : decode b_R_does 98 = .ok (.iload_n 3, 1) := by decide +kernel
theorem d_R_does_99 : decode b_R_does 99 = .ok (.iaload, 1) := by decide +kernel
theorem d_R_does_100 : decode b_R_does 100 = .ok (.iload 4, 2) := by decide +kernel
theorem d_R_does_102 : decode b_R_does 102 = .ok (.aload_n 0, 1) := by decide +kernel
theorem d_R_does_103 : decode b_R_does 103 = .ok (.getfield 54, 3) := by decide +kernel
theorem d_R_does_106 : decode b_R_does 106 = .ok (.iload_n 1, 1) := by decide +kernel
theorem d_R_does_107 : decode b_R_does 107 = .ok (.iaload, 1) := by decide +kernel
theorem d_R_does_108 : decode b_R_does 108 = .ok (.invokevirtual 110, 3) := by decide +kernel
theorem d_R_does_111 : decode b_R_does 111 = .ok (.if_icmp .ge 7, 3) := by decide +kernel
theorem d_R_does_114 : decode b_R_does 114 = .ok (.iconst 1, 1) := by decide +kernel
theorem d_R_does_115 : decode b_R_does 115 = .ok (.goto 4, 3) := by decide +kernel
theorem d_R_does_118 : decode b_R_does 118 = .ok (.iconst 0, 1) := by decide +kernel
theorem d_R_does_119 : decode b_R_does 119 = .ok (.istore 6, 2) := by decide +kernel
theorem d_R_does_121 : decode b_R_does 121 = .ok (.bipush 8, 2) := by decide +kernel
theorem d_R_does_123 : decode b_R_does 123 = .ok (.aload_n 0, 1) := by decide +kernel
theorem d_R_does_124 : decode b_R_does 124 = .ok (.getfield 35, 3) := by decide +kernel
theorem d_R_does_127 : decode b_R_does 127 = .ok (.iload_n 3, 1) := by decide +kernel
theorem d_R_does_128 : decode b_R_does 128 = .ok (.iaload, 1) := by decide +kernel
theorem d_R_does_129 : decode b_R_does 129 = .ok (.imul, 1) := by decide +kernel
theorem d_R_does_130 : decode b_R_does 130 = .ok (.iload 4, 2) := by decide +kernel
theorem d_R_does_132 : decode b_R_does 132 = .ok (.bipush 8, 2) := by decide +kernel
theorem d_R_does_134 : decode b_R_does 134 = .ok (.idiv, 1) := by decide +kernel
theorem d_R_does_135 : decode b_R_does 135 = .ok (.iadd, 1) := by decide +kernel
theorem d_R_does_136 : decode b_R_does 136 = .ok (.istore 7, 2) := by decide +kernel
theorem d_R_does_138 : decode b_R_does 138 = .ok (.iconst 1, 1) := by decide +kernel
theorem d_R_does_139 : decode b_R_does 139 = .ok (.iload 4, 2) := by decide +kernel
theorem d_R_does_141 : decode b_R_does 141 = .ok (.bipush 8, 2) := by decide +kernel
theorem d_R_does_143 : decode b_R_does 143 = .ok (.irem, 1) := by decide +kernel
theorem d_R_does_144 : decode b_R_does 144 = .ok (.ishl, 1) := by decide +kernel
theorem d_R_does_145 : decode b_R_does 145 = .ok (.istore 8, 2) := by decide +kernel
theorem d_R_does_147 : decode b_R_does 147 = .ok (.aload_n 0, 1) := by decide +kernel
theorem d_R_does_148 : decode b_R_does 148 = .ok (.getfield 26, 3) := by decide +kernel
theorem d_R_does_151 : decode b_R_does 151 = .ok (.iload 7, 2) := by decide +kernel
theorem d_R_does_153 : decode b_R_does 153 = .ok (.iload 6, 2) := by decide +kernel
theorem d_R_does_155 : decode b_R_does 155 = .ok (.ifCond .eq 16, 3) := by decide +kernel
theorem d_R_does_158 : decode b_R_does 158 = .ok (.aload_n 0, 1) := by decide +kernel
theorem d_R_does_159 : decode b_R_does 159 = .ok (.getfield 26, 3) := by decide +kernel
theorem d_R_does_162 : decode b_R_does 162 = .ok (.iload 7, 2) := by decide +kernel
theorem d_R_does_164 : decode b_R_does 164 = .ok (.iaload, 1) := by decide +kernel
theorem d_R_does_165 : decode b_R_does 165 = .ok (.iload 8, 2) := by decide +kernel
theorem d_R_does_167 : decode b_R_does 167 = .ok (.ior, 1) := by decide +kernel
theorem d_R_does_168 : decode b_R_does 168 = .ok (.goto 15, 3) := by decide +kernel
theorem d_R_does_171 : decode b_R_does 171 = .ok (.aload_n 0, 1) := by decide +kernel
theorem d_R_does_172 : decode b_R_does 172 = .ok (.getfield 26, 3) := by decide +kernel
theorem d_R_does_175 : decode b_R_does 175 = .ok (.iload 7, 2) := by decide +kernel
theorem d_R_does_177 : decode b_R_does 177 = .ok (.iaload, 1) := by decide +kernel
theorem d_R_does_178 : decode b_R_does 178 = .ok (.iload 8, 2) := by decide +kernel
theorem d_R_does_180 : decode b_R_does 180 = .ok (.iconst (-1), 1) := by decide +kernel
theorem d_R_does_181 : decode b_R_does 181 = .ok (.ixor, 1) := by decide +kernel
theorem d_R_does_182 : decode b_R_does 182 = .ok (.iand, 1) := by decide +kernel
theorem d_R_does_183 : decode b_R_does 183 = .ok (.bipush 24, 2) := by decide +kernel
theorem d_R_does_185 : decode b_R_does 185 = .ok (.ishl, 1) := by decide +kernel
theorem d_R_does_186 : decode b_R_does 186 = .ok (.bipush 24, 2) := by decide +kernel
theorem d_R_does_188 : decode b_R_does 188 = .ok (.ishr, 1) := by decide +kernel
theorem d_R_does_189 : decode b_R_does 189 = .ok (.iastore, 1) := by decide +kernel
theorem d_R_does_190 : decode b_R_does 190 = .ok (.goto 107, 3) := by decide +kernel
theorem d_R_does_193 : decode b_R_does 193 = .ok (.iload 5, 2) := by decide +kernel
theorem d_R_does_195 : decode b_R_does 195 = .ok (.bipush 13, 2) := by decide +kernel
theorem d_R_does_197 : decode b_R_does 197 = .ok (.if_icmp .ne 37, 3) := by decide +kernel
theorem d_R_does_200 : decode b_R_does 200 = .ok (.aload_n 0, 1) := by decide +kernel
theorem d_R_does_201 : decode b_R_does 201 = .ok (.iload_n 1, 1) := by decide +kernel
theorem d_R_does_202 : decode b_R_does 202 = .ok (.iload 4, 2) := by decide +kernel
theorem d_R_does_204 : decode b_R_does 204 = .ok (.invokevirtual 136, 3) := by decide +kernel
theorem d_R_does_207 : decode b_R_does 207 = .ok (.istore 6, 2) := by decide +kernel
theorem d_R_does_209 : decode b_R_does 209 = .ok (.aload_n 0, 1) := by decide +kernel
theorem d_R_does_210 : decode b_R_does 210 = .ok (.aload_n 0, 1) := by decide +kernel
theorem d_R_does_211 : decode b_R_does 211 = .ok (.getfield 35, 3) := by decide +kernel
theorem d_R_does_214 : decode b_R_does 214 = .ok (.iload_n 3, 1) := by decide +kernel
theorem d_R_does_215 : decode b_R_does 215 = .ok (.iaload, 1) := by decide +kernel
theorem d_R_does_216 : decode b_R_does 216 = .ok (.iload 4, 2) := by decide +kernel
theorem d_R_does_218 : decode b_R_does 218 = .ok (.iconst 2, 1) := by decide +kernel
theorem d_R_does_219 : decode b_R_does 219 = .ok (.aload_n 0, 1) := by decide +kernel
theorem d_R_does_220 : decode b_R_does 220 = .ok (.getfield 54, 3) := by decide +kernel
theorem d_R_does_223 : decode b_R_does 223 = .ok (.iload_n 1, 1) := by decide +kernel
theorem d_R_does_224 : decode b_R_does 224 = .ok (.iaload, 1) := by decide +kernel
theorem d_R_does_225 : decode b_R_does 225 = .ok (.imul, 1) := by decide +kernel
theorem d_R_does_226 : decode b_R_does 226 = .ok (.iload 6, 2) := by decide +kernel
theorem d_R_does_228 : decode b_R_does 228 = .ok (.invokevirtual 118, 3) := by decide +kernel
theorem d_R_does_231 : decode b_R_does 231 = .ok (.goto 66, 3) := by decide +kernel
theorem d_R_does_234 : decode b_R_does 234 = .ok (.iload 5, 2) := by decide +kernel
theorem d_R_does_236 : decode b_R_does 236 = .ok (.bipush 17, 2) := by decide +kernel
theorem d_R_does_238 : decode b_R_does 238 = .ok (.if_icmp .lt 13, 3) := by decide +kernel
theorem d_R_does_241 : decode b_R_does 241 = .ok (.aload_n 0, 1) := by decide +kernel
theorem d_R_does_242 : decode b_R_does 242 = .ok (.iload_n 1, 1) := by decide +kernel
theorem d_R_does_243 : decode b_R_does 243 = .ok (.iload 4, 2) := by decide +kernel
theorem d_R_does_245 : decode b_R_does 245 = .ok (.invokevirtual 139, 3) := by decide +kernel
theorem d_R_does_248 : decode b_R_does 248 = .ok (.goto 49, 3) := by decide +kernel
theorem d_R_does_251 : decode b_R_does 251 = .ok (.iload 5, 2) := by decide +kernel
theorem d_R_does_253 : decode b_R_does 253 = .ok (.bipush 15, 2) := by decide +kernel
theorem d_R_does_255 : decode b_R_does 255 = .ok (.if_icmp .lt 13, 3) := by decide +kernel
theorem d_R_does_258 : decode b_R_does 258 = .ok (.aload_n 0, 1) := by decide +kernel
theorem d_R_does_259 : decode b_R_does 259 = .ok (.iload_n 1, 1) := by decide +kernel
theorem d_R_does_260 : decode b_R_does 260 = .ok (.iload 4, 2) := by decide +kernel
theorem d_R_does_262 : decode b_R_does 262 = .ok (.invokevirtual 143, 3) := by decide +kernel
theorem d_R_does_265 : decode b_R_does 265 = .ok (.goto 10, 3) := by decide +kernel
theorem d_R_does_268 : decode b_R_does 268 = .ok (.aload_n 0, 1) := by decide +kernel
theorem d_R_does_269 : decode b_R_does 269 = .ok (.iload_n 1, 1) := by decide +kernel
theorem d_R_does_270 : decode b_R_does 270 = .ok (.iload 4, 2) := by decide +kernel
theorem d_R_does_272 : decode b_R_does 272 = .ok (.invokevirtual 136, 3) := by decide +kernel
theorem d_R_does_275 : decode b_R_does 275 = .ok (.istore 6, 2) := by decide +kernel
theorem d_R_does_277 : decode b_R_does 277 = .ok (.aload_n 0, 1) := by decide +kernel
theorem d_R_does_278 : decode b_R_does 278 = .ok (.aload_n 0, 1) := by decide +kernel
theorem d_R_does_279 : decode b_R_does 279 = .ok (.getfield 35, 3) := by decide +kernel
theorem d_R_does_282 : decode b_R_does 282 = .ok (.iload_n 3, 1) := by decide +kernel
theorem d_R_does_283 : decode b_R_does 283 = .ok (.iaload, 1) := by decide +kernel
theorem d_R_does_284 : decode b_R_does 284 = .ok (.iload 4, 2) := by decide +kernel
theorem d_R_does_286 : decode b_R_does 286 = .ok (.aload_n 0, 1) := by decide +kernel
theorem d_R_does_287 : decode b_R_does 287 = .ok (.getfield 54, 3) := by decide +kernel
theorem d_R_does_290 : decode b_R_does 290 = .ok (.iload_n 1, 1) := by decide +kernel
theorem d_R_does_291 : decode b_R_does 291 = .ok (.iaload, 1) := by decide +kernel
theorem d_R_does_292 : decode b_R_does 292 = .ok (.iload 6, 2) := by decide +kernel
theorem d_R_does_294 : decode b_R_does 294 = .ok (.invokevirtual 118, 3) := by decide +kernel
theorem d_R_does_297 : decode b_R_does 297 = .ok (.return_, 1) := by decide +kernel
theorem d_R_sums_0 : decode b_R_sums 0 = .ok (.aload_n 0, 1) := by decide +kernel
theorem d_R_sums_1 : decode b_R_sums 1 = .ok (.getfield 51, 3) := by decide +kernel
theorem d_R_sums_4 : decode b_R_sums 4 = .ok (.iload_n 1, 1) := by decide +kernel
theorem d_R_sums_5 : decode b_R_sums 5 = .ok (.iaload, 1) := by decide +kernel
theorem d_R_sums_6 : decode b_R_sums 6 = .ok (.istore_n 2, 1) := by decide +kernel
theorem d_R_sums_7 : decode b_R_sums 7 = .ok (.aload_n 0, 1) := by decide +kernel
theorem d_R_sums_8 : decode b_R_sums 8 = .ok (.getfield 54, 3) := by decide +kernel
theorem d_R_sums_11 : decode b_R_sums 11 = .ok (.iload_n 1, 1) := by decide +kernel
theorem d_R_sums_12 : decode b_R_sums 12 = .ok (.iaload, 1) := by decide +kernel
theorem d_R_sums_13 : decode b_R_sums 13 = .ok (.istore_n 3, 1) := by decide +kernel
theorem d_R_sums_14 : decode b_R_sums 14 = .ok (.aload_n 0, 1) := by decide +kernel
theorem d_R_sums_15 : decode b_R_sums 15 = .ok (.aload_n 0, 1) := by decide +kernel
theorem d_R_sums_16 : decode b_R_sums 16 = .ok (.getfield 41, 3) := by decide +kernel
theorem d_R_sums_19 : decode b_R_sums 19 = .ok (.iload_n 2, 1) := by decide +kernel
theorem d_R_sums_20 : decode b_R_sums 20 = .ok (.iaload, 1) := by decide +kernel
theorem d_R_sums_21 : decode b_R_sums 21 = .ok (.iconst 0, 1) := by decide +kernel
theorem d_R_sums_22 : decode b_R_sums 22 = .ok (.iload_n 3, 1) := by decide +kernel
theorem d_R_sums_23 : decode b_R_sums 23 = .ok (.invokevirtual 110, 3) := by decide +kernel
theorem d_R_sums_26 : decode b_R_sums 26 = .ok (.istore 4, 2) := by decide +kernel
theorem d_R_sums_28 : decode b_R_sums 28 = .ok (.iconst 0, 1) := by decide +kernel
theorem d_R_sums_29 : decode b_R_sums 29 = .ok (.istore 5, 2) := by decide +kernel
theorem d_R_sums_31 : decode b_R_sums 31 = .ok (.aload_n 0, 1) := by decide +kernel
theorem d_R_sums_32 : decode b_R_sums 32 = .ok (.getfield 60, 3) := by decide +kernel
theorem d_R_sums_35 : decode b_R_sums 35 = .ok (.iload_n 1, 1) := by decide +kernel
theorem d_R_sums_36 : decode b_R_sums 36 = .ok (.iaload, 1) := by decide +kernel
theorem d_R_sums_37 : decode b_R_sums 37 = .ok (.istore 6, 2) := by decide +kernel
theorem d_R_sums_39 : decode b_R_sums 39 = .ok (.iload 6, 2) := by decide +kernel
theorem d_R_sums_41 : decode b_R_sums 41 = .ok (.aload_n 0, 1) := by decide +kernel
theorem d_R_sums_42 : decode b_R_sums 42 = .ok (.iload_n 1, 1) := by decide +kernel
theorem d_R_sums_43 : decode b_R_sums 43 = .ok (.invokevirtual 96, 3) := by decide +kernel
theorem d_R_sums_46 : decode b_R_sums 46 = .ok (.if_icmp .ge 79, 3) := by decide +kernel
theorem d_R_sums_49 : decode b_R_sums 49 = .ok (.aload_n 0, 1) := by decide +kernel
theorem d_R_sums_50 : decode b_R_sums 50 = .ok (.getfield 47, 3) := by decide +kernel
theorem d_R_sums_53 : decode b_R_sums 53 = .ok (.iload_n 2, 1) := by decide +kernel
theorem d_R_sums_54 : decode b_R_sums 54 = .ok (.baload, 1) := by decide +kernel
theorem d_R_sums_55 : decode b_R_sums 55 = .ok (.ifCond .eq 13, 3) := by decide +kernel
theorem d_R_sums_58 : decode b_R_sums 58 = .ok (.aload_n 0, 1) := by decide +kernel
theorem d_R_sums_59 : decode b_R_sums 59 = .ok (.iconst 0, 1) := by decide +kernel
theorem d_R_sums_60 : decode b_R_sums 60 = .ok (.iload 6, 2) := by decide +kernel
theorem d_R_sums_62 : decode b_R_sums 62 = .ok (.invokevirtual 114, 3) := by decide +kernel
theorem d_R_sums_65 : decode b_R_sums 65 = .ok (.ifCond .eq 7, 3) := by decide +kernel
theorem d_R_sums_68 : decode b_R_sums 68 = .ok (.iconst 1, 1) := by decide +kernel
theorem d_R_sums_69 : decode b_R_sums 69 = .ok (.goto 4, 3) := by decide +kernel
theorem d_R_sums_72 : decode b_R_sums 72 = .ok (.iconst 0, 1) := by decide +kernel
theorem d_R_sums_73 : decode b_R_sums 73 = .ok (.istore 7, 2) := by decide +kernel
theorem d_R_sums_75 : decode b_R_sums 75 = .ok (.iload 4, 2) := by decide +kernel
theorem d_R_sums_77 : decode b_R_sums 77 = .ok (.iload 7, 2) := by decide +kernel
theorem d_R_sums_79 : decode b_R_sums 79 = .ok (.ifCond .eq 19, 3) := by decide +kernel
theorem d_R_sums_82 : decode b_R_sums 82 = .ok (.aload_n 0, 1) := by decide +kernel
theorem d_R_sums_83 : decode b_R_sums 83 = .ok (.aload_n 0, 1) := by decide +kernel
theorem d_R_sums_84 : decode b_R_sums 84 = .ok (.getfield 38, 3) := by decide +kernel
theorem d_R_sums_87 : decode b_R_sums 87 = .ok (.iload_n 2, 1) := by decide +kernel
theorem d_R_sums_88 : decode b_R_sums 88 = .ok (.iaload, 1) := by decide +kernel
theorem d_R_sums_89 : decode b_R_sums 89 = .ok (.iload 6, 2) := by decide +kernel
theorem d_R_sums_91 : decode b_R_sums 91 = .ok (.iload_n 3, 1) := by decide +kernel
theorem d_R_sums_92 : decode b_R_sums 92 = .ok (.invokevirtual 110, 3) := by decide +kernel
theorem d_R_sums_95 : decode b_R_sums 95 = .ok (.goto 4, 3) := by decide +kernel
theorem d_R_sums_98 : decode b_R_sums 98 = .ok (.iconst 0, 1) := by decide +kernel
theorem d_R_sums_99 : decode b_R_sums 99 = .ok (.iadd, 1) := by decide +kernel
theorem d_R_sums_100 : decode b_R_sums 100 = .ok (.istore 4, 2) := by decide +kernel
theorem d_R_sums_102 : decode b_R_sums 102 = .ok (.iload 5, 2) := by decide +kernel
theorem d_R_sums_104 : decode b_R_sums 104 = .ok (.ifCond .ne 8, 3) := by decide +kernel
theorem d_R_sums_107 : decode b_R_sums 107 = .ok (.iload 7, 2) := by decide +kernel
theorem d_R_sums_109 : decode b_R_sums 109 = .ok (.ifCond .eq 7, 3) := by decide +kernel
theorem d_R_sums_112 : decode b_R_sums 112 = .ok (.iconst 1, 1) := by decide +kernel
theorem d_R_sums_113 : decode b_R_sums 113 = .ok (.goto 4, 3) := by decide +kernel
theorem d_R_sums_116 : decode b_R_sums 116 = .ok (.iconst 0, 1) := by decide +kernel
theorem d_R_sums_117 : decode b_R_sums 117 = .ok (.istore 5, 2) := by decide +kernel
theorem d_R_sums_119 : decode b_R_sums 119 = .ok (.iinc 6 1, 3) := by decide +kernel
theorem d_R_sums_122 : decode b_R_sums 122 = .ok (.goto (-83), 3) := by decide +kernel
theorem d_R_sums_125 : decode b_R_sums 125 = .ok (.iload 5, 2) := by decide +kernel
theorem d_R_sums_127 : decode b_R_sums 127 = .ok (.ifCond .eq 17, 3) := by decide +kernel
theorem d_R_sums_130 : decode b_R_sums 130 = .ok (.aload_n 0, 1) := by decide +kernel
theorem d_R_sums_131 : decode b_R_sums 131 = .ok (.aload_n 0, 1) := by decide +kernel
theorem d_R_sums_132 : decode b_R_sums 132 = .ok (.getfield 35, 3) := by decide +kernel
theorem d_R_sums_135 : decode b_R_sums 135 = .ok (.iload_n 2, 1) := by decide +kernel
theorem d_R_sums_136 : decode b_R_sums 136 = .ok (.iaload, 1) := by decide +kernel
theorem d_R_sums_137 : decode b_R_sums 137 = .ok (.iconst 0, 1) := by decide +kernel
theorem d_R_sums_138 : decode b_R_sums 138 = .ok (.iload_n 3, 1) := by decide +kernel
theorem d_R_sums_139 : decode b_R_sums 139 = .ok (.iload 4, 2) := by decide +kernel
theorem d_R_sums_141 : decode b_R_sums 141 = .ok (.invokevirtual 118, 3) := by decide +kernel
theorem d_R_sums_144 : decode b_R_sums 144 = .ok (.return_, 1) := by decide +kernel
theorem d_R_element_0 : decode b_R_element 0 = .ok (.lconst 0, 1) := by decide +kernel
theorem d_R_element_1 : decode b_R_element 1 = .ok (.lstore 4, 2) := by decide +kernel
theorem d_R_element_3 : decode b_R_element 3 = .ok (.iload_n 3, 1) := by decide +kernel
theorem d_R_element_4 : decode b_R_element 4 = .ok (.iconst 1, 1) := by decide +kernel
theorem d_R_element_5 : decode b_R_element 5 = .ok (.isub, 1) := by decide +kernel
theorem d_R_element_6 : decode b_R_element 6 = .ok (.istore 6, 2) := by decide +kernel
theorem d_R_element_8 : decode b_R_element 8 = .ok (.iload 6, 2) := by decide +kernel
theorem d_R_element_10 : decode b_R_element 10 = .ok (.ifCond .lt 39, 3) := by decide +kernel
theorem d_R_element_13 : decode b_R_element 13 = .ok (.lload 4, 2) := by decide +kernel
theorem d_R_element_15 : decode b_R_element 15 = .ok (.ldc2_w 84, 3) := by decide +kernel
theorem d_R_element_18 : decode b_R_element 18 = .ok (.lmul, 1) := by decide +kernel
theorem d_R_element_19 : decode b_R_element 19 = .ok (.aload_n 0, 1) := by decide +kernel
theorem d_R_element_20 : decode b_R_element 20 = .ok (.getfield 26, 3) := by decide +kernel
theorem d_R_element_23 : decode b_R_element 23 = .ok (.bipush 8, 2) := by decide +kernel
theorem d_R_element_25 : decode b_R_element 25 = .ok (.iload_n 1, 1) := by decide +kernel
theorem d_R_element_26 : decode b_R_element 26 = .ok (.imul, 1) := by decide +kernel
theorem d_R_element_27 : decode b_R_element 27 = .ok (.iload_n 2, 1) := by decide +kernel
theorem d_R_element_28 : decode b_R_element 28 = .ok (.iload_n 3, 1) := by decide +kernel
theorem d_R_element_29 : decode b_R_element 29 = .ok (.imul, 1) := by decide +kernel
theorem d_R_element_30 : decode b_R_element 30 = .ok (.iadd, 1) := by decide +kernel
theorem d_R_element_31 : decode b_R_element 31 = .ok (.iload 6, 2) := by decide +kernel
theorem d_R_element_33 : decode b_R_element 33 = .ok (.iadd, 1) := by decide +kernel
theorem d_R_element_34 : decode b_R_element 34 = .ok (.iaload, 1) := by decide +kernel
theorem d_R_element_35 : decode b_R_element 35 = .ok (.sipush 255, 3) := by decide +kernel
theorem d_R_element_38 : decode b_R_element 38 = .ok (.iand, 1) := by decide +kernel
theorem d_R_element_39 : decode b_R_element 39 = .ok (.i2l, 1) := by decide +kernel
theorem d_R_element_40 : decode b_R_element 40 = .ok (.ladd, 1) := by decide +kernel
theorem d_R_element_41 : decode b_R_element 41 = .ok (.lstore 4, 2) := by decide +kernel
theorem d_R_element_43 : decode b_R_element 43 = .ok (.iinc 6 (-1), 3) := by decide +kernel
theorem d_R_element_46 : decode b_R_element 46 = .ok (.goto (-38), 3) := by decide +kernel
theorem d_R_element_49 : decode b_R_element 49 = .ok (.lload 4, 2) := by decide +kernel
theorem d_R_element_51 : decode b_R_element 51 = .ok (.iload_n 3, 1) := by decide +kernel
theorem d_R_element_52 : decode b_R_element 52 = .ok (.invokestatic 86, 3) := by decide +kernel
theorem d_R_element_55 : decode b_R_element 55 = .ok (.ireturn, 1) := by decide +kernel
theorem d_R_signed_0 : decode b_R_signed 0 = .ok (.iload_n 2, 1) := by decide +kernel
theorem d_R_signed_1 : decode b_R_signed 1 = .ok (.iconst 4, 1) := by decide +kernel
theorem d_R_signed_2 : decode b_R_signed 2 = .ok (.if_icmp .ne 8, 3) := by decide +kernel
theorem d_R_signed_5 : decode b_R_signed 5 = .ok (.lload_n 0, 1) := by decide +kernel
theorem d_R_signed_6 : decode b_R_signed 6 = .ok (.l2i, 1) := by decide +kernel
theorem d_R_signed_7 : decode b_R_signed 7 = .ok (.goto 27, 3) := by decide +kernel
theorem d_R_signed_10 : decode b_R_signed 10 = .ok (.iload_n 2, 1) := by decide +kernel
theorem d_R_signed_11 : decode b_R_signed 11 = .ok (.iconst 2, 1) := by decide +kernel
theorem d_R_signed_12 : decode b_R_signed 12 = .ok (.if_icmp .ne 14, 3) := by decide +kernel
theorem d_R_signed_15 : decode b_R_signed 15 = .ok (.lload_n 0, 1) := by decide +kernel
theorem d_R_signed_16 : decode b_R_signed 16 = .ok (.bipush 48, 2) := by decide +kernel
theorem d_R_signed_18 : decode b_R_signed 18 = .ok (.lshl, 1) := by decide +kernel
theorem d_R_signed_19 : decode b_R_signed 19 = .ok (.bipush 48, 2) := by decide +kernel
theorem d_R_signed_21 : decode b_R_signed 21 = .ok (.lshr, 1) := by decide +kernel
theorem d_R_signed_22 : decode b_R_signed 22 = .ok (.l2i, 1) := by decide +kernel
theorem d_R_signed_23 : decode b_R_signed 23 = .ok (.goto 11, 3) := by decide +kernel
theorem d_R_signed_26 : decode b_R_signed 26 = .ok (.lload_n 0, 1) := by decide +kernel
theorem d_R_signed_27 : decode b_R_signed 27 = .ok (.bipush 56, 2) := by decide +kernel
theorem d_R_signed_29 : decode b_R_signed 29 = .ok (.lshl, 1) := by decide +kernel
theorem d_R_signed_30 : decode b_R_signed 30 = .ok (.bipush 56, 2) := by decide +kernel
theorem d_R_signed_32 : decode b_R_signed 32 = .ok (.lshr, 1) := by decide +kernel
theorem d_R_signed_33 : decode b_R_signed 33 = .ok (.l2i, 1) := by decide +kernel
theorem d_R_signed_34 : decode b_R_signed 34 = .ok (.ireturn, 1) := by decide +kernel
theorem d_R_bit_0 : decode b_R_bit 0 = .ok (.aload_n 0, 1) := by decide +kernel
theorem d_R_bit_1 : decode b_R_bit 1 = .ok (.getfield 26, 3) := by decide +kernel
theorem d_R_bit_4 : decode b_R_bit 4 = .ok (.bipush 8, 2) := by decide +kernel
theorem d_R_bit_6 : decode b_R_bit 6 = .ok (.iload_n 1, 1) := by decide +kernel
theorem d_R_bit_7 : decode b_R_bit 7 = .ok (.imul, 1) := by decide +kernel
theorem d_R_bit_8 : decode b_R_bit 8 = .ok (.iload_n 2, 1) := by decide +kernel
theorem d_R_bit_9 : decode b_R_bit 9 = .ok (.bipush 8, 2) := by decide +kernel
theorem d_R_bit_11 : decode b_R_bit 11 = .ok (.idiv, 1) := by decide +kernel
theorem d_R_bit_12 : decode b_R_bit 12 = .ok (.iadd, 1) := by decide +kernel
theorem d_R_bit_13 : decode b_R_bit 13 = .ok (.iaload, 1) := by decide +kernel
theorem d_R_bit_14 : decode b_R_bit 14 = .ok (.iload_n 2, 1) := by decide +kernel
theorem d_R_bit_15 : decode b_R_bit 15 = .ok (.bipush 8, 2) := by decide +kernel
theorem d_R_bit_17 : decode b_R_bit 17 = .ok (.irem, 1) := by decide +kernel
theorem d_R_bit_18 : decode b_R_bit 18 = .ok (.ishr, 1) := by decide +kernel
theorem d_R_bit_19 : decode b_R_bit 19 = .ok (.iconst 1, 1) := by decide +kernel
theorem d_R_bit_20 : decode b_R_bit 20 = .ok (.iand, 1) := by decide +kernel
theorem d_R_bit_21 : decode b_R_bit 21 = .ok (.iconst 1, 1) := by decide +kernel
theorem d_R_bit_22 : decode b_R_bit 22 = .ok (.if_icmp .ne 7, 3) := by decide +kernel
theorem d_R_bit_25 : decode b_R_bit 25 = .ok (.iconst 1, 1) := by decide +kernel
theorem d_R_bit_26 : decode b_R_bit 26 = .ok (.goto 4, 3) := by decide +kernel
theorem d_R_bit_29 : decode b_R_bit 29 = .ok (.iconst 0, 1) := by decide +kernel
theorem d_R_bit_30 : decode b_R_bit 30 = .ok (.ireturn, 1) := by decide +kernel
theorem d_R_set_0 : decode b_R_set 0 = .ok (.iconst 0, 1) := by decide +kernel
theorem d_R_set_1 : decode b_R_set 1 = .ok (.istore 5, 2) := by decide +kernel
theorem d_R_set_3 : decode b_R_set 3 = .ok (.iload 5, 2) := by decide +kernel
theorem d_R_set_5 : decode b_R_set 5 = .ok (.iload_n 3, 1) := by decide +kernel
theorem d_R_set_6 : decode b_R_set 6 = .ok (.if_icmp .ge 39, 3) := by decide +kernel
theorem d_R_set_9 : decode b_R_set 9 = .ok (.aload_n 0, 1) := by decide +kernel
theorem d_R_set_10 : decode b_R_set 10 = .ok (.getfield 26, 3) := by decide +kernel
theorem d_R_set_13 : decode b_R_set 13 = .ok (.bipush 8, 2) := by decide +kernel
theorem d_R_set_15 : decode b_R_set 15 = .ok (.iload_n 1, 1) := by decide +kernel
theorem d_R_set_16 : decode b_R_set 16 = .ok (.imul, 1) := by decide +kernel
theorem d_R_set_17 : decode b_R_set 17 = .ok (.iload_n 2, 1) := by decide +kernel
theorem d_R_set_18 : decode b_R_set 18 = .ok (.iload_n 3, 1) := by decide +kernel
theorem d_R_set_19 : decode b_R_set 19 = .ok (.imul, 1) := by decide +kernel
theorem d_R_set_20 : decode b_R_set 20 = .ok (.iadd, 1) := by decide +kernel
theorem d_R_set_21 : decode b_R_set 21 = .ok (.iload 5, 2) := by decide +kernel
theorem d_R_set_23 : decode b_R_set 23 = .ok (.iadd, 1) := by decide +kernel
theorem d_R_set_24 : decode b_R_set 24 = .ok (.iload 4, 2) := by decide +kernel
theorem d_R_set_26 : decode b_R_set 26 = .ok (.bipush 8, 2) := by decide +kernel
theorem d_R_set_28 : decode b_R_set 28 = .ok (.iload 5, 2) := by decide +kernel
theorem d_R_set_30 : decode b_R_set 30 = .ok (.imul, 1) := by decide +kernel
theorem d_R_set_31 : decode b_R_set 31 = .ok (.ishr, 1) := by decide +kernel
theorem d_R_set_32 : decode b_R_set 32 = .ok (.bipush 24, 2) := by decide +kernel
theorem d_R_set_34 : decode b_R_set 34 = .ok (.ishl, 1) := by decide +kernel
theorem d_R_set_35 : decode b_R_set 35 = .ok (.bipush 24, 2) := by decide +kernel
theorem d_R_set_37 : decode b_R_set 37 = .ok (.ishr, 1) := by decide +kernel
theorem d_R_set_38 : decode b_R_set 38 = .ok (.iastore, 1) := by decide +kernel
theorem d_R_set_39 : decode b_R_set 39 = .ok (.iinc 5 1, 3) := by decide +kernel
theorem d_R_set_42 : decode b_R_set 42 = .ok (.goto (-39), 3) := by decide +kernel
theorem d_R_set_45 : decode b_R_set 45 = .ok (.return_, 1) := by decide +kernel
theorem d_R_pairs_0 : decode b_R_pairs 0 = .ok (.aload_n 0, 1) := by decide +kernel
theorem d_R_pairs_1 : decode b_R_pairs 1 = .ok (.getfield 51, 3) := by decide +kernel
theorem d_R_pairs_4 : decode b_R_pairs 4 = .ok (.iload_n 1, 1) := by decide +kernel
theorem d_R_pairs_5 : decode b_R_pairs 5 = .ok (.iaload, 1) := by decide +kernel
theorem d_R_pairs_6 : decode b_R_pairs 6 = .ok (.istore_n 3, 1) := by decide +kernel
theorem d_R_pairs_7 : decode b_R_pairs 7 = .ok (.aload_n 0, 1) := by decide +kernel
theorem d_R_pairs_8 : decode b_R_pairs 8 = .ok (.getfield 54, 3) := by decide +kernel
theorem d_R_pairs_11 : decode b_R_pairs 11 = .ok (.iload_n 1, 1) := by decide +kernel
theorem d_R_pairs_12 : decode b_R_pairs 12 = .ok (.iaload, 1) := by decide +kernel
theorem d_R_pairs_13 : decode b_R_pairs 13 = .ok (.istore 4, 2) := by decide +kernel
theorem d_R_pairs_15 : decode b_R_pairs 15 = .ok (.aload_n 0, 1) := by decide +kernel
theorem d_R_pairs_16 : decode b_R_pairs 16 = .ok (.aload_n 0, 1) := by decide +kernel
theorem d_R_pairs_17 : decode b_R_pairs 17 = .ok (.getfield 38, 3) := by decide +kernel
theorem d_R_pairs_20 : decode b_R_pairs 20 = .ok (.iload_n 3, 1) := by decide +kernel
theorem d_R_pairs_21 : decode b_R_pairs 21 = .ok (.iaload, 1) := by decide +kernel
theorem d_R_pairs_22 : decode b_R_pairs 22 = .ok (.iload_n 2, 1) := by decide +kernel
theorem d_R_pairs_23 : decode b_R_pairs 23 = .ok (.iload 4, 2) := by decide +kernel
theorem d_R_pairs_25 : decode b_R_pairs 25 = .ok (.invokevirtual 110, 3) := by decide +kernel
theorem d_R_pairs_28 : decode b_R_pairs 28 = .ok (.istore 5, 2) := by decide +kernel
theorem d_R_pairs_30 : decode b_R_pairs 30 = .ok (.aload_n 0, 1) := by decide +kernel
theorem d_R_pairs_31 : decode b_R_pairs 31 = .ok (.getfield 32, 3) := by decide +kernel
theorem d_R_pairs_34 : decode b_R_pairs 34 = .ok (.iload_n 3, 1) := by decide +kernel
theorem d_R_pairs_35 : decode b_R_pairs 35 = .ok (.iaload, 1) := by decide +kernel
theorem d_R_pairs_36 : decode b_R_pairs 36 = .ok (.bipush 11, 2) := by decide +kernel
theorem d_R_pairs_38 : decode b_R_pairs 38 = .ok (.if_icmp .ne 12, 3) := by decide +kernel
theorem d_R_pairs_41 : decode b_R_pairs 41 = .ok (.aload_n 0, 1) := by decide +kernel
theorem d_R_pairs_42 : decode b_R_pairs 42 = .ok (.getfield 75, 3) := by decide +kernel
theorem d_R_pairs_45 : decode b_R_pairs 45 = .ok (.iload_n 1, 1) := by decide +kernel
theorem d_R_pairs_46 : decode b_R_pairs 46 = .ok (.iaload, 1) := by decide +kernel
theorem d_R_pairs_47 : decode b_R_pairs 47 = .ok (.goto 16, 3) := by decide +kernel
theorem d_R_pairs_50 : decode b_R_pairs 50 = .ok (.aload_n 0, 1) := by decide +kernel
theorem d_R_pairs_51 : decode b_R_pairs 51 = .ok (.aload_n 0, 1) := by decide +kernel
theorem d_R_pairs_52 : decode b_R_pairs 52 = .ok (.getfield 41, 3) := by decide +kernel
theorem d_R_pairs_55 : decode b_R_pairs 55 = .ok (.iload_n 3, 1) := by decide +kernel
theorem d_R_pairs_56 : decode b_R_pairs 56 = .ok (.iaload, 1) := by decide +kernel
theorem d_R_pairs_57 : decode b_R_pairs 57 = .ok (.iload_n 2, 1) := by decide +kernel
theorem d_R_pairs_58 : decode b_R_pairs 58 = .ok (.iload 4, 2) := by decide +kernel
theorem d_R_pairs_60 : decode b_R_pairs 60 = .ok (.invokevirtual 110, 3) := by decide +kernel
theorem d_R_pairs_63 : decode b_R_pairs 63 = .ok (.istore 6, 2) := by decide +kernel
theorem d_R_pairs_65 : decode b_R_pairs 65 = .ok (.aload_n 0, 1) := by decide +kernel
theorem d_R_pairs_66 : decode b_R_pairs 66 = .ok (.getfield 32, 3) := by decide +kernel
theorem d_R_pairs_69 : decode b_R_pairs 69 = .ok (.iload_n 3, 1) := by decide +kernel
theorem d_R_pairs_70 : decode b_R_pairs 70 = .ok (.iaload, 1) := by decide +kernel
theorem d_R_pairs_71 : decode b_R_pairs 71 = .ok (.bipush 9, 2) := by decide +kernel
theorem d_R_pairs_73 : decode b_R_pairs 73 = .ok (.if_icmp .ne 11, 3) := by decide +kernel
theorem d_R_pairs_76 : decode b_R_pairs 76 = .ok (.iload 5, 2) := by decide +kernel
theorem d_R_pairs_78 : decode b_R_pairs 78 = .ok (.iload 6, 2) := by decide +kernel
theorem d_R_pairs_80 : decode b_R_pairs 80 = .ok (.isub, 1) := by decide +kernel
theorem d_R_pairs_81 : decode b_R_pairs 81 = .ok (.goto 27, 3) := by decide +kernel
theorem d_R_pairs_84 : decode b_R_pairs 84 = .ok (.aload_n 0, 1) := by decide +kernel
theorem d_R_pairs_85 : decode b_R_pairs 85 = .ok (.getfield 32, 3) := by decide +kernel
theorem d_R_pairs_88 : decode b_R_pairs 88 = .ok (.iload_n 3, 1) := by decide +kernel
theorem d_R_pairs_89 : decode b_R_pairs 89 = .ok (.iaload, 1) := by decide +kernel
theorem d_R_pairs_90 : decode b_R_pairs 90 = .ok (.bipush 10, 2) := by decide +kernel
theorem d_R_pairs_92 : decode b_R_pairs 92 = .ok (.if_icmp .ne 11, 3) := by decide +kernel
theorem d_R_pairs_95 : decode b_R_pairs 95 = .ok (.iload 5, 2) := by decide +kernel
theorem d_R_pairs_97 : decode b_R_pairs 97 = .ok (.iload 6, 2) := by decide +kernel
theorem d_R_pairs_99 : decode b_R_pairs 99 = .ok (.imul, 1) := by decide +kernel
theorem d_R_pairs_100 : decode b_R_pairs 100 = .ok (.goto 8, 3) := by decide +kernel
theorem d_R_pairs_103 : decode b_R_pairs 103 = .ok (.iload 5, 2) := by decide +kernel
theorem d_R_pairs_105 : decode b_R_pairs 105 = .ok (.iload 6, 2) := by decide +kernel
theorem d_R_pairs_107 : decode b_R_pairs 107 = .ok (.iadd, 1) := by decide +kernel
theorem d_R_pairs_108 : decode b_R_pairs 108 = .ok (.ireturn, 1) := by decide +kernel
theorem d_R_moves_0 : decode b_R_moves 0 = .ok (.aload_n 0, 1) := by decide +kernel
theorem d_R_moves_1 : decode b_R_moves 1 = .ok (.getfield 51, 3) := by decide +kernel
theorem d_R_moves_4 : decode b_R_moves 4 = .ok (.iload_n 1, 1) := by decide +kernel
theorem d_R_moves_5 : decode b_R_moves 5 = .ok (.iaload, 1) := by decide +kernel
theorem d_R_moves_6 : decode b_R_moves 6 = .ok (.istore_n 3, 1) := by decide +kernel
theorem d_R_moves_7 : decode b_R_moves 7 = .ok (.aload_n 0, 1) := by decide +kernel
theorem d_R_moves_8 : decode b_R_moves 8 = .ok (.getfield 54, 3) := by decide +kernel
theorem d_R_moves_11 : decode b_R_moves 11 = .ok (.iload_n 1, 1) := by decide +kernel
theorem d_R_moves_12 : decode b_R_moves 12 = .ok (.iaload, 1) := by decide +kernel
theorem d_R_moves_13 : decode b_R_moves 13 = .ok (.istore 4, 2) := by decide +kernel
theorem d_R_moves_15 : decode b_R_moves 15 = .ok (.aload_n 0, 1) := by decide +kernel
theorem d_R_moves_16 : decode b_R_moves 16 = .ok (.iload_n 1, 1) := by decide +kernel
theorem d_R_moves_17 : decode b_R_moves 17 = .ok (.iload_n 2, 1) := by decide +kernel
theorem d_R_moves_18 : decode b_R_moves 18 = .ok (.invokevirtual 125, 3) := by decide +kernel
theorem d_R_moves_21 : decode b_R_moves 21 = .ok (.istore 5, 2) := by decide +kernel
theorem d_R_moves_23 : decode b_R_moves 23 = .ok (.aload_n 0, 1) := by decide +kernel
theorem d_R_moves_24 : decode b_R_moves 24 = .ok (.getfield 32, 3) := by decide +kernel
theorem d_R_moves_27 : decode b_R_moves 27 = .ok (.iload_n 3, 1) := by decide +kernel
theorem d_R_moves_28 : decode b_R_moves 28 = .ok (.iaload, 1) := by decide +kernel
theorem d_R_moves_29 : decode b_R_moves 29 = .ok (.bipush 18, 2) := by decide +kernel
theorem d_R_moves_31 : decode b_R_moves 31 = .ok (.if_icmp .ne 54, 3) := by decide +kernel
theorem d_R_moves_34 : decode b_R_moves 34 = .ok (.iconst 0, 1) := by decide +kernel
theorem d_R_moves_35 : decode b_R_moves 35 = .ok (.istore 6, 2) := by decide +kernel
theorem d_R_moves_37 : decode b_R_moves 37 = .ok (.iload 6, 2) := by decide +kernel
theorem d_R_moves_39 : decode b_R_moves 39 = .ok (.iload 4, 2) := by decide +kernel
theorem d_R_moves_41 : decode b_R_moves 41 = .ok (.if_icmp .ge 41, 3) := by decide +kernel
theorem d_R_moves_44 : decode b_R_moves 44 = .ok (.aload_n 0, 1) := by decide +kernel
theorem d_R_moves_45 : decode b_R_moves 45 = .ok (.getfield 29, 3) := by decide +kernel
theorem d_R_moves_48 : decode b_R_moves 48 = .ok (.iload 5, 2) := by decide +kernel
theorem d_R_moves_50 : decode b_R_moves 50 = .ok (.iload 6, 2) := by decide +kernel
theorem d_R_moves_52 : decode b_R_moves 52 = .ok (.iadd, 1) := by decide +kernel
theorem d_R_moves_53 : decode b_R_moves 53 = .ok (.aload_n 0, 1) := by decide +kernel
theorem d_R_moves_54 : decode b_R_moves 54 = .ok (.getfield 26, 3) := by decide +kernel
theorem d_R_moves_57 : decode b_R_moves 57 = .ok (.bipush 8, 2) := by decide +kernel
theorem d_R_moves_59 : decode b_R_moves 59 = .ok (.aload_n 0, 1) := by decide +kernel
theorem d_R_moves_60 : decode b_R_moves 60 = .ok (.getfield 35, 3) := by decide +kernel
theorem d_R_moves_63 : decode b_R_moves 63 = .ok (.iload_n 3, 1) := by decide +kernel
theorem d_R_moves_64 : decode b_R_moves 64 = .ok (.iaload, 1) := by decide +kernel
theorem d_R_moves_65 : decode b_R_moves 65 = .ok (.imul, 1) := by decide +kernel
theorem d_R_moves_66 : decode b_R_moves 66 = .ok (.iload_n 2, 1) := by decide +kernel
theorem d_R_moves_67 : decode b_R_moves 67 = .ok (.iload 4, 2) := by decide +kernel
theorem d_R_moves_69 : decode b_R_moves 69 = .ok (.imul, 1) := by decide +kernel
theorem d_R_moves_70 : decode b_R_moves 70 = .ok (.iadd, 1) := by decide +kernel
theorem d_R_moves_71 : decode b_R_moves 71 = .ok (.iload 6, 2) := by decide +kernel
theorem d_R_moves_73 : decode b_R_moves 73 = .ok (.iadd, 1) := by decide +kernel
theorem d_R_moves_74 : decode b_R_moves 74 = .ok (.iaload, 1) := by decide +kernel
theorem d_R_moves_75 : decode b_R_moves 75 = .ok (.iastore, 1) := by decide +kernel
theorem d_R_moves_76 : decode b_R_moves 76 = .ok (.iinc 6 1, 3) := by decide +kernel
theorem d_R_moves_79 : decode b_R_moves 79 = .ok (.goto (-42), 3) := by decide +kernel
theorem d_R_moves_82 : decode b_R_moves 82 = .ok (.goto 51, 3) := by decide +kernel
theorem d_R_moves_85 : decode b_R_moves 85 = .ok (.iconst 0, 1) := by decide +kernel
theorem d_R_moves_86 : decode b_R_moves 86 = .ok (.istore 6, 2) := by decide +kernel
theorem d_R_moves_88 : decode b_R_moves 88 = .ok (.iload 6, 2) := by decide +kernel
theorem d_R_moves_90 : decode b_R_moves 90 = .ok (.iload 4, 2) := by decide +kernel
theorem d_R_moves_92 : decode b_R_moves 92 = .ok (.if_icmp .ge 41, 3) := by decide +kernel
theorem d_R_moves_95 : decode b_R_moves 95 = .ok (.aload_n 0, 1) := by decide +kernel
theorem d_R_moves_96 : decode b_R_moves 96 = .ok (.getfield 26, 3) := by decide +kernel
theorem d_R_moves_99 : decode b_R_moves 99 = .ok (.bipush 8, 2) := by decide +kernel
theorem d_R_moves_101 : decode b_R_moves 101 = .ok (.aload_n 0, 1) := by decide +kernel
theorem d_R_moves_102 : decode b_R_moves 102 = .ok (.getfield 35, 3) := by decide +kernel
theorem d_R_moves_105 : decode b_R_moves 105 = .ok (.iload_n 3, 1) := by decide +kernel
theorem d_R_moves_106 : decode b_R_moves 106 = .ok (.iaload, 1) := by decide +kernel
theorem d_R_moves_107 : decode b_R_moves 107 = .ok (.imul, 1) := by decide +kernel
theorem d_R_moves_108 : decode b_R_moves 108 = .ok (.iload_n 2, 1) := by decide +kernel
theorem d_R_moves_109 : decode b_R_moves 109 = .ok (.iload 4, 2) := by decide +kernel
theorem d_R_moves_111 : decode b_R_moves 111 = .ok (.imul, 1) := by decide +kernel
theorem d_R_moves_112 : decode b_R_moves 112 = .ok (.iadd, 1) := by decide +kernel
theorem d_R_moves_113 : decode b_R_moves 113 = .ok (.iload 6, 2) := by decide +kernel
theorem d_R_moves_115 : decode b_R_moves 115 = .ok (.iadd, 1) := by decide +kernel
theorem d_R_moves_116 : decode b_R_moves 116 = .ok (.aload_n 0, 1) := by decide +kernel
theorem d_R_moves_117 : decode b_R_moves 117 = .ok (.getfield 29, 3) := by decide +kernel
theorem d_R_moves_120 : decode b_R_moves 120 = .ok (.iload 5, 2) := by decide +kernel
theorem d_R_moves_122 : decode b_R_moves 122 = .ok (.iload 6, 2) := by decide +kernel
theorem d_R_moves_124 : decode b_R_moves 124 = .ok (.iadd, 1) := by decide +kernel
theorem d_R_moves_125 : decode b_R_moves 125 = .ok (.iaload, 1) := by decide +kernel
theorem d_R_moves_126 : decode b_R_moves 126 = .ok (.iastore, 1) := by decide +kernel
theorem d_R_moves_127 : decode b_R_moves 127 = .ok (.iinc 6 1, 3) := by decide +kernel
theorem d_R_moves_130 : decode b_R_moves 130 = .ok (.goto (-42), 3) := by decide +kernel
theorem d_R_moves_133 : decode b_R_moves 133 = .ok (.return_, 1) := by decide +kernel
theorem d_R_place_0 : decode b_R_place 0 = .ok (.aload_n 0, 1) := by decide +kernel
theorem d_R_place_1 : decode b_R_place 1 = .ok (.getfield 51, 3) := by decide +kernel
theorem d_R_place_4 : decode b_R_place 4 = .ok (.iload_n 1, 1) := by decide +kernel
theorem d_R_place_5 : decode b_R_place 5 = .ok (.iaload, 1) := by decide +kernel
theorem d_R_place_6 : decode b_R_place 6 = .ok (.istore_n 3, 1) := by decide +kernel
theorem d_R_place_7 : decode b_R_place 7 = .ok (.aload_n 0, 1) := by decide +kernel
theorem d_R_place_8 : decode b_R_place 8 = .ok (.getfield 32, 3) := by decide +kernel
theorem d_R_place_11 : decode b_R_place 11 = .ok (.iload_n 3, 1) := by decide +kernel
theorem d_R_place_12 : decode b_R_place 12 = .ok (.iaload, 1) := by decide +kernel
theorem d_R_place_13 : decode b_R_place 13 = .ok (.bipush 19, 2) := by decide +kernel
theorem d_R_place_15 : decode b_R_place 15 = .ok (.if_icmp .ne 40, 3) := by decide +kernel
theorem d_R_place_18 : decode b_R_place 18 = .ok (.aload_n 0, 1) := by decide +kernel
theorem d_R_place_19 : decode b_R_place 19 = .ok (.getfield 72, 3) := by decide +kernel
theorem d_R_place_22 : decode b_R_place 22 = .ok (.iload_n 1, 1) := by decide +kernel
theorem d_R_place_23 : decode b_R_place 23 = .ok (.iaload, 1) := by decide +kernel
theorem d_R_place_24 : decode b_R_place 24 = .ok (.aload_n 0, 1) := by decide +kernel
theorem d_R_place_25 : decode b_R_place 25 = .ok (.aload_n 0, 1) := by decide +kernel
theorem d_R_place_26 : decode b_R_place 26 = .ok (.getfield 41, 3) := by decide +kernel
theorem d_R_place_29 : decode b_R_place 29 = .ok (.iload_n 3, 1) := by decide +kernel
theorem d_R_place_30 : decode b_R_place 30 = .ok (.iaload, 1) := by decide +kernel
theorem d_R_place_31 : decode b_R_place 31 = .ok (.iload_n 2, 1) := by decide +kernel
theorem d_R_place_32 : decode b_R_place 32 = .ok (.aload_n 0, 1) := by decide +kernel
theorem d_R_place_33 : decode b_R_place 33 = .ok (.getfield 54, 3) := by decide +kernel
theorem d_R_place_36 : decode b_R_place 36 = .ok (.iload_n 1, 1) := by decide +kernel
theorem d_R_place_37 : decode b_R_place 37 = .ok (.iaload, 1) := by decide +kernel
theorem d_R_place_38 : decode b_R_place 38 = .ok (.invokevirtual 110, 3) := by decide +kernel
theorem d_R_place_41 : decode b_R_place 41 = .ok (.aload_n 0, 1) := by decide +kernel
theorem d_R_place_42 : decode b_R_place 42 = .ok (.getfield 54, 3) := by decide +kernel
theorem d_R_place_45 : decode b_R_place 45 = .ok (.iload_n 1, 1) := by decide +kernel
theorem d_R_place_46 : decode b_R_place 46 = .ok (.iaload, 1) := by decide +kernel
theorem d_R_place_47 : decode b_R_place 47 = .ok (.invokestatic 122, 3) := by decide +kernel
theorem d_R_place_50 : decode b_R_place 50 = .ok (.l2i, 1) := by decide +kernel
theorem d_R_place_51 : decode b_R_place 51 = .ok (.iadd, 1) := by decide +kernel
theorem d_R_place_52 : decode b_R_place 52 = .ok (.goto 18, 3) := by decide +kernel
theorem d_R_place_55 : decode b_R_place 55 = .ok (.aload_n 0, 1) := by decide +kernel
theorem d_R_place_56 : decode b_R_place 56 = .ok (.getfield 72, 3) := by decide +kernel
theorem d_R_place_59 : decode b_R_place 59 = .ok (.iload_n 1, 1) := by decide +kernel
theorem d_R_place_60 : decode b_R_place 60 = .ok (.iaload, 1) := by decide +kernel
theorem d_R_place_61 : decode b_R_place 61 = .ok (.iload_n 2, 1) := by decide +kernel
theorem d_R_place_62 : decode b_R_place 62 = .ok (.aload_n 0, 1) := by decide +kernel
theorem d_R_place_63 : decode b_R_place 63 = .ok (.getfield 75, 3) := by decide +kernel
theorem d_R_place_66 : decode b_R_place 66 = .ok (.iload_n 1, 1) := by decide +kernel
theorem d_R_place_67 : decode b_R_place 67 = .ok (.iaload, 1) := by decide +kernel
theorem d_R_place_68 : decode b_R_place 68 = .ok (.imul, 1) := by decide +kernel
theorem d_R_place_69 : decode b_R_place 69 = .ok (.iadd, 1) := by decide +kernel
theorem d_R_place_70 : decode b_R_place 70 = .ok (.ireturn, 1) := by decide +kernel
theorem d_R_plain_0 : decode b_R_plain 0 = .ok (.iload_n 1, 1) := by decide +kernel
theorem d_R_plain_1 : decode b_R_plain 1 = .ok (.iconst 4, 1) := by decide +kernel
theorem d_R_plain_2 : decode b_R_plain 2 = .ok (.if_icmp .ne 12, 3) := by decide +kernel
theorem d_R_plain_5 : decode b_R_plain 5 = .ok (.iload_n 0, 1) := by decide +kernel
theorem d_R_plain_6 : decode b_R_plain 6 = .ok (.i2l, 1) := by decide +kernel
theorem d_R_plain_7 : decode b_R_plain 7 = .ok (.ldc2_w 90, 3) := by decide +kernel
theorem d_R_plain_10 : decode b_R_plain 10 = .ok (.land, 1) := by decide +kernel
theorem d_R_plain_11 : decode b_R_plain 11 = .ok (.goto 23, 3) := by decide +kernel
theorem d_R_plain_14 : decode b_R_plain 14 = .ok (.iload_n 1, 1) := by decide +kernel
theorem d_R_plain_15 : decode b_R_plain 15 = .ok (.iconst 2, 1) := by decide +kernel
theorem d_R_plain_16 : decode b_R_plain 16 = .ok (.if_icmp .ne 12, 3) := by decide +kernel
theorem d_R_plain_19 : decode b_R_plain 19 = .ok (.iload_n 0, 1) := by decide +kernel
theorem d_R_plain_20 : decode b_R_plain 20 = .ok (.i2l, 1) := by decide +kernel
theorem d_R_plain_21 : decode b_R_plain 21 = .ok (.ldc2_w 92, 3) := by decide +kernel
theorem d_R_plain_24 : decode b_R_plain 24 = .ok (.land, 1) := by decide +kernel
theorem d_R_plain_25 : decode b_R_plain 25 = .ok (.goto 9, 3) := by decide +kernel
theorem d_R_plain_28 : decode b_R_plain 28 = .ok (.iload_n 0, 1) := by decide +kernel
theorem d_R_plain_29 : decode b_R_plain 29 = .ok (.i2l, 1) := by decide +kernel
theorem d_R_plain_30 : decode b_R_plain 30 = .ok (.ldc2_w 94, 3) := by decide +kernel
theorem d_R_plain_33 : decode b_R_plain 33 = .ok (.land, 1) := by decide +kernel
theorem d_R_plain_34 : decode b_R_plain 34 = .ok (.lreturn, 1) := by decide +kernel
theorem d_R_picks_0 : decode b_R_picks 0 = .ok (.aload_n 0, 1) := by decide +kernel
theorem d_R_picks_1 : decode b_R_picks 1 = .ok (.getfield 51, 3) := by decide +kernel
theorem d_R_picks_4 : decode b_R_picks 4 = .ok (.iload_n 1, 1) := by decide +kernel
theorem d_R_picks_5 : decode b_R_picks 5 = .ok (.iaload, 1) := by decide +kernel
theorem d_R_picks_6 : decode b_R_picks 6 = .ok (.istore_n 3, 1) := by decide +kernel
theorem d_R_picks_7 : decode b_R_picks 7 = .ok (.aload_n 0, 1) := by decide +kernel
theorem d_R_picks_8 : decode b_R_picks 8 = .ok (.getfield 54, 3) := by decide +kernel
theorem d_R_picks_11 : decode b_R_picks 11 = .ok (.iload_n 1, 1) := by decide +kernel
theorem d_R_picks_12 : decode b_R_picks 12 = .ok (.iaload, 1) := by decide +kernel
theorem d_R_picks_13 : decode b_R_picks 13 = .ok (.istore 4, 2) := by decide +kernel
theorem d_R_picks_15 : decode b_R_picks 15 = .ok (.bipush 8, 2) := by decide +kernel
theorem d_R_picks_17 : decode b_R_picks 17 = .ok (.aload_n 0, 1) := by decide +kernel
theorem d_R_picks_18 : decode b_R_picks 18 = .ok (.getfield 57, 3) := by decide +kernel
theorem d_R_picks_21 : decode b_R_picks 21 = .ok (.iload_n 1, 1) := by decide +kernel
theorem d_R_picks_22 : decode b_R_picks 22 = .ok (.iaload, 1) := by decide +kernel
theorem d_R_picks_23 : decode b_R_picks 23 = .ok (.imul, 1) := by decide +kernel
theorem d_R_picks_24 : decode b_R_picks 24 = .ok (.iload 4, 2) := by decide +kernel
theorem d_R_picks_26 : decode b_R_picks 26 = .ok (.idiv, 1) := by decide +kernel
theorem d_R_picks_27 : decode b_R_picks 27 = .ok (.istore 5, 2) := by decide +kernel
theorem d_R_picks_29 : decode b_R_picks 29 = .ok (.aload_n 0, 1) := by decide +kernel
theorem d_R_picks_30 : decode b_R_picks 30 = .ok (.getfield 32, 3) := by decide +kernel
theorem d_R_picks_33 : decode b_R_picks 33 = .ok (.iload_n 3, 1) := by decide +kernel
theorem d_R_picks_34 : decode b_R_picks 34 = .ok (.iaload, 1) := by decide +kernel
theorem d_R_picks_35 : decode b_R_picks 35 = .ok (.bipush 15, 2) := by decide +kernel
theorem d_R_picks_37 : decode b_R_picks 37 = .ok (.if_icmp .ne 15, 3) := by decide +kernel
theorem d_R_picks_40 : decode b_R_picks 40 = .ok (.iload_n 2, 1) := by decide +kernel
theorem d_R_picks_41 : decode b_R_picks 41 = .ok (.aload_n 0, 1) := by decide +kernel
theorem d_R_picks_42 : decode b_R_picks 42 = .ok (.getfield 75, 3) := by decide +kernel
theorem d_R_picks_45 : decode b_R_picks 45 = .ok (.iload_n 1, 1) := by decide +kernel
theorem d_R_picks_46 : decode b_R_picks 46 = .ok (.iaload, 1) := by decide +kernel
theorem d_R_picks_47 : decode b_R_picks 47 = .ok (.iadd, 1) := by decide +kernel
theorem d_R_picks_48 : decode b_R_picks 48 = .ok (.i2l, 1) := by decide +kernel
theorem d_R_picks_49 : decode b_R_picks 49 = .ok (.goto 21, 3) := by decide +kernel
theorem d_R_picks_52 : decode b_R_picks 52 = .ok (.aload_n 0, 1) := by decide +kernel
theorem d_R_picks_53 : decode b_R_picks 53 = .ok (.aload_n 0, 1) := by decide +kernel
theorem d_R_picks_54 : decode b_R_picks 54 = .ok (.getfield 41, 3) := by decide +kernel
theorem d_R_picks_57 : decode b_R_picks 57 = .ok (.iload_n 3, 1) := by decide +kernel
theorem d_R_picks_58 : decode b_R_picks 58 = .ok (.iaload, 1) := by decide +kernel
theorem d_R_picks_59 : decode b_R_picks 59 = .ok (.iload_n 2, 1) := by decide +kernel
theorem d_R_picks_60 : decode b_R_picks 60 = .ok (.iload 4, 2) := by decide +kernel
theorem d_R_picks_62 : decode b_R_picks 62 = .ok (.invokevirtual 110, 3) := by decide +kernel
theorem d_R_picks_65 : decode b_R_picks 65 = .ok (.iload 4, 2) := by decide +kernel
theorem d_R_picks_67 : decode b_R_picks 67 = .ok (.invokestatic 122, 3) := by decide +kernel
theorem d_R_picks_70 : decode b_R_picks 70 = .ok (.lstore 6, 2) := by decide +kernel
theorem d_R_picks_72 : decode b_R_picks 72 = .ok (.lload 6, 2) := by decide +kernel
theorem d_R_picks_74 : decode b_R_picks 74 = .ok (.lconst 0, 1) := by decide +kernel
theorem d_R_picks_75 : decode b_R_picks 75 = .ok (.lcmp, 1) := by decide +kernel
theorem d_R_picks_76 : decode b_R_picks 76 = .ok (.ifCond .lt 12, 3) := by decide +kernel
theorem d_R_picks_79 : decode b_R_picks 79 = .ok (.lload 6, 2) := by decide +kernel
theorem d_R_picks_81 : decode b_R_picks 81 = .ok (.iload 5, 2) := by decide +kernel
theorem d_R_picks_83 : decode b_R_picks 83 = .ok (.i2l, 1) := by decide +kernel
theorem d_R_picks_84 : decode b_R_picks 84 = .ok (.lcmp, 1) := by decide +kernel
theorem d_R_picks_85 : decode b_R_picks 85 = .ok (.ifCond .lt 7, 3) := by decide +kernel
theorem d_R_picks_88 : decode b_R_picks 88 = .ok (.iconst 0, 1) := by decide +kernel
theorem d_R_picks_89 : decode b_R_picks 89 = .ok (.goto 18, 3) := by decide +kernel
theorem d_R_picks_92 : decode b_R_picks 92 = .ok (.aload_n 0, 1) := by decide +kernel
theorem d_R_picks_93 : decode b_R_picks 93 = .ok (.aload_n 0, 1) := by decide +kernel
theorem d_R_picks_94 : decode b_R_picks 94 = .ok (.getfield 38, 3) := by decide +kernel
theorem d_R_picks_97 : decode b_R_picks 97 = .ok (.iload_n 3, 1) := by decide +kernel
theorem d_R_picks_98 : decode b_R_picks 98 = .ok (.iaload, 1) := by decide +kernel
theorem d_R_picks_99 : decode b_R_picks 99 = .ok (.lload 6, 2) := by decide +kernel
theorem d_R_picks_101 : decode b_R_picks 101 = .ok (.l2i, 1) := by decide +kernel
theorem d_R_picks_102 : decode b_R_picks 102 = .ok (.iload 4, 2) := by decide +kernel
theorem d_R_picks_104 : decode b_R_picks 104 = .ok (.invokevirtual 110, 3) := by decide +kernel
theorem d_R_picks_107 : decode b_R_picks 107 = .ok (.ireturn, 1) := by decide +kernel
theorem d_R_leaves_0 : decode b_R_leaves 0 = .ok (.iconst 0, 1) := by decide +kernel
theorem d_R_leaves_1 : decode b_R_leaves 1 = .ok (.istore_n 1, 1) := by decide +kernel
theorem d_R_leaves_2 : decode b_R_leaves 2 = .ok (.iconst 0, 1) := by decide +kernel
theorem d_R_leaves_3 : decode b_R_leaves 3 = .ok (.istore_n 2, 1) := by decide +kernel
theorem d_R_leaves_4 : decode b_R_leaves 4 = .ok (.iload_n 2, 1) := by decide +kernel
theorem d_R_leaves_5 : decode b_R_leaves 5 = .ok (.aload_n 0, 1) := by decide +kernel
theorem d_R_leaves_6 : decode b_R_leaves 6 = .ok (.getfield 146, 3) := by decide +kernel
theorem d_R_leaves_9 : decode b_R_leaves 9 = .ok (.if_icmp .ge 135, 3) := by decide +kernel
theorem d_R_leaves_12 : decode b_R_leaves 12 = .ok (.aload_n 0, 1) := by decide +kernel
theorem d_R_leaves_13 : decode b_R_leaves 13 = .ok (.getfield 66, 3) := by decide +kernel
theorem d_R_leaves_16 : decode b_R_leaves 16 = .ok (.iload_n 2, 1) := by decide +kernel
theorem d_R_leaves_17 : decode b_R_leaves 17 = .ok (.iaload, 1) := by decide +kernel
theorem d_R_leaves_18 : decode b_R_leaves 18 = .ok (.aload_n 0, 1) := by decide +kernel
theorem d_R_leaves_19 : decode b_R_leaves 19 = .ok (.getfield 63, 3) := by decide +kernel
theorem d_R_leaves_22 : decode b_R_leaves 22 = .ok (.iload_n 2, 1) := by decide +kernel
theorem d_R_leaves_23 : decode b_R_leaves 23 = .ok (.iaload, 1) := by decide +kernel
theorem d_R_leaves_24 : decode b_R_leaves 24 = .ok (.if_icmp .ge 114, 3) := by decide +kernel
theorem d_R_leaves_27 : decode b_R_leaves 27 = .ok (.aload_n 0, 1) := by decide +kernel
theorem d_R_leaves_28 : decode b_R_leaves 28 = .ok (.getfield 51, 3) := by decide +kernel
theorem d_R_leaves_31 : decode b_R_leaves 31 = .ok (.iload_n 1, 1) := by decide +kernel
theorem d_R_leaves_32 : decode b_R_leaves 32 = .ok (.aload_n 0, 1) := by decide +kernel
theorem d_R_leaves_33 : decode b_R_leaves 33 = .ok (.getfield 51, 3) := by decide +kernel
theorem d_R_leaves_36 : decode b_R_leaves 36 = .ok (.iload_n 2, 1) := by decide +kernel
theorem d_R_leaves_37 : decode b_R_leaves 37 = .ok (.iaload, 1) := by decide +kernel
theorem d_R_leaves_38 : decode b_R_leaves 38 = .ok (.iastore, 1) := by decide +kernel
theorem d_R_leaves_39 : decode b_R_leaves 39 = .ok (.aload_n 0, 1) := by decide +kernel
theorem d_R_leaves_40 : decode b_R_leaves 40 = .ok (.getfield 54, 3) := by decide +kernel
theorem d_R_leaves_43 : decode b_R_leaves 43 = .ok (.iload_n 1, 1) := by decide +kernel
theorem d_R_leaves_44 : decode b_R_leaves 44 = .ok (.aload_n 0, 1) := by decide +kernel
theorem d_R_leaves_45 : decode b_R_leaves 45 = .ok (.getfield 54, 3) := by decide +kernel
theorem d_R_leaves_48 : decode b_R_leaves 48 = .ok (.iload_n 2, 1) := by decide +kernel
theorem d_R_leaves_49 : decode b_R_leaves 49 = .ok (.iaload, 1) := by decide +kernel
theorem d_R_leaves_50 : decode b_R_leaves 50 = .ok (.iastore, 1) := by decide +kernel
theorem d_R_leaves_51 : decode b_R_leaves 51 = .ok (.aload_n 0, 1) := by decide +kernel
theorem d_R_leaves_52 : decode b_R_leaves 52 = .ok (.getfield 57, 3) := by decide +kernel
theorem d_R_leaves_55 : decode b_R_leaves 55 = .ok (.iload_n 1, 1) := by decide +kernel
theorem d_R_leaves_56 : decode b_R_leaves 56 = .ok (.aload_n 0, 1) := by decide +kernel
theorem d_R_leaves_57 : decode b_R_leaves 57 = .ok (.getfield 57, 3) := by decide +kernel
theorem d_R_leaves_60 : decode b_R_leaves 60 = .ok (.iload_n 2, 1) := by decide +kernel
theorem d_R_leaves_61 : decode b_R_leaves 61 = .ok (.iaload, 1) := by decide +kernel
theorem d_R_leaves_62 : decode b_R_leaves 62 = .ok (.iastore, 1) := by decide +kernel
theorem d_R_leaves_63 : decode b_R_leaves 63 = .ok (.aload_n 0, 1) := by decide +kernel
theorem d_R_leaves_64 : decode b_R_leaves 64 = .ok (.getfield 60, 3) := by decide +kernel
theorem d_R_leaves_67 : decode b_R_leaves 67 = .ok (.iload_n 1, 1) := by decide +kernel
theorem d_R_leaves_68 : decode b_R_leaves 68 = .ok (.aload_n 0, 1) := by decide +kernel
theorem d_R_leaves_69 : decode b_R_leaves 69 = .ok (.getfield 60, 3) := by decide +kernel
theorem d_R_leaves_72 : decode b_R_leaves 72 = .ok (.iload_n 2, 1) := by decide +kernel
theorem d_R_leaves_73 : decode b_R_leaves 73 = .ok (.iaload, 1) := by decide +kernel
theorem d_R_leaves_74 : decode b_R_leaves 74 = .ok (.iastore, 1) := by decide +kernel
theorem d_R_leaves_75 : decode b_R_leaves 75 = .ok (.aload_n 0, 1) := by decide +kernel
theorem d_R_leaves_76 : decode b_R_leaves 76 = .ok (.getfield 63, 3) := by decide +kernel
theorem d_R_leaves_79 : decode b_R_leaves 79 = .ok (.iload_n 1, 1) := by decide +kernel
theorem d_R_leaves_80 : decode b_R_leaves 80 = .ok (.aload_n 0, 1) := by decide +kernel
theorem d_R_leaves_81 : decode b_R_leaves 81 = .ok (.getfield 63, 3) := by decide +kernel
theorem d_R_leaves_84 : decode b_R_leaves 84 = .ok (.iload_n 2, 1) := by decide +kernel
theorem d_R_leaves_85 : decode b_R_leaves 85 = .ok (.iaload, 1) := by decide +kernel
theorem d_R_leaves_86 : decode b_R_leaves 86 = .ok (.iastore, 1) := by decide +kernel
theorem d_R_leaves_87 : decode b_R_leaves 87 = .ok (.aload_n 0, 1) := by decide +kernel
theorem d_R_leaves_88 : decode b_R_leaves 88 = .ok (.getfield 66, 3) := by decide +kernel
theorem d_R_leaves_91 : decode b_R_leaves 91 = .ok (.iload_n 1, 1) := by decide +kernel
theorem d_R_leaves_92 : decode b_R_leaves 92 = .ok (.aload_n 0, 1) := by decide +kernel
theorem d_R_leaves_93 : decode b_R_leaves 93 = .ok (.getfield 66, 3) := by decide +kernel
theorem d_R_leaves_96 : decode b_R_leaves 96 = .ok (.iload_n 2, 1) := by decide +kernel
theorem d_R_leaves_97 : decode b_R_leaves 97 = .ok (.iaload, 1) := by decide +kernel
theorem d_R_leaves_98 : decode b_R_leaves 98 = .ok (.iastore, 1) := by decide +kernel
theorem d_R_leaves_99 : decode b_R_leaves 99 = .ok (.aload_n 0, 1) := by decide +kernel
theorem d_R_leaves_100 : decode b_R_leaves 100 = .ok (.getfield 69, 3) := by decide +kernel
theorem d_R_leaves_103 : decode b_R_leaves 103 = .ok (.iload_n 1, 1) := by decide +kernel
theorem d_R_leaves_104 : decode b_R_leaves 104 = .ok (.aload_n 0, 1) := by decide +kernel
theorem d_R_leaves_105 : decode b_R_leaves 105 = .ok (.getfield 69, 3) := by decide +kernel
theorem d_R_leaves_108 : decode b_R_leaves 108 = .ok (.iload_n 2, 1) := by decide +kernel
theorem d_R_leaves_109 : decode b_R_leaves 109 = .ok (.iaload, 1) := by decide +kernel
theorem d_R_leaves_110 : decode b_R_leaves 110 = .ok (.iastore, 1) := by decide +kernel
theorem d_R_leaves_111 : decode b_R_leaves 111 = .ok (.aload_n 0, 1) := by decide +kernel
theorem d_R_leaves_112 : decode b_R_leaves 112 = .ok (.getfield 72, 3) := by decide +kernel
theorem d_R_leaves_115 : decode b_R_leaves 115 = .ok (.iload_n 1, 1) := by decide +kernel
theorem d_R_leaves_116 : decode b_R_leaves 116 = .ok (.aload_n 0, 1) := by decide +kernel
theorem d_R_leaves_117 : decode b_R_leaves 117 = .ok (.getfield 72, 3) := by decide +kernel
theorem d_R_leaves_120 : decode b_R_leaves 120 = .ok (.iload_n 2, 1) := by decide +kernel
theorem d_R_leaves_121 : decode b_R_leaves 121 = .ok (.iaload, 1) := by decide +kernel
theorem d_R_leaves_122 : decode b_R_leaves 122 = .ok (.iastore, 1) := by decide +kernel
theorem d_R_leaves_123 : decode b_R_leaves 123 = .ok (.aload_n 0, 1) := by decide +kernel
theorem d_R_leaves_124 : decode b_R_leaves 124 = .ok (.getfield 75, 3) := by decide +kernel
theorem d_R_leaves_127 : decode b_R_leaves 127 = .ok (.iload_n 1, 1) := by decide +kernel
theorem d_R_leaves_128 : decode b_R_leaves 128 = .ok (.aload_n 0, 1) := by decide +kernel
theorem d_R_leaves_129 : decode b_R_leaves 129 = .ok (.getfield 75, 3) := by decide +kernel
theorem d_R_leaves_132 : decode b_R_leaves 132 = .ok (.iload_n 2, 1) := by decide +kernel
theorem d_R_leaves_133 : decode b_R_leaves 133 = .ok (.iaload, 1) := by decide +kernel
theorem d_R_leaves_134 : decode b_R_leaves 134 = .ok (.iastore, 1) := by decide +kernel
theorem d_R_leaves_135 : decode b_R_leaves 135 = .ok (.iinc 1 1, 3) := by decide +kernel
theorem d_R_leaves_138 : decode b_R_leaves 138 = .ok (.iinc 2 1, 3) := by decide +kernel
theorem d_R_leaves_141 : decode b_R_leaves 141 = .ok (.goto (-137), 3) := by decide +kernel
theorem d_R_leaves_144 : decode b_R_leaves 144 = .ok (.aload_n 0, 1) := by decide +kernel
theorem d_R_leaves_145 : decode b_R_leaves 145 = .ok (.iload_n 1, 1) := by decide +kernel
theorem d_R_leaves_146 : decode b_R_leaves 146 = .ok (.putfield 146, 3) := by decide +kernel
theorem d_R_leaves_149 : decode b_R_leaves 149 = .ok (.return_, 1) := by decide +kernel
theorem d_R_goesOn_0 : decode b_R_goesOn 0 = .ok (.aload_n 0, 1) := by decide +kernel
theorem d_R_goesOn_1 : decode b_R_goesOn 1 = .ok (.getfield 170, 3) := by decide +kernel
theorem d_R_goesOn_4 : decode b_R_goesOn 4 = .ok (.ifCond .lt 39, 3) := by decide +kernel
theorem d_R_goesOn_7 : decode b_R_goesOn 7 = .ok (.aload_n 0, 1) := by decide +kernel
theorem d_R_goesOn_8 : decode b_R_goesOn 8 = .ok (.getfield 170, 3) := by decide +kernel
theorem d_R_goesOn_11 : decode b_R_goesOn 11 = .ok (.aload_n 0, 1) := by decide +kernel
theorem d_R_goesOn_12 : decode b_R_goesOn 12 = .ok (.getfield 179, 3) := by decide +kernel
theorem d_R_goesOn_15 : decode b_R_goesOn 15 = .ok (.if_icmp .ge 28, 3) := by decide +kernel
theorem d_R_goesOn_18 : decode b_R_goesOn 18 = .ok (.aload_n 0, 1) := by decide +kernel
theorem d_R_goesOn_19 : decode b_R_goesOn 19 = .ok (.getfield 32, 3) := by decide +kernel
theorem d_R_goesOn_22 : decode b_R_goesOn 22 = .ok (.aload_n 0, 1) := by decide +kernel
theorem d_R_goesOn_23 : decode b_R_goesOn 23 = .ok (.getfield 170, 3) := by decide +kernel
theorem d_R_goesOn_26 : decode b_R_goesOn 26 = .ok (.iaload, 1) := by decide +kernel
theorem d_R_goesOn_27 : decode b_R_goesOn 27 = .ok (.bipush 8, 2) := by decide +kernel
theorem d_R_goesOn_29 : decode b_R_goesOn 29 = .ok (.if_icmp .lt 22, 3) := by decide +kernel
theorem d_R_goesOn_32 : decode b_R_goesOn 32 = .ok (.aload_n 0, 1) := by decide +kernel
theorem d_R_goesOn_33 : decode b_R_goesOn 33 = .ok (.aload_n 0, 1) := by decide +kernel
theorem d_R_goesOn_34 : decode b_R_goesOn 34 = .ok (.getfield 170, 3) := by decide +kernel
theorem d_R_goesOn_37 : decode b_R_goesOn 37 = .ok (.invokevirtual 182, 3) := by decide +kernel
theorem d_R_goesOn_40 : decode b_R_goesOn 40 = .ok (.ifCond .eq 11, 3) := by decide +kernel
theorem d_R_goesOn_43 : decode b_R_goesOn 43 = .ok (.aload_n 0, 1) := by decide +kernel
theorem d_R_goesOn_44 : decode b_R_goesOn 44 = .ok (.iconst 3, 1) := by decide +kernel
theorem d_R_goesOn_45 : decode b_R_goesOn 45 = .ok (.putfield 9, 3) := by decide +kernel
theorem d_R_goesOn_48 : decode b_R_goesOn 48 = .ok (.goto 109, 3) := by decide +kernel
theorem d_R_goesOn_51 : decode b_R_goesOn 51 = .ok (.aload_n 0, 1) := by decide +kernel
theorem d_R_goesOn_52 : decode b_R_goesOn 52 = .ok (.getfield 32, 3) := by decide +kernel
theorem d_R_goesOn_55 : decode b_R_goesOn 55 = .ok (.aload_n 0, 1) := by decide +kernel
theorem d_R_goesOn_56 : decode b_R_goesOn 56 = .ok (.getfield 170, 3) := by decide +kernel
theorem d_R_goesOn_59 : decode b_R_goesOn 59 = .ok (.iaload, 1) := by decide +kernel
theorem d_R_goesOn_60 : decode b_R_goesOn 60 = .ok (.iconst 4, 1) := by decide +kernel
theorem d_R_goesOn_61 : decode b_R_goesOn 61 = .ok (.if_icmp .ne 11, 3) := by decide +kernel
theorem d_R_goesOn_64 : decode b_R_goesOn 64 = .ok (.aload_n 0, 1) := by decide +kernel
theorem d_R_goesOn_65 : decode b_R_goesOn 65 = .ok (.iconst 1, 1) := by decide +kernel
theorem d_R_goesOn_66 : decode b_R_goesOn 66 = .ok (.putfield 9, 3) := by decide +kernel
theorem d_R_goesOn_69 : decode b_R_goesOn 69 = .ok (.goto 88, 3) := by decide +kernel
theorem d_R_goesOn_72 : decode b_R_goesOn 72 = .ok (.aload_n 0, 1) := by decide +kernel
theorem d_R_goesOn_73 : decode b_R_goesOn 73 = .ok (.getfield 32, 3) := by decide +kernel
theorem d_R_goesOn_76 : decode b_R_goesOn 76 = .ok (.aload_n 0, 1) := by decide +kernel
theorem d_R_goesOn_77 : decode b_R_goesOn 77 = .ok (.getfield 170, 3) := by decide +kernel
theorem d_R_goesOn_80 : decode b_R_goesOn 80 = .ok (.iaload, 1) := by decide +kernel
theorem d_R_goesOn_81 : decode b_R_goesOn 81 = .ok (.bipush 8, 2) := by decide +kernel
theorem d_R_goesOn_83 : decode b_R_goesOn 83 = .ok (.if_icmp .ge 31, 3) := by decide +kernel
theorem d_R_goesOn_86 : decode b_R_goesOn 86 = .ok (.aload_n 0, 1) := by decide +kernel
theorem d_R_goesOn_87 : decode b_R_goesOn 87 = .ok (.aload_n 0, 1) := by decide +kernel
theorem d_R_goesOn_88 : decode b_R_goesOn 88 = .ok (.getfield 170, 3) := by decide +kernel
theorem d_R_goesOn_91 : decode b_R_goesOn 91 = .ok (.invokevirtual 186, 3) := by decide +kernel
theorem d_R_goesOn_94 : decode b_R_goesOn 94 = .ok (.istore_n 1, 1) := by decide +kernel
theorem d_R_goesOn_95 : decode b_R_goesOn 95 = .ok (.aload_n 0, 1) := by decide +kernel
theorem d_R_goesOn_96 : decode b_R_goesOn 96 = .ok (.iload_n 1, 1) := by decide +kernel
theorem d_R_goesOn_97 : decode b_R_goesOn 97 = .ok (.ifCond .eq 7, 3) := by decide +kernel
theorem d_R_goesOn_100 : decode b_R_goesOn 100 = .ok (.iconst 0, 1) := by decide +kernel
theorem d_R_goesOn_101 : decode b_R_goesOn 101 = .ok (.goto 7, 3) := by decide +kernel
theorem d_R_goesOn_104 : decode b_R_goesOn 104 = .ok (.aload_n 0, 1) := by decide +kernel
theorem d_R_goesOn_105 : decode b_R_goesOn 105 = .ok (.getfield 9, 3) := by decide +kernel
theorem d_R_goesOn_108 : decode b_R_goesOn 108 = .ok (.putfield 9, 3) := by decide +kernel
theorem d_R_goesOn_111 : decode b_R_goesOn 111 = .ok (.goto 46, 3) := by decide +kernel
theorem d_R_goesOn_114 : decode b_R_goesOn 114 = .ok (.aload_n 0, 1) := by decide +kernel
theorem d_R_goesOn_115 : decode b_R_goesOn 115 = .ok (.getfield 146, 3) := by decide +kernel
theorem d_R_goesOn_118 : decode b_R_goesOn 118 = .ok (.iconst 4, 1) := by decide +kernel
theorem d_R_goesOn_119 : decode b_R_goesOn 119 = .ok (.if_icmp .ge 38, 3) := by decide +kernel
theorem d_R_goesOn_122 : decode b_R_goesOn 122 = .ok (.aload_n 0, 1) := by decide +kernel
theorem d_R_goesOn_123 : decode b_R_goesOn 123 = .ok (.getfield 32, 3) := by decide +kernel
theorem d_R_goesOn_126 : decode b_R_goesOn 126 = .ok (.aload_n 0, 1) := by decide +kernel
theorem d_R_goesOn_127 : decode b_R_goesOn 127 = .ok (.getfield 170, 3) := by decide +kernel
theorem d_R_goesOn_130 : decode b_R_goesOn 130 = .ok (.iaload, 1) := by decide +kernel
theorem d_R_goesOn_131 : decode b_R_goesOn 131 = .ok (.invokestatic 149, 3) := by decide +kernel
theorem d_R_goesOn_134 : decode b_R_goesOn 134 = .ok (.iconst 2, 1) := by decide +kernel
theorem d_R_goesOn_135 : decode b_R_goesOn 135 = .ok (.if_icmp .ne 14, 3) := by decide +kernel
theorem d_R_goesOn_138 : decode b_R_goesOn 138 = .ok (.aload_n 0, 1) := by decide +kernel
theorem d_R_goesOn_139 : decode b_R_goesOn 139 = .ok (.aload_n 0, 1) := by decide +kernel
theorem d_R_goesOn_140 : decode b_R_goesOn 140 = .ok (.getfield 170, 3) := by decide +kernel
theorem d_R_goesOn_143 : decode b_R_goesOn 143 = .ok (.invokevirtual 189, 3) := by decide +kernel
theorem d_R_goesOn_146 : decode b_R_goesOn 146 = .ok (.ifCond .ne 11, 3) := by decide +kernel
theorem d_R_goesOn_149 : decode b_R_goesOn 149 = .ok (.aload_n 0, 1) := by decide +kernel
theorem d_R_goesOn_150 : decode b_R_goesOn 150 = .ok (.aload_n 0, 1) := by decide +kernel
theorem d_R_goesOn_151 : decode b_R_goesOn 151 = .ok (.getfield 170, 3) := by decide +kernel
theorem d_R_goesOn_154 : decode b_R_goesOn 154 = .ok (.invokevirtual 192, 3) := by decide +kernel
theorem d_R_goesOn_157 : decode b_R_goesOn 157 = .ok (.return_, 1) := by decide +kernel
theorem d_R_illegal_0 : decode b_R_illegal 0 = .ok (.aload_n 0, 1) := by decide +kernel
theorem d_R_illegal_1 : decode b_R_illegal 1 = .ok (.getfield 32, 3) := by decide +kernel
theorem d_R_illegal_4 : decode b_R_illegal 4 = .ok (.iload_n 1, 1) := by decide +kernel
theorem d_R_illegal_5 : decode b_R_illegal 5 = .ok (.iaload, 1) := by decide +kernel
theorem d_R_illegal_6 : decode b_R_illegal 6 = .ok (.istore_n 2, 1) := by decide +kernel
theorem d_R_illegal_7 : decode b_R_illegal 7 = .ok (.aload_n 0, 1) := by decide +kernel
theorem d_R_illegal_8 : decode b_R_illegal 8 = .ok (.getfield 16, 3) := by decide +kernel
theorem d_R_illegal_11 : decode b_R_illegal 11 = .ok (.istore_n 3, 1) := by decide +kernel
theorem d_R_illegal_12 : decode b_R_illegal 12 = .ok (.iload_n 2, 1) := by decide +kernel
theorem d_R_illegal_13 : decode b_R_illegal 13 = .ok (.bipush 16, 2) := by decide +kernel
theorem d_R_illegal_15 : decode b_R_illegal 15 = .ok (.if_icmp .gt 7, 3) := by decide +kernel
theorem d_R_illegal_18 : decode b_R_illegal 18 = .ok (.iconst 1, 1) := by decide +kernel
theorem d_R_illegal_19 : decode b_R_illegal 19 = .ok (.goto 4, 3) := by decide +kernel
theorem d_R_illegal_22 : decode b_R_illegal 22 = .ok (.iconst 0, 1) := by decide +kernel
theorem d_R_illegal_23 : decode b_R_illegal 23 = .ok (.istore 4, 2) := by decide +kernel
theorem d_R_illegal_25 : decode b_R_illegal 25 = .ok (.iload_n 2, 1) := by decide +kernel
theorem d_R_illegal_26 : decode b_R_illegal 26 = .ok (.bipush 10, 2) := by decide +kernel
theorem d_R_illegal_28 : decode b_R_illegal 28 = .ok (.if_icmp .le 27, 3) := by decide +kernel
theorem d_R_illegal_31 : decode b_R_illegal 31 = .ok (.iload_n 2, 1) := by decide +kernel
theorem d_R_illegal_32 : decode b_R_illegal 32 = .ok (.bipush 12, 2) := by decide +kernel
theorem d_R_illegal_34 : decode b_R_illegal 34 = .ok (.if_icmp .eq 21, 3) := by decide +kernel
theorem d_R_illegal_37 : decode b_R_illegal 37 = .ok (.iload_n 2, 1) := by decide +kernel
theorem d_R_illegal_38 : decode b_R_illegal 38 = .ok (.bipush 13, 2) := by decide +kernel
theorem d_R_illegal_40 : decode b_R_illegal 40 = .ok (.if_icmp .eq 15, 3) := by decide +kernel
theorem d_R_illegal_43 : decode b_R_illegal 43 = .ok (.iload_n 2, 1) := by decide +kernel
theorem d_R_illegal_44 : decode b_R_illegal 44 = .ok (.bipush 16, 2) := by decide +kernel
theorem d_R_illegal_46 : decode b_R_illegal 46 = .ok (.if_icmp .eq 9, 3) := by decide +kernel
theorem d_R_illegal_49 : decode b_R_illegal 49 = .ok (.iload_n 2, 1) := by decide +kernel
theorem d_R_illegal_50 : decode b_R_illegal 50 = .ok (.bipush 19, 2) := by decide +kernel
theorem d_R_illegal_52 : decode b_R_illegal 52 = .ok (.if_icmp .ne 7, 3) := by decide +kernel
theorem d_R_illegal_55 : decode b_R_illegal 55 = .ok (.iconst 1, 1) := by decide +kernel
theorem d_R_illegal_56 : decode b_R_illegal 56 = .ok (.goto 4, 3) := by decide +kernel
theorem d_R_illegal_59 : decode b_R_illegal 59 = .ok (.iconst 0, 1) := by decide +kernel
theorem d_R_illegal_60 : decode b_R_illegal 60 = .ok (.istore 5, 2) := by decide +kernel
theorem d_R_illegal_62 : decode b_R_illegal 62 = .ok (.iload_n 2, 1) := by decide +kernel
theorem d_R_illegal_63 : decode b_R_illegal 63 = .ok (.bipush 12, 2) := by decide +kernel
theorem d_R_illegal_65 : decode b_R_illegal 65 = .ok (.if_icmp .eq 13, 3) := by decide +kernel
theorem d_R_illegal_68 : decode b_R_illegal 68 = .ok (.iload_n 2, 1) := by decide +kernel
theorem d_R_illegal_69 : decode b_R_illegal 69 = .ok (.bipush 14, 2) := by decide +kernel
theorem d_R_illegal_71 : decode b_R_illegal 71 = .ok (.if_icmp .eq 7, 3) := by decide +kernel
theorem d_R_illegal_74 : decode b_R_illegal 74 = .ok (.iconst 1, 1) := by decide +kernel
theorem d_R_illegal_75 : decode b_R_illegal 75 = .ok (.goto 4, 3) := by decide +kernel
theorem d_R_illegal_78 : decode b_R_illegal 78 = .ok (.iconst 0, 1) := by decide +kernel
theorem d_R_illegal_79 : decode b_R_illegal 79 = .ok (.istore 6, 2) := by decide +kernel
theorem d_R_illegal_81 : decode b_R_illegal 81 = .ok (.iload 4, 2) := by decide +kernel
theorem d_R_illegal_83 : decode b_R_illegal 83 = .ok (.ifCond .eq 17, 3) := by decide +kernel
theorem d_R_illegal_86 : decode b_R_illegal 86 = .ok (.aload_n 0, 1) := by decide +kernel
theorem d_R_illegal_87 : decode b_R_illegal 87 = .ok (.aload_n 0, 1) := by decide +kernel
theorem d_R_illegal_88 : decode b_R_illegal 88 = .ok (.getfield 38, 3) := by decide +kernel
theorem d_R_illegal_91 : decode b_R_illegal 91 = .ok (.iload_n 1, 1) := by decide +kernel
theorem d_R_illegal_92 : decode b_R_illegal 92 = .ok (.iaload, 1) := by decide +kernel
theorem d_R_illegal_93 : decode b_R_illegal 93 = .ok (.iload_n 3, 1) := by decide +kernel
theorem d_R_illegal_94 : decode b_R_illegal 94 = .ok (.invokevirtual 158, 3) := by decide +kernel
theorem d_R_illegal_97 : decode b_R_illegal 97 = .ok (.ifCond .ne 53, 3) := by decide +kernel
theorem d_R_illegal_100 : decode b_R_illegal 100 = .ok (.iload 5, 2) := by decide +kernel
theorem d_R_illegal_102 : decode b_R_illegal 102 = .ok (.ifCond .eq 17, 3) := by decide +kernel
theorem d_R_illegal_105 : decode b_R_illegal 105 = .ok (.aload_n 0, 1) := by decide +kernel
theorem d_R_illegal_106 : decode b_R_illegal 106 = .ok (.aload_n 0, 1) := by decide +kernel
theorem d_R_illegal_107 : decode b_R_illegal 107 = .ok (.getfield 41, 3) := by decide +kernel
theorem d_R_illegal_110 : decode b_R_illegal 110 = .ok (.iload_n 1, 1) := by decide +kernel
theorem d_R_illegal_111 : decode b_R_illegal 111 = .ok (.iaload, 1) := by decide +kernel
theorem d_R_illegal_112 : decode b_R_illegal 112 = .ok (.iload_n 3, 1) := by decide +kernel
theorem d_R_illegal_113 : decode b_R_illegal 113 = .ok (.invokevirtual 158, 3) := by decide +kernel
theorem d_R_illegal_116 : decode b_R_illegal 116 = .ok (.ifCond .ne 34, 3) := by decide +kernel
theorem d_R_illegal_119 : decode b_R_illegal 119 = .ok (.iload 6, 2) := by decide +kernel
theorem d_R_illegal_121 : decode b_R_illegal 121 = .ok (.ifCond .eq 31, 3) := by decide +kernel
theorem d_R_illegal_124 : decode b_R_illegal 124 = .ok (.aload_n 0, 1) := by decide +kernel
theorem d_R_illegal_125 : decode b_R_illegal 125 = .ok (.aload_n 0, 1) := by decide +kernel
theorem d_R_illegal_126 : decode b_R_illegal 126 = .ok (.getfield 35, 3) := by decide +kernel
theorem d_R_illegal_129 : decode b_R_illegal 129 = .ok (.iload_n 1, 1) := by decide +kernel
theorem d_R_illegal_130 : decode b_R_illegal 130 = .ok (.iaload, 1) := by decide +kernel
theorem d_R_illegal_131 : decode b_R_illegal 131 = .ok (.iload_n 2, 1) := by decide +kernel
theorem d_R_illegal_132 : decode b_R_illegal 132 = .ok (.bipush 13, 2) := by decide +kernel
theorem d_R_illegal_134 : decode b_R_illegal 134 = .ok (.if_icmp .ne 9, 3) := by decide +kernel
theorem d_R_illegal_137 : decode b_R_illegal 137 = .ok (.iconst 2, 1) := by decide +kernel
theorem d_R_illegal_138 : decode b_R_illegal 138 = .ok (.iload_n 3, 1) := by decide +kernel
theorem d_R_illegal_139 : decode b_R_illegal 139 = .ok (.imul, 1) := by decide +kernel
theorem d_R_illegal_140 : decode b_R_illegal 140 = .ok (.goto 4, 3) := by decide +kernel
theorem d_R_illegal_143 : decode b_R_illegal 143 = .ok (.iload_n 3, 1) := by decide +kernel
theorem d_R_illegal_144 : decode b_R_illegal 144 = .ok (.invokevirtual 158, 3) := by decide +kernel
theorem d_R_illegal_147 : decode b_R_illegal 147 = .ok (.ifCond .eq 5, 3) := by decide +kernel
theorem d_R_illegal_150 : decode b_R_illegal 150 = .ok (.iconst 1, 1) := by decide +kernel
theorem d_R_illegal_151 : decode b_R_illegal 151 = .ok (.ireturn, 1) := by decide +kernel
theorem d_R_illegal_152 : decode b_R_illegal 152 = .ok (.iload_n 2, 1) := by decide +kernel
theorem d_R_illegal_153 : decode b_R_illegal 153 = .ok (.bipush 13, 2) := by decide +kernel
theorem d_R_illegal_155 : decode b_R_illegal 155 = .ok (.if_icmp .ne 86, 3) := by decide +kernel
theorem d_R_illegal_158 : decode b_R_illegal 158 = .ok (.aload_n 0, 1) := by decide +kernel
theorem d_R_illegal_159 : decode b_R_illegal 159 = .ok (.getfield 13, 3) := by decide +kernel
theorem d_R_illegal_162 : decode b_R_illegal 162 = .ok (.iconst 4, 1) := by decide +kernel
theorem d_R_illegal_163 : decode b_R_illegal 163 = .ok (.if_icmp .eq 76, 3) := by decide +kernel
theorem d_R_illegal_166 : decode b_R_illegal 166 = .ok (.iload_n 3, 1) := by decide +kernel
theorem d_R_illegal_167 : decode b_R_illegal 167 = .ok (.iconst 4, 1) := by decide +kernel
theorem d_R_illegal_168 : decode b_R_illegal 168 = .ok (.if_icmp .eq 71, 3) := by decide +kernel
theorem d_R_illegal_171 : decode b_R_illegal 171 = .ok (.aload_n 0, 1) := by decide +kernel
theorem d_R_illegal_172 : decode b_R_illegal 172 = .ok (.getfield 38, 3) := by decide +kernel
theorem d_R_illegal_175 : decode b_R_illegal 175 = .ok (.iload_n 1, 1) := by decide +kernel
theorem d_R_illegal_176 : decode b_R_illegal 176 = .ok (.iaload, 1) := by decide +kernel
theorem d_R_illegal_177 : decode b_R_illegal 177 = .ok (.aload_n 0, 1) := by decide +kernel
theorem d_R_illegal_178 : decode b_R_illegal 178 = .ok (.getfield 35, 3) := by decide +kernel
theorem d_R_illegal_181 : decode b_R_illegal 181 = .ok (.iload_n 1, 1) := by decide +kernel
theorem d_R_illegal_182 : decode b_R_illegal 182 = .ok (.iaload, 1) := by decide +kernel
theorem d_R_illegal_183 : decode b_R_illegal 183 = .ok (.if_icmp .lt 22, 3) := by decide +kernel
theorem d_R_illegal_186 : decode b_R_illegal 186 = .ok (.aload_n 0, 1) := by decide +kernel
theorem d_R_illegal_187 : decode b_R_illegal 187 = .ok (.getfield 38, 3) := by decide +kernel
theorem d_R_illegal_190 : decode b_R_illegal 190 = .ok (.iload_n 1, 1) := by decide +kernel
theorem d_R_illegal_191 : decode b_R_illegal 191 = .ok (.iaload, 1) := by decide +kernel
theorem d_R_illegal_192 : decode b_R_illegal 192 = .ok (.aload_n 0, 1) := by decide +kernel
theorem d_R_illegal_193 : decode b_R_illegal 193 = .ok (.getfield 35, 3) := by decide +kernel
theorem d_R_illegal_196 : decode b_R_illegal 196 = .ok (.iload_n 1, 1) := by decide +kernel
theorem d_R_illegal_197 : decode b_R_illegal 197 = .ok (.iaload, 1) := by decide +kernel
theorem d_R_illegal_198 : decode b_R_illegal 198 = .ok (.iconst 2, 1) := by decide +kernel
theorem d_R_illegal_199 : decode b_R_illegal 199 = .ok (.iload_n 3, 1) := by decide +kernel
theorem d_R_illegal_200 : decode b_R_illegal 200 = .ok (.imul, 1) := by decide +kernel
theorem d_R_illegal_201 : decode b_R_illegal 201 = .ok (.iadd, 1) := by decide +kernel
theorem d_R_illegal_202 : decode b_R_illegal 202 = .ok (.if_icmp .lt 37, 3) := by decide +kernel
theorem d_R_illegal_205 : decode b_R_illegal 205 = .ok (.aload_n 0, 1) := by decide +kernel
theorem d_R_illegal_206 : decode b_R_illegal 206 = .ok (.getfield 41, 3) := by decide +kernel
theorem d_R_illegal_209 : decode b_R_illegal 209 = .ok (.iload_n 1, 1) := by decide +kernel
theorem d_R_illegal_210 : decode b_R_illegal 210 = .ok (.iaload, 1) := by decide +kernel
theorem d_R_illegal_211 : decode b_R_illegal 211 = .ok (.aload_n 0, 1) := by decide +kernel
theorem d_R_illegal_212 : decode b_R_illegal 212 = .ok (.getfield 35, 3) := by decide +kernel
theorem d_R_illegal_215 : decode b_R_illegal 215 = .ok (.iload_n 1, 1) := by decide +kernel
theorem d_R_illegal_216 : decode b_R_illegal 216 = .ok (.iaload, 1) := by decide +kernel
theorem d_R_illegal_217 : decode b_R_illegal 217 = .ok (.if_icmp .lt 24, 3) := by decide +kernel
theorem d_R_illegal_220 : decode b_R_illegal 220 = .ok (.aload_n 0, 1) := by decide +kernel
theorem d_R_illegal_221 : decode b_R_illegal 221 = .ok (.getfield 41, 3) := by decide +kernel
theorem d_R_illegal_224 : decode b_R_illegal 224 = .ok (.iload_n 1, 1) := by decide +kernel
theorem d_R_illegal_225 : decode b_R_illegal 225 = .ok (.iaload, 1) := by decide +kernel
theorem d_R_illegal_226 : decode b_R_illegal 226 = .ok (.aload_n 0, 1) := by decide +kernel
theorem d_R_illegal_227 : decode b_R_illegal 227 = .ok (.getfield 35, 3) := by decide +kernel
theorem d_R_illegal_230 : decode b_R_illegal 230 = .ok (.iload_n 1, 1) := by decide +kernel
theorem d_R_illegal_231 : decode b_R_illegal 231 = .ok (.iaload, 1) := by decide +kernel
theorem d_R_illegal_232 : decode b_R_illegal 232 = .ok (.iconst 2, 1) := by decide +kernel
theorem d_R_illegal_233 : decode b_R_illegal 233 = .ok (.iload_n 3, 1) := by decide +kernel
theorem d_R_illegal_234 : decode b_R_illegal 234 = .ok (.imul, 1) := by decide +kernel
theorem d_R_illegal_235 : decode b_R_illegal 235 = .ok (.iadd, 1) := by decide +kernel
theorem d_R_illegal_236 : decode b_R_illegal 236 = .ok (.if_icmp .ge 5, 3) := by decide +kernel
theorem d_R_illegal_239 : decode b_R_illegal 239 = .ok (.iconst 1, 1) := by decide +kernel
theorem d_R_illegal_240 : decode b_R_illegal 240 = .ok (.ireturn, 1) := by decide +kernel
theorem d_R_illegal_241 : decode b_R_illegal 241 = .ok (.aload_n 0, 1) := by decide +kernel
theorem d_R_illegal_242 : decode b_R_illegal 242 = .ok (.getfield 47, 3) := by decide +kernel
theorem d_R_illegal_245 : decode b_R_illegal 245 = .ok (.iload_n 1, 1) := by decide +kernel
theorem d_R_illegal_246 : decode b_R_illegal 246 = .ok (.baload, 1) := by decide +kernel
theorem d_R_illegal_247 : decode b_R_illegal 247 = .ok (.ifCond .eq 26, 3) := by decide +kernel
theorem d_R_illegal_250 : decode b_R_illegal 250 = .ok (.iload_n 2, 1) := by decide +kernel
theorem d_R_illegal_251 : decode b_R_illegal 251 = .ok (.bipush 12, 2) := by decide +kernel
theorem d_R_illegal_253 : decode b_R_illegal 253 = .ok (.if_icmp .eq 20, 3) := by decide +kernel
theorem d_R_illegal_256 : decode b_R_illegal 256 = .ok (.iload_n 2, 1) := by decide +kernel
theorem d_R_illegal_257 : decode b_R_illegal 257 = .ok (.bipush 18, 2) := by decide +kernel
theorem d_R_illegal_259 : decode b_R_illegal 259 = .ok (.if_icmp .eq 14, 3) := by decide +kernel
theorem d_R_illegal_262 : decode b_R_illegal 262 = .ok (.aload_n 0, 1) := by decide +kernel
theorem d_R_illegal_263 : decode b_R_illegal 263 = .ok (.getfield 35, 3) := by decide +kernel
theorem d_R_illegal_266 : decode b_R_illegal 266 = .ok (.iload_n 1, 1) := by decide +kernel
theorem d_R_illegal_267 : decode b_R_illegal 267 = .ok (.iaload, 1) := by decide +kernel
theorem d_R_illegal_268 : decode b_R_illegal 268 = .ok (.ifCond .ne 5, 3) := by decide +kernel
theorem d_R_illegal_271 : decode b_R_illegal 271 = .ok (.iconst 1, 1) := by decide +kernel
theorem d_R_illegal_272 : decode b_R_illegal 272 = .ok (.ireturn, 1) := by decide +kernel
theorem d_R_illegal_273 : decode b_R_illegal 273 = .ok (.iload_n 2, 1) := by decide +kernel
theorem d_R_illegal_274 : decode b_R_illegal 274 = .ok (.bipush 15, 2) := by decide +kernel
theorem d_R_illegal_276 : decode b_R_illegal 276 = .ok (.if_icmp .eq 9, 3) := by decide +kernel
theorem d_R_illegal_279 : decode b_R_illegal 279 = .ok (.iload_n 2, 1) := by decide +kernel
theorem d_R_illegal_280 : decode b_R_illegal 280 = .ok (.bipush 16, 2) := by decide +kernel
theorem d_R_illegal_282 : decode b_R_illegal 282 = .ok (.if_icmp .ne 18, 3) := by decide +kernel
theorem d_R_illegal_285 : decode b_R_illegal 285 = .ok (.aload_n 0, 1) := by decide +kernel
theorem d_R_illegal_286 : decode b_R_illegal 286 = .ok (.getfield 35, 3) := by decide +kernel
theorem d_R_illegal_289 : decode b_R_illegal 289 = .ok (.iload_n 1, 1) := by decide +kernel
theorem d_R_illegal_290 : decode b_R_illegal 290 = .ok (.iaload, 1) := by decide +kernel
theorem d_R_illegal_291 : decode b_R_illegal 291 = .ok (.aload_n 0, 1) := by decide +kernel
theorem d_R_illegal_292 : decode b_R_illegal 292 = .ok (.getfield 38, 3) := by decide +kernel
theorem d_R_illegal_295 : decode b_R_illegal 295 = .ok (.iload_n 1, 1) := by decide +kernel
theorem d_R_illegal_296 : decode b_R_illegal 296 = .ok (.iaload, 1) := by decide +kernel
theorem d_R_illegal_297 : decode b_R_illegal 297 = .ok (.if_icmp .eq 24, 3) := by decide +kernel
theorem d_R_illegal_300 : decode b_R_illegal 300 = .ok (.iload_n 2, 1) := by decide +kernel
theorem d_R_illegal_301 : decode b_R_illegal 301 = .ok (.bipush 16, 2) := by decide +kernel
theorem d_R_illegal_303 : decode b_R_illegal 303 = .ok (.if_icmp .ne 22, 3) := by decide +kernel
theorem d_R_illegal_306 : decode b_R_illegal 306 = .ok (.aload_n 0, 1) := by decide +kernel
theorem d_R_illegal_307 : decode b_R_illegal 307 = .ok (.getfield 35, 3) := by decide +kernel
theorem d_R_illegal_310 : decode b_R_illegal 310 = .ok (.iload_n 1, 1) := by decide +kernel
theorem d_R_illegal_311 : decode b_R_illegal 311 = .ok (.iaload, 1) := by decide +kernel
theorem d_R_illegal_312 : decode b_R_illegal 312 = .ok (.aload_n 0, 1) := by decide +kernel
theorem d_R_illegal_313 : decode b_R_illegal 313 = .ok (.getfield 41, 3) := by decide +kernel
theorem d_R_illegal_316 : decode b_R_illegal 316 = .ok (.iload_n 1, 1) := by decide +kernel
theorem d_R_illegal_317 : decode b_R_illegal 317 = .ok (.iaload, 1) := by decide +kernel
theorem d_R_illegal_318 : decode b_R_illegal 318 = .ok (.if_icmp .ne 7, 3) := by decide +kernel
theorem d_R_illegal_321 : decode b_R_illegal 321 = .ok (.iconst 1, 1) := by decide +kernel
theorem d_R_illegal_322 : decode b_R_illegal 322 = .ok (.goto 4, 3) := by decide +kernel
theorem d_R_illegal_325 : decode b_R_illegal 325 = .ok (.iconst 0, 1) := by decide +kernel
theorem d_R_illegal_326 : decode b_R_illegal 326 = .ok (.ireturn, 1) := by decide +kernel
theorem d_R_odd_0 : decode b_R_odd 0 = .ok (.iload_n 1, 1) := by decide +kernel
theorem d_R_odd_1 : decode b_R_odd 1 = .ok (.iload_n 2, 1) := by decide +kernel
theorem d_R_odd_2 : decode b_R_odd 2 = .ok (.irem, 1) := by decide +kernel
theorem d_R_odd_3 : decode b_R_odd 3 = .ok (.ifCond .eq 7, 3) := by decide +kernel
theorem d_R_odd_6 : decode b_R_odd 6 = .ok (.iconst 1, 1) := by decide +kernel
theorem d_R_odd_7 : decode b_R_odd 7 = .ok (.goto 4, 3) := by decide +kernel
theorem d_R_odd_10 : decode b_R_odd 10 = .ok (.iconst 0, 1) := by decide +kernel
theorem d_R_odd_11 : decode b_R_odd 11 = .ok (.ireturn, 1) := by decide +kernel
theorem d_R_scalarDone_0 : decode b_R_scalarDone 0 = .ok (.aload_n 0, 1) := by decide +kernel
theorem d_R_scalarDone_1 : decode b_R_scalarDone 1 = .ok (.getfield 32, 3) := by decide +kernel
theorem d_R_scalarDone_4 : decode b_R_scalarDone 4 = .ok (.iload_n 1, 1) := by decide +kernel
theorem d_R_scalarDone_5 : decode b_R_scalarDone 5 = .ok (.iaload, 1) := by decide +kernel
theorem d_R_scalarDone_6 : decode b_R_scalarDone 6 = .ok (.istore_n 2, 1) := by decide +kernel
theorem d_R_scalarDone_7 : decode b_R_scalarDone 7 = .ok (.iload_n 2, 1) := by decide +kernel
theorem d_R_scalarDone_8 : decode b_R_scalarDone 8 = .ok (.iconst 5, 1) := by decide +kernel
theorem d_R_scalarDone_9 : decode b_R_scalarDone 9 = .ok (.if_icmp .eq 15, 3) := by decide +kernel
theorem d_R_scalarDone_12 : decode b_R_scalarDone 12 = .ok (.iload_n 2, 1) := by decide +kernel
theorem d_R_scalarDone_13 : decode b_R_scalarDone 13 = .ok (.bipush 6, 2) := by decide +kernel
theorem d_R_scalarDone_15 : decode b_R_scalarDone 15 = .ok (.if_icmp .eq 9, 3) := by decide +kernel
theorem d_R_scalarDone_18 : decode b_R_scalarDone 18 = .ok (.iload_n 2, 1) := by decide +kernel
theorem d_R_scalarDone_19 : decode b_R_scalarDone 19 = .ok (.bipush 7, 2) := by decide +kernel
theorem d_R_scalarDone_21 : decode b_R_scalarDone 21 = .ok (.if_icmp .ne 12, 3) := by decide +kernel
theorem d_R_scalarDone_24 : decode b_R_scalarDone 24 = .ok (.aload_n 0, 1) := by decide +kernel
theorem d_R_scalarDone_25 : decode b_R_scalarDone 25 = .ok (.getfield 146, 3) := by decide +kernel
theorem d_R_scalarDone_28 : decode b_R_scalarDone 28 = .ok (.ifCond .le 5, 3) := by decide +kernel
theorem d_R_scalarDone_31 : decode b_R_scalarDone 31 = .ok (.iconst 0, 1) := by decide +kernel
theorem d_R_scalarDone_32 : decode b_R_scalarDone 32 = .ok (.ireturn, 1) := by decide +kernel
theorem d_R_scalarDone_33 : decode b_R_scalarDone 33 = .ok (.aload_n 0, 1) := by decide +kernel
theorem d_R_scalarDone_34 : decode b_R_scalarDone 34 = .ok (.dup, 1) := by decide +kernel
theorem d_R_scalarDone_35 : decode b_R_scalarDone 35 = .ok (.getfield 170, 3) := by decide +kernel
theorem d_R_scalarDone_38 : decode b_R_scalarDone 38 = .ok (.iconst 1, 1) := by decide +kernel
theorem d_R_scalarDone_39 : decode b_R_scalarDone 39 = .ok (.iadd, 1) := by decide +kernel
theorem d_R_scalarDone_40 : decode b_R_scalarDone 40 = .ok (.putfield 170, 3) := by decide +kernel
theorem d_R_scalarDone_43 : decode b_R_scalarDone 43 = .ok (.iload_n 2, 1) := by decide +kernel
theorem d_R_scalarDone_44 : decode b_R_scalarDone 44 = .ok (.ifCond .ne 22, 3) := by decide +kernel
theorem d_R_scalarDone_47 : decode b_R_scalarDone 47 = .ok (.aload_n 0, 1) := by decide +kernel
theorem d_R_scalarDone_48 : decode b_R_scalarDone 48 = .ok (.aload_n 0, 1) := by decide +kernel
theorem d_R_scalarDone_49 : decode b_R_scalarDone 49 = .ok (.getfield 35, 3) := by decide +kernel
theorem d_R_scalarDone_52 : decode b_R_scalarDone 52 = .ok (.iload_n 1, 1) := by decide +kernel
theorem d_R_scalarDone_53 : decode b_R_scalarDone 53 = .ok (.iaload, 1) := by decide +kernel
theorem d_R_scalarDone_54 : decode b_R_scalarDone 54 = .ok (.aload_n 0, 1) := by decide +kernel
theorem d_R_scalarDone_55 : decode b_R_scalarDone 55 = .ok (.getfield 44, 3) := by decide +kernel
theorem d_R_scalarDone_58 : decode b_R_scalarDone 58 = .ok (.iload_n 1, 1) := by decide +kernel
theorem d_R_scalarDone_59 : decode b_R_scalarDone 59 = .ok (.iaload, 1) := by decide +kernel
theorem d_R_scalarDone_60 : decode b_R_scalarDone 60 = .ok (.invokevirtual 164, 3) := by decide +kernel
theorem d_R_scalarDone_63 : decode b_R_scalarDone 63 = .ok (.goto 215, 3) := by decide +kernel
theorem d_R_scalarDone_66 : decode b_R_scalarDone 66 = .ok (.iload_n 2, 1) := by decide +kernel
theorem d_R_scalarDone_67 : decode b_R_scalarDone 67 = .ok (.iconst 1, 1) := by decide +kernel
theorem d_R_scalarDone_68 : decode b_R_scalarDone 68 = .ok (.if_icmp .ne 39, 3) := by decide +kernel
theorem d_R_scalarDone_71 : decode b_R_scalarDone 71 = .ok (.aload_n 0, 1) := by decide +kernel
theorem d_R_scalarDone_72 : decode b_R_scalarDone 72 = .ok (.aload_n 0, 1) := by decide +kernel
theorem d_R_scalarDone_73 : decode b_R_scalarDone 73 = .ok (.getfield 35, 3) := by decide +kernel
theorem d_R_scalarDone_76 : decode b_R_scalarDone 76 = .ok (.iload_n 1, 1) := by decide +kernel
theorem d_R_scalarDone_77 : decode b_R_scalarDone 77 = .ok (.iaload, 1) := by decide +kernel
theorem d_R_scalarDone_78 : decode b_R_scalarDone 78 = .ok (.aload_n 0, 1) := by decide +kernel
theorem d_R_scalarDone_79 : decode b_R_scalarDone 79 = .ok (.getfield 22, 3) := by decide +kernel
theorem d_R_scalarDone_82 : decode b_R_scalarDone 82 = .ok (.aload_n 0, 1) := by decide +kernel
theorem d_R_scalarDone_83 : decode b_R_scalarDone 83 = .ok (.getfield 38, 3) := by decide +kernel
theorem d_R_scalarDone_86 : decode b_R_scalarDone 86 = .ok (.iload_n 1, 1) := by decide +kernel
theorem d_R_scalarDone_87 : decode b_R_scalarDone 87 = .ok (.iaload, 1) := by decide +kernel
theorem d_R_scalarDone_88 : decode b_R_scalarDone 88 = .ok (.iaload, 1) := by decide +kernel
theorem d_R_scalarDone_89 : decode b_R_scalarDone 89 = .ok (.aload_n 0, 1) := by decide +kernel
theorem d_R_scalarDone_90 : decode b_R_scalarDone 90 = .ok (.getfield 22, 3) := by decide +kernel
theorem d_R_scalarDone_93 : decode b_R_scalarDone 93 = .ok (.aload_n 0, 1) := by decide +kernel
theorem d_R_scalarDone_94 : decode b_R_scalarDone 94 = .ok (.getfield 41, 3) := by decide +kernel
theorem d_R_scalarDone_97 : decode b_R_scalarDone 97 = .ok (.iload_n 1, 1) := by decide +kernel
theorem d_R_scalarDone_98 : decode b_R_scalarDone 98 = .ok (.iaload, 1) := by decide +kernel
theorem d_R_scalarDone_99 : decode b_R_scalarDone 99 = .ok (.iaload, 1) := by decide +kernel
theorem d_R_scalarDone_100 : decode b_R_scalarDone 100 = .ok (.iadd, 1) := by decide +kernel
theorem d_R_scalarDone_101 : decode b_R_scalarDone 101 = .ok (.invokevirtual 164, 3) := by decide +kernel
theorem d_R_scalarDone_104 : decode b_R_scalarDone 104 = .ok (.goto 174, 3) := by decide +kernel
theorem d_R_scalarDone_107 : decode b_R_scalarDone 107 = .ok (.iload_n 2, 1) := by decide +kernel
theorem d_R_scalarDone_108 : decode b_R_scalarDone 108 = .ok (.iconst 2, 1) := by decide +kernel
theorem d_R_scalarDone_109 : decode b_R_scalarDone 109 = .ok (.if_icmp .ne 34, 3) := by decide +kernel
theorem d_R_scalarDone_112 : decode b_R_scalarDone 112 = .ok (.aload_n 0, 1) := by decide +kernel
theorem d_R_scalarDone_113 : decode b_R_scalarDone 113 = .ok (.aload_n 0, 1) := by decide +kernel
theorem d_R_scalarDone_114 : decode b_R_scalarDone 114 = .ok (.getfield 35, 3) := by decide +kernel
theorem d_R_scalarDone_117 : decode b_R_scalarDone 117 = .ok (.iload_n 1, 1) := by decide +kernel
theorem d_R_scalarDone_118 : decode b_R_scalarDone 118 = .ok (.iaload, 1) := by decide +kernel
theorem d_R_scalarDone_119 : decode b_R_scalarDone 119 = .ok (.aload_n 0, 1) := by decide +kernel
theorem d_R_scalarDone_120 : decode b_R_scalarDone 120 = .ok (.getfield 22, 3) := by decide +kernel
theorem d_R_scalarDone_123 : decode b_R_scalarDone 123 = .ok (.aload_n 0, 1) := by decide +kernel
theorem d_R_scalarDone_124 : decode b_R_scalarDone 124 = .ok (.getfield 38, 3) := by decide +kernel
theorem d_R_scalarDone_127 : decode b_R_scalarDone 127 = .ok (.iload_n 1, 1) := by decide +kernel
theorem d_R_scalarDone_128 : decode b_R_scalarDone 128 = .ok (.iaload, 1) := by decide +kernel
theorem d_R_scalarDone_129 : decode b_R_scalarDone 129 = .ok (.iaload, 1) := by decide +kernel
theorem d_R_scalarDone_130 : decode b_R_scalarDone 130 = .ok (.aload_n 0, 1) := by decide +kernel
theorem d_R_scalarDone_131 : decode b_R_scalarDone 131 = .ok (.getfield 44, 3) := by decide +kernel
theorem d_R_scalarDone_134 : decode b_R_scalarDone 134 = .ok (.iload_n 1, 1) := by decide +kernel
theorem d_R_scalarDone_135 : decode b_R_scalarDone 135 = .ok (.iaload, 1) := by decide +kernel
theorem d_R_scalarDone_136 : decode b_R_scalarDone 136 = .ok (.iadd, 1) := by decide +kernel
theorem d_R_scalarDone_137 : decode b_R_scalarDone 137 = .ok (.invokevirtual 164, 3) := by decide +kernel
theorem d_R_scalarDone_140 : decode b_R_scalarDone 140 = .ok (.goto 138, 3) := by decide +kernel
theorem d_R_scalarDone_143 : decode b_R_scalarDone 143 = .ok (.iload_n 2, 1) := by decide +kernel
theorem d_R_scalarDone_144 : decode b_R_scalarDone 144 = .ok (.iconst 3, 1) := by decide +kernel
theorem d_R_scalarDone_145 : decode b_R_scalarDone 145 = .ok (.if_icmp .ne 48, 3) := by decide +kernel
theorem d_R_scalarDone_148 : decode b_R_scalarDone 148 = .ok (.aload_n 0, 1) := by decide +kernel
theorem d_R_scalarDone_149 : decode b_R_scalarDone 149 = .ok (.aload_n 0, 1) := by decide +kernel
theorem d_R_scalarDone_150 : decode b_R_scalarDone 150 = .ok (.getfield 22, 3) := by decide +kernel
theorem d_R_scalarDone_153 : decode b_R_scalarDone 153 = .ok (.aload_n 0, 1) := by decide +kernel
theorem d_R_scalarDone_154 : decode b_R_scalarDone 154 = .ok (.getfield 38, 3) := by decide +kernel
theorem d_R_scalarDone_157 : decode b_R_scalarDone 157 = .ok (.iload_n 1, 1) := by decide +kernel
theorem d_R_scalarDone_158 : decode b_R_scalarDone 158 = .ok (.iaload, 1) := by decide +kernel
theorem d_R_scalarDone_159 : decode b_R_scalarDone 159 = .ok (.iaload, 1) := by decide +kernel
theorem d_R_scalarDone_160 : decode b_R_scalarDone 160 = .ok (.aload_n 0, 1) := by decide +kernel
theorem d_R_scalarDone_161 : decode b_R_scalarDone 161 = .ok (.getfield 22, 3) := by decide +kernel
theorem d_R_scalarDone_164 : decode b_R_scalarDone 164 = .ok (.aload_n 0, 1) := by decide +kernel
theorem d_R_scalarDone_165 : decode b_R_scalarDone 165 = .ok (.getfield 41, 3) := by decide +kernel
theorem d_R_scalarDone_168 : decode b_R_scalarDone 168 = .ok (.iload_n 1, 1) := by decide +kernel
theorem d_R_scalarDone_169 : decode b_R_scalarDone 169 = .ok (.iaload, 1) := by decide +kernel
theorem d_R_scalarDone_170 : decode b_R_scalarDone 170 = .ok (.iaload, 1) := by decide +kernel
theorem d_R_scalarDone_171 : decode b_R_scalarDone 171 = .ok (.if_icmp .eq 12, 3) := by decide +kernel
theorem d_R_scalarDone_174 : decode b_R_scalarDone 174 = .ok (.aload_n 0, 1) := by decide +kernel
theorem d_R_scalarDone_175 : decode b_R_scalarDone 175 = .ok (.getfield 44, 3) := by decide +kernel
theorem d_R_scalarDone_178 : decode b_R_scalarDone 178 = .ok (.iload_n 1, 1) := by decide +kernel
theorem d_R_scalarDone_179 : decode b_R_scalarDone 179 = .ok (.iaload, 1) := by decide +kernel
theorem d_R_scalarDone_180 : decode b_R_scalarDone 180 = .ok (.goto 7, 3) := by decide +kernel
theorem d_R_scalarDone_183 : decode b_R_scalarDone 183 = .ok (.aload_n 0, 1) := by decide +kernel
theorem d_R_scalarDone_184 : decode b_R_scalarDone 184 = .ok (.getfield 170, 3) := by decide +kernel
theorem d_R_scalarDone_187 : decode b_R_scalarDone 187 = .ok (.putfield 170, 3) := by decide +kernel
theorem d_R_scalarDone_190 : decode b_R_scalarDone 190 = .ok (.goto 88, 3) := by decide +kernel
theorem d_R_scalarDone_193 : decode b_R_scalarDone 193 = .ok (.iload_n 2, 1) := by decide +kernel
theorem d_R_scalarDone_194 : decode b_R_scalarDone 194 = .ok (.iconst 5, 1) := by decide +kernel
theorem d_R_scalarDone_195 : decode b_R_scalarDone 195 = .ok (.if_icmp .ne 44, 3) := by decide +kernel
theorem d_R_scalarDone_198 : decode b_R_scalarDone 198 = .ok (.aload_n 0, 1) := by decide +kernel
theorem d_R_scalarDone_199 : decode b_R_scalarDone 199 = .ok (.getfield 22, 3) := by decide +kernel
theorem d_R_scalarDone_202 : decode b_R_scalarDone 202 = .ok (.aload_n 0, 1) := by decide +kernel
theorem d_R_scalarDone_203 : decode b_R_scalarDone 203 = .ok (.getfield 38, 3) := by decide +kernel
theorem d_R_scalarDone_206 : decode b_R_scalarDone 206 = .ok (.iload_n 1, 1) := by decide +kernel
theorem d_R_scalarDone_207 : decode b_R_scalarDone 207 = .ok (.iaload, 1) := by decide +kernel
theorem d_R_scalarDone_208 : decode b_R_scalarDone 208 = .ok (.iaload, 1) := by decide +kernel
theorem d_R_scalarDone_209 : decode b_R_scalarDone 209 = .ok (.istore_n 3, 1) := by decide +kernel
theorem d_R_scalarDone_210 : decode b_R_scalarDone 210 = .ok (.aload_n 0, 1) := by decide +kernel
theorem d_R_scalarDone_211 : decode b_R_scalarDone 211 = .ok (.iload_n 3, 1) := by decide +kernel
theorem d_R_scalarDone_212 : decode b_R_scalarDone 212 = .ok (.ifCond .ge 7, 3) := by decide +kernel
theorem d_R_scalarDone_215 : decode b_R_scalarDone 215 = .ok (.iconst 0, 1) := by decide +kernel
theorem d_R_scalarDone_216 : decode b_R_scalarDone 216 = .ok (.goto 17, 3) := by decide +kernel
theorem d_R_scalarDone_219 : decode b_R_scalarDone 219 = .ok (.iload_n 3, 1) := by decide +kernel
theorem d_R_scalarDone_220 : decode b_R_scalarDone 220 = .ok (.sipush 128, 3) := by decide +kernel
theorem d_R_scalarDone_223 : decode b_R_scalarDone 223 = .ok (.if_icmp .le 9, 3) := by decide +kernel
theorem d_R_scalarDone_226 : decode b_R_scalarDone 226 = .ok (.sipush 128, 3) := by decide +kernel
theorem d_R_scalarDone_229 : decode b_R_scalarDone 229 = .ok (.goto 4, 3) := by decide +kernel
theorem d_R_scalarDone_232 : decode b_R_scalarDone 232 = .ok (.iload_n 3, 1) := by decide +kernel
theorem d_R_scalarDone_233 : decode b_R_scalarDone 233 = .ok (.putfield 19, 3) := by decide +kernel
theorem d_R_scalarDone_236 : decode b_R_scalarDone 236 = .ok (.goto 42, 3) := by decide +kernel
theorem d_R_scalarDone_239 : decode b_R_scalarDone 239 = .ok (.iload_n 2, 1) := by decide +kernel
theorem d_R_scalarDone_240 : decode b_R_scalarDone 240 = .ok (.bipush 6, 2) := by decide +kernel
theorem d_R_scalarDone_242 : decode b_R_scalarDone 242 = .ok (.if_icmp .ne 11, 3) := by decide +kernel
theorem d_R_scalarDone_245 : decode b_R_scalarDone 245 = .ok (.aload_n 0, 1) := by decide +kernel
theorem d_R_scalarDone_246 : decode b_R_scalarDone 246 = .ok (.iload_n 1, 1) := by decide +kernel
theorem d_R_scalarDone_247 : decode b_R_scalarDone 247 = .ok (.invokevirtual 173, 3) := by decide +kernel
theorem d_R_scalarDone_250 : decode b_R_scalarDone 250 = .ok (.goto 28, 3) := by decide +kernel
theorem d_R_scalarDone_253 : decode b_R_scalarDone 253 = .ok (.aload_n 0, 1) := by decide +kernel
theorem d_R_scalarDone_254 : decode b_R_scalarDone 254 = .ok (.aload_n 0, 1) := by decide +kernel
theorem d_R_scalarDone_255 : decode b_R_scalarDone 255 = .ok (.getfield 35, 3) := by decide +kernel
theorem d_R_scalarDone_258 : decode b_R_scalarDone 258 = .ok (.iload_n 1, 1) := by decide +kernel
theorem d_R_scalarDone_259 : decode b_R_scalarDone 259 = .ok (.iaload, 1) := by decide +kernel
theorem d_R_scalarDone_260 : decode b_R_scalarDone 260 = .ok (.aload_n 0, 1) := by decide +kernel
theorem d_R_scalarDone_261 : decode b_R_scalarDone 261 = .ok (.aload_n 0, 1) := by decide +kernel
theorem d_R_scalarDone_262 : decode b_R_scalarDone 262 = .ok (.getfield 38, 3) := by decide +kernel
theorem d_R_scalarDone_265 : decode b_R_scalarDone 265 = .ok (.iload_n 1, 1) := by decide +kernel
theorem d_R_scalarDone_266 : decode b_R_scalarDone 266 = .ok (.iaload, 1) := by decide +kernel
theorem d_R_scalarDone_267 : decode b_R_scalarDone 267 = .ok (.iconst 0, 1) := by decide +kernel
theorem d_R_scalarDone_268 : decode b_R_scalarDone 268 = .ok (.aload_n 0, 1) := by decide +kernel
theorem d_R_scalarDone_269 : decode b_R_scalarDone 269 = .ok (.getfield 13, 3) := by decide +kernel
theorem d_R_scalarDone_272 : decode b_R_scalarDone 272 = .ok (.invokevirtual 110, 3) := by decide +kernel
theorem d_R_scalarDone_275 : decode b_R_scalarDone 275 = .ok (.invokevirtual 164, 3) := by decide +kernel
theorem d_R_scalarDone_278 : decode b_R_scalarDone 278 = .ok (.iconst 1, 1) := by decide +kernel
theorem d_R_scalarDone_279 : decode b_R_scalarDone 279 = .ok (.ireturn, 1) := by decide +kernel
theorem d_R_setX_0 : decode b_R_setX 0 = .ok (.aload_n 0, 1) := by decide +kernel
theorem d_R_setX_1 : decode b_R_setX 1 = .ok (.getfield 22, 3) := by decide +kernel
theorem d_R_setX_4 : decode b_R_setX 4 = .ok (.iload_n 1, 1) := by decide +kernel
theorem d_R_setX_5 : decode b_R_setX 5 = .ok (.iload_n 1, 1) := by decide +kernel
theorem d_R_setX_6 : decode b_R_setX 6 = .ok (.ifCond .ne 7, 3) := by decide +kernel
theorem d_R_setX_9 : decode b_R_setX 9 = .ok (.iconst 0, 1) := by decide +kernel
theorem d_R_setX_10 : decode b_R_setX 10 = .ok (.goto 4, 3) := by decide +kernel
theorem d_R_setX_13 : decode b_R_setX 13 = .ok (.iload_n 2, 1) := by decide +kernel
theorem d_R_setX_14 : decode b_R_setX 14 = .ok (.iastore, 1) := by decide +kernel
theorem d_R_setX_15 : decode b_R_setX 15 = .ok (.return_, 1) := by decide +kernel
theorem d_R_configures_0 : decode b_R_configures 0 = .ok (.aload_n 0, 1) := by decide +kernel
theorem d_R_configures_1 : decode b_R_configures 1 = .ok (.getfield 44, 3) := by decide +kernel
theorem d_R_configures_4 : decode b_R_configures 4 = .ok (.iload_n 1, 1) := by decide +kernel
theorem d_R_configures_5 : decode b_R_configures 5 = .ok (.iaload, 1) := by decide +kernel
theorem d_R_configures_6 : decode b_R_configures 6 = .ok (.iconst 4, 1) := by decide +kernel
theorem d_R_configures_7 : decode b_R_configures 7 = .ok (.irem, 1) := by decide +kernel
theorem d_R_configures_8 : decode b_R_configures 8 = .ok (.istore_n 2, 1) := by decide +kernel
theorem d_R_configures_9 : decode b_R_configures 9 = .ok (.aload_n 0, 1) := by decide +kernel
theorem d_R_configures_10 : decode b_R_configures 10 = .ok (.getfield 44, 3) := by decide +kernel
theorem d_R_configures_13 : decode b_R_configures 13 = .ok (.iload_n 1, 1) := by decide +kernel
theorem d_R_configures_14 : decode b_R_configures 14 = .ok (.iaload, 1) := by decide +kernel
theorem d_R_configures_15 : decode b_R_configures 15 = .ok (.iconst 4, 1) := by decide +kernel
theorem d_R_configures_16 : decode b_R_configures 16 = .ok (.idiv, 1) := by decide +kernel
theorem d_R_configures_17 : decode b_R_configures 17 = .ok (.istore_n 3, 1) := by decide +kernel
theorem d_R_configures_18 : decode b_R_configures 18 = .ok (.aload_n 0, 1) := by decide +kernel
theorem d_R_configures_19 : decode b_R_configures 19 = .ok (.iload_n 2, 1) := by decide +kernel
theorem d_R_configures_20 : decode b_R_configures 20 = .ok (.ifCond .ne 7, 3) := by decide +kernel
theorem d_R_configures_23 : decode b_R_configures 23 = .ok (.iconst 1, 1) := by decide +kernel
theorem d_R_configures_24 : decode b_R_configures 24 = .ok (.goto 6, 3) := by decide +kernel
theorem d_R_configures_27 : decode b_R_configures 27 = .ok (.iconst 2, 1) := by decide +kernel
theorem d_R_configures_28 : decode b_R_configures 28 = .ok (.iload_n 2, 1) := by decide +kernel
theorem d_R_configures_29 : decode b_R_configures 29 = .ok (.imul, 1) := by decide +kernel
theorem d_R_configures_30 : decode b_R_configures 30 = .ok (.putfield 13, 3) := by decide +kernel
theorem d_R_configures_33 : decode b_R_configures 33 = .ok (.aload_n 0, 1) := by decide +kernel
theorem d_R_configures_34 : decode b_R_configures 34 = .ok (.iload_n 3, 1) := by decide +kernel
theorem d_R_configures_35 : decode b_R_configures 35 = .ok (.ifCond .ne 7, 3) := by decide +kernel
theorem d_R_configures_38 : decode b_R_configures 38 = .ok (.iconst 1, 1) := by decide +kernel
theorem d_R_configures_39 : decode b_R_configures 39 = .ok (.goto 6, 3) := by decide +kernel
theorem d_R_configures_42 : decode b_R_configures 42 = .ok (.iconst 2, 1) := by decide +kernel
theorem d_R_configures_43 : decode b_R_configures 43 = .ok (.iload_n 3, 1) := by decide +kernel
theorem d_R_configures_44 : decode b_R_configures 44 = .ok (.imul, 1) := by decide +kernel
theorem d_R_configures_45 : decode b_R_configures 45 = .ok (.putfield 16, 3) := by decide +kernel
theorem d_R_configures_48 : decode b_R_configures 48 = .ok (.bipush 8, 2) := by decide +kernel
theorem d_R_configures_50 : decode b_R_configures 50 = .ok (.aload_n 0, 1) := by decide +kernel
theorem d_R_configures_51 : decode b_R_configures 51 = .ok (.getfield 16, 3) := by decide +kernel
theorem d_R_configures_54 : decode b_R_configures 54 = .ok (.imul, 1) := by decide +kernel
theorem d_R_configures_55 : decode b_R_configures 55 = .ok (.aload_n 0, 1) := by decide +kernel
theorem d_R_configures_56 : decode b_R_configures 56 = .ok (.getfield 13, 3) := by decide +kernel
theorem d_R_configures_59 : decode b_R_configures 59 = .ok (.idiv, 1) := by decide +kernel
theorem d_R_configures_60 : decode b_R_configures 60 = .ok (.istore 4, 2) := by decide +kernel
theorem d_R_configures_62 : decode b_R_configures 62 = .ok (.aload_n 0, 1) := by decide +kernel
theorem d_R_configures_63 : decode b_R_configures 63 = .ok (.getfield 22, 3) := by decide +kernel
theorem d_R_configures_66 : decode b_R_configures 66 = .ok (.aload_n 0, 1) := by decide +kernel
theorem d_R_configures_67 : decode b_R_configures 67 = .ok (.getfield 38, 3) := by decide +kernel
theorem d_R_configures_70 : decode b_R_configures 70 = .ok (.iload_n 1, 1) := by decide +kernel
theorem d_R_configures_71 : decode b_R_configures 71 = .ok (.iaload, 1) := by decide +kernel
theorem d_R_configures_72 : decode b_R_configures 72 = .ok (.iaload, 1) := by decide +kernel
theorem d_R_configures_73 : decode b_R_configures 73 = .ok (.istore 5, 2) := by decide +kernel
theorem d_R_configures_75 : decode b_R_configures 75 = .ok (.aload_n 0, 1) := by decide +kernel
theorem d_R_configures_76 : decode b_R_configures 76 = .ok (.iload 5, 2) := by decide +kernel
theorem d_R_configures_78 : decode b_R_configures 78 = .ok (.ifCond .ge 7, 3) := by decide +kernel
theorem d_R_configures_81 : decode b_R_configures 81 = .ok (.iconst 0, 1) := by decide +kernel
theorem d_R_configures_82 : decode b_R_configures 82 = .ok (.goto 17, 3) := by decide +kernel
theorem d_R_configures_85 : decode b_R_configures 85 = .ok (.iload 5, 2) := by decide +kernel
theorem d_R_configures_87 : decode b_R_configures 87 = .ok (.iload 4, 2) := by decide +kernel
theorem d_R_configures_89 : decode b_R_configures 89 = .ok (.if_icmp .ge 8, 3) := by decide +kernel
theorem d_R_configures_92 : decode b_R_configures 92 = .ok (.iload 5, 2) := by decide +kernel
theorem d_R_configures_94 : decode b_R_configures 94 = .ok (.goto 5, 3) := by decide +kernel
theorem d_R_configures_97 : decode b_R_configures 97 = .ok (.iload 4, 2) := by decide +kernel
theorem d_R_configures_99 : decode b_R_configures 99 = .ok (.putfield 161, 3) := by decide +kernel
theorem d_R_configures_102 : decode b_R_configures 102 = .ok (.aload_n 0, 1) := by decide +kernel
theorem d_R_configures_103 : decode b_R_configures 103 = .ok (.aload_n 0, 1) := by decide +kernel
theorem d_R_configures_104 : decode b_R_configures 104 = .ok (.getfield 35, 3) := by decide +kernel
theorem d_R_configures_107 : decode b_R_configures 107 = .ok (.iload_n 1, 1) := by decide +kernel
theorem d_R_configures_108 : decode b_R_configures 108 = .ok (.iaload, 1) := by decide +kernel
theorem d_R_configures_109 : decode b_R_configures 109 = .ok (.aload_n 0, 1) := by decide +kernel
theorem d_R_configures_110 : decode b_R_configures 110 = .ok (.getfield 161, 3) := by decide +kernel
theorem d_R_configures_113 : decode b_R_configures 113 = .ok (.invokevirtual 164, 3) := by decide +kernel
theorem d_R_configures_116 : decode b_R_configures 116 = .ok (.aload_n 0, 1) := by decide +kernel
theorem d_R_configures_117 : decode b_R_configures 117 = .ok (.iconst 0, 1) := by decide +kernel
theorem d_R_configures_118 : decode b_R_configures 118 = .ok (.putfield 167, 3) := by decide +kernel
theorem d_R_configures_121 : decode b_R_configures 121 = .ok (.return_, 1) := by decide +kernel
theorem d_R_held_0 : decode b_R_held 0 = .ok (.iconst 0, 1) := by decide +kernel
theorem d_R_held_1 : decode b_R_held 1 = .ok (.istore_n 2, 1) := by decide +kernel
theorem d_R_held_2 : decode b_R_held 2 = .ok (.aload_n 0, 1) := by decide +kernel
theorem d_R_held_3 : decode b_R_held 3 = .ok (.getfield 47, 3) := by decide +kernel
theorem d_R_held_6 : decode b_R_held 6 = .ok (.iload_n 1, 1) := by decide +kernel
theorem d_R_held_7 : decode b_R_held 7 = .ok (.baload, 1) := by decide +kernel
theorem d_R_held_8 : decode b_R_held 8 = .ok (.ifCond .eq 12, 3) := by decide +kernel
theorem d_R_held_11 : decode b_R_held 11 = .ok (.iconst 0, 1) := by decide +kernel
theorem d_R_held_12 : decode b_R_held 12 = .ok (.bipush 8, 2) := by decide +kernel
theorem d_R_held_14 : decode b_R_held 14 = .ok (.invokestatic 100, 3) := by decide +kernel
theorem d_R_held_17 : decode b_R_held 17 = .ok (.goto 4, 3) := by decide +kernel
theorem d_R_held_20 : decode b_R_held 20 = .ok (.lconst 0, 1) := by decide +kernel
theorem d_R_held_21 : decode b_R_held 21 = .ok (.lstore_n 3, 1) := by decide +kernel
theorem d_R_held_22 : decode b_R_held 22 = .ok (.iconst 0, 1) := by decide +kernel
theorem d_R_held_23 : decode b_R_held 23 = .ok (.istore 5, 2) := by decide +kernel
theorem d_R_held_25 : decode b_R_held 25 = .ok (.iload 5, 2) := by decide +kernel
theorem d_R_held_27 : decode b_R_held 27 = .ok (.bipush 8, 2) := by decide +kernel
theorem d_R_held_29 : decode b_R_held 29 = .ok (.aload_n 0, 1) := by decide +kernel
theorem d_R_held_30 : decode b_R_held 30 = .ok (.getfield 16, 3) := by decide +kernel
theorem d_R_held_33 : decode b_R_held 33 = .ok (.imul, 1) := by decide +kernel
theorem d_R_held_34 : decode b_R_held 34 = .ok (.if_icmp .ge 39, 3) := by decide +kernel
theorem d_R_held_37 : decode b_R_held 37 = .ok (.aload_n 0, 1) := by decide +kernel
theorem d_R_held_38 : decode b_R_held 38 = .ok (.getfield 32, 3) := by decide +kernel
theorem d_R_held_41 : decode b_R_held 41 = .ok (.iload_n 1, 1) := by decide +kernel
theorem d_R_held_42 : decode b_R_held 42 = .ok (.iaload, 1) := by decide +kernel
theorem d_R_held_43 : decode b_R_held 43 = .ok (.bipush 19, 2) := by decide +kernel
theorem d_R_held_45 : decode b_R_held 45 = .ok (.if_icmp .ne 28, 3) := by decide +kernel
theorem d_R_held_48 : decode b_R_held 48 = .ok (.lload_n 3, 1) := by decide +kernel
theorem d_R_held_49 : decode b_R_held 49 = .ok (.bipush 8, 2) := by decide +kernel
theorem d_R_held_51 : decode b_R_held 51 = .ok (.aload_n 0, 1) := by decide +kernel
theorem d_R_held_52 : decode b_R_held 52 = .ok (.getfield 41, 3) := by decide +kernel
theorem d_R_held_55 : decode b_R_held 55 = .ok (.iload_n 1, 1) := by decide +kernel
theorem d_R_held_56 : decode b_R_held 56 = .ok (.iaload, 1) := by decide +kernel
theorem d_R_held_57 : decode b_R_held 57 = .ok (.imul, 1) := by decide +kernel
theorem d_R_held_58 : decode b_R_held 58 = .ok (.iload 5, 2) := by decide +kernel
theorem d_R_held_60 : decode b_R_held 60 = .ok (.iadd, 1) := by decide +kernel
theorem d_R_held_61 : decode b_R_held 61 = .ok (.iconst 1, 1) := by decide +kernel
theorem d_R_held_62 : decode b_R_held 62 = .ok (.invokestatic 100, 3) := by decide +kernel
theorem d_R_held_65 : decode b_R_held 65 = .ok (.lor, 1) := by decide +kernel
theorem d_R_held_66 : decode b_R_held 66 = .ok (.lstore_n 3, 1) := by decide +kernel
theorem d_R_held_67 : decode b_R_held 67 = .ok (.iinc 5 1, 3) := by decide +kernel
theorem d_R_held_70 : decode b_R_held 70 = .ok (.goto (-45), 3) := by decide +kernel
theorem d_R_held_73 : decode b_R_held 73 = .ok (.iconst 0, 1) := by decide +kernel
theorem d_R_held_74 : decode b_R_held 74 = .ok (.istore 5, 2) := by decide +kernel
theorem d_R_held_76 : decode b_R_held 76 = .ok (.iload 5, 2) := by decide +kernel
theorem d_R_held_78 : decode b_R_held 78 = .ok (.aload_n 0, 1) := by decide +kernel
theorem d_R_held_79 : decode b_R_held 79 = .ok (.getfield 146, 3) := by decide +kernel
theorem d_R_held_82 : decode b_R_held 82 = .ok (.if_icmp .ge 90, 3) := by decide +kernel
theorem d_R_held_85 : decode b_R_held 85 = .ok (.iload_n 2, 1) := by decide +kernel
theorem d_R_held_86 : decode b_R_held 86 = .ok (.ifCond .ne 22, 3) := by decide +kernel
theorem d_R_held_89 : decode b_R_held 89 = .ok (.aload_n 0, 1) := by decide +kernel
theorem d_R_held_90 : decode b_R_held 90 = .ok (.getfield 32, 3) := by decide +kernel
theorem d_R_held_93 : decode b_R_held 93 = .ok (.aload_n 0, 1) := by decide +kernel
theorem d_R_held_94 : decode b_R_held 94 = .ok (.getfield 51, 3) := by decide +kernel
theorem d_R_held_97 : decode b_R_held 97 = .ok (.iload 5, 2) := by decide +kernel
theorem d_R_held_99 : decode b_R_held 99 = .ok (.iaload, 1) := by decide +kernel
theorem d_R_held_100 : decode b_R_held 100 = .ok (.iaload, 1) := by decide +kernel
theorem d_R_held_101 : decode b_R_held 101 = .ok (.invokestatic 149, 3) := by decide +kernel
theorem d_R_held_104 : decode b_R_held 104 = .ok (.iconst 2, 1) := by decide +kernel
theorem d_R_held_105 : decode b_R_held 105 = .ok (.if_icmp .ne 7, 3) := by decide +kernel
theorem d_R_held_108 : decode b_R_held 108 = .ok (.iconst 1, 1) := by decide +kernel
theorem d_R_held_109 : decode b_R_held 109 = .ok (.goto 4, 3) := by decide +kernel
theorem d_R_held_112 : decode b_R_held 112 = .ok (.iconst 0, 1) := by decide +kernel
theorem d_R_held_113 : decode b_R_held 113 = .ok (.istore_n 2, 1) := by decide +kernel
theorem d_R_held_114 : decode b_R_held 114 = .ok (.aload_n 0, 1) := by decide +kernel
theorem d_R_held_115 : decode b_R_held 115 = .ok (.getfield 66, 3) := by decide +kernel
theorem d_R_held_118 : decode b_R_held 118 = .ok (.iload 5, 2) := by decide +kernel
theorem d_R_held_120 : decode b_R_held 120 = .ok (.iaload, 1) := by decide +kernel
theorem d_R_held_121 : decode b_R_held 121 = .ok (.istore 6, 2) := by decide +kernel
theorem d_R_held_123 : decode b_R_held 123 = .ok (.iload 6, 2) := by decide +kernel
theorem d_R_held_125 : decode b_R_held 125 = .ok (.aload_n 0, 1) := by decide +kernel
theorem d_R_held_126 : decode b_R_held 126 = .ok (.getfield 63, 3) := by decide +kernel
theorem d_R_held_129 : decode b_R_held 129 = .ok (.iload 5, 2) := by decide +kernel
theorem d_R_held_131 : decode b_R_held 131 = .ok (.iaload, 1) := by decide +kernel
theorem d_R_held_132 : decode b_R_held 132 = .ok (.if_icmp .ge 34, 3) := by decide +kernel
theorem d_R_held_135 : decode b_R_held 135 = .ok (.iload_n 2, 1) := by decide +kernel
theorem d_R_held_136 : decode b_R_held 136 = .ok (.ifCond .ne 18, 3) := by decide +kernel
theorem d_R_held_139 : decode b_R_held 139 = .ok (.aload_n 0, 1) := by decide +kernel
theorem d_R_held_140 : decode b_R_held 140 = .ok (.iload 5, 2) := by decide +kernel
theorem d_R_held_142 : decode b_R_held 142 = .ok (.iload 6, 2) := by decide +kernel
theorem d_R_held_144 : decode b_R_held 144 = .ok (.invokevirtual 107, 3) := by decide +kernel
theorem d_R_held_147 : decode b_R_held 147 = .ok (.lload_n 3, 1) := by decide +kernel
theorem d_R_held_148 : decode b_R_held 148 = .ok (.land, 1) := by decide +kernel
theorem d_R_held_149 : decode b_R_held 149 = .ok (.lconst 0, 1) := by decide +kernel
theorem d_R_held_150 : decode b_R_held 150 = .ok (.lcmp, 1) := by decide +kernel
theorem d_R_held_151 : decode b_R_held 151 = .ok (.ifCond .eq 7, 3) := by decide +kernel
theorem d_R_held_154 : decode b_R_held 154 = .ok (.iconst 1, 1) := by decide +kernel
theorem d_R_held_155 : decode b_R_held 155 = .ok (.goto 4, 3) := by decide +kernel
theorem d_R_held_158 : decode b_R_held 158 = .ok (.iconst 0, 1) := by decide +kernel
theorem d_R_held_159 : decode b_R_held 159 = .ok (.istore_n 2, 1) := by decide +kernel
theorem d_R_held_160 : decode b_R_held 160 = .ok (.iinc 6 1, 3) := by decide +kernel
theorem d_R_held_163 : decode b_R_held 163 = .ok (.goto (-40), 3) := by decide +kernel
theorem d_R_held_166 : decode b_R_held 166 = .ok (.iinc 5 1, 3) := by decide +kernel
theorem d_R_held_169 : decode b_R_held 169 = .ok (.goto (-93), 3) := by decide +kernel
theorem d_R_held_172 : decode b_R_held 172 = .ok (.iload_n 2, 1) := by decide +kernel
theorem d_R_held_173 : decode b_R_held 173 = .ok (.ireturn, 1) := by decide +kernel
theorem d_R_handsOut_0 : decode b_R_handsOut 0 = .ok (.aload_n 0, 1) := by decide +kernel
theorem d_R_handsOut_1 : decode b_R_handsOut 1 = .ok (.getfield 146, 3) := by decide +kernel
theorem d_R_handsOut_4 : decode b_R_handsOut 4 = .ok (.istore_n 2, 1) := by decide +kernel
theorem d_R_handsOut_5 : decode b_R_handsOut 5 = .ok (.aload_n 0, 1) := by decide +kernel
theorem d_R_handsOut_6 : decode b_R_handsOut 6 = .ok (.getfield 32, 3) := by decide +kernel
theorem d_R_handsOut_9 : decode b_R_handsOut 9 = .ok (.iload_n 1, 1) := by decide +kernel
theorem d_R_handsOut_10 : decode b_R_handsOut 10 = .ok (.iaload, 1) := by decide +kernel
theorem d_R_handsOut_11 : decode b_R_handsOut 11 = .ok (.istore_n 3, 1) := by decide +kernel
theorem d_R_handsOut_12 : decode b_R_handsOut 12 = .ok (.aload_n 0, 1) := by decide +kernel
theorem d_R_handsOut_13 : decode b_R_handsOut 13 = .ok (.getfield 51, 3) := by decide +kernel
theorem d_R_handsOut_16 : decode b_R_handsOut 16 = .ok (.iload_n 2, 1) := by decide +kernel
theorem d_R_handsOut_17 : decode b_R_handsOut 17 = .ok (.iload_n 1, 1) := by decide +kernel
theorem d_R_handsOut_18 : decode b_R_handsOut 18 = .ok (.iastore, 1) := by decide +kernel
theorem d_R_handsOut_19 : decode b_R_handsOut 19 = .ok (.aload_n 0, 1) := by decide +kernel
theorem d_R_handsOut_20 : decode b_R_handsOut 20 = .ok (.getfield 54, 3) := by decide +kernel
theorem d_R_handsOut_23 : decode b_R_handsOut 23 = .ok (.iload_n 2, 1) := by decide +kernel
theorem d_R_handsOut_24 : decode b_R_handsOut 24 = .ok (.aload_n 0, 1) := by decide +kernel
theorem d_R_handsOut_25 : decode b_R_handsOut 25 = .ok (.getfield 13, 3) := by decide +kernel
theorem d_R_handsOut_28 : decode b_R_handsOut 28 = .ok (.iastore, 1) := by decide +kernel
theorem d_R_handsOut_29 : decode b_R_handsOut 29 = .ok (.aload_n 0, 1) := by decide +kernel
theorem d_R_handsOut_30 : decode b_R_handsOut 30 = .ok (.getfield 57, 3) := by decide +kernel
theorem d_R_handsOut_33 : decode b_R_handsOut 33 = .ok (.iload_n 2, 1) := by decide +kernel
theorem d_R_handsOut_34 : decode b_R_handsOut 34 = .ok (.aload_n 0, 1) := by decide +kernel
theorem d_R_handsOut_35 : decode b_R_handsOut 35 = .ok (.getfield 16, 3) := by decide +kernel
theorem d_R_handsOut_38 : decode b_R_handsOut 38 = .ok (.iastore, 1) := by decide +kernel
theorem d_R_handsOut_39 : decode b_R_handsOut 39 = .ok (.aload_n 0, 1) := by decide +kernel
theorem d_R_handsOut_40 : decode b_R_handsOut 40 = .ok (.getfield 60, 3) := by decide +kernel
theorem d_R_handsOut_43 : decode b_R_handsOut 43 = .ok (.iload_n 2, 1) := by decide +kernel
theorem d_R_handsOut_44 : decode b_R_handsOut 44 = .ok (.aload_n 0, 1) := by decide +kernel
theorem d_R_handsOut_45 : decode b_R_handsOut 45 = .ok (.getfield 167, 3) := by decide +kernel
theorem d_R_handsOut_48 : decode b_R_handsOut 48 = .ok (.iastore, 1) := by decide +kernel
theorem d_R_handsOut_49 : decode b_R_handsOut 49 = .ok (.aload_n 0, 1) := by decide +kernel
theorem d_R_handsOut_50 : decode b_R_handsOut 50 = .ok (.getfield 66, 3) := by decide +kernel
theorem d_R_handsOut_53 : decode b_R_handsOut 53 = .ok (.iload_n 2, 1) := by decide +kernel
theorem d_R_handsOut_54 : decode b_R_handsOut 54 = .ok (.iconst 0, 1) := by decide +kernel
theorem d_R_handsOut_55 : decode b_R_handsOut 55 = .ok (.iastore, 1) := by decide +kernel
theorem d_R_handsOut_56 : decode b_R_handsOut 56 = .ok (.aload_n 0, 1) := by decide +kernel
theorem d_R_handsOut_57 : decode b_R_handsOut 57 = .ok (.getfield 69, 3) := by decide +kernel
theorem d_R_handsOut_60 : decode b_R_handsOut 60 = .ok (.iload_n 2, 1) := by decide +kernel
theorem d_R_handsOut_61 : decode b_R_handsOut 61 = .ok (.iconst 0, 1) := by decide +kernel
theorem d_R_handsOut_62 : decode b_R_handsOut 62 = .ok (.iastore, 1) := by decide +kernel
theorem d_R_handsOut_63 : decode b_R_handsOut 63 = .ok (.aload_n 0, 1) := by decide +kernel
theorem d_R_handsOut_64 : decode b_R_handsOut 64 = .ok (.getfield 72, 3) := by decide +kernel
theorem d_R_handsOut_67 : decode b_R_handsOut 67 = .ok (.iload_n 2, 1) := by decide +kernel
theorem d_R_handsOut_68 : decode b_R_handsOut 68 = .ok (.iload_n 3, 1) := by decide +kernel
theorem d_R_handsOut_69 : decode b_R_handsOut 69 = .ok (.bipush 14, 2) := by decide +kernel
theorem d_R_handsOut_71 : decode b_R_handsOut 71 = .ok (.if_icmp .ne 10, 3) := by decide +kernel
theorem d_R_handsOut_74 : decode b_R_handsOut 74 = .ok (.aload_n 0, 1) := by decide +kernel
theorem d_R_handsOut_75 : decode b_R_handsOut 75 = .ok (.getfield 161, 3) := by decide +kernel
theorem d_R_handsOut_78 : decode b_R_handsOut 78 = .ok (.goto 14, 3) := by decide +kernel
theorem d_R_handsOut_81 : decode b_R_handsOut 81 = .ok (.aload_n 0, 1) := by decide +kernel
theorem d_R_handsOut_82 : decode b_R_handsOut 82 = .ok (.getfield 22, 3) := by decide +kernel
theorem d_R_handsOut_85 : decode b_R_handsOut 85 = .ok (.aload_n 0, 1) := by decide +kernel
theorem d_R_handsOut_86 : decode b_R_handsOut 86 = .ok (.getfield 38, 3) := by decide +kernel
theorem d_R_handsOut_89 : decode b_R_handsOut 89 = .ok (.iload_n 1, 1) := by decide +kernel
theorem d_R_handsOut_90 : decode b_R_handsOut 90 = .ok (.iaload, 1) := by decide +kernel
theorem d_R_handsOut_91 : decode b_R_handsOut 91 = .ok (.iaload, 1) := by decide +kernel
theorem d_R_handsOut_92 : decode b_R_handsOut 92 = .ok (.iastore, 1) := by decide +kernel
theorem d_R_handsOut_93 : decode b_R_handsOut 93 = .ok (.aload_n 0, 1) := by decide +kernel
theorem d_R_handsOut_94 : decode b_R_handsOut 94 = .ok (.getfield 75, 3) := by decide +kernel
theorem d_R_handsOut_97 : decode b_R_handsOut 97 = .ok (.iload_n 2, 1) := by decide +kernel
theorem d_R_handsOut_98 : decode b_R_handsOut 98 = .ok (.aload_n 0, 1) := by decide +kernel
theorem d_R_handsOut_99 : decode b_R_handsOut 99 = .ok (.getfield 22, 3) := by decide +kernel
theorem d_R_handsOut_102 : decode b_R_handsOut 102 = .ok (.aload_n 0, 1) := by decide +kernel
theorem d_R_handsOut_103 : decode b_R_handsOut 103 = .ok (.getfield 41, 3) := by decide +kernel
theorem d_R_handsOut_106 : decode b_R_handsOut 106 = .ok (.iload_n 1, 1) := by decide +kernel
theorem d_R_handsOut_107 : decode b_R_handsOut 107 = .ok (.iaload, 1) := by decide +kernel
theorem d_R_handsOut_108 : decode b_R_handsOut 108 = .ok (.iaload, 1) := by decide +kernel
theorem d_R_handsOut_109 : decode b_R_handsOut 109 = .ok (.iastore, 1) := by decide +kernel
theorem d_R_handsOut_110 : decode b_R_handsOut 110 = .ok (.iload_n 3, 1) := by decide +kernel
theorem d_R_handsOut_111 : decode b_R_handsOut 111 = .ok (.bipush 17, 2) := by decide +kernel
theorem d_R_handsOut_113 : decode b_R_handsOut 113 = .ok (.if_icmp .lt 11, 3) := by decide +kernel
theorem d_R_handsOut_116 : decode b_R_handsOut 116 = .ok (.aload_n 0, 1) := by decide +kernel
theorem d_R_handsOut_117 : decode b_R_handsOut 117 = .ok (.iload_n 2, 1) := by decide +kernel
theorem d_R_handsOut_118 : decode b_R_handsOut 118 = .ok (.invokevirtual 176, 3) := by decide +kernel
theorem d_R_handsOut_121 : decode b_R_handsOut 121 = .ok (.goto 7, 3) := by decide +kernel
theorem d_R_handsOut_124 : decode b_R_handsOut 124 = .ok (.aload_n 0, 1) := by decide +kernel
theorem d_R_handsOut_125 : decode b_R_handsOut 125 = .ok (.getfield 161, 3) := by decide +kernel
theorem d_R_handsOut_128 : decode b_R_handsOut 128 = .ok (.istore 4, 2) := by decide +kernel
theorem d_R_handsOut_130 : decode b_R_handsOut 130 = .ok (.aload_n 0, 1) := by decide +kernel
theorem d_R_handsOut_131 : decode b_R_handsOut 131 = .ok (.getfield 63, 3) := by decide +kernel
theorem d_R_handsOut_134 : decode b_R_handsOut 134 = .ok (.iload_n 2, 1) := by decide +kernel
theorem d_R_handsOut_135 : decode b_R_handsOut 135 = .ok (.iload 4, 2) := by decide +kernel
theorem d_R_handsOut_137 : decode b_R_handsOut 137 = .ok (.aload_n 0, 1) := by decide +kernel
theorem d_R_handsOut_138 : decode b_R_handsOut 138 = .ok (.getfield 167, 3) := by decide +kernel
theorem d_R_handsOut_141 : decode b_R_handsOut 141 = .ok (.if_icmp .gt 7, 3) := by decide +kernel
theorem d_R_handsOut_144 : decode b_R_handsOut 144 = .ok (.iconst 0, 1) := by decide +kernel
theorem d_R_handsOut_145 : decode b_R_handsOut 145 = .ok (.goto 20, 3) := by decide +kernel
theorem d_R_handsOut_148 : decode b_R_handsOut 148 = .ok (.iload_n 3, 1) := by decide +kernel
theorem d_R_handsOut_149 : decode b_R_handsOut 149 = .ok (.bipush 14, 2) := by decide +kernel
theorem d_R_handsOut_151 : decode b_R_handsOut 151 = .ok (.if_icmp .ne 7, 3) := by decide +kernel
theorem d_R_handsOut_154 : decode b_R_handsOut 154 = .ok (.iconst 1, 1) := by decide +kernel
theorem d_R_handsOut_155 : decode b_R_handsOut 155 = .ok (.goto 10, 3) := by decide +kernel
theorem d_R_handsOut_158 : decode b_R_handsOut 158 = .ok (.iload 4, 2) := by decide +kernel
theorem d_R_handsOut_160 : decode b_R_handsOut 160 = .ok (.aload_n 0, 1) := by decide +kernel
theorem d_R_handsOut_161 : decode b_R_handsOut 161 = .ok (.getfield 167, 3) := by decide +kernel
theorem d_R_handsOut_164 : decode b_R_handsOut 164 = .ok (.isub, 1) := by decide +kernel
theorem d_R_handsOut_165 : decode b_R_handsOut 165 = .ok (.iastore, 1) := by decide +kernel
theorem d_R_handsOut_166 : decode b_R_handsOut 166 = .ok (.iload_n 3, 1) := by decide +kernel
theorem d_R_handsOut_167 : decode b_R_handsOut 167 = .ok (.bipush 17, 2) := by decide +kernel
theorem d_R_handsOut_169 : decode b_R_handsOut 169 = .ok (.if_icmp .lt 16, 3) := by decide +kernel
theorem d_R_handsOut_172 : decode b_R_handsOut 172 = .ok (.iload 4, 2) := by decide +kernel
theorem d_R_handsOut_174 : decode b_R_handsOut 174 = .ok (.aload_n 0, 1) := by decide +kernel
theorem d_R_handsOut_175 : decode b_R_handsOut 175 = .ok (.getfield 161, 3) := by decide +kernel
theorem d_R_handsOut_178 : decode b_R_handsOut 178 = .ok (.if_icmp .ge 7, 3) := by decide +kernel
theorem d_R_handsOut_181 : decode b_R_handsOut 181 = .ok (.iconst 1, 1) := by decide +kernel
theorem d_R_handsOut_182 : decode b_R_handsOut 182 = .ok (.goto 4, 3) := by decide +kernel
theorem d_R_handsOut_185 : decode b_R_handsOut 185 = .ok (.iconst 0, 1) := by decide +kernel
theorem d_R_handsOut_186 : decode b_R_handsOut 186 = .ok (.istore 5, 2) := by decide +kernel
theorem d_R_handsOut_188 : decode b_R_handsOut 188 = .ok (.iload 5, 2) := by decide +kernel
theorem d_R_handsOut_190 : decode b_R_handsOut 190 = .ok (.ifCond .eq 28, 3) := by decide +kernel
theorem d_R_handsOut_193 : decode b_R_handsOut 193 = .ok (.iload_n 3, 1) := by decide +kernel
theorem d_R_handsOut_194 : decode b_R_handsOut 194 = .ok (.bipush 20, 2) := by decide +kernel
theorem d_R_handsOut_196 : decode b_R_handsOut 196 = .ok (.if_icmp .ne 8, 3) := by decide +kernel
theorem d_R_handsOut_199 : decode b_R_handsOut 199 = .ok (.iload 4, 2) := by decide +kernel
theorem d_R_handsOut_201 : decode b_R_handsOut 201 = .ok (.ifCond .gt 17, 3) := by decide +kernel
theorem d_R_handsOut_204 : decode b_R_handsOut 204 = .ok (.aload_n 0, 1) := by decide +kernel
theorem d_R_handsOut_205 : decode b_R_handsOut 205 = .ok (.iload 4, 2) := by decide +kernel
theorem d_R_handsOut_207 : decode b_R_handsOut 207 = .ok (.putfield 167, 3) := by decide +kernel
theorem d_R_handsOut_210 : decode b_R_handsOut 210 = .ok (.aload_n 0, 1) := by decide +kernel
theorem d_R_handsOut_211 : decode b_R_handsOut 211 = .ok (.iconst 2, 1) := by decide +kernel
theorem d_R_handsOut_212 : decode b_R_handsOut 212 = .ok (.putfield 9, 3) := by decide +kernel
theorem d_R_handsOut_215 : decode b_R_handsOut 215 = .ok (.goto 36, 3) := by decide +kernel
theorem d_R_handsOut_218 : decode b_R_handsOut 218 = .ok (.aload_n 0, 1) := by decide +kernel
theorem d_R_handsOut_219 : decode b_R_handsOut 219 = .ok (.iload 5, 2) := by decide +kernel
theorem d_R_handsOut_221 : decode b_R_handsOut 221 = .ok (.ifCond .eq 8, 3) := by decide +kernel
theorem d_R_handsOut_224 : decode b_R_handsOut 224 = .ok (.iload 4, 2) := by decide +kernel
theorem d_R_handsOut_226 : decode b_R_handsOut 226 = .ok (.goto 7, 3) := by decide +kernel
theorem d_R_handsOut_229 : decode b_R_handsOut 229 = .ok (.aload_n 0, 1) := by decide +kernel
theorem d_R_handsOut_230 : decode b_R_handsOut 230 = .ok (.getfield 161, 3) := by decide +kernel
theorem d_R_handsOut_233 : decode b_R_handsOut 233 = .ok (.putfield 161, 3) := by decide +kernel
theorem d_R_handsOut_236 : decode b_R_handsOut 236 = .ok (.aload_n 0, 1) := by decide +kernel
theorem d_R_handsOut_237 : decode b_R_handsOut 237 = .ok (.iconst 0, 1) := by decide +kernel
theorem d_R_handsOut_238 : decode b_R_handsOut 238 = .ok (.putfield 167, 3) := by decide +kernel
theorem d_R_handsOut_241 : decode b_R_handsOut 241 = .ok (.aload_n 0, 1) := by decide +kernel
theorem d_R_handsOut_242 : decode b_R_handsOut 242 = .ok (.dup, 1) := by decide +kernel
theorem d_R_handsOut_243 : decode b_R_handsOut 243 = .ok (.getfield 170, 3) := by decide +kernel
theorem d_R_handsOut_246 : decode b_R_handsOut 246 = .ok (.iconst 1, 1) := by decide +kernel
theorem d_R_handsOut_247 : decode b_R_handsOut 247 = .ok (.iadd, 1) := by decide +kernel
theorem d_R_handsOut_248 : decode b_R_handsOut 248 = .ok (.putfield 170, 3) := by decide +kernel
theorem d_R_handsOut_251 : decode b_R_handsOut 251 = .ok (.aload_n 0, 1) := by decide +kernel
theorem d_R_handsOut_252 : decode b_R_handsOut 252 = .ok (.dup, 1) := by decide +kernel
theorem d_R_handsOut_253 : decode b_R_handsOut 253 = .ok (.getfield 146, 3) := by decide +kernel
theorem d_R_handsOut_256 : decode b_R_handsOut 256 = .ok (.aload_n 0, 1) := by decide +kernel
theorem d_R_handsOut_257 : decode b_R_handsOut 257 = .ok (.getfield 63, 3) := by decide +kernel
theorem d_R_handsOut_260 : decode b_R_handsOut 260 = .ok (.iload_n 2, 1) := by decide +kernel
theorem d_R_handsOut_261 : decode b_R_handsOut 261 = .ok (.iaload, 1) := by decide +kernel
theorem d_R_handsOut_262 : decode b_R_handsOut 262 = .ok (.ifCond .le 7, 3) := by decide +kernel
theorem d_R_handsOut_265 : decode b_R_handsOut 265 = .ok (.iconst 1, 1) := by decide +kernel
theorem d_R_handsOut_266 : decode b_R_handsOut 266 = .ok (.goto 4, 3) := by decide +kernel
theorem d_R_handsOut_269 : decode b_R_handsOut 269 = .ok (.iconst 0, 1) := by decide +kernel
theorem d_R_handsOut_270 : decode b_R_handsOut 270 = .ok (.iadd, 1) := by decide +kernel
theorem d_R_handsOut_271 : decode b_R_handsOut 271 = .ok (.putfield 146, 3) := by decide +kernel
theorem d_R_handsOut_274 : decode b_R_handsOut 274 = .ok (.return_, 1) := by decide +kernel
theorem d_R_bad_0 : decode b_R_bad 0 = .ok (.aload_n 0, 1) := by decide +kernel
theorem d_R_bad_1 : decode b_R_bad 1 = .ok (.getfield 51, 3) := by decide +kernel
theorem d_R_bad_4 : decode b_R_bad 4 = .ok (.iload_n 1, 1) := by decide +kernel
theorem d_R_bad_5 : decode b_R_bad 5 = .ok (.iaload, 1) := by decide +kernel
theorem d_R_bad_6 : decode b_R_bad 6 = .ok (.istore_n 2, 1) := by decide +kernel
theorem d_R_bad_7 : decode b_R_bad 7 = .ok (.aload_n 0, 1) := by decide +kernel
theorem d_R_bad_8 : decode b_R_bad 8 = .ok (.getfield 167, 3) := by decide +kernel
theorem d_R_bad_11 : decode b_R_bad 11 = .ok (.istore_n 3, 1) := by decide +kernel
theorem d_R_bad_12 : decode b_R_bad 12 = .ok (.iload_n 3, 1) := by decide +kernel
theorem d_R_bad_13 : decode b_R_bad 13 = .ok (.aload_n 0, 1) := by decide +kernel
theorem d_R_bad_14 : decode b_R_bad 14 = .ok (.getfield 161, 3) := by decide +kernel
theorem d_R_bad_17 : decode b_R_bad 17 = .ok (.if_icmp .ge 56, 3) := by decide +kernel
theorem d_R_bad_20 : decode b_R_bad 20 = .ok (.aload_n 0, 1) := by decide +kernel
theorem d_R_bad_21 : decode b_R_bad 21 = .ok (.getfield 47, 3) := by decide +kernel
theorem d_R_bad_24 : decode b_R_bad 24 = .ok (.iload_n 2, 1) := by decide +kernel
theorem d_R_bad_25 : decode b_R_bad 25 = .ok (.baload, 1) := by decide +kernel
theorem d_R_bad_26 : decode b_R_bad 26 = .ok (.ifCond .eq 12, 3) := by decide +kernel
theorem d_R_bad_29 : decode b_R_bad 29 = .ok (.aload_n 0, 1) := by decide +kernel
theorem d_R_bad_30 : decode b_R_bad 30 = .ok (.iconst 0, 1) := by decide +kernel
theorem d_R_bad_31 : decode b_R_bad 31 = .ok (.iload_n 3, 1) := by decide +kernel
theorem d_R_bad_32 : decode b_R_bad 32 = .ok (.invokevirtual 114, 3) := by decide +kernel
theorem d_R_bad_35 : decode b_R_bad 35 = .ok (.ifCond .eq 32, 3) := by decide +kernel
theorem d_R_bad_38 : decode b_R_bad 38 = .ok (.aload_n 0, 1) := by decide +kernel
theorem d_R_bad_39 : decode b_R_bad 39 = .ok (.iload_n 1, 1) := by decide +kernel
theorem d_R_bad_40 : decode b_R_bad 40 = .ok (.iload_n 3, 1) := by decide +kernel
theorem d_R_bad_41 : decode b_R_bad 41 = .ok (.invokevirtual 125, 3) := by decide +kernel
theorem d_R_bad_44 : decode b_R_bad 44 = .ok (.istore 4, 2) := by decide +kernel
theorem d_R_bad_46 : decode b_R_bad 46 = .ok (.iload 4, 2) := by decide +kernel
theorem d_R_bad_48 : decode b_R_bad 48 = .ok (.ifCond .lt 17, 3) := by decide +kernel
theorem d_R_bad_51 : decode b_R_bad 51 = .ok (.iload 4, 2) := by decide +kernel
theorem d_R_bad_53 : decode b_R_bad 53 = .ok (.aload_n 0, 1) := by decide +kernel
theorem d_R_bad_54 : decode b_R_bad 54 = .ok (.getfield 19, 3) := by decide +kernel
theorem d_R_bad_57 : decode b_R_bad 57 = .ok (.aload_n 0, 1) := by decide +kernel
theorem d_R_bad_58 : decode b_R_bad 58 = .ok (.getfield 13, 3) := by decide +kernel
theorem d_R_bad_61 : decode b_R_bad 61 = .ok (.isub, 1) := by decide +kernel
theorem d_R_bad_62 : decode b_R_bad 62 = .ok (.if_icmp .le 5, 3) := by decide +kernel
theorem d_R_bad_65 : decode b_R_bad 65 = .ok (.iload_n 3, 1) := by decide +kernel
theorem d_R_bad_66 : decode b_R_bad 66 = .ok (.ireturn, 1) := by decide +kernel
theorem d_R_bad_67 : decode b_R_bad 67 = .ok (.iinc 3 1, 3) := by decide +kernel
theorem d_R_bad_70 : decode b_R_bad 70 = .ok (.goto (-58), 3) := by decide +kernel
theorem d_R_bad_73 : decode b_R_bad 73 = .ok (.aload_n 0, 1) := by decide +kernel
theorem d_R_bad_74 : decode b_R_bad 74 = .ok (.getfield 161, 3) := by decide +kernel
theorem d_R_bad_77 : decode b_R_bad 77 = .ok (.ireturn, 1) := by decide +kernel
theorem d_R_put_0 : decode b_R_put 0 = .ok (.iload_n 1, 1) := by decide +kernel
theorem d_R_put_1 : decode b_R_put 1 = .ok (.ifCond .lt 61, 3) := by decide +kernel
theorem d_R_put_4 : decode b_R_put 4 = .ok (.iload_n 1, 1) := by decide +kernel
theorem d_R_put_5 : decode b_R_put 5 = .ok (.bipush 20, 2) := by decide +kernel
theorem d_R_put_7 : decode b_R_put 7 = .ok (.if_icmp .gt 55, 3) := by decide +kernel
theorem d_R_put_10 : decode b_R_put 10 = .ok (.iload_n 2, 1) := by decide +kernel
theorem d_R_put_11 : decode b_R_put 11 = .ok (.invokestatic 207, 3) := by decide +kernel
theorem d_R_put_14 : decode b_R_put 14 = .ok (.ifCond .eq 48, 3) := by decide +kernel
theorem d_R_put_17 : decode b_R_put 17 = .ok (.iload_n 3, 1) := by decide +kernel
theorem d_R_put_18 : decode b_R_put 18 = .ok (.invokestatic 207, 3) := by decide +kernel
theorem d_R_put_21 : decode b_R_put 21 = .ok (.ifCond .eq 41, 3) := by decide +kernel
theorem d_R_put_24 : decode b_R_put 24 = .ok (.iload 4, 2) := by decide +kernel
theorem d_R_put_26 : decode b_R_put 26 = .ok (.invokestatic 207, 3) := by decide +kernel
theorem d_R_put_29 : decode b_R_put 29 = .ok (.ifCond .eq 33, 3) := by decide +kernel
theorem d_R_put_32 : decode b_R_put 32 = .ok (.iload_n 1, 1) := by decide +kernel
theorem d_R_put_33 : decode b_R_put 33 = .ok (.bipush 6, 2) := by decide +kernel
theorem d_R_put_35 : decode b_R_put 35 = .ok (.if_icmp .ne 23, 3) := by decide +kernel
theorem d_R_put_38 : decode b_R_put 38 = .ok (.iload 5, 2) := by decide +kernel
theorem d_R_put_40 : decode b_R_put 40 = .ok (.ifCond .lt 22, 3) := by decide +kernel
theorem d_R_put_43 : decode b_R_put 43 = .ok (.iload 5, 2) := by decide +kernel
theorem d_R_put_45 : decode b_R_put 45 = .ok (.bipush 10, 2) := by decide +kernel
theorem d_R_put_47 : decode b_R_put 47 = .ok (.if_icmp .gt 15, 3) := by decide +kernel
theorem d_R_put_50 : decode b_R_put 50 = .ok (.iload 5, 2) := by decide +kernel
theorem d_R_put_52 : decode b_R_put 52 = .ok (.iconst 4, 1) := by decide +kernel
theorem d_R_put_53 : decode b_R_put 53 = .ok (.irem, 1) := by decide +kernel
theorem d_R_put_54 : decode b_R_put 54 = .ok (.iconst 3, 1) := by decide +kernel
theorem d_R_put_55 : decode b_R_put 55 = .ok (.if_icmp .eq 7, 3) := by decide +kernel
theorem d_R_put_58 : decode b_R_put 58 = .ok (.iconst 1, 1) := by decide +kernel
theorem d_R_put_59 : decode b_R_put 59 = .ok (.goto 4, 3) := by decide +kernel
theorem d_R_put_62 : decode b_R_put 62 = .ok (.iconst 0, 1) := by decide +kernel
theorem d_R_put_63 : decode b_R_put 63 = .ok (.istore 7, 2) := by decide +kernel
theorem d_R_put_65 : decode b_R_put 65 = .ok (.aload_n 0, 1) := by decide +kernel
theorem d_R_put_66 : decode b_R_put 66 = .ok (.iload 7, 2) := by decide +kernel
theorem d_R_put_68 : decode b_R_put 68 = .ok (.ifCond .ne 7, 3) := by decide +kernel
theorem d_R_put_71 : decode b_R_put 71 = .ok (.iconst 1, 1) := by decide +kernel
theorem d_R_put_72 : decode b_R_put 72 = .ok (.goto 24, 3) := by decide +kernel
theorem d_R_put_75 : decode b_R_put 75 = .ok (.aload_n 0, 1) := by decide +kernel
theorem d_R_put_76 : decode b_R_put 76 = .ok (.getfield 179, 3) := by decide +kernel
theorem d_R_put_79 : decode b_R_put 79 = .ok (.bipush 40, 2) := by decide +kernel
theorem d_R_put_81 : decode b_R_put 81 = .ok (.if_icmp .eq 10, 3) := by decide +kernel
theorem d_R_put_84 : decode b_R_put 84 = .ok (.aload_n 0, 1) := by decide +kernel
theorem d_R_put_85 : decode b_R_put 85 = .ok (.getfield 9, 3) := by decide +kernel
theorem d_R_put_88 : decode b_R_put 88 = .ok (.ifCond .ne 7, 3) := by decide +kernel
theorem d_R_put_91 : decode b_R_put 91 = .ok (.iconst 2, 1) := by decide +kernel
theorem d_R_put_92 : decode b_R_put 92 = .ok (.goto 4, 3) := by decide +kernel
theorem d_R_put_95 : decode b_R_put 95 = .ok (.iconst 0, 1) := by decide +kernel
theorem d_R_put_96 : decode b_R_put 96 = .ok (.putfield 81, 3) := by decide +kernel
theorem d_R_put_99 : decode b_R_put 99 = .ok (.aload_n 0, 1) := by decide +kernel
theorem d_R_put_100 : decode b_R_put 100 = .ok (.getfield 81, 3) := by decide +kernel
theorem d_R_put_103 : decode b_R_put 103 = .ok (.ifCond .le 5, 3) := by decide +kernel
theorem d_R_put_106 : decode b_R_put 106 = .ok (.iconst 0, 1) := by decide +kernel
theorem d_R_put_107 : decode b_R_put 107 = .ok (.ireturn, 1) := by decide +kernel
theorem d_R_put_108 : decode b_R_put 108 = .ok (.aload_n 0, 1) := by decide +kernel
theorem d_R_put_109 : decode b_R_put 109 = .ok (.getfield 32, 3) := by decide +kernel
theorem d_R_put_112 : decode b_R_put 112 = .ok (.aload_n 0, 1) := by decide +kernel
theorem d_R_put_113 : decode b_R_put 113 = .ok (.getfield 179, 3) := by decide +kernel
theorem d_R_put_116 : decode b_R_put 116 = .ok (.iload_n 1, 1) := by decide +kernel
theorem d_R_put_117 : decode b_R_put 117 = .ok (.iastore, 1) := by decide +kernel
theorem d_R_put_118 : decode b_R_put 118 = .ok (.aload_n 0, 1) := by decide +kernel
theorem d_R_put_119 : decode b_R_put 119 = .ok (.getfield 35, 3) := by decide +kernel
theorem d_R_put_122 : decode b_R_put 122 = .ok (.aload_n 0, 1) := by decide +kernel
theorem d_R_put_123 : decode b_R_put 123 = .ok (.getfield 179, 3) := by decide +kernel
theorem d_R_put_126 : decode b_R_put 126 = .ok (.iload_n 2, 1) := by decide +kernel
theorem d_R_put_127 : decode b_R_put 127 = .ok (.iastore, 1) := by decide +kernel
theorem d_R_put_128 : decode b_R_put 128 = .ok (.aload_n 0, 1) := by decide +kernel
theorem d_R_put_129 : decode b_R_put 129 = .ok (.getfield 38, 3) := by decide +kernel
theorem d_R_put_132 : decode b_R_put 132 = .ok (.aload_n 0, 1) := by decide +kernel
theorem d_R_put_133 : decode b_R_put 133 = .ok (.getfield 179, 3) := by decide +kernel
theorem d_R_put_136 : decode b_R_put 136 = .ok (.iload_n 3, 1) := by decide +kernel
theorem d_R_put_137 : decode b_R_put 137 = .ok (.iastore, 1) := by decide +kernel
theorem d_R_put_138 : decode b_R_put 138 = .ok (.aload_n 0, 1) := by decide +kernel
theorem d_R_put_139 : decode b_R_put 139 = .ok (.getfield 41, 3) := by decide +kernel
theorem d_R_put_142 : decode b_R_put 142 = .ok (.aload_n 0, 1) := by decide +kernel
theorem d_R_put_143 : decode b_R_put 143 = .ok (.getfield 179, 3) := by decide +kernel
theorem d_R_put_146 : decode b_R_put 146 = .ok (.iload 4, 2) := by decide +kernel
theorem d_R_put_148 : decode b_R_put 148 = .ok (.iastore, 1) := by decide +kernel
theorem d_R_put_149 : decode b_R_put 149 = .ok (.aload_n 0, 1) := by decide +kernel
theorem d_R_put_150 : decode b_R_put 150 = .ok (.getfield 44, 3) := by decide +kernel
theorem d_R_put_153 : decode b_R_put 153 = .ok (.aload_n 0, 1) := by decide +kernel
theorem d_R_put_154 : decode b_R_put 154 = .ok (.getfield 179, 3) := by decide +kernel
theorem d_R_put_157 : decode b_R_put 157 = .ok (.iload 5, 2) := by decide +kernel
theorem d_R_put_159 : decode b_R_put 159 = .ok (.iastore, 1) := by decide +kernel
theorem d_R_put_160 : decode b_R_put 160 = .ok (.aload_n 0, 1) := by decide +kernel
theorem d_R_put_161 : decode b_R_put 161 = .ok (.getfield 47, 3) := by decide +kernel
theorem d_R_put_164 : decode b_R_put 164 = .ok (.aload_n 0, 1) := by decide +kernel
theorem d_R_put_165 : decode b_R_put 165 = .ok (.getfield 179, 3) := by decide +kernel
theorem d_R_put_168 : decode b_R_put 168 = .ok (.iload 6, 2) := by decide +kernel
theorem d_R_put_170 : decode b_R_put 170 = .ok (.bastore, 1) := by decide +kernel
theorem d_R_put_171 : decode b_R_put 171 = .ok (.aload_n 0, 1) := by decide +kernel
theorem d_R_put_172 : decode b_R_put 172 = .ok (.dup, 1) := by decide +kernel
theorem d_R_put_173 : decode b_R_put 173 = .ok (.getfield 179, 3) := by decide +kernel
theorem d_R_put_176 : decode b_R_put 176 = .ok (.iconst 1, 1) := by decide +kernel
theorem d_R_put_177 : decode b_R_put 177 = .ok (.iadd, 1) := by decide +kernel
theorem d_R_put_178 : decode b_R_put 178 = .ok (.putfield 179, 3) := by decide +kernel
theorem d_R_put_181 : decode b_R_put 181 = .ok (.aload_n 0, 1) := by decide +kernel
theorem d_R_put_182 : decode b_R_put 182 = .ok (.getfield 179, 3) := by decide +kernel
theorem d_R_put_185 : decode b_R_put 185 = .ok (.iconst 1, 1) := by decide +kernel
theorem d_R_put_186 : decode b_R_put 186 = .ok (.isub, 1) := by decide +kernel
theorem d_R_put_187 : decode b_R_put 187 = .ok (.ireturn, 1) := by decide +kernel
theorem d_R_isRegister_0 : decode b_R_isRegister 0 = .ok (.iload_n 0, 1) := by decide +kernel
theorem d_R_isRegister_1 : decode b_R_isRegister 1 = .ok (.ifCond .lt 13, 3) := by decide +kernel
theorem d_R_isRegister_4 : decode b_R_isRegister 4 = .ok (.iload_n 0, 1) := by decide +kernel
theorem d_R_isRegister_5 : decode b_R_isRegister 5 = .ok (.bipush 7, 2) := by decide +kernel
theorem d_R_isRegister_7 : decode b_R_isRegister 7 = .ok (.if_icmp .gt 7, 3) := by decide +kernel
theorem d_R_isRegister_10 : decode b_R_isRegister 10 = .ok (.iconst 1, 1) := by decide +kernel
theorem d_R_isRegister_11 : decode b_R_isRegister 11 = .ok (.goto 4, 3) := by decide +kernel
theorem d_R_isRegister_14 : decode b_R_isRegister 14 = .ok (.iconst 0, 1) := by decide +kernel
theorem d_R_isRegister_15 : decode b_R_isRegister 15 = .ok (.ireturn, 1) := by decide +kernel
theorem d_R_go_0 : decode b_R_go 0 = .ok (.aload_n 0, 1) := by decide +kernel
theorem d_R_go_1 : decode b_R_go 1 = .ok (.iload_n 1, 1) := by decide +kernel
theorem d_R_go_2 : decode b_R_go 2 = .ok (.ifCond .lt 11, 3) := by decide +kernel
theorem d_R_go_5 : decode b_R_go 5 = .ok (.iload_n 1, 1) := by decide +kernel
theorem d_R_go_6 : decode b_R_go 6 = .ok (.aload_n 0, 1) := by decide +kernel
theorem d_R_go_7 : decode b_R_go 7 = .ok (.getfield 179, 3) := by decide +kernel
theorem d_R_go_10 : decode b_R_go 10 = .ok (.if_icmp .lt 7, 3) := by decide +kernel
theorem d_R_go_13 : decode b_R_go 13 = .ok (.iconst 1, 1) := by decide +kernel
theorem d_R_go_14 : decode b_R_go 14 = .ok (.goto 22, 3) := by decide +kernel
theorem d_R_go_17 : decode b_R_go 17 = .ok (.aload_n 0, 1) := by decide +kernel
theorem d_R_go_18 : decode b_R_go 18 = .ok (.getfield 9, 3) := by decide +kernel
theorem d_R_go_21 : decode b_R_go 21 = .ok (.ifCond .eq 10, 3) := by decide +kernel
theorem d_R_go_24 : decode b_R_go 24 = .ok (.aload_n 0, 1) := by decide +kernel
theorem d_R_go_25 : decode b_R_go 25 = .ok (.getfield 146, 3) := by decide +kernel
theorem d_R_go_28 : decode b_R_go 28 = .ok (.ifCond .le 7, 3) := by decide +kernel
theorem d_R_go_31 : decode b_R_go 31 = .ok (.iconst 2, 1) := by decide +kernel
theorem d_R_go_32 : decode b_R_go 32 = .ok (.goto 4, 3) := by decide +kernel
theorem d_R_go_35 : decode b_R_go 35 = .ok (.iconst 0, 1) := by decide +kernel
theorem d_R_go_36 : decode b_R_go 36 = .ok (.putfield 81, 3) := by decide +kernel
theorem d_R_go_39 : decode b_R_go 39 = .ok (.aload_n 0, 1) := by decide +kernel
theorem d_R_go_40 : decode b_R_go 40 = .ok (.getfield 81, 3) := by decide +kernel
theorem d_R_go_43 : decode b_R_go 43 = .ok (.ifCond .le 5, 3) := by decide +kernel
theorem d_R_go_46 : decode b_R_go 46 = .ok (.iconst 0, 1) := by decide +kernel
theorem d_R_go_47 : decode b_R_go 47 = .ok (.ireturn, 1) := by decide +kernel
theorem d_R_go_48 : decode b_R_go 48 = .ok (.aload_n 0, 1) := by decide +kernel
theorem d_R_go_49 : decode b_R_go 49 = .ok (.iload_n 1, 1) := by decide +kernel
theorem d_R_go_50 : decode b_R_go 50 = .ok (.putfield 170, 3) := by decide +kernel
theorem d_R_go_53 : decode b_R_go 53 = .ok (.aload_n 0, 1) := by decide +kernel
theorem d_R_go_54 : decode b_R_go 54 = .ok (.iconst 0, 1) := by decide +kernel
theorem d_R_go_55 : decode b_R_go 55 = .ok (.putfield 167, 3) := by decide +kernel
theorem d_R_go_58 : decode b_R_go 58 = .ok (.aload_n 0, 1) := by decide +kernel
theorem d_R_go_59 : decode b_R_go 59 = .ok (.iconst 0, 1) := by decide +kernel
theorem d_R_go_60 : decode b_R_go 60 = .ok (.putfield 9, 3) := by decide +kernel
theorem d_R_go_63 : decode b_R_go 63 = .ok (.iload_n 1, 1) := by decide +kernel
theorem d_R_go_64 : decode b_R_go 64 = .ok (.ireturn, 1) := by decide +kernel
theorem d_R_resume_0 : decode b_R_resume 0 = .ok (.aload_n 0, 1) := by decide +kernel
theorem d_R_resume_1 : decode b_R_resume 1 = .ok (.aload_n 0, 1) := by decide +kernel
theorem d_R_resume_2 : decode b_R_resume 2 = .ok (.getfield 9, 3) := by decide +kernel
theorem d_R_resume_5 : decode b_R_resume 5 = .ok (.iconst 2, 1) := by decide +kernel
theorem d_R_resume_6 : decode b_R_resume 6 = .ok (.if_icmp .ne 10, 3) := by decide +kernel
theorem d_R_resume_9 : decode b_R_resume 9 = .ok (.aload_n 0, 1) := by decide +kernel
theorem d_R_resume_10 : decode b_R_resume 10 = .ok (.getfield 146, 3) := by decide +kernel
theorem d_R_resume_13 : decode b_R_resume 13 = .ok (.ifCond .le 7, 3) := by decide +kernel
theorem d_R_resume_16 : decode b_R_resume 16 = .ok (.iconst 1, 1) := by decide +kernel
theorem d_R_resume_17 : decode b_R_resume 17 = .ok (.goto 4, 3) := by decide +kernel
theorem d_R_resume_20 : decode b_R_resume 20 = .ok (.iconst 0, 1) := by decide +kernel
theorem d_R_resume_21 : decode b_R_resume 21 = .ok (.putfield 81, 3) := by decide +kernel
theorem d_R_resume_24 : decode b_R_resume 24 = .ok (.aload_n 0, 1) := by decide +kernel
theorem d_R_resume_25 : decode b_R_resume 25 = .ok (.getfield 81, 3) := by decide +kernel
theorem d_R_resume_28 : decode b_R_resume 28 = .ok (.ifCond .le 5, 3) := by decide +kernel
theorem d_R_resume_31 : decode b_R_resume 31 = .ok (.iconst 0, 1) := by decide +kernel
theorem d_R_resume_32 : decode b_R_resume 32 = .ok (.ireturn, 1) := by decide +kernel
theorem d_R_resume_33 : decode b_R_resume 33 = .ok (.aload_n 0, 1) := by decide +kernel
theorem d_R_resume_34 : decode b_R_resume 34 = .ok (.iconst 0, 1) := by decide +kernel
theorem d_R_resume_35 : decode b_R_resume 35 = .ok (.putfield 9, 3) := by decide +kernel
theorem d_R_resume_38 : decode b_R_resume 38 = .ok (.aload_n 0, 1) := by decide +kernel
theorem d_R_resume_39 : decode b_R_resume 39 = .ok (.getfield 167, 3) := by decide +kernel
theorem d_R_resume_42 : decode b_R_resume 42 = .ok (.ireturn, 1) := by decide +kernel
theorem d_R_poke_0 : decode b_R_poke 0 = .ok (.aload_n 0, 1) := by decide +kernel
theorem d_R_poke_1 : decode b_R_poke 1 = .ok (.iload_n 1, 1) := by decide +kernel
theorem d_R_poke_2 : decode b_R_poke 2 = .ok (.ifCond .lt 22, 3) := by decide +kernel
theorem d_R_poke_5 : decode b_R_poke 5 = .ok (.iload_n 1, 1) := by decide +kernel
theorem d_R_poke_6 : decode b_R_poke 6 = .ok (.bipush 127, 2) := by decide +kernel
theorem d_R_poke_8 : decode b_R_poke 8 = .ok (.if_icmp .gt 16, 3) := by decide +kernel
theorem d_R_poke_11 : decode b_R_poke 11 = .ok (.iload_n 2, 1) := by decide +kernel
theorem d_R_poke_12 : decode b_R_poke 12 = .ok (.bipush (-128), 2) := by decide +kernel
theorem d_R_poke_14 : decode b_R_poke 14 = .ok (.if_icmp .lt 10, 3) := by decide +kernel
theorem d_R_poke_17 : decode b_R_poke 17 = .ok (.iload_n 2, 1) := by decide +kernel
theorem d_R_poke_18 : decode b_R_poke 18 = .ok (.sipush 255, 3) := by decide +kernel
theorem d_R_poke_21 : decode b_R_poke 21 = .ok (.if_icmp .le 7, 3) := by decide +kernel
theorem d_R_poke_24 : decode b_R_poke 24 = .ok (.iconst 1, 1) := by decide +kernel
theorem d_R_poke_25 : decode b_R_poke 25 = .ok (.goto 4, 3) := by decide +kernel
theorem d_R_poke_28 : decode b_R_poke 28 = .ok (.iconst 0, 1) := by decide +kernel
theorem d_R_poke_29 : decode b_R_poke 29 = .ok (.putfield 81, 3) := by decide +kernel
theorem d_R_poke_32 : decode b_R_poke 32 = .ok (.aload_n 0, 1) := by decide +kernel
theorem d_R_poke_33 : decode b_R_poke 33 = .ok (.getfield 81, 3) := by decide +kernel
theorem d_R_poke_36 : decode b_R_poke 36 = .ok (.ifCond .le 5, 3) := by decide +kernel
theorem d_R_poke_39 : decode b_R_poke 39 = .ok (.iconst 0, 1) := by decide +kernel
theorem d_R_poke_40 : decode b_R_poke 40 = .ok (.ireturn, 1) := by decide +kernel
theorem d_R_poke_41 : decode b_R_poke 41 = .ok (.aload_n 0, 1) := by decide +kernel
theorem d_R_poke_42 : decode b_R_poke 42 = .ok (.getfield 29, 3) := by decide +kernel
theorem d_R_poke_45 : decode b_R_poke 45 = .ok (.iload_n 1, 1) := by decide +kernel
theorem d_R_poke_46 : decode b_R_poke 46 = .ok (.iload_n 2, 1) := by decide +kernel
theorem d_R_poke_47 : decode b_R_poke 47 = .ok (.bipush 24, 2) := by decide +kernel
theorem d_R_poke_49 : decode b_R_poke 49 = .ok (.ishl, 1) := by decide +kernel
theorem d_R_poke_50 : decode b_R_poke 50 = .ok (.bipush 24, 2) := by decide +kernel
theorem d_R_poke_52 : decode b_R_poke 52 = .ok (.ishr, 1) := by decide +kernel
theorem d_R_poke_53 : decode b_R_poke 53 = .ok (.iastore, 1) := by decide +kernel
theorem d_R_poke_54 : decode b_R_poke 54 = .ok (.iconst 1, 1) := by decide +kernel
theorem d_R_poke_55 : decode b_R_poke 55 = .ok (.ireturn, 1) := by decide +kernel
theorem d_R_limit_0 : decode b_R_limit 0 = .ok (.aload_n 0, 1) := by decide +kernel
theorem d_R_limit_1 : decode b_R_limit 1 = .ok (.iload_n 1, 1) := by decide +kernel
theorem d_R_limit_2 : decode b_R_limit 2 = .ok (.ifCond .lt 10, 3) := by decide +kernel
theorem d_R_limit_5 : decode b_R_limit 5 = .ok (.iload_n 1, 1) := by decide +kernel
theorem d_R_limit_6 : decode b_R_limit 6 = .ok (.sipush 128, 3) := by decide +kernel
theorem d_R_limit_9 : decode b_R_limit 9 = .ok (.if_icmp .le 7, 3) := by decide +kernel
theorem d_R_limit_12 : decode b_R_limit 12 = .ok (.iconst 1, 1) := by decide +kernel
theorem d_R_limit_13 : decode b_R_limit 13 = .ok (.goto 22, 3) := by decide +kernel
theorem d_R_limit_16 : decode b_R_limit 16 = .ok (.aload_n 0, 1) := by decide +kernel
theorem d_R_limit_17 : decode b_R_limit 17 = .ok (.getfield 9, 3) := by decide +kernel
theorem d_R_limit_20 : decode b_R_limit 20 = .ok (.ifCond .eq 10, 3) := by decide +kernel
theorem d_R_limit_23 : decode b_R_limit 23 = .ok (.aload_n 0, 1) := by decide +kernel
theorem d_R_limit_24 : decode b_R_limit 24 = .ok (.getfield 146, 3) := by decide +kernel
theorem d_R_limit_27 : decode b_R_limit 27 = .ok (.ifCond .le 7, 3) := by decide +kernel
theorem d_R_limit_30 : decode b_R_limit 30 = .ok (.iconst 2, 1) := by decide +kernel
theorem d_R_limit_31 : decode b_R_limit 31 = .ok (.goto 4, 3) := by decide +kernel
theorem d_R_limit_34 : decode b_R_limit 34 = .ok (.iconst 0, 1) := by decide +kernel
theorem d_R_limit_35 : decode b_R_limit 35 = .ok (.putfield 81, 3) := by decide +kernel
theorem d_R_limit_38 : decode b_R_limit 38 = .ok (.aload_n 0, 1) := by decide +kernel
theorem d_R_limit_39 : decode b_R_limit 39 = .ok (.getfield 81, 3) := by decide +kernel
theorem d_R_limit_42 : decode b_R_limit 42 = .ok (.ifCond .le 5, 3) := by decide +kernel
theorem d_R_limit_45 : decode b_R_limit 45 = .ok (.iconst 0, 1) := by decide +kernel
theorem d_R_limit_46 : decode b_R_limit 46 = .ok (.ireturn, 1) := by decide +kernel
theorem d_R_limit_47 : decode b_R_limit 47 = .ok (.aload_n 0, 1) := by decide +kernel
theorem d_R_limit_48 : decode b_R_limit 48 = .ok (.iload_n 1, 1) := by decide +kernel
theorem d_R_limit_49 : decode b_R_limit 49 = .ok (.putfield 19, 3) := by decide +kernel
theorem d_R_limit_52 : decode b_R_limit 52 = .ok (.iconst 1, 1) := by decide +kernel
theorem d_R_limit_53 : decode b_R_limit 53 = .ok (.ireturn, 1) := by decide +kernel
theorem d_R_scalar_0 : decode b_R_scalar 0 = .ok (.aload_n 0, 1) := by decide +kernel
theorem d_R_scalar_1 : decode b_R_scalar 1 = .ok (.iconst 0, 1) := by decide +kernel
theorem d_R_scalar_2 : decode b_R_scalar 2 = .ok (.putfield 81, 3) := by decide +kernel
theorem d_R_scalar_5 : decode b_R_scalar 5 = .ok (.iload_n 1, 1) := by decide +kernel
theorem d_R_scalar_6 : decode b_R_scalar 6 = .ok (.invokestatic 207, 3) := by decide +kernel
theorem d_R_scalar_9 : decode b_R_scalar 9 = .ok (.ifCond .eq 12, 3) := by decide +kernel
theorem d_R_scalar_12 : decode b_R_scalar 12 = .ok (.aload_n 0, 1) := by decide +kernel
theorem d_R_scalar_13 : decode b_R_scalar 13 = .ok (.getfield 22, 3) := by decide +kernel
theorem d_R_scalar_16 : decode b_R_scalar 16 = .ok (.iload_n 1, 1) := by decide +kernel
theorem d_R_scalar_17 : decode b_R_scalar 17 = .ok (.iaload, 1) := by decide +kernel
theorem d_R_scalar_18 : decode b_R_scalar 18 = .ok (.goto 4, 3) := by decide +kernel
theorem d_R_scalar_21 : decode b_R_scalar 21 = .ok (.iconst 0, 1) := by decide +kernel
theorem d_R_scalar_22 : decode b_R_scalar 22 = .ok (.ireturn, 1) := by decide +kernel
theorem d_R_file_0 : decode b_R_file 0 = .ok (.aload_n 0, 1) := by decide +kernel
theorem d_R_file_1 : decode b_R_file 1 = .ok (.iconst 0, 1) := by decide +kernel
theorem d_R_file_2 : decode b_R_file 2 = .ok (.putfield 81, 3) := by decide +kernel
theorem d_R_file_5 : decode b_R_file 5 = .ok (.iload_n 1, 1) := by decide +kernel
theorem d_R_file_6 : decode b_R_file 6 = .ok (.ifCond .lt 18, 3) := by decide +kernel
theorem d_R_file_9 : decode b_R_file 9 = .ok (.iload_n 1, 1) := by decide +kernel
theorem d_R_file_10 : decode b_R_file 10 = .ok (.bipush 63, 2) := by decide +kernel
theorem d_R_file_12 : decode b_R_file 12 = .ok (.if_icmp .gt 12, 3) := by decide +kernel
theorem d_R_file_15 : decode b_R_file 15 = .ok (.aload_n 0, 1) := by decide +kernel
theorem d_R_file_16 : decode b_R_file 16 = .ok (.getfield 26, 3) := by decide +kernel
theorem d_R_file_19 : decode b_R_file 19 = .ok (.iload_n 1, 1) := by decide +kernel
theorem d_R_file_20 : decode b_R_file 20 = .ok (.iaload, 1) := by decide +kernel
theorem d_R_file_21 : decode b_R_file 21 = .ok (.goto 4, 3) := by decide +kernel
theorem d_R_file_24 : decode b_R_file 24 = .ok (.iconst 0, 1) := by decide +kernel
theorem d_R_file_25 : decode b_R_file 25 = .ok (.ireturn, 1) := by decide +kernel
theorem d_R_memory_0 : decode b_R_memory 0 = .ok (.aload_n 0, 1) := by decide +kernel
theorem d_R_memory_1 : decode b_R_memory 1 = .ok (.iconst 0, 1) := by decide +kernel
theorem d_R_memory_2 : decode b_R_memory 2 = .ok (.putfield 81, 3) := by decide +kernel
theorem d_R_memory_5 : decode b_R_memory 5 = .ok (.iload_n 1, 1) := by decide +kernel
theorem d_R_memory_6 : decode b_R_memory 6 = .ok (.ifCond .lt 18, 3) := by decide +kernel
theorem d_R_memory_9 : decode b_R_memory 9 = .ok (.iload_n 1, 1) := by decide +kernel
theorem d_R_memory_10 : decode b_R_memory 10 = .ok (.bipush 127, 2) := by decide +kernel
theorem d_R_memory_12 : decode b_R_memory 12 = .ok (.if_icmp .gt 12, 3) := by decide +kernel
theorem d_R_memory_15 : decode b_R_memory 15 = .ok (.aload_n 0, 1) := by decide +kernel
theorem d_R_memory_16 : decode b_R_memory 16 = .ok (.getfield 29, 3) := by decide +kernel
theorem d_R_memory_19 : decode b_R_memory 19 = .ok (.iload_n 1, 1) := by decide +kernel
theorem d_R_memory_20 : decode b_R_memory 20 = .ok (.iaload, 1) := by decide +kernel
theorem d_R_memory_21 : decode b_R_memory 21 = .ok (.goto 4, 3) := by decide +kernel
theorem d_R_memory_24 : decode b_R_memory 24 = .ok (.iconst 0, 1) := by decide +kernel
theorem d_R_memory_25 : decode b_R_memory 25 = .ok (.ireturn, 1) := by decide +kernel
theorem d_R_about_0 : decode b_R_about 0 = .ok (.aload_n 0, 1) := by decide +kernel
theorem d_R_about_1 : decode b_R_about 1 = .ok (.iconst 0, 1) := by decide +kernel
theorem d_R_about_2 : decode b_R_about 2 = .ok (.putfield 81, 3) := by decide +kernel
theorem d_R_about_5 : decode b_R_about 5 = .ok (.iload_n 1, 1) := by decide +kernel
theorem d_R_about_6 : decode b_R_about 6 = .ok (.tableswitch 113 0 10 #[58, 63, 68, 73, 78, 83, 88, 93, 98, 103, 108], 58) := by decide +kernel
theorem d_R_about_64 : decode b_R_about 64 = .ok (.aload_n 0, 1) := by decide +kernel
theorem d_R_about_65 : decode b_R_about 65 = .ok (.getfield 9, 3) := by decide +kernel
theorem d_R_about_68 : decode b_R_about 68 = .ok (.ireturn, 1) := by decide +kernel
theorem d_R_about_69 : decode b_R_about 69 = .ok (.aload_n 0, 1) := by decide +kernel
theorem d_R_about_70 : decode b_R_about 70 = .ok (.getfield 170, 3) := by decide +kernel
theorem d_R_about_73 : decode b_R_about 73 = .ok (.ireturn, 1) := by decide +kernel
theorem d_R_about_74 : decode b_R_about 74 = .ok (.aload_n 0, 1) := by decide +kernel
theorem d_R_about_75 : decode b_R_about 75 = .ok (.getfield 13, 3) := by decide +kernel
theorem d_R_about_78 : decode b_R_about 78 = .ok (.ireturn, 1) := by decide +kernel
theorem d_R_about_79 : decode b_R_about 79 = .ok (.aload_n 0, 1) := by decide +kernel
theorem d_R_about_80 : decode b_R_about 80 = .ok (.getfield 16, 3) := by decide +kernel
theorem d_R_about_83 : decode b_R_about 83 = .ok (.ireturn, 1) := by decide +kernel
theorem d_R_about_84 : decode b_R_about 84 = .ok (.aload_n 0, 1) := by decide +kernel
theorem d_R_about_85 : decode b_R_about 85 = .ok (.getfield 161, 3) := by decide +kernel
theorem d_R_about_88 : decode b_R_about 88 = .ok (.ireturn, 1) := by decide +kernel
theorem d_R_about_89 : decode b_R_about 89 = .ok (.aload_n 0, 1) := by decide +kernel
theorem d_R_about_90 : decode b_R_about 90 = .ok (.getfield 167, 3) := by decide +kernel
theorem d_R_about_93 : decode b_R_about 93 = .ok (.ireturn, 1) := by decide +kernel
theorem d_R_about_94 : decode b_R_about 94 = .ok (.aload_n 0, 1) := by decide +kernel
theorem d_R_about_95 : decode b_R_about 95 = .ok (.getfield 19, 3) := by decide +kernel
theorem d_R_about_98 : decode b_R_about 98 = .ok (.ireturn, 1) := by decide +kernel
theorem d_R_about_99 : decode b_R_about 99 = .ok (.aload_n 0, 1) := by decide +kernel
theorem d_R_about_100 : decode b_R_about 100 = .ok (.getfield 195, 3) := by decide +kernel
theorem d_R_about_103 : decode b_R_about 103 = .ok (.ireturn, 1) := by decide +kernel
theorem d_R_about_104 : decode b_R_about 104 = .ok (.aload_n 0, 1) := by decide +kernel
theorem d_R_about_105 : decode b_R_about 105 = .ok (.getfield 146, 3) := by decide +kernel
theorem d_R_about_108 : decode b_R_about 108 = .ok (.ireturn, 1) := by decide +kernel
theorem d_R_about_109 : decode b_R_about 109 = .ok (.aload_n 0, 1) := by decide +kernel
theorem d_R_about_110 : decode b_R_about 110 = .ok (.getfield 179, 3) := by decide +kernel
theorem d_R_about_113 : decode b_R_about 113 = .ok (.ireturn, 1) := by decide +kernel
theorem d_R_about_114 : decode b_R_about 114 = .ok (.aload_n 0, 1) := by decide +kernel
theorem d_R_about_115 : decode b_R_about 115 = .ok (.getfield 129, 3) := by decide +kernel
theorem d_R_about_118 : decode b_R_about 118 = .ok (.ireturn, 1) := by decide +kernel
theorem d_R_about_119 : decode b_R_about 119 = .ok (.iconst (-1), 1) := by decide +kernel
theorem d_R_about_120 : decode b_R_about 120 = .ok (.ireturn, 1) := by decide +kernel
theorem d_R_queue_0 : decode b_R_queue 0 = .ok (.aload_n 0, 1) := by decide +kernel
theorem d_R_queue_1 : decode b_R_queue 1 = .ok (.iconst 0, 1) := by decide +kernel
theorem d_R_queue_2 : decode b_R_queue 2 = .ok (.putfield 81, 3) := by decide +kernel
theorem d_R_queue_5 : decode b_R_queue 5 = .ok (.iload_n 1, 1) := by decide +kernel
theorem d_R_queue_6 : decode b_R_queue 6 = .ok (.ifCond .lt 11, 3) := by decide +kernel
theorem d_R_queue_9 : decode b_R_queue 9 = .ok (.iload_n 1, 1) := by decide +kernel
theorem d_R_queue_10 : decode b_R_queue 10 = .ok (.aload_n 0, 1) := by decide +kernel
theorem d_R_queue_11 : decode b_R_queue 11 = .ok (.getfield 146, 3) := by decide +kernel
theorem d_R_queue_14 : decode b_R_queue 14 = .ok (.if_icmp .lt 5, 3) := by decide +kernel
theorem d_R_queue_17 : decode b_R_queue 17 = .ok (.iconst (-1), 1) := by decide +kernel
theorem d_R_queue_18 : decode b_R_queue 18 = .ok (.ireturn, 1) := by decide +kernel
theorem d_R_queue_19 : decode b_R_queue 19 = .ok (.iload_n 2, 1) := by decide +kernel
theorem d_R_queue_20 : decode b_R_queue 20 = .ok (.ifCond .ne 12, 3) := by decide +kernel
theorem d_R_queue_23 : decode b_R_queue 23 = .ok (.aload_n 0, 1) := by decide +kernel
theorem d_R_queue_24 : decode b_R_queue 24 = .ok (.getfield 51, 3) := by decide +kernel
theorem d_R_queue_27 : decode b_R_queue 27 = .ok (.iload_n 1, 1) := by decide +kernel
theorem d_R_queue_28 : decode b_R_queue 28 = .ok (.iaload, 1) := by decide +kernel
theorem d_R_queue_29 : decode b_R_queue 29 = .ok (.goto 32, 3) := by decide +kernel
theorem d_R_queue_32 : decode b_R_queue 32 = .ok (.iload_n 2, 1) := by decide +kernel
theorem d_R_queue_33 : decode b_R_queue 33 = .ok (.iconst 1, 1) := by decide +kernel
theorem d_R_queue_34 : decode b_R_queue 34 = .ok (.if_icmp .ne 12, 3) := by decide +kernel
theorem d_R_queue_37 : decode b_R_queue 37 = .ok (.aload_n 0, 1) := by decide +kernel
theorem d_R_queue_38 : decode b_R_queue 38 = .ok (.getfield 63, 3) := by decide +kernel
theorem d_R_queue_41 : decode b_R_queue 41 = .ok (.iload_n 1, 1) := by decide +kernel
theorem d_R_queue_42 : decode b_R_queue 42 = .ok (.iaload, 1) := by decide +kernel
theorem d_R_queue_43 : decode b_R_queue 43 = .ok (.goto 18, 3) := by decide +kernel
theorem d_R_queue_46 : decode b_R_queue 46 = .ok (.iload_n 2, 1) := by decide +kernel
theorem d_R_queue_47 : decode b_R_queue 47 = .ok (.iconst 2, 1) := by decide +kernel
theorem d_R_queue_48 : decode b_R_queue 48 = .ok (.if_icmp .ne 12, 3) := by decide +kernel
theorem d_R_queue_51 : decode b_R_queue 51 = .ok (.aload_n 0, 1) := by decide +kernel
theorem d_R_queue_52 : decode b_R_queue 52 = .ok (.getfield 66, 3) := by decide +kernel
theorem d_R_queue_55 : decode b_R_queue 55 = .ok (.iload_n 1, 1) := by decide +kernel
theorem d_R_queue_56 : decode b_R_queue 56 = .ok (.iaload, 1) := by decide +kernel
theorem d_R_queue_57 : decode b_R_queue 57 = .ok (.goto 4, 3) := by decide +kernel
theorem d_R_queue_60 : decode b_R_queue 60 = .ok (.iconst (-1), 1) := by decide +kernel
theorem d_R_queue_61 : decode b_R_queue 61 = .ok (.ireturn, 1) := by decide +kernel
end
section
/-! the world by names: name k lies at ad k and holds cs k -/
def kw_w (ad : Nat → Nat) (cs : Nat → va_E) (n : Nat) : va_W := (List.range n).map (fun k => (ad k, cs k))
theorem kw_at {ad : Nat → Nat} {cs : Nat → va_E} {n k : Nat} (hk : k < n) : (kw_w ad cs n)[k]? = some (ad k, cs k) := by
  simp [kw_w, hk]
theorem kw_at' {ad : Nat → Nat} {cs : Nat → va_E} {n k : Nat} {q : Nat × va_E} (h : (kw_w ad cs n)[k]? = some q) : k < n ∧ q = (ad k, cs k) := by
  have hk : k < n := by
    have := (List.getElem?_eq_some_iff.mp h).1
    simpa [kw_w] using this
  exact ⟨hk, (Option.some.inj ((kw_at hk).symm.trans h)).symm⟩
theorem kw_set {ad : Nat → Nat} {cs : Nat → va_E} {n k : Nat} {e : va_E} : (kw_w ad cs n).set k (ad k, e) = kw_w ad (va_up cs k e) n := by
  apply List.ext_getElem?
  intro i
  rw [List.getElem?_set]
  by_cases hi : i < n
  · rw [kw_at hi]
    by_cases hk : k = i
    · subst hk
      rw [if_pos rfl, if_pos (by simpa [kw_w] using hi), kw_at hi, va_up_self]
    · rw [if_neg hk, kw_at hi, va_up_ne _ _ (fun h => hk h.symm)]
  · have h1 : (kw_w ad cs n)[i]? = none := by simp [kw_w]; omega
    have h2 : (kw_w ad (va_up cs k e) n)[i]? = none := by simp [kw_w]; omega
    rw [h1, h2]
    by_cases hk : k = i
    · rw [if_pos hk, if_neg (by simp [kw_w]; omega)]
    · rw [if_neg hk]
theorem kw_push {ad : Nat → Nat} {cs : Nat → va_E} {n q : Nat} {e : va_E} : kw_w ad cs n ++ [(q, e)] = kw_w (va_up ad n q) (va_up cs n e) (n + 1) := by
  unfold kw_w
  rw [List.range_succ, List.map_append]
  congr 1
  · apply List.map_congr_left
    intro k hk
    have h := List.mem_range.mp hk
    rw [va_up_ne _ _ (by omega), va_up_ne _ _ (by omega)]
  · simp [va_up_self]
/-- names lie apart -/
def kw_J (ad : Nat → Nat) (n : Nat) : Prop := ∀ i j, i < n → j < n → ad i = ad j → i = j
/-- the addresses of the names -/
def kw_A (ad : Nat → Nat) (n : Nat) : Nat → Prop := fun q => ∃ k, k < n ∧ ad k = q
theorem kw_D {ad : Nat → Nat} {n : Nat} {cs : Nat → va_E} {A : Nat → Prop} (hJ : kw_J ad n) (hA : ∀ k, k < n → A (ad k)) : va_D A (kw_w ad cs n) := by
  refine ⟨fun i j p q hi hj h => ?_, fun k q hk => ?_⟩
  · obtain ⟨h1, rfl⟩ := kw_at' hi
    obtain ⟨h2, rfl⟩ := kw_at' hj
    exact hJ i j h1 h2 h
  · obtain ⟨h1, rfl⟩ := kw_at' hk
    exact hA k h1
theorem kw_J.of {ad : Nat → Nat} {n : Nat} {cs : Nat → va_E} {A : Nat → Prop} (h : va_D A (kw_w ad cs n)) : kw_J ad n := fun i j hi hj he => h.1 i j _ _ (kw_at hi) (kw_at hj) he
section KWR
variable {p : Program} {l : Launch} {e : Env} {R : Room} {s : State} {m : MethodId} {args : Array Value} {below : List Frame} {meth : Method} {c : Code} {H : Heap} {locs : List Loc} {cells slots : Nat} {Q : State → Prop}
variable {cc : ByteArray} {pc : Nat} {ls : Array Slot} {rest : List Value} {D : va_G} {cl : List vw_C} {A : Nat → Prop} {tys : List (ClassId × FieldType)} {ad : Nat → Nat} {cs : Nat → va_E} {n : Nat} {H0 : Heap}
theorem kw_get (hexec : p.tables.exec = Jvm.exec) (hb : c.code = cc) {own ref C : String} {T : u_T} {N ci index : Nat} {Ts : List Cond} (hts : ∀ w ∈ Ts, w.before args s = true) (hin : ∀ w ∈ u_ws C T N, w ∈ Ts) (hown : s.vm.findClass own = some m.cls) (hK : va_K D cl tys s) (hP : va_P D cl (kw_w ad cs n) H) (q0 : Nat) (hq : q0 < n) {fs : List Value} (he : cs q0 = .inr (ci, fs)) (hc : cl[ci]? = some (C, T, N)) (k : Nat) (hk : k < N) (hlink : (Cond.fieldLink own index ref (T k).2.1 (T k).2.2.1).before args s = true) (hsame : (T k).1 = ref) {v : Value} (hv : fs[k]? = some v) (hdg : decode cc pc = .ok (.getfield index, 3))
    (kk : W p l e R s m args below meth c H locs cells slots Q (F0 m (pc + 3) ls (v :: rest))) : W p l e R s m args below meth c H locs cells slots Q (F0 m pc ls (.ref (ad q0) :: rest)) :=
  va_get hexec hb hts hin hown hK hP q0 ((kw_at hq).trans (by rw [he])) hc k hk hlink (fun x h => by rw [← hsame]; exact h) hv hdg kk
theorem kw_getN (hexec : p.tables.exec = Jvm.exec) (hb : c.code = cc) {own ref C host : String} {T : u_T} {N ci index : Nat} {Ts : List Cond} (hts : ∀ w ∈ Ts, w.before args s = true) (hin : ∀ w ∈ u_ws C T N, w ∈ Ts) (hown : s.vm.findClass own = some m.cls) (hK : va_K D cl tys s) (hP : va_P D cl (kw_w ad cs n) H) (q0 : Nat) (hq : q0 < n) {fs : List Value} (he : cs q0 = .inr (ci, fs)) (hc : cl[ci]? = some (C, T, N)) (k : Nat) (hk : k < N) (hlink : (Cond.fieldLinkNest own index ref (T k).2.1 (T k).2.2.1 host).before args s = true) (hsame : (T k).1 = ref) {v : Value} (hv : fs[k]? = some v) (hdg : decode cc pc = .ok (.getfield index, 3))
    (kk : W p l e R s m args below meth c H locs cells slots Q (F0 m (pc + 3) ls (v :: rest))) : W p l e R s m args below meth c H locs cells slots Q (F0 m pc ls (.ref (ad q0) :: rest)) :=
  va_getN hexec hb hts hin hown hK hP q0 ((kw_at hq).trans (by rw [he])) hc k hk hlink (fun x h => by rw [← hsame]; exact h) hv hdg kk
theorem kw_put (hexec : p.tables.exec = Jvm.exec) (hb : c.code = cc) {own ref C : String} {T : u_T} {N ci index : Nat} {Ts : List Cond} (hts : ∀ w ∈ Ts, w.before args s = true) (hin : ∀ w ∈ u_ws C T N, w ∈ Ts) (ty0 : Nat → FieldType) (hty : ∀ k, k < N → parseFieldDescriptor (T k).2.2.1 = some (ty0 k)) (hnm : ∀ a, a < N → ∀ b, b < N → a ≠ b → (T a).2.1 ≠ (T b).2.1) (hown : s.vm.findClass own = some m.cls) (hK : va_K D cl tys s) (hP : va_P D cl (kw_w ad cs n) H) (hJ : kw_J ad n) (hA : ∀ k, k < n → A (ad k)) (hS : va_S A H0 H locs) (q0 : Nat) (hq : q0 < n) {fs : List Value} (he : cs q0 = .inr (ci, fs)) (hc : cl[ci]? = some (C, T, N)) (k : Nat) (hk : k < N) (hlink : (Cond.fieldLink own index ref (T k).2.1 (T k).2.2.1).before args s = true) (hsame : (T k).1 = ref) (hfin : (T k).2.2.2 = false) {ty : FieldType} {v : Value} (hd : parseFieldDescriptor (T k).2.2.1 = some ty) (hn : narrow ty v = v) (hfit : fits ty v = true) (hl : k < fs.length) (hdg : decode cc pc = .ok (.putfield index, 3))
    (kk : ∀ (H1 : Heap) (locs1 : List Loc), va_P D cl (kw_w ad (va_up cs q0 (.inr (ci, fs.set k v))) n) H1 → va_S A H0 H1 locs1 → W p l e R s m args below meth c H1 locs1 cells slots Q (F0 m (pc + 3) ls rest)) : W p l e R s m args below meth c H locs cells slots Q (F0 m pc ls (v :: .ref (ad q0) :: rest)) :=
  va_put hexec hb hts hin ty0 hty hnm hown hK hP (kw_D hJ hA) hS q0 ((kw_at hq).trans (by rw [he])) hc k hk hlink (fun x h => by rw [← hsame]; exact h) hfin hd hn hfit hl hdg (fun H1 locs1 h1 _ h3 => kk H1 locs1 (by rw [kw_set] at h1; exact h1) h3)
theorem kw_putN (hexec : p.tables.exec = Jvm.exec) (hb : c.code = cc) {own ref C host : String} {T : u_T} {N ci index : Nat} {Ts : List Cond} (hts : ∀ w ∈ Ts, w.before args s = true) (hin : ∀ w ∈ u_ws C T N, w ∈ Ts) (ty0 : Nat → FieldType) (hty : ∀ k, k < N → parseFieldDescriptor (T k).2.2.1 = some (ty0 k)) (hnm : ∀ a, a < N → ∀ b, b < N → a ≠ b → (T a).2.1 ≠ (T b).2.1) (hown : s.vm.findClass own = some m.cls) (hK : va_K D cl tys s) (hP : va_P D cl (kw_w ad cs n) H) (hJ : kw_J ad n) (hA : ∀ k, k < n → A (ad k)) (hS : va_S A H0 H locs) (q0 : Nat) (hq : q0 < n) {fs : List Value} (he : cs q0 = .inr (ci, fs)) (hc : cl[ci]? = some (C, T, N)) (k : Nat) (hk : k < N) (hlink : (Cond.fieldLinkNest own index ref (T k).2.1 (T k).2.2.1 host).before args s = true) (hsame : (T k).1 = ref) (hfin : (T k).2.2.2 = false) {ty : FieldType} {v : Value} (hd : parseFieldDescriptor (T k).2.2.1 = some ty) (hn : narrow ty v = v) (hfit : fits ty v = true) (hl : k < fs.length) (hdg : decode cc pc = .ok (.putfield index, 3))
    (kk : ∀ (H1 : Heap) (locs1 : List Loc), va_P D cl (kw_w ad (va_up cs q0 (.inr (ci, fs.set k v))) n) H1 → va_S A H0 H1 locs1 → W p l e R s m args below meth c H1 locs1 cells slots Q (F0 m (pc + 3) ls rest)) : W p l e R s m args below meth c H locs cells slots Q (F0 m pc ls (v :: .ref (ad q0) :: rest)) :=
  va_putN hexec hb hts hin ty0 hty hnm hown hK hP (kw_D hJ hA) hS q0 ((kw_at hq).trans (by rw [he])) hc k hk hlink (fun x h => by rw [← hsame]; exact h) hfin hd hn hfit hl hdg (fun H1 locs1 h1 _ h3 => kk H1 locs1 (by rw [kw_set] at h1; exact h1) h3)
theorem kw_iald (hexec : p.tables.exec = Jvm.exec) (hb : c.code = cc) (hK : va_K D cl tys s) (hP : va_P D cl (kw_w ad cs n) H) (q0 t0 : Nat) (hq : q0 < n) {cA : ClassId} {N : Nat} {f : Nat → Int32} (he : cs q0 = .inl (cA, N, .inl f)) (ht : tys[t0]? = some (cA, .int)) {i : Int32} (j : Nat) (hi : i = nI j) (hj : j < N) (hN : N < 2 ^ 31) (hdg : decode cc pc = .ok (.iaload, 1))
    (kk : W p l e R s m args below meth c H locs cells slots Q (F0 m (pc + 1) ls (.int (f j) :: rest))) : W p l e R s m args below meth c H locs cells slots Q (F0 m pc ls (.int i :: .ref (ad q0) :: rest)) := by
  subst hi
  refine va_iald hexec hb hK hP q0 t0 ((kw_at hq).trans (by rw [he])) ht (vp_in_nI hj hN) hdg ?_
  rw [nI_clamp (Nat.lt_trans hj hN)]
  exact kk
theorem kw_bald (hexec : p.tables.exec = Jvm.exec) (hb : c.code = cc) (hK : va_K D cl tys s) (hP : va_P D cl (kw_w ad cs n) H) (q0 t0 : Nat) (hq : q0 < n) {cA : ClassId} {N : Nat} {f : Nat → Int32} (he : cs q0 = .inl (cA, N, .inl f)) (ht : tys[t0]? = some (cA, .byte)) {i : Int32} (j : Nat) (hi : i = nI j) (hj : j < N) (hN : N < 2 ^ 31) (hdg : decode cc pc = .ok (.baload, 1))
    (kk : W p l e R s m args below meth c H locs cells slots Q (F0 m (pc + 1) ls (.int (f j) :: rest))) : W p l e R s m args below meth c H locs cells slots Q (F0 m pc ls (.int i :: .ref (ad q0) :: rest)) := by
  subst hi
  refine va_bald hexec hb hK hP q0 t0 ((kw_at hq).trans (by rw [he])) ht (vp_in_nI hj hN) hdg ?_
  rw [nI_clamp (Nat.lt_trans hj hN)]
  exact kk
theorem kw_zald (hexec : p.tables.exec = Jvm.exec) (hb : c.code = cc) (hK : va_K D cl tys s) (hP : va_P D cl (kw_w ad cs n) H) (q0 t0 : Nat) (hq : q0 < n) {cA : ClassId} {N : Nat} {f : Nat → Int32} (he : cs q0 = .inl (cA, N, .inl f)) (ht : tys[t0]? = some (cA, .boolean)) {i : Int32} (j : Nat) (hi : i = nI j) (hj : j < N) (hN : N < 2 ^ 31) (hdg : decode cc pc = .ok (.baload, 1))
    (kk : W p l e R s m args below meth c H locs cells slots Q (F0 m (pc + 1) ls (.int (f j) :: rest))) : W p l e R s m args below meth c H locs cells slots Q (F0 m pc ls (.int i :: .ref (ad q0) :: rest)) := by
  subst hi
  refine va_zald hexec hb hK hP q0 t0 ((kw_at hq).trans (by rw [he])) ht (vp_in_nI hj hN) hdg ?_
  rw [nI_clamp (Nat.lt_trans hj hN)]
  exact kk
theorem kw_lald (hexec : p.tables.exec = Jvm.exec) (hb : c.code = cc) (hK : va_K D cl tys s) (hP : va_P D cl (kw_w ad cs n) H) (q0 t0 : Nat) (hq : q0 < n) {cA : ClassId} {N : Nat} {f : Nat → Int64} (he : cs q0 = .inl (cA, N, .inr (.inl f))) (ht : tys[t0]? = some (cA, .long)) {i : Int32} (j : Nat) (hi : i = nI j) (hj : j < N) (hN : N < 2 ^ 31) (hdg : decode cc pc = .ok (.laload, 1))
    (kk : W p l e R s m args below meth c H locs cells slots Q (F0 m (pc + 1) ls (.long (f j) :: rest))) : W p l e R s m args below meth c H locs cells slots Q (F0 m pc ls (.int i :: .ref (ad q0) :: rest)) := by
  subst hi
  refine va_lald hexec hb hK hP q0 t0 ((kw_at hq).trans (by rw [he])) ht (vp_in_nI hj hN) hdg ?_
  rw [nI_clamp (Nat.lt_trans hj hN)]
  exact kk
theorem kw_iast (hexec : p.tables.exec = Jvm.exec) (hb : c.code = cc) (hK : va_K D cl tys s) (hP : va_P D cl (kw_w ad cs n) H) (hJ : kw_J ad n) (hA : ∀ k, k < n → A (ad k)) (hS : va_S A H0 H locs) (q0 t0 : Nat) (hq : q0 < n) {cA : ClassId} {N : Nat} {f : Nat → Int32} (he : cs q0 = .inl (cA, N, .inl (f))) (ht : tys[t0]? = some (cA, .int)) {i : Int32} {x : Int32} (j : Nat) (hi : i = nI j) (hj : j < N) (hN : N < 2 ^ 31) (hdg : decode cc pc = .ok (.iastore, 1))
    (kk : ∀ (H1 : Heap) (locs1 : List Loc), va_P D cl (kw_w ad (va_up cs q0 (.inl (cA, N, .inl (upd f j x)))) n) H1 → va_S A H0 H1 locs1 → W p l e R s m args below meth c H1 locs1 cells slots Q (F0 m (pc + 1) ls rest)) : W p l e R s m args below meth c H locs cells slots Q (F0 m pc ls (.int x :: .int i :: .ref (ad q0) :: rest)) := by
  subst hi
  refine va_iast hexec hb hK hP (kw_D hJ hA) hS q0 t0 ((kw_at hq).trans (by rw [he])) ht (vp_in_nI hj hN) hdg (fun H1 locs1 h1 _ h3 => ?_)
  rw [nI_clamp (Nat.lt_trans hj hN), kw_set] at h1
  exact kk H1 locs1 h1 h3
theorem kw_bast (hexec : p.tables.exec = Jvm.exec) (hb : c.code = cc) (hK : va_K D cl tys s) (hP : va_P D cl (kw_w ad cs n) H) (hJ : kw_J ad n) (hA : ∀ k, k < n → A (ad k)) (hS : va_S A H0 H locs) (q0 t0 : Nat) (hq : q0 < n) {cA : ClassId} {N : Nat} {f : Nat → Int32} (he : cs q0 = .inl (cA, N, .inl (f))) (ht : tys[t0]? = some (cA, .byte)) {i : Int32} {x : Int32} (j : Nat) (hi : i = nI j) (hj : j < N) (hN : N < 2 ^ 31) (hdg : decode cc pc = .ok (.bastore, 1))
    (kk : ∀ (H1 : Heap) (locs1 : List Loc), va_P D cl (kw_w ad (va_up cs q0 (.inl (cA, N, .inl (upd f j (vp_nar .byte x))))) n) H1 → va_S A H0 H1 locs1 → W p l e R s m args below meth c H1 locs1 cells slots Q (F0 m (pc + 1) ls rest)) : W p l e R s m args below meth c H locs cells slots Q (F0 m pc ls (.int x :: .int i :: .ref (ad q0) :: rest)) := by
  subst hi
  refine va_bast hexec hb hK hP (kw_D hJ hA) hS q0 t0 ((kw_at hq).trans (by rw [he])) ht (vp_in_nI hj hN) hdg (fun H1 locs1 h1 _ h3 => ?_)
  rw [nI_clamp (Nat.lt_trans hj hN), kw_set] at h1
  exact kk H1 locs1 h1 h3
theorem kw_zast (hexec : p.tables.exec = Jvm.exec) (hb : c.code = cc) (hK : va_K D cl tys s) (hP : va_P D cl (kw_w ad cs n) H) (hJ : kw_J ad n) (hA : ∀ k, k < n → A (ad k)) (hS : va_S A H0 H locs) (q0 t0 : Nat) (hq : q0 < n) {cA : ClassId} {N : Nat} {f : Nat → Int32} (he : cs q0 = .inl (cA, N, .inl (f))) (ht : tys[t0]? = some (cA, .boolean)) {i : Int32} {x : Int32} (j : Nat) (hi : i = nI j) (hj : j < N) (hN : N < 2 ^ 31) (hdg : decode cc pc = .ok (.bastore, 1))
    (kk : ∀ (H1 : Heap) (locs1 : List Loc), va_P D cl (kw_w ad (va_up cs q0 (.inl (cA, N, .inl (upd f j (vp_nar .boolean x))))) n) H1 → va_S A H0 H1 locs1 → W p l e R s m args below meth c H1 locs1 cells slots Q (F0 m (pc + 1) ls rest)) : W p l e R s m args below meth c H locs cells slots Q (F0 m pc ls (.int x :: .int i :: .ref (ad q0) :: rest)) := by
  subst hi
  refine va_zast hexec hb hK hP (kw_D hJ hA) hS q0 t0 ((kw_at hq).trans (by rw [he])) ht (vp_in_nI hj hN) hdg (fun H1 locs1 h1 _ h3 => ?_)
  rw [nI_clamp (Nat.lt_trans hj hN), kw_set] at h1
  exact kk H1 locs1 h1 h3
theorem kw_last (hexec : p.tables.exec = Jvm.exec) (hb : c.code = cc) (hK : va_K D cl tys s) (hP : va_P D cl (kw_w ad cs n) H) (hJ : kw_J ad n) (hA : ∀ k, k < n → A (ad k)) (hS : va_S A H0 H locs) (q0 t0 : Nat) (hq : q0 < n) {cA : ClassId} {N : Nat} {f : Nat → Int64} (he : cs q0 = .inl (cA, N, .inr (.inl (f)))) (ht : tys[t0]? = some (cA, .long)) {i : Int32} {x : Int64} (j : Nat) (hi : i = nI j) (hj : j < N) (hN : N < 2 ^ 31) (hdg : decode cc pc = .ok (.lastore, 1))
    (kk : ∀ (H1 : Heap) (locs1 : List Loc), va_P D cl (kw_w ad (va_up cs q0 (.inl (cA, N, .inr (.inl (vp_updL f j x))))) n) H1 → va_S A H0 H1 locs1 → W p l e R s m args below meth c H1 locs1 cells slots Q (F0 m (pc + 1) ls rest)) : W p l e R s m args below meth c H locs cells slots Q (F0 m pc ls (.long x :: .int i :: .ref (ad q0) :: rest)) := by
  subst hi
  refine va_last hexec hb hK hP (kw_D hJ hA) hS q0 t0 ((kw_at hq).trans (by rw [he])) ht (vp_in_nI hj hN) hdg (fun H1 locs1 h1 _ h3 => ?_)
  rw [nI_clamp (Nat.lt_trans hj hN), kw_set] at h1
  exact kk H1 locs1 h1 h3
theorem kw_alen (hexec : p.tables.exec = Jvm.exec) (hb : c.code = cc) (hK : va_K D cl tys s) (hP : va_P D cl (kw_w ad cs n) H) (q0 t0 : Nat) (hq : q0 < n) {cA : ClassId} {x : vp_A} (he : cs q0 = .inl (cA, x)) {ty : FieldType} (ht : tys[t0]? = some (cA, ty)) {v : Int32} (hv : Int32.ofNat x.1 = v) (hdg : decode cc pc = .ok (.arraylength, 1))
    (kk : W p l e R s m args below meth c H locs cells slots Q (F0 m (pc + 1) ls (.int v :: rest))) : W p l e R s m args below meth c H locs cells slots Q (F0 m pc ls (.ref (ad q0) :: rest)) :=
  va_alen hexec hb hK hP q0 t0 ((kw_at hq).trans (by rw [he])) ht hv hdg kk
theorem kw_aldq (hexec : p.tables.exec = Jvm.exec) (hb : c.code = cc) (hK : va_K D cl tys s) (hP : va_P D cl (kw_w ad cs n) H) (q0 t0 : Nat) (hq : q0 < n) {cA : ClassId} {C : String} {N : Nat} {f : Nat → Option Nat} (he : cs q0 = .inl (cA, N, .inr (.inr (.inr (.inr f))))) (ht : tys[t0]? = some (cA, .object C)) {i : Int32} (j : Nat) (hi : i = nI j) (hj : j < N) (hN : N < 2 ^ 31) (hdg : decode cc pc = .ok (.aaload, 1))
    (kk : W p l e R s m args below meth c H locs cells slots Q (F0 m (pc + 1) ls (va_rf (f j) :: rest))) : W p l e R s m args below meth c H locs cells slots Q (F0 m pc ls (.int i :: .ref (ad q0) :: rest)) := by
  subst hi
  refine va_aldq hexec hb hK hP q0 t0 ((kw_at hq).trans (by rw [he])) ht (vp_in_nI hj hN) hdg ?_
  rw [nI_clamp (Nat.lt_trans hj hN)]
  exact kk
theorem kw_astq (hexec : p.tables.exec = Jvm.exec) (hb : c.code = cc) (hK : va_K D cl tys s) (hP : va_P D cl (kw_w ad cs n) H) (hJ : kw_J ad n) (hA : ∀ k, k < n → A (ad k)) (hS : va_S A H0 H locs) (q0 t0 qk ci : Nat) (hq : q0 < n) (hqk : qk < n) {cA : ClassId} {r : vw_C} {N : Nat} {vs : List Value} {f : Nat → Option Nat} (he : cs q0 = .inl (cA, N, .inr (.inr (.inr (.inr f))))) (ht : tys[t0]? = some (cA, .object r.1)) (hv : cs qk = .inr (ci, vs)) (hc : cl[ci]? = some r) {i : Int32} (j : Nat) (hi : i = nI j) (hj : j < N) (hN : N < 2 ^ 31) (hdg : decode cc pc = .ok (.aastore, 1))
    (kk : ∀ (H1 : Heap) (locs1 : List Loc), va_P D cl (kw_w ad (va_up cs q0 (.inl (cA, N, .inr (.inr (.inr (.inr (va_up f j (some (ad qk))))))))) n) H1 → va_S A H0 H1 locs1 → W p l e R s m args below meth c H1 locs1 cells slots Q (F0 m (pc + 1) ls rest)) : W p l e R s m args below meth c H locs cells slots Q (F0 m pc ls (.ref (ad qk) :: .int i :: .ref (ad q0) :: rest)) := by
  subst hi
  refine va_astq hexec hb hK hP (kw_D hJ hA) hS q0 t0 qk ci ((kw_at hq).trans (by rw [he])) ht ((kw_at hqk).trans (by rw [hv])) hc (vp_in_nI hj hN) hdg (fun H1 locs1 h1 _ h3 => ?_)
  rw [nI_clamp (Nat.lt_trans hj hN), kw_set] at h1
  exact kk H1 locs1 h1 h3
end KWR
end
section
/-! contracts over the world by names -/
def kw_Pre (D : va_G) (cl : List vw_C) (tys : List (ClassId × FieldType)) (ad : Nat → Nat) (n : Nat) (cs : Nat → va_E) (U : State) : Prop := va_P D cl (kw_w ad cs n) U.heap ∧ va_K D cl tys U
def kw_mi (l : Launch) (y : MethodName) (ws : List Cond) (rm : Room) (D : va_G) (cl : List vw_C) (tys : List (ClassId × FieldType)) (ad : Nat → Nat) (n : Nat) (cs : Nat → va_E) (vs : List Value) (post : Int32 → (Nat → va_E) → Prop) : Prop :=
  Met l y ws rm (va_Pc vs (kw_Pre D cl tys ad n cs)) (va_Qi post (kw_Pre D cl tys ad n) (kw_A ad n)) 0 0 (kw_A ad n)
def kw_ml (l : Launch) (y : MethodName) (ws : List Cond) (rm : Room) (D : va_G) (cl : List vw_C) (tys : List (ClassId × FieldType)) (ad : Nat → Nat) (n : Nat) (cs : Nat → va_E) (vs : List Value) (post : Int64 → (Nat → va_E) → Prop) : Prop :=
  Met l y ws rm (va_Pc vs (kw_Pre D cl tys ad n cs)) (va_Ql post (kw_Pre D cl tys ad n) (kw_A ad n)) 0 0 (kw_A ad n)
def kw_mv (l : Launch) (y : MethodName) (ws : List Cond) (rm : Room) (D : va_G) (cl : List vw_C) (tys : List (ClassId × FieldType)) (ad : Nat → Nat) (n : Nat) (cs : Nat → va_E) (vs : List Value) (post : (Nat → va_E) → Prop) : Prop :=
  Met l y ws rm (va_Pc vs (kw_Pre D cl tys ad n cs)) (va_Qv post (kw_Pre D cl tys ad n) (kw_A ad n)) 0 0 (kw_A ad n)
theorem kw_blind {D : va_G} {cl : List vw_C} {tys : List (ClassId × FieldType)} {ad : Nat → Nat} {n : Nat} {cs : Nat → va_E} {vs : List Value} : FrameBlind (va_Pc vs (kw_Pre D cl tys ad n cs)) := fun a U g mk h => by
  obtain ⟨h0, hP, hK⟩ := h
  exact ⟨h0, hP, va_K.moved (u := U) (U := U.calling g mk a) (Vm.Alike.refl U.vm) hK⟩
theorem kw_of {l : Launch} {y : MethodName} {ws ws' : List Cond} {rm : Room} {D : va_G} {cl : List vw_C} {tys : List (ClassId × FieldType)} {ad : Nat → Nat} {n : Nat} {cs : Nat → va_E} {vs : List Value} {Qc : Array Value → State → Outcome → State → Prop} {free : Addr → Prop} {mc ms : Nat} {cc : ByteArray} {maxL : Nat} {ret : Option FieldType}
    (hy : plainName y.cls = true) (hw : ws = Cond.code y cc maxL ret :: ws') (hlen : (lg_sl vs).length ≤ maxL)
    (body : ∀ (p : Program) (e : Env) (s : State) (m : MethodId) (below : List Frame) (meth : Method) (c : Code) (ls : Array Slot), p.tables.exec = Jvm.exec → c.code = cc → meth.sig.returnType = ret → c.maxLocals = maxL → s.vm.findClass y.cls = some m.cls → (∀ w ∈ ws, w.before vs.toArray s = true) → meth.locks = false → va_P D cl (kw_w ad cs n) s.heap → va_K D cl tys s → lv_has ls maxL (lv_args 0 vs) →
      W p l e rm s m vs.toArray below meth c s.heap [] 0 0 (MQ below Qc vs.toArray s mc ms free) (F0 m 0 ls [])) : Met l y ws rm (va_Pc vs (kw_Pre D cl tys ad n cs)) Qc mc ms free := by
  refine Met.ofW (cc := cc) (maxL := maxL) (ret := ret) hy hw ?_
  intro p e s m args below meth c s₁ B hml hv
  obtain ⟨rfl, hP, hK⟩ := hv
  rw [lg_entry_eq]
  exact body p e s m below meth c _ B.exec B.bytes B.returns hml (findClass_of_methodNamed B.named) (atoms_spec (ws := ws) B.pre) B.notSynchronized hP hK (lv_entry vs hlen)
section KWC
variable {p : Program} {l : Launch} {e : Env} {R : Room} {s : State} {m : MethodId} {args : Array Value} {below : List Frame} {meth : Method} {c : Code} {H : Heap} {locs : List Loc} {cells slots : Nat} {Q : State → Prop}
variable {cc : ByteArray} {pc : Nat} {ls : Array Slot} {rest : List Value} {D : va_G} {cl : List vw_C} {A : Nat → Prop} {tys : List (ClassId × FieldType)} {ad : Nat → Nat} {cs : Nat → va_E} {n : Nat} {H0 : Heap}
theorem kw_iret {post : Int32 → (Nat → va_E) → Prop} {v : Int32} (hexec : p.tables.exec = Jvm.exec) (hb : c.code = cc) (hr : meth.sig.returnType = some .int) (hlocks : meth.locks = false) (hP : va_P D cl (kw_w ad cs n) H) (hK : va_K D cl tys s) (hS : va_S (kw_A ad n) s.heap H locs) (hpost : post v cs) (hdg : decode cc pc = .ok (.ireturn, 1)) :
    W p l e R s m args below meth c H locs 0 0 (MQ below (va_Qi post (kw_Pre D cl tys ad n) (kw_A ad n)) args s 0 0 (kw_A ad n)) (F0 m pc ls [.int v]) :=
  W.iret hexec hb hr (fun t ht hW => ⟨⟨v, cs, rfl, hpost, by rw [ht]; exact hP, va_K.moved hW.alike hK⟩, hS.F ht⟩) hS.2.2 hdg hlocks
theorem kw_nz {v : Int32} (hv : v = 0 ∨ v = 1) : narrow .boolean (.int v) = .int v := by
  rcases hv with rfl | rfl <;> rfl
theorem kw_zret {post : Int32 → (Nat → va_E) → Prop} {v : Int32} (hexec : p.tables.exec = Jvm.exec) (hb : c.code = cc) (hr : meth.sig.returnType = some .boolean) (hlocks : meth.locks = false) (hP : va_P D cl (kw_w ad cs n) H) (hK : va_K D cl tys s) (hS : va_S (kw_A ad n) s.heap H locs) (hv : v = 0 ∨ v = 1) (hpost : post v cs) (hdg : decode cc pc = .ok (.ireturn, 1)) :
    W p l e R s m args below meth c H locs 0 0 (MQ below (va_Qi post (kw_Pre D cl tys ad n) (kw_A ad n)) args s 0 0 (kw_A ad n)) (F0 m pc ls [.int v]) :=
  W.zret hexec hb hr (kw_nz hv) (fun t ht hW => ⟨⟨v, cs, rfl, hpost, by rw [ht]; exact hP, va_K.moved hW.alike hK⟩, hS.F ht⟩) hS.2.2 hdg hlocks
theorem kw_lret {post : Int64 → (Nat → va_E) → Prop} {v : Int64} (hexec : p.tables.exec = Jvm.exec) (hb : c.code = cc) (hr : meth.sig.returnType = some .long) (hlocks : meth.locks = false) (hP : va_P D cl (kw_w ad cs n) H) (hK : va_K D cl tys s) (hS : va_S (kw_A ad n) s.heap H locs) (hpost : post v cs) (hdg : decode cc pc = .ok (.lreturn, 1)) :
    W p l e R s m args below meth c H locs 0 0 (MQ below (va_Ql post (kw_Pre D cl tys ad n) (kw_A ad n)) args s 0 0 (kw_A ad n)) (F0 m pc ls [.long v]) :=
  W.lret hexec hb hr (fun t ht hW => ⟨⟨v, cs, rfl, hpost, by rw [ht]; exact hP, va_K.moved hW.alike hK⟩, hS.F ht⟩) hS.2.2 hdg hlocks
theorem kw_vret {post : (Nat → va_E) → Prop} (hexec : p.tables.exec = Jvm.exec) (hb : c.code = cc) (hr : meth.sig.returnType = none) (hlocks : meth.locks = false) (hP : va_P D cl (kw_w ad cs n) H) (hK : va_K D cl tys s) (hS : va_S (kw_A ad n) s.heap H locs) (hpost : post cs) (hdg : decode cc pc = .ok (.return_, 1)) :
    W p l e R s m args below meth c H locs 0 0 (MQ below (va_Qv post (kw_Pre D cl tys ad n) (kw_A ad n)) args s 0 0 (kw_A ad n)) (F0 m pc ls []) :=
  W.vret hexec hb hr (fun t ht hW => ⟨⟨cs, rfl, hpost, by rw [ht]; exact hP, va_K.moved hW.alike hK⟩, hS.F ht⟩) hS.2.2 hdg hlocks
variable {y : MethodName} {bytes : ByteArray} {maxL nL k index : Nat} {ret : Option FieldType} {ws : List Cond} {rm : Room} {Qc : Array Value → State → Outcome → State → Prop} {free : Addr → Prop} {Ts : List Cond} {own C host : String} {As st0 : List Value}
theorem kw_rV (S : CallFix p m c cc nL s args Ts own) (cw : CallW R s args own C index y bytes maxL ret ws rm 0 0 k) {q0 : Nat} (hM : Met l y ws rm (va_Pc (.ref (ad q0) :: As) (kw_Pre D cl tys ad n cs)) Qc 0 0 free) (hK : va_K D cl tys s) (hP : va_P D cl (kw_w ad cs n) H) (hq : q0 < n) {ci N : Nat} {fs : List Value} {T : u_T} (he : cs q0 = .inr (ci, fs)) (hc : cl[ci]? = some (C, T, N)) (hn : As.length = k) (hsize : ls.size = nL) (hst : st0 = As.reverse ++ .ref (ad q0) :: rest) (hW : (rest.map fun v => v.category).sum ≤ 8) (hdg : decode cc pc = .ok (.invokevirtual index, 3)) (hcs : cells ≤ R.cells ∧ slots ≤ R.slots) :
    va_Run p l e R s m args below meth c H locs cells slots 0 0 (F0 m pc ls st0) rest (Qc (Value.ref (ad q0) :: As).toArray) free :=
  va_runV (As := As) (rest := rest) S hM cw ⟨kw_blind, va_recv hK hP hc ((kw_at hq).trans (by rw [he])), fun U hU hWm => ⟨rfl, by rw [hU]; exact hP, va_K.moved hWm.alike hK⟩⟩ rfl hn hsize hst (lv_room hW) hdg hcs
theorem kw_rVN (S : CallFix p m c cc nL s args Ts own) (cw : va_CN R s args own index y host bytes maxL ret ws rm 0 0 k ∧ (Cond.instanceMethod y).before args s = true ∧ (Cond.selects C y y).before args s = true) {q0 : Nat} (hM : Met l y ws rm (va_Pc (.ref (ad q0) :: As) (kw_Pre D cl tys ad n cs)) Qc 0 0 free) (hK : va_K D cl tys s) (hP : va_P D cl (kw_w ad cs n) H) (hq : q0 < n) {ci N : Nat} {fs : List Value} {T : u_T} (he : cs q0 = .inr (ci, fs)) (hc : cl[ci]? = some (C, T, N)) (hn : As.length = k) (hsize : ls.size = nL) (hst : st0 = As.reverse ++ .ref (ad q0) :: rest) (hW : (rest.map fun v => v.category).sum ≤ 8) (hdg : decode cc pc = .ok (.invokevirtual index, 3)) (hcs : cells ≤ R.cells ∧ slots ≤ R.slots) :
    va_Run p l e R s m args below meth c H locs cells slots 0 0 (F0 m pc ls st0) rest (Qc (Value.ref (ad q0) :: As).toArray) free :=
  va_runVN (As := As) (rest := rest) S hM cw ⟨kw_blind, va_recv hK hP hc ((kw_at hq).trans (by rw [he])), fun U hU hWm => ⟨rfl, by rw [hU]; exact hP, va_K.moved hWm.alike hK⟩⟩ rfl hn hsize hst (lv_room hW) hdg hcs
theorem kw_rS (S : CallFix p m c cc nL s args Ts own) (cw : CallB R s args own index y bytes maxL ret ws rm 0 0 k ∧ (Cond.static y).before args s = true) (hM : Met l y ws rm (va_Pc As (kw_Pre D cl tys ad n cs)) Qc 0 0 free) (hK : va_K D cl tys s) (hP : va_P D cl (kw_w ad cs n) H) (hn : As.length = k) (hsize : ls.size = nL) (hst : st0 = As.reverse ++ rest) (hW : (rest.map fun v => v.category).sum ≤ 8) (hdg : decode cc pc = .ok (.invokestatic index, 3)) (hcs : cells ≤ R.cells ∧ slots ≤ R.slots) :
    va_Run p l e R s m args below meth c H locs cells slots 0 0 (F0 m pc ls st0) rest (Qc As.toArray) free :=
  va_runS (As := As) (rest := rest) S hM cw ⟨kw_blind, fun U hU hWm => ⟨rfl, by rw [hU]; exact hP, va_K.moved hWm.alike hK⟩⟩ rfl hn hsize hst (lv_room hW) hdg hcs
theorem kw_rSN (S : CallFix p m c cc nL s args Ts own) (cw : va_CN R s args own index y host bytes maxL ret ws rm 0 0 k ∧ (Cond.static y).before args s = true ∧ True) (hM : Met l y ws rm (va_Pc As (kw_Pre D cl tys ad n cs)) Qc 0 0 free) (hK : va_K D cl tys s) (hP : va_P D cl (kw_w ad cs n) H) (hn : As.length = k) (hsize : ls.size = nL) (hst : st0 = As.reverse ++ rest) (hW : (rest.map fun v => v.category).sum ≤ 8) (hdg : decode cc pc = .ok (.invokestatic index, 3)) (hcs : cells ≤ R.cells ∧ slots ≤ R.slots) :
    va_Run p l e R s m args below meth c H locs cells slots 0 0 (F0 m pc ls st0) rest (Qc As.toArray) free :=
  va_runSN (As := As) (rest := rest) S hM cw ⟨kw_blind, fun U hU hWm => ⟨rfl, by rw [hU]; exact hP, va_K.moved hWm.alike hK⟩⟩ rfl hn hsize hst (lv_room hW) hdg hcs
theorem kw_calli {a : Array Value} {post : Int32 → (Nat → va_E) → Prop} (hr : va_Run p l e R s m args below meth c H locs cells slots 0 0 (F0 m pc ls st0) rest (va_Qi post (kw_Pre D cl tys ad n) (kw_A ad n) a) (kw_A ad n)) (hA : ∀ k, k < n → A (ad k)) (hS : va_S A H0 H locs)
    (kk : ∀ (r : Int32) (cs1 : Nat → va_E) (H1 : Heap) (locs1 : List Loc), post r cs1 → va_P D cl (kw_w ad cs1 n) H1 → va_S A H0 H1 locs1 → W p l e R s m args below meth c H1 locs1 cells slots Q (F0 m (pc + 3) ls (.int r :: rest))) : W p l e R s m args below meth c H locs cells slots Q (F0 m pc ls st0) :=
  va_calli hr hS (fun q _ ⟨k, h1, h2⟩ => h2 ▸ hA k h1) (fun q ⟨k, h1, h2⟩ => h2 ▸ hA k h1) (fun r u t H1 locs1 ht _ hp hB _ _ hS1 => kk r u H1 locs1 hp (by rw [← ht]; exact hB.1) hS1)
theorem kw_calll {a : Array Value} {post : Int64 → (Nat → va_E) → Prop} (hr : va_Run p l e R s m args below meth c H locs cells slots 0 0 (F0 m pc ls st0) rest (va_Ql post (kw_Pre D cl tys ad n) (kw_A ad n) a) (kw_A ad n)) (hA : ∀ k, k < n → A (ad k)) (hS : va_S A H0 H locs)
    (kk : ∀ (r : Int64) (cs1 : Nat → va_E) (H1 : Heap) (locs1 : List Loc), post r cs1 → va_P D cl (kw_w ad cs1 n) H1 → va_S A H0 H1 locs1 → W p l e R s m args below meth c H1 locs1 cells slots Q (F0 m (pc + 3) ls (.long r :: rest))) : W p l e R s m args below meth c H locs cells slots Q (F0 m pc ls st0) :=
  va_calll hr hS (fun q _ ⟨k, h1, h2⟩ => h2 ▸ hA k h1) (fun q ⟨k, h1, h2⟩ => h2 ▸ hA k h1) (fun r u t H1 locs1 ht _ hp hB _ _ hS1 => kk r u H1 locs1 hp (by rw [← ht]; exact hB.1) hS1)
theorem kw_callv {a : Array Value} {post : (Nat → va_E) → Prop} (hr : va_Run p l e R s m args below meth c H locs cells slots 0 0 (F0 m pc ls st0) rest (va_Qv post (kw_Pre D cl tys ad n) (kw_A ad n) a) (kw_A ad n)) (hA : ∀ k, k < n → A (ad k)) (hS : va_S A H0 H locs)
    (kk : ∀ (cs1 : Nat → va_E) (H1 : Heap) (locs1 : List Loc), post cs1 → va_P D cl (kw_w ad cs1 n) H1 → va_S A H0 H1 locs1 → W p l e R s m args below meth c H1 locs1 cells slots Q (F0 m (pc + 3) ls rest)) : W p l e R s m args below meth c H locs cells slots Q (F0 m pc ls st0) :=
  va_callv hr hS (fun q _ ⟨k, h1, h2⟩ => h2 ▸ hA k h1) (fun q ⟨k, h1, h2⟩ => h2 ▸ hA k h1) (fun u t H1 locs1 ht _ hp hB _ _ hS1 => kk u H1 locs1 hp (by rw [← ht]; exact hB.1) hS1)
theorem kw_callix {a : Array Value} {v : Int32} {cs1 : Nat → va_E} (hr : va_Run p l e R s m args below meth c H locs cells slots 0 0 (F0 m pc ls st0) rest (va_Qi (fun r c => r = v ∧ c = cs1) (kw_Pre D cl tys ad n) (kw_A ad n) a) (kw_A ad n)) (hA : ∀ k, k < n → A (ad k)) (hS : va_S A H0 H locs)
    (kk : ∀ (H1 : Heap) (locs1 : List Loc), va_P D cl (kw_w ad cs1 n) H1 → va_S A H0 H1 locs1 → W p l e R s m args below meth c H1 locs1 cells slots Q (F0 m (pc + 3) ls (.int v :: rest))) : W p l e R s m args below meth c H locs cells slots Q (F0 m pc ls st0) :=
  kw_calli hr hA hS (fun r c1 H1 locs1 hp hP hS => by obtain ⟨h1, h2⟩ := hp; subst h1; subst h2; exact kk H1 locs1 hP hS)
theorem kw_calllx {a : Array Value} {v : Int64} {cs1 : Nat → va_E} (hr : va_Run p l e R s m args below meth c H locs cells slots 0 0 (F0 m pc ls st0) rest (va_Ql (fun r c => r = v ∧ c = cs1) (kw_Pre D cl tys ad n) (kw_A ad n) a) (kw_A ad n)) (hA : ∀ k, k < n → A (ad k)) (hS : va_S A H0 H locs)
    (kk : ∀ (H1 : Heap) (locs1 : List Loc), va_P D cl (kw_w ad cs1 n) H1 → va_S A H0 H1 locs1 → W p l e R s m args below meth c H1 locs1 cells slots Q (F0 m (pc + 3) ls (.long v :: rest))) : W p l e R s m args below meth c H locs cells slots Q (F0 m pc ls st0) :=
  kw_calll hr hA hS (fun r c1 H1 locs1 hp hP hS => by obtain ⟨h1, h2⟩ := hp; subst h1; subst h2; exact kk H1 locs1 hP hS)
theorem kw_callvx {a : Array Value} {cs1 : Nat → va_E} (hr : va_Run p l e R s m args below meth c H locs cells slots 0 0 (F0 m pc ls st0) rest (va_Qv (fun c => c = cs1) (kw_Pre D cl tys ad n) (kw_A ad n) a) (kw_A ad n)) (hA : ∀ k, k < n → A (ad k)) (hS : va_S A H0 H locs)
    (kk : ∀ (H1 : Heap) (locs1 : List Loc), va_P D cl (kw_w ad cs1 n) H1 → va_S A H0 H1 locs1 → W p l e R s m args below meth c H1 locs1 cells slots Q (F0 m (pc + 3) ls rest)) : W p l e R s m args below meth c H locs cells slots Q (F0 m pc ls st0) :=
  kw_callv hr hA hS (fun c1 H1 locs1 hp hP hS => by subst hp; exact kk H1 locs1 hP hS)
end KWC
/-- the room of a method at depth d of the calls -/
abbrev kr (d : Nat) : Room := { frames := d, cells := 0, slots := 0, locals := 40 * d }
theorem kg_goodG {y : MethodName} {b : ByteArray} {n : Nat} {r : Option FieldType} (h : Cond.code y b n r ∈ kg_G) : GoodIn kg_G (Cond.code y b n r :: kg_G) := fun w hw => by
  have h1 : w ∈ kg_G := by
    rcases List.mem_cons.mp hw with rfl | h1
    · exact h
    · exact h1
  exact ⟨h1, good_of_word (List.mem_filter.mp h1).2⟩
section KWT
variable {p : Program} {l : Launch} {e : Env} {R : Room} {s : State} {m : MethodId} {args : Array Value} {below : List Frame} {meth : Method} {c : Code} {H : Heap} {locs : List Loc} {cells slots : Nat} {Q : State → Prop}
variable {cc : ByteArray} {pc : Nat} {ls : Array Slot} {rest : List Value}
/-- a tableswitch goes to its default -/
theorem kw_tbl (hexec : p.tables.exec = Jvm.exec) (hb : c.code = cc) {dflt lo hi : Int} {offs : Array Int} {len N : Nat} {x : Int32} {tgt : Nat} (hdg : decode cc pc = .ok (.tableswitch dflt lo hi offs, len)) (hN : hi = lo + (N : Int) - 1) (ht : (pc : Int) + dflt = (tgt : Int)) (h : ∀ i : Nat, i < N → offs[i]? = some dflt ∨ ¬ x.toInt = lo + i)
    (k : W p l e R s m args below meth c H locs cells slots Q (F0 m tgt ls rest)) : W p l e R s m args below meth c H locs cells slots Q (F0 m pc ls (.int x :: rest)) := by
  by_cases h1 : x.toInt < lo
  · exact lv_tableOut hexec hb hdg (Or.inl h1) ht k
  by_cases h2 : hi < x.toInt
  · exact lv_tableOut hexec hb hdg (Or.inr h2) ht k
  have h3 : (x.toInt - lo).toNat < N := by omega
  rcases h _ h3 with h4 | h4
  · exact lv_tableIn hexec hb hdg h1 h2 h4 ht k
  · exact absurd (by omega) h4
end KWT
end
section
/-! leaves: Setting, Instruction -/
def kv_S_width (wp : Int32) : Int32 := (1 : Int32) <<< (wp &&& 31)
set_option maxRecDepth 100000 in
set_option maxHeartbeats 4000000 in
theorem c_S_width (l : Launch) {D : va_G} {tys : List (ClassId × FieldType)} {ad : Nat → Nat} {n : Nat} {cs : Nat → va_E} {q0 : Nat} {wp : Int32} {gp : Int32} {ln : Int32} {sa : Int32} (hq0 : q0 < n) (e0 : cs q0 = .inr (2, [.int wp, .int gp, .int ln, .int sa]))  : kw_mi l y_S_width w_S_width (kr 0) D kc tys ad n cs [.ref (ad q0)] (fun r9 c9 => r9 = kv_S_width wp ∧ c9 = cs) := by
  refine kw_of (cc := b_S_width) (maxL := 1) (ret := (some .int)) (by decide) rfl (Nat.le_of_ble_eq_true rfl) ?_
  intro p e s m below meth c ls hx hb hr hml hown hts hlocks hP hK hl
  have hg : ∀ w9 ∈ kg_G, w9.before [.ref (ad q0)].toArray s = true := fun w9 h9 => hts w9 (List.mem_cons_of_mem _ h9)
  have hown : s.vm.findClass "LaneMachine$Setting" = some m.cls := hown
  have hA : ∀ k, k < n → kw_A ad n (ad k) := fun k hk => ⟨k, hk, rfl⟩
  have hS : va_S (kw_A ad n) s.heap s.heap [] := va_S.rf
  have hl : lv_has ls 1 [(0, .ref (ad q0))] := hl
  refine lv_iconst (v := 1) hx hb d_S_width_0 (by decide) ?_
  refine lv_aload_n hx hb d_S_width_1 rfl (lv_at hl 0 rfl) ?_
  refine kw_get hx hb hg in_S hown hK hP q0 hq0 e0 rfl 0 (by decide) (hg _ kg_45) rfl rfl d_S_width_2 ?_
  refine lv_ishl hx hb d_S_width_5 ?_
  exact kw_iret hx hb hr hlocks hP hK hS ⟨by rw [kv_S_width], rfl⟩ d_S_width_6

def kv_S_group (gp : Int32) : Int32 := (1 : Int32) <<< (gp &&& 31)
set_option maxRecDepth 100000 in
set_option maxHeartbeats 4000000 in
theorem c_S_group (l : Launch) {D : va_G} {tys : List (ClassId × FieldType)} {ad : Nat → Nat} {n : Nat} {cs : Nat → va_E} {q0 : Nat} {wp : Int32} {gp : Int32} {ln : Int32} {sa : Int32} (hq0 : q0 < n) (e0 : cs q0 = .inr (2, [.int wp, .int gp, .int ln, .int sa]))  : kw_mi l y_S_group w_S_group (kr 0) D kc tys ad n cs [.ref (ad q0)] (fun r9 c9 => r9 = kv_S_group gp ∧ c9 = cs) := by
  refine kw_of (cc := b_S_group) (maxL := 1) (ret := (some .int)) (by decide) rfl (Nat.le_of_ble_eq_true rfl) ?_
  intro p e s m below meth c ls hx hb hr hml hown hts hlocks hP hK hl
  have hg : ∀ w9 ∈ kg_G, w9.before [.ref (ad q0)].toArray s = true := fun w9 h9 => hts w9 (List.mem_cons_of_mem _ h9)
  have hown : s.vm.findClass "LaneMachine$Setting" = some m.cls := hown
  have hA : ∀ k, k < n → kw_A ad n (ad k) := fun k hk => ⟨k, hk, rfl⟩
  have hS : va_S (kw_A ad n) s.heap s.heap [] := va_S.rf
  have hl : lv_has ls 1 [(0, .ref (ad q0))] := hl
  refine lv_iconst (v := 1) hx hb d_S_group_0 (by decide) ?_
  refine lv_aload_n hx hb d_S_group_1 rfl (lv_at hl 0 rfl) ?_
  refine kw_get hx hb hg in_S hown hK hP q0 hq0 e0 rfl 1 (by decide) (hg _ kg_46) rfl rfl d_S_group_2 ?_
  refine lv_ishl hx hb d_S_group_5 ?_
  exact kw_iret hx hb hr hlocks hP hK hS ⟨by rw [kv_S_group], rfl⟩ d_S_group_6

def kv_S_most (wp : Int32) (gp : Int32) : Int32 := ((8 : Int32) <<< (gp &&& 31)) >>> (wp &&& 31)
set_option maxRecDepth 100000 in
set_option maxHeartbeats 4000000 in
theorem c_S_most (l : Launch) {D : va_G} {tys : List (ClassId × FieldType)} {ad : Nat → Nat} {n : Nat} {cs : Nat → va_E} {q0 : Nat} {wp : Int32} {gp : Int32} {ln : Int32} {sa : Int32} (hq0 : q0 < n) (e0 : cs q0 = .inr (2, [.int wp, .int gp, .int ln, .int sa]))  : kw_mi l y_S_most w_S_most (kr 0) D kc tys ad n cs [.ref (ad q0)] (fun r9 c9 => r9 = kv_S_most wp gp ∧ c9 = cs) := by
  refine kw_of (cc := b_S_most) (maxL := 1) (ret := (some .int)) (by decide) rfl (Nat.le_of_ble_eq_true rfl) ?_
  intro p e s m below meth c ls hx hb hr hml hown hts hlocks hP hK hl
  have hg : ∀ w9 ∈ kg_G, w9.before [.ref (ad q0)].toArray s = true := fun w9 h9 => hts w9 (List.mem_cons_of_mem _ h9)
  have hown : s.vm.findClass "LaneMachine$Setting" = some m.cls := hown
  have hA : ∀ k, k < n → kw_A ad n (ad k) := fun k hk => ⟨k, hk, rfl⟩
  have hS : va_S (kw_A ad n) s.heap s.heap [] := va_S.rf
  have hl : lv_has ls 1 [(0, .ref (ad q0))] := hl
  refine lv_bipush (v := 8) hx hb d_S_most_0 (by decide) ?_
  refine lv_aload_n hx hb d_S_most_2 rfl (lv_at hl 0 rfl) ?_
  refine kw_get hx hb hg in_S hown hK hP q0 hq0 e0 rfl 1 (by decide) (hg _ kg_46) rfl rfl d_S_most_3 ?_
  refine lv_ishl hx hb d_S_most_6 ?_
  refine lv_aload_n hx hb d_S_most_7 rfl (lv_at hl 0 rfl) ?_
  refine kw_get hx hb hg in_S hown hK hP q0 hq0 e0 rfl 0 (by decide) (hg _ kg_45) rfl rfl d_S_most_8 ?_
  refine lv_ishr hx hb d_S_most_11 ?_
  exact kw_iret hx hb hr hlocks hP hK hS ⟨by rw [kv_S_most], rfl⟩ d_S_most_12

def kv_S_isCode (x : Int32) : Int32 := if x < 0 then 0 else if 10 < x then 0 else if (x - x / 4 * 4) = 3 then 0 else 1
set_option maxRecDepth 100000 in
set_option maxHeartbeats 4000000 in
theorem c_S_isCode (l : Launch) {D : va_G} {tys : List (ClassId × FieldType)} {ad : Nat → Nat} {n : Nat} {cs : Nat → va_E} {x : Int32}   : kw_mi l y_S_isCode w_S_isCode (kr 0) D kc tys ad n cs [.int x] (fun r9 c9 => r9 = kv_S_isCode x ∧ c9 = cs) := by
  refine kw_of (cc := b_S_isCode) (maxL := 1) (ret := (some .boolean)) (by decide) rfl (Nat.le_of_ble_eq_true rfl) ?_
  intro p e s m below meth c ls hx hb hr hml hown hts hlocks hP hK hl
  have hg : ∀ w9 ∈ kg_G, w9.before [.int x].toArray s = true := fun w9 h9 => hts w9 (List.mem_cons_of_mem _ h9)
  have hown : s.vm.findClass "LaneMachine$Setting" = some m.cls := hown
  have hA : ∀ k, k < n → kw_A ad n (ad k) := fun k hk => ⟨k, hk, rfl⟩
  have hS : va_S (kw_A ad n) s.heap s.heap [] := va_S.rf
  have hl : lv_has ls 1 [(0, .int x)] := hl
  refine lv_iload_n hx hb d_S_isCode_0 rfl (lv_at hl 0 rfl) ?_
  refine lv_if_lt (tgt := 21) hx hb d_S_isCode_1 (by decide) (fun h1 => ?_) (fun h1 => ?_)
  · refine lv_iconst (v := 0) hx hb d_S_isCode_21 (by decide) ?_
    exact kw_zret hx hb hr hlocks hP hK hS (Or.inl rfl) ⟨by rw [kv_S_isCode, if_pos h1], rfl⟩ d_S_isCode_22
  · refine lv_iload_n hx hb d_S_isCode_4 rfl (lv_at hl 0 rfl) ?_
    refine lv_bipush (v := 10) hx hb d_S_isCode_5 (by decide) ?_
    refine lv_icmp_gt (tgt := 21) hx hb d_S_isCode_7 (by decide) (fun h2 => ?_) (fun h2 => ?_)
    · refine lv_iconst (v := 0) hx hb d_S_isCode_21 (by decide) ?_
      exact kw_zret hx hb hr hlocks hP hK hS (Or.inl rfl) ⟨by rw [kv_S_isCode, if_neg h1, if_pos h2], rfl⟩ d_S_isCode_22
    · refine lv_iload_n hx hb d_S_isCode_10 rfl (lv_at hl 0 rfl) ?_
      refine lv_iconst (v := 4) hx hb d_S_isCode_11 (by decide) ?_
      refine lv_irem hx hb d_S_isCode_12 (by decide) ?_
      refine lv_iconst (v := 3) hx hb d_S_isCode_13 (by decide) ?_
      refine lv_icmp_eq (tgt := 21) hx hb d_S_isCode_14 (by decide) (fun h3 => ?_) (fun h3 => ?_)
      · refine lv_iconst (v := 0) hx hb d_S_isCode_21 (by decide) ?_
        exact kw_zret hx hb hr hlocks hP hK hS (Or.inl rfl) ⟨by rw [kv_S_isCode, if_neg h1, if_neg h2, if_pos h3], rfl⟩ d_S_isCode_22
      · refine lv_iconst (v := 1) hx hb d_S_isCode_17 (by decide) ?_
        refine lv_goto (tgt := 22) hx hb d_S_isCode_18 (by decide) ?_
        exact kw_zret hx hb hr hlocks hP hK hS (Or.inr rfl) ⟨by rw [kv_S_isCode, if_neg h1, if_neg h2, if_neg h3], rfl⟩ d_S_isCode_22

def kv_S_isMultiple (x : Int32) (y : Int32) : Int32 := if (x &&& (y - 1)) = 0 then 1 else 0
set_option maxRecDepth 100000 in
set_option maxHeartbeats 4000000 in
theorem c_S_isMultiple (l : Launch) {D : va_G} {tys : List (ClassId × FieldType)} {ad : Nat → Nat} {n : Nat} {cs : Nat → va_E} {x : Int32} {y : Int32}   : kw_mi l y_S_isMultiple w_S_isMultiple (kr 0) D kc tys ad n cs [.int x, .int y] (fun r9 c9 => r9 = kv_S_isMultiple x y ∧ c9 = cs) := by
  refine kw_of (cc := b_S_isMultiple) (maxL := 2) (ret := (some .boolean)) (by decide) rfl (Nat.le_of_ble_eq_true rfl) ?_
  intro p e s m below meth c ls hx hb hr hml hown hts hlocks hP hK hl
  have hg : ∀ w9 ∈ kg_G, w9.before [.int x, .int y].toArray s = true := fun w9 h9 => hts w9 (List.mem_cons_of_mem _ h9)
  have hown : s.vm.findClass "LaneMachine$Setting" = some m.cls := hown
  have hA : ∀ k, k < n → kw_A ad n (ad k) := fun k hk => ⟨k, hk, rfl⟩
  have hS : va_S (kw_A ad n) s.heap s.heap [] := va_S.rf
  have hl : lv_has ls 2 [(0, .int x), (1, .int y)] := hl
  refine lv_iload_n hx hb d_S_isMultiple_0 rfl (lv_at hl 0 rfl) ?_
  refine lv_iload_n hx hb d_S_isMultiple_1 rfl (lv_at hl 1 rfl) ?_
  refine lv_iconst (v := 1) hx hb d_S_isMultiple_2 (by decide) ?_
  refine lv_isub hx hb d_S_isMultiple_3 ?_
  refine lv_iand hx hb d_S_isMultiple_4 ?_
  refine lv_if_ne (tgt := 12) hx hb d_S_isMultiple_5 (by decide) (fun h1 => ?_) (fun h1 => ?_)
  · refine lv_iconst (v := 0) hx hb d_S_isMultiple_12 (by decide) ?_
    exact kw_zret hx hb hr hlocks hP hK hS (Or.inl rfl) ⟨by rw [kv_S_isMultiple, if_neg h1], rfl⟩ d_S_isMultiple_13
  · refine lv_iconst (v := 1) hx hb d_S_isMultiple_8 (by decide) ?_
    refine lv_goto (tgt := 13) hx hb d_S_isMultiple_9 (by decide) ?_
    exact kw_zret hx hb hr hlocks hP hK hS (Or.inr rfl) ⟨by rw [kv_S_isMultiple, if_pos h1], rfl⟩ d_S_isMultiple_13

def kv_I_isVector (op : Int32) : Int32 := if op < 8 then 0 else 1
set_option maxRecDepth 100000 in
set_option maxHeartbeats 4000000 in
theorem c_I_isVector (l : Launch) {D : va_G} {tys : List (ClassId × FieldType)} {ad : Nat → Nat} {n : Nat} {cs : Nat → va_E} {q1 : Nat} {op : Int32} {rd : Int32} {ra : Int32} {rb : Int32} {rn : Int32} {mk : Int32} (hq1 : q1 < n) (e1 : cs q1 = .inr (1, [.int op, .int rd, .int ra, .int rb, .int rn, .int mk]))  : kw_mi l y_I_isVector w_I_isVector (kr 0) D kc tys ad n cs [.ref (ad q1)] (fun r9 c9 => r9 = kv_I_isVector op ∧ c9 = cs) := by
  refine kw_of (cc := b_I_isVector) (maxL := 1) (ret := (some .boolean)) (by decide) rfl (Nat.le_of_ble_eq_true rfl) ?_
  intro p e s m below meth c ls hx hb hr hml hown hts hlocks hP hK hl
  have hg : ∀ w9 ∈ kg_G, w9.before [.ref (ad q1)].toArray s = true := fun w9 h9 => hts w9 (List.mem_cons_of_mem _ h9)
  have hown : s.vm.findClass "LaneMachine$Instruction" = some m.cls := hown
  have hA : ∀ k, k < n → kw_A ad n (ad k) := fun k hk => ⟨k, hk, rfl⟩
  have hS : va_S (kw_A ad n) s.heap s.heap [] := va_S.rf
  have hl : lv_has ls 1 [(0, .ref (ad q1))] := hl
  refine lv_aload_n hx hb d_I_isVector_0 rfl (lv_at hl 0 rfl) ?_
  refine kw_get hx hb hg in_I hown hK hP q1 hq1 e1 rfl 0 (by decide) (hg _ kg_71) rfl rfl d_I_isVector_1 ?_
  refine lv_bipush (v := 8) hx hb d_I_isVector_4 (by decide) ?_
  refine lv_icmp_lt (tgt := 13) hx hb d_I_isVector_6 (by decide) (fun h1 => ?_) (fun h1 => ?_)
  · refine lv_iconst (v := 0) hx hb d_I_isVector_13 (by decide) ?_
    exact kw_zret hx hb hr hlocks hP hK hS (Or.inl rfl) ⟨by rw [kv_I_isVector, if_pos h1], rfl⟩ d_I_isVector_14
  · refine lv_iconst (v := 1) hx hb d_I_isVector_9 (by decide) ?_
    refine lv_goto (tgt := 14) hx hb d_I_isVector_10 (by decide) ?_
    exact kw_zret hx hb hr hlocks hP hK hS (Or.inr rfl) ⟨by rw [kv_I_isVector, if_neg h1], rfl⟩ d_I_isVector_14

def kv_I_needsEmptyQueue (op : Int32) : Int32 := if op = 7 then 1 else if op = 6 then 1 else if op = 5 then 1 else 0
set_option maxRecDepth 100000 in
set_option maxHeartbeats 4000000 in
theorem c_I_needsEmptyQueue (l : Launch) {D : va_G} {tys : List (ClassId × FieldType)} {ad : Nat → Nat} {n : Nat} {cs : Nat → va_E} {q1 : Nat} {op : Int32} {rd : Int32} {ra : Int32} {rb : Int32} {rn : Int32} {mk : Int32} (hq1 : q1 < n) (e1 : cs q1 = .inr (1, [.int op, .int rd, .int ra, .int rb, .int rn, .int mk]))  : kw_mi l y_I_needsEmptyQueue w_I_needsEmptyQueue (kr 0) D kc tys ad n cs [.ref (ad q1)] (fun r9 c9 => r9 = kv_I_needsEmptyQueue op ∧ c9 = cs) := by
  refine kw_of (cc := b_I_needsEmptyQueue) (maxL := 1) (ret := (some .boolean)) (by decide) rfl (Nat.le_of_ble_eq_true rfl) ?_
  intro p e s m below meth c ls hx hb hr hml hown hts hlocks hP hK hl
  have hg : ∀ w9 ∈ kg_G, w9.before [.ref (ad q1)].toArray s = true := fun w9 h9 => hts w9 (List.mem_cons_of_mem _ h9)
  have hown : s.vm.findClass "LaneMachine$Instruction" = some m.cls := hown
  have hA : ∀ k, k < n → kw_A ad n (ad k) := fun k hk => ⟨k, hk, rfl⟩
  have hS : va_S (kw_A ad n) s.heap s.heap [] := va_S.rf
  have hl : lv_has ls 1 [(0, .ref (ad q1))] := hl
  refine lv_aload_n hx hb d_I_needsEmptyQueue_0 rfl (lv_at hl 0 rfl) ?_
  refine kw_get hx hb hg in_I hown hK hP q1 hq1 e1 rfl 0 (by decide) (hg _ kg_71) rfl rfl d_I_needsEmptyQueue_1 ?_
  refine lv_bipush (v := 7) hx hb d_I_needsEmptyQueue_4 (by decide) ?_
  refine lv_icmp_eq (tgt := 26) hx hb d_I_needsEmptyQueue_6 (by decide) (fun h1 => ?_) (fun h1 => ?_)
  · refine lv_iconst (v := 1) hx hb d_I_needsEmptyQueue_26 (by decide) ?_
    refine lv_goto (tgt := 31) hx hb d_I_needsEmptyQueue_27 (by decide) ?_
    exact kw_zret hx hb hr hlocks hP hK hS (Or.inr rfl) ⟨by rw [kv_I_needsEmptyQueue, if_pos h1], rfl⟩ d_I_needsEmptyQueue_31
  · refine lv_aload_n hx hb d_I_needsEmptyQueue_9 rfl (lv_at hl 0 rfl) ?_
    refine kw_get hx hb hg in_I hown hK hP q1 hq1 e1 rfl 0 (by decide) (hg _ kg_71) rfl rfl d_I_needsEmptyQueue_10 ?_
    refine lv_bipush (v := 6) hx hb d_I_needsEmptyQueue_13 (by decide) ?_
    refine lv_icmp_eq (tgt := 26) hx hb d_I_needsEmptyQueue_15 (by decide) (fun h2 => ?_) (fun h2 => ?_)
    · refine lv_iconst (v := 1) hx hb d_I_needsEmptyQueue_26 (by decide) ?_
      refine lv_goto (tgt := 31) hx hb d_I_needsEmptyQueue_27 (by decide) ?_
      exact kw_zret hx hb hr hlocks hP hK hS (Or.inr rfl) ⟨by rw [kv_I_needsEmptyQueue, if_neg h1, if_pos h2], rfl⟩ d_I_needsEmptyQueue_31
    · refine lv_aload_n hx hb d_I_needsEmptyQueue_18 rfl (lv_at hl 0 rfl) ?_
      refine kw_get hx hb hg in_I hown hK hP q1 hq1 e1 rfl 0 (by decide) (hg _ kg_71) rfl rfl d_I_needsEmptyQueue_19 ?_
      refine lv_iconst (v := 5) hx hb d_I_needsEmptyQueue_22 (by decide) ?_
      refine lv_icmp_ne (tgt := 30) hx hb d_I_needsEmptyQueue_23 (by decide) (fun h3 => ?_) (fun h3 => ?_)
      · refine lv_iconst (v := 0) hx hb d_I_needsEmptyQueue_30 (by decide) ?_
        exact kw_zret hx hb hr hlocks hP hK hS (Or.inl rfl) ⟨by rw [kv_I_needsEmptyQueue, if_neg h1, if_neg h2, if_neg h3], rfl⟩ d_I_needsEmptyQueue_31
      · refine lv_iconst (v := 1) hx hb d_I_needsEmptyQueue_26 (by decide) ?_
        refine lv_goto (tgt := 31) hx hb d_I_needsEmptyQueue_27 (by decide) ?_
        exact kw_zret hx hb hr hlocks hP hK hS (Or.inr rfl) ⟨by rw [kv_I_needsEmptyQueue, if_neg h1, if_neg h2, if_pos h3], rfl⟩ d_I_needsEmptyQueue_31

def kv_I_unit (op : Int32) : Int32 := if op < 17 then (if op = 10 then 1 else if op < 14 then 0 else 1) else 2
set_option maxRecDepth 100000 in
set_option maxHeartbeats 4000000 in
theorem c_I_unit (l : Launch) {D : va_G} {tys : List (ClassId × FieldType)} {ad : Nat → Nat} {n : Nat} {cs : Nat → va_E} {q1 : Nat} {op : Int32} {rd : Int32} {ra : Int32} {rb : Int32} {rn : Int32} {mk : Int32} (hq1 : q1 < n) (e1 : cs q1 = .inr (1, [.int op, .int rd, .int ra, .int rb, .int rn, .int mk]))  : kw_mi l y_I_unit w_I_unit (kr 0) D kc tys ad n cs [.ref (ad q1)] (fun r9 c9 => r9 = kv_I_unit op ∧ c9 = cs) := by
  refine kw_of (cc := b_I_unit) (maxL := 1) (ret := (some .int)) (by decide) rfl (Nat.le_of_ble_eq_true rfl) ?_
  intro p e s m below meth c ls hx hb hr hml hown hts hlocks hP hK hl
  have hg : ∀ w9 ∈ kg_G, w9.before [.ref (ad q1)].toArray s = true := fun w9 h9 => hts w9 (List.mem_cons_of_mem _ h9)
  have hown : s.vm.findClass "LaneMachine$Instruction" = some m.cls := hown
  have hA : ∀ k, k < n → kw_A ad n (ad k) := fun k hk => ⟨k, hk, rfl⟩
  have hS : va_S (kw_A ad n) s.heap s.heap [] := va_S.rf
  have hl : lv_has ls 1 [(0, .ref (ad q1))] := hl
  refine lv_aload_n hx hb d_I_unit_0 rfl (lv_at hl 0 rfl) ?_
  refine kw_get hx hb hg in_I hown hK hP q1 hq1 e1 rfl 0 (by decide) (hg _ kg_71) rfl rfl d_I_unit_1 ?_
  refine lv_bipush (v := 17) hx hb d_I_unit_4 (by decide) ?_
  refine lv_icmp_lt (tgt := 11) hx hb d_I_unit_6 (by decide) (fun h1 => ?_) (fun h1 => ?_)
  · refine lv_aload_n hx hb d_I_unit_11 rfl (lv_at hl 0 rfl) ?_
    refine kw_get hx hb hg in_I hown hK hP q1 hq1 e1 rfl 0 (by decide) (hg _ kg_71) rfl rfl d_I_unit_12 ?_
    refine lv_bipush (v := 10) hx hb d_I_unit_15 (by decide) ?_
    refine lv_icmp_eq (tgt := 29) hx hb d_I_unit_17 (by decide) (fun h2 => ?_) (fun h2 => ?_)
    · refine lv_iconst (v := 1) hx hb d_I_unit_29 (by decide) ?_
      refine lv_goto (tgt := 34) hx hb d_I_unit_30 (by decide) ?_
      exact kw_iret hx hb hr hlocks hP hK hS ⟨by rw [kv_I_unit, if_pos h1, if_pos h2], rfl⟩ d_I_unit_34
    · refine lv_aload_n hx hb d_I_unit_20 rfl (lv_at hl 0 rfl) ?_
      refine kw_get hx hb hg in_I hown hK hP q1 hq1 e1 rfl 0 (by decide) (hg _ kg_71) rfl rfl d_I_unit_21 ?_
      refine lv_bipush (v := 14) hx hb d_I_unit_24 (by decide) ?_
      refine lv_icmp_lt (tgt := 33) hx hb d_I_unit_26 (by decide) (fun h3 => ?_) (fun h3 => ?_)
      · refine lv_iconst (v := 0) hx hb d_I_unit_33 (by decide) ?_
        exact kw_iret hx hb hr hlocks hP hK hS ⟨by rw [kv_I_unit, if_pos h1, if_neg h2, if_pos h3], rfl⟩ d_I_unit_34
      · refine lv_iconst (v := 1) hx hb d_I_unit_29 (by decide) ?_
        refine lv_goto (tgt := 34) hx hb d_I_unit_30 (by decide) ?_
        exact kw_iret hx hb hr hlocks hP hK hS ⟨by rw [kv_I_unit, if_pos h1, if_neg h2, if_neg h3], rfl⟩ d_I_unit_34
  · refine lv_iconst (v := 2) hx hb d_I_unit_9 (by decide) ?_
    exact kw_iret hx hb hr hlocks hP hK hS ⟨by rw [kv_I_unit, if_neg h1], rfl⟩ d_I_unit_10

def kv_I_hasGroupAtD (op : Int32) : Int32 := if op = 12 then 0 else if op = 14 then 0 else 1
set_option maxRecDepth 100000 in
set_option maxHeartbeats 4000000 in
theorem c_I_hasGroupAtD (l : Launch) {D : va_G} {tys : List (ClassId × FieldType)} {ad : Nat → Nat} {n : Nat} {cs : Nat → va_E} {q1 : Nat} {op : Int32} {rd : Int32} {ra : Int32} {rb : Int32} {rn : Int32} {mk : Int32} (hq1 : q1 < n) (e1 : cs q1 = .inr (1, [.int op, .int rd, .int ra, .int rb, .int rn, .int mk]))  : kw_mi l y_I_hasGroupAtD w_I_hasGroupAtD (kr 0) D kc tys ad n cs [.ref (ad q1)] (fun r9 c9 => r9 = kv_I_hasGroupAtD op ∧ c9 = cs) := by
  refine kw_of (cc := b_I_hasGroupAtD) (maxL := 1) (ret := (some .boolean)) (by decide) rfl (Nat.le_of_ble_eq_true rfl) ?_
  intro p e s m below meth c ls hx hb hr hml hown hts hlocks hP hK hl
  have hg : ∀ w9 ∈ kg_G, w9.before [.ref (ad q1)].toArray s = true := fun w9 h9 => hts w9 (List.mem_cons_of_mem _ h9)
  have hown : s.vm.findClass "LaneMachine$Instruction" = some m.cls := hown
  have hA : ∀ k, k < n → kw_A ad n (ad k) := fun k hk => ⟨k, hk, rfl⟩
  have hS : va_S (kw_A ad n) s.heap s.heap [] := va_S.rf
  have hl : lv_has ls 1 [(0, .ref (ad q1))] := hl
  refine lv_aload_n hx hb d_I_hasGroupAtD_0 rfl (lv_at hl 0 rfl) ?_
  refine kw_get hx hb hg in_I hown hK hP q1 hq1 e1 rfl 0 (by decide) (hg _ kg_71) rfl rfl d_I_hasGroupAtD_1 ?_
  refine lv_bipush (v := 12) hx hb d_I_hasGroupAtD_4 (by decide) ?_
  refine lv_icmp_eq (tgt := 22) hx hb d_I_hasGroupAtD_6 (by decide) (fun h1 => ?_) (fun h1 => ?_)
  · refine lv_iconst (v := 0) hx hb d_I_hasGroupAtD_22 (by decide) ?_
    exact kw_zret hx hb hr hlocks hP hK hS (Or.inl rfl) ⟨by rw [kv_I_hasGroupAtD, if_pos h1], rfl⟩ d_I_hasGroupAtD_23
  · refine lv_aload_n hx hb d_I_hasGroupAtD_9 rfl (lv_at hl 0 rfl) ?_
    refine kw_get hx hb hg in_I hown hK hP q1 hq1 e1 rfl 0 (by decide) (hg _ kg_71) rfl rfl d_I_hasGroupAtD_10 ?_
    refine lv_bipush (v := 14) hx hb d_I_hasGroupAtD_13 (by decide) ?_
    refine lv_icmp_eq (tgt := 22) hx hb d_I_hasGroupAtD_15 (by decide) (fun h2 => ?_) (fun h2 => ?_)
    · refine lv_iconst (v := 0) hx hb d_I_hasGroupAtD_22 (by decide) ?_
      exact kw_zret hx hb hr hlocks hP hK hS (Or.inl rfl) ⟨by rw [kv_I_hasGroupAtD, if_neg h1, if_pos h2], rfl⟩ d_I_hasGroupAtD_23
    · refine lv_iconst (v := 1) hx hb d_I_hasGroupAtD_18 (by decide) ?_
      refine lv_goto (tgt := 23) hx hb d_I_hasGroupAtD_19 (by decide) ?_
      exact kw_zret hx hb hr hlocks hP hK hS (Or.inr rfl) ⟨by rw [kv_I_hasGroupAtD, if_neg h1, if_neg h2], rfl⟩ d_I_hasGroupAtD_23

def kv_I_hasGroupAtA (op : Int32) : Int32 := if 16 < op then 0 else 1
set_option maxRecDepth 100000 in
set_option maxHeartbeats 4000000 in
theorem c_I_hasGroupAtA (l : Launch) {D : va_G} {tys : List (ClassId × FieldType)} {ad : Nat → Nat} {n : Nat} {cs : Nat → va_E} {q1 : Nat} {op : Int32} {rd : Int32} {ra : Int32} {rb : Int32} {rn : Int32} {mk : Int32} (hq1 : q1 < n) (e1 : cs q1 = .inr (1, [.int op, .int rd, .int ra, .int rb, .int rn, .int mk]))  : kw_mi l y_I_hasGroupAtA w_I_hasGroupAtA (kr 0) D kc tys ad n cs [.ref (ad q1)] (fun r9 c9 => r9 = kv_I_hasGroupAtA op ∧ c9 = cs) := by
  refine kw_of (cc := b_I_hasGroupAtA) (maxL := 1) (ret := (some .boolean)) (by decide) rfl (Nat.le_of_ble_eq_true rfl) ?_
  intro p e s m below meth c ls hx hb hr hml hown hts hlocks hP hK hl
  have hg : ∀ w9 ∈ kg_G, w9.before [.ref (ad q1)].toArray s = true := fun w9 h9 => hts w9 (List.mem_cons_of_mem _ h9)
  have hown : s.vm.findClass "LaneMachine$Instruction" = some m.cls := hown
  have hA : ∀ k, k < n → kw_A ad n (ad k) := fun k hk => ⟨k, hk, rfl⟩
  have hS : va_S (kw_A ad n) s.heap s.heap [] := va_S.rf
  have hl : lv_has ls 1 [(0, .ref (ad q1))] := hl
  refine lv_aload_n hx hb d_I_hasGroupAtA_0 rfl (lv_at hl 0 rfl) ?_
  refine kw_get hx hb hg in_I hown hK hP q1 hq1 e1 rfl 0 (by decide) (hg _ kg_71) rfl rfl d_I_hasGroupAtA_1 ?_
  refine lv_bipush (v := 16) hx hb d_I_hasGroupAtA_4 (by decide) ?_
  refine lv_icmp_gt (tgt := 13) hx hb d_I_hasGroupAtA_6 (by decide) (fun h1 => ?_) (fun h1 => ?_)
  · refine lv_iconst (v := 0) hx hb d_I_hasGroupAtA_13 (by decide) ?_
    exact kw_zret hx hb hr hlocks hP hK hS (Or.inl rfl) ⟨by rw [kv_I_hasGroupAtA, if_pos h1], rfl⟩ d_I_hasGroupAtA_14
  · refine lv_iconst (v := 1) hx hb d_I_hasGroupAtA_9 (by decide) ?_
    refine lv_goto (tgt := 14) hx hb d_I_hasGroupAtA_10 (by decide) ?_
    exact kw_zret hx hb hr hlocks hP hK hS (Or.inr rfl) ⟨by rw [kv_I_hasGroupAtA, if_neg h1], rfl⟩ d_I_hasGroupAtA_14

def kv_I_hasGroupAtB (op : Int32) : Int32 := if op = 19 then 1 else if 16 < op then 0 else if op = 11 then 0 else if op = 15 then 0 else if op = 14 then 0 else 1
set_option maxRecDepth 100000 in
set_option maxHeartbeats 4000000 in
theorem c_I_hasGroupAtB (l : Launch) {D : va_G} {tys : List (ClassId × FieldType)} {ad : Nat → Nat} {n : Nat} {cs : Nat → va_E} {q1 : Nat} {op : Int32} {rd : Int32} {ra : Int32} {rb : Int32} {rn : Int32} {mk : Int32} (hq1 : q1 < n) (e1 : cs q1 = .inr (1, [.int op, .int rd, .int ra, .int rb, .int rn, .int mk]))  : kw_mi l y_I_hasGroupAtB w_I_hasGroupAtB (kr 0) D kc tys ad n cs [.ref (ad q1)] (fun r9 c9 => r9 = kv_I_hasGroupAtB op ∧ c9 = cs) := by
  refine kw_of (cc := b_I_hasGroupAtB) (maxL := 1) (ret := (some .boolean)) (by decide) rfl (Nat.le_of_ble_eq_true rfl) ?_
  intro p e s m below meth c ls hx hb hr hml hown hts hlocks hP hK hl
  have hg : ∀ w9 ∈ kg_G, w9.before [.ref (ad q1)].toArray s = true := fun w9 h9 => hts w9 (List.mem_cons_of_mem _ h9)
  have hown : s.vm.findClass "LaneMachine$Instruction" = some m.cls := hown
  have hA : ∀ k, k < n → kw_A ad n (ad k) := fun k hk => ⟨k, hk, rfl⟩
  have hS : va_S (kw_A ad n) s.heap s.heap [] := va_S.rf
  have hl : lv_has ls 1 [(0, .ref (ad q1))] := hl
  refine lv_aload_n hx hb d_I_hasGroupAtB_0 rfl (lv_at hl 0 rfl) ?_
  refine kw_get hx hb hg in_I hown hK hP q1 hq1 e1 rfl 0 (by decide) (hg _ kg_71) rfl rfl d_I_hasGroupAtB_1 ?_
  refine lv_bipush (v := 19) hx hb d_I_hasGroupAtB_4 (by decide) ?_
  refine lv_icmp_eq (tgt := 45) hx hb d_I_hasGroupAtB_6 (by decide) (fun h1 => ?_) (fun h1 => ?_)
  · refine lv_iconst (v := 1) hx hb d_I_hasGroupAtB_45 (by decide) ?_
    refine lv_goto (tgt := 50) hx hb d_I_hasGroupAtB_46 (by decide) ?_
    exact kw_zret hx hb hr hlocks hP hK hS (Or.inr rfl) ⟨by rw [kv_I_hasGroupAtB, if_pos h1], rfl⟩ d_I_hasGroupAtB_50
  · refine lv_aload_n hx hb d_I_hasGroupAtB_9 rfl (lv_at hl 0 rfl) ?_
    refine kw_get hx hb hg in_I hown hK hP q1 hq1 e1 rfl 0 (by decide) (hg _ kg_71) rfl rfl d_I_hasGroupAtB_10 ?_
    refine lv_bipush (v := 16) hx hb d_I_hasGroupAtB_13 (by decide) ?_
    refine lv_icmp_gt (tgt := 49) hx hb d_I_hasGroupAtB_15 (by decide) (fun h2 => ?_) (fun h2 => ?_)
    · refine lv_iconst (v := 0) hx hb d_I_hasGroupAtB_49 (by decide) ?_
      exact kw_zret hx hb hr hlocks hP hK hS (Or.inl rfl) ⟨by rw [kv_I_hasGroupAtB, if_neg h1, if_pos h2], rfl⟩ d_I_hasGroupAtB_50
    · refine lv_aload_n hx hb d_I_hasGroupAtB_18 rfl (lv_at hl 0 rfl) ?_
      refine kw_get hx hb hg in_I hown hK hP q1 hq1 e1 rfl 0 (by decide) (hg _ kg_71) rfl rfl d_I_hasGroupAtB_19 ?_
      refine lv_bipush (v := 11) hx hb d_I_hasGroupAtB_22 (by decide) ?_
      refine lv_icmp_eq (tgt := 49) hx hb d_I_hasGroupAtB_24 (by decide) (fun h3 => ?_) (fun h3 => ?_)
      · refine lv_iconst (v := 0) hx hb d_I_hasGroupAtB_49 (by decide) ?_
        exact kw_zret hx hb hr hlocks hP hK hS (Or.inl rfl) ⟨by rw [kv_I_hasGroupAtB, if_neg h1, if_neg h2, if_pos h3], rfl⟩ d_I_hasGroupAtB_50
      · refine lv_aload_n hx hb d_I_hasGroupAtB_27 rfl (lv_at hl 0 rfl) ?_
        refine kw_get hx hb hg in_I hown hK hP q1 hq1 e1 rfl 0 (by decide) (hg _ kg_71) rfl rfl d_I_hasGroupAtB_28 ?_
        refine lv_bipush (v := 15) hx hb d_I_hasGroupAtB_31 (by decide) ?_
        refine lv_icmp_eq (tgt := 49) hx hb d_I_hasGroupAtB_33 (by decide) (fun h4 => ?_) (fun h4 => ?_)
        · refine lv_iconst (v := 0) hx hb d_I_hasGroupAtB_49 (by decide) ?_
          exact kw_zret hx hb hr hlocks hP hK hS (Or.inl rfl) ⟨by rw [kv_I_hasGroupAtB, if_neg h1, if_neg h2, if_neg h3, if_pos h4], rfl⟩ d_I_hasGroupAtB_50
        · refine lv_aload_n hx hb d_I_hasGroupAtB_36 rfl (lv_at hl 0 rfl) ?_
          refine kw_get hx hb hg in_I hown hK hP q1 hq1 e1 rfl 0 (by decide) (hg _ kg_71) rfl rfl d_I_hasGroupAtB_37 ?_
          refine lv_bipush (v := 14) hx hb d_I_hasGroupAtB_40 (by decide) ?_
          refine lv_icmp_eq (tgt := 49) hx hb d_I_hasGroupAtB_42 (by decide) (fun h5 => ?_) (fun h5 => ?_)
          · refine lv_iconst (v := 0) hx hb d_I_hasGroupAtB_49 (by decide) ?_
            exact kw_zret hx hb hr hlocks hP hK hS (Or.inl rfl) ⟨by rw [kv_I_hasGroupAtB, if_neg h1, if_neg h2, if_neg h3, if_neg h4, if_pos h5], rfl⟩ d_I_hasGroupAtB_50
          · refine lv_iconst (v := 1) hx hb d_I_hasGroupAtB_45 (by decide) ?_
            refine lv_goto (tgt := 50) hx hb d_I_hasGroupAtB_46 (by decide) ?_
            exact kw_zret hx hb hr hlocks hP hK hS (Or.inr rfl) ⟨by rw [kv_I_hasGroupAtB, if_neg h1, if_neg h2, if_neg h3, if_neg h4, if_neg h5], rfl⟩ d_I_hasGroupAtB_50

def kv_S_spoilsMask (op : Int32) (rd : Int32) (mk : Int32) : Int32 := if mk = 0 then 0 else if rd = 0 then (if op = 12 then 0 else if op = 18 then 0 else 1) else 0
set_option maxRecDepth 100000 in
set_option maxHeartbeats 4000000 in
theorem c_S_spoilsMask (l : Launch) {D : va_G} {tys : List (ClassId × FieldType)} {ad : Nat → Nat} {n : Nat} {cs : Nat → va_E} {q1 : Nat} {op : Int32} {rd : Int32} {ra : Int32} {rb : Int32} {rn : Int32} {mk : Int32} (hq1 : q1 < n) (e1 : cs q1 = .inr (1, [.int op, .int rd, .int ra, .int rb, .int rn, .int mk]))  : kw_mi l y_S_spoilsMask w_S_spoilsMask (kr 0) D kc tys ad n cs [.ref (ad q1)] (fun r9 c9 => r9 = kv_S_spoilsMask op rd mk ∧ c9 = cs) := by
  refine kw_of (cc := b_S_spoilsMask) (maxL := 1) (ret := (some .boolean)) (by decide) rfl (Nat.le_of_ble_eq_true rfl) ?_
  intro p e s m below meth c ls hx hb hr hml hown hts hlocks hP hK hl
  have hg : ∀ w9 ∈ kg_G, w9.before [.ref (ad q1)].toArray s = true := fun w9 h9 => hts w9 (List.mem_cons_of_mem _ h9)
  have hown : s.vm.findClass "LaneMachine$Setting" = some m.cls := hown
  have hA : ∀ k, k < n → kw_A ad n (ad k) := fun k hk => ⟨k, hk, rfl⟩
  have hS : va_S (kw_A ad n) s.heap s.heap [] := va_S.rf
  have hl : lv_has ls 1 [(0, .ref (ad q1))] := hl
  refine lv_aload_n hx hb d_S_spoilsMask_0 rfl (lv_at hl 0 rfl) ?_
  refine kw_get hx hb hg in_I hown hK hP q1 hq1 e1 rfl 5 (by decide) (hg _ kg_90) rfl rfl d_S_spoilsMask_1 ?_
  refine lv_if_eq (tgt := 36) hx hb d_S_spoilsMask_4 (by decide) (fun h1 => ?_) (fun h1 => ?_)
  · refine lv_iconst (v := 0) hx hb d_S_spoilsMask_36 (by decide) ?_
    exact kw_zret hx hb hr hlocks hP hK hS (Or.inl rfl) ⟨by rw [kv_S_spoilsMask, if_pos h1], rfl⟩ d_S_spoilsMask_37
  · refine lv_aload_n hx hb d_S_spoilsMask_7 rfl (lv_at hl 0 rfl) ?_
    refine kw_get hx hb hg in_I hown hK hP q1 hq1 e1 rfl 1 (by decide) (hg _ kg_76) rfl rfl d_S_spoilsMask_8 ?_
    refine lv_if_ne (tgt := 36) hx hb d_S_spoilsMask_11 (by decide) (fun h2 => ?_) (fun h2 => ?_)
    · refine lv_iconst (v := 0) hx hb d_S_spoilsMask_36 (by decide) ?_
      exact kw_zret hx hb hr hlocks hP hK hS (Or.inl rfl) ⟨by rw [kv_S_spoilsMask, if_neg h1, if_neg h2], rfl⟩ d_S_spoilsMask_37
    · refine lv_aload_n hx hb d_S_spoilsMask_14 rfl (lv_at hl 0 rfl) ?_
      refine kw_get hx hb hg in_I hown hK hP q1 hq1 e1 rfl 0 (by decide) (hg _ kg_73) rfl rfl d_S_spoilsMask_15 ?_
      refine lv_bipush (v := 12) hx hb d_S_spoilsMask_18 (by decide) ?_
      refine lv_icmp_eq (tgt := 36) hx hb d_S_spoilsMask_20 (by decide) (fun h3 => ?_) (fun h3 => ?_)
      · refine lv_iconst (v := 0) hx hb d_S_spoilsMask_36 (by decide) ?_
        exact kw_zret hx hb hr hlocks hP hK hS (Or.inl rfl) ⟨by rw [kv_S_spoilsMask, if_neg h1, if_pos h2, if_pos h3], rfl⟩ d_S_spoilsMask_37
      · refine lv_aload_n hx hb d_S_spoilsMask_23 rfl (lv_at hl 0 rfl) ?_
        refine kw_get hx hb hg in_I hown hK hP q1 hq1 e1 rfl 0 (by decide) (hg _ kg_73) rfl rfl d_S_spoilsMask_24 ?_
        refine lv_bipush (v := 18) hx hb d_S_spoilsMask_27 (by decide) ?_
        refine lv_icmp_eq (tgt := 36) hx hb d_S_spoilsMask_29 (by decide) (fun h4 => ?_) (fun h4 => ?_)
        · refine lv_iconst (v := 0) hx hb d_S_spoilsMask_36 (by decide) ?_
          exact kw_zret hx hb hr hlocks hP hK hS (Or.inl rfl) ⟨by rw [kv_S_spoilsMask, if_neg h1, if_pos h2, if_neg h3, if_pos h4], rfl⟩ d_S_spoilsMask_37
        · refine lv_iconst (v := 1) hx hb d_S_spoilsMask_32 (by decide) ?_
          refine lv_goto (tgt := 37) hx hb d_S_spoilsMask_33 (by decide) ?_
          exact kw_zret hx hb hr hlocks hP hK hS (Or.inr rfl) ⟨by rw [kv_S_spoilsMask, if_neg h1, if_pos h2, if_neg h3, if_neg h4], rfl⟩ d_S_spoilsMask_37

def kv_S_isInWideGroup (gp : Int32) (x : Int32) (y : Int32) : Int32 := if y < x then 0 else if (x + (2 * (kv_S_group gp))) ≤ y then 0 else 1
set_option maxRecDepth 100000 in
set_option maxHeartbeats 4000000 in
theorem c_S_isInWideGroup (l : Launch) {D : va_G} {tys : List (ClassId × FieldType)} {ad : Nat → Nat} {n : Nat} {cs : Nat → va_E} {q0 : Nat} {wp : Int32} {gp : Int32} {ln : Int32} {sa : Int32} {x : Int32} {y : Int32} (hq0 : q0 < n) (e0 : cs q0 = .inr (2, [.int wp, .int gp, .int ln, .int sa]))  : kw_mi l y_S_isInWideGroup w_S_isInWideGroup (kr 1) D kc tys ad n cs [.ref (ad q0), .int x, .int y] (fun r9 c9 => r9 = kv_S_isInWideGroup gp x y ∧ c9 = cs) := by
  refine kw_of (cc := b_S_isInWideGroup) (maxL := 3) (ret := (some .boolean)) (by decide) rfl (Nat.le_of_ble_eq_true rfl) ?_
  intro p e s m below meth c ls hx hb hr hml hown hts hlocks hP hK hl
  have hg : ∀ w9 ∈ kg_G, w9.before [.ref (ad q0), .int x, .int y].toArray s = true := fun w9 h9 => hts w9 (List.mem_cons_of_mem _ h9)
  have hown : s.vm.findClass "LaneMachine$Setting" = some m.cls := hown
  have hA : ∀ k, k < n → kw_A ad n (ad k) := fun k hk => ⟨k, hk, rfl⟩
  have hS : va_S (kw_A ad n) s.heap s.heap [] := va_S.rf
  have hl : lv_has ls 3 [(0, .ref (ad q0)), (1, .int x), (2, .int y)] := hl
  refine lv_iload_n hx hb d_S_isInWideGroup_0 rfl (lv_at hl 2 rfl) ?_
  refine lv_iload_n hx hb d_S_isInWideGroup_1 rfl (lv_at hl 1 rfl) ?_
  refine lv_icmp_lt (tgt := 21) hx hb d_S_isInWideGroup_2 (by decide) (fun h1 => ?_) (fun h1 => ?_)
  · refine lv_iconst (v := 0) hx hb d_S_isInWideGroup_21 (by decide) ?_
    exact kw_zret hx hb hr hlocks hP hK hS (Or.inl rfl) ⟨by rw [kv_S_isInWideGroup, if_pos h1], rfl⟩ d_S_isInWideGroup_22
  · refine lv_iload_n hx hb d_S_isInWideGroup_5 rfl (lv_at hl 2 rfl) ?_
    refine lv_iload_n hx hb d_S_isInWideGroup_6 rfl (lv_at hl 1 rfl) ?_
    refine lv_iconst (v := 2) hx hb d_S_isInWideGroup_7 (by decide) ?_
    refine lv_aload_n hx hb d_S_isInWideGroup_8 rfl (lv_at hl 0 rfl) ?_
    refine kw_callix (kw_rV (As := []) (rest := [.int 2, .int x, .int y]) (q0 := q0) ⟨hx, hb, hml, hown, hg⟩ ⟨callB_of 0 hg (kg_goodG kg_236) rfl rfl rfl (hg _ kg_4) (hg _ kg_482) (by decide +kernel) ⟨by decide, by decide⟩, hg _ kg_234, hg _ kg_235⟩ (c_S_group l hq0 e0 ) hK hP hq0 e0 rfl rfl hl.1 rfl (Nat.le_of_ble_eq_true rfl) d_S_isInWideGroup_9 ⟨Nat.zero_le _, Nat.zero_le _⟩) hA hS (fun H locs hP hS => ?_)
    refine lv_imul hx hb d_S_isInWideGroup_12 ?_
    refine lv_iadd hx hb d_S_isInWideGroup_13 ?_
    refine lv_icmp_ge (tgt := 21) hx hb d_S_isInWideGroup_14 (by decide) (fun h2 => ?_) (fun h2 => ?_)
    · refine lv_iconst (v := 0) hx hb d_S_isInWideGroup_21 (by decide) ?_
      exact kw_zret hx hb hr hlocks hP hK hS (Or.inl rfl) ⟨by rw [kv_S_isInWideGroup, if_neg h1, if_pos h2], rfl⟩ d_S_isInWideGroup_22
    · refine lv_iconst (v := 1) hx hb d_S_isInWideGroup_17 (by decide) ?_
      refine lv_goto (tgt := 22) hx hb d_S_isInWideGroup_18 (by decide) ?_
      exact kw_zret hx hb hr hlocks hP hK hS (Or.inr rfl) ⟨by rw [kv_S_isInWideGroup, if_neg h1, if_neg h2], rfl⟩ d_S_isInWideGroup_22

def kv_S_isTooWide (wp : Int32) (gp : Int32) (op : Int32) : Int32 := if op = 13 then (if (kv_S_width wp) = 4 then 1 else if (kv_S_group gp) = 4 then 1 else 0) else 0
set_option maxRecDepth 100000 in
set_option maxHeartbeats 4000000 in
theorem c_S_isTooWide (l : Launch) {D : va_G} {tys : List (ClassId × FieldType)} {ad : Nat → Nat} {n : Nat} {cs : Nat → va_E} {q0 : Nat} {wp : Int32} {gp : Int32} {ln : Int32} {sa : Int32} {q1 : Nat} {op : Int32} {rd : Int32} {ra : Int32} {rb : Int32} {rn : Int32} {mk : Int32} (hq0 : q0 < n) (e0 : cs q0 = .inr (2, [.int wp, .int gp, .int ln, .int sa])) (hq1 : q1 < n) (e1 : cs q1 = .inr (1, [.int op, .int rd, .int ra, .int rb, .int rn, .int mk]))  : kw_mi l y_S_isTooWide w_S_isTooWide (kr 1) D kc tys ad n cs [.ref (ad q0), .ref (ad q1)] (fun r9 c9 => r9 = kv_S_isTooWide wp gp op ∧ c9 = cs) := by
  refine kw_of (cc := b_S_isTooWide) (maxL := 2) (ret := (some .boolean)) (by decide) rfl (Nat.le_of_ble_eq_true rfl) ?_
  intro p e s m below meth c ls hx hb hr hml hown hts hlocks hP hK hl
  have hg : ∀ w9 ∈ kg_G, w9.before [.ref (ad q0), .ref (ad q1)].toArray s = true := fun w9 h9 => hts w9 (List.mem_cons_of_mem _ h9)
  have hown : s.vm.findClass "LaneMachine$Setting" = some m.cls := hown
  have hA : ∀ k, k < n → kw_A ad n (ad k) := fun k hk => ⟨k, hk, rfl⟩
  have hS : va_S (kw_A ad n) s.heap s.heap [] := va_S.rf
  have hl : lv_has ls 2 [(0, .ref (ad q0)), (1, .ref (ad q1))] := hl
  refine lv_aload_n hx hb d_S_isTooWide_0 rfl (lv_at hl 1 rfl) ?_
  refine kw_get hx hb hg in_I hown hK hP q1 hq1 e1 rfl 0 (by decide) (hg _ kg_73) rfl rfl d_S_isTooWide_1 ?_
  refine lv_bipush (v := 13) hx hb d_S_isTooWide_4 (by decide) ?_
  refine lv_icmp_ne (tgt := 29) hx hb d_S_isTooWide_6 (by decide) (fun h1 => ?_) (fun h1 => ?_)
  · refine lv_iconst (v := 0) hx hb d_S_isTooWide_29 (by decide) ?_
    exact kw_zret hx hb hr hlocks hP hK hS (Or.inl rfl) ⟨by rw [kv_S_isTooWide, if_neg h1], rfl⟩ d_S_isTooWide_30
  · refine lv_aload_n hx hb d_S_isTooWide_9 rfl (lv_at hl 0 rfl) ?_
    refine kw_callix (kw_rV (As := []) (rest := []) (q0 := q0) ⟨hx, hb, hml, hown, hg⟩ ⟨callB_of 0 hg (kg_goodG kg_232) rfl rfl rfl (hg _ kg_4) (hg _ kg_513) (by decide +kernel) ⟨by decide, by decide⟩, hg _ kg_230, hg _ kg_231⟩ (c_S_width l hq0 e0 ) hK hP hq0 e0 rfl rfl hl.1 rfl (Nat.le_of_ble_eq_true rfl) d_S_isTooWide_10 ⟨Nat.zero_le _, Nat.zero_le _⟩) hA hS (fun H locs hP hS => ?_)
    refine lv_iconst (v := 4) hx hb d_S_isTooWide_13 (by decide) ?_
    refine lv_icmp_eq (tgt := 25) hx hb d_S_isTooWide_14 (by decide) (fun h2 => ?_) (fun h2 => ?_)
    · refine lv_iconst (v := 1) hx hb d_S_isTooWide_25 (by decide) ?_
      refine lv_goto (tgt := 30) hx hb d_S_isTooWide_26 (by decide) ?_
      exact kw_zret hx hb hr hlocks hP hK hS (Or.inr rfl) ⟨by rw [kv_S_isTooWide, if_pos h1, if_pos h2], rfl⟩ d_S_isTooWide_30
    · refine lv_aload_n hx hb d_S_isTooWide_17 rfl (lv_at hl 0 rfl) ?_
      refine kw_callix (kw_rV (As := []) (rest := []) (q0 := q0) ⟨hx, hb, hml, hown, hg⟩ ⟨callB_of 0 hg (kg_goodG kg_236) rfl rfl rfl (hg _ kg_4) (hg _ kg_482) (by decide +kernel) ⟨by decide, by decide⟩, hg _ kg_234, hg _ kg_235⟩ (c_S_group l hq0 e0 ) hK hP hq0 e0 rfl rfl hl.1 rfl (Nat.le_of_ble_eq_true rfl) d_S_isTooWide_18 ⟨Nat.zero_le _, Nat.zero_le _⟩) hA hS (fun H locs hP hS => ?_)
      refine lv_iconst (v := 4) hx hb d_S_isTooWide_21 (by decide) ?_
      refine lv_icmp_ne (tgt := 29) hx hb d_S_isTooWide_22 (by decide) (fun h3 => ?_) (fun h3 => ?_)
      · refine lv_iconst (v := 0) hx hb d_S_isTooWide_29 (by decide) ?_
        exact kw_zret hx hb hr hlocks hP hK hS (Or.inl rfl) ⟨by rw [kv_S_isTooWide, if_pos h1, if_neg h2, if_neg h3], rfl⟩ d_S_isTooWide_30
      · refine lv_iconst (v := 1) hx hb d_S_isTooWide_25 (by decide) ?_
        refine lv_goto (tgt := 30) hx hb d_S_isTooWide_26 (by decide) ?_
        exact kw_zret hx hb hr hlocks hP hK hS (Or.inr rfl) ⟨by rw [kv_S_isTooWide, if_pos h1, if_neg h2, if_pos h3], rfl⟩ d_S_isTooWide_30

def kv_S_isMisplaced (gp : Int32) (op : Int32) (rd : Int32) (ra : Int32) (rb : Int32) : Int32 := if op = 13 then (if (kv_I_hasGroupAtD op) = 0 then (if (kv_I_hasGroupAtA op) = 0 then (if (kv_I_hasGroupAtB op) = 0 then 0 else if (kv_S_isMultiple rb (kv_S_group gp)) = 0 then 1 else 0) else if (kv_S_isMultiple ra (kv_S_group gp)) = 0 then 1 else if (kv_I_hasGroupAtB op) = 0 then 0 else if (kv_S_isMultiple rb (kv_S_group gp)) = 0 then 1 else 0) else if (kv_S_isMultiple rd (2 * (kv_S_group gp))) = 0 then 1 else if (kv_I_hasGroupAtA op) = 0 then (if (kv_I_hasGroupAtB op) = 0 then 0 else if (kv_S_isMultiple rb (kv_S_group gp)) = 0 then 1 else 0) else if (kv_S_isMultiple ra (kv_S_group gp)) = 0 then 1 else if (kv_I_hasGroupAtB op) = 0 then 0 else if (kv_S_isMultiple rb (kv_S_group gp)) = 0 then 1 else 0) else if (kv_I_hasGroupAtD op) = 0 then (if (kv_I_hasGroupAtA op) = 0 then (if (kv_I_hasGroupAtB op) = 0 then 0 else if (kv_S_isMultiple rb (kv_S_group gp)) = 0 then 1 else 0) else if (kv_S_isMultiple ra (kv_S_group gp)) = 0 then 1 else if (kv_I_hasGroupAtB op) = 0 then 0 else if (kv_S_isMultiple rb (kv_S_group gp)) = 0 then 1 else 0) else if (kv_S_isMultiple rd (kv_S_group gp)) = 0 then 1 else if (kv_I_hasGroupAtA op) = 0 then (if (kv_I_hasGroupAtB op) = 0 then 0 else if (kv_S_isMultiple rb (kv_S_group gp)) = 0 then 1 else 0) else if (kv_S_isMultiple ra (kv_S_group gp)) = 0 then 1 else if (kv_I_hasGroupAtB op) = 0 then 0 else if (kv_S_isMultiple rb (kv_S_group gp)) = 0 then 1 else 0
set_option maxRecDepth 100000 in
set_option maxHeartbeats 4000000 in
theorem c_S_isMisplaced (l : Launch) {D : va_G} {tys : List (ClassId × FieldType)} {ad : Nat → Nat} {n : Nat} {cs : Nat → va_E} {q0 : Nat} {wp : Int32} {gp : Int32} {ln : Int32} {sa : Int32} {q1 : Nat} {op : Int32} {rd : Int32} {ra : Int32} {rb : Int32} {rn : Int32} {mk : Int32} (hq0 : q0 < n) (e0 : cs q0 = .inr (2, [.int wp, .int gp, .int ln, .int sa])) (hq1 : q1 < n) (e1 : cs q1 = .inr (1, [.int op, .int rd, .int ra, .int rb, .int rn, .int mk]))  : kw_mi l y_S_isMisplaced w_S_isMisplaced (kr 1) D kc tys ad n cs [.ref (ad q0), .ref (ad q1)] (fun r9 c9 => r9 = kv_S_isMisplaced gp op rd ra rb ∧ c9 = cs) := by
  refine kw_of (cc := b_S_isMisplaced) (maxL := 3) (ret := (some .boolean)) (by decide) rfl (Nat.le_of_ble_eq_true rfl) ?_
  intro p e s m below meth c ls hx hb hr hml hown hts hlocks hP hK hl
  have hg : ∀ w9 ∈ kg_G, w9.before [.ref (ad q0), .ref (ad q1)].toArray s = true := fun w9 h9 => hts w9 (List.mem_cons_of_mem _ h9)
  have hown : s.vm.findClass "LaneMachine$Setting" = some m.cls := hown
  have hA : ∀ k, k < n → kw_A ad n (ad k) := fun k hk => ⟨k, hk, rfl⟩
  have hS : va_S (kw_A ad n) s.heap s.heap [] := va_S.rf
  have hl : lv_has ls 3 [(0, .ref (ad q0)), (1, .ref (ad q1))] := hl
  refine lv_aload_n hx hb d_S_isMisplaced_0 rfl (lv_at hl 1 rfl) ?_
  refine kw_get hx hb hg in_I hown hK hP q1 hq1 e1 rfl 0 (by decide) (hg _ kg_73) rfl rfl d_S_isMisplaced_1 ?_
  refine lv_bipush (v := 13) hx hb d_S_isMisplaced_4 (by decide) ?_
  refine lv_icmp_ne (tgt := 18) hx hb d_S_isMisplaced_6 (by decide) (fun h1 => ?_) (fun h1 => ?_)
  · refine lv_aload_n hx hb d_S_isMisplaced_18 rfl (lv_at hl 0 rfl) ?_
    refine kw_callix (kw_rV (As := []) (rest := []) (q0 := q0) ⟨hx, hb, hml, hown, hg⟩ ⟨callB_of 0 hg (kg_goodG kg_236) rfl rfl rfl (hg _ kg_4) (hg _ kg_482) (by decide +kernel) ⟨by decide, by decide⟩, hg _ kg_234, hg _ kg_235⟩ (c_S_group l hq0 e0 ) hK hP hq0 e0 rfl rfl hl.1 rfl (Nat.le_of_ble_eq_true rfl) d_S_isMisplaced_19 ⟨Nat.zero_le _, Nat.zero_le _⟩) hA hS (fun H locs hP hS => ?_)
    refine lv_istore_n (lv' := [(2, .int (kv_S_group gp)), (0, .ref (ad q0)), (1, .ref (ad q1))]) hx hb d_S_isMisplaced_22 rfl hl (by decide) rfl (fun ls hl => ?_)
    refine lv_aload_n hx hb d_S_isMisplaced_23 rfl (lv_at hl 2 rfl) ?_
    refine kw_callix (kw_rV (As := []) (rest := []) (q0 := q1) ⟨hx, hb, hml, hown, hg⟩ ⟨callB_of 0 hg (kg_goodG kg_486) rfl rfl rfl (hg _ kg_5) (hg _ kg_483) (by decide +kernel) ⟨by decide, by decide⟩, hg _ kg_484, hg _ kg_485⟩ (c_I_hasGroupAtD l hq1 e1 ) hK hP hq1 e1 rfl rfl hl.1 rfl (Nat.le_of_ble_eq_true rfl) d_S_isMisplaced_24 ⟨Nat.zero_le _, Nat.zero_le _⟩) hA hS (fun H locs hP hS => ?_)
    refine lv_if_eq (tgt := 41) hx hb d_S_isMisplaced_27 (by decide) (fun h2 => ?_) (fun h2 => ?_)
    · refine lv_aload_n hx hb d_S_isMisplaced_41 rfl (lv_at hl 2 rfl) ?_
      refine kw_callix (kw_rV (As := []) (rest := []) (q0 := q1) ⟨hx, hb, hml, hown, hg⟩ ⟨callB_of 0 hg (kg_goodG kg_493) rfl rfl rfl (hg _ kg_5) (hg _ kg_490) (by decide +kernel) ⟨by decide, by decide⟩, hg _ kg_491, hg _ kg_492⟩ (c_I_hasGroupAtA l hq1 e1 ) hK hP hq1 e1 rfl rfl hl.1 rfl (Nat.le_of_ble_eq_true rfl) d_S_isMisplaced_42 ⟨Nat.zero_le _, Nat.zero_le _⟩) hA hS (fun H locs hP hS => ?_)
      refine lv_if_eq (tgt := 62) hx hb d_S_isMisplaced_45 (by decide) (fun h3 => ?_) (fun h3 => ?_)
      · refine lv_aload_n hx hb d_S_isMisplaced_62 rfl (lv_at hl 2 rfl) ?_
        refine kw_callix (kw_rV (As := []) (rest := []) (q0 := q1) ⟨hx, hb, hml, hown, hg⟩ ⟨callB_of 0 hg (kg_goodG kg_497) rfl rfl rfl (hg _ kg_5) (hg _ kg_494) (by decide +kernel) ⟨by decide, by decide⟩, hg _ kg_495, hg _ kg_496⟩ (c_I_hasGroupAtB l hq1 e1 ) hK hP hq1 e1 rfl rfl hl.1 rfl (Nat.le_of_ble_eq_true rfl) d_S_isMisplaced_63 ⟨Nat.zero_le _, Nat.zero_le _⟩) hA hS (fun H locs hP hS => ?_)
        refine lv_if_eq (tgt := 87) hx hb d_S_isMisplaced_66 (by decide) (fun h4 => ?_) (fun h4 => ?_)
        · refine lv_iconst (v := 0) hx hb d_S_isMisplaced_87 (by decide) ?_
          exact kw_zret hx hb hr hlocks hP hK hS (Or.inl rfl) ⟨by rw [kv_S_isMisplaced, if_neg h1, if_pos h2, if_pos h3, if_pos h4], rfl⟩ d_S_isMisplaced_88
        · refine lv_aload_n hx hb d_S_isMisplaced_69 rfl (lv_at hl 2 rfl) ?_
          refine kw_get hx hb hg in_I hown hK hP q1 hq1 e1 rfl 3 (by decide) (hg _ kg_84) rfl rfl d_S_isMisplaced_70 ?_
          refine lv_aload_n hx hb d_S_isMisplaced_73 rfl (lv_at hl 1 rfl) ?_
          refine kw_callix (kw_rV (As := []) (rest := [.int rb]) (q0 := q0) ⟨hx, hb, hml, hown, hg⟩ ⟨callB_of 0 hg (kg_goodG kg_236) rfl rfl rfl (hg _ kg_4) (hg _ kg_482) (by decide +kernel) ⟨by decide, by decide⟩, hg _ kg_234, hg _ kg_235⟩ (c_S_group l hq0 e0 ) hK hP hq0 e0 rfl rfl hl.1 rfl (Nat.le_of_ble_eq_true rfl) d_S_isMisplaced_74 ⟨Nat.zero_le _, Nat.zero_le _⟩) hA hS (fun H locs hP hS => ?_)
          refine kw_callix (kw_rS (As := [.int rb, .int (kv_S_group gp)]) (rest := []) ⟨hx, hb, hml, hown, hg⟩ ⟨callB_of 2 hg (kg_goodG kg_489) rfl rfl rfl (hg _ kg_4) (hg _ kg_487) (by decide +kernel) ⟨by decide, by decide⟩, hg _ kg_488⟩ (c_S_isMultiple l  ) hK hP rfl hl.1 rfl (Nat.le_of_ble_eq_true rfl) d_S_isMisplaced_77 ⟨Nat.zero_le _, Nat.zero_le _⟩) hA hS (fun H locs hP hS => ?_)
          refine lv_if_ne (tgt := 87) hx hb d_S_isMisplaced_80 (by decide) (fun h5 => ?_) (fun h5 => ?_)
          · refine lv_iconst (v := 0) hx hb d_S_isMisplaced_87 (by decide) ?_
            exact kw_zret hx hb hr hlocks hP hK hS (Or.inl rfl) ⟨by rw [kv_S_isMisplaced, if_neg h1, if_pos h2, if_pos h3, if_neg h4, if_neg h5], rfl⟩ d_S_isMisplaced_88
          · refine lv_iconst (v := 1) hx hb d_S_isMisplaced_83 (by decide) ?_
            refine lv_goto (tgt := 88) hx hb d_S_isMisplaced_84 (by decide) ?_
            exact kw_zret hx hb hr hlocks hP hK hS (Or.inr rfl) ⟨by rw [kv_S_isMisplaced, if_neg h1, if_pos h2, if_pos h3, if_neg h4, if_pos h5], rfl⟩ d_S_isMisplaced_88
      · refine lv_aload_n hx hb d_S_isMisplaced_48 rfl (lv_at hl 2 rfl) ?_
        refine kw_get hx hb hg in_I hown hK hP q1 hq1 e1 rfl 2 (by decide) (hg _ kg_80) rfl rfl d_S_isMisplaced_49 ?_
        refine lv_aload_n hx hb d_S_isMisplaced_52 rfl (lv_at hl 1 rfl) ?_
        refine kw_callix (kw_rV (As := []) (rest := [.int ra]) (q0 := q0) ⟨hx, hb, hml, hown, hg⟩ ⟨callB_of 0 hg (kg_goodG kg_236) rfl rfl rfl (hg _ kg_4) (hg _ kg_482) (by decide +kernel) ⟨by decide, by decide⟩, hg _ kg_234, hg _ kg_235⟩ (c_S_group l hq0 e0 ) hK hP hq0 e0 rfl rfl hl.1 rfl (Nat.le_of_ble_eq_true rfl) d_S_isMisplaced_53 ⟨Nat.zero_le _, Nat.zero_le _⟩) hA hS (fun H locs hP hS => ?_)
        refine kw_callix (kw_rS (As := [.int ra, .int (kv_S_group gp)]) (rest := []) ⟨hx, hb, hml, hown, hg⟩ ⟨callB_of 2 hg (kg_goodG kg_489) rfl rfl rfl (hg _ kg_4) (hg _ kg_487) (by decide +kernel) ⟨by decide, by decide⟩, hg _ kg_488⟩ (c_S_isMultiple l  ) hK hP rfl hl.1 rfl (Nat.le_of_ble_eq_true rfl) d_S_isMisplaced_56 ⟨Nat.zero_le _, Nat.zero_le _⟩) hA hS (fun H locs hP hS => ?_)
        refine lv_if_eq (tgt := 83) hx hb d_S_isMisplaced_59 (by decide) (fun h6 => ?_) (fun h6 => ?_)
        · refine lv_iconst (v := 1) hx hb d_S_isMisplaced_83 (by decide) ?_
          refine lv_goto (tgt := 88) hx hb d_S_isMisplaced_84 (by decide) ?_
          exact kw_zret hx hb hr hlocks hP hK hS (Or.inr rfl) ⟨by rw [kv_S_isMisplaced, if_neg h1, if_pos h2, if_neg h3, if_pos h6], rfl⟩ d_S_isMisplaced_88
        · refine lv_aload_n hx hb d_S_isMisplaced_62 rfl (lv_at hl 2 rfl) ?_
          refine kw_callix (kw_rV (As := []) (rest := []) (q0 := q1) ⟨hx, hb, hml, hown, hg⟩ ⟨callB_of 0 hg (kg_goodG kg_497) rfl rfl rfl (hg _ kg_5) (hg _ kg_494) (by decide +kernel) ⟨by decide, by decide⟩, hg _ kg_495, hg _ kg_496⟩ (c_I_hasGroupAtB l hq1 e1 ) hK hP hq1 e1 rfl rfl hl.1 rfl (Nat.le_of_ble_eq_true rfl) d_S_isMisplaced_63 ⟨Nat.zero_le _, Nat.zero_le _⟩) hA hS (fun H locs hP hS => ?_)
          refine lv_if_eq (tgt := 87) hx hb d_S_isMisplaced_66 (by decide) (fun h7 => ?_) (fun h7 => ?_)
          · refine lv_iconst (v := 0) hx hb d_S_isMisplaced_87 (by decide) ?_
            exact kw_zret hx hb hr hlocks hP hK hS (Or.inl rfl) ⟨by rw [kv_S_isMisplaced, if_neg h1, if_pos h2, if_neg h3, if_neg h6, if_pos h7], rfl⟩ d_S_isMisplaced_88
          · refine lv_aload_n hx hb d_S_isMisplaced_69 rfl (lv_at hl 2 rfl) ?_
            refine kw_get hx hb hg in_I hown hK hP q1 hq1 e1 rfl 3 (by decide) (hg _ kg_84) rfl rfl d_S_isMisplaced_70 ?_
            refine lv_aload_n hx hb d_S_isMisplaced_73 rfl (lv_at hl 1 rfl) ?_
            refine kw_callix (kw_rV (As := []) (rest := [.int rb]) (q0 := q0) ⟨hx, hb, hml, hown, hg⟩ ⟨callB_of 0 hg (kg_goodG kg_236) rfl rfl rfl (hg _ kg_4) (hg _ kg_482) (by decide +kernel) ⟨by decide, by decide⟩, hg _ kg_234, hg _ kg_235⟩ (c_S_group l hq0 e0 ) hK hP hq0 e0 rfl rfl hl.1 rfl (Nat.le_of_ble_eq_true rfl) d_S_isMisplaced_74 ⟨Nat.zero_le _, Nat.zero_le _⟩) hA hS (fun H locs hP hS => ?_)
            refine kw_callix (kw_rS (As := [.int rb, .int (kv_S_group gp)]) (rest := []) ⟨hx, hb, hml, hown, hg⟩ ⟨callB_of 2 hg (kg_goodG kg_489) rfl rfl rfl (hg _ kg_4) (hg _ kg_487) (by decide +kernel) ⟨by decide, by decide⟩, hg _ kg_488⟩ (c_S_isMultiple l  ) hK hP rfl hl.1 rfl (Nat.le_of_ble_eq_true rfl) d_S_isMisplaced_77 ⟨Nat.zero_le _, Nat.zero_le _⟩) hA hS (fun H locs hP hS => ?_)
            refine lv_if_ne (tgt := 87) hx hb d_S_isMisplaced_80 (by decide) (fun h8 => ?_) (fun h8 => ?_)
            · refine lv_iconst (v := 0) hx hb d_S_isMisplaced_87 (by decide) ?_
              exact kw_zret hx hb hr hlocks hP hK hS (Or.inl rfl) ⟨by rw [kv_S_isMisplaced, if_neg h1, if_pos h2, if_neg h3, if_neg h6, if_neg h7, if_neg h8], rfl⟩ d_S_isMisplaced_88
            · refine lv_iconst (v := 1) hx hb d_S_isMisplaced_83 (by decide) ?_
              refine lv_goto (tgt := 88) hx hb d_S_isMisplaced_84 (by decide) ?_
              exact kw_zret hx hb hr hlocks hP hK hS (Or.inr rfl) ⟨by rw [kv_S_isMisplaced, if_neg h1, if_pos h2, if_neg h3, if_neg h6, if_neg h7, if_pos h8], rfl⟩ d_S_isMisplaced_88
    · refine lv_aload_n hx hb d_S_isMisplaced_30 rfl (lv_at hl 2 rfl) ?_
      refine kw_get hx hb hg in_I hown hK hP q1 hq1 e1 rfl 1 (by decide) (hg _ kg_76) rfl rfl d_S_isMisplaced_31 ?_
      refine lv_iload_n hx hb d_S_isMisplaced_34 rfl (lv_at hl 0 rfl) ?_
      refine kw_callix (kw_rS (As := [.int rd, .int (kv_S_group gp)]) (rest := []) ⟨hx, hb, hml, hown, hg⟩ ⟨callB_of 2 hg (kg_goodG kg_489) rfl rfl rfl (hg _ kg_4) (hg _ kg_487) (by decide +kernel) ⟨by decide, by decide⟩, hg _ kg_488⟩ (c_S_isMultiple l  ) hK hP rfl hl.1 rfl (Nat.le_of_ble_eq_true rfl) d_S_isMisplaced_35 ⟨Nat.zero_le _, Nat.zero_le _⟩) hA hS (fun H locs hP hS => ?_)
      refine lv_if_eq (tgt := 83) hx hb d_S_isMisplaced_38 (by decide) (fun h9 => ?_) (fun h9 => ?_)
      · refine lv_iconst (v := 1) hx hb d_S_isMisplaced_83 (by decide) ?_
        refine lv_goto (tgt := 88) hx hb d_S_isMisplaced_84 (by decide) ?_
        exact kw_zret hx hb hr hlocks hP hK hS (Or.inr rfl) ⟨by rw [kv_S_isMisplaced, if_neg h1, if_neg h2, if_pos h9], rfl⟩ d_S_isMisplaced_88
      · refine lv_aload_n hx hb d_S_isMisplaced_41 rfl (lv_at hl 2 rfl) ?_
        refine kw_callix (kw_rV (As := []) (rest := []) (q0 := q1) ⟨hx, hb, hml, hown, hg⟩ ⟨callB_of 0 hg (kg_goodG kg_493) rfl rfl rfl (hg _ kg_5) (hg _ kg_490) (by decide +kernel) ⟨by decide, by decide⟩, hg _ kg_491, hg _ kg_492⟩ (c_I_hasGroupAtA l hq1 e1 ) hK hP hq1 e1 rfl rfl hl.1 rfl (Nat.le_of_ble_eq_true rfl) d_S_isMisplaced_42 ⟨Nat.zero_le _, Nat.zero_le _⟩) hA hS (fun H locs hP hS => ?_)
        refine lv_if_eq (tgt := 62) hx hb d_S_isMisplaced_45 (by decide) (fun h10 => ?_) (fun h10 => ?_)
        · refine lv_aload_n hx hb d_S_isMisplaced_62 rfl (lv_at hl 2 rfl) ?_
          refine kw_callix (kw_rV (As := []) (rest := []) (q0 := q1) ⟨hx, hb, hml, hown, hg⟩ ⟨callB_of 0 hg (kg_goodG kg_497) rfl rfl rfl (hg _ kg_5) (hg _ kg_494) (by decide +kernel) ⟨by decide, by decide⟩, hg _ kg_495, hg _ kg_496⟩ (c_I_hasGroupAtB l hq1 e1 ) hK hP hq1 e1 rfl rfl hl.1 rfl (Nat.le_of_ble_eq_true rfl) d_S_isMisplaced_63 ⟨Nat.zero_le _, Nat.zero_le _⟩) hA hS (fun H locs hP hS => ?_)
          refine lv_if_eq (tgt := 87) hx hb d_S_isMisplaced_66 (by decide) (fun h11 => ?_) (fun h11 => ?_)
          · refine lv_iconst (v := 0) hx hb d_S_isMisplaced_87 (by decide) ?_
            exact kw_zret hx hb hr hlocks hP hK hS (Or.inl rfl) ⟨by rw [kv_S_isMisplaced, if_neg h1, if_neg h2, if_neg h9, if_pos h10, if_pos h11], rfl⟩ d_S_isMisplaced_88
          · refine lv_aload_n hx hb d_S_isMisplaced_69 rfl (lv_at hl 2 rfl) ?_
            refine kw_get hx hb hg in_I hown hK hP q1 hq1 e1 rfl 3 (by decide) (hg _ kg_84) rfl rfl d_S_isMisplaced_70 ?_
            refine lv_aload_n hx hb d_S_isMisplaced_73 rfl (lv_at hl 1 rfl) ?_
            refine kw_callix (kw_rV (As := []) (rest := [.int rb]) (q0 := q0) ⟨hx, hb, hml, hown, hg⟩ ⟨callB_of 0 hg (kg_goodG kg_236) rfl rfl rfl (hg _ kg_4) (hg _ kg_482) (by decide +kernel) ⟨by decide, by decide⟩, hg _ kg_234, hg _ kg_235⟩ (c_S_group l hq0 e0 ) hK hP hq0 e0 rfl rfl hl.1 rfl (Nat.le_of_ble_eq_true rfl) d_S_isMisplaced_74 ⟨Nat.zero_le _, Nat.zero_le _⟩) hA hS (fun H locs hP hS => ?_)
            refine kw_callix (kw_rS (As := [.int rb, .int (kv_S_group gp)]) (rest := []) ⟨hx, hb, hml, hown, hg⟩ ⟨callB_of 2 hg (kg_goodG kg_489) rfl rfl rfl (hg _ kg_4) (hg _ kg_487) (by decide +kernel) ⟨by decide, by decide⟩, hg _ kg_488⟩ (c_S_isMultiple l  ) hK hP rfl hl.1 rfl (Nat.le_of_ble_eq_true rfl) d_S_isMisplaced_77 ⟨Nat.zero_le _, Nat.zero_le _⟩) hA hS (fun H locs hP hS => ?_)
            refine lv_if_ne (tgt := 87) hx hb d_S_isMisplaced_80 (by decide) (fun h12 => ?_) (fun h12 => ?_)
            · refine lv_iconst (v := 0) hx hb d_S_isMisplaced_87 (by decide) ?_
              exact kw_zret hx hb hr hlocks hP hK hS (Or.inl rfl) ⟨by rw [kv_S_isMisplaced, if_neg h1, if_neg h2, if_neg h9, if_pos h10, if_neg h11, if_neg h12], rfl⟩ d_S_isMisplaced_88
            · refine lv_iconst (v := 1) hx hb d_S_isMisplaced_83 (by decide) ?_
              refine lv_goto (tgt := 88) hx hb d_S_isMisplaced_84 (by decide) ?_
              exact kw_zret hx hb hr hlocks hP hK hS (Or.inr rfl) ⟨by rw [kv_S_isMisplaced, if_neg h1, if_neg h2, if_neg h9, if_pos h10, if_neg h11, if_pos h12], rfl⟩ d_S_isMisplaced_88
        · refine lv_aload_n hx hb d_S_isMisplaced_48 rfl (lv_at hl 2 rfl) ?_
          refine kw_get hx hb hg in_I hown hK hP q1 hq1 e1 rfl 2 (by decide) (hg _ kg_80) rfl rfl d_S_isMisplaced_49 ?_
          refine lv_aload_n hx hb d_S_isMisplaced_52 rfl (lv_at hl 1 rfl) ?_
          refine kw_callix (kw_rV (As := []) (rest := [.int ra]) (q0 := q0) ⟨hx, hb, hml, hown, hg⟩ ⟨callB_of 0 hg (kg_goodG kg_236) rfl rfl rfl (hg _ kg_4) (hg _ kg_482) (by decide +kernel) ⟨by decide, by decide⟩, hg _ kg_234, hg _ kg_235⟩ (c_S_group l hq0 e0 ) hK hP hq0 e0 rfl rfl hl.1 rfl (Nat.le_of_ble_eq_true rfl) d_S_isMisplaced_53 ⟨Nat.zero_le _, Nat.zero_le _⟩) hA hS (fun H locs hP hS => ?_)
          refine kw_callix (kw_rS (As := [.int ra, .int (kv_S_group gp)]) (rest := []) ⟨hx, hb, hml, hown, hg⟩ ⟨callB_of 2 hg (kg_goodG kg_489) rfl rfl rfl (hg _ kg_4) (hg _ kg_487) (by decide +kernel) ⟨by decide, by decide⟩, hg _ kg_488⟩ (c_S_isMultiple l  ) hK hP rfl hl.1 rfl (Nat.le_of_ble_eq_true rfl) d_S_isMisplaced_56 ⟨Nat.zero_le _, Nat.zero_le _⟩) hA hS (fun H locs hP hS => ?_)
          refine lv_if_eq (tgt := 83) hx hb d_S_isMisplaced_59 (by decide) (fun h13 => ?_) (fun h13 => ?_)
          · refine lv_iconst (v := 1) hx hb d_S_isMisplaced_83 (by decide) ?_
            refine lv_goto (tgt := 88) hx hb d_S_isMisplaced_84 (by decide) ?_
            exact kw_zret hx hb hr hlocks hP hK hS (Or.inr rfl) ⟨by rw [kv_S_isMisplaced, if_neg h1, if_neg h2, if_neg h9, if_neg h10, if_pos h13], rfl⟩ d_S_isMisplaced_88
          · refine lv_aload_n hx hb d_S_isMisplaced_62 rfl (lv_at hl 2 rfl) ?_
            refine kw_callix (kw_rV (As := []) (rest := []) (q0 := q1) ⟨hx, hb, hml, hown, hg⟩ ⟨callB_of 0 hg (kg_goodG kg_497) rfl rfl rfl (hg _ kg_5) (hg _ kg_494) (by decide +kernel) ⟨by decide, by decide⟩, hg _ kg_495, hg _ kg_496⟩ (c_I_hasGroupAtB l hq1 e1 ) hK hP hq1 e1 rfl rfl hl.1 rfl (Nat.le_of_ble_eq_true rfl) d_S_isMisplaced_63 ⟨Nat.zero_le _, Nat.zero_le _⟩) hA hS (fun H locs hP hS => ?_)
            refine lv_if_eq (tgt := 87) hx hb d_S_isMisplaced_66 (by decide) (fun h14 => ?_) (fun h14 => ?_)
            · refine lv_iconst (v := 0) hx hb d_S_isMisplaced_87 (by decide) ?_
              exact kw_zret hx hb hr hlocks hP hK hS (Or.inl rfl) ⟨by rw [kv_S_isMisplaced, if_neg h1, if_neg h2, if_neg h9, if_neg h10, if_neg h13, if_pos h14], rfl⟩ d_S_isMisplaced_88
            · refine lv_aload_n hx hb d_S_isMisplaced_69 rfl (lv_at hl 2 rfl) ?_
              refine kw_get hx hb hg in_I hown hK hP q1 hq1 e1 rfl 3 (by decide) (hg _ kg_84) rfl rfl d_S_isMisplaced_70 ?_
              refine lv_aload_n hx hb d_S_isMisplaced_73 rfl (lv_at hl 1 rfl) ?_
              refine kw_callix (kw_rV (As := []) (rest := [.int rb]) (q0 := q0) ⟨hx, hb, hml, hown, hg⟩ ⟨callB_of 0 hg (kg_goodG kg_236) rfl rfl rfl (hg _ kg_4) (hg _ kg_482) (by decide +kernel) ⟨by decide, by decide⟩, hg _ kg_234, hg _ kg_235⟩ (c_S_group l hq0 e0 ) hK hP hq0 e0 rfl rfl hl.1 rfl (Nat.le_of_ble_eq_true rfl) d_S_isMisplaced_74 ⟨Nat.zero_le _, Nat.zero_le _⟩) hA hS (fun H locs hP hS => ?_)
              refine kw_callix (kw_rS (As := [.int rb, .int (kv_S_group gp)]) (rest := []) ⟨hx, hb, hml, hown, hg⟩ ⟨callB_of 2 hg (kg_goodG kg_489) rfl rfl rfl (hg _ kg_4) (hg _ kg_487) (by decide +kernel) ⟨by decide, by decide⟩, hg _ kg_488⟩ (c_S_isMultiple l  ) hK hP rfl hl.1 rfl (Nat.le_of_ble_eq_true rfl) d_S_isMisplaced_77 ⟨Nat.zero_le _, Nat.zero_le _⟩) hA hS (fun H locs hP hS => ?_)
              refine lv_if_ne (tgt := 87) hx hb d_S_isMisplaced_80 (by decide) (fun h15 => ?_) (fun h15 => ?_)
              · refine lv_iconst (v := 0) hx hb d_S_isMisplaced_87 (by decide) ?_
                exact kw_zret hx hb hr hlocks hP hK hS (Or.inl rfl) ⟨by rw [kv_S_isMisplaced, if_neg h1, if_neg h2, if_neg h9, if_neg h10, if_neg h13, if_neg h14, if_neg h15], rfl⟩ d_S_isMisplaced_88
              · refine lv_iconst (v := 1) hx hb d_S_isMisplaced_83 (by decide) ?_
                refine lv_goto (tgt := 88) hx hb d_S_isMisplaced_84 (by decide) ?_
                exact kw_zret hx hb hr hlocks hP hK hS (Or.inr rfl) ⟨by rw [kv_S_isMisplaced, if_neg h1, if_neg h2, if_neg h9, if_neg h10, if_neg h13, if_neg h14, if_pos h15], rfl⟩ d_S_isMisplaced_88
  · refine lv_iconst (v := 2) hx hb d_S_isMisplaced_9 (by decide) ?_
    refine lv_aload_n hx hb d_S_isMisplaced_10 rfl (lv_at hl 0 rfl) ?_
    refine kw_callix (kw_rV (As := []) (rest := [.int 2]) (q0 := q0) ⟨hx, hb, hml, hown, hg⟩ ⟨callB_of 0 hg (kg_goodG kg_236) rfl rfl rfl (hg _ kg_4) (hg _ kg_482) (by decide +kernel) ⟨by decide, by decide⟩, hg _ kg_234, hg _ kg_235⟩ (c_S_group l hq0 e0 ) hK hP hq0 e0 rfl rfl hl.1 rfl (Nat.le_of_ble_eq_true rfl) d_S_isMisplaced_11 ⟨Nat.zero_le _, Nat.zero_le _⟩) hA hS (fun H locs hP hS => ?_)
    refine lv_imul hx hb d_S_isMisplaced_14 ?_
    refine lv_goto (tgt := 22) hx hb d_S_isMisplaced_15 (by decide) ?_
    refine lv_istore_n (lv' := [(2, .int (2 * (kv_S_group gp))), (0, .ref (ad q0)), (1, .ref (ad q1))]) hx hb d_S_isMisplaced_22 rfl hl (by decide) rfl (fun ls hl => ?_)
    refine lv_aload_n hx hb d_S_isMisplaced_23 rfl (lv_at hl 2 rfl) ?_
    refine kw_callix (kw_rV (As := []) (rest := []) (q0 := q1) ⟨hx, hb, hml, hown, hg⟩ ⟨callB_of 0 hg (kg_goodG kg_486) rfl rfl rfl (hg _ kg_5) (hg _ kg_483) (by decide +kernel) ⟨by decide, by decide⟩, hg _ kg_484, hg _ kg_485⟩ (c_I_hasGroupAtD l hq1 e1 ) hK hP hq1 e1 rfl rfl hl.1 rfl (Nat.le_of_ble_eq_true rfl) d_S_isMisplaced_24 ⟨Nat.zero_le _, Nat.zero_le _⟩) hA hS (fun H locs hP hS => ?_)
    refine lv_if_eq (tgt := 41) hx hb d_S_isMisplaced_27 (by decide) (fun h16 => ?_) (fun h16 => ?_)
    · refine lv_aload_n hx hb d_S_isMisplaced_41 rfl (lv_at hl 2 rfl) ?_
      refine kw_callix (kw_rV (As := []) (rest := []) (q0 := q1) ⟨hx, hb, hml, hown, hg⟩ ⟨callB_of 0 hg (kg_goodG kg_493) rfl rfl rfl (hg _ kg_5) (hg _ kg_490) (by decide +kernel) ⟨by decide, by decide⟩, hg _ kg_491, hg _ kg_492⟩ (c_I_hasGroupAtA l hq1 e1 ) hK hP hq1 e1 rfl rfl hl.1 rfl (Nat.le_of_ble_eq_true rfl) d_S_isMisplaced_42 ⟨Nat.zero_le _, Nat.zero_le _⟩) hA hS (fun H locs hP hS => ?_)
      refine lv_if_eq (tgt := 62) hx hb d_S_isMisplaced_45 (by decide) (fun h17 => ?_) (fun h17 => ?_)
      · refine lv_aload_n hx hb d_S_isMisplaced_62 rfl (lv_at hl 2 rfl) ?_
        refine kw_callix (kw_rV (As := []) (rest := []) (q0 := q1) ⟨hx, hb, hml, hown, hg⟩ ⟨callB_of 0 hg (kg_goodG kg_497) rfl rfl rfl (hg _ kg_5) (hg _ kg_494) (by decide +kernel) ⟨by decide, by decide⟩, hg _ kg_495, hg _ kg_496⟩ (c_I_hasGroupAtB l hq1 e1 ) hK hP hq1 e1 rfl rfl hl.1 rfl (Nat.le_of_ble_eq_true rfl) d_S_isMisplaced_63 ⟨Nat.zero_le _, Nat.zero_le _⟩) hA hS (fun H locs hP hS => ?_)
        refine lv_if_eq (tgt := 87) hx hb d_S_isMisplaced_66 (by decide) (fun h18 => ?_) (fun h18 => ?_)
        · refine lv_iconst (v := 0) hx hb d_S_isMisplaced_87 (by decide) ?_
          exact kw_zret hx hb hr hlocks hP hK hS (Or.inl rfl) ⟨by rw [kv_S_isMisplaced, if_pos h1, if_pos h16, if_pos h17, if_pos h18], rfl⟩ d_S_isMisplaced_88
        · refine lv_aload_n hx hb d_S_isMisplaced_69 rfl (lv_at hl 2 rfl) ?_
          refine kw_get hx hb hg in_I hown hK hP q1 hq1 e1 rfl 3 (by decide) (hg _ kg_84) rfl rfl d_S_isMisplaced_70 ?_
          refine lv_aload_n hx hb d_S_isMisplaced_73 rfl (lv_at hl 1 rfl) ?_
          refine kw_callix (kw_rV (As := []) (rest := [.int rb]) (q0 := q0) ⟨hx, hb, hml, hown, hg⟩ ⟨callB_of 0 hg (kg_goodG kg_236) rfl rfl rfl (hg _ kg_4) (hg _ kg_482) (by decide +kernel) ⟨by decide, by decide⟩, hg _ kg_234, hg _ kg_235⟩ (c_S_group l hq0 e0 ) hK hP hq0 e0 rfl rfl hl.1 rfl (Nat.le_of_ble_eq_true rfl) d_S_isMisplaced_74 ⟨Nat.zero_le _, Nat.zero_le _⟩) hA hS (fun H locs hP hS => ?_)
          refine kw_callix (kw_rS (As := [.int rb, .int (kv_S_group gp)]) (rest := []) ⟨hx, hb, hml, hown, hg⟩ ⟨callB_of 2 hg (kg_goodG kg_489) rfl rfl rfl (hg _ kg_4) (hg _ kg_487) (by decide +kernel) ⟨by decide, by decide⟩, hg _ kg_488⟩ (c_S_isMultiple l  ) hK hP rfl hl.1 rfl (Nat.le_of_ble_eq_true rfl) d_S_isMisplaced_77 ⟨Nat.zero_le _, Nat.zero_le _⟩) hA hS (fun H locs hP hS => ?_)
          refine lv_if_ne (tgt := 87) hx hb d_S_isMisplaced_80 (by decide) (fun h19 => ?_) (fun h19 => ?_)
          · refine lv_iconst (v := 0) hx hb d_S_isMisplaced_87 (by decide) ?_
            exact kw_zret hx hb hr hlocks hP hK hS (Or.inl rfl) ⟨by rw [kv_S_isMisplaced, if_pos h1, if_pos h16, if_pos h17, if_neg h18, if_neg h19], rfl⟩ d_S_isMisplaced_88
          · refine lv_iconst (v := 1) hx hb d_S_isMisplaced_83 (by decide) ?_
            refine lv_goto (tgt := 88) hx hb d_S_isMisplaced_84 (by decide) ?_
            exact kw_zret hx hb hr hlocks hP hK hS (Or.inr rfl) ⟨by rw [kv_S_isMisplaced, if_pos h1, if_pos h16, if_pos h17, if_neg h18, if_pos h19], rfl⟩ d_S_isMisplaced_88
      · refine lv_aload_n hx hb d_S_isMisplaced_48 rfl (lv_at hl 2 rfl) ?_
        refine kw_get hx hb hg in_I hown hK hP q1 hq1 e1 rfl 2 (by decide) (hg _ kg_80) rfl rfl d_S_isMisplaced_49 ?_
        refine lv_aload_n hx hb d_S_isMisplaced_52 rfl (lv_at hl 1 rfl) ?_
        refine kw_callix (kw_rV (As := []) (rest := [.int ra]) (q0 := q0) ⟨hx, hb, hml, hown, hg⟩ ⟨callB_of 0 hg (kg_goodG kg_236) rfl rfl rfl (hg _ kg_4) (hg _ kg_482) (by decide +kernel) ⟨by decide, by decide⟩, hg _ kg_234, hg _ kg_235⟩ (c_S_group l hq0 e0 ) hK hP hq0 e0 rfl rfl hl.1 rfl (Nat.le_of_ble_eq_true rfl) d_S_isMisplaced_53 ⟨Nat.zero_le _, Nat.zero_le _⟩) hA hS (fun H locs hP hS => ?_)
        refine kw_callix (kw_rS (As := [.int ra, .int (kv_S_group gp)]) (rest := []) ⟨hx, hb, hml, hown, hg⟩ ⟨callB_of 2 hg (kg_goodG kg_489) rfl rfl rfl (hg _ kg_4) (hg _ kg_487) (by decide +kernel) ⟨by decide, by decide⟩, hg _ kg_488⟩ (c_S_isMultiple l  ) hK hP rfl hl.1 rfl (Nat.le_of_ble_eq_true rfl) d_S_isMisplaced_56 ⟨Nat.zero_le _, Nat.zero_le _⟩) hA hS (fun H locs hP hS => ?_)
        refine lv_if_eq (tgt := 83) hx hb d_S_isMisplaced_59 (by decide) (fun h20 => ?_) (fun h20 => ?_)
        · refine lv_iconst (v := 1) hx hb d_S_isMisplaced_83 (by decide) ?_
          refine lv_goto (tgt := 88) hx hb d_S_isMisplaced_84 (by decide) ?_
          exact kw_zret hx hb hr hlocks hP hK hS (Or.inr rfl) ⟨by rw [kv_S_isMisplaced, if_pos h1, if_pos h16, if_neg h17, if_pos h20], rfl⟩ d_S_isMisplaced_88
        · refine lv_aload_n hx hb d_S_isMisplaced_62 rfl (lv_at hl 2 rfl) ?_
          refine kw_callix (kw_rV (As := []) (rest := []) (q0 := q1) ⟨hx, hb, hml, hown, hg⟩ ⟨callB_of 0 hg (kg_goodG kg_497) rfl rfl rfl (hg _ kg_5) (hg _ kg_494) (by decide +kernel) ⟨by decide, by decide⟩, hg _ kg_495, hg _ kg_496⟩ (c_I_hasGroupAtB l hq1 e1 ) hK hP hq1 e1 rfl rfl hl.1 rfl (Nat.le_of_ble_eq_true rfl) d_S_isMisplaced_63 ⟨Nat.zero_le _, Nat.zero_le _⟩) hA hS (fun H locs hP hS => ?_)
          refine lv_if_eq (tgt := 87) hx hb d_S_isMisplaced_66 (by decide) (fun h21 => ?_) (fun h21 => ?_)
          · refine lv_iconst (v := 0) hx hb d_S_isMisplaced_87 (by decide) ?_
            exact kw_zret hx hb hr hlocks hP hK hS (Or.inl rfl) ⟨by rw [kv_S_isMisplaced, if_pos h1, if_pos h16, if_neg h17, if_neg h20, if_pos h21], rfl⟩ d_S_isMisplaced_88
          · refine lv_aload_n hx hb d_S_isMisplaced_69 rfl (lv_at hl 2 rfl) ?_
            refine kw_get hx hb hg in_I hown hK hP q1 hq1 e1 rfl 3 (by decide) (hg _ kg_84) rfl rfl d_S_isMisplaced_70 ?_
            refine lv_aload_n hx hb d_S_isMisplaced_73 rfl (lv_at hl 1 rfl) ?_
            refine kw_callix (kw_rV (As := []) (rest := [.int rb]) (q0 := q0) ⟨hx, hb, hml, hown, hg⟩ ⟨callB_of 0 hg (kg_goodG kg_236) rfl rfl rfl (hg _ kg_4) (hg _ kg_482) (by decide +kernel) ⟨by decide, by decide⟩, hg _ kg_234, hg _ kg_235⟩ (c_S_group l hq0 e0 ) hK hP hq0 e0 rfl rfl hl.1 rfl (Nat.le_of_ble_eq_true rfl) d_S_isMisplaced_74 ⟨Nat.zero_le _, Nat.zero_le _⟩) hA hS (fun H locs hP hS => ?_)
            refine kw_callix (kw_rS (As := [.int rb, .int (kv_S_group gp)]) (rest := []) ⟨hx, hb, hml, hown, hg⟩ ⟨callB_of 2 hg (kg_goodG kg_489) rfl rfl rfl (hg _ kg_4) (hg _ kg_487) (by decide +kernel) ⟨by decide, by decide⟩, hg _ kg_488⟩ (c_S_isMultiple l  ) hK hP rfl hl.1 rfl (Nat.le_of_ble_eq_true rfl) d_S_isMisplaced_77 ⟨Nat.zero_le _, Nat.zero_le _⟩) hA hS (fun H locs hP hS => ?_)
            refine lv_if_ne (tgt := 87) hx hb d_S_isMisplaced_80 (by decide) (fun h22 => ?_) (fun h22 => ?_)
            · refine lv_iconst (v := 0) hx hb d_S_isMisplaced_87 (by decide) ?_
              exact kw_zret hx hb hr hlocks hP hK hS (Or.inl rfl) ⟨by rw [kv_S_isMisplaced, if_pos h1, if_pos h16, if_neg h17, if_neg h20, if_neg h21, if_neg h22], rfl⟩ d_S_isMisplaced_88
            · refine lv_iconst (v := 1) hx hb d_S_isMisplaced_83 (by decide) ?_
              refine lv_goto (tgt := 88) hx hb d_S_isMisplaced_84 (by decide) ?_
              exact kw_zret hx hb hr hlocks hP hK hS (Or.inr rfl) ⟨by rw [kv_S_isMisplaced, if_pos h1, if_pos h16, if_neg h17, if_neg h20, if_neg h21, if_pos h22], rfl⟩ d_S_isMisplaced_88
    · refine lv_aload_n hx hb d_S_isMisplaced_30 rfl (lv_at hl 2 rfl) ?_
      refine kw_get hx hb hg in_I hown hK hP q1 hq1 e1 rfl 1 (by decide) (hg _ kg_76) rfl rfl d_S_isMisplaced_31 ?_
      refine lv_iload_n hx hb d_S_isMisplaced_34 rfl (lv_at hl 0 rfl) ?_
      refine kw_callix (kw_rS (As := [.int rd, .int (2 * (kv_S_group gp))]) (rest := []) ⟨hx, hb, hml, hown, hg⟩ ⟨callB_of 2 hg (kg_goodG kg_489) rfl rfl rfl (hg _ kg_4) (hg _ kg_487) (by decide +kernel) ⟨by decide, by decide⟩, hg _ kg_488⟩ (c_S_isMultiple l  ) hK hP rfl hl.1 rfl (Nat.le_of_ble_eq_true rfl) d_S_isMisplaced_35 ⟨Nat.zero_le _, Nat.zero_le _⟩) hA hS (fun H locs hP hS => ?_)
      refine lv_if_eq (tgt := 83) hx hb d_S_isMisplaced_38 (by decide) (fun h23 => ?_) (fun h23 => ?_)
      · refine lv_iconst (v := 1) hx hb d_S_isMisplaced_83 (by decide) ?_
        refine lv_goto (tgt := 88) hx hb d_S_isMisplaced_84 (by decide) ?_
        exact kw_zret hx hb hr hlocks hP hK hS (Or.inr rfl) ⟨by rw [kv_S_isMisplaced, if_pos h1, if_neg h16, if_pos h23], rfl⟩ d_S_isMisplaced_88
      · refine lv_aload_n hx hb d_S_isMisplaced_41 rfl (lv_at hl 2 rfl) ?_
        refine kw_callix (kw_rV (As := []) (rest := []) (q0 := q1) ⟨hx, hb, hml, hown, hg⟩ ⟨callB_of 0 hg (kg_goodG kg_493) rfl rfl rfl (hg _ kg_5) (hg _ kg_490) (by decide +kernel) ⟨by decide, by decide⟩, hg _ kg_491, hg _ kg_492⟩ (c_I_hasGroupAtA l hq1 e1 ) hK hP hq1 e1 rfl rfl hl.1 rfl (Nat.le_of_ble_eq_true rfl) d_S_isMisplaced_42 ⟨Nat.zero_le _, Nat.zero_le _⟩) hA hS (fun H locs hP hS => ?_)
        refine lv_if_eq (tgt := 62) hx hb d_S_isMisplaced_45 (by decide) (fun h24 => ?_) (fun h24 => ?_)
        · refine lv_aload_n hx hb d_S_isMisplaced_62 rfl (lv_at hl 2 rfl) ?_
          refine kw_callix (kw_rV (As := []) (rest := []) (q0 := q1) ⟨hx, hb, hml, hown, hg⟩ ⟨callB_of 0 hg (kg_goodG kg_497) rfl rfl rfl (hg _ kg_5) (hg _ kg_494) (by decide +kernel) ⟨by decide, by decide⟩, hg _ kg_495, hg _ kg_496⟩ (c_I_hasGroupAtB l hq1 e1 ) hK hP hq1 e1 rfl rfl hl.1 rfl (Nat.le_of_ble_eq_true rfl) d_S_isMisplaced_63 ⟨Nat.zero_le _, Nat.zero_le _⟩) hA hS (fun H locs hP hS => ?_)
          refine lv_if_eq (tgt := 87) hx hb d_S_isMisplaced_66 (by decide) (fun h25 => ?_) (fun h25 => ?_)
          · refine lv_iconst (v := 0) hx hb d_S_isMisplaced_87 (by decide) ?_
            exact kw_zret hx hb hr hlocks hP hK hS (Or.inl rfl) ⟨by rw [kv_S_isMisplaced, if_pos h1, if_neg h16, if_neg h23, if_pos h24, if_pos h25], rfl⟩ d_S_isMisplaced_88
          · refine lv_aload_n hx hb d_S_isMisplaced_69 rfl (lv_at hl 2 rfl) ?_
            refine kw_get hx hb hg in_I hown hK hP q1 hq1 e1 rfl 3 (by decide) (hg _ kg_84) rfl rfl d_S_isMisplaced_70 ?_
            refine lv_aload_n hx hb d_S_isMisplaced_73 rfl (lv_at hl 1 rfl) ?_
            refine kw_callix (kw_rV (As := []) (rest := [.int rb]) (q0 := q0) ⟨hx, hb, hml, hown, hg⟩ ⟨callB_of 0 hg (kg_goodG kg_236) rfl rfl rfl (hg _ kg_4) (hg _ kg_482) (by decide +kernel) ⟨by decide, by decide⟩, hg _ kg_234, hg _ kg_235⟩ (c_S_group l hq0 e0 ) hK hP hq0 e0 rfl rfl hl.1 rfl (Nat.le_of_ble_eq_true rfl) d_S_isMisplaced_74 ⟨Nat.zero_le _, Nat.zero_le _⟩) hA hS (fun H locs hP hS => ?_)
            refine kw_callix (kw_rS (As := [.int rb, .int (kv_S_group gp)]) (rest := []) ⟨hx, hb, hml, hown, hg⟩ ⟨callB_of 2 hg (kg_goodG kg_489) rfl rfl rfl (hg _ kg_4) (hg _ kg_487) (by decide +kernel) ⟨by decide, by decide⟩, hg _ kg_488⟩ (c_S_isMultiple l  ) hK hP rfl hl.1 rfl (Nat.le_of_ble_eq_true rfl) d_S_isMisplaced_77 ⟨Nat.zero_le _, Nat.zero_le _⟩) hA hS (fun H locs hP hS => ?_)
            refine lv_if_ne (tgt := 87) hx hb d_S_isMisplaced_80 (by decide) (fun h26 => ?_) (fun h26 => ?_)
            · refine lv_iconst (v := 0) hx hb d_S_isMisplaced_87 (by decide) ?_
              exact kw_zret hx hb hr hlocks hP hK hS (Or.inl rfl) ⟨by rw [kv_S_isMisplaced, if_pos h1, if_neg h16, if_neg h23, if_pos h24, if_neg h25, if_neg h26], rfl⟩ d_S_isMisplaced_88
            · refine lv_iconst (v := 1) hx hb d_S_isMisplaced_83 (by decide) ?_
              refine lv_goto (tgt := 88) hx hb d_S_isMisplaced_84 (by decide) ?_
              exact kw_zret hx hb hr hlocks hP hK hS (Or.inr rfl) ⟨by rw [kv_S_isMisplaced, if_pos h1, if_neg h16, if_neg h23, if_pos h24, if_neg h25, if_pos h26], rfl⟩ d_S_isMisplaced_88
        · refine lv_aload_n hx hb d_S_isMisplaced_48 rfl (lv_at hl 2 rfl) ?_
          refine kw_get hx hb hg in_I hown hK hP q1 hq1 e1 rfl 2 (by decide) (hg _ kg_80) rfl rfl d_S_isMisplaced_49 ?_
          refine lv_aload_n hx hb d_S_isMisplaced_52 rfl (lv_at hl 1 rfl) ?_
          refine kw_callix (kw_rV (As := []) (rest := [.int ra]) (q0 := q0) ⟨hx, hb, hml, hown, hg⟩ ⟨callB_of 0 hg (kg_goodG kg_236) rfl rfl rfl (hg _ kg_4) (hg _ kg_482) (by decide +kernel) ⟨by decide, by decide⟩, hg _ kg_234, hg _ kg_235⟩ (c_S_group l hq0 e0 ) hK hP hq0 e0 rfl rfl hl.1 rfl (Nat.le_of_ble_eq_true rfl) d_S_isMisplaced_53 ⟨Nat.zero_le _, Nat.zero_le _⟩) hA hS (fun H locs hP hS => ?_)
          refine kw_callix (kw_rS (As := [.int ra, .int (kv_S_group gp)]) (rest := []) ⟨hx, hb, hml, hown, hg⟩ ⟨callB_of 2 hg (kg_goodG kg_489) rfl rfl rfl (hg _ kg_4) (hg _ kg_487) (by decide +kernel) ⟨by decide, by decide⟩, hg _ kg_488⟩ (c_S_isMultiple l  ) hK hP rfl hl.1 rfl (Nat.le_of_ble_eq_true rfl) d_S_isMisplaced_56 ⟨Nat.zero_le _, Nat.zero_le _⟩) hA hS (fun H locs hP hS => ?_)
          refine lv_if_eq (tgt := 83) hx hb d_S_isMisplaced_59 (by decide) (fun h27 => ?_) (fun h27 => ?_)
          · refine lv_iconst (v := 1) hx hb d_S_isMisplaced_83 (by decide) ?_
            refine lv_goto (tgt := 88) hx hb d_S_isMisplaced_84 (by decide) ?_
            exact kw_zret hx hb hr hlocks hP hK hS (Or.inr rfl) ⟨by rw [kv_S_isMisplaced, if_pos h1, if_neg h16, if_neg h23, if_neg h24, if_pos h27], rfl⟩ d_S_isMisplaced_88
          · refine lv_aload_n hx hb d_S_isMisplaced_62 rfl (lv_at hl 2 rfl) ?_
            refine kw_callix (kw_rV (As := []) (rest := []) (q0 := q1) ⟨hx, hb, hml, hown, hg⟩ ⟨callB_of 0 hg (kg_goodG kg_497) rfl rfl rfl (hg _ kg_5) (hg _ kg_494) (by decide +kernel) ⟨by decide, by decide⟩, hg _ kg_495, hg _ kg_496⟩ (c_I_hasGroupAtB l hq1 e1 ) hK hP hq1 e1 rfl rfl hl.1 rfl (Nat.le_of_ble_eq_true rfl) d_S_isMisplaced_63 ⟨Nat.zero_le _, Nat.zero_le _⟩) hA hS (fun H locs hP hS => ?_)
            refine lv_if_eq (tgt := 87) hx hb d_S_isMisplaced_66 (by decide) (fun h28 => ?_) (fun h28 => ?_)
            · refine lv_iconst (v := 0) hx hb d_S_isMisplaced_87 (by decide) ?_
              exact kw_zret hx hb hr hlocks hP hK hS (Or.inl rfl) ⟨by rw [kv_S_isMisplaced, if_pos h1, if_neg h16, if_neg h23, if_neg h24, if_neg h27, if_pos h28], rfl⟩ d_S_isMisplaced_88
            · refine lv_aload_n hx hb d_S_isMisplaced_69 rfl (lv_at hl 2 rfl) ?_
              refine kw_get hx hb hg in_I hown hK hP q1 hq1 e1 rfl 3 (by decide) (hg _ kg_84) rfl rfl d_S_isMisplaced_70 ?_
              refine lv_aload_n hx hb d_S_isMisplaced_73 rfl (lv_at hl 1 rfl) ?_
              refine kw_callix (kw_rV (As := []) (rest := [.int rb]) (q0 := q0) ⟨hx, hb, hml, hown, hg⟩ ⟨callB_of 0 hg (kg_goodG kg_236) rfl rfl rfl (hg _ kg_4) (hg _ kg_482) (by decide +kernel) ⟨by decide, by decide⟩, hg _ kg_234, hg _ kg_235⟩ (c_S_group l hq0 e0 ) hK hP hq0 e0 rfl rfl hl.1 rfl (Nat.le_of_ble_eq_true rfl) d_S_isMisplaced_74 ⟨Nat.zero_le _, Nat.zero_le _⟩) hA hS (fun H locs hP hS => ?_)
              refine kw_callix (kw_rS (As := [.int rb, .int (kv_S_group gp)]) (rest := []) ⟨hx, hb, hml, hown, hg⟩ ⟨callB_of 2 hg (kg_goodG kg_489) rfl rfl rfl (hg _ kg_4) (hg _ kg_487) (by decide +kernel) ⟨by decide, by decide⟩, hg _ kg_488⟩ (c_S_isMultiple l  ) hK hP rfl hl.1 rfl (Nat.le_of_ble_eq_true rfl) d_S_isMisplaced_77 ⟨Nat.zero_le _, Nat.zero_le _⟩) hA hS (fun H locs hP hS => ?_)
              refine lv_if_ne (tgt := 87) hx hb d_S_isMisplaced_80 (by decide) (fun h29 => ?_) (fun h29 => ?_)
              · refine lv_iconst (v := 0) hx hb d_S_isMisplaced_87 (by decide) ?_
                exact kw_zret hx hb hr hlocks hP hK hS (Or.inl rfl) ⟨by rw [kv_S_isMisplaced, if_pos h1, if_neg h16, if_neg h23, if_neg h24, if_neg h27, if_neg h28, if_neg h29], rfl⟩ d_S_isMisplaced_88
              · refine lv_iconst (v := 1) hx hb d_S_isMisplaced_83 (by decide) ?_
                refine lv_goto (tgt := 88) hx hb d_S_isMisplaced_84 (by decide) ?_
                exact kw_zret hx hb hr hlocks hP hK hS (Or.inr rfl) ⟨by rw [kv_S_isMisplaced, if_pos h1, if_neg h16, if_neg h23, if_neg h24, if_neg h27, if_neg h28, if_pos h29], rfl⟩ d_S_isMisplaced_88

def kv_S_spoilsSources (gp : Int32) (op : Int32) (rd : Int32) (ra : Int32) (rb : Int32) : Int32 := if op = 13 then (if (kv_S_isInWideGroup gp rd ra) = 0 then (if (kv_S_isInWideGroup gp rd rb) = 0 then 0 else 1) else 1) else if op = 15 then (if rd = ra then 1 else 0) else if op = 16 then (if rd = ra then 1 else if rd = rb then 1 else 0) else 0
set_option maxRecDepth 100000 in
set_option maxHeartbeats 4000000 in
theorem c_S_spoilsSources (l : Launch) {D : va_G} {tys : List (ClassId × FieldType)} {ad : Nat → Nat} {n : Nat} {cs : Nat → va_E} {q0 : Nat} {wp : Int32} {gp : Int32} {ln : Int32} {sa : Int32} {q1 : Nat} {op : Int32} {rd : Int32} {ra : Int32} {rb : Int32} {rn : Int32} {mk : Int32} (hq0 : q0 < n) (e0 : cs q0 = .inr (2, [.int wp, .int gp, .int ln, .int sa])) (hq1 : q1 < n) (e1 : cs q1 = .inr (1, [.int op, .int rd, .int ra, .int rb, .int rn, .int mk]))  : kw_mi l y_S_spoilsSources w_S_spoilsSources (kr 2) D kc tys ad n cs [.ref (ad q0), .ref (ad q1)] (fun r9 c9 => r9 = kv_S_spoilsSources gp op rd ra rb ∧ c9 = cs) := by
  refine kw_of (cc := b_S_spoilsSources) (maxL := 2) (ret := (some .boolean)) (by decide) rfl (Nat.le_of_ble_eq_true rfl) ?_
  intro p e s m below meth c ls hx hb hr hml hown hts hlocks hP hK hl
  have hg : ∀ w9 ∈ kg_G, w9.before [.ref (ad q0), .ref (ad q1)].toArray s = true := fun w9 h9 => hts w9 (List.mem_cons_of_mem _ h9)
  have hown : s.vm.findClass "LaneMachine$Setting" = some m.cls := hown
  have hA : ∀ k, k < n → kw_A ad n (ad k) := fun k hk => ⟨k, hk, rfl⟩
  have hS : va_S (kw_A ad n) s.heap s.heap [] := va_S.rf
  have hl : lv_has ls 2 [(0, .ref (ad q0)), (1, .ref (ad q1))] := hl
  refine lv_aload_n hx hb d_S_spoilsSources_0 rfl (lv_at hl 1 rfl) ?_
  refine kw_get hx hb hg in_I hown hK hP q1 hq1 e1 rfl 0 (by decide) (hg _ kg_73) rfl rfl d_S_spoilsSources_1 ?_
  by_cases h1 : op = 13
  · refine lv_tableIn (tgt := 81) hx hb d_S_spoilsSources_4 (by rw [h1]; decide) (by rw [h1]; decide) (by rw [h1]; rfl) (by decide) ?_
    refine lv_aload_n hx hb d_S_spoilsSources_81 rfl (lv_at hl 0 rfl) ?_
    refine lv_aload_n hx hb d_S_spoilsSources_82 rfl (lv_at hl 1 rfl) ?_
    refine kw_get hx hb hg in_I hown hK hP q1 hq1 e1 rfl 1 (by decide) (hg _ kg_76) rfl rfl d_S_spoilsSources_83 ?_
    refine lv_aload_n hx hb d_S_spoilsSources_86 rfl (lv_at hl 1 rfl) ?_
    refine kw_get hx hb hg in_I hown hK hP q1 hq1 e1 rfl 2 (by decide) (hg _ kg_80) rfl rfl d_S_spoilsSources_87 ?_
    refine kw_callix (kw_rV (As := [.int rd, .int ra]) (rest := []) (q0 := q0) ⟨hx, hb, hml, hown, hg⟩ ⟨callB_of 2 hg (kg_goodG kg_508) rfl rfl rfl (hg _ kg_4) (hg _ kg_505) (by decide +kernel) ⟨by decide, by decide⟩, hg _ kg_507, hg _ (kg_sel (q := (y_S_isInWideGroup, 4)) (by decide +kernel))⟩ (c_S_isInWideGroup l hq0 e0 ) hK hP hq0 e0 rfl rfl hl.1 rfl (Nat.le_of_ble_eq_true rfl) d_S_spoilsSources_90 ⟨Nat.zero_le _, Nat.zero_le _⟩) hA hS (fun H locs hP hS => ?_)
    refine lv_if_ne (tgt := 111) hx hb d_S_spoilsSources_93 (by decide) (fun h2 => ?_) (fun h2 => ?_)
    · refine lv_iconst (v := 1) hx hb d_S_spoilsSources_111 (by decide) ?_
      refine lv_goto (tgt := 116) hx hb d_S_spoilsSources_112 (by decide) ?_
      exact kw_zret hx hb hr hlocks hP hK hS (Or.inr rfl) ⟨by rw [kv_S_spoilsSources, if_pos h1, if_neg h2], rfl⟩ d_S_spoilsSources_116
    · refine lv_aload_n hx hb d_S_spoilsSources_96 rfl (lv_at hl 0 rfl) ?_
      refine lv_aload_n hx hb d_S_spoilsSources_97 rfl (lv_at hl 1 rfl) ?_
      refine kw_get hx hb hg in_I hown hK hP q1 hq1 e1 rfl 1 (by decide) (hg _ kg_76) rfl rfl d_S_spoilsSources_98 ?_
      refine lv_aload_n hx hb d_S_spoilsSources_101 rfl (lv_at hl 1 rfl) ?_
      refine kw_get hx hb hg in_I hown hK hP q1 hq1 e1 rfl 3 (by decide) (hg _ kg_84) rfl rfl d_S_spoilsSources_102 ?_
      refine kw_callix (kw_rV (As := [.int rd, .int rb]) (rest := []) (q0 := q0) ⟨hx, hb, hml, hown, hg⟩ ⟨callB_of 2 hg (kg_goodG kg_508) rfl rfl rfl (hg _ kg_4) (hg _ kg_505) (by decide +kernel) ⟨by decide, by decide⟩, hg _ kg_507, hg _ (kg_sel (q := (y_S_isInWideGroup, 4)) (by decide +kernel))⟩ (c_S_isInWideGroup l hq0 e0 ) hK hP hq0 e0 rfl rfl hl.1 rfl (Nat.le_of_ble_eq_true rfl) d_S_spoilsSources_105 ⟨Nat.zero_le _, Nat.zero_le _⟩) hA hS (fun H locs hP hS => ?_)
      refine lv_if_eq (tgt := 115) hx hb d_S_spoilsSources_108 (by decide) (fun h3 => ?_) (fun h3 => ?_)
      · refine lv_iconst (v := 0) hx hb d_S_spoilsSources_115 (by decide) ?_
        exact kw_zret hx hb hr hlocks hP hK hS (Or.inl rfl) ⟨by rw [kv_S_spoilsSources, if_pos h1, if_pos h2, if_pos h3], rfl⟩ d_S_spoilsSources_116
      · refine lv_iconst (v := 1) hx hb d_S_spoilsSources_111 (by decide) ?_
        refine lv_goto (tgt := 116) hx hb d_S_spoilsSources_112 (by decide) ?_
        exact kw_zret hx hb hr hlocks hP hK hS (Or.inr rfl) ⟨by rw [kv_S_spoilsSources, if_pos h1, if_pos h2, if_neg h3], rfl⟩ d_S_spoilsSources_116
  by_cases h4 : op = 15
  · refine lv_tableIn (tgt := 36) hx hb d_S_spoilsSources_4 (by rw [h4]; decide) (by rw [h4]; decide) (by rw [h4]; rfl) (by decide) ?_
    refine lv_aload_n hx hb d_S_spoilsSources_36 rfl (lv_at hl 1 rfl) ?_
    refine kw_get hx hb hg in_I hown hK hP q1 hq1 e1 rfl 1 (by decide) (hg _ kg_76) rfl rfl d_S_spoilsSources_37 ?_
    refine lv_aload_n hx hb d_S_spoilsSources_40 rfl (lv_at hl 1 rfl) ?_
    refine kw_get hx hb hg in_I hown hK hP q1 hq1 e1 rfl 2 (by decide) (hg _ kg_80) rfl rfl d_S_spoilsSources_41 ?_
    refine lv_icmp_ne (tgt := 51) hx hb d_S_spoilsSources_44 (by decide) (fun h5 => ?_) (fun h5 => ?_)
    · refine lv_iconst (v := 0) hx hb d_S_spoilsSources_51 (by decide) ?_
      exact kw_zret hx hb hr hlocks hP hK hS (Or.inl rfl) ⟨by rw [kv_S_spoilsSources, if_neg h1, if_pos h4, if_neg h5], rfl⟩ d_S_spoilsSources_52
    · refine lv_iconst (v := 1) hx hb d_S_spoilsSources_47 (by decide) ?_
      refine lv_goto (tgt := 52) hx hb d_S_spoilsSources_48 (by decide) ?_
      exact kw_zret hx hb hr hlocks hP hK hS (Or.inr rfl) ⟨by rw [kv_S_spoilsSources, if_neg h1, if_pos h4, if_pos h5], rfl⟩ d_S_spoilsSources_52
  by_cases h6 : op = 16
  · refine lv_tableIn (tgt := 53) hx hb d_S_spoilsSources_4 (by rw [h6]; decide) (by rw [h6]; decide) (by rw [h6]; rfl) (by decide) ?_
    refine lv_aload_n hx hb d_S_spoilsSources_53 rfl (lv_at hl 1 rfl) ?_
    refine kw_get hx hb hg in_I hown hK hP q1 hq1 e1 rfl 1 (by decide) (hg _ kg_76) rfl rfl d_S_spoilsSources_54 ?_
    refine lv_aload_n hx hb d_S_spoilsSources_57 rfl (lv_at hl 1 rfl) ?_
    refine kw_get hx hb hg in_I hown hK hP q1 hq1 e1 rfl 2 (by decide) (hg _ kg_80) rfl rfl d_S_spoilsSources_58 ?_
    refine lv_icmp_eq (tgt := 75) hx hb d_S_spoilsSources_61 (by decide) (fun h7 => ?_) (fun h7 => ?_)
    · refine lv_iconst (v := 1) hx hb d_S_spoilsSources_75 (by decide) ?_
      refine lv_goto (tgt := 80) hx hb d_S_spoilsSources_76 (by decide) ?_
      exact kw_zret hx hb hr hlocks hP hK hS (Or.inr rfl) ⟨by rw [kv_S_spoilsSources, if_neg h1, if_neg h4, if_pos h6, if_pos h7], rfl⟩ d_S_spoilsSources_80
    · refine lv_aload_n hx hb d_S_spoilsSources_64 rfl (lv_at hl 1 rfl) ?_
      refine kw_get hx hb hg in_I hown hK hP q1 hq1 e1 rfl 1 (by decide) (hg _ kg_76) rfl rfl d_S_spoilsSources_65 ?_
      refine lv_aload_n hx hb d_S_spoilsSources_68 rfl (lv_at hl 1 rfl) ?_
      refine kw_get hx hb hg in_I hown hK hP q1 hq1 e1 rfl 3 (by decide) (hg _ kg_84) rfl rfl d_S_spoilsSources_69 ?_
      refine lv_icmp_ne (tgt := 79) hx hb d_S_spoilsSources_72 (by decide) (fun h8 => ?_) (fun h8 => ?_)
      · refine lv_iconst (v := 0) hx hb d_S_spoilsSources_79 (by decide) ?_
        exact kw_zret hx hb hr hlocks hP hK hS (Or.inl rfl) ⟨by rw [kv_S_spoilsSources, if_neg h1, if_neg h4, if_pos h6, if_neg h7, if_neg h8], rfl⟩ d_S_spoilsSources_80
      · refine lv_iconst (v := 1) hx hb d_S_spoilsSources_75 (by decide) ?_
        refine lv_goto (tgt := 80) hx hb d_S_spoilsSources_76 (by decide) ?_
        exact kw_zret hx hb hr hlocks hP hK hS (Or.inr rfl) ⟨by rw [kv_S_spoilsSources, if_neg h1, if_neg h4, if_pos h6, if_neg h7, if_pos h8], rfl⟩ d_S_spoilsSources_80
  refine kw_tbl (tgt := 117) (N := 4) hx hb d_S_spoilsSources_4 rfl (by decide) (fun i hi => match i, hi with | 0, _ => Or.inr (lv_neT h1 rfl) | 1, _ => Or.inl rfl | 2, _ => Or.inr (lv_neT h4 rfl) | 3, _ => Or.inr (lv_neT h6 rfl) | z + 4, h => absurd h (by omega)) ?_
  refine lv_iconst (v := 0) hx hb d_S_spoilsSources_117 (by decide) ?_
  exact kw_zret hx hb hr hlocks hP hK hS (Or.inl rfl) ⟨by rw [kv_S_spoilsSources, if_neg h1, if_neg h4, if_neg h6], rfl⟩ d_S_spoilsSources_118

def kv_S_forbids (wp : Int32) (gp : Int32) (op : Int32) (rd : Int32) (ra : Int32) (rb : Int32) (mk : Int32) : Int32 := if (kv_I_isVector op) = 0 then 0 else if (kv_S_isMisplaced gp op rd ra rb) = 0 then (if (kv_S_spoilsMask op rd mk) = 0 then (if (kv_S_spoilsSources gp op rd ra rb) = 0 then (if (kv_S_isTooWide wp gp op) = 0 then 0 else 1) else 1) else 1) else 1
set_option maxRecDepth 100000 in
set_option maxHeartbeats 4000000 in
theorem c_S_forbids (l : Launch) {D : va_G} {tys : List (ClassId × FieldType)} {ad : Nat → Nat} {n : Nat} {cs : Nat → va_E} {q0 : Nat} {wp : Int32} {gp : Int32} {ln : Int32} {sa : Int32} {q1 : Nat} {op : Int32} {rd : Int32} {ra : Int32} {rb : Int32} {rn : Int32} {mk : Int32} (hq0 : q0 < n) (e0 : cs q0 = .inr (2, [.int wp, .int gp, .int ln, .int sa])) (hq1 : q1 < n) (e1 : cs q1 = .inr (1, [.int op, .int rd, .int ra, .int rb, .int rn, .int mk]))  : kw_mi l y_S_forbids w_S_forbids (kr 3) D kc tys ad n cs [.ref (ad q0), .ref (ad q1)] (fun r9 c9 => r9 = kv_S_forbids wp gp op rd ra rb mk ∧ c9 = cs) := by
  refine kw_of (cc := b_S_forbids) (maxL := 2) (ret := (some .boolean)) (by decide) rfl (Nat.le_of_ble_eq_true rfl) ?_
  intro p e s m below meth c ls hx hb hr hml hown hts hlocks hP hK hl
  have hg : ∀ w9 ∈ kg_G, w9.before [.ref (ad q0), .ref (ad q1)].toArray s = true := fun w9 h9 => hts w9 (List.mem_cons_of_mem _ h9)
  have hown : s.vm.findClass "LaneMachine$Setting" = some m.cls := hown
  have hA : ∀ k, k < n → kw_A ad n (ad k) := fun k hk => ⟨k, hk, rfl⟩
  have hS : va_S (kw_A ad n) s.heap s.heap [] := va_S.rf
  have hl : lv_has ls 2 [(0, .ref (ad q0)), (1, .ref (ad q1))] := hl
  refine lv_aload_n hx hb d_S_forbids_0 rfl (lv_at hl 1 rfl) ?_
  refine kw_callix (kw_rV (As := []) (rest := []) (q0 := q1) ⟨hx, hb, hml, hown, hg⟩ ⟨callB_of 0 hg (kg_goodG kg_477) rfl rfl rfl (hg _ kg_5) (hg _ kg_474) (by decide +kernel) ⟨by decide, by decide⟩, hg _ kg_475, hg _ kg_476⟩ (c_I_isVector l hq1 e1 ) hK hP hq1 e1 rfl rfl hl.1 rfl (Nat.le_of_ble_eq_true rfl) d_S_forbids_1 ⟨Nat.zero_le _, Nat.zero_le _⟩) hA hS (fun H locs hP hS => ?_)
  refine lv_if_eq (tgt := 42) hx hb d_S_forbids_4 (by decide) (fun h1 => ?_) (fun h1 => ?_)
  · refine lv_iconst (v := 0) hx hb d_S_forbids_42 (by decide) ?_
    exact kw_zret hx hb hr hlocks hP hK hS (Or.inl rfl) ⟨by rw [kv_S_forbids, if_pos h1], rfl⟩ d_S_forbids_43
  · refine lv_aload_n hx hb d_S_forbids_7 rfl (lv_at hl 0 rfl) ?_
    refine lv_aload_n hx hb d_S_forbids_8 rfl (lv_at hl 1 rfl) ?_
    refine kw_callix (kw_rV (As := [.ref (ad q1)]) (rest := []) (q0 := q0) ⟨hx, hb, hml, hown, hg⟩ ⟨callB_of 1 hg (kg_goodG kg_481) rfl rfl rfl (hg _ kg_4) (hg _ kg_478) (by decide +kernel) ⟨by decide, by decide⟩, hg _ kg_480, hg _ (kg_sel (q := (y_S_isMisplaced, 4)) (by decide +kernel))⟩ (c_S_isMisplaced l hq0 e0 hq1 e1 ) hK hP hq0 e0 rfl rfl hl.1 rfl (Nat.le_of_ble_eq_true rfl) d_S_forbids_9 ⟨Nat.zero_le _, Nat.zero_le _⟩) hA hS (fun H locs hP hS => ?_)
    refine lv_if_ne (tgt := 38) hx hb d_S_forbids_12 (by decide) (fun h2 => ?_) (fun h2 => ?_)
    · refine lv_iconst (v := 1) hx hb d_S_forbids_38 (by decide) ?_
      refine lv_goto (tgt := 43) hx hb d_S_forbids_39 (by decide) ?_
      exact kw_zret hx hb hr hlocks hP hK hS (Or.inr rfl) ⟨by rw [kv_S_forbids, if_neg h1, if_neg h2], rfl⟩ d_S_forbids_43
    · refine lv_aload_n hx hb d_S_forbids_15 rfl (lv_at hl 1 rfl) ?_
      refine kw_callix (kw_rS (As := [.ref (ad q1)]) (rest := []) ⟨hx, hb, hml, hown, hg⟩ ⟨callB_of 1 hg (kg_goodG kg_500) rfl rfl rfl (hg _ kg_4) (hg _ kg_498) (by decide +kernel) ⟨by decide, by decide⟩, hg _ kg_499⟩ (c_S_spoilsMask l hq1 e1 ) hK hP rfl hl.1 rfl (Nat.le_of_ble_eq_true rfl) d_S_forbids_16 ⟨Nat.zero_le _, Nat.zero_le _⟩) hA hS (fun H locs hP hS => ?_)
      refine lv_if_ne (tgt := 38) hx hb d_S_forbids_19 (by decide) (fun h3 => ?_) (fun h3 => ?_)
      · refine lv_iconst (v := 1) hx hb d_S_forbids_38 (by decide) ?_
        refine lv_goto (tgt := 43) hx hb d_S_forbids_39 (by decide) ?_
        exact kw_zret hx hb hr hlocks hP hK hS (Or.inr rfl) ⟨by rw [kv_S_forbids, if_neg h1, if_pos h2, if_neg h3], rfl⟩ d_S_forbids_43
      · refine lv_aload_n hx hb d_S_forbids_22 rfl (lv_at hl 0 rfl) ?_
        refine lv_aload_n hx hb d_S_forbids_23 rfl (lv_at hl 1 rfl) ?_
        refine kw_callix (kw_rV (As := [.ref (ad q1)]) (rest := []) (q0 := q0) ⟨hx, hb, hml, hown, hg⟩ ⟨callB_of 1 hg (kg_goodG kg_504) rfl rfl rfl (hg _ kg_4) (hg _ kg_501) (by decide +kernel) ⟨by decide, by decide⟩, hg _ kg_503, hg _ (kg_sel (q := (y_S_spoilsSources, 4)) (by decide +kernel))⟩ (c_S_spoilsSources l hq0 e0 hq1 e1 ) hK hP hq0 e0 rfl rfl hl.1 rfl (Nat.le_of_ble_eq_true rfl) d_S_forbids_24 ⟨Nat.zero_le _, Nat.zero_le _⟩) hA hS (fun H locs hP hS => ?_)
        refine lv_if_ne (tgt := 38) hx hb d_S_forbids_27 (by decide) (fun h4 => ?_) (fun h4 => ?_)
        · refine lv_iconst (v := 1) hx hb d_S_forbids_38 (by decide) ?_
          refine lv_goto (tgt := 43) hx hb d_S_forbids_39 (by decide) ?_
          exact kw_zret hx hb hr hlocks hP hK hS (Or.inr rfl) ⟨by rw [kv_S_forbids, if_neg h1, if_pos h2, if_pos h3, if_neg h4], rfl⟩ d_S_forbids_43
        · refine lv_aload_n hx hb d_S_forbids_30 rfl (lv_at hl 0 rfl) ?_
          refine lv_aload_n hx hb d_S_forbids_31 rfl (lv_at hl 1 rfl) ?_
          refine kw_callix (kw_rV (As := [.ref (ad q1)]) (rest := []) (q0 := q0) ⟨hx, hb, hml, hown, hg⟩ ⟨callB_of 1 hg (kg_goodG kg_512) rfl rfl rfl (hg _ kg_4) (hg _ kg_509) (by decide +kernel) ⟨by decide, by decide⟩, hg _ kg_511, hg _ (kg_sel (q := (y_S_isTooWide, 4)) (by decide +kernel))⟩ (c_S_isTooWide l hq0 e0 hq1 e1 ) hK hP hq0 e0 rfl rfl hl.1 rfl (Nat.le_of_ble_eq_true rfl) d_S_forbids_32 ⟨Nat.zero_le _, Nat.zero_le _⟩) hA hS (fun H locs hP hS => ?_)
          refine lv_if_eq (tgt := 42) hx hb d_S_forbids_35 (by decide) (fun h5 => ?_) (fun h5 => ?_)
          · refine lv_iconst (v := 0) hx hb d_S_forbids_42 (by decide) ?_
            exact kw_zret hx hb hr hlocks hP hK hS (Or.inl rfl) ⟨by rw [kv_S_forbids, if_neg h1, if_pos h2, if_pos h3, if_pos h4, if_pos h5], rfl⟩ d_S_forbids_43
          · refine lv_iconst (v := 1) hx hb d_S_forbids_38 (by decide) ?_
            refine lv_goto (tgt := 43) hx hb d_S_forbids_39 (by decide) ?_
            exact kw_zret hx hb hr hlocks hP hK hS (Or.inr rfl) ⟨by rw [kv_S_forbids, if_neg h1, if_pos h2, if_pos h3, if_pos h4, if_neg h5], rfl⟩ d_S_forbids_43

def kv_K_span (x : Int32) (y : Int32) : Int64 := (((1 : Int64) <<< (y.toInt64 &&& 63)) - 1) <<< (x.toInt64 &&& 63)
set_option maxRecDepth 100000 in
set_option maxHeartbeats 4000000 in
theorem c_K_span (l : Launch) {D : va_G} {tys : List (ClassId × FieldType)} {ad : Nat → Nat} {n : Nat} {cs : Nat → va_E} {x : Int32} {y : Int32}   : kw_ml l y_K_span w_K_span (kr 0) D kc tys ad n cs [.int x, .int y] (fun r9 c9 => r9 = kv_K_span x y ∧ c9 = cs) := by
  refine kw_of (cc := b_K_span) (maxL := 2) (ret := (some .long)) (by decide) rfl (Nat.le_of_ble_eq_true rfl) ?_
  intro p e s m below meth c ls hx hb hr hml hown hts hlocks hP hK hl
  have hg : ∀ w9 ∈ kg_G, w9.before [.int x, .int y].toArray s = true := fun w9 h9 => hts w9 (List.mem_cons_of_mem _ h9)
  have hown : s.vm.findClass "LaneMachine$Work" = some m.cls := hown
  have hA : ∀ k, k < n → kw_A ad n (ad k) := fun k hk => ⟨k, hk, rfl⟩
  have hS : va_S (kw_A ad n) s.heap s.heap [] := va_S.rf
  have hl : lv_has ls 2 [(0, .int x), (1, .int y)] := hl
  refine lv_lconst (v := 1) hx hb d_K_span_0 (by decide) ?_
  refine lv_iload_n hx hb d_K_span_1 rfl (lv_at hl 1 rfl) ?_
  refine lv_lshl hx hb d_K_span_2 rfl ?_
  refine lv_lconst (v := 1) hx hb d_K_span_3 (by decide) ?_
  refine lv_lsub hx hb d_K_span_4 ?_
  refine lv_iload_n hx hb d_K_span_5 rfl (lv_at hl 0 rfl) ?_
  refine lv_lshl hx hb d_K_span_6 rfl ?_
  exact kw_lret hx hb hr hlocks hP hK hS ⟨by rw [kv_K_span], rfl⟩ d_K_span_7

def kv_M_isRegister (x : Int32) : Int32 := if x < 0 then 0 else if 8 ≤ x then 0 else 1
set_option maxRecDepth 100000 in
set_option maxHeartbeats 4000000 in
theorem c_M_isRegister (l : Launch) {D : va_G} {tys : List (ClassId × FieldType)} {ad : Nat → Nat} {n : Nat} {cs : Nat → va_E} {x : Int32}   : kw_mi l y_M_isRegister w_M_isRegister (kr 0) D kc tys ad n cs [.int x] (fun r9 c9 => r9 = kv_M_isRegister x ∧ c9 = cs) := by
  refine kw_of (cc := b_M_isRegister) (maxL := 1) (ret := (some .boolean)) (by decide) rfl (Nat.le_of_ble_eq_true rfl) ?_
  intro p e s m below meth c ls hx hb hr hml hown hts hlocks hP hK hl
  have hg : ∀ w9 ∈ kg_G, w9.before [.int x].toArray s = true := fun w9 h9 => hts w9 (List.mem_cons_of_mem _ h9)
  have hown : s.vm.findClass "LaneMachine" = some m.cls := hown
  have hA : ∀ k, k < n → kw_A ad n (ad k) := fun k hk => ⟨k, hk, rfl⟩
  have hS : va_S (kw_A ad n) s.heap s.heap [] := va_S.rf
  have hl : lv_has ls 1 [(0, .int x)] := hl
  refine lv_iload_n hx hb d_M_isRegister_0 rfl (lv_at hl 0 rfl) ?_
  refine lv_if_lt (tgt := 14) hx hb d_M_isRegister_1 (by decide) (fun h1 => ?_) (fun h1 => ?_)
  · refine lv_iconst (v := 0) hx hb d_M_isRegister_14 (by decide) ?_
    exact kw_zret hx hb hr hlocks hP hK hS (Or.inl rfl) ⟨by rw [kv_M_isRegister, if_pos h1], rfl⟩ d_M_isRegister_15
  · refine lv_iload_n hx hb d_M_isRegister_4 rfl (lv_at hl 0 rfl) ?_
    refine lv_bipush (v := 8) hx hb d_M_isRegister_5 (by decide) ?_
    refine lv_icmp_ge (tgt := 14) hx hb d_M_isRegister_7 (by decide) (fun h2 => ?_) (fun h2 => ?_)
    · refine lv_iconst (v := 0) hx hb d_M_isRegister_14 (by decide) ?_
      exact kw_zret hx hb hr hlocks hP hK hS (Or.inl rfl) ⟨by rw [kv_M_isRegister, if_neg h1, if_pos h2], rfl⟩ d_M_isRegister_15
    · refine lv_iconst (v := 1) hx hb d_M_isRegister_10 (by decide) ?_
      refine lv_goto (tgt := 15) hx hb d_M_isRegister_11 (by decide) ?_
      exact kw_zret hx hb hr hlocks hP hK hS (Or.inr rfl) ⟨by rw [kv_M_isRegister, if_neg h1, if_neg h2], rfl⟩ d_M_isRegister_15

def kv_R_isRegister (x : Int32) : Int32 := if x < 0 then 0 else if 7 < x then 0 else 1
set_option maxRecDepth 100000 in
set_option maxHeartbeats 4000000 in
theorem c_R_isRegister (l : Launch) {D : va_G} {tys : List (ClassId × FieldType)} {ad : Nat → Nat} {n : Nat} {cs : Nat → va_E} {x : Int32}   : kw_mi l y_R_isRegister w_R_isRegister (kr 0) D kc tys ad n cs [.int x] (fun r9 c9 => r9 = kv_R_isRegister x ∧ c9 = cs) := by
  refine kw_of (cc := b_R_isRegister) (maxL := 1) (ret := (some .boolean)) (by decide) rfl (Nat.le_of_ble_eq_true rfl) ?_
  intro p e s m below meth c ls hx hb hr hml hown hts hlocks hP hK hl
  have hg : ∀ w9 ∈ kg_G, w9.before [.int x].toArray s = true := fun w9 h9 => hts w9 (List.mem_cons_of_mem _ h9)
  have hown : s.vm.findClass "LaneMachineModel" = some m.cls := hown
  have hA : ∀ k, k < n → kw_A ad n (ad k) := fun k hk => ⟨k, hk, rfl⟩
  have hS : va_S (kw_A ad n) s.heap s.heap [] := va_S.rf
  have hl : lv_has ls 1 [(0, .int x)] := hl
  refine lv_iload_n hx hb d_R_isRegister_0 rfl (lv_at hl 0 rfl) ?_
  refine lv_if_lt (tgt := 14) hx hb d_R_isRegister_1 (by decide) (fun h1 => ?_) (fun h1 => ?_)
  · refine lv_iconst (v := 0) hx hb d_R_isRegister_14 (by decide) ?_
    exact kw_zret hx hb hr hlocks hP hK hS (Or.inl rfl) ⟨by rw [kv_R_isRegister, if_pos h1], rfl⟩ d_R_isRegister_15
  · refine lv_iload_n hx hb d_R_isRegister_4 rfl (lv_at hl 0 rfl) ?_
    refine lv_bipush (v := 7) hx hb d_R_isRegister_5 (by decide) ?_
    refine lv_icmp_gt (tgt := 14) hx hb d_R_isRegister_7 (by decide) (fun h2 => ?_) (fun h2 => ?_)
    · refine lv_iconst (v := 0) hx hb d_R_isRegister_14 (by decide) ?_
      exact kw_zret hx hb hr hlocks hP hK hS (Or.inl rfl) ⟨by rw [kv_R_isRegister, if_neg h1, if_pos h2], rfl⟩ d_R_isRegister_15
    · refine lv_iconst (v := 1) hx hb d_R_isRegister_10 (by decide) ?_
      refine lv_goto (tgt := 15) hx hb d_R_isRegister_11 (by decide) ?_
      exact kw_zret hx hb hr hlocks hP hK hS (Or.inr rfl) ⟨by rw [kv_R_isRegister, if_neg h1, if_neg h2], rfl⟩ d_R_isRegister_15

def kv_R_bytes (x : Int32) (y : Int32) : Int64 := (((1 : Int64) <<< (y.toInt64 &&& 63)) - 1) <<< (x.toInt64 &&& 63)
set_option maxRecDepth 100000 in
set_option maxHeartbeats 4000000 in
theorem c_R_bytes (l : Launch) {D : va_G} {tys : List (ClassId × FieldType)} {ad : Nat → Nat} {n : Nat} {cs : Nat → va_E} {x : Int32} {y : Int32}   : kw_ml l y_R_bytes w_R_bytes (kr 0) D kc tys ad n cs [.int x, .int y] (fun r9 c9 => r9 = kv_R_bytes x y ∧ c9 = cs) := by
  refine kw_of (cc := b_R_bytes) (maxL := 2) (ret := (some .long)) (by decide) rfl (Nat.le_of_ble_eq_true rfl) ?_
  intro p e s m below meth c ls hx hb hr hml hown hts hlocks hP hK hl
  have hg : ∀ w9 ∈ kg_G, w9.before [.int x, .int y].toArray s = true := fun w9 h9 => hts w9 (List.mem_cons_of_mem _ h9)
  have hown : s.vm.findClass "LaneMachineModel" = some m.cls := hown
  have hA : ∀ k, k < n → kw_A ad n (ad k) := fun k hk => ⟨k, hk, rfl⟩
  have hS : va_S (kw_A ad n) s.heap s.heap [] := va_S.rf
  have hl : lv_has ls 2 [(0, .int x), (1, .int y)] := hl
  refine lv_lconst (v := 1) hx hb d_R_bytes_0 (by decide) ?_
  refine lv_iload_n hx hb d_R_bytes_1 rfl (lv_at hl 1 rfl) ?_
  refine lv_lshl hx hb d_R_bytes_2 rfl ?_
  refine lv_lconst (v := 1) hx hb d_R_bytes_3 (by decide) ?_
  refine lv_lsub hx hb d_R_bytes_4 ?_
  refine lv_iload_n hx hb d_R_bytes_5 rfl (lv_at hl 0 rfl) ?_
  refine lv_lshl hx hb d_R_bytes_6 rfl ?_
  exact kw_lret hx hb hr hlocks hP hK hS ⟨by rw [kv_R_bytes], rfl⟩ d_R_bytes_7

def kv_R_signed (v : Int64) (y : Int32) : Int32 := if y = 4 then v.toInt32 else if y = 2 then (((v <<< ((48 : Int32).toInt64 &&& 63)) >>> ((48 : Int32).toInt64 &&& 63)).toInt32) else (((v <<< ((56 : Int32).toInt64 &&& 63)) >>> ((56 : Int32).toInt64 &&& 63)).toInt32)
set_option maxRecDepth 100000 in
set_option maxHeartbeats 4000000 in
theorem c_R_signed (l : Launch) {D : va_G} {tys : List (ClassId × FieldType)} {ad : Nat → Nat} {n : Nat} {cs : Nat → va_E} {v : Int64} {y : Int32}   : kw_mi l y_R_signed w_R_signed (kr 0) D kc tys ad n cs [.long v, .int y] (fun r9 c9 => r9 = kv_R_signed v y ∧ c9 = cs) := by
  refine kw_of (cc := b_R_signed) (maxL := 3) (ret := (some .int)) (by decide) rfl (Nat.le_of_ble_eq_true rfl) ?_
  intro p e s m below meth c ls hx hb hr hml hown hts hlocks hP hK hl
  have hg : ∀ w9 ∈ kg_G, w9.before [.long v, .int y].toArray s = true := fun w9 h9 => hts w9 (List.mem_cons_of_mem _ h9)
  have hown : s.vm.findClass "LaneMachineModel" = some m.cls := hown
  have hA : ∀ k, k < n → kw_A ad n (ad k) := fun k hk => ⟨k, hk, rfl⟩
  have hS : va_S (kw_A ad n) s.heap s.heap [] := va_S.rf
  have hl : lv_has ls 3 [(0, .long v), (2, .int y)] := hl
  refine lv_iload_n hx hb d_R_signed_0 rfl (lv_at hl 1 rfl) ?_
  refine lv_iconst (v := 4) hx hb d_R_signed_1 (by decide) ?_
  refine lv_icmp_ne (tgt := 10) hx hb d_R_signed_2 (by decide) (fun h1 => ?_) (fun h1 => ?_)
  · refine lv_iload_n hx hb d_R_signed_10 rfl (lv_at hl 1 rfl) ?_
    refine lv_iconst (v := 2) hx hb d_R_signed_11 (by decide) ?_
    refine lv_icmp_ne (tgt := 26) hx hb d_R_signed_12 (by decide) (fun h2 => ?_) (fun h2 => ?_)
    · refine lv_lload_n hx hb d_R_signed_26 rfl (lv_at hl 0 rfl) ?_
      refine lv_bipush (v := 56) hx hb d_R_signed_27 (by decide) ?_
      refine lv_lshl hx hb d_R_signed_29 rfl ?_
      refine lv_bipush (v := 56) hx hb d_R_signed_30 (by decide) ?_
      refine lv_lshr hx hb d_R_signed_32 rfl ?_
      refine lv_l2i hx hb d_R_signed_33 rfl ?_
      exact kw_iret hx hb hr hlocks hP hK hS ⟨by rw [kv_R_signed, if_neg h1, if_neg h2], rfl⟩ d_R_signed_34
    · refine lv_lload_n hx hb d_R_signed_15 rfl (lv_at hl 0 rfl) ?_
      refine lv_bipush (v := 48) hx hb d_R_signed_16 (by decide) ?_
      refine lv_lshl hx hb d_R_signed_18 rfl ?_
      refine lv_bipush (v := 48) hx hb d_R_signed_19 (by decide) ?_
      refine lv_lshr hx hb d_R_signed_21 rfl ?_
      refine lv_l2i hx hb d_R_signed_22 rfl ?_
      refine lv_goto (tgt := 34) hx hb d_R_signed_23 (by decide) ?_
      exact kw_iret hx hb hr hlocks hP hK hS ⟨by rw [kv_R_signed, if_neg h1, if_pos h2], rfl⟩ d_R_signed_34
  · refine lv_lload_n hx hb d_R_signed_5 rfl (lv_at hl 0 rfl) ?_
    refine lv_l2i hx hb d_R_signed_6 rfl ?_
    refine lv_goto (tgt := 34) hx hb d_R_signed_7 (by decide) ?_
    exact kw_iret hx hb hr hlocks hP hK hS ⟨by rw [kv_R_signed, if_pos h1], rfl⟩ d_R_signed_34

def kv_R_plain (x : Int32) (y : Int32) : Int64 := if y = 4 then (x.toInt64 &&& 4294967295) else if y = 2 then (x.toInt64 &&& 65535) else (x.toInt64 &&& 255)
set_option maxRecDepth 100000 in
set_option maxHeartbeats 4000000 in
theorem c_R_plain (l : Launch) {D : va_G} {tys : List (ClassId × FieldType)} {ad : Nat → Nat} {n : Nat} {cs : Nat → va_E} {x : Int32} {y : Int32}   : kw_ml l y_R_plain w_R_plain (kr 0) D kc tys ad n cs [.int x, .int y] (fun r9 c9 => r9 = kv_R_plain x y ∧ c9 = cs) := by
  refine kw_of (cc := b_R_plain) (maxL := 2) (ret := (some .long)) (by decide) rfl (Nat.le_of_ble_eq_true rfl) ?_
  intro p e s m below meth c ls hx hb hr hml hown hts hlocks hP hK hl
  have hg : ∀ w9 ∈ kg_G, w9.before [.int x, .int y].toArray s = true := fun w9 h9 => hts w9 (List.mem_cons_of_mem _ h9)
  have hown : s.vm.findClass "LaneMachineModel" = some m.cls := hown
  have hA : ∀ k, k < n → kw_A ad n (ad k) := fun k hk => ⟨k, hk, rfl⟩
  have hS : va_S (kw_A ad n) s.heap s.heap [] := va_S.rf
  have hl : lv_has ls 2 [(0, .int x), (1, .int y)] := hl
  refine lv_iload_n hx hb d_R_plain_0 rfl (lv_at hl 1 rfl) ?_
  refine lv_iconst (v := 4) hx hb d_R_plain_1 (by decide) ?_
  refine lv_icmp_ne (tgt := 14) hx hb d_R_plain_2 (by decide) (fun h1 => ?_) (fun h1 => ?_)
  · refine lv_iload_n hx hb d_R_plain_14 rfl (lv_at hl 1 rfl) ?_
    refine lv_iconst (v := 2) hx hb d_R_plain_15 (by decide) ?_
    refine lv_icmp_ne (tgt := 28) hx hb d_R_plain_16 (by decide) (fun h2 => ?_) (fun h2 => ?_)
    · refine lv_iload_n hx hb d_R_plain_28 rfl (lv_at hl 0 rfl) ?_
      refine lv_i2l hx hb d_R_plain_29 rfl ?_
      refine lv_ldc2 (v := 255) hx hb hown (hg _ kg_753) d_R_plain_30 ?_
      refine lv_land hx hb d_R_plain_33 ?_
      exact kw_lret hx hb hr hlocks hP hK hS ⟨by rw [kv_R_plain, if_neg h1, if_neg h2], rfl⟩ d_R_plain_34
    · refine lv_iload_n hx hb d_R_plain_19 rfl (lv_at hl 0 rfl) ?_
      refine lv_i2l hx hb d_R_plain_20 rfl ?_
      refine lv_ldc2 (v := 65535) hx hb hown (hg _ kg_752) d_R_plain_21 ?_
      refine lv_land hx hb d_R_plain_24 ?_
      refine lv_goto (tgt := 34) hx hb d_R_plain_25 (by decide) ?_
      exact kw_lret hx hb hr hlocks hP hK hS ⟨by rw [kv_R_plain, if_neg h1, if_pos h2], rfl⟩ d_R_plain_34
  · refine lv_iload_n hx hb d_R_plain_5 rfl (lv_at hl 0 rfl) ?_
    refine lv_i2l hx hb d_R_plain_6 rfl ?_
    refine lv_ldc2 (v := 4294967295) hx hb hown (hg _ kg_751) d_R_plain_7 ?_
    refine lv_land hx hb d_R_plain_10 ?_
    refine lv_goto (tgt := 34) hx hb d_R_plain_11 (by decide) ?_
    exact kw_lret hx hb hr hlocks hP hK hS ⟨by rw [kv_R_plain, if_pos h1], rfl⟩ d_R_plain_34

def kv_R_unit (x : Int32) : Int32 := if x < 17 then (if x = 10 then 1 else if x < 14 then 0 else 1) else 2
set_option maxRecDepth 100000 in
set_option maxHeartbeats 4000000 in
theorem c_R_unit (l : Launch) {D : va_G} {tys : List (ClassId × FieldType)} {ad : Nat → Nat} {n : Nat} {cs : Nat → va_E} {x : Int32}   : kw_mi l y_R_unit w_R_unit (kr 0) D kc tys ad n cs [.int x] (fun r9 c9 => r9 = kv_R_unit x ∧ c9 = cs) := by
  refine kw_of (cc := b_R_unit) (maxL := 1) (ret := (some .int)) (by decide) rfl (Nat.le_of_ble_eq_true rfl) ?_
  intro p e s m below meth c ls hx hb hr hml hown hts hlocks hP hK hl
  have hg : ∀ w9 ∈ kg_G, w9.before [.int x].toArray s = true := fun w9 h9 => hts w9 (List.mem_cons_of_mem _ h9)
  have hown : s.vm.findClass "LaneMachineModel" = some m.cls := hown
  have hA : ∀ k, k < n → kw_A ad n (ad k) := fun k hk => ⟨k, hk, rfl⟩
  have hS : va_S (kw_A ad n) s.heap s.heap [] := va_S.rf
  have hl : lv_has ls 1 [(0, .int x)] := hl
  refine lv_iload_n hx hb d_R_unit_0 rfl (lv_at hl 0 rfl) ?_
  refine lv_bipush (v := 17) hx hb d_R_unit_1 (by decide) ?_
  refine lv_icmp_lt (tgt := 10) hx hb d_R_unit_3 (by decide) (fun h1 => ?_) (fun h1 => ?_)
  · refine lv_iload_n hx hb d_R_unit_10 rfl (lv_at hl 0 rfl) ?_
    refine lv_bipush (v := 10) hx hb d_R_unit_11 (by decide) ?_
    refine lv_icmp_eq (tgt := 22) hx hb d_R_unit_13 (by decide) (fun h2 => ?_) (fun h2 => ?_)
    · refine lv_iconst (v := 1) hx hb d_R_unit_22 (by decide) ?_
      refine lv_goto (tgt := 27) hx hb d_R_unit_23 (by decide) ?_
      exact kw_iret hx hb hr hlocks hP hK hS ⟨by rw [kv_R_unit, if_pos h1, if_pos h2], rfl⟩ d_R_unit_27
    · refine lv_iload_n hx hb d_R_unit_16 rfl (lv_at hl 0 rfl) ?_
      refine lv_bipush (v := 14) hx hb d_R_unit_17 (by decide) ?_
      refine lv_icmp_lt (tgt := 26) hx hb d_R_unit_19 (by decide) (fun h3 => ?_) (fun h3 => ?_)
      · refine lv_iconst (v := 0) hx hb d_R_unit_26 (by decide) ?_
        exact kw_iret hx hb hr hlocks hP hK hS ⟨by rw [kv_R_unit, if_pos h1, if_neg h2, if_pos h3], rfl⟩ d_R_unit_27
      · refine lv_iconst (v := 1) hx hb d_R_unit_22 (by decide) ?_
        refine lv_goto (tgt := 27) hx hb d_R_unit_23 (by decide) ?_
        exact kw_iret hx hb hr hlocks hP hK hS ⟨by rw [kv_R_unit, if_pos h1, if_neg h2, if_neg h3], rfl⟩ d_R_unit_27
  · refine lv_iconst (v := 2) hx hb d_R_unit_6 (by decide) ?_
    refine lv_goto (tgt := 27) hx hb d_R_unit_7 (by decide) ?_
    exact kw_iret hx hb hr hlocks hP hK hS ⟨by rw [kv_R_unit, if_neg h1], rfl⟩ d_R_unit_27

def kv_R_odd (x : Int32) (y : Int32) : Int32 := if (x - x / y * y) = 0 then 0 else 1
set_option maxRecDepth 100000 in
set_option maxHeartbeats 4000000 in
theorem c_R_odd (l : Launch) {D : va_G} {tys : List (ClassId × FieldType)} {ad : Nat → Nat} {n : Nat} {cs : Nat → va_E} {q0 : Nat} {x : Int32} {y : Int32}  (hy : ¬ y = 0) : kw_mi l y_R_odd w_R_odd (kr 0) D kc tys ad n cs [.ref (ad q0), .int x, .int y] (fun r9 c9 => r9 = kv_R_odd x y ∧ c9 = cs) := by
  refine kw_of (cc := b_R_odd) (maxL := 3) (ret := (some .boolean)) (by decide) rfl (Nat.le_of_ble_eq_true rfl) ?_
  intro p e s m below meth c ls hx hb hr hml hown hts hlocks hP hK hl
  have hg : ∀ w9 ∈ kg_G, w9.before [.ref (ad q0), .int x, .int y].toArray s = true := fun w9 h9 => hts w9 (List.mem_cons_of_mem _ h9)
  have hown : s.vm.findClass "LaneMachineModel" = some m.cls := hown
  have hA : ∀ k, k < n → kw_A ad n (ad k) := fun k hk => ⟨k, hk, rfl⟩
  have hS : va_S (kw_A ad n) s.heap s.heap [] := va_S.rf
  have hl : lv_has ls 3 [(0, .ref (ad q0)), (1, .int x), (2, .int y)] := hl
  refine lv_iload_n hx hb d_R_odd_0 rfl (lv_at hl 1 rfl) ?_
  refine lv_iload_n hx hb d_R_odd_1 rfl (lv_at hl 2 rfl) ?_
  refine lv_irem hx hb d_R_odd_2 (hy) ?_
  refine lv_if_eq (tgt := 10) hx hb d_R_odd_3 (by decide) (fun h1 => ?_) (fun h1 => ?_)
  · refine lv_iconst (v := 0) hx hb d_R_odd_10 (by decide) ?_
    exact kw_zret hx hb hr hlocks hP hK hS (Or.inl rfl) ⟨by rw [kv_R_odd, if_pos h1], rfl⟩ d_R_odd_11
  · refine lv_iconst (v := 1) hx hb d_R_odd_6 (by decide) ?_
    refine lv_goto (tgt := 11) hx hb d_R_odd_7 (by decide) ?_
    exact kw_zret hx hb hr hlocks hP hK hS (Or.inr rfl) ⟨by rw [kv_R_odd, if_neg h1], rfl⟩ d_R_odd_11
end
section
/-! Bytes -/
abbrev kt (cI cB cJ cQ cW : ClassId) : List (ClassId × FieldType) := [(cI, .int), (cB, .byte), (cJ, .long), (cQ, .object "LaneMachine$Instruction"), (cW, .object "LaneMachine$Work")]
theorem kw_m1 (x : Int32) : x + Int32.ofInt (-1) = x - 1 := by
  rw [Int32.sub_eq_add_neg]
  exact congrArg (x + ·) (by decide)
theorem kw_from {p : Int32} {L w : Nat} (h1 : ¬ p < 0) (h2 : ¬ nI L - nI w < p) (hw : w ≤ L) (hL : L < 2 ^ 30) : ∃ q : Nat, q + w ≤ L ∧ p = nI q := by
  obtain ⟨q, hq, rfl⟩ := nI_of h1
  refine ⟨q, ?_, rfl⟩
  rw [pk_sub hw, nI_ltI (by omega) hq] at h2
  omega
def kv_bN (f : Nat → Int32) (q : Nat) : Nat → Int32 → Int32
  | 0, v => v
  | j + 1, v => kv_bN f q j ((v <<< (8 &&& 31)) ||| (f (q + j) &&& 255))
def kv_bare (f : Nat → Int32) (L : Nat) (p : Int32) (w : Nat) : Int32 := if p < 0 then 0 else if nI L - nI w < p then 0 else kv_bN f p.toNatClampNeg w 0

set_option maxRecDepth 100000 in
set_option maxHeartbeats 4000000 in
theorem c_B_bareNumber (l : Launch) {D : va_G} {ad : Nat → Nat} {n : Nat} {cs : Nat → va_E} {cI : ClassId} {cB : ClassId} {cJ : ClassId} {cQ : ClassId} {cW : ClassId} {q2 : Nat} {q3 : Nat} {L : Nat} {w : Nat} {x : Int32} {f : Nat → Int32} (hq2 : q2 < n) (e2 : cs q2 = .inr (0, [.ref (ad q3)])) (hq3 : q3 < n) (e3 : cs q3 = .inl (cB, L, .inl (f))) (hw : w ≤ L) (hL : L < 2 ^ 30) : kw_mi l y_B_bareNumber w_B_bareNumber (kr 0) D kc (kt cI cB cJ cQ cW) ad n cs [.ref (ad q2), .int x, .int (nI w)] (fun r9 c9 => r9 = kv_bare f L x w ∧ c9 = cs) := by
  refine kw_of (cc := b_B_bareNumber) (maxL := 5) (ret := (some .int)) (by decide) rfl (Nat.le_of_ble_eq_true rfl) ?_
  intro p e s m below meth c ls hx hb hr hml hown hts hlocks hP hK hl
  have hg : ∀ w9 ∈ kg_G, w9.before [.ref (ad q2), .int x, .int (nI w)].toArray s = true := fun w9 h9 => hts w9 (List.mem_cons_of_mem _ h9)
  have hown : s.vm.findClass "LaneMachine$Bytes" = some m.cls := hown
  have hA : ∀ k, k < n → kw_A ad n (ad k) := fun k hk => ⟨k, hk, rfl⟩
  have hS : va_S (kw_A ad n) s.heap s.heap [] := va_S.rf
  have hl : lv_has ls 5 [(0, .ref (ad q2)), (1, .int x), (2, .int (nI w))] := hl
  refine lv_iconst (v := 0) hx hb d_B_bareNumber_0 (by decide) ?_
  refine lv_istore_n (lv' := [(3, .int 0), (0, .ref (ad q2)), (1, .int x), (2, .int (nI w))]) hx hb d_B_bareNumber_1 rfl hl (by decide) rfl (fun ls hl => ?_)
  refine lv_iload_n hx hb d_B_bareNumber_2 rfl (lv_at hl 2 rfl) ?_
  refine lv_if_lt (tgt := 52) hx hb d_B_bareNumber_3 (by decide) (fun h1 => ?_) (fun h1 => ?_)
  · refine lv_iload_n hx hb d_B_bareNumber_52 rfl (lv_at hl 0 rfl) ?_
    exact kw_iret hx hb hr hlocks hP hK hS ⟨by rw [kv_bare, if_pos h1], rfl⟩ d_B_bareNumber_53
  · refine lv_iload_n hx hb d_B_bareNumber_6 rfl (lv_at hl 2 rfl) ?_
    refine lv_aload_n hx hb d_B_bareNumber_7 rfl (lv_at hl 1 rfl) ?_
    refine kw_get hx hb hg in_B hown hK hP q2 hq2 e2 rfl 0 (by decide) (hg _ kg_33) rfl rfl d_B_bareNumber_8 ?_
    refine kw_alen (v := nI L) hx hb hK hP q3 1 hq3 e3 rfl rfl d_B_bareNumber_11 ?_
    refine lv_iload_n hx hb d_B_bareNumber_12 rfl (lv_at hl 3 rfl) ?_
    refine lv_isub hx hb d_B_bareNumber_13 ?_
    refine lv_icmp_gt (tgt := 52) hx hb d_B_bareNumber_14 (by decide) (fun h2 => ?_) (fun h2 => ?_)
    · refine lv_iload_n hx hb d_B_bareNumber_52 rfl (lv_at hl 0 rfl) ?_
      exact kw_iret hx hb hr hlocks hP hK hS ⟨by rw [kv_bare, if_neg h1, if_pos h2], rfl⟩ d_B_bareNumber_53
    · obtain ⟨q, hqL, hpq⟩ := kw_from h1 h2 hw hL
      have hv0 : kv_bare f L x w = kv_bN f q w 0 := by rw [kv_bare, if_neg h1, if_neg h2, hpq, nI_clamp (by omega)]
      refine lv_iload_n hx hb d_B_bareNumber_17 rfl (lv_at hl 3 rfl) ?_
      refine lv_iconst (v := 1) hx hb d_B_bareNumber_18 (by decide) ?_
      refine lv_isub hx hb d_B_bareNumber_19 ?_
      refine lv_istore (lv' := [(4, .int ((nI w) - 1)), (3, .int 0), (0, .ref (ad q2)), (1, .int x), (2, .int (nI w))]) hx hb d_B_bareNumber_20 hl (by decide) rfl (fun ls hl => ?_)
      have loop : ∀ (kk : Nat) (v : Int32) (H : Heap) (locs : List Loc) (ls : Array Slot), kk ≤ w → kv_bare f L x w = kv_bN f q kk v → va_P D kc (kw_w ad cs n) H → va_S (kw_A ad n) s.heap H locs → lv_has ls 5 [(4, .int (nI kk - 1)), (3, .int v), (0, .ref (ad q2)), (1, .int x), (2, .int (nI w))] → W p l e (kr 0) s m [.ref (ad q2), .int x, .int (nI w)].toArray below meth c H locs 0 0 (MQ below (va_Qi (fun r9 c9 => r9 = kv_bare f L x w ∧ c9 = cs) (kw_Pre D kc (kt cI cB cJ cQ cW) ad n) (kw_A ad n)) [.ref (ad q2), .int x, .int (nI w)].toArray s 0 0 (kw_A ad n)) (F0 m 22 ls []) := by
        intro kk
        induction kk with
        | zero =>
          intro v H locs ls hk hv hP hS hl
          refine lv_iload hx hb d_B_bareNumber_22 (lv_at hl 0 rfl) ?_
          refine lv_if_lt (tgt := 52) hx hb d_B_bareNumber_24 (by decide) (fun _ => ?_) (fun h3 => absurd (by decide) h3)
          refine lv_iload_n hx hb d_B_bareNumber_52 rfl (lv_at hl 1 rfl) ?_
          exact kw_iret hx hb hr hlocks hP hK hS ⟨hv.symm, rfl⟩ d_B_bareNumber_53
        | succ j ih =>
          intro v H locs ls hk hv hP hS hl
          refine lv_iload hx hb d_B_bareNumber_22 (lv_at hl 0 rfl) ?_
          refine lv_if_lt (tgt := 52) hx hb d_B_bareNumber_24 (by decide) (fun h4 => absurd h4 (by rw [nI_pred]; exact nI_pos (by omega))) (fun _ => ?_)
          refine lv_iload_n hx hb d_B_bareNumber_27 rfl (lv_at hl 1 rfl) ?_
          refine lv_bipush (v := 8) hx hb d_B_bareNumber_28 (by decide) ?_
          refine lv_ishl hx hb d_B_bareNumber_30 ?_
          refine lv_aload_n hx hb d_B_bareNumber_31 rfl (lv_at hl 2 rfl) ?_
          refine kw_get hx hb hg in_B hown hK hP q2 hq2 e2 rfl 0 (by decide) (hg _ kg_33) rfl rfl d_B_bareNumber_32 ?_
          refine lv_iload_n hx hb d_B_bareNumber_35 rfl (lv_at hl 3 rfl) ?_
          refine lv_iload hx hb d_B_bareNumber_36 (lv_at hl 0 rfl) ?_
          refine lv_iadd hx hb d_B_bareNumber_38 ?_
          refine kw_bald hx hb hK hP q3 1 hq3 e3 rfl (q + j) (by rw [hpq, nI_pred, nI_add]) (by omega) (by omega) d_B_bareNumber_39 ?_
          refine lv_sipush (v := 255) hx hb d_B_bareNumber_40 (by decide) ?_
          refine lv_iand hx hb d_B_bareNumber_43 ?_
          refine lv_ior hx hb d_B_bareNumber_44 ?_
          refine lv_istore_n (lv' := [(3, .int ((v <<< (8 &&& 31)) ||| ((f (q + j)) &&& 255))), (4, .int (nI (j + 1) - 1)), (0, .ref (ad q2)), (1, .int x), (2, .int (nI w))]) hx hb d_B_bareNumber_45 rfl hl (by decide) rfl (fun ls hl => ?_)
          refine lv_iinc (k := 1) (v := nI j - 1) (lv' := [(4, .int (nI j - 1)), (3, .int ((v <<< (8 &&& 31)) ||| ((f (q + j)) &&& 255))), (0, .ref (ad q2)), (1, .int x), (2, .int (nI w))]) hx hb d_B_bareNumber_46 hl rfl (by rw [nI_pred]; exact kw_m1 _) (by decide) rfl (fun ls hl => ?_)
          refine lv_goto (tgt := 22) hx hb d_B_bareNumber_49 (by decide) ?_
          exact ih _ _ _ _ (by omega) (hv) (hP) hS (lv_sub hl [0, 1, 2, 3, 4] rfl)
      exact loop w 0 _ _ _ (Nat.le_refl _) (hv0) (hP) hS (lv_sub hl [0, 1, 2, 3, 4] rfl)

def kv_B_number (L : Nat) (w : Nat) (x : Int32) (f : Nat → Int32) : Int32 := ((kv_bare f L x w) <<< ((32 - (8 * (nI w))) &&& 31)) >>> ((32 - (8 * (nI w))) &&& 31)
set_option maxRecDepth 100000 in
set_option maxHeartbeats 4000000 in
theorem c_B_number (l : Launch) {D : va_G} {ad : Nat → Nat} {n : Nat} {cs : Nat → va_E} {cI : ClassId} {cB : ClassId} {cJ : ClassId} {cQ : ClassId} {cW : ClassId} {q2 : Nat} {q3 : Nat} {L : Nat} {w : Nat} {x : Int32} {f : Nat → Int32} (hq2 : q2 < n) (e2 : cs q2 = .inr (0, [.ref (ad q3)])) (hq3 : q3 < n) (e3 : cs q3 = .inl (cB, L, .inl (f))) (hw : w ≤ L) (hL : L < 2 ^ 30) : kw_mi l y_B_number w_B_number (kr 1) D kc (kt cI cB cJ cQ cW) ad n cs [.ref (ad q2), .int x, .int (nI w)] (fun r9 c9 => r9 = kv_B_number L w x f ∧ c9 = cs) := by
  refine kw_of (cc := b_B_number) (maxL := 4) (ret := (some .int)) (by decide) rfl (Nat.le_of_ble_eq_true rfl) ?_
  intro p e s m below meth c ls hx hb hr hml hown hts hlocks hP hK hl
  have hg : ∀ w9 ∈ kg_G, w9.before [.ref (ad q2), .int x, .int (nI w)].toArray s = true := fun w9 h9 => hts w9 (List.mem_cons_of_mem _ h9)
  have hown : s.vm.findClass "LaneMachine$Bytes" = some m.cls := hown
  have hA : ∀ k, k < n → kw_A ad n (ad k) := fun k hk => ⟨k, hk, rfl⟩
  have hS : va_S (kw_A ad n) s.heap s.heap [] := va_S.rf
  have hl : lv_has ls 4 [(0, .ref (ad q2)), (1, .int x), (2, .int (nI w))] := hl
  refine lv_bipush (v := 32) hx hb d_B_number_0 (by decide) ?_
  refine lv_bipush (v := 8) hx hb d_B_number_2 (by decide) ?_
  refine lv_iload_n hx hb d_B_number_4 rfl (lv_at hl 2 rfl) ?_
  refine lv_imul hx hb d_B_number_5 ?_
  refine lv_isub hx hb d_B_number_6 ?_
  refine lv_istore_n (lv' := [(3, .int (32 - (8 * (nI w)))), (0, .ref (ad q2)), (1, .int x), (2, .int (nI w))]) hx hb d_B_number_7 rfl hl (by decide) rfl (fun ls hl => ?_)
  refine lv_aload_n hx hb d_B_number_8 rfl (lv_at hl 1 rfl) ?_
  refine lv_iload_n hx hb d_B_number_9 rfl (lv_at hl 2 rfl) ?_
  refine lv_iload_n hx hb d_B_number_10 rfl (lv_at hl 3 rfl) ?_
  refine kw_callix (kw_rV (As := [.int x, .int (nI w)]) (rest := []) (q0 := q2) ⟨hx, hb, hml, hown, hg⟩ ⟨callB_of 2 hg (kg_goodG kg_220) rfl rfl rfl (hg _ kg_3) (hg _ kg_217) (by decide +kernel) ⟨by decide, by decide⟩, hg _ kg_218, hg _ kg_219⟩ (c_B_bareNumber l hq2 e2 hq3 e3 hw hL ) hK hP hq2 e2 rfl rfl hl.1 rfl (Nat.le_of_ble_eq_true rfl) d_B_number_11 ⟨Nat.zero_le _, Nat.zero_le _⟩) hA hS (fun H locs hP hS => ?_)
  refine lv_iload_n hx hb d_B_number_14 rfl (lv_at hl 0 rfl) ?_
  refine lv_ishl hx hb d_B_number_15 ?_
  refine lv_iload_n hx hb d_B_number_16 rfl (lv_at hl 0 rfl) ?_
  refine lv_ishr hx hb d_B_number_17 ?_
  exact kw_iret hx hb hr hlocks hP hK hS ⟨by rw [kv_B_number], rfl⟩ d_B_number_18

theorem kw_id {cs : Nat → va_E} {k : Nat} {e : va_E} (h : cs k = e) : va_up cs k e = cs := funext fun j => by
  by_cases hj : j = k
  · subst hj; rw [va_up_self, h]
  · rw [va_up_ne _ _ hj]
def kv_wN (v : Int32) (q : Nat) : Nat → Nat → (Nat → Int32) → Nat → Int32
  | 0, _, f => f
  | k + 1, i, f => kv_wN v q k (i + 1) (upd f (q + i) (vp_nar .byte ((v >>> ((8 * nI i) &&& 31)).toInt8.toInt32)))
def kv_write (f : Nat → Int32) (L : Nat) (x : Int32) (w : Nat) (v : Int32) : Nat → Int32 := if x < 0 then f else if nI L - nI w < x then f else kv_wN v x.toNatClampNeg w 0 f

set_option maxRecDepth 100000 in
set_option maxHeartbeats 4000000 in
theorem c_B_write (l : Launch) {D : va_G} {ad : Nat → Nat} {n : Nat} {cs : Nat → va_E} (hJ : kw_J ad n) {cI : ClassId} {cB : ClassId} {cJ : ClassId} {cQ : ClassId} {cW : ClassId} {q2 : Nat} {q3 : Nat} {L : Nat} {w : Nat} {x : Int32} {v : Int32} {f : Nat → Int32} (hq2 : q2 < n) (e2 : cs q2 = .inr (0, [.ref (ad q3)])) (hq3 : q3 < n) (e3 : cs q3 = .inl (cB, L, .inl (f))) (hw : w ≤ L) (hL : L < 2 ^ 30) : kw_mv l y_B_write w_B_write (kr 0) D kc (kt cI cB cJ cQ cW) ad n cs [.ref (ad q2), .int x, .int (nI w), .int v] (fun c9 => c9 = va_up cs q3 (.inl (cB, L, .inl (kv_write f L x w v)))) := by
  refine kw_of (cc := b_B_write) (maxL := 5) (ret := none) (by decide) rfl (Nat.le_of_ble_eq_true rfl) ?_
  intro p e s m below meth c ls hx hb hr hml hown hts hlocks hP hK hl
  have hg : ∀ w9 ∈ kg_G, w9.before [.ref (ad q2), .int x, .int (nI w), .int v].toArray s = true := fun w9 h9 => hts w9 (List.mem_cons_of_mem _ h9)
  have hown : s.vm.findClass "LaneMachine$Bytes" = some m.cls := hown
  have hA : ∀ k, k < n → kw_A ad n (ad k) := fun k hk => ⟨k, hk, rfl⟩
  have hS : va_S (kw_A ad n) s.heap s.heap [] := va_S.rf
  have hl : lv_has ls 5 [(0, .ref (ad q2)), (1, .int x), (2, .int (nI w)), (3, .int v)] := hl
  have hn23 : q2 ≠ q3 := fun h => by rw [h, e3] at e2; cases e2
  refine lv_iload_n hx hb d_B_write_0 rfl (lv_at hl 1 rfl) ?_
  refine lv_if_lt (tgt := 47) hx hb d_B_write_1 (by decide) (fun h1 => ?_) (fun h1 => ?_)
  · exact kw_vret hx hb hr hlocks hP hK hS ((by rw [kv_write, if_pos h1]; exact (kw_id e3).symm)) d_B_write_47
  · refine lv_iload_n hx hb d_B_write_4 rfl (lv_at hl 1 rfl) ?_
    refine lv_aload_n hx hb d_B_write_5 rfl (lv_at hl 0 rfl) ?_
    refine kw_get hx hb hg in_B hown hK hP q2 hq2 e2 rfl 0 (by decide) (hg _ kg_33) rfl rfl d_B_write_6 ?_
    refine kw_alen (v := nI L) hx hb hK hP q3 1 hq3 e3 rfl rfl d_B_write_9 ?_
    refine lv_iload_n hx hb d_B_write_10 rfl (lv_at hl 2 rfl) ?_
    refine lv_isub hx hb d_B_write_11 ?_
    refine lv_icmp_gt (tgt := 47) hx hb d_B_write_12 (by decide) (fun h2 => ?_) (fun h2 => ?_)
    · exact kw_vret hx hb hr hlocks hP hK hS ((by rw [kv_write, if_neg h1, if_pos h2]; exact (kw_id e3).symm)) d_B_write_47
    · obtain ⟨q, hqL, hpq⟩ := kw_from h1 h2 hw hL
      have hv0 : kv_write f L x w v = kv_wN v q w 0 f := by rw [kv_write, if_neg h1, if_neg h2, hpq, nI_clamp (by omega)]
      refine lv_iconst (v := 0) hx hb d_B_write_15 (by decide) ?_
      refine lv_istore (lv' := [(4, .int 0), (0, .ref (ad q2)), (1, .int x), (2, .int (nI w)), (3, .int v)]) hx hb d_B_write_16 hl (by decide) rfl (fun ls hl => ?_)
      have loop : ∀ (kk : Nat) (i : Nat) (f1 : Nat → Int32) (H : Heap) (locs : List Loc) (ls : Array Slot), i + kk = w → kv_write f L x w v = kv_wN v q kk i f1 → va_P D kc (kw_w ad (va_up cs q3 (.inl (cB, L, .inl (f1)))) n) H → va_S (kw_A ad n) s.heap H locs → lv_has ls 5 [(4, .int (nI i)), (0, .ref (ad q2)), (1, .int x), (2, .int (nI w)), (3, .int v)] → W p l e (kr 0) s m [.ref (ad q2), .int x, .int (nI w), .int v].toArray below meth c H locs 0 0 (MQ below (va_Qv (fun c9 => c9 = va_up cs q3 (.inl (cB, L, .inl (kv_write f L x w v)))) (kw_Pre D kc (kt cI cB cJ cQ cW) ad n) (kw_A ad n)) [.ref (ad q2), .int x, .int (nI w), .int v].toArray s 0 0 (kw_A ad n)) (F0 m 18 ls []) := by
        intro kk
        induction kk with
        | zero =>
          intro i f1 H locs ls hik hv hP hS hl
          have e2 : (va_up cs q3 (.inl (cB, L, .inl (f1)))) q2 = .inr (0, [.ref (ad q3)]) := (va_up_ne _ _ hn23).trans e2
          have e3 : (va_up cs q3 (.inl (cB, L, .inl (f1)))) q3 = .inl (cB, L, .inl (f1)) := va_up_self _ _ _
          refine lv_iload hx hb d_B_write_18 (lv_at hl 0 rfl) ?_
          refine lv_iload_n hx hb d_B_write_20 rfl (lv_at hl 3 rfl) ?_
          refine lv_icmp_ge (tgt := 47) hx hb d_B_write_21 (by decide) (fun _ => ?_) (fun h3 => absurd (nI_le (by omega) (by omega)) h3)
          exact kw_vret hx hb hr hlocks hP hK hS (by rw [hv, kv_wN]) d_B_write_47
        | succ j ih =>
          intro i f1 H locs ls hik hv hP hS hl
          have e2 : (va_up cs q3 (.inl (cB, L, .inl (f1)))) q2 = .inr (0, [.ref (ad q3)]) := (va_up_ne _ _ hn23).trans e2
          have e3 : (va_up cs q3 (.inl (cB, L, .inl (f1)))) q3 = .inl (cB, L, .inl (f1)) := va_up_self _ _ _
          refine lv_iload hx hb d_B_write_18 (lv_at hl 0 rfl) ?_
          refine lv_iload_n hx hb d_B_write_20 rfl (lv_at hl 3 rfl) ?_
          refine lv_icmp_ge (tgt := 47) hx hb d_B_write_21 (by decide) (fun h4 => absurd h4 (nI_ge (by omega) (by omega))) (fun _ => ?_)
          refine lv_aload_n hx hb d_B_write_24 rfl (lv_at hl 1 rfl) ?_
          refine kw_get hx hb hg in_B hown hK hP q2 hq2 e2 rfl 0 (by decide) (hg _ kg_33) rfl rfl d_B_write_25 ?_
          refine lv_iload_n hx hb d_B_write_28 rfl (lv_at hl 2 rfl) ?_
          refine lv_iload hx hb d_B_write_29 (lv_at hl 0 rfl) ?_
          refine lv_iadd hx hb d_B_write_31 ?_
          refine lv_iload_n hx hb d_B_write_32 rfl (lv_at hl 4 rfl) ?_
          refine lv_bipush (v := 8) hx hb d_B_write_33 (by decide) ?_
          refine lv_iload hx hb d_B_write_35 (lv_at hl 0 rfl) ?_
          refine lv_imul hx hb d_B_write_37 ?_
          refine lv_ishr hx hb d_B_write_38 ?_
          refine lv_i2b hx hb d_B_write_39 rfl ?_
          refine kw_bast hx hb hK hP hJ hA hS q3 1 hq3 e3 rfl (q + i) (by rw [hpq, nI_add]) (by omega) (by omega) d_B_write_40 (fun H locs hP hS => ?_)
          have e2 : (va_up (va_up cs q3 (.inl (cB, L, .inl (f1)))) q3 (.inl (cB, L, .inl (upd f1 (q + i) (vp_nar .byte ((v >>> ((8 * (nI i)) &&& 31)).toInt8.toInt32)))))) q2 = .inr (0, [.ref (ad q3)]) := (va_up_ne _ _ (hn23)).trans e2
          have e3 : (va_up (va_up cs q3 (.inl (cB, L, .inl (f1)))) q3 (.inl (cB, L, .inl (upd f1 (q + i) (vp_nar .byte ((v >>> ((8 * (nI i)) &&& 31)).toInt8.toInt32)))))) q3 = .inl (cB, L, .inl (upd f1 (q + i) (vp_nar .byte ((v >>> ((8 * (nI i)) &&& 31)).toInt8.toInt32)))) := va_up_self _ _ _
          refine lv_iinc (k := 0) (v := nI (i + 1)) (lv' := [(4, .int (nI (i + 1))), (0, .ref (ad q2)), (1, .int x), (2, .int (nI w)), (3, .int v)]) hx hb d_B_write_41 hl rfl ((nI_succ i).symm) (by decide) rfl (fun ls hl => ?_)
          refine lv_goto (tgt := 18) hx hb d_B_write_44 (by decide) ?_
          exact ih ((i + 1)) _ _ _ _ (by omega) (hv) (by rw [bx_uu] at hP; exact hP) hS (lv_sub hl [0, 1, 2, 3, 4] rfl)
      exact loop w 0 f _ _ _ (by omega) (hv0) (by rw [kw_id e3]; exact hP) hS (lv_sub hl [0, 1, 2, 3, 4] rfl)
end
section
/-! Work -/
def kv_K_steps (fr : Nat) (tt : Nat) (op : Int32) : Int32 := if op = 14 then (if (if 0 < ((nI tt) - (nI fr)) then ((nI tt) - (nI fr)) else 0) < 1 then (if 0 < ((nI tt) - (nI fr)) then ((nI tt) - (nI fr)) else 0) else 1) else (if 0 < ((nI tt) - (nI fr)) then ((nI tt) - (nI fr)) else 0)
set_option maxRecDepth 100000 in
set_option maxHeartbeats 4000000 in
theorem c_K_steps (l : Launch) {D : va_G} {ad : Nat → Nat} {n : Nat} {cs : Nat → va_E} {cI : ClassId} {cB : ClassId} {cJ : ClassId} {cQ : ClassId} {cW : ClassId} {qk : Nat} {q1 : Nat} {q2 : Nat} {q4 : Nat} {q6 : Nat} {q7 : Nat} {w : Nat} {fr : Nat} {tt : Nat} {dn : Nat} {db : Nat} {gr : Int32} {mo : Int32} {xa : Int32} {xb : Int32} {nu : Int32} {op : Int32} {rd : Int32} {ra : Int32} {rb : Int32} {rn : Int32} {mk : Int32} (hqk : qk < n) (ek : cs qk = .inr (3, [.ref (ad q2), .ref (ad q4), .ref (ad q6), .ref (ad q7), .int (nI w), .int gr, .int mo, .int xa, .int xb, .int (nI fr), .ref (ad q1), .int nu, .int (nI tt), .int (nI dn), .int (nI db)])) (hq1 : q1 < n) (e1 : cs q1 = .inr (1, [.int op, .int rd, .int ra, .int rb, .int rn, .int mk]))  : kw_mi l y_K_steps w_K_steps (kr 1) D kc (kt cI cB cJ cQ cW) ad n cs [.ref (ad qk)] (fun r9 c9 => r9 = kv_K_steps fr tt op ∧ c9 = cs) := by
  refine kw_of (cc := b_K_steps) (maxL := 2) (ret := (some .int)) (by decide) rfl (Nat.le_of_ble_eq_true rfl) ?_
  intro p e s m below meth c ls hx hb hr hml hown hts hlocks hP hK hl
  have hg : ∀ w9 ∈ kg_G, w9.before [.ref (ad qk)].toArray s = true := fun w9 h9 => hts w9 (List.mem_cons_of_mem _ h9)
  have hown : s.vm.findClass "LaneMachine$Work" = some m.cls := hown
  have hA : ∀ k, k < n → kw_A ad n (ad k) := fun k hk => ⟨k, hk, rfl⟩
  have hS : va_S (kw_A ad n) s.heap s.heap [] := va_S.rf
  have hl : lv_has ls 2 [(0, .ref (ad qk))] := hl
  refine lv_iconst (v := 0) hx hb d_K_steps_0 (by decide) ?_
  refine lv_aload_n hx hb d_K_steps_1 rfl (lv_at hl 0 rfl) ?_
  refine kw_get hx hb hg in_K hown hK hP qk hqk ek rfl 12 (by decide) (hg _ kg_125) rfl rfl d_K_steps_2 ?_
  refine lv_aload_n hx hb d_K_steps_5 rfl (lv_at hl 0 rfl) ?_
  refine kw_get hx hb hg in_K hown hK hP qk hqk ek rfl 9 (by decide) (hg _ kg_120) rfl rfl d_K_steps_6 ?_
  refine lv_isub hx hb d_K_steps_9 ?_
  refine va_mmax hx hb (hml.trans hl.1.symm) hown (hg _ kg_245) (hg _ kg_25) (hg _ kg_2) (hg _ kg_26) (by decide) (Nat.le_of_ble_eq_true rfl) (Nat.zero_le _) (Nat.zero_le _) d_K_steps_10 ?_
  refine lv_istore_n (lv' := [(1, .int (if 0 < ((nI tt) - (nI fr)) then ((nI tt) - (nI fr)) else 0)), (0, .ref (ad qk))]) hx hb d_K_steps_13 rfl hl (by decide) rfl (fun ls hl => ?_)
  refine lv_aload_n hx hb d_K_steps_14 rfl (lv_at hl 1 rfl) ?_
  refine kw_get hx hb hg in_K hown hK hP qk hqk ek rfl 10 (by decide) (hg _ kg_121) rfl rfl d_K_steps_15 ?_
  refine kw_get hx hb hg in_I hown hK hP q1 hq1 e1 rfl 0 (by decide) (hg _ kg_72) rfl rfl d_K_steps_18 ?_
  refine lv_bipush (v := 14) hx hb d_K_steps_21 (by decide) ?_
  refine lv_icmp_ne (tgt := 34) hx hb d_K_steps_23 (by decide) (fun h1 => ?_) (fun h1 => ?_)
  · refine lv_iload_n hx hb d_K_steps_34 rfl (lv_at hl 0 rfl) ?_
    exact kw_iret hx hb hr hlocks hP hK hS ⟨by rw [kv_K_steps, if_neg h1], rfl⟩ d_K_steps_35
  · refine lv_iconst (v := 1) hx hb d_K_steps_26 (by decide) ?_
    refine lv_iload_n hx hb d_K_steps_27 rfl (lv_at hl 0 rfl) ?_
    refine va_mmin hx hb (hml.trans hl.1.symm) hown (hg _ kg_246) (hg _ kg_22) (hg _ kg_2) (hg _ kg_23) (by decide) (Nat.le_of_ble_eq_true rfl) (Nat.zero_le _) (Nat.zero_le _) d_K_steps_28 ?_
    refine lv_goto (tgt := 35) hx hb d_K_steps_31 (by decide) ?_
    exact kw_iret hx hb hr hlocks hP hK hS ⟨by rw [kv_K_steps, if_pos h1], rfl⟩ d_K_steps_35

def kv_K_isDone (fr : Nat) (tt : Nat) (dn : Nat) (op : Int32) : Int32 := if (nI dn) < (kv_K_steps fr tt op) then 0 else 1
set_option maxRecDepth 100000 in
set_option maxHeartbeats 4000000 in
theorem c_K_isDone (l : Launch) {D : va_G} {ad : Nat → Nat} {n : Nat} {cs : Nat → va_E} {cI : ClassId} {cB : ClassId} {cJ : ClassId} {cQ : ClassId} {cW : ClassId} {qk : Nat} {q1 : Nat} {q2 : Nat} {q4 : Nat} {q6 : Nat} {q7 : Nat} {w : Nat} {fr : Nat} {tt : Nat} {dn : Nat} {db : Nat} {gr : Int32} {mo : Int32} {xa : Int32} {xb : Int32} {nu : Int32} {op : Int32} {rd : Int32} {ra : Int32} {rb : Int32} {rn : Int32} {mk : Int32} (hqk : qk < n) (ek : cs qk = .inr (3, [.ref (ad q2), .ref (ad q4), .ref (ad q6), .ref (ad q7), .int (nI w), .int gr, .int mo, .int xa, .int xb, .int (nI fr), .ref (ad q1), .int nu, .int (nI tt), .int (nI dn), .int (nI db)])) (hq1 : q1 < n) (e1 : cs q1 = .inr (1, [.int op, .int rd, .int ra, .int rb, .int rn, .int mk]))  : kw_mi l y_K_isDone w_K_isDone (kr 2) D kc (kt cI cB cJ cQ cW) ad n cs [.ref (ad qk)] (fun r9 c9 => r9 = kv_K_isDone fr tt dn op ∧ c9 = cs) := by
  refine kw_of (cc := b_K_isDone) (maxL := 1) (ret := (some .boolean)) (by decide) rfl (Nat.le_of_ble_eq_true rfl) ?_
  intro p e s m below meth c ls hx hb hr hml hown hts hlocks hP hK hl
  have hg : ∀ w9 ∈ kg_G, w9.before [.ref (ad qk)].toArray s = true := fun w9 h9 => hts w9 (List.mem_cons_of_mem _ h9)
  have hown : s.vm.findClass "LaneMachine$Work" = some m.cls := hown
  have hA : ∀ k, k < n → kw_A ad n (ad k) := fun k hk => ⟨k, hk, rfl⟩
  have hS : va_S (kw_A ad n) s.heap s.heap [] := va_S.rf
  have hl : lv_has ls 1 [(0, .ref (ad qk))] := hl
  refine lv_aload_n hx hb d_K_isDone_0 rfl (lv_at hl 0 rfl) ?_
  refine kw_get hx hb hg in_K hown hK hP qk hqk ek rfl 13 (by decide) (hg _ kg_127) rfl rfl d_K_isDone_1 ?_
  refine lv_aload_n hx hb d_K_isDone_4 rfl (lv_at hl 0 rfl) ?_
  refine kw_callix (kw_rV (As := []) (rest := [.int (nI dn)]) (q0 := qk) ⟨hx, hb, hml, hown, hg⟩ ⟨callB_of 0 hg (kg_goodG kg_244) rfl rfl rfl (hg _ kg_6) (hg _ kg_383) (by decide +kernel) ⟨by decide, by decide⟩, hg _ kg_242, hg _ kg_243⟩ (c_K_steps l hqk ek hq1 e1 ) hK hP hqk ek rfl rfl hl.1 rfl (Nat.le_of_ble_eq_true rfl) d_K_isDone_5 ⟨Nat.zero_le _, Nat.zero_le _⟩) hA hS (fun H locs hP hS => ?_)
  refine lv_icmp_lt (tgt := 15) hx hb d_K_isDone_8 (by decide) (fun h1 => ?_) (fun h1 => ?_)
  · refine lv_iconst (v := 0) hx hb d_K_isDone_15 (by decide) ?_
    exact kw_zret hx hb hr hlocks hP hK hS (Or.inl rfl) ⟨by rw [kv_K_isDone, if_pos h1], rfl⟩ d_K_isDone_16
  · refine lv_iconst (v := 1) hx hb d_K_isDone_11 (by decide) ?_
    refine lv_goto (tgt := 16) hx hb d_K_isDone_12 (by decide) ?_
    exact kw_zret hx hb hr hlocks hP hK hS (Or.inr rfl) ⟨by rw [kv_K_isDone, if_neg h1], rfl⟩ d_K_isDone_16

def kv_K_placeOf (w : Nat) (x : Int32) (y : Int32) : Int32 := (8 * x) + (y * (nI w))
set_option maxRecDepth 100000 in
set_option maxHeartbeats 4000000 in
theorem c_K_placeOf (l : Launch) {D : va_G} {ad : Nat → Nat} {n : Nat} {cs : Nat → va_E} {cI : ClassId} {cB : ClassId} {cJ : ClassId} {cQ : ClassId} {cW : ClassId} {qk : Nat} {q1 : Nat} {q2 : Nat} {q4 : Nat} {q6 : Nat} {q7 : Nat} {w : Nat} {fr : Nat} {tt : Nat} {dn : Nat} {db : Nat} {gr : Int32} {mo : Int32} {xa : Int32} {xb : Int32} {nu : Int32} {x : Int32} {y : Int32} (hqk : qk < n) (ek : cs qk = .inr (3, [.ref (ad q2), .ref (ad q4), .ref (ad q6), .ref (ad q7), .int (nI w), .int gr, .int mo, .int xa, .int xb, .int (nI fr), .ref (ad q1), .int nu, .int (nI tt), .int (nI dn), .int (nI db)]))  : kw_mi l y_K_placeOf w_K_placeOf (kr 0) D kc (kt cI cB cJ cQ cW) ad n cs [.ref (ad qk), .int x, .int y] (fun r9 c9 => r9 = kv_K_placeOf w x y ∧ c9 = cs) := by
  refine kw_of (cc := b_K_placeOf) (maxL := 3) (ret := (some .int)) (by decide) rfl (Nat.le_of_ble_eq_true rfl) ?_
  intro p e s m below meth c ls hx hb hr hml hown hts hlocks hP hK hl
  have hg : ∀ w9 ∈ kg_G, w9.before [.ref (ad qk), .int x, .int y].toArray s = true := fun w9 h9 => hts w9 (List.mem_cons_of_mem _ h9)
  have hown : s.vm.findClass "LaneMachine$Work" = some m.cls := hown
  have hA : ∀ k, k < n → kw_A ad n (ad k) := fun k hk => ⟨k, hk, rfl⟩
  have hS : va_S (kw_A ad n) s.heap s.heap [] := va_S.rf
  have hl : lv_has ls 3 [(0, .ref (ad qk)), (1, .int x), (2, .int y)] := hl
  refine lv_bipush (v := 8) hx hb d_K_placeOf_0 (by decide) ?_
  refine lv_iload_n hx hb d_K_placeOf_2 rfl (lv_at hl 1 rfl) ?_
  refine lv_imul hx hb d_K_placeOf_3 ?_
  refine lv_iload_n hx hb d_K_placeOf_4 rfl (lv_at hl 2 rfl) ?_
  refine lv_aload_n hx hb d_K_placeOf_5 rfl (lv_at hl 0 rfl) ?_
  refine kw_get hx hb hg in_K hown hK hP qk hqk ek rfl 4 (by decide) (hg _ kg_115) rfl rfl d_K_placeOf_6 ?_
  refine lv_imul hx hb d_K_placeOf_9 ?_
  refine lv_iadd hx hb d_K_placeOf_10 ?_
  exact kw_iret hx hb hr hlocks hP hK hS ⟨by rw [kv_K_placeOf], rfl⟩ d_K_placeOf_11

def kv_K_maskByte (mk : Int32) (x : Int32) : Int64 := if mk = 0 then 0 else ((1 : Int64) <<< ((x / 8).toInt64 &&& 63))
set_option maxRecDepth 100000 in
set_option maxHeartbeats 4000000 in
theorem c_K_maskByte (l : Launch) {D : va_G} {ad : Nat → Nat} {n : Nat} {cs : Nat → va_E} {cI : ClassId} {cB : ClassId} {cJ : ClassId} {cQ : ClassId} {cW : ClassId} {qk : Nat} {q1 : Nat} {q2 : Nat} {q4 : Nat} {q6 : Nat} {q7 : Nat} {w : Nat} {fr : Nat} {tt : Nat} {dn : Nat} {db : Nat} {gr : Int32} {mo : Int32} {xa : Int32} {xb : Int32} {nu : Int32} {op : Int32} {rd : Int32} {ra : Int32} {rb : Int32} {rn : Int32} {mk : Int32} {x : Int32} (hqk : qk < n) (ek : cs qk = .inr (3, [.ref (ad q2), .ref (ad q4), .ref (ad q6), .ref (ad q7), .int (nI w), .int gr, .int mo, .int xa, .int xb, .int (nI fr), .ref (ad q1), .int nu, .int (nI tt), .int (nI dn), .int (nI db)])) (hq1 : q1 < n) (e1 : cs q1 = .inr (1, [.int op, .int rd, .int ra, .int rb, .int rn, .int mk]))  : kw_ml l y_K_maskByte w_K_maskByte (kr 0) D kc (kt cI cB cJ cQ cW) ad n cs [.ref (ad qk), .int x] (fun r9 c9 => r9 = kv_K_maskByte mk x ∧ c9 = cs) := by
  refine kw_of (cc := b_K_maskByte) (maxL := 2) (ret := (some .long)) (by decide) rfl (Nat.le_of_ble_eq_true rfl) ?_
  intro p e s m below meth c ls hx hb hr hml hown hts hlocks hP hK hl
  have hg : ∀ w9 ∈ kg_G, w9.before [.ref (ad qk), .int x].toArray s = true := fun w9 h9 => hts w9 (List.mem_cons_of_mem _ h9)
  have hown : s.vm.findClass "LaneMachine$Work" = some m.cls := hown
  have hA : ∀ k, k < n → kw_A ad n (ad k) := fun k hk => ⟨k, hk, rfl⟩
  have hS : va_S (kw_A ad n) s.heap s.heap [] := va_S.rf
  have hl : lv_has ls 2 [(0, .ref (ad qk)), (1, .int x)] := hl
  refine lv_aload_n hx hb d_K_maskByte_0 rfl (lv_at hl 0 rfl) ?_
  refine kw_get hx hb hg in_K hown hK hP qk hqk ek rfl 10 (by decide) (hg _ kg_121) rfl rfl d_K_maskByte_1 ?_
  refine kw_get hx hb hg in_I hown hK hP q1 hq1 e1 rfl 5 (by decide) (hg _ kg_91) rfl rfl d_K_maskByte_4 ?_
  refine lv_if_eq (tgt := 19) hx hb d_K_maskByte_7 (by decide) (fun h1 => ?_) (fun h1 => ?_)
  · refine lv_lconst (v := 0) hx hb d_K_maskByte_19 (by decide) ?_
    exact kw_lret hx hb hr hlocks hP hK hS ⟨by rw [kv_K_maskByte, if_pos h1], rfl⟩ d_K_maskByte_20
  · refine lv_lconst (v := 1) hx hb d_K_maskByte_10 (by decide) ?_
    refine lv_iload_n hx hb d_K_maskByte_11 rfl (lv_at hl 1 rfl) ?_
    refine lv_bipush (v := 8) hx hb d_K_maskByte_12 (by decide) ?_
    refine lv_idiv hx hb d_K_maskByte_14 (by decide) ?_
    refine lv_lshl hx hb d_K_maskByte_15 rfl ?_
    refine lv_goto (tgt := 20) hx hb d_K_maskByte_16 (by decide) ?_
    exact kw_lret hx hb hr hlocks hP hK hS ⟨by rw [kv_K_maskByte, if_neg h1], rfl⟩ d_K_maskByte_20

def kv_K_isInGroup (mo : Int32) (x : Int32) : Int32 := if x < 0 then 0 else if mo ≤ x then 0 else 1
set_option maxRecDepth 100000 in
set_option maxHeartbeats 4000000 in
theorem c_K_isInGroup (l : Launch) {D : va_G} {ad : Nat → Nat} {n : Nat} {cs : Nat → va_E} {cI : ClassId} {cB : ClassId} {cJ : ClassId} {cQ : ClassId} {cW : ClassId} {qk : Nat} {q1 : Nat} {q2 : Nat} {q4 : Nat} {q6 : Nat} {q7 : Nat} {w : Nat} {fr : Nat} {tt : Nat} {dn : Nat} {db : Nat} {gr : Int32} {mo : Int32} {xa : Int32} {xb : Int32} {nu : Int32} {x : Int32} (hqk : qk < n) (ek : cs qk = .inr (3, [.ref (ad q2), .ref (ad q4), .ref (ad q6), .ref (ad q7), .int (nI w), .int gr, .int mo, .int xa, .int xb, .int (nI fr), .ref (ad q1), .int nu, .int (nI tt), .int (nI dn), .int (nI db)]))  : kw_mi l y_K_isInGroup w_K_isInGroup (kr 0) D kc (kt cI cB cJ cQ cW) ad n cs [.ref (ad qk), .int x] (fun r9 c9 => r9 = kv_K_isInGroup mo x ∧ c9 = cs) := by
  refine kw_of (cc := b_K_isInGroup) (maxL := 2) (ret := (some .boolean)) (by decide) rfl (Nat.le_of_ble_eq_true rfl) ?_
  intro p e s m below meth c ls hx hb hr hml hown hts hlocks hP hK hl
  have hg : ∀ w9 ∈ kg_G, w9.before [.ref (ad qk), .int x].toArray s = true := fun w9 h9 => hts w9 (List.mem_cons_of_mem _ h9)
  have hown : s.vm.findClass "LaneMachine$Work" = some m.cls := hown
  have hA : ∀ k, k < n → kw_A ad n (ad k) := fun k hk => ⟨k, hk, rfl⟩
  have hS : va_S (kw_A ad n) s.heap s.heap [] := va_S.rf
  have hl : lv_has ls 2 [(0, .ref (ad qk)), (1, .int x)] := hl
  refine lv_iload_n hx hb d_K_isInGroup_0 rfl (lv_at hl 1 rfl) ?_
  refine lv_if_lt (tgt := 16) hx hb d_K_isInGroup_1 (by decide) (fun h1 => ?_) (fun h1 => ?_)
  · refine lv_iconst (v := 0) hx hb d_K_isInGroup_16 (by decide) ?_
    exact kw_zret hx hb hr hlocks hP hK hS (Or.inl rfl) ⟨by rw [kv_K_isInGroup, if_pos h1], rfl⟩ d_K_isInGroup_17
  · refine lv_iload_n hx hb d_K_isInGroup_4 rfl (lv_at hl 1 rfl) ?_
    refine lv_aload_n hx hb d_K_isInGroup_5 rfl (lv_at hl 0 rfl) ?_
    refine kw_get hx hb hg in_K hown hK hP qk hqk ek rfl 6 (by decide) (hg _ kg_117) rfl rfl d_K_isInGroup_6 ?_
    refine lv_icmp_ge (tgt := 16) hx hb d_K_isInGroup_9 (by decide) (fun h2 => ?_) (fun h2 => ?_)
    · refine lv_iconst (v := 0) hx hb d_K_isInGroup_16 (by decide) ?_
      exact kw_zret hx hb hr hlocks hP hK hS (Or.inl rfl) ⟨by rw [kv_K_isInGroup, if_neg h1, if_pos h2], rfl⟩ d_K_isInGroup_17
    · refine lv_iconst (v := 1) hx hb d_K_isInGroup_12 (by decide) ?_
      refine lv_goto (tgt := 17) hx hb d_K_isInGroup_13 (by decide) ?_
      exact kw_zret hx hb hr hlocks hP hK hS (Or.inr rfl) ⟨by rw [kv_K_isInGroup, if_neg h1, if_neg h2], rfl⟩ d_K_isInGroup_17

def kv_K_sourcesOf (w : Nat) (gr : Int32) (mo : Int32) (xb : Int32) (op : Int32) (rd : Int32) (ra : Int32) (rb : Int32) (x : Int32) : Int64 := if op = 11 then (kv_K_span (kv_K_placeOf w ra x) (nI w)) else if op = 15 then (if (kv_K_isInGroup mo (x + xb)) = 0 then 0 else (kv_K_span (kv_K_placeOf w ra (x + xb)) (nI w))) else if op = 16 then ((kv_K_span (kv_K_placeOf w ra 0) (8 * gr)) ||| (kv_K_span (kv_K_placeOf w rb x) (nI w))) else if op = 17 then 0 else if op = 18 then (kv_K_span (kv_K_placeOf w rd x) (nI w)) else if op = 19 then (kv_K_span (kv_K_placeOf w rb x) (nI w)) else if op = 20 then 0 else ((kv_K_span (kv_K_placeOf w ra x) (nI w)) ||| (kv_K_span (kv_K_placeOf w rb x) (nI w)))
set_option maxRecDepth 100000 in
set_option maxHeartbeats 4000000 in
theorem c_K_sourcesOf (l : Launch) {D : va_G} {ad : Nat → Nat} {n : Nat} {cs : Nat → va_E} {cI : ClassId} {cB : ClassId} {cJ : ClassId} {cQ : ClassId} {cW : ClassId} {qk : Nat} {q1 : Nat} {q2 : Nat} {q4 : Nat} {q6 : Nat} {q7 : Nat} {w : Nat} {fr : Nat} {tt : Nat} {dn : Nat} {db : Nat} {gr : Int32} {mo : Int32} {xa : Int32} {xb : Int32} {nu : Int32} {op : Int32} {rd : Int32} {ra : Int32} {rb : Int32} {rn : Int32} {mk : Int32} {x : Int32} (hqk : qk < n) (ek : cs qk = .inr (3, [.ref (ad q2), .ref (ad q4), .ref (ad q6), .ref (ad q7), .int (nI w), .int gr, .int mo, .int xa, .int xb, .int (nI fr), .ref (ad q1), .int nu, .int (nI tt), .int (nI dn), .int (nI db)])) (hq1 : q1 < n) (e1 : cs q1 = .inr (1, [.int op, .int rd, .int ra, .int rb, .int rn, .int mk]))  : kw_ml l y_K_sourcesOf w_K_sourcesOf (kr 1) D kc (kt cI cB cJ cQ cW) ad n cs [.ref (ad qk), .int x] (fun r9 c9 => r9 = kv_K_sourcesOf w gr mo xb op rd ra rb x ∧ c9 = cs) := by
  refine kw_of (cc := b_K_sourcesOf) (maxL := 2) (ret := (some .long)) (by decide) rfl (Nat.le_of_ble_eq_true rfl) ?_
  intro p e s m below meth c ls hx hb hr hml hown hts hlocks hP hK hl
  have hg : ∀ w9 ∈ kg_G, w9.before [.ref (ad qk), .int x].toArray s = true := fun w9 h9 => hts w9 (List.mem_cons_of_mem _ h9)
  have hown : s.vm.findClass "LaneMachine$Work" = some m.cls := hown
  have hA : ∀ k, k < n → kw_A ad n (ad k) := fun k hk => ⟨k, hk, rfl⟩
  have hS : va_S (kw_A ad n) s.heap s.heap [] := va_S.rf
  have hl : lv_has ls 2 [(0, .ref (ad qk)), (1, .int x)] := hl
  refine lv_aload_n hx hb d_K_sourcesOf_0 rfl (lv_at hl 0 rfl) ?_
  refine kw_get hx hb hg in_K hown hK hP qk hqk ek rfl 10 (by decide) (hg _ kg_121) rfl rfl d_K_sourcesOf_1 ?_
  refine kw_get hx hb hg in_I hown hK hP q1 hq1 e1 rfl 0 (by decide) (hg _ kg_72) rfl rfl d_K_sourcesOf_4 ?_
  by_cases h1 : op = 11
  · refine lv_tableIn (tgt := 60) hx hb d_K_sourcesOf_7 (by rw [h1]; decide) (by rw [h1]; decide) (by rw [h1]; rfl) (by decide) ?_
    refine lv_aload_n hx hb d_K_sourcesOf_60 rfl (lv_at hl 0 rfl) ?_
    refine lv_aload_n hx hb d_K_sourcesOf_61 rfl (lv_at hl 0 rfl) ?_
    refine kw_get hx hb hg in_K hown hK hP qk hqk ek rfl 10 (by decide) (hg _ kg_121) rfl rfl d_K_sourcesOf_62 ?_
    refine kw_get hx hb hg in_I hown hK hP q1 hq1 e1 rfl 2 (by decide) (hg _ kg_81) rfl rfl d_K_sourcesOf_65 ?_
    refine lv_iload_n hx hb d_K_sourcesOf_68 rfl (lv_at hl 1 rfl) ?_
    refine kw_callix (kw_rV (As := [.int ra, .int x]) (rest := []) (q0 := qk) ⟨hx, hb, hml, hown, hg⟩ ⟨callB_of 2 hg (kg_goodG kg_394) rfl rfl rfl (hg _ kg_6) (hg _ kg_391) (by decide +kernel) ⟨by decide, by decide⟩, hg _ kg_393, hg _ (kg_sel (q := (y_K_placeOf, 15)) (by decide +kernel))⟩ (c_K_placeOf l hqk ek ) hK hP hqk ek rfl rfl hl.1 rfl (Nat.le_of_ble_eq_true rfl) d_K_sourcesOf_69 ⟨Nat.zero_le _, Nat.zero_le _⟩) hA hS (fun H locs hP hS => ?_)
    refine lv_aload_n hx hb d_K_sourcesOf_72 rfl (lv_at hl 0 rfl) ?_
    refine kw_get hx hb hg in_K hown hK hP qk hqk ek rfl 4 (by decide) (hg _ kg_115) rfl rfl d_K_sourcesOf_73 ?_
    refine kw_calllx (kw_rS (As := [.int (kv_K_placeOf w ra x), .int (nI w)]) (rest := []) ⟨hx, hb, hml, hown, hg⟩ ⟨callB_of 2 hg (kg_goodG kg_390) rfl rfl rfl (hg _ kg_6) (hg _ kg_388) (by decide +kernel) ⟨by decide, by decide⟩, hg _ kg_389⟩ (c_K_span l  ) hK hP rfl hl.1 rfl (Nat.le_of_ble_eq_true rfl) d_K_sourcesOf_76 ⟨Nat.zero_le _, Nat.zero_le _⟩) hA hS (fun H locs hP hS => ?_)
    exact kw_lret hx hb hr hlocks hP hK hS ⟨by rw [kv_K_sourcesOf, if_pos h1], rfl⟩ d_K_sourcesOf_79
  by_cases h2 : op = 15
  · refine lv_tableIn (tgt := 80) hx hb d_K_sourcesOf_7 (by rw [h2]; decide) (by rw [h2]; decide) (by rw [h2]; rfl) (by decide) ?_
    refine lv_aload_n hx hb d_K_sourcesOf_80 rfl (lv_at hl 0 rfl) ?_
    refine lv_iload_n hx hb d_K_sourcesOf_81 rfl (lv_at hl 1 rfl) ?_
    refine lv_aload_n hx hb d_K_sourcesOf_82 rfl (lv_at hl 0 rfl) ?_
    refine kw_get hx hb hg in_K hown hK hP qk hqk ek rfl 8 (by decide) (hg _ kg_119) rfl rfl d_K_sourcesOf_83 ?_
    refine lv_iadd hx hb d_K_sourcesOf_86 ?_
    refine kw_callix (kw_rV (As := [.int (x + xb)]) (rest := []) (q0 := qk) ⟨hx, hb, hml, hown, hg⟩ ⟨callB_of 1 hg (kg_goodG kg_414) rfl rfl rfl (hg _ kg_6) (hg _ kg_411) (by decide +kernel) ⟨by decide, by decide⟩, hg _ kg_413, hg _ (kg_sel (q := (y_K_isInGroup, 15)) (by decide +kernel))⟩ (c_K_isInGroup l hqk ek ) hK hP hqk ek rfl rfl hl.1 rfl (Nat.le_of_ble_eq_true rfl) d_K_sourcesOf_87 ⟨Nat.zero_le _, Nat.zero_le _⟩) hA hS (fun H locs hP hS => ?_)
    refine lv_if_eq (tgt := 120) hx hb d_K_sourcesOf_90 (by decide) (fun h3 => ?_) (fun h3 => ?_)
    · refine lv_lconst (v := 0) hx hb d_K_sourcesOf_120 (by decide) ?_
      exact kw_lret hx hb hr hlocks hP hK hS ⟨by rw [kv_K_sourcesOf, if_neg h1, if_pos h2, if_pos h3], rfl⟩ d_K_sourcesOf_121
    · refine lv_aload_n hx hb d_K_sourcesOf_93 rfl (lv_at hl 0 rfl) ?_
      refine lv_aload_n hx hb d_K_sourcesOf_94 rfl (lv_at hl 0 rfl) ?_
      refine kw_get hx hb hg in_K hown hK hP qk hqk ek rfl 10 (by decide) (hg _ kg_121) rfl rfl d_K_sourcesOf_95 ?_
      refine kw_get hx hb hg in_I hown hK hP q1 hq1 e1 rfl 2 (by decide) (hg _ kg_81) rfl rfl d_K_sourcesOf_98 ?_
      refine lv_iload_n hx hb d_K_sourcesOf_101 rfl (lv_at hl 1 rfl) ?_
      refine lv_aload_n hx hb d_K_sourcesOf_102 rfl (lv_at hl 0 rfl) ?_
      refine kw_get hx hb hg in_K hown hK hP qk hqk ek rfl 8 (by decide) (hg _ kg_119) rfl rfl d_K_sourcesOf_103 ?_
      refine lv_iadd hx hb d_K_sourcesOf_106 ?_
      refine kw_callix (kw_rV (As := [.int ra, .int (x + xb)]) (rest := []) (q0 := qk) ⟨hx, hb, hml, hown, hg⟩ ⟨callB_of 2 hg (kg_goodG kg_394) rfl rfl rfl (hg _ kg_6) (hg _ kg_391) (by decide +kernel) ⟨by decide, by decide⟩, hg _ kg_393, hg _ (kg_sel (q := (y_K_placeOf, 15)) (by decide +kernel))⟩ (c_K_placeOf l hqk ek ) hK hP hqk ek rfl rfl hl.1 rfl (Nat.le_of_ble_eq_true rfl) d_K_sourcesOf_107 ⟨Nat.zero_le _, Nat.zero_le _⟩) hA hS (fun H locs hP hS => ?_)
      refine lv_aload_n hx hb d_K_sourcesOf_110 rfl (lv_at hl 0 rfl) ?_
      refine kw_get hx hb hg in_K hown hK hP qk hqk ek rfl 4 (by decide) (hg _ kg_115) rfl rfl d_K_sourcesOf_111 ?_
      refine kw_calllx (kw_rS (As := [.int (kv_K_placeOf w ra (x + xb)), .int (nI w)]) (rest := []) ⟨hx, hb, hml, hown, hg⟩ ⟨callB_of 2 hg (kg_goodG kg_390) rfl rfl rfl (hg _ kg_6) (hg _ kg_388) (by decide +kernel) ⟨by decide, by decide⟩, hg _ kg_389⟩ (c_K_span l  ) hK hP rfl hl.1 rfl (Nat.le_of_ble_eq_true rfl) d_K_sourcesOf_114 ⟨Nat.zero_le _, Nat.zero_le _⟩) hA hS (fun H locs hP hS => ?_)
      refine lv_goto (tgt := 121) hx hb d_K_sourcesOf_117 (by decide) ?_
      exact kw_lret hx hb hr hlocks hP hK hS ⟨by rw [kv_K_sourcesOf, if_neg h1, if_pos h2, if_neg h3], rfl⟩ d_K_sourcesOf_121
  by_cases h4 : op = 16
  · refine lv_tableIn (tgt := 122) hx hb d_K_sourcesOf_7 (by rw [h4]; decide) (by rw [h4]; decide) (by rw [h4]; rfl) (by decide) ?_
    refine lv_aload_n hx hb d_K_sourcesOf_122 rfl (lv_at hl 0 rfl) ?_
    refine lv_aload_n hx hb d_K_sourcesOf_123 rfl (lv_at hl 0 rfl) ?_
    refine kw_get hx hb hg in_K hown hK hP qk hqk ek rfl 10 (by decide) (hg _ kg_121) rfl rfl d_K_sourcesOf_124 ?_
    refine kw_get hx hb hg in_I hown hK hP q1 hq1 e1 rfl 2 (by decide) (hg _ kg_81) rfl rfl d_K_sourcesOf_127 ?_
    refine lv_iconst (v := 0) hx hb d_K_sourcesOf_130 (by decide) ?_
    refine kw_callix (kw_rV (As := [.int ra, .int 0]) (rest := []) (q0 := qk) ⟨hx, hb, hml, hown, hg⟩ ⟨callB_of 2 hg (kg_goodG kg_394) rfl rfl rfl (hg _ kg_6) (hg _ kg_391) (by decide +kernel) ⟨by decide, by decide⟩, hg _ kg_393, hg _ (kg_sel (q := (y_K_placeOf, 15)) (by decide +kernel))⟩ (c_K_placeOf l hqk ek ) hK hP hqk ek rfl rfl hl.1 rfl (Nat.le_of_ble_eq_true rfl) d_K_sourcesOf_131 ⟨Nat.zero_le _, Nat.zero_le _⟩) hA hS (fun H locs hP hS => ?_)
    refine lv_bipush (v := 8) hx hb d_K_sourcesOf_134 (by decide) ?_
    refine lv_aload_n hx hb d_K_sourcesOf_136 rfl (lv_at hl 0 rfl) ?_
    refine kw_get hx hb hg in_K hown hK hP qk hqk ek rfl 5 (by decide) (hg _ kg_116) rfl rfl d_K_sourcesOf_137 ?_
    refine lv_imul hx hb d_K_sourcesOf_140 ?_
    refine kw_calllx (kw_rS (As := [.int (kv_K_placeOf w ra 0), .int (8 * gr)]) (rest := []) ⟨hx, hb, hml, hown, hg⟩ ⟨callB_of 2 hg (kg_goodG kg_390) rfl rfl rfl (hg _ kg_6) (hg _ kg_388) (by decide +kernel) ⟨by decide, by decide⟩, hg _ kg_389⟩ (c_K_span l  ) hK hP rfl hl.1 rfl (Nat.le_of_ble_eq_true rfl) d_K_sourcesOf_141 ⟨Nat.zero_le _, Nat.zero_le _⟩) hA hS (fun H locs hP hS => ?_)
    refine lv_aload_n hx hb d_K_sourcesOf_144 rfl (lv_at hl 0 rfl) ?_
    refine lv_aload_n hx hb d_K_sourcesOf_145 rfl (lv_at hl 0 rfl) ?_
    refine kw_get hx hb hg in_K hown hK hP qk hqk ek rfl 10 (by decide) (hg _ kg_121) rfl rfl d_K_sourcesOf_146 ?_
    refine kw_get hx hb hg in_I hown hK hP q1 hq1 e1 rfl 3 (by decide) (hg _ kg_85) rfl rfl d_K_sourcesOf_149 ?_
    refine lv_iload_n hx hb d_K_sourcesOf_152 rfl (lv_at hl 1 rfl) ?_
    refine kw_callix (kw_rV (As := [.int rb, .int x]) (rest := [.long (kv_K_span (kv_K_placeOf w ra 0) (8 * gr))]) (q0 := qk) ⟨hx, hb, hml, hown, hg⟩ ⟨callB_of 2 hg (kg_goodG kg_394) rfl rfl rfl (hg _ kg_6) (hg _ kg_391) (by decide +kernel) ⟨by decide, by decide⟩, hg _ kg_393, hg _ (kg_sel (q := (y_K_placeOf, 15)) (by decide +kernel))⟩ (c_K_placeOf l hqk ek ) hK hP hqk ek rfl rfl hl.1 rfl (Nat.le_of_ble_eq_true rfl) d_K_sourcesOf_153 ⟨Nat.zero_le _, Nat.zero_le _⟩) hA hS (fun H locs hP hS => ?_)
    refine lv_aload_n hx hb d_K_sourcesOf_156 rfl (lv_at hl 0 rfl) ?_
    refine kw_get hx hb hg in_K hown hK hP qk hqk ek rfl 4 (by decide) (hg _ kg_115) rfl rfl d_K_sourcesOf_157 ?_
    refine kw_calllx (kw_rS (As := [.int (kv_K_placeOf w rb x), .int (nI w)]) (rest := [.long (kv_K_span (kv_K_placeOf w ra 0) (8 * gr))]) ⟨hx, hb, hml, hown, hg⟩ ⟨callB_of 2 hg (kg_goodG kg_390) rfl rfl rfl (hg _ kg_6) (hg _ kg_388) (by decide +kernel) ⟨by decide, by decide⟩, hg _ kg_389⟩ (c_K_span l  ) hK hP rfl hl.1 rfl (Nat.le_of_ble_eq_true rfl) d_K_sourcesOf_160 ⟨Nat.zero_le _, Nat.zero_le _⟩) hA hS (fun H locs hP hS => ?_)
    refine lv_lor hx hb d_K_sourcesOf_163 ?_
    exact kw_lret hx hb hr hlocks hP hK hS ⟨by rw [kv_K_sourcesOf, if_neg h1, if_neg h2, if_pos h4], rfl⟩ d_K_sourcesOf_164
  by_cases h5 : op = 17
  · refine lv_tableIn (tgt := 205) hx hb d_K_sourcesOf_7 (by rw [h5]; decide) (by rw [h5]; decide) (by rw [h5]; rfl) (by decide) ?_
    refine lv_lconst (v := 0) hx hb d_K_sourcesOf_205 (by decide) ?_
    exact kw_lret hx hb hr hlocks hP hK hS ⟨by rw [kv_K_sourcesOf, if_neg h1, if_neg h2, if_neg h4, if_pos h5], rfl⟩ d_K_sourcesOf_206
  by_cases h6 : op = 18
  · refine lv_tableIn (tgt := 165) hx hb d_K_sourcesOf_7 (by rw [h6]; decide) (by rw [h6]; decide) (by rw [h6]; rfl) (by decide) ?_
    refine lv_aload_n hx hb d_K_sourcesOf_165 rfl (lv_at hl 0 rfl) ?_
    refine lv_aload_n hx hb d_K_sourcesOf_166 rfl (lv_at hl 0 rfl) ?_
    refine kw_get hx hb hg in_K hown hK hP qk hqk ek rfl 10 (by decide) (hg _ kg_121) rfl rfl d_K_sourcesOf_167 ?_
    refine kw_get hx hb hg in_I hown hK hP q1 hq1 e1 rfl 1 (by decide) (hg _ kg_77) rfl rfl d_K_sourcesOf_170 ?_
    refine lv_iload_n hx hb d_K_sourcesOf_173 rfl (lv_at hl 1 rfl) ?_
    refine kw_callix (kw_rV (As := [.int rd, .int x]) (rest := []) (q0 := qk) ⟨hx, hb, hml, hown, hg⟩ ⟨callB_of 2 hg (kg_goodG kg_394) rfl rfl rfl (hg _ kg_6) (hg _ kg_391) (by decide +kernel) ⟨by decide, by decide⟩, hg _ kg_393, hg _ (kg_sel (q := (y_K_placeOf, 15)) (by decide +kernel))⟩ (c_K_placeOf l hqk ek ) hK hP hqk ek rfl rfl hl.1 rfl (Nat.le_of_ble_eq_true rfl) d_K_sourcesOf_174 ⟨Nat.zero_le _, Nat.zero_le _⟩) hA hS (fun H locs hP hS => ?_)
    refine lv_aload_n hx hb d_K_sourcesOf_177 rfl (lv_at hl 0 rfl) ?_
    refine kw_get hx hb hg in_K hown hK hP qk hqk ek rfl 4 (by decide) (hg _ kg_115) rfl rfl d_K_sourcesOf_178 ?_
    refine kw_calllx (kw_rS (As := [.int (kv_K_placeOf w rd x), .int (nI w)]) (rest := []) ⟨hx, hb, hml, hown, hg⟩ ⟨callB_of 2 hg (kg_goodG kg_390) rfl rfl rfl (hg _ kg_6) (hg _ kg_388) (by decide +kernel) ⟨by decide, by decide⟩, hg _ kg_389⟩ (c_K_span l  ) hK hP rfl hl.1 rfl (Nat.le_of_ble_eq_true rfl) d_K_sourcesOf_181 ⟨Nat.zero_le _, Nat.zero_le _⟩) hA hS (fun H locs hP hS => ?_)
    exact kw_lret hx hb hr hlocks hP hK hS ⟨by rw [kv_K_sourcesOf, if_neg h1, if_neg h2, if_neg h4, if_neg h5, if_pos h6], rfl⟩ d_K_sourcesOf_184
  by_cases h7 : op = 19
  · refine lv_tableIn (tgt := 185) hx hb d_K_sourcesOf_7 (by rw [h7]; decide) (by rw [h7]; decide) (by rw [h7]; rfl) (by decide) ?_
    refine lv_aload_n hx hb d_K_sourcesOf_185 rfl (lv_at hl 0 rfl) ?_
    refine lv_aload_n hx hb d_K_sourcesOf_186 rfl (lv_at hl 0 rfl) ?_
    refine kw_get hx hb hg in_K hown hK hP qk hqk ek rfl 10 (by decide) (hg _ kg_121) rfl rfl d_K_sourcesOf_187 ?_
    refine kw_get hx hb hg in_I hown hK hP q1 hq1 e1 rfl 3 (by decide) (hg _ kg_85) rfl rfl d_K_sourcesOf_190 ?_
    refine lv_iload_n hx hb d_K_sourcesOf_193 rfl (lv_at hl 1 rfl) ?_
    refine kw_callix (kw_rV (As := [.int rb, .int x]) (rest := []) (q0 := qk) ⟨hx, hb, hml, hown, hg⟩ ⟨callB_of 2 hg (kg_goodG kg_394) rfl rfl rfl (hg _ kg_6) (hg _ kg_391) (by decide +kernel) ⟨by decide, by decide⟩, hg _ kg_393, hg _ (kg_sel (q := (y_K_placeOf, 15)) (by decide +kernel))⟩ (c_K_placeOf l hqk ek ) hK hP hqk ek rfl rfl hl.1 rfl (Nat.le_of_ble_eq_true rfl) d_K_sourcesOf_194 ⟨Nat.zero_le _, Nat.zero_le _⟩) hA hS (fun H locs hP hS => ?_)
    refine lv_aload_n hx hb d_K_sourcesOf_197 rfl (lv_at hl 0 rfl) ?_
    refine kw_get hx hb hg in_K hown hK hP qk hqk ek rfl 4 (by decide) (hg _ kg_115) rfl rfl d_K_sourcesOf_198 ?_
    refine kw_calllx (kw_rS (As := [.int (kv_K_placeOf w rb x), .int (nI w)]) (rest := []) ⟨hx, hb, hml, hown, hg⟩ ⟨callB_of 2 hg (kg_goodG kg_390) rfl rfl rfl (hg _ kg_6) (hg _ kg_388) (by decide +kernel) ⟨by decide, by decide⟩, hg _ kg_389⟩ (c_K_span l  ) hK hP rfl hl.1 rfl (Nat.le_of_ble_eq_true rfl) d_K_sourcesOf_201 ⟨Nat.zero_le _, Nat.zero_le _⟩) hA hS (fun H locs hP hS => ?_)
    exact kw_lret hx hb hr hlocks hP hK hS ⟨by rw [kv_K_sourcesOf, if_neg h1, if_neg h2, if_neg h4, if_neg h5, if_neg h6, if_pos h7], rfl⟩ d_K_sourcesOf_204
  by_cases h8 : op = 20
  · refine lv_tableIn (tgt := 205) hx hb d_K_sourcesOf_7 (by rw [h8]; decide) (by rw [h8]; decide) (by rw [h8]; rfl) (by decide) ?_
    refine lv_lconst (v := 0) hx hb d_K_sourcesOf_205 (by decide) ?_
    exact kw_lret hx hb hr hlocks hP hK hS ⟨by rw [kv_K_sourcesOf, if_neg h1, if_neg h2, if_neg h4, if_neg h5, if_neg h6, if_neg h7, if_pos h8], rfl⟩ d_K_sourcesOf_206
  refine kw_tbl (tgt := 207) (N := 10) hx hb d_K_sourcesOf_7 rfl (by decide) (fun i hi => match i, hi with | 0, _ => Or.inr (lv_neT h1 rfl) | 1, _ => Or.inl rfl | 2, _ => Or.inl rfl | 3, _ => Or.inl rfl | 4, _ => Or.inr (lv_neT h2 rfl) | 5, _ => Or.inr (lv_neT h4 rfl) | 6, _ => Or.inr (lv_neT h5 rfl) | 7, _ => Or.inr (lv_neT h6 rfl) | 8, _ => Or.inr (lv_neT h7 rfl) | 9, _ => Or.inr (lv_neT h8 rfl) | z + 10, h => absurd h (by omega)) ?_
  refine lv_aload_n hx hb d_K_sourcesOf_207 rfl (lv_at hl 0 rfl) ?_
  refine lv_aload_n hx hb d_K_sourcesOf_208 rfl (lv_at hl 0 rfl) ?_
  refine kw_get hx hb hg in_K hown hK hP qk hqk ek rfl 10 (by decide) (hg _ kg_121) rfl rfl d_K_sourcesOf_209 ?_
  refine kw_get hx hb hg in_I hown hK hP q1 hq1 e1 rfl 2 (by decide) (hg _ kg_81) rfl rfl d_K_sourcesOf_212 ?_
  refine lv_iload_n hx hb d_K_sourcesOf_215 rfl (lv_at hl 1 rfl) ?_
  refine kw_callix (kw_rV (As := [.int ra, .int x]) (rest := []) (q0 := qk) ⟨hx, hb, hml, hown, hg⟩ ⟨callB_of 2 hg (kg_goodG kg_394) rfl rfl rfl (hg _ kg_6) (hg _ kg_391) (by decide +kernel) ⟨by decide, by decide⟩, hg _ kg_393, hg _ (kg_sel (q := (y_K_placeOf, 15)) (by decide +kernel))⟩ (c_K_placeOf l hqk ek ) hK hP hqk ek rfl rfl hl.1 rfl (Nat.le_of_ble_eq_true rfl) d_K_sourcesOf_216 ⟨Nat.zero_le _, Nat.zero_le _⟩) hA hS (fun H locs hP hS => ?_)
  refine lv_aload_n hx hb d_K_sourcesOf_219 rfl (lv_at hl 0 rfl) ?_
  refine kw_get hx hb hg in_K hown hK hP qk hqk ek rfl 4 (by decide) (hg _ kg_115) rfl rfl d_K_sourcesOf_220 ?_
  refine kw_calllx (kw_rS (As := [.int (kv_K_placeOf w ra x), .int (nI w)]) (rest := []) ⟨hx, hb, hml, hown, hg⟩ ⟨callB_of 2 hg (kg_goodG kg_390) rfl rfl rfl (hg _ kg_6) (hg _ kg_388) (by decide +kernel) ⟨by decide, by decide⟩, hg _ kg_389⟩ (c_K_span l  ) hK hP rfl hl.1 rfl (Nat.le_of_ble_eq_true rfl) d_K_sourcesOf_223 ⟨Nat.zero_le _, Nat.zero_le _⟩) hA hS (fun H locs hP hS => ?_)
  refine lv_aload_n hx hb d_K_sourcesOf_226 rfl (lv_at hl 0 rfl) ?_
  refine lv_aload_n hx hb d_K_sourcesOf_227 rfl (lv_at hl 0 rfl) ?_
  refine kw_get hx hb hg in_K hown hK hP qk hqk ek rfl 10 (by decide) (hg _ kg_121) rfl rfl d_K_sourcesOf_228 ?_
  refine kw_get hx hb hg in_I hown hK hP q1 hq1 e1 rfl 3 (by decide) (hg _ kg_85) rfl rfl d_K_sourcesOf_231 ?_
  refine lv_iload_n hx hb d_K_sourcesOf_234 rfl (lv_at hl 1 rfl) ?_
  refine kw_callix (kw_rV (As := [.int rb, .int x]) (rest := [.long (kv_K_span (kv_K_placeOf w ra x) (nI w))]) (q0 := qk) ⟨hx, hb, hml, hown, hg⟩ ⟨callB_of 2 hg (kg_goodG kg_394) rfl rfl rfl (hg _ kg_6) (hg _ kg_391) (by decide +kernel) ⟨by decide, by decide⟩, hg _ kg_393, hg _ (kg_sel (q := (y_K_placeOf, 15)) (by decide +kernel))⟩ (c_K_placeOf l hqk ek ) hK hP hqk ek rfl rfl hl.1 rfl (Nat.le_of_ble_eq_true rfl) d_K_sourcesOf_235 ⟨Nat.zero_le _, Nat.zero_le _⟩) hA hS (fun H locs hP hS => ?_)
  refine lv_aload_n hx hb d_K_sourcesOf_238 rfl (lv_at hl 0 rfl) ?_
  refine kw_get hx hb hg in_K hown hK hP qk hqk ek rfl 4 (by decide) (hg _ kg_115) rfl rfl d_K_sourcesOf_239 ?_
  refine kw_calllx (kw_rS (As := [.int (kv_K_placeOf w rb x), .int (nI w)]) (rest := [.long (kv_K_span (kv_K_placeOf w ra x) (nI w))]) ⟨hx, hb, hml, hown, hg⟩ ⟨callB_of 2 hg (kg_goodG kg_390) rfl rfl rfl (hg _ kg_6) (hg _ kg_388) (by decide +kernel) ⟨by decide, by decide⟩, hg _ kg_389⟩ (c_K_span l  ) hK hP rfl hl.1 rfl (Nat.le_of_ble_eq_true rfl) d_K_sourcesOf_242 ⟨Nat.zero_le _, Nat.zero_le _⟩) hA hS (fun H locs hP hS => ?_)
  refine lv_lor hx hb d_K_sourcesOf_245 ?_
  exact kw_lret hx hb hr hlocks hP hK hS ⟨by rw [kv_K_sourcesOf, if_neg h1, if_neg h2, if_neg h4, if_neg h5, if_neg h6, if_neg h7, if_neg h8], rfl⟩ d_K_sourcesOf_246

def kv_K_writesOf (w : Nat) (fr : Nat) (op : Int32) (rd : Int32) (x : Int32) : Int64 := if op = 12 then (kv_K_span ((8 * rd) + (((nI fr) + x) / 8)) 1) else if op = 13 then (kv_K_span ((8 * rd) + ((2 * ((nI fr) + x)) * (nI w))) (2 * (nI w))) else if op = 14 then (kv_K_span (kv_K_placeOf w rd 0) (nI w)) else if op = 18 then 0 else (kv_K_span (kv_K_placeOf w rd ((nI fr) + x)) (nI w))
set_option maxRecDepth 100000 in
set_option maxHeartbeats 4000000 in
theorem c_K_writesOf (l : Launch) {D : va_G} {ad : Nat → Nat} {n : Nat} {cs : Nat → va_E} {cI : ClassId} {cB : ClassId} {cJ : ClassId} {cQ : ClassId} {cW : ClassId} {qk : Nat} {q1 : Nat} {q2 : Nat} {q4 : Nat} {q6 : Nat} {q7 : Nat} {w : Nat} {fr : Nat} {tt : Nat} {dn : Nat} {db : Nat} {gr : Int32} {mo : Int32} {xa : Int32} {xb : Int32} {nu : Int32} {op : Int32} {rd : Int32} {ra : Int32} {rb : Int32} {rn : Int32} {mk : Int32} {x : Int32} (hqk : qk < n) (ek : cs qk = .inr (3, [.ref (ad q2), .ref (ad q4), .ref (ad q6), .ref (ad q7), .int (nI w), .int gr, .int mo, .int xa, .int xb, .int (nI fr), .ref (ad q1), .int nu, .int (nI tt), .int (nI dn), .int (nI db)])) (hq1 : q1 < n) (e1 : cs q1 = .inr (1, [.int op, .int rd, .int ra, .int rb, .int rn, .int mk]))  : kw_ml l y_K_writesOf w_K_writesOf (kr 1) D kc (kt cI cB cJ cQ cW) ad n cs [.ref (ad qk), .int x] (fun r9 c9 => r9 = kv_K_writesOf w fr op rd x ∧ c9 = cs) := by
  refine kw_of (cc := b_K_writesOf) (maxL := 3) (ret := (some .long)) (by decide) rfl (Nat.le_of_ble_eq_true rfl) ?_
  intro p e s m below meth c ls hx hb hr hml hown hts hlocks hP hK hl
  have hg : ∀ w9 ∈ kg_G, w9.before [.ref (ad qk), .int x].toArray s = true := fun w9 h9 => hts w9 (List.mem_cons_of_mem _ h9)
  have hown : s.vm.findClass "LaneMachine$Work" = some m.cls := hown
  have hA : ∀ k, k < n → kw_A ad n (ad k) := fun k hk => ⟨k, hk, rfl⟩
  have hS : va_S (kw_A ad n) s.heap s.heap [] := va_S.rf
  have hl : lv_has ls 3 [(0, .ref (ad qk)), (1, .int x)] := hl
  refine lv_aload_n hx hb d_K_writesOf_0 rfl (lv_at hl 0 rfl) ?_
  refine kw_get hx hb hg in_K hown hK hP qk hqk ek rfl 9 (by decide) (hg _ kg_120) rfl rfl d_K_writesOf_1 ?_
  refine lv_iload_n hx hb d_K_writesOf_4 rfl (lv_at hl 1 rfl) ?_
  refine lv_iadd hx hb d_K_writesOf_5 ?_
  refine lv_istore_n (lv' := [(2, .int ((nI fr) + x)), (0, .ref (ad qk)), (1, .int x)]) hx hb d_K_writesOf_6 rfl hl (by decide) rfl (fun ls hl => ?_)
  refine lv_aload_n hx hb d_K_writesOf_7 rfl (lv_at hl 1 rfl) ?_
  refine kw_get hx hb hg in_K hown hK hP qk hqk ek rfl 10 (by decide) (hg _ kg_121) rfl rfl d_K_writesOf_8 ?_
  refine kw_get hx hb hg in_I hown hK hP q1 hq1 e1 rfl 0 (by decide) (hg _ kg_72) rfl rfl d_K_writesOf_11 ?_
  by_cases h1 : op = 12
  · refine lv_tableIn (tgt := 56) hx hb d_K_writesOf_14 (by rw [h1]; decide) (by rw [h1]; decide) (by rw [h1]; rfl) (by decide) ?_
    refine lv_bipush (v := 8) hx hb d_K_writesOf_56 (by decide) ?_
    refine lv_aload_n hx hb d_K_writesOf_58 rfl (lv_at hl 1 rfl) ?_
    refine kw_get hx hb hg in_K hown hK hP qk hqk ek rfl 10 (by decide) (hg _ kg_121) rfl rfl d_K_writesOf_59 ?_
    refine kw_get hx hb hg in_I hown hK hP q1 hq1 e1 rfl 1 (by decide) (hg _ kg_77) rfl rfl d_K_writesOf_62 ?_
    refine lv_imul hx hb d_K_writesOf_65 ?_
    refine lv_iload_n hx hb d_K_writesOf_66 rfl (lv_at hl 0 rfl) ?_
    refine lv_bipush (v := 8) hx hb d_K_writesOf_67 (by decide) ?_
    refine lv_idiv hx hb d_K_writesOf_69 (by decide) ?_
    refine lv_iadd hx hb d_K_writesOf_70 ?_
    refine lv_iconst (v := 1) hx hb d_K_writesOf_71 (by decide) ?_
    refine kw_calllx (kw_rS (As := [.int ((8 * rd) + (((nI fr) + x) / 8)), .int 1]) (rest := []) ⟨hx, hb, hml, hown, hg⟩ ⟨callB_of 2 hg (kg_goodG kg_390) rfl rfl rfl (hg _ kg_6) (hg _ kg_388) (by decide +kernel) ⟨by decide, by decide⟩, hg _ kg_389⟩ (c_K_span l  ) hK hP rfl hl.1 rfl (Nat.le_of_ble_eq_true rfl) d_K_writesOf_72 ⟨Nat.zero_le _, Nat.zero_le _⟩) hA hS (fun H locs hP hS => ?_)
    exact kw_lret hx hb hr hlocks hP hK hS ⟨by rw [kv_K_writesOf, if_pos h1], rfl⟩ d_K_writesOf_75
  by_cases h2 : op = 13
  · refine lv_tableIn (tgt := 76) hx hb d_K_writesOf_14 (by rw [h2]; decide) (by rw [h2]; decide) (by rw [h2]; rfl) (by decide) ?_
    refine lv_bipush (v := 8) hx hb d_K_writesOf_76 (by decide) ?_
    refine lv_aload_n hx hb d_K_writesOf_78 rfl (lv_at hl 1 rfl) ?_
    refine kw_get hx hb hg in_K hown hK hP qk hqk ek rfl 10 (by decide) (hg _ kg_121) rfl rfl d_K_writesOf_79 ?_
    refine kw_get hx hb hg in_I hown hK hP q1 hq1 e1 rfl 1 (by decide) (hg _ kg_77) rfl rfl d_K_writesOf_82 ?_
    refine lv_imul hx hb d_K_writesOf_85 ?_
    refine lv_iconst (v := 2) hx hb d_K_writesOf_86 (by decide) ?_
    refine lv_iload_n hx hb d_K_writesOf_87 rfl (lv_at hl 0 rfl) ?_
    refine lv_imul hx hb d_K_writesOf_88 ?_
    refine lv_aload_n hx hb d_K_writesOf_89 rfl (lv_at hl 1 rfl) ?_
    refine kw_get hx hb hg in_K hown hK hP qk hqk ek rfl 4 (by decide) (hg _ kg_115) rfl rfl d_K_writesOf_90 ?_
    refine lv_imul hx hb d_K_writesOf_93 ?_
    refine lv_iadd hx hb d_K_writesOf_94 ?_
    refine lv_iconst (v := 2) hx hb d_K_writesOf_95 (by decide) ?_
    refine lv_aload_n hx hb d_K_writesOf_96 rfl (lv_at hl 1 rfl) ?_
    refine kw_get hx hb hg in_K hown hK hP qk hqk ek rfl 4 (by decide) (hg _ kg_115) rfl rfl d_K_writesOf_97 ?_
    refine lv_imul hx hb d_K_writesOf_100 ?_
    refine kw_calllx (kw_rS (As := [.int ((8 * rd) + ((2 * ((nI fr) + x)) * (nI w))), .int (2 * (nI w))]) (rest := []) ⟨hx, hb, hml, hown, hg⟩ ⟨callB_of 2 hg (kg_goodG kg_390) rfl rfl rfl (hg _ kg_6) (hg _ kg_388) (by decide +kernel) ⟨by decide, by decide⟩, hg _ kg_389⟩ (c_K_span l  ) hK hP rfl hl.1 rfl (Nat.le_of_ble_eq_true rfl) d_K_writesOf_101 ⟨Nat.zero_le _, Nat.zero_le _⟩) hA hS (fun H locs hP hS => ?_)
    exact kw_lret hx hb hr hlocks hP hK hS ⟨by rw [kv_K_writesOf, if_neg h1, if_pos h2], rfl⟩ d_K_writesOf_104
  by_cases h3 : op = 14
  · refine lv_tableIn (tgt := 105) hx hb d_K_writesOf_14 (by rw [h3]; decide) (by rw [h3]; decide) (by rw [h3]; rfl) (by decide) ?_
    refine lv_aload_n hx hb d_K_writesOf_105 rfl (lv_at hl 1 rfl) ?_
    refine lv_aload_n hx hb d_K_writesOf_106 rfl (lv_at hl 1 rfl) ?_
    refine kw_get hx hb hg in_K hown hK hP qk hqk ek rfl 10 (by decide) (hg _ kg_121) rfl rfl d_K_writesOf_107 ?_
    refine kw_get hx hb hg in_I hown hK hP q1 hq1 e1 rfl 1 (by decide) (hg _ kg_77) rfl rfl d_K_writesOf_110 ?_
    refine lv_iconst (v := 0) hx hb d_K_writesOf_113 (by decide) ?_
    refine kw_callix (kw_rV (As := [.int rd, .int 0]) (rest := []) (q0 := qk) ⟨hx, hb, hml, hown, hg⟩ ⟨callB_of 2 hg (kg_goodG kg_394) rfl rfl rfl (hg _ kg_6) (hg _ kg_391) (by decide +kernel) ⟨by decide, by decide⟩, hg _ kg_393, hg _ (kg_sel (q := (y_K_placeOf, 15)) (by decide +kernel))⟩ (c_K_placeOf l hqk ek ) hK hP hqk ek rfl rfl hl.1 rfl (Nat.le_of_ble_eq_true rfl) d_K_writesOf_114 ⟨Nat.zero_le _, Nat.zero_le _⟩) hA hS (fun H locs hP hS => ?_)
    refine lv_aload_n hx hb d_K_writesOf_117 rfl (lv_at hl 1 rfl) ?_
    refine kw_get hx hb hg in_K hown hK hP qk hqk ek rfl 4 (by decide) (hg _ kg_115) rfl rfl d_K_writesOf_118 ?_
    refine kw_calllx (kw_rS (As := [.int (kv_K_placeOf w rd 0), .int (nI w)]) (rest := []) ⟨hx, hb, hml, hown, hg⟩ ⟨callB_of 2 hg (kg_goodG kg_390) rfl rfl rfl (hg _ kg_6) (hg _ kg_388) (by decide +kernel) ⟨by decide, by decide⟩, hg _ kg_389⟩ (c_K_span l  ) hK hP rfl hl.1 rfl (Nat.le_of_ble_eq_true rfl) d_K_writesOf_121 ⟨Nat.zero_le _, Nat.zero_le _⟩) hA hS (fun H locs hP hS => ?_)
    exact kw_lret hx hb hr hlocks hP hK hS ⟨by rw [kv_K_writesOf, if_neg h1, if_neg h2, if_pos h3], rfl⟩ d_K_writesOf_124
  by_cases h4 : op = 18
  · refine lv_tableIn (tgt := 125) hx hb d_K_writesOf_14 (by rw [h4]; decide) (by rw [h4]; decide) (by rw [h4]; rfl) (by decide) ?_
    refine lv_lconst (v := 0) hx hb d_K_writesOf_125 (by decide) ?_
    exact kw_lret hx hb hr hlocks hP hK hS ⟨by rw [kv_K_writesOf, if_neg h1, if_neg h2, if_neg h3, if_pos h4], rfl⟩ d_K_writesOf_126
  refine kw_tbl (tgt := 127) (N := 7) hx hb d_K_writesOf_14 rfl (by decide) (fun i hi => match i, hi with | 0, _ => Or.inr (lv_neT h1 rfl) | 1, _ => Or.inr (lv_neT h2 rfl) | 2, _ => Or.inr (lv_neT h3 rfl) | 3, _ => Or.inl rfl | 4, _ => Or.inl rfl | 5, _ => Or.inl rfl | 6, _ => Or.inr (lv_neT h4 rfl) | z + 7, h => absurd h (by omega)) ?_
  refine lv_aload_n hx hb d_K_writesOf_127 rfl (lv_at hl 1 rfl) ?_
  refine lv_aload_n hx hb d_K_writesOf_128 rfl (lv_at hl 1 rfl) ?_
  refine kw_get hx hb hg in_K hown hK hP qk hqk ek rfl 10 (by decide) (hg _ kg_121) rfl rfl d_K_writesOf_129 ?_
  refine kw_get hx hb hg in_I hown hK hP q1 hq1 e1 rfl 1 (by decide) (hg _ kg_77) rfl rfl d_K_writesOf_132 ?_
  refine lv_iload_n hx hb d_K_writesOf_135 rfl (lv_at hl 0 rfl) ?_
  refine kw_callix (kw_rV (As := [.int rd, .int ((nI fr) + x)]) (rest := []) (q0 := qk) ⟨hx, hb, hml, hown, hg⟩ ⟨callB_of 2 hg (kg_goodG kg_394) rfl rfl rfl (hg _ kg_6) (hg _ kg_391) (by decide +kernel) ⟨by decide, by decide⟩, hg _ kg_393, hg _ (kg_sel (q := (y_K_placeOf, 15)) (by decide +kernel))⟩ (c_K_placeOf l hqk ek ) hK hP hqk ek rfl rfl hl.1 rfl (Nat.le_of_ble_eq_true rfl) d_K_writesOf_136 ⟨Nat.zero_le _, Nat.zero_le _⟩) hA hS (fun H locs hP hS => ?_)
  refine lv_aload_n hx hb d_K_writesOf_139 rfl (lv_at hl 1 rfl) ?_
  refine kw_get hx hb hg in_K hown hK hP qk hqk ek rfl 4 (by decide) (hg _ kg_115) rfl rfl d_K_writesOf_140 ?_
  refine kw_calllx (kw_rS (As := [.int (kv_K_placeOf w rd ((nI fr) + x)), .int (nI w)]) (rest := []) ⟨hx, hb, hml, hown, hg⟩ ⟨callB_of 2 hg (kg_goodG kg_390) rfl rfl rfl (hg _ kg_6) (hg _ kg_388) (by decide +kernel) ⟨by decide, by decide⟩, hg _ kg_389⟩ (c_K_span l  ) hK hP rfl hl.1 rfl (Nat.le_of_ble_eq_true rfl) d_K_writesOf_143 ⟨Nat.zero_le _, Nat.zero_le _⟩) hA hS (fun H locs hP hS => ?_)
  exact kw_lret hx hb hr hlocks hP hK hS ⟨by rw [kv_K_writesOf, if_neg h1, if_neg h2, if_neg h3, if_neg h4], rfl⟩ d_K_writesOf_146

def kv_K_element (w : Nat) (f : Nat → Int32) (x : Int32) (y : Int32) : Int32 := kv_B_number 64 w (kv_K_placeOf w x y) f
set_option maxRecDepth 100000 in
set_option maxHeartbeats 4000000 in
theorem c_K_element (l : Launch) {D : va_G} {ad : Nat → Nat} {n : Nat} {cs : Nat → va_E} {cI : ClassId} {cB : ClassId} {cJ : ClassId} {cQ : ClassId} {cW : ClassId} {qk : Nat} {q1 : Nat} {q2 : Nat} {q3 : Nat} {q4 : Nat} {q6 : Nat} {q7 : Nat} {w : Nat} {fr : Nat} {tt : Nat} {dn : Nat} {db : Nat} {gr : Int32} {mo : Int32} {xa : Int32} {xb : Int32} {nu : Int32} {op : Int32} {rd : Int32} {ra : Int32} {rb : Int32} {rn : Int32} {mk : Int32} {f : Nat → Int32} {x : Int32} {y : Int32} (hqk : qk < n) (ek : cs qk = .inr (3, [.ref (ad q2), .ref (ad q4), .ref (ad q6), .ref (ad q7), .int (nI w), .int gr, .int mo, .int xa, .int xb, .int (nI fr), .ref (ad q1), .int nu, .int (nI tt), .int (nI dn), .int (nI db)])) (hq1 : q1 < n) (e1 : cs q1 = .inr (1, [.int op, .int rd, .int ra, .int rb, .int rn, .int mk])) (hq2 : q2 < n) (e2 : cs q2 = .inr (0, [.ref (ad q3)])) (hq3 : q3 < n) (e3 : cs q3 = .inl (cB, 64, .inl (f))) (hw : w ≤ 64) : kw_mi l y_K_element w_K_element (kr 2) D kc (kt cI cB cJ cQ cW) ad n cs [.ref (ad qk), .int x, .int y] (fun r9 c9 => r9 = kv_K_element w f x y ∧ c9 = cs) := by
  refine kw_of (cc := b_K_element) (maxL := 3) (ret := (some .int)) (by decide) rfl (Nat.le_of_ble_eq_true rfl) ?_
  intro p e s m below meth c ls hx hb hr hml hown hts hlocks hP hK hl
  have hg : ∀ w9 ∈ kg_G, w9.before [.ref (ad qk), .int x, .int y].toArray s = true := fun w9 h9 => hts w9 (List.mem_cons_of_mem _ h9)
  have hown : s.vm.findClass "LaneMachine$Work" = some m.cls := hown
  have hA : ∀ k, k < n → kw_A ad n (ad k) := fun k hk => ⟨k, hk, rfl⟩
  have hS : va_S (kw_A ad n) s.heap s.heap [] := va_S.rf
  have hl : lv_has ls 3 [(0, .ref (ad qk)), (1, .int x), (2, .int y)] := hl
  refine lv_aload_n hx hb d_K_element_0 rfl (lv_at hl 0 rfl) ?_
  refine kw_get hx hb hg in_K hown hK hP qk hqk ek rfl 0 (by decide) (hg _ kg_111) rfl rfl d_K_element_1 ?_
  refine lv_aload_n hx hb d_K_element_4 rfl (lv_at hl 0 rfl) ?_
  refine lv_iload_n hx hb d_K_element_5 rfl (lv_at hl 1 rfl) ?_
  refine lv_iload_n hx hb d_K_element_6 rfl (lv_at hl 2 rfl) ?_
  refine kw_callix (kw_rV (As := [.int x, .int y]) (rest := [.ref (ad q2)]) (q0 := qk) ⟨hx, hb, hml, hown, hg⟩ ⟨callB_of 2 hg (kg_goodG kg_394) rfl rfl rfl (hg _ kg_6) (hg _ kg_391) (by decide +kernel) ⟨by decide, by decide⟩, hg _ kg_393, hg _ (kg_sel (q := (y_K_placeOf, 15)) (by decide +kernel))⟩ (c_K_placeOf l hqk ek ) hK hP hqk ek rfl rfl hl.1 rfl (Nat.le_of_ble_eq_true rfl) d_K_element_7 ⟨Nat.zero_le _, Nat.zero_le _⟩) hA hS (fun H locs hP hS => ?_)
  refine lv_aload_n hx hb d_K_element_10 rfl (lv_at hl 0 rfl) ?_
  refine kw_get hx hb hg in_K hown hK hP qk hqk ek rfl 4 (by decide) (hg _ kg_115) rfl rfl d_K_element_11 ?_
  refine kw_callix (kw_rV (As := [.int (kv_K_placeOf w x y), .int (nI w)]) (rest := []) (q0 := q2) ⟨hx, hb, hml, hown, hg⟩ ⟨callB_of 2 hg (kg_goodG kg_216) rfl rfl rfl (hg _ kg_3) (hg _ kg_432) (by decide +kernel) ⟨by decide, by decide⟩, hg _ kg_214, hg _ kg_215⟩ (c_B_number l hq2 e2 hq3 e3 hw (by decide) ) hK hP hq2 e2 rfl rfl hl.1 rfl (Nat.le_of_ble_eq_true rfl) d_K_element_14 ⟨Nat.zero_le _, Nat.zero_le _⟩) hA hS (fun H locs hP hS => ?_)
  exact kw_iret hx hb hr hlocks hP hK hS ⟨by rw [kv_K_element], rfl⟩ d_K_element_17

def kv_K_elementOrZero (w : Nat) (mo : Int32) (f : Nat → Int32) (x : Int32) (y : Int32) : Int32 := if (kv_K_isInGroup mo y) = 0 then 0 else (kv_B_number 64 w (kv_K_placeOf w x y) f)
set_option maxRecDepth 100000 in
set_option maxHeartbeats 4000000 in
theorem c_K_elementOrZero (l : Launch) {D : va_G} {ad : Nat → Nat} {n : Nat} {cs : Nat → va_E} {cI : ClassId} {cB : ClassId} {cJ : ClassId} {cQ : ClassId} {cW : ClassId} {qk : Nat} {q1 : Nat} {q2 : Nat} {q3 : Nat} {q4 : Nat} {q6 : Nat} {q7 : Nat} {w : Nat} {fr : Nat} {tt : Nat} {dn : Nat} {db : Nat} {gr : Int32} {mo : Int32} {xa : Int32} {xb : Int32} {nu : Int32} {op : Int32} {rd : Int32} {ra : Int32} {rb : Int32} {rn : Int32} {mk : Int32} {f : Nat → Int32} {x : Int32} {y : Int32} (hqk : qk < n) (ek : cs qk = .inr (3, [.ref (ad q2), .ref (ad q4), .ref (ad q6), .ref (ad q7), .int (nI w), .int gr, .int mo, .int xa, .int xb, .int (nI fr), .ref (ad q1), .int nu, .int (nI tt), .int (nI dn), .int (nI db)])) (hq1 : q1 < n) (e1 : cs q1 = .inr (1, [.int op, .int rd, .int ra, .int rb, .int rn, .int mk])) (hq2 : q2 < n) (e2 : cs q2 = .inr (0, [.ref (ad q3)])) (hq3 : q3 < n) (e3 : cs q3 = .inl (cB, 64, .inl (f))) (hw : w ≤ 64) : kw_mi l y_K_elementOrZero w_K_elementOrZero (kr 2) D kc (kt cI cB cJ cQ cW) ad n cs [.ref (ad qk), .int x, .int y] (fun r9 c9 => r9 = kv_K_elementOrZero w mo f x y ∧ c9 = cs) := by
  refine kw_of (cc := b_K_elementOrZero) (maxL := 3) (ret := (some .int)) (by decide) rfl (Nat.le_of_ble_eq_true rfl) ?_
  intro p e s m below meth c ls hx hb hr hml hown hts hlocks hP hK hl
  have hg : ∀ w9 ∈ kg_G, w9.before [.ref (ad qk), .int x, .int y].toArray s = true := fun w9 h9 => hts w9 (List.mem_cons_of_mem _ h9)
  have hown : s.vm.findClass "LaneMachine$Work" = some m.cls := hown
  have hA : ∀ k, k < n → kw_A ad n (ad k) := fun k hk => ⟨k, hk, rfl⟩
  have hS : va_S (kw_A ad n) s.heap s.heap [] := va_S.rf
  have hl : lv_has ls 3 [(0, .ref (ad qk)), (1, .int x), (2, .int y)] := hl
  refine lv_aload_n hx hb d_K_elementOrZero_0 rfl (lv_at hl 0 rfl) ?_
  refine lv_iload_n hx hb d_K_elementOrZero_1 rfl (lv_at hl 2 rfl) ?_
  refine kw_callix (kw_rV (As := [.int y]) (rest := []) (q0 := qk) ⟨hx, hb, hml, hown, hg⟩ ⟨callB_of 1 hg (kg_goodG kg_414) rfl rfl rfl (hg _ kg_6) (hg _ kg_411) (by decide +kernel) ⟨by decide, by decide⟩, hg _ kg_413, hg _ (kg_sel (q := (y_K_isInGroup, 15)) (by decide +kernel))⟩ (c_K_isInGroup l hqk ek ) hK hP hqk ek rfl rfl hl.1 rfl (Nat.le_of_ble_eq_true rfl) d_K_elementOrZero_2 ⟨Nat.zero_le _, Nat.zero_le _⟩) hA hS (fun H locs hP hS => ?_)
  refine lv_if_eq (tgt := 28) hx hb d_K_elementOrZero_5 (by decide) (fun h1 => ?_) (fun h1 => ?_)
  · refine lv_iconst (v := 0) hx hb d_K_elementOrZero_28 (by decide) ?_
    exact kw_iret hx hb hr hlocks hP hK hS ⟨by rw [kv_K_elementOrZero, if_pos h1], rfl⟩ d_K_elementOrZero_29
  · refine lv_aload_n hx hb d_K_elementOrZero_8 rfl (lv_at hl 0 rfl) ?_
    refine kw_get hx hb hg in_K hown hK hP qk hqk ek rfl 0 (by decide) (hg _ kg_111) rfl rfl d_K_elementOrZero_9 ?_
    refine lv_aload_n hx hb d_K_elementOrZero_12 rfl (lv_at hl 0 rfl) ?_
    refine lv_iload_n hx hb d_K_elementOrZero_13 rfl (lv_at hl 1 rfl) ?_
    refine lv_iload_n hx hb d_K_elementOrZero_14 rfl (lv_at hl 2 rfl) ?_
    refine kw_callix (kw_rV (As := [.int x, .int y]) (rest := [.ref (ad q2)]) (q0 := qk) ⟨hx, hb, hml, hown, hg⟩ ⟨callB_of 2 hg (kg_goodG kg_394) rfl rfl rfl (hg _ kg_6) (hg _ kg_391) (by decide +kernel) ⟨by decide, by decide⟩, hg _ kg_393, hg _ (kg_sel (q := (y_K_placeOf, 15)) (by decide +kernel))⟩ (c_K_placeOf l hqk ek ) hK hP hqk ek rfl rfl hl.1 rfl (Nat.le_of_ble_eq_true rfl) d_K_elementOrZero_15 ⟨Nat.zero_le _, Nat.zero_le _⟩) hA hS (fun H locs hP hS => ?_)
    refine lv_aload_n hx hb d_K_elementOrZero_18 rfl (lv_at hl 0 rfl) ?_
    refine kw_get hx hb hg in_K hown hK hP qk hqk ek rfl 4 (by decide) (hg _ kg_115) rfl rfl d_K_elementOrZero_19 ?_
    refine kw_callix (kw_rV (As := [.int (kv_K_placeOf w x y), .int (nI w)]) (rest := []) (q0 := q2) ⟨hx, hb, hml, hown, hg⟩ ⟨callB_of 2 hg (kg_goodG kg_216) rfl rfl rfl (hg _ kg_3) (hg _ kg_432) (by decide +kernel) ⟨by decide, by decide⟩, hg _ kg_214, hg _ kg_215⟩ (c_B_number l hq2 e2 hq3 e3 hw (by decide) ) hK hP hq2 e2 rfl rfl hl.1 rfl (Nat.le_of_ble_eq_true rfl) d_K_elementOrZero_22 ⟨Nat.zero_le _, Nat.zero_le _⟩) hA hS (fun H locs hP hS => ?_)
    refine lv_goto (tgt := 29) hx hb d_K_elementOrZero_25 (by decide) ?_
    exact kw_iret hx hb hr hlocks hP hK hS ⟨by rw [kv_K_elementOrZero, if_neg h1], rfl⟩ d_K_elementOrZero_29

def kv_K_isWorkedOn (mk : Int32) (f : Nat → Int32) (x : Int32) : Int32 := if mk = 0 then 1 else if (((kv_bare f 64 (x / 8) 1) >>> ((x - x / 8 * 8) &&& 31)) &&& 1) = 1 then 1 else 0
set_option maxRecDepth 100000 in
set_option maxHeartbeats 4000000 in
theorem c_K_isWorkedOn (l : Launch) {D : va_G} {ad : Nat → Nat} {n : Nat} {cs : Nat → va_E} {cI : ClassId} {cB : ClassId} {cJ : ClassId} {cQ : ClassId} {cW : ClassId} {qk : Nat} {q1 : Nat} {q2 : Nat} {q3 : Nat} {q4 : Nat} {q6 : Nat} {q7 : Nat} {w : Nat} {fr : Nat} {tt : Nat} {dn : Nat} {db : Nat} {gr : Int32} {mo : Int32} {xa : Int32} {xb : Int32} {nu : Int32} {op : Int32} {rd : Int32} {ra : Int32} {rb : Int32} {rn : Int32} {mk : Int32} {f : Nat → Int32} {x : Int32} (hqk : qk < n) (ek : cs qk = .inr (3, [.ref (ad q2), .ref (ad q4), .ref (ad q6), .ref (ad q7), .int (nI w), .int gr, .int mo, .int xa, .int xb, .int (nI fr), .ref (ad q1), .int nu, .int (nI tt), .int (nI dn), .int (nI db)])) (hq1 : q1 < n) (e1 : cs q1 = .inr (1, [.int op, .int rd, .int ra, .int rb, .int rn, .int mk])) (hq2 : q2 < n) (e2 : cs q2 = .inr (0, [.ref (ad q3)])) (hq3 : q3 < n) (e3 : cs q3 = .inl (cB, 64, .inl (f)))  : kw_mi l y_K_isWorkedOn w_K_isWorkedOn (kr 1) D kc (kt cI cB cJ cQ cW) ad n cs [.ref (ad qk), .int x] (fun r9 c9 => r9 = kv_K_isWorkedOn mk f x ∧ c9 = cs) := by
  refine kw_of (cc := b_K_isWorkedOn) (maxL := 2) (ret := (some .boolean)) (by decide) rfl (Nat.le_of_ble_eq_true rfl) ?_
  intro p e s m below meth c ls hx hb hr hml hown hts hlocks hP hK hl
  have hg : ∀ w9 ∈ kg_G, w9.before [.ref (ad qk), .int x].toArray s = true := fun w9 h9 => hts w9 (List.mem_cons_of_mem _ h9)
  have hown : s.vm.findClass "LaneMachine$Work" = some m.cls := hown
  have hA : ∀ k, k < n → kw_A ad n (ad k) := fun k hk => ⟨k, hk, rfl⟩
  have hS : va_S (kw_A ad n) s.heap s.heap [] := va_S.rf
  have hl : lv_has ls 2 [(0, .ref (ad qk)), (1, .int x)] := hl
  refine lv_aload_n hx hb d_K_isWorkedOn_0 rfl (lv_at hl 0 rfl) ?_
  refine kw_get hx hb hg in_K hown hK hP qk hqk ek rfl 10 (by decide) (hg _ kg_121) rfl rfl d_K_isWorkedOn_1 ?_
  refine kw_get hx hb hg in_I hown hK hP q1 hq1 e1 rfl 5 (by decide) (hg _ kg_91) rfl rfl d_K_isWorkedOn_4 ?_
  refine lv_if_eq (tgt := 33) hx hb d_K_isWorkedOn_7 (by decide) (fun h1 => ?_) (fun h1 => ?_)
  · refine lv_iconst (v := 1) hx hb d_K_isWorkedOn_33 (by decide) ?_
    refine lv_goto (tgt := 38) hx hb d_K_isWorkedOn_34 (by decide) ?_
    exact kw_zret hx hb hr hlocks hP hK hS (Or.inr rfl) ⟨by rw [kv_K_isWorkedOn, if_pos h1], rfl⟩ d_K_isWorkedOn_38
  · refine lv_aload_n hx hb d_K_isWorkedOn_10 rfl (lv_at hl 0 rfl) ?_
    refine kw_get hx hb hg in_K hown hK hP qk hqk ek rfl 0 (by decide) (hg _ kg_111) rfl rfl d_K_isWorkedOn_11 ?_
    refine lv_iload_n hx hb d_K_isWorkedOn_14 rfl (lv_at hl 1 rfl) ?_
    refine lv_bipush (v := 8) hx hb d_K_isWorkedOn_15 (by decide) ?_
    refine lv_idiv hx hb d_K_isWorkedOn_17 (by decide) ?_
    refine lv_iconst (v := 1) hx hb d_K_isWorkedOn_18 (by decide) ?_
    refine kw_callix (kw_rV (As := [.int (x / 8), .int 1]) (rest := []) (q0 := q2) ⟨hx, hb, hml, hown, hg⟩ ⟨callB_of 2 hg (kg_goodG kg_220) rfl rfl rfl (hg _ kg_3) (hg _ kg_423) (by decide +kernel) ⟨by decide, by decide⟩, hg _ kg_218, hg _ kg_219⟩ (c_B_bareNumber l hq2 e2 hq3 e3 (by decide) (by decide) (w := 1)) hK hP hq2 e2 rfl rfl hl.1 rfl (Nat.le_of_ble_eq_true rfl) d_K_isWorkedOn_19 ⟨Nat.zero_le _, Nat.zero_le _⟩) hA hS (fun H locs hP hS => ?_)
    refine lv_iload_n hx hb d_K_isWorkedOn_22 rfl (lv_at hl 1 rfl) ?_
    refine lv_bipush (v := 8) hx hb d_K_isWorkedOn_23 (by decide) ?_
    refine lv_irem hx hb d_K_isWorkedOn_25 (by decide) ?_
    refine lv_ishr hx hb d_K_isWorkedOn_26 ?_
    refine lv_iconst (v := 1) hx hb d_K_isWorkedOn_27 (by decide) ?_
    refine lv_iand hx hb d_K_isWorkedOn_28 ?_
    refine lv_iconst (v := 1) hx hb d_K_isWorkedOn_29 (by decide) ?_
    refine lv_icmp_ne (tgt := 37) hx hb d_K_isWorkedOn_30 (by decide) (fun h2 => ?_) (fun h2 => ?_)
    · refine lv_iconst (v := 0) hx hb d_K_isWorkedOn_37 (by decide) ?_
      exact kw_zret hx hb hr hlocks hP hK hS (Or.inl rfl) ⟨by rw [kv_K_isWorkedOn, if_neg h1, if_neg h2], rfl⟩ d_K_isWorkedOn_38
    · refine lv_iconst (v := 1) hx hb d_K_isWorkedOn_33 (by decide) ?_
      refine lv_goto (tgt := 38) hx hb d_K_isWorkedOn_34 (by decide) ?_
      exact kw_zret hx hb hr hlocks hP hK hS (Or.inr rfl) ⟨by rw [kv_K_isWorkedOn, if_neg h1, if_pos h2], rfl⟩ d_K_isWorkedOn_38

def kv_K_placeInMemory (w : Nat) (xa : Int32) (xb : Int32) (op : Int32) (rb : Int32) (f : Nat → Int32) (x : Int32) : Int32 := if op = 19 then (xa + (kv_bare f 64 (kv_K_placeOf w rb x) w)) else (xa + (x * xb))
set_option maxRecDepth 100000 in
set_option maxHeartbeats 4000000 in
theorem c_K_placeInMemory (l : Launch) {D : va_G} {ad : Nat → Nat} {n : Nat} {cs : Nat → va_E} {cI : ClassId} {cB : ClassId} {cJ : ClassId} {cQ : ClassId} {cW : ClassId} {qk : Nat} {q1 : Nat} {q2 : Nat} {q3 : Nat} {q4 : Nat} {q6 : Nat} {q7 : Nat} {w : Nat} {fr : Nat} {tt : Nat} {dn : Nat} {db : Nat} {gr : Int32} {mo : Int32} {xa : Int32} {xb : Int32} {nu : Int32} {op : Int32} {rd : Int32} {ra : Int32} {rb : Int32} {rn : Int32} {mk : Int32} {f : Nat → Int32} {x : Int32} (hqk : qk < n) (ek : cs qk = .inr (3, [.ref (ad q2), .ref (ad q4), .ref (ad q6), .ref (ad q7), .int (nI w), .int gr, .int mo, .int xa, .int xb, .int (nI fr), .ref (ad q1), .int nu, .int (nI tt), .int (nI dn), .int (nI db)])) (hq1 : q1 < n) (e1 : cs q1 = .inr (1, [.int op, .int rd, .int ra, .int rb, .int rn, .int mk])) (hq2 : q2 < n) (e2 : cs q2 = .inr (0, [.ref (ad q3)])) (hq3 : q3 < n) (e3 : cs q3 = .inl (cB, 64, .inl (f))) (hw : w ≤ 64) : kw_mi l y_K_placeInMemory w_K_placeInMemory (kr 1) D kc (kt cI cB cJ cQ cW) ad n cs [.ref (ad qk), .int x] (fun r9 c9 => r9 = kv_K_placeInMemory w xa xb op rb f x ∧ c9 = cs) := by
  refine kw_of (cc := b_K_placeInMemory) (maxL := 2) (ret := (some .int)) (by decide) rfl (Nat.le_of_ble_eq_true rfl) ?_
  intro p e s m below meth c ls hx hb hr hml hown hts hlocks hP hK hl
  have hg : ∀ w9 ∈ kg_G, w9.before [.ref (ad qk), .int x].toArray s = true := fun w9 h9 => hts w9 (List.mem_cons_of_mem _ h9)
  have hown : s.vm.findClass "LaneMachine$Work" = some m.cls := hown
  have hA : ∀ k, k < n → kw_A ad n (ad k) := fun k hk => ⟨k, hk, rfl⟩
  have hS : va_S (kw_A ad n) s.heap s.heap [] := va_S.rf
  have hl : lv_has ls 2 [(0, .ref (ad qk)), (1, .int x)] := hl
  refine lv_aload_n hx hb d_K_placeInMemory_0 rfl (lv_at hl 0 rfl) ?_
  refine kw_get hx hb hg in_K hown hK hP qk hqk ek rfl 7 (by decide) (hg _ kg_118) rfl rfl d_K_placeInMemory_1 ?_
  refine lv_aload_n hx hb d_K_placeInMemory_4 rfl (lv_at hl 0 rfl) ?_
  refine kw_get hx hb hg in_K hown hK hP qk hqk ek rfl 10 (by decide) (hg _ kg_121) rfl rfl d_K_placeInMemory_5 ?_
  refine kw_get hx hb hg in_I hown hK hP q1 hq1 e1 rfl 0 (by decide) (hg _ kg_72) rfl rfl d_K_placeInMemory_8 ?_
  refine lv_bipush (v := 19) hx hb d_K_placeInMemory_11 (by decide) ?_
  refine lv_icmp_ne (tgt := 42) hx hb d_K_placeInMemory_13 (by decide) (fun h1 => ?_) (fun h1 => ?_)
  · refine lv_iload_n hx hb d_K_placeInMemory_42 rfl (lv_at hl 1 rfl) ?_
    refine lv_aload_n hx hb d_K_placeInMemory_43 rfl (lv_at hl 0 rfl) ?_
    refine kw_get hx hb hg in_K hown hK hP qk hqk ek rfl 8 (by decide) (hg _ kg_119) rfl rfl d_K_placeInMemory_44 ?_
    refine lv_imul hx hb d_K_placeInMemory_47 ?_
    refine lv_iadd hx hb d_K_placeInMemory_48 ?_
    exact kw_iret hx hb hr hlocks hP hK hS ⟨by rw [kv_K_placeInMemory, if_neg h1], rfl⟩ d_K_placeInMemory_49
  · refine lv_aload_n hx hb d_K_placeInMemory_16 rfl (lv_at hl 0 rfl) ?_
    refine kw_get hx hb hg in_K hown hK hP qk hqk ek rfl 0 (by decide) (hg _ kg_111) rfl rfl d_K_placeInMemory_17 ?_
    refine lv_aload_n hx hb d_K_placeInMemory_20 rfl (lv_at hl 0 rfl) ?_
    refine lv_aload_n hx hb d_K_placeInMemory_21 rfl (lv_at hl 0 rfl) ?_
    refine kw_get hx hb hg in_K hown hK hP qk hqk ek rfl 10 (by decide) (hg _ kg_121) rfl rfl d_K_placeInMemory_22 ?_
    refine kw_get hx hb hg in_I hown hK hP q1 hq1 e1 rfl 3 (by decide) (hg _ kg_85) rfl rfl d_K_placeInMemory_25 ?_
    refine lv_iload_n hx hb d_K_placeInMemory_28 rfl (lv_at hl 1 rfl) ?_
    refine kw_callix (kw_rV (As := [.int rb, .int x]) (rest := [.ref (ad q2), .int xa]) (q0 := qk) ⟨hx, hb, hml, hown, hg⟩ ⟨callB_of 2 hg (kg_goodG kg_394) rfl rfl rfl (hg _ kg_6) (hg _ kg_391) (by decide +kernel) ⟨by decide, by decide⟩, hg _ kg_393, hg _ (kg_sel (q := (y_K_placeOf, 15)) (by decide +kernel))⟩ (c_K_placeOf l hqk ek ) hK hP hqk ek rfl rfl hl.1 rfl (Nat.le_of_ble_eq_true rfl) d_K_placeInMemory_29 ⟨Nat.zero_le _, Nat.zero_le _⟩) hA hS (fun H locs hP hS => ?_)
    refine lv_aload_n hx hb d_K_placeInMemory_32 rfl (lv_at hl 0 rfl) ?_
    refine kw_get hx hb hg in_K hown hK hP qk hqk ek rfl 4 (by decide) (hg _ kg_115) rfl rfl d_K_placeInMemory_33 ?_
    refine kw_callix (kw_rV (As := [.int (kv_K_placeOf w rb x), .int (nI w)]) (rest := [.int xa]) (q0 := q2) ⟨hx, hb, hml, hown, hg⟩ ⟨callB_of 2 hg (kg_goodG kg_220) rfl rfl rfl (hg _ kg_3) (hg _ kg_423) (by decide +kernel) ⟨by decide, by decide⟩, hg _ kg_218, hg _ kg_219⟩ (c_B_bareNumber l hq2 e2 hq3 e3 hw (by decide) ) hK hP hq2 e2 rfl rfl hl.1 rfl (Nat.le_of_ble_eq_true rfl) d_K_placeInMemory_36 ⟨Nat.zero_le _, Nat.zero_le _⟩) hA hS (fun H locs hP hS => ?_)
    refine lv_goto (tgt := 48) hx hb d_K_placeInMemory_39 (by decide) ?_
    refine lv_iadd hx hb d_K_placeInMemory_48 ?_
    exact kw_iret hx hb hr hlocks hP hK hS ⟨by rw [kv_K_placeInMemory, if_pos h1], rfl⟩ d_K_placeInMemory_49

def kv_rS (w : Nat) (mk ra : Int32) : Nat → Nat → Int64 → Int64
  | 0, _, v => v
  | k + 1, i, v => kv_rS w mk ra k (i + 1) (v ||| (kv_K_maskByte mk (nI i) ||| kv_K_span (kv_K_placeOf w ra (nI i)) (nI w)))
def kv_K_readsOfSum (w fr tt : Nat) (mk ra rb : Int32) : Int64 := kv_rS w mk ra (tt - fr) fr (kv_K_span (kv_K_placeOf w rb 0) (nI w))

set_option maxRecDepth 100000 in
set_option maxHeartbeats 4000000 in
theorem c_K_readsOfSum (l : Launch) {D : va_G} {ad : Nat → Nat} {n : Nat} {cs : Nat → va_E} {cI : ClassId} {cB : ClassId} {cJ : ClassId} {cQ : ClassId} {cW : ClassId} {qk : Nat} {q1 : Nat} {q2 : Nat} {q4 : Nat} {q6 : Nat} {q7 : Nat} {w : Nat} {fr : Nat} {tt : Nat} {dn : Nat} {db : Nat} {gr : Int32} {mo : Int32} {xa : Int32} {xb : Int32} {nu : Int32} {op : Int32} {rd : Int32} {ra : Int32} {rb : Int32} {rn : Int32} {mk : Int32} (hqk : qk < n) (ek : cs qk = .inr (3, [.ref (ad q2), .ref (ad q4), .ref (ad q6), .ref (ad q7), .int (nI w), .int gr, .int mo, .int xa, .int xb, .int (nI fr), .ref (ad q1), .int nu, .int (nI tt), .int (nI dn), .int (nI db)])) (hq1 : q1 < n) (e1 : cs q1 = .inr (1, [.int op, .int rd, .int ra, .int rb, .int rn, .int mk])) (hft : fr ≤ tt) (htt : tt < 2 ^ 30) : kw_ml l y_K_readsOfSum w_K_readsOfSum (kr 1) D kc (kt cI cB cJ cQ cW) ad n cs [.ref (ad qk)] (fun r9 c9 => r9 = kv_K_readsOfSum w fr tt mk ra rb ∧ c9 = cs) := by
  refine kw_of (cc := b_K_readsOfSum) (maxL := 4) (ret := (some .long)) (by decide) rfl (Nat.le_of_ble_eq_true rfl) ?_
  intro p e s m below meth c ls hx hb hr hml hown hts hlocks hP hK hl
  have hg : ∀ w9 ∈ kg_G, w9.before [.ref (ad qk)].toArray s = true := fun w9 h9 => hts w9 (List.mem_cons_of_mem _ h9)
  have hown : s.vm.findClass "LaneMachine$Work" = some m.cls := hown
  have hA : ∀ k, k < n → kw_A ad n (ad k) := fun k hk => ⟨k, hk, rfl⟩
  have hS : va_S (kw_A ad n) s.heap s.heap [] := va_S.rf
  have hl : lv_has ls 4 [(0, .ref (ad qk))] := hl
  refine lv_aload_n hx hb d_K_readsOfSum_0 rfl (lv_at hl 0 rfl) ?_
  refine lv_aload_n hx hb d_K_readsOfSum_1 rfl (lv_at hl 0 rfl) ?_
  refine kw_get hx hb hg in_K hown hK hP qk hqk ek rfl 10 (by decide) (hg _ kg_121) rfl rfl d_K_readsOfSum_2 ?_
  refine kw_get hx hb hg in_I hown hK hP q1 hq1 e1 rfl 3 (by decide) (hg _ kg_85) rfl rfl d_K_readsOfSum_5 ?_
  refine lv_iconst (v := 0) hx hb d_K_readsOfSum_8 (by decide) ?_
  refine kw_callix (kw_rV (As := [.int rb, .int 0]) (rest := []) (q0 := qk) ⟨hx, hb, hml, hown, hg⟩ ⟨callB_of 2 hg (kg_goodG kg_394) rfl rfl rfl (hg _ kg_6) (hg _ kg_391) (by decide +kernel) ⟨by decide, by decide⟩, hg _ kg_393, hg _ (kg_sel (q := (y_K_placeOf, 15)) (by decide +kernel))⟩ (c_K_placeOf l hqk ek ) hK hP hqk ek rfl rfl hl.1 rfl (Nat.le_of_ble_eq_true rfl) d_K_readsOfSum_9 ⟨Nat.zero_le _, Nat.zero_le _⟩) hA hS (fun H locs hP hS => ?_)
  refine lv_aload_n hx hb d_K_readsOfSum_12 rfl (lv_at hl 0 rfl) ?_
  refine kw_get hx hb hg in_K hown hK hP qk hqk ek rfl 4 (by decide) (hg _ kg_115) rfl rfl d_K_readsOfSum_13 ?_
  refine kw_calllx (kw_rS (As := [.int (kv_K_placeOf w rb 0), .int (nI w)]) (rest := []) ⟨hx, hb, hml, hown, hg⟩ ⟨callB_of 2 hg (kg_goodG kg_390) rfl rfl rfl (hg _ kg_6) (hg _ kg_388) (by decide +kernel) ⟨by decide, by decide⟩, hg _ kg_389⟩ (c_K_span l  ) hK hP rfl hl.1 rfl (Nat.le_of_ble_eq_true rfl) d_K_readsOfSum_16 ⟨Nat.zero_le _, Nat.zero_le _⟩) hA hS (fun H locs hP hS => ?_)
  refine lv_lstore_n (lv' := [(1, .long (kv_K_span (kv_K_placeOf w rb 0) (nI w))), (0, .ref (ad qk))]) hx hb d_K_readsOfSum_19 rfl hl (by decide) rfl (fun ls hl => ?_)
  refine lv_aload_n hx hb d_K_readsOfSum_20 rfl (lv_at hl 1 rfl) ?_
  refine kw_get hx hb hg in_K hown hK hP qk hqk ek rfl 9 (by decide) (hg _ kg_120) rfl rfl d_K_readsOfSum_21 ?_
  refine lv_istore_n (lv' := [(3, .int (nI fr)), (1, .long (kv_K_span (kv_K_placeOf w rb 0) (nI w))), (0, .ref (ad qk))]) hx hb d_K_readsOfSum_24 rfl hl (by decide) rfl (fun ls hl => ?_)
  have loop : ∀ (kk : Nat) (i : Nat) (v : Int64) (H : Heap) (locs : List Loc) (ls : Array Slot), i + kk = tt → kv_K_readsOfSum w fr tt mk ra rb = kv_rS w mk ra kk i v → va_P D kc (kw_w ad cs n) H → va_S (kw_A ad n) s.heap H locs → lv_has ls 4 [(3, .int (nI i)), (1, .long v), (0, .ref (ad qk))] → W p l e (kr 1) s m [.ref (ad qk)].toArray below meth c H locs 0 0 (MQ below (va_Ql (fun r9 c9 => r9 = kv_K_readsOfSum w fr tt mk ra rb ∧ c9 = cs) (kw_Pre D kc (kt cI cB cJ cQ cW) ad n) (kw_A ad n)) [.ref (ad qk)].toArray s 0 0 (kw_A ad n)) (F0 m 25 ls []) := by
    intro kk
    induction kk with
    | zero =>
      intro i v H locs ls hik hv hP hS hl
      refine lv_iload_n hx hb d_K_readsOfSum_25 rfl (lv_at hl 0 rfl) ?_
      refine lv_aload_n hx hb d_K_readsOfSum_26 rfl (lv_at hl 2 rfl) ?_
      refine kw_get hx hb hg in_K hown hK hP qk hqk ek rfl 12 (by decide) (hg _ kg_125) rfl rfl d_K_readsOfSum_27 ?_
      refine lv_icmp_ge (tgt := 67) hx hb d_K_readsOfSum_30 (by decide) (fun _ => ?_) (fun h1 => absurd (nI_le (by omega) (by omega)) h1)
      refine lv_lload_n hx hb d_K_readsOfSum_67 rfl (lv_at hl 1 rfl) ?_
      exact kw_lret hx hb hr hlocks hP hK hS ⟨hv.symm, rfl⟩ d_K_readsOfSum_68
    | succ j ih =>
      intro i v H locs ls hik hv hP hS hl
      refine lv_iload_n hx hb d_K_readsOfSum_25 rfl (lv_at hl 0 rfl) ?_
      refine lv_aload_n hx hb d_K_readsOfSum_26 rfl (lv_at hl 2 rfl) ?_
      refine kw_get hx hb hg in_K hown hK hP qk hqk ek rfl 12 (by decide) (hg _ kg_125) rfl rfl d_K_readsOfSum_27 ?_
      refine lv_icmp_ge (tgt := 67) hx hb d_K_readsOfSum_30 (by decide) (fun h2 => absurd h2 (nI_ge (by omega) (by omega))) (fun _ => ?_)
      refine lv_lload_n hx hb d_K_readsOfSum_33 rfl (lv_at hl 1 rfl) ?_
      refine lv_aload_n hx hb d_K_readsOfSum_34 rfl (lv_at hl 2 rfl) ?_
      refine lv_iload_n hx hb d_K_readsOfSum_35 rfl (lv_at hl 0 rfl) ?_
      refine kw_calllx (kw_rV (As := [.int (nI i)]) (rest := [.long v]) (q0 := qk) ⟨hx, hb, hml, hown, hg⟩ ⟨callB_of 1 hg (kg_goodG kg_406) rfl rfl rfl (hg _ kg_6) (hg _ kg_403) (by decide +kernel) ⟨by decide, by decide⟩, hg _ kg_405, hg _ (kg_sel (q := (y_K_maskByte, 15)) (by decide +kernel))⟩ (c_K_maskByte l hqk ek hq1 e1 ) hK hP hqk ek rfl rfl hl.1 rfl (Nat.le_of_ble_eq_true rfl) d_K_readsOfSum_36 ⟨Nat.zero_le _, Nat.zero_le _⟩) hA hS (fun H locs hP hS => ?_)
      refine lv_aload_n hx hb d_K_readsOfSum_39 rfl (lv_at hl 2 rfl) ?_
      refine lv_aload_n hx hb d_K_readsOfSum_40 rfl (lv_at hl 2 rfl) ?_
      refine kw_get hx hb hg in_K hown hK hP qk hqk ek rfl 10 (by decide) (hg _ kg_121) rfl rfl d_K_readsOfSum_41 ?_
      refine kw_get hx hb hg in_I hown hK hP q1 hq1 e1 rfl 2 (by decide) (hg _ kg_81) rfl rfl d_K_readsOfSum_44 ?_
      refine lv_iload_n hx hb d_K_readsOfSum_47 rfl (lv_at hl 0 rfl) ?_
      refine kw_callix (kw_rV (As := [.int ra, .int (nI i)]) (rest := [.long (kv_K_maskByte mk (nI i)), .long v]) (q0 := qk) ⟨hx, hb, hml, hown, hg⟩ ⟨callB_of 2 hg (kg_goodG kg_394) rfl rfl rfl (hg _ kg_6) (hg _ kg_391) (by decide +kernel) ⟨by decide, by decide⟩, hg _ kg_393, hg _ (kg_sel (q := (y_K_placeOf, 15)) (by decide +kernel))⟩ (c_K_placeOf l hqk ek ) hK hP hqk ek rfl rfl hl.1 rfl (Nat.le_of_ble_eq_true rfl) d_K_readsOfSum_48 ⟨Nat.zero_le _, Nat.zero_le _⟩) hA hS (fun H locs hP hS => ?_)
      refine lv_aload_n hx hb d_K_readsOfSum_51 rfl (lv_at hl 2 rfl) ?_
      refine kw_get hx hb hg in_K hown hK hP qk hqk ek rfl 4 (by decide) (hg _ kg_115) rfl rfl d_K_readsOfSum_52 ?_
      refine kw_calllx (kw_rS (As := [.int (kv_K_placeOf w ra (nI i)), .int (nI w)]) (rest := [.long (kv_K_maskByte mk (nI i)), .long v]) ⟨hx, hb, hml, hown, hg⟩ ⟨callB_of 2 hg (kg_goodG kg_390) rfl rfl rfl (hg _ kg_6) (hg _ kg_388) (by decide +kernel) ⟨by decide, by decide⟩, hg _ kg_389⟩ (c_K_span l  ) hK hP rfl hl.1 rfl (Nat.le_of_ble_eq_true rfl) d_K_readsOfSum_55 ⟨Nat.zero_le _, Nat.zero_le _⟩) hA hS (fun H locs hP hS => ?_)
      refine lv_lor hx hb d_K_readsOfSum_58 ?_
      refine lv_lor hx hb d_K_readsOfSum_59 ?_
      refine lv_lstore_n (lv' := [(1, .long (v ||| ((kv_K_maskByte mk (nI i)) ||| (kv_K_span (kv_K_placeOf w ra (nI i)) (nI w))))), (3, .int (nI i)), (0, .ref (ad qk))]) hx hb d_K_readsOfSum_60 rfl hl (by decide) rfl (fun ls hl => ?_)
      refine lv_iinc (k := 1) (v := nI (i + 1)) (lv' := [(3, .int (nI (i + 1))), (1, .long (v ||| ((kv_K_maskByte mk (nI i)) ||| (kv_K_span (kv_K_placeOf w ra (nI i)) (nI w))))), (0, .ref (ad qk))]) hx hb d_K_readsOfSum_61 hl rfl ((nI_succ i).symm) (by decide) rfl (fun ls hl => ?_)
      refine lv_goto (tgt := 25) hx hb d_K_readsOfSum_64 (by decide) ?_
      exact ih ((i + 1)) _ _ _ _ (by omega) (hv) (hP) hS (lv_sub hl [0, 1, 2] rfl)
  exact loop (tt - fr) fr _ _ _ _ (by omega) (rfl) (hP) hS (lv_sub hl [0, 1, 2] rfl)

def kv_K_readsOf (w : Nat) (fr : Nat) (tt : Nat) (gr : Int32) (mo : Int32) (xb : Int32) (op : Int32) (rd : Int32) (ra : Int32) (rb : Int32) (mk : Int32) (x : Int32) : Int64 := if op = 14 then (kv_K_readsOfSum w fr tt mk ra rb) else ((kv_K_maskByte mk ((nI fr) + x)) ||| (kv_K_sourcesOf w gr mo xb op rd ra rb ((nI fr) + x)))
set_option maxRecDepth 100000 in
set_option maxHeartbeats 4000000 in
theorem c_K_readsOf (l : Launch) {D : va_G} {ad : Nat → Nat} {n : Nat} {cs : Nat → va_E} {cI : ClassId} {cB : ClassId} {cJ : ClassId} {cQ : ClassId} {cW : ClassId} {qk : Nat} {q1 : Nat} {q2 : Nat} {q4 : Nat} {q6 : Nat} {q7 : Nat} {w : Nat} {fr : Nat} {tt : Nat} {dn : Nat} {db : Nat} {gr : Int32} {mo : Int32} {xa : Int32} {xb : Int32} {nu : Int32} {op : Int32} {rd : Int32} {ra : Int32} {rb : Int32} {rn : Int32} {mk : Int32} {x : Int32} (hqk : qk < n) (ek : cs qk = .inr (3, [.ref (ad q2), .ref (ad q4), .ref (ad q6), .ref (ad q7), .int (nI w), .int gr, .int mo, .int xa, .int xb, .int (nI fr), .ref (ad q1), .int nu, .int (nI tt), .int (nI dn), .int (nI db)])) (hq1 : q1 < n) (e1 : cs q1 = .inr (1, [.int op, .int rd, .int ra, .int rb, .int rn, .int mk])) (hft : fr ≤ tt) (htt : tt < 2 ^ 30) : kw_ml l y_K_readsOf w_K_readsOf (kr 2) D kc (kt cI cB cJ cQ cW) ad n cs [.ref (ad qk), .int x] (fun r9 c9 => r9 = kv_K_readsOf w fr tt gr mo xb op rd ra rb mk x ∧ c9 = cs) := by
  refine kw_of (cc := b_K_readsOf) (maxL := 3) (ret := (some .long)) (by decide) rfl (Nat.le_of_ble_eq_true rfl) ?_
  intro p e s m below meth c ls hx hb hr hml hown hts hlocks hP hK hl
  have hg : ∀ w9 ∈ kg_G, w9.before [.ref (ad qk), .int x].toArray s = true := fun w9 h9 => hts w9 (List.mem_cons_of_mem _ h9)
  have hown : s.vm.findClass "LaneMachine$Work" = some m.cls := hown
  have hA : ∀ k, k < n → kw_A ad n (ad k) := fun k hk => ⟨k, hk, rfl⟩
  have hS : va_S (kw_A ad n) s.heap s.heap [] := va_S.rf
  have hl : lv_has ls 3 [(0, .ref (ad qk)), (1, .int x)] := hl
  refine lv_aload_n hx hb d_K_readsOf_0 rfl (lv_at hl 0 rfl) ?_
  refine kw_get hx hb hg in_K hown hK hP qk hqk ek rfl 9 (by decide) (hg _ kg_120) rfl rfl d_K_readsOf_1 ?_
  refine lv_iload_n hx hb d_K_readsOf_4 rfl (lv_at hl 1 rfl) ?_
  refine lv_iadd hx hb d_K_readsOf_5 ?_
  refine lv_istore_n (lv' := [(2, .int ((nI fr) + x)), (0, .ref (ad qk)), (1, .int x)]) hx hb d_K_readsOf_6 rfl hl (by decide) rfl (fun ls hl => ?_)
  refine lv_aload_n hx hb d_K_readsOf_7 rfl (lv_at hl 1 rfl) ?_
  refine kw_get hx hb hg in_K hown hK hP qk hqk ek rfl 10 (by decide) (hg _ kg_121) rfl rfl d_K_readsOf_8 ?_
  refine kw_get hx hb hg in_I hown hK hP q1 hq1 e1 rfl 0 (by decide) (hg _ kg_72) rfl rfl d_K_readsOf_11 ?_
  refine lv_bipush (v := 14) hx hb d_K_readsOf_14 (by decide) ?_
  refine lv_icmp_ne (tgt := 26) hx hb d_K_readsOf_16 (by decide) (fun h1 => ?_) (fun h1 => ?_)
  · refine lv_aload_n hx hb d_K_readsOf_26 rfl (lv_at hl 1 rfl) ?_
    refine lv_iload_n hx hb d_K_readsOf_27 rfl (lv_at hl 0 rfl) ?_
    refine kw_calllx (kw_rV (As := [.int ((nI fr) + x)]) (rest := []) (q0 := qk) ⟨hx, hb, hml, hown, hg⟩ ⟨callB_of 1 hg (kg_goodG kg_406) rfl rfl rfl (hg _ kg_6) (hg _ kg_403) (by decide +kernel) ⟨by decide, by decide⟩, hg _ kg_405, hg _ (kg_sel (q := (y_K_maskByte, 15)) (by decide +kernel))⟩ (c_K_maskByte l hqk ek hq1 e1 ) hK hP hqk ek rfl rfl hl.1 rfl (Nat.le_of_ble_eq_true rfl) d_K_readsOf_28 ⟨Nat.zero_le _, Nat.zero_le _⟩) hA hS (fun H locs hP hS => ?_)
    refine lv_aload_n hx hb d_K_readsOf_31 rfl (lv_at hl 1 rfl) ?_
    refine lv_iload_n hx hb d_K_readsOf_32 rfl (lv_at hl 0 rfl) ?_
    refine kw_calllx (kw_rV (As := [.int ((nI fr) + x)]) (rest := [.long (kv_K_maskByte mk ((nI fr) + x))]) (q0 := qk) ⟨hx, hb, hml, hown, hg⟩ ⟨callB_of 1 hg (kg_goodG kg_410) rfl rfl rfl (hg _ kg_6) (hg _ kg_407) (by decide +kernel) ⟨by decide, by decide⟩, hg _ kg_409, hg _ (kg_sel (q := (y_K_sourcesOf, 15)) (by decide +kernel))⟩ (c_K_sourcesOf l hqk ek hq1 e1 ) hK hP hqk ek rfl rfl hl.1 rfl (Nat.le_of_ble_eq_true rfl) d_K_readsOf_33 ⟨Nat.zero_le _, Nat.zero_le _⟩) hA hS (fun H locs hP hS => ?_)
    refine lv_lor hx hb d_K_readsOf_36 ?_
    exact kw_lret hx hb hr hlocks hP hK hS ⟨by rw [kv_K_readsOf, if_neg h1], rfl⟩ d_K_readsOf_37
  · refine lv_aload_n hx hb d_K_readsOf_19 rfl (lv_at hl 1 rfl) ?_
    refine kw_calllx (kw_rV (As := []) (rest := []) (q0 := qk) ⟨hx, hb, hml, hown, hg⟩ ⟨callB_of 0 hg (kg_goodG kg_402) rfl rfl rfl (hg _ kg_6) (hg _ kg_399) (by decide +kernel) ⟨by decide, by decide⟩, hg _ kg_401, hg _ (kg_sel (q := (y_K_readsOfSum, 15)) (by decide +kernel))⟩ (c_K_readsOfSum l hqk ek hq1 e1 hft htt ) hK hP hqk ek rfl rfl hl.1 rfl (Nat.le_of_ble_eq_true rfl) d_K_readsOf_20 ⟨Nat.zero_le _, Nat.zero_le _⟩) hA hS (fun H locs hP hS => ?_)
    refine lv_goto (tgt := 37) hx hb d_K_readsOf_23 (by decide) ?_
    exact kw_lret hx hb hr hlocks hP hK hS ⟨by rw [kv_K_readsOf, if_pos h1], rfl⟩ d_K_readsOf_37

def kv_K_isNextStepFree (w : Nat) (fr : Nat) (tt : Nat) (dn : Nat) (gr : Int32) (mo : Int32) (xb : Int32) (op : Int32) (rd : Int32) (ra : Int32) (rb : Int32) (mk : Int32) (u : Int64) (v : Int64) : Int32 := if (kv_K_isDone fr tt dn op) = 0 then (if (lg_cmp (v &&& ((kv_K_readsOf w fr tt gr mo xb op rd ra rb mk (nI dn)) ||| (kv_K_writesOf w fr op rd (nI dn)))) 0) = 0 then (if (lg_cmp (u &&& (kv_K_writesOf w fr op rd (nI dn))) 0) = 0 then 1 else 0) else 0) else 0
set_option maxRecDepth 100000 in
set_option maxHeartbeats 4000000 in
theorem c_K_isNextStepFree (l : Launch) {D : va_G} {ad : Nat → Nat} {n : Nat} {cs : Nat → va_E} {cI : ClassId} {cB : ClassId} {cJ : ClassId} {cQ : ClassId} {cW : ClassId} {qk : Nat} {q1 : Nat} {q2 : Nat} {q4 : Nat} {q6 : Nat} {q7 : Nat} {w : Nat} {fr : Nat} {tt : Nat} {dn : Nat} {db : Nat} {gr : Int32} {mo : Int32} {xa : Int32} {xb : Int32} {nu : Int32} {op : Int32} {rd : Int32} {ra : Int32} {rb : Int32} {rn : Int32} {mk : Int32} {u : Int64} {v : Int64} (hqk : qk < n) (ek : cs qk = .inr (3, [.ref (ad q2), .ref (ad q4), .ref (ad q6), .ref (ad q7), .int (nI w), .int gr, .int mo, .int xa, .int xb, .int (nI fr), .ref (ad q1), .int nu, .int (nI tt), .int (nI dn), .int (nI db)])) (hq1 : q1 < n) (e1 : cs q1 = .inr (1, [.int op, .int rd, .int ra, .int rb, .int rn, .int mk])) (hft : fr ≤ tt) (htt : tt < 2 ^ 30) : kw_mi l y_K_isNextStepFree w_K_isNextStepFree (kr 3) D kc (kt cI cB cJ cQ cW) ad n cs [.ref (ad qk), .long u, .long v] (fun r9 c9 => r9 = kv_K_isNextStepFree w fr tt dn gr mo xb op rd ra rb mk u v ∧ c9 = cs) := by
  refine kw_of (cc := b_K_isNextStepFree) (maxL := 7) (ret := (some .boolean)) (by decide) rfl (Nat.le_of_ble_eq_true rfl) ?_
  intro p e s m below meth c ls hx hb hr hml hown hts hlocks hP hK hl
  have hg : ∀ w9 ∈ kg_G, w9.before [.ref (ad qk), .long u, .long v].toArray s = true := fun w9 h9 => hts w9 (List.mem_cons_of_mem _ h9)
  have hown : s.vm.findClass "LaneMachine$Work" = some m.cls := hown
  have hA : ∀ k, k < n → kw_A ad n (ad k) := fun k hk => ⟨k, hk, rfl⟩
  have hS : va_S (kw_A ad n) s.heap s.heap [] := va_S.rf
  have hl : lv_has ls 7 [(0, .ref (ad qk)), (1, .long u), (3, .long v)] := hl
  refine lv_aload_n hx hb d_K_isNextStepFree_0 rfl (lv_at hl 0 rfl) ?_
  refine kw_callix (kw_rV (As := []) (rest := []) (q0 := qk) ⟨hx, hb, hml, hown, hg⟩ ⟨callB_of 0 hg (kg_goodG kg_382) rfl rfl rfl (hg _ kg_6) (hg _ kg_379) (by decide +kernel) ⟨by decide, by decide⟩, hg _ kg_380, hg _ kg_381⟩ (c_K_isDone l hqk ek hq1 e1 ) hK hP hqk ek rfl rfl hl.1 rfl (Nat.le_of_ble_eq_true rfl) d_K_isNextStepFree_1 ⟨Nat.zero_le _, Nat.zero_le _⟩) hA hS (fun H locs hP hS => ?_)
  refine lv_if_eq (tgt := 9) hx hb d_K_isNextStepFree_4 (by decide) (fun h1 => ?_) (fun h1 => ?_)
  · refine lv_aload_n hx hb d_K_isNextStepFree_9 rfl (lv_at hl 0 rfl) ?_
    refine lv_aload_n hx hb d_K_isNextStepFree_10 rfl (lv_at hl 0 rfl) ?_
    refine kw_get hx hb hg in_K hown hK hP qk hqk ek rfl 13 (by decide) (hg _ kg_127) rfl rfl d_K_isNextStepFree_11 ?_
    refine kw_calllx (kw_rV (As := [.int (nI dn)]) (rest := []) (q0 := qk) ⟨hx, hb, hml, hown, hg⟩ ⟨callB_of 1 hg (kg_goodG kg_387) rfl rfl rfl (hg _ kg_6) (hg _ kg_384) (by decide +kernel) ⟨by decide, by decide⟩, hg _ kg_386, hg _ (kg_sel (q := (y_K_writesOf, 15)) (by decide +kernel))⟩ (c_K_writesOf l hqk ek hq1 e1 ) hK hP hqk ek rfl rfl hl.1 rfl (Nat.le_of_ble_eq_true rfl) d_K_isNextStepFree_14 ⟨Nat.zero_le _, Nat.zero_le _⟩) hA hS (fun H locs hP hS => ?_)
    refine lv_lstore (lv' := [(5, .long (kv_K_writesOf w fr op rd (nI dn))), (0, .ref (ad qk)), (1, .long u), (3, .long v)]) hx hb d_K_isNextStepFree_17 hl (by decide) rfl (fun ls hl => ?_)
    refine lv_lload_n hx hb d_K_isNextStepFree_19 rfl (lv_at hl 3 rfl) ?_
    refine lv_aload_n hx hb d_K_isNextStepFree_20 rfl (lv_at hl 1 rfl) ?_
    refine lv_aload_n hx hb d_K_isNextStepFree_21 rfl (lv_at hl 1 rfl) ?_
    refine kw_get hx hb hg in_K hown hK hP qk hqk ek rfl 13 (by decide) (hg _ kg_127) rfl rfl d_K_isNextStepFree_22 ?_
    refine kw_calllx (kw_rV (As := [.int (nI dn)]) (rest := [.long v]) (q0 := qk) ⟨hx, hb, hml, hown, hg⟩ ⟨callB_of 1 hg (kg_goodG kg_398) rfl rfl rfl (hg _ kg_6) (hg _ kg_395) (by decide +kernel) ⟨by decide, by decide⟩, hg _ kg_397, hg _ (kg_sel (q := (y_K_readsOf, 15)) (by decide +kernel))⟩ (c_K_readsOf l hqk ek hq1 e1 hft htt ) hK hP hqk ek rfl rfl hl.1 rfl (Nat.le_of_ble_eq_true rfl) d_K_isNextStepFree_25 ⟨Nat.zero_le _, Nat.zero_le _⟩) hA hS (fun H locs hP hS => ?_)
    refine lv_lload hx hb d_K_isNextStepFree_28 (lv_at hl 0 rfl) ?_
    refine lv_lor hx hb d_K_isNextStepFree_30 ?_
    refine lv_land hx hb d_K_isNextStepFree_31 ?_
    refine lv_lconst (v := 0) hx hb d_K_isNextStepFree_32 (by decide) ?_
    refine W.lcmp hx hb d_K_isNextStepFree_33 ?_
    refine lv_if_ne (tgt := 50) hx hb d_K_isNextStepFree_34 (by decide) (fun h2 => ?_) (fun h2 => ?_)
    · refine lv_iconst (v := 0) hx hb d_K_isNextStepFree_50 (by decide) ?_
      exact kw_zret hx hb hr hlocks hP hK hS (Or.inl rfl) ⟨by rw [kv_K_isNextStepFree, if_pos h1, if_neg h2], rfl⟩ d_K_isNextStepFree_51
    · refine lv_lload_n hx hb d_K_isNextStepFree_37 rfl (lv_at hl 2 rfl) ?_
      refine lv_lload hx hb d_K_isNextStepFree_38 (lv_at hl 0 rfl) ?_
      refine lv_land hx hb d_K_isNextStepFree_40 ?_
      refine lv_lconst (v := 0) hx hb d_K_isNextStepFree_41 (by decide) ?_
      refine W.lcmp hx hb d_K_isNextStepFree_42 ?_
      refine lv_if_ne (tgt := 50) hx hb d_K_isNextStepFree_43 (by decide) (fun h3 => ?_) (fun h3 => ?_)
      · refine lv_iconst (v := 0) hx hb d_K_isNextStepFree_50 (by decide) ?_
        exact kw_zret hx hb hr hlocks hP hK hS (Or.inl rfl) ⟨by rw [kv_K_isNextStepFree, if_pos h1, if_pos h2, if_neg h3], rfl⟩ d_K_isNextStepFree_51
      · refine lv_iconst (v := 1) hx hb d_K_isNextStepFree_46 (by decide) ?_
        refine lv_goto (tgt := 51) hx hb d_K_isNextStepFree_47 (by decide) ?_
        exact kw_zret hx hb hr hlocks hP hK hS (Or.inr rfl) ⟨by rw [kv_K_isNextStepFree, if_pos h1, if_pos h2, if_pos h3], rfl⟩ d_K_isNextStepFree_51
  · refine lv_iconst (v := 0) hx hb d_K_isNextStepFree_7 (by decide) ?_
    exact kw_zret hx hb hr hlocks hP hK hS (Or.inl rfl) ⟨by rw [kv_K_isNextStepFree, if_neg h1], rfl⟩ d_K_isNextStepFree_8

def kv_K_result (w : Nat) (mo : Int32) (xa : Int32) (xb : Int32) (op : Int32) (ra : Int32) (rb : Int32) (f : Nat → Int32) (g : Nat → Int32) (x : Int32) : Int32 := if op = 8 then ((kv_K_element w f ra x) + (kv_K_element w f rb x)) else if op = 9 then ((kv_K_element w f ra x) - (kv_K_element w f rb x)) else if op = 10 then ((kv_K_element w f ra x) * (kv_K_element w f rb x)) else if op = 11 then ((kv_K_element w f ra x) + xb) else if op = 13 then ((kv_K_element w f ra x) + (kv_K_element w f rb x)) else if op = 15 then (kv_K_elementOrZero w mo f ra (x + xb)) else if op = 16 then (kv_K_elementOrZero w mo f ra (kv_bare f 64 (kv_K_placeOf w rb x) w)) else (kv_B_number 128 w (kv_K_placeInMemory w xa xb op rb f x) g)
set_option maxRecDepth 100000 in
set_option maxHeartbeats 4000000 in
theorem c_K_result (l : Launch) {D : va_G} {ad : Nat → Nat} {n : Nat} {cs : Nat → va_E} {cI : ClassId} {cB : ClassId} {cJ : ClassId} {cQ : ClassId} {cW : ClassId} {qk : Nat} {q1 : Nat} {q2 : Nat} {q3 : Nat} {q4 : Nat} {q5 : Nat} {q6 : Nat} {q7 : Nat} {w : Nat} {fr : Nat} {tt : Nat} {dn : Nat} {db : Nat} {gr : Int32} {mo : Int32} {xa : Int32} {xb : Int32} {nu : Int32} {op : Int32} {rd : Int32} {ra : Int32} {rb : Int32} {rn : Int32} {mk : Int32} {f : Nat → Int32} {g : Nat → Int32} {x : Int32} (hqk : qk < n) (ek : cs qk = .inr (3, [.ref (ad q2), .ref (ad q4), .ref (ad q6), .ref (ad q7), .int (nI w), .int gr, .int mo, .int xa, .int xb, .int (nI fr), .ref (ad q1), .int nu, .int (nI tt), .int (nI dn), .int (nI db)])) (hq1 : q1 < n) (e1 : cs q1 = .inr (1, [.int op, .int rd, .int ra, .int rb, .int rn, .int mk])) (hq2 : q2 < n) (e2 : cs q2 = .inr (0, [.ref (ad q3)])) (hq3 : q3 < n) (e3 : cs q3 = .inl (cB, 64, .inl (f))) (hq4 : q4 < n) (e4 : cs q4 = .inr (0, [.ref (ad q5)])) (hq5 : q5 < n) (e5 : cs q5 = .inl (cB, 128, .inl (g))) (hw : w ≤ 64) : kw_mi l y_K_result w_K_result (kr 3) D kc (kt cI cB cJ cQ cW) ad n cs [.ref (ad qk), .int x] (fun r9 c9 => r9 = kv_K_result w mo xa xb op ra rb f g x ∧ c9 = cs) := by
  refine kw_of (cc := b_K_result) (maxL := 2) (ret := (some .int)) (by decide) rfl (Nat.le_of_ble_eq_true rfl) ?_
  intro p e s m below meth c ls hx hb hr hml hown hts hlocks hP hK hl
  have hg : ∀ w9 ∈ kg_G, w9.before [.ref (ad qk), .int x].toArray s = true := fun w9 h9 => hts w9 (List.mem_cons_of_mem _ h9)
  have hown : s.vm.findClass "LaneMachine$Work" = some m.cls := hown
  have hA : ∀ k, k < n → kw_A ad n (ad k) := fun k hk => ⟨k, hk, rfl⟩
  have hS : va_S (kw_A ad n) s.heap s.heap [] := va_S.rf
  have hl : lv_has ls 2 [(0, .ref (ad qk)), (1, .int x)] := hl
  refine lv_aload_n hx hb d_K_result_0 rfl (lv_at hl 0 rfl) ?_
  refine kw_get hx hb hg in_K hown hK hP qk hqk ek rfl 10 (by decide) (hg _ kg_121) rfl rfl d_K_result_1 ?_
  refine kw_get hx hb hg in_I hown hK hP q1 hq1 e1 rfl 0 (by decide) (hg _ kg_72) rfl rfl d_K_result_4 ?_
  by_cases h1 : op = 8
  · refine lv_tableIn (tgt := 56) hx hb d_K_result_7 (by rw [h1]; decide) (by rw [h1]; decide) (by rw [h1]; rfl) (by decide) ?_
    refine lv_aload_n hx hb d_K_result_56 rfl (lv_at hl 0 rfl) ?_
    refine lv_aload_n hx hb d_K_result_57 rfl (lv_at hl 0 rfl) ?_
    refine kw_get hx hb hg in_K hown hK hP qk hqk ek rfl 10 (by decide) (hg _ kg_121) rfl rfl d_K_result_58 ?_
    refine kw_get hx hb hg in_I hown hK hP q1 hq1 e1 rfl 2 (by decide) (hg _ kg_81) rfl rfl d_K_result_61 ?_
    refine lv_iload_n hx hb d_K_result_64 rfl (lv_at hl 1 rfl) ?_
    refine kw_callix (kw_rV (As := [.int ra, .int x]) (rest := []) (q0 := qk) ⟨hx, hb, hml, hown, hg⟩ ⟨callB_of 2 hg (kg_goodG kg_431) rfl rfl rfl (hg _ kg_6) (hg _ kg_428) (by decide +kernel) ⟨by decide, by decide⟩, hg _ kg_430, hg _ (kg_sel (q := (y_K_element, 15)) (by decide +kernel))⟩ (c_K_element l hqk ek hq1 e1 hq2 e2 hq3 e3 hw ) hK hP hqk ek rfl rfl hl.1 rfl (Nat.le_of_ble_eq_true rfl) d_K_result_65 ⟨Nat.zero_le _, Nat.zero_le _⟩) hA hS (fun H locs hP hS => ?_)
    refine lv_aload_n hx hb d_K_result_68 rfl (lv_at hl 0 rfl) ?_
    refine lv_aload_n hx hb d_K_result_69 rfl (lv_at hl 0 rfl) ?_
    refine kw_get hx hb hg in_K hown hK hP qk hqk ek rfl 10 (by decide) (hg _ kg_121) rfl rfl d_K_result_70 ?_
    refine kw_get hx hb hg in_I hown hK hP q1 hq1 e1 rfl 3 (by decide) (hg _ kg_85) rfl rfl d_K_result_73 ?_
    refine lv_iload_n hx hb d_K_result_76 rfl (lv_at hl 1 rfl) ?_
    refine kw_callix (kw_rV (As := [.int rb, .int x]) (rest := [.int (kv_K_element w f ra x)]) (q0 := qk) ⟨hx, hb, hml, hown, hg⟩ ⟨callB_of 2 hg (kg_goodG kg_431) rfl rfl rfl (hg _ kg_6) (hg _ kg_428) (by decide +kernel) ⟨by decide, by decide⟩, hg _ kg_430, hg _ (kg_sel (q := (y_K_element, 15)) (by decide +kernel))⟩ (c_K_element l hqk ek hq1 e1 hq2 e2 hq3 e3 hw ) hK hP hqk ek rfl rfl hl.1 rfl (Nat.le_of_ble_eq_true rfl) d_K_result_77 ⟨Nat.zero_le _, Nat.zero_le _⟩) hA hS (fun H locs hP hS => ?_)
    refine lv_iadd hx hb d_K_result_80 ?_
    exact kw_iret hx hb hr hlocks hP hK hS ⟨by rw [kv_K_result, if_pos h1], rfl⟩ d_K_result_81
  by_cases h2 : op = 9
  · refine lv_tableIn (tgt := 82) hx hb d_K_result_7 (by rw [h2]; decide) (by rw [h2]; decide) (by rw [h2]; rfl) (by decide) ?_
    refine lv_aload_n hx hb d_K_result_82 rfl (lv_at hl 0 rfl) ?_
    refine lv_aload_n hx hb d_K_result_83 rfl (lv_at hl 0 rfl) ?_
    refine kw_get hx hb hg in_K hown hK hP qk hqk ek rfl 10 (by decide) (hg _ kg_121) rfl rfl d_K_result_84 ?_
    refine kw_get hx hb hg in_I hown hK hP q1 hq1 e1 rfl 2 (by decide) (hg _ kg_81) rfl rfl d_K_result_87 ?_
    refine lv_iload_n hx hb d_K_result_90 rfl (lv_at hl 1 rfl) ?_
    refine kw_callix (kw_rV (As := [.int ra, .int x]) (rest := []) (q0 := qk) ⟨hx, hb, hml, hown, hg⟩ ⟨callB_of 2 hg (kg_goodG kg_431) rfl rfl rfl (hg _ kg_6) (hg _ kg_428) (by decide +kernel) ⟨by decide, by decide⟩, hg _ kg_430, hg _ (kg_sel (q := (y_K_element, 15)) (by decide +kernel))⟩ (c_K_element l hqk ek hq1 e1 hq2 e2 hq3 e3 hw ) hK hP hqk ek rfl rfl hl.1 rfl (Nat.le_of_ble_eq_true rfl) d_K_result_91 ⟨Nat.zero_le _, Nat.zero_le _⟩) hA hS (fun H locs hP hS => ?_)
    refine lv_aload_n hx hb d_K_result_94 rfl (lv_at hl 0 rfl) ?_
    refine lv_aload_n hx hb d_K_result_95 rfl (lv_at hl 0 rfl) ?_
    refine kw_get hx hb hg in_K hown hK hP qk hqk ek rfl 10 (by decide) (hg _ kg_121) rfl rfl d_K_result_96 ?_
    refine kw_get hx hb hg in_I hown hK hP q1 hq1 e1 rfl 3 (by decide) (hg _ kg_85) rfl rfl d_K_result_99 ?_
    refine lv_iload_n hx hb d_K_result_102 rfl (lv_at hl 1 rfl) ?_
    refine kw_callix (kw_rV (As := [.int rb, .int x]) (rest := [.int (kv_K_element w f ra x)]) (q0 := qk) ⟨hx, hb, hml, hown, hg⟩ ⟨callB_of 2 hg (kg_goodG kg_431) rfl rfl rfl (hg _ kg_6) (hg _ kg_428) (by decide +kernel) ⟨by decide, by decide⟩, hg _ kg_430, hg _ (kg_sel (q := (y_K_element, 15)) (by decide +kernel))⟩ (c_K_element l hqk ek hq1 e1 hq2 e2 hq3 e3 hw ) hK hP hqk ek rfl rfl hl.1 rfl (Nat.le_of_ble_eq_true rfl) d_K_result_103 ⟨Nat.zero_le _, Nat.zero_le _⟩) hA hS (fun H locs hP hS => ?_)
    refine lv_isub hx hb d_K_result_106 ?_
    exact kw_iret hx hb hr hlocks hP hK hS ⟨by rw [kv_K_result, if_neg h1, if_pos h2], rfl⟩ d_K_result_107
  by_cases h3 : op = 10
  · refine lv_tableIn (tgt := 108) hx hb d_K_result_7 (by rw [h3]; decide) (by rw [h3]; decide) (by rw [h3]; rfl) (by decide) ?_
    refine lv_aload_n hx hb d_K_result_108 rfl (lv_at hl 0 rfl) ?_
    refine lv_aload_n hx hb d_K_result_109 rfl (lv_at hl 0 rfl) ?_
    refine kw_get hx hb hg in_K hown hK hP qk hqk ek rfl 10 (by decide) (hg _ kg_121) rfl rfl d_K_result_110 ?_
    refine kw_get hx hb hg in_I hown hK hP q1 hq1 e1 rfl 2 (by decide) (hg _ kg_81) rfl rfl d_K_result_113 ?_
    refine lv_iload_n hx hb d_K_result_116 rfl (lv_at hl 1 rfl) ?_
    refine kw_callix (kw_rV (As := [.int ra, .int x]) (rest := []) (q0 := qk) ⟨hx, hb, hml, hown, hg⟩ ⟨callB_of 2 hg (kg_goodG kg_431) rfl rfl rfl (hg _ kg_6) (hg _ kg_428) (by decide +kernel) ⟨by decide, by decide⟩, hg _ kg_430, hg _ (kg_sel (q := (y_K_element, 15)) (by decide +kernel))⟩ (c_K_element l hqk ek hq1 e1 hq2 e2 hq3 e3 hw ) hK hP hqk ek rfl rfl hl.1 rfl (Nat.le_of_ble_eq_true rfl) d_K_result_117 ⟨Nat.zero_le _, Nat.zero_le _⟩) hA hS (fun H locs hP hS => ?_)
    refine lv_aload_n hx hb d_K_result_120 rfl (lv_at hl 0 rfl) ?_
    refine lv_aload_n hx hb d_K_result_121 rfl (lv_at hl 0 rfl) ?_
    refine kw_get hx hb hg in_K hown hK hP qk hqk ek rfl 10 (by decide) (hg _ kg_121) rfl rfl d_K_result_122 ?_
    refine kw_get hx hb hg in_I hown hK hP q1 hq1 e1 rfl 3 (by decide) (hg _ kg_85) rfl rfl d_K_result_125 ?_
    refine lv_iload_n hx hb d_K_result_128 rfl (lv_at hl 1 rfl) ?_
    refine kw_callix (kw_rV (As := [.int rb, .int x]) (rest := [.int (kv_K_element w f ra x)]) (q0 := qk) ⟨hx, hb, hml, hown, hg⟩ ⟨callB_of 2 hg (kg_goodG kg_431) rfl rfl rfl (hg _ kg_6) (hg _ kg_428) (by decide +kernel) ⟨by decide, by decide⟩, hg _ kg_430, hg _ (kg_sel (q := (y_K_element, 15)) (by decide +kernel))⟩ (c_K_element l hqk ek hq1 e1 hq2 e2 hq3 e3 hw ) hK hP hqk ek rfl rfl hl.1 rfl (Nat.le_of_ble_eq_true rfl) d_K_result_129 ⟨Nat.zero_le _, Nat.zero_le _⟩) hA hS (fun H locs hP hS => ?_)
    refine lv_imul hx hb d_K_result_132 ?_
    exact kw_iret hx hb hr hlocks hP hK hS ⟨by rw [kv_K_result, if_neg h1, if_neg h2, if_pos h3], rfl⟩ d_K_result_133
  by_cases h4 : op = 11
  · refine lv_tableIn (tgt := 134) hx hb d_K_result_7 (by rw [h4]; decide) (by rw [h4]; decide) (by rw [h4]; rfl) (by decide) ?_
    refine lv_aload_n hx hb d_K_result_134 rfl (lv_at hl 0 rfl) ?_
    refine lv_aload_n hx hb d_K_result_135 rfl (lv_at hl 0 rfl) ?_
    refine kw_get hx hb hg in_K hown hK hP qk hqk ek rfl 10 (by decide) (hg _ kg_121) rfl rfl d_K_result_136 ?_
    refine kw_get hx hb hg in_I hown hK hP q1 hq1 e1 rfl 2 (by decide) (hg _ kg_81) rfl rfl d_K_result_139 ?_
    refine lv_iload_n hx hb d_K_result_142 rfl (lv_at hl 1 rfl) ?_
    refine kw_callix (kw_rV (As := [.int ra, .int x]) (rest := []) (q0 := qk) ⟨hx, hb, hml, hown, hg⟩ ⟨callB_of 2 hg (kg_goodG kg_431) rfl rfl rfl (hg _ kg_6) (hg _ kg_428) (by decide +kernel) ⟨by decide, by decide⟩, hg _ kg_430, hg _ (kg_sel (q := (y_K_element, 15)) (by decide +kernel))⟩ (c_K_element l hqk ek hq1 e1 hq2 e2 hq3 e3 hw ) hK hP hqk ek rfl rfl hl.1 rfl (Nat.le_of_ble_eq_true rfl) d_K_result_143 ⟨Nat.zero_le _, Nat.zero_le _⟩) hA hS (fun H locs hP hS => ?_)
    refine lv_aload_n hx hb d_K_result_146 rfl (lv_at hl 0 rfl) ?_
    refine kw_get hx hb hg in_K hown hK hP qk hqk ek rfl 8 (by decide) (hg _ kg_119) rfl rfl d_K_result_147 ?_
    refine lv_iadd hx hb d_K_result_150 ?_
    exact kw_iret hx hb hr hlocks hP hK hS ⟨by rw [kv_K_result, if_neg h1, if_neg h2, if_neg h3, if_pos h4], rfl⟩ d_K_result_151
  by_cases h5 : op = 13
  · refine lv_tableIn (tgt := 56) hx hb d_K_result_7 (by rw [h5]; decide) (by rw [h5]; decide) (by rw [h5]; rfl) (by decide) ?_
    refine lv_aload_n hx hb d_K_result_56 rfl (lv_at hl 0 rfl) ?_
    refine lv_aload_n hx hb d_K_result_57 rfl (lv_at hl 0 rfl) ?_
    refine kw_get hx hb hg in_K hown hK hP qk hqk ek rfl 10 (by decide) (hg _ kg_121) rfl rfl d_K_result_58 ?_
    refine kw_get hx hb hg in_I hown hK hP q1 hq1 e1 rfl 2 (by decide) (hg _ kg_81) rfl rfl d_K_result_61 ?_
    refine lv_iload_n hx hb d_K_result_64 rfl (lv_at hl 1 rfl) ?_
    refine kw_callix (kw_rV (As := [.int ra, .int x]) (rest := []) (q0 := qk) ⟨hx, hb, hml, hown, hg⟩ ⟨callB_of 2 hg (kg_goodG kg_431) rfl rfl rfl (hg _ kg_6) (hg _ kg_428) (by decide +kernel) ⟨by decide, by decide⟩, hg _ kg_430, hg _ (kg_sel (q := (y_K_element, 15)) (by decide +kernel))⟩ (c_K_element l hqk ek hq1 e1 hq2 e2 hq3 e3 hw ) hK hP hqk ek rfl rfl hl.1 rfl (Nat.le_of_ble_eq_true rfl) d_K_result_65 ⟨Nat.zero_le _, Nat.zero_le _⟩) hA hS (fun H locs hP hS => ?_)
    refine lv_aload_n hx hb d_K_result_68 rfl (lv_at hl 0 rfl) ?_
    refine lv_aload_n hx hb d_K_result_69 rfl (lv_at hl 0 rfl) ?_
    refine kw_get hx hb hg in_K hown hK hP qk hqk ek rfl 10 (by decide) (hg _ kg_121) rfl rfl d_K_result_70 ?_
    refine kw_get hx hb hg in_I hown hK hP q1 hq1 e1 rfl 3 (by decide) (hg _ kg_85) rfl rfl d_K_result_73 ?_
    refine lv_iload_n hx hb d_K_result_76 rfl (lv_at hl 1 rfl) ?_
    refine kw_callix (kw_rV (As := [.int rb, .int x]) (rest := [.int (kv_K_element w f ra x)]) (q0 := qk) ⟨hx, hb, hml, hown, hg⟩ ⟨callB_of 2 hg (kg_goodG kg_431) rfl rfl rfl (hg _ kg_6) (hg _ kg_428) (by decide +kernel) ⟨by decide, by decide⟩, hg _ kg_430, hg _ (kg_sel (q := (y_K_element, 15)) (by decide +kernel))⟩ (c_K_element l hqk ek hq1 e1 hq2 e2 hq3 e3 hw ) hK hP hqk ek rfl rfl hl.1 rfl (Nat.le_of_ble_eq_true rfl) d_K_result_77 ⟨Nat.zero_le _, Nat.zero_le _⟩) hA hS (fun H locs hP hS => ?_)
    refine lv_iadd hx hb d_K_result_80 ?_
    exact kw_iret hx hb hr hlocks hP hK hS ⟨by rw [kv_K_result, if_neg h1, if_neg h2, if_neg h3, if_neg h4, if_pos h5], rfl⟩ d_K_result_81
  by_cases h6 : op = 15
  · refine lv_tableIn (tgt := 152) hx hb d_K_result_7 (by rw [h6]; decide) (by rw [h6]; decide) (by rw [h6]; rfl) (by decide) ?_
    refine lv_aload_n hx hb d_K_result_152 rfl (lv_at hl 0 rfl) ?_
    refine lv_aload_n hx hb d_K_result_153 rfl (lv_at hl 0 rfl) ?_
    refine kw_get hx hb hg in_K hown hK hP qk hqk ek rfl 10 (by decide) (hg _ kg_121) rfl rfl d_K_result_154 ?_
    refine kw_get hx hb hg in_I hown hK hP q1 hq1 e1 rfl 2 (by decide) (hg _ kg_81) rfl rfl d_K_result_157 ?_
    refine lv_iload_n hx hb d_K_result_160 rfl (lv_at hl 1 rfl) ?_
    refine lv_aload_n hx hb d_K_result_161 rfl (lv_at hl 0 rfl) ?_
    refine kw_get hx hb hg in_K hown hK hP qk hqk ek rfl 8 (by decide) (hg _ kg_119) rfl rfl d_K_result_162 ?_
    refine lv_iadd hx hb d_K_result_165 ?_
    refine kw_callix (kw_rV (As := [.int ra, .int (x + xb)]) (rest := []) (q0 := qk) ⟨hx, hb, hml, hown, hg⟩ ⟨callB_of 2 hg (kg_goodG kg_448) rfl rfl rfl (hg _ kg_6) (hg _ kg_445) (by decide +kernel) ⟨by decide, by decide⟩, hg _ kg_447, hg _ (kg_sel (q := (y_K_elementOrZero, 15)) (by decide +kernel))⟩ (c_K_elementOrZero l hqk ek hq1 e1 hq2 e2 hq3 e3 hw ) hK hP hqk ek rfl rfl hl.1 rfl (Nat.le_of_ble_eq_true rfl) d_K_result_166 ⟨Nat.zero_le _, Nat.zero_le _⟩) hA hS (fun H locs hP hS => ?_)
    exact kw_iret hx hb hr hlocks hP hK hS ⟨by rw [kv_K_result, if_neg h1, if_neg h2, if_neg h3, if_neg h4, if_neg h5, if_pos h6], rfl⟩ d_K_result_169
  by_cases h7 : op = 16
  · refine lv_tableIn (tgt := 170) hx hb d_K_result_7 (by rw [h7]; decide) (by rw [h7]; decide) (by rw [h7]; rfl) (by decide) ?_
    refine lv_aload_n hx hb d_K_result_170 rfl (lv_at hl 0 rfl) ?_
    refine lv_aload_n hx hb d_K_result_171 rfl (lv_at hl 0 rfl) ?_
    refine kw_get hx hb hg in_K hown hK hP qk hqk ek rfl 10 (by decide) (hg _ kg_121) rfl rfl d_K_result_172 ?_
    refine kw_get hx hb hg in_I hown hK hP q1 hq1 e1 rfl 2 (by decide) (hg _ kg_81) rfl rfl d_K_result_175 ?_
    refine lv_aload_n hx hb d_K_result_178 rfl (lv_at hl 0 rfl) ?_
    refine kw_get hx hb hg in_K hown hK hP qk hqk ek rfl 0 (by decide) (hg _ kg_111) rfl rfl d_K_result_179 ?_
    refine lv_aload_n hx hb d_K_result_182 rfl (lv_at hl 0 rfl) ?_
    refine lv_aload_n hx hb d_K_result_183 rfl (lv_at hl 0 rfl) ?_
    refine kw_get hx hb hg in_K hown hK hP qk hqk ek rfl 10 (by decide) (hg _ kg_121) rfl rfl d_K_result_184 ?_
    refine kw_get hx hb hg in_I hown hK hP q1 hq1 e1 rfl 3 (by decide) (hg _ kg_85) rfl rfl d_K_result_187 ?_
    refine lv_iload_n hx hb d_K_result_190 rfl (lv_at hl 1 rfl) ?_
    refine kw_callix (kw_rV (As := [.int rb, .int x]) (rest := [.ref (ad q2), .int ra, .ref (ad qk)]) (q0 := qk) ⟨hx, hb, hml, hown, hg⟩ ⟨callB_of 2 hg (kg_goodG kg_394) rfl rfl rfl (hg _ kg_6) (hg _ kg_391) (by decide +kernel) ⟨by decide, by decide⟩, hg _ kg_393, hg _ (kg_sel (q := (y_K_placeOf, 15)) (by decide +kernel))⟩ (c_K_placeOf l hqk ek ) hK hP hqk ek rfl rfl hl.1 rfl (Nat.le_of_ble_eq_true rfl) d_K_result_191 ⟨Nat.zero_le _, Nat.zero_le _⟩) hA hS (fun H locs hP hS => ?_)
    refine lv_aload_n hx hb d_K_result_194 rfl (lv_at hl 0 rfl) ?_
    refine kw_get hx hb hg in_K hown hK hP qk hqk ek rfl 4 (by decide) (hg _ kg_115) rfl rfl d_K_result_195 ?_
    refine kw_callix (kw_rV (As := [.int (kv_K_placeOf w rb x), .int (nI w)]) (rest := [.int ra, .ref (ad qk)]) (q0 := q2) ⟨hx, hb, hml, hown, hg⟩ ⟨callB_of 2 hg (kg_goodG kg_220) rfl rfl rfl (hg _ kg_3) (hg _ kg_423) (by decide +kernel) ⟨by decide, by decide⟩, hg _ kg_218, hg _ kg_219⟩ (c_B_bareNumber l hq2 e2 hq3 e3 hw (by decide) ) hK hP hq2 e2 rfl rfl hl.1 rfl (Nat.le_of_ble_eq_true rfl) d_K_result_198 ⟨Nat.zero_le _, Nat.zero_le _⟩) hA hS (fun H locs hP hS => ?_)
    refine kw_callix (kw_rV (As := [.int ra, .int (kv_bare f 64 (kv_K_placeOf w rb x) w)]) (rest := []) (q0 := qk) ⟨hx, hb, hml, hown, hg⟩ ⟨callB_of 2 hg (kg_goodG kg_448) rfl rfl rfl (hg _ kg_6) (hg _ kg_445) (by decide +kernel) ⟨by decide, by decide⟩, hg _ kg_447, hg _ (kg_sel (q := (y_K_elementOrZero, 15)) (by decide +kernel))⟩ (c_K_elementOrZero l hqk ek hq1 e1 hq2 e2 hq3 e3 hw ) hK hP hqk ek rfl rfl hl.1 rfl (Nat.le_of_ble_eq_true rfl) d_K_result_201 ⟨Nat.zero_le _, Nat.zero_le _⟩) hA hS (fun H locs hP hS => ?_)
    exact kw_iret hx hb hr hlocks hP hK hS ⟨by rw [kv_K_result, if_neg h1, if_neg h2, if_neg h3, if_neg h4, if_neg h5, if_neg h6, if_pos h7], rfl⟩ d_K_result_204
  refine kw_tbl (tgt := 205) (N := 9) hx hb d_K_result_7 rfl (by decide) (fun i hi => match i, hi with | 0, _ => Or.inr (lv_neT h1 rfl) | 1, _ => Or.inr (lv_neT h2 rfl) | 2, _ => Or.inr (lv_neT h3 rfl) | 3, _ => Or.inr (lv_neT h4 rfl) | 4, _ => Or.inl rfl | 5, _ => Or.inr (lv_neT h5 rfl) | 6, _ => Or.inl rfl | 7, _ => Or.inr (lv_neT h6 rfl) | 8, _ => Or.inr (lv_neT h7 rfl) | z + 9, h => absurd h (by omega)) ?_
  refine lv_aload_n hx hb d_K_result_205 rfl (lv_at hl 0 rfl) ?_
  refine kw_get hx hb hg in_K hown hK hP qk hqk ek rfl 1 (by decide) (hg _ kg_112) rfl rfl d_K_result_206 ?_
  refine lv_aload_n hx hb d_K_result_209 rfl (lv_at hl 0 rfl) ?_
  refine lv_iload_n hx hb d_K_result_210 rfl (lv_at hl 1 rfl) ?_
  refine kw_callix (kw_rV (As := [.int x]) (rest := [.ref (ad q4)]) (q0 := qk) ⟨hx, hb, hml, hown, hg⟩ ⟨callB_of 1 hg (kg_goodG kg_452) rfl rfl rfl (hg _ kg_6) (hg _ kg_449) (by decide +kernel) ⟨by decide, by decide⟩, hg _ kg_451, hg _ (kg_sel (q := (y_K_placeInMemory, 15)) (by decide +kernel))⟩ (c_K_placeInMemory l hqk ek hq1 e1 hq2 e2 hq3 e3 hw ) hK hP hqk ek rfl rfl hl.1 rfl (Nat.le_of_ble_eq_true rfl) d_K_result_211 ⟨Nat.zero_le _, Nat.zero_le _⟩) hA hS (fun H locs hP hS => ?_)
  refine lv_aload_n hx hb d_K_result_214 rfl (lv_at hl 0 rfl) ?_
  refine kw_get hx hb hg in_K hown hK hP qk hqk ek rfl 4 (by decide) (hg _ kg_115) rfl rfl d_K_result_215 ?_
  refine kw_callix (kw_rV (As := [.int (kv_K_placeInMemory w xa xb op rb f x), .int (nI w)]) (rest := []) (q0 := q4) ⟨hx, hb, hml, hown, hg⟩ ⟨callB_of 2 hg (kg_goodG kg_216) rfl rfl rfl (hg _ kg_3) (hg _ kg_432) (by decide +kernel) ⟨by decide, by decide⟩, hg _ kg_214, hg _ kg_215⟩ (c_B_number l hq4 e4 hq5 e5 (by omega) (by decide) ) hK hP hq4 e4 rfl rfl hl.1 rfl (Nat.le_of_ble_eq_true rfl) d_K_result_218 ⟨Nat.zero_le _, Nat.zero_le _⟩) hA hS (fun H locs hP hS => ?_)
  exact kw_iret hx hb hr hlocks hP hK hS ⟨by rw [kv_K_result, if_neg h1, if_neg h2, if_neg h3, if_neg h4, if_neg h5, if_neg h6, if_neg h7], rfl⟩ d_K_result_221
end
section
/-! Work: what writes -/
def kv_fb (w : Nat) (xa xb op rb mk : Int32) (f : Nat → Int32) (x : Int32) : Nat → Nat → Int32
  | 0, _ => -1
  | k + 1, i => if kv_K_placeInMemory w xa xb op rb f (nI i) < 0 then (if kv_K_isWorkedOn mk f (nI i) = 0 then kv_fb w xa xb op rb mk f x k (i + 1) else nI i)
    else if kv_K_placeInMemory w xa xb op rb f (nI i) ≤ (x - nI w) then kv_fb w xa xb op rb mk f x k (i + 1) else if kv_K_isWorkedOn mk f (nI i) = 0 then kv_fb w xa xb op rb mk f x k (i + 1) else nI i
def kv_K_firstBad (w fr tt : Nat) (xa xb op rb mk : Int32) (f : Nat → Int32) (x : Int32) : Int32 := kv_fb w xa xb op rb mk f x (tt - fr) fr

set_option maxRecDepth 100000 in
set_option maxHeartbeats 4000000 in
theorem c_K_firstBad (l : Launch) {D : va_G} {ad : Nat → Nat} {n : Nat} {cs : Nat → va_E} {cI : ClassId} {cB : ClassId} {cJ : ClassId} {cQ : ClassId} {cW : ClassId} {qk : Nat} {q1 : Nat} {q2 : Nat} {q3 : Nat} {q4 : Nat} {q6 : Nat} {q7 : Nat} {w : Nat} {fr : Nat} {tt : Nat} {dn : Nat} {db : Nat} {gr : Int32} {mo : Int32} {xa : Int32} {xb : Int32} {nu : Int32} {op : Int32} {rd : Int32} {ra : Int32} {rb : Int32} {rn : Int32} {mk : Int32} {f : Nat → Int32} {x : Int32} (hqk : qk < n) (ek : cs qk = .inr (3, [.ref (ad q2), .ref (ad q4), .ref (ad q6), .ref (ad q7), .int (nI w), .int gr, .int mo, .int xa, .int xb, .int (nI fr), .ref (ad q1), .int nu, .int (nI tt), .int (nI dn), .int (nI db)])) (hq1 : q1 < n) (e1 : cs q1 = .inr (1, [.int op, .int rd, .int ra, .int rb, .int rn, .int mk])) (hq2 : q2 < n) (e2 : cs q2 = .inr (0, [.ref (ad q3)])) (hq3 : q3 < n) (e3 : cs q3 = .inl (cB, 64, .inl (f))) (hw : w ≤ 64) (hft : fr ≤ tt) (htt : tt < 2 ^ 30) : kw_mi l y_K_firstBad w_K_firstBad (kr 2) D kc (kt cI cB cJ cQ cW) ad n cs [.ref (ad qk), .int x] (fun r9 c9 => r9 = kv_K_firstBad w fr tt xa xb op rb mk f x ∧ c9 = cs) := by
  refine kw_of (cc := b_K_firstBad) (maxL := 4) (ret := (some .int)) (by decide) rfl (Nat.le_of_ble_eq_true rfl) ?_
  intro p e s m below meth c ls hx hb hr hml hown hts hlocks hP hK hl
  have hg : ∀ w9 ∈ kg_G, w9.before [.ref (ad qk), .int x].toArray s = true := fun w9 h9 => hts w9 (List.mem_cons_of_mem _ h9)
  have hown : s.vm.findClass "LaneMachine$Work" = some m.cls := hown
  have hA : ∀ k, k < n → kw_A ad n (ad k) := fun k hk => ⟨k, hk, rfl⟩
  have hS : va_S (kw_A ad n) s.heap s.heap [] := va_S.rf
  have hl : lv_has ls 4 [(0, .ref (ad qk)), (1, .int x)] := hl
  refine lv_aload_n hx hb d_K_firstBad_0 rfl (lv_at hl 0 rfl) ?_
  refine kw_get hx hb hg in_K hown hK hP qk hqk ek rfl 9 (by decide) (hg _ kg_120) rfl rfl d_K_firstBad_1 ?_
  refine lv_istore_n (lv' := [(2, .int (nI fr)), (0, .ref (ad qk)), (1, .int x)]) hx hb d_K_firstBad_4 rfl hl (by decide) rfl (fun ls hl => ?_)
  have loop : ∀ (kk : Nat) (i : Nat) (H : Heap) (locs : List Loc) (ls : Array Slot), i + kk = tt → kv_K_firstBad w fr tt xa xb op rb mk f x = kv_fb w xa xb op rb mk f x kk i → va_P D kc (kw_w ad cs n) H → va_S (kw_A ad n) s.heap H locs → lv_has ls 4 [(2, .int (nI i)), (0, .ref (ad qk)), (1, .int x)] → W p l e (kr 2) s m [.ref (ad qk), .int x].toArray below meth c H locs 0 0 (MQ below (va_Qi (fun r9 c9 => r9 = kv_K_firstBad w fr tt xa xb op rb mk f x ∧ c9 = cs) (kw_Pre D kc (kt cI cB cJ cQ cW) ad n) (kw_A ad n)) [.ref (ad qk), .int x].toArray s 0 0 (kw_A ad n)) (F0 m 5 ls []) := by
    intro kk
    induction kk with
    | zero =>
      intro i H locs ls hik hv hP hS hl
      refine lv_iload_n hx hb d_K_firstBad_5 rfl (lv_at hl 0 rfl) ?_
      refine lv_aload_n hx hb d_K_firstBad_6 rfl (lv_at hl 1 rfl) ?_
      refine kw_get hx hb hg in_K hown hK hP qk hqk ek rfl 12 (by decide) (hg _ kg_125) rfl rfl d_K_firstBad_7 ?_
      refine lv_icmp_ge (tgt := 49) hx hb d_K_firstBad_10 (by decide) (fun _ => ?_) (fun h1 => absurd (nI_le (by omega) (by omega)) h1)
      refine lv_iconst (v := (-1)) hx hb d_K_firstBad_49 (by decide) ?_
      exact kw_iret hx hb hr hlocks hP hK hS ⟨hv.symm, rfl⟩ d_K_firstBad_50
    | succ j ih =>
      intro i H locs ls hik hv hP hS hl
      refine lv_iload_n hx hb d_K_firstBad_5 rfl (lv_at hl 0 rfl) ?_
      refine lv_aload_n hx hb d_K_firstBad_6 rfl (lv_at hl 1 rfl) ?_
      refine kw_get hx hb hg in_K hown hK hP qk hqk ek rfl 12 (by decide) (hg _ kg_125) rfl rfl d_K_firstBad_7 ?_
      refine lv_icmp_ge (tgt := 49) hx hb d_K_firstBad_10 (by decide) (fun h2 => absurd h2 (nI_ge (by omega) (by omega))) (fun _ => ?_)
      refine lv_aload_n hx hb d_K_firstBad_13 rfl (lv_at hl 1 rfl) ?_
      refine lv_iload_n hx hb d_K_firstBad_14 rfl (lv_at hl 0 rfl) ?_
      refine kw_callix (kw_rV (As := [.int (nI i)]) (rest := []) (q0 := qk) ⟨hx, hb, hml, hown, hg⟩ ⟨callB_of 1 hg (kg_goodG kg_452) rfl rfl rfl (hg _ kg_6) (hg _ kg_449) (by decide +kernel) ⟨by decide, by decide⟩, hg _ kg_451, hg _ (kg_sel (q := (y_K_placeInMemory, 15)) (by decide +kernel))⟩ (c_K_placeInMemory l hqk ek hq1 e1 hq2 e2 hq3 e3 hw ) hK hP hqk ek rfl rfl hl.1 rfl (Nat.le_of_ble_eq_true rfl) d_K_firstBad_15 ⟨Nat.zero_le _, Nat.zero_le _⟩) hA hS (fun H locs hP hS => ?_)
      refine lv_istore_n (lv' := [(3, .int (kv_K_placeInMemory w xa xb op rb f (nI i))), (2, .int (nI i)), (0, .ref (ad qk)), (1, .int x)]) hx hb d_K_firstBad_18 rfl hl (by decide) rfl (fun ls hl => ?_)
      refine lv_iload_n hx hb d_K_firstBad_19 rfl (lv_at hl 0 rfl) ?_
      refine lv_if_lt (tgt := 33) hx hb d_K_firstBad_20 (by decide) (fun h3 => ?_) (fun h3 => ?_)
      · refine lv_aload_n hx hb d_K_firstBad_33 rfl (lv_at hl 2 rfl) ?_
        refine lv_iload_n hx hb d_K_firstBad_34 rfl (lv_at hl 1 rfl) ?_
        refine kw_callix (kw_rV (As := [.int (nI i)]) (rest := []) (q0 := qk) ⟨hx, hb, hml, hown, hg⟩ ⟨callB_of 1 hg (kg_goodG kg_422) rfl rfl rfl (hg _ kg_6) (hg _ kg_419) (by decide +kernel) ⟨by decide, by decide⟩, hg _ kg_421, hg _ (kg_sel (q := (y_K_isWorkedOn, 15)) (by decide +kernel))⟩ (c_K_isWorkedOn l hqk ek hq1 e1 hq2 e2 hq3 e3 ) hK hP hqk ek rfl rfl hl.1 rfl (Nat.le_of_ble_eq_true rfl) d_K_firstBad_35 ⟨Nat.zero_le _, Nat.zero_le _⟩) hA hS (fun H locs hP hS => ?_)
        refine lv_if_eq (tgt := 43) hx hb d_K_firstBad_38 (by decide) (fun h4 => ?_) (fun h4 => ?_)
        · refine lv_iinc (k := 1) (v := nI (i + 1)) (lv' := [(2, .int (nI (i + 1))), (3, .int (kv_K_placeInMemory w xa xb op rb f (nI i))), (0, .ref (ad qk)), (1, .int x)]) hx hb d_K_firstBad_43 hl rfl ((nI_succ i).symm) (by decide) rfl (fun ls hl => ?_)
          refine lv_goto (tgt := 5) hx hb d_K_firstBad_46 (by decide) ?_
          exact ih ((i + 1)) _ _ _ (by omega) (by rw [hv, kv_fb, if_pos h3, if_pos h4]) (hP) hS (lv_sub hl [0, 2, 3] rfl)
        · refine lv_iload_n hx hb d_K_firstBad_41 rfl (lv_at hl 1 rfl) ?_
          exact kw_iret hx hb hr hlocks hP hK hS ⟨by rw [hv, kv_fb, if_pos h3, if_neg h4], rfl⟩ d_K_firstBad_42
      · refine lv_iload_n hx hb d_K_firstBad_23 rfl (lv_at hl 0 rfl) ?_
        refine lv_iload_n hx hb d_K_firstBad_24 rfl (lv_at hl 3 rfl) ?_
        refine lv_aload_n hx hb d_K_firstBad_25 rfl (lv_at hl 2 rfl) ?_
        refine kw_get hx hb hg in_K hown hK hP qk hqk ek rfl 4 (by decide) (hg _ kg_115) rfl rfl d_K_firstBad_26 ?_
        refine lv_isub hx hb d_K_firstBad_29 ?_
        refine lv_icmp_le (tgt := 43) hx hb d_K_firstBad_30 (by decide) (fun h5 => ?_) (fun h5 => ?_)
        · refine lv_iinc (k := 1) (v := nI (i + 1)) (lv' := [(2, .int (nI (i + 1))), (3, .int (kv_K_placeInMemory w xa xb op rb f (nI i))), (0, .ref (ad qk)), (1, .int x)]) hx hb d_K_firstBad_43 hl rfl ((nI_succ i).symm) (by decide) rfl (fun ls hl => ?_)
          refine lv_goto (tgt := 5) hx hb d_K_firstBad_46 (by decide) ?_
          exact ih ((i + 1)) _ _ _ (by omega) (by rw [hv, kv_fb, if_neg h3, if_pos h5]) (hP) hS (lv_sub hl [0, 2, 3] rfl)
        · refine lv_aload_n hx hb d_K_firstBad_33 rfl (lv_at hl 2 rfl) ?_
          refine lv_iload_n hx hb d_K_firstBad_34 rfl (lv_at hl 1 rfl) ?_
          refine kw_callix (kw_rV (As := [.int (nI i)]) (rest := []) (q0 := qk) ⟨hx, hb, hml, hown, hg⟩ ⟨callB_of 1 hg (kg_goodG kg_422) rfl rfl rfl (hg _ kg_6) (hg _ kg_419) (by decide +kernel) ⟨by decide, by decide⟩, hg _ kg_421, hg _ (kg_sel (q := (y_K_isWorkedOn, 15)) (by decide +kernel))⟩ (c_K_isWorkedOn l hqk ek hq1 e1 hq2 e2 hq3 e3 ) hK hP hqk ek rfl rfl hl.1 rfl (Nat.le_of_ble_eq_true rfl) d_K_firstBad_35 ⟨Nat.zero_le _, Nat.zero_le _⟩) hA hS (fun H locs hP hS => ?_)
          refine lv_if_eq (tgt := 43) hx hb d_K_firstBad_38 (by decide) (fun h6 => ?_) (fun h6 => ?_)
          · refine lv_iinc (k := 1) (v := nI (i + 1)) (lv' := [(2, .int (nI (i + 1))), (3, .int (kv_K_placeInMemory w xa xb op rb f (nI i))), (0, .ref (ad qk)), (1, .int x)]) hx hb d_K_firstBad_43 hl rfl ((nI_succ i).symm) (by decide) rfl (fun ls hl => ?_)
            refine lv_goto (tgt := 5) hx hb d_K_firstBad_46 (by decide) ?_
            exact ih ((i + 1)) _ _ _ (by omega) (by rw [hv, kv_fb, if_neg h3, if_neg h5, if_pos h6]) (hP) hS (lv_sub hl [0, 2, 3] rfl)
          · refine lv_iload_n hx hb d_K_firstBad_41 rfl (lv_at hl 1 rfl) ?_
            exact kw_iret hx hb hr hlocks hP hK hS ⟨by rw [hv, kv_fb, if_neg h3, if_neg h5, if_neg h6], rfl⟩ d_K_firstBad_42
  exact loop (tt - fr) fr _ _ _ (by omega) (rfl) (hP) hS (lv_sub hl [0, 1, 2] rfl)

def kv_K_writeMaskBit_q3 (rd : Int32) (f : Nat → Int32) (x : Int32) (y : Int32) : Nat → Int32 := if y = 0 then (kv_write f 64 ((8 * rd) + (x / 8)) 1 ((kv_bare f 64 ((8 * rd) + (x / 8)) 1) &&& (((1 : Int32) <<< ((x - x / 8 * 8) &&& 31)) ^^^ ((-1))))) else (kv_write f 64 ((8 * rd) + (x / 8)) 1 (((kv_bare f 64 ((8 * rd) + (x / 8)) 1) &&& (((1 : Int32) <<< ((x - x / 8 * 8) &&& 31)) ^^^ ((-1)))) ||| ((1 : Int32) <<< ((x - x / 8 * 8) &&& 31))))
set_option maxRecDepth 100000 in
set_option maxHeartbeats 4000000 in
theorem c_K_writeMaskBit (l : Launch) {D : va_G} {ad : Nat → Nat} {n : Nat} {cs : Nat → va_E} (hJ : kw_J ad n) {cI : ClassId} {cB : ClassId} {cJ : ClassId} {cQ : ClassId} {cW : ClassId} {qk : Nat} {q1 : Nat} {q2 : Nat} {q3 : Nat} {q4 : Nat} {q6 : Nat} {q7 : Nat} {w : Nat} {fr : Nat} {tt : Nat} {dn : Nat} {db : Nat} {gr : Int32} {mo : Int32} {xa : Int32} {xb : Int32} {nu : Int32} {op : Int32} {rd : Int32} {ra : Int32} {rb : Int32} {rn : Int32} {mk : Int32} {f : Nat → Int32} {x : Int32} {y : Int32} (hqk : qk < n) (ek : cs qk = .inr (3, [.ref (ad q2), .ref (ad q4), .ref (ad q6), .ref (ad q7), .int (nI w), .int gr, .int mo, .int xa, .int xb, .int (nI fr), .ref (ad q1), .int nu, .int (nI tt), .int (nI dn), .int (nI db)])) (hq1 : q1 < n) (e1 : cs q1 = .inr (1, [.int op, .int rd, .int ra, .int rb, .int rn, .int mk])) (hq2 : q2 < n) (e2 : cs q2 = .inr (0, [.ref (ad q3)])) (hq3 : q3 < n) (e3 : cs q3 = .inl (cB, 64, .inl (f)))  : kw_mv l y_K_writeMaskBit w_K_writeMaskBit (kr 1) D kc (kt cI cB cJ cQ cW) ad n cs [.ref (ad qk), .int x, .int y] (fun c9 => c9 = va_up cs q3 (.inl (cB, 64, .inl (kv_K_writeMaskBit_q3 rd f x y)))) := by
  refine kw_of (cc := b_K_writeMaskBit) (maxL := 6) (ret := none) (by decide) rfl (Nat.le_of_ble_eq_true rfl) ?_
  intro p e s m below meth c ls hx hb hr hml hown hts hlocks hP hK hl
  have hg : ∀ w9 ∈ kg_G, w9.before [.ref (ad qk), .int x, .int y].toArray s = true := fun w9 h9 => hts w9 (List.mem_cons_of_mem _ h9)
  have hown : s.vm.findClass "LaneMachine$Work" = some m.cls := hown
  have hA : ∀ k, k < n → kw_A ad n (ad k) := fun k hk => ⟨k, hk, rfl⟩
  have hS : va_S (kw_A ad n) s.heap s.heap [] := va_S.rf
  have hl : lv_has ls 6 [(0, .ref (ad qk)), (1, .int x), (2, .int y)] := hl
  have hn_qk_q1 : qk ≠ q1 := fun h => by rw [h, e1] at ek; simp at ek
  have hn_qk_q2 : qk ≠ q2 := fun h => by rw [h, e2] at ek; simp at ek
  have hn_qk_q3 : qk ≠ q3 := fun h => by rw [h, e3] at ek; simp at ek
  have hn_q1_q2 : q1 ≠ q2 := fun h => by rw [h, e2] at e1; simp at e1
  have hn_q1_q3 : q1 ≠ q3 := fun h => by rw [h, e3] at e1; simp at e1
  have hn_q2_q3 : q2 ≠ q3 := fun h => by rw [h, e3] at e2; simp at e2
  refine lv_bipush (v := 8) hx hb d_K_writeMaskBit_0 (by decide) ?_
  refine lv_aload_n hx hb d_K_writeMaskBit_2 rfl (lv_at hl 0 rfl) ?_
  refine kw_get hx hb hg in_K hown hK hP qk hqk ek rfl 10 (by decide) (hg _ kg_121) rfl rfl d_K_writeMaskBit_3 ?_
  refine kw_get hx hb hg in_I hown hK hP q1 hq1 e1 rfl 1 (by decide) (hg _ kg_77) rfl rfl d_K_writeMaskBit_6 ?_
  refine lv_imul hx hb d_K_writeMaskBit_9 ?_
  refine lv_iload_n hx hb d_K_writeMaskBit_10 rfl (lv_at hl 1 rfl) ?_
  refine lv_bipush (v := 8) hx hb d_K_writeMaskBit_11 (by decide) ?_
  refine lv_idiv hx hb d_K_writeMaskBit_13 (by decide) ?_
  refine lv_iadd hx hb d_K_writeMaskBit_14 ?_
  refine lv_istore_n (lv' := [(3, .int ((8 * rd) + (x / 8))), (0, .ref (ad qk)), (1, .int x), (2, .int y)]) hx hb d_K_writeMaskBit_15 rfl hl (by decide) rfl (fun ls hl => ?_)
  refine lv_iconst (v := 1) hx hb d_K_writeMaskBit_16 (by decide) ?_
  refine lv_iload_n hx hb d_K_writeMaskBit_17 rfl (lv_at hl 2 rfl) ?_
  refine lv_bipush (v := 8) hx hb d_K_writeMaskBit_18 (by decide) ?_
  refine lv_irem hx hb d_K_writeMaskBit_20 (by decide) ?_
  refine lv_ishl hx hb d_K_writeMaskBit_21 ?_
  refine lv_istore (lv' := [(4, .int ((1 : Int32) <<< ((x - x / 8 * 8) &&& 31))), (3, .int ((8 * rd) + (x / 8))), (0, .ref (ad qk)), (1, .int x), (2, .int y)]) hx hb d_K_writeMaskBit_22 hl (by decide) rfl (fun ls hl => ?_)
  refine lv_aload_n hx hb d_K_writeMaskBit_24 rfl (lv_at hl 2 rfl) ?_
  refine kw_get hx hb hg in_K hown hK hP qk hqk ek rfl 0 (by decide) (hg _ kg_111) rfl rfl d_K_writeMaskBit_25 ?_
  refine lv_iload_n hx hb d_K_writeMaskBit_28 rfl (lv_at hl 1 rfl) ?_
  refine lv_iconst (v := 1) hx hb d_K_writeMaskBit_29 (by decide) ?_
  refine kw_callix (kw_rV (As := [.int ((8 * rd) + (x / 8)), .int 1]) (rest := []) (q0 := q2) ⟨hx, hb, hml, hown, hg⟩ ⟨callB_of 2 hg (kg_goodG kg_220) rfl rfl rfl (hg _ kg_3) (hg _ kg_423) (by decide +kernel) ⟨by decide, by decide⟩, hg _ kg_218, hg _ kg_219⟩ (c_B_bareNumber l hq2 e2 hq3 e3 (by decide) (by decide) (w := 1)) hK hP hq2 e2 rfl rfl hl.1 rfl (Nat.le_of_ble_eq_true rfl) d_K_writeMaskBit_30 ⟨Nat.zero_le _, Nat.zero_le _⟩) hA hS (fun H locs hP hS => ?_)
  refine lv_iload hx hb d_K_writeMaskBit_33 (lv_at hl 0 rfl) ?_
  refine lv_iconst (v := (-1)) hx hb d_K_writeMaskBit_35 (by decide) ?_
  refine lv_ixor hx hb d_K_writeMaskBit_36 ?_
  refine lv_iand hx hb d_K_writeMaskBit_37 ?_
  refine lv_istore (lv' := [(5, .int ((kv_bare f 64 ((8 * rd) + (x / 8)) 1) &&& (((1 : Int32) <<< ((x - x / 8 * 8) &&& 31)) ^^^ ((-1))))), (4, .int ((1 : Int32) <<< ((x - x / 8 * 8) &&& 31))), (3, .int ((8 * rd) + (x / 8))), (0, .ref (ad qk)), (1, .int x), (2, .int y)]) hx hb d_K_writeMaskBit_38 hl (by decide) rfl (fun ls hl => ?_)
  refine lv_aload_n hx hb d_K_writeMaskBit_40 rfl (lv_at hl 3 rfl) ?_
  refine kw_get hx hb hg in_K hown hK hP qk hqk ek rfl 0 (by decide) (hg _ kg_111) rfl rfl d_K_writeMaskBit_41 ?_
  refine lv_iload_n hx hb d_K_writeMaskBit_44 rfl (lv_at hl 2 rfl) ?_
  refine lv_iconst (v := 1) hx hb d_K_writeMaskBit_45 (by decide) ?_
  refine lv_iload_n hx hb d_K_writeMaskBit_46 rfl (lv_at hl 5 rfl) ?_
  refine lv_if_eq (tgt := 58) hx hb d_K_writeMaskBit_47 (by decide) (fun h1 => ?_) (fun h1 => ?_)
  · refine lv_iload hx hb d_K_writeMaskBit_58 (lv_at hl 0 rfl) ?_
    refine kw_callvx (kw_rV (As := [.int ((8 * rd) + (x / 8)), .int 1, .int ((kv_bare f 64 ((8 * rd) + (x / 8)) 1) &&& (((1 : Int32) <<< ((x - x / 8 * 8) &&& 31)) ^^^ ((-1))))]) (rest := []) (q0 := q2) ⟨hx, hb, hml, hown, hg⟩ ⟨callB_of 3 hg (kg_goodG kg_436) rfl rfl rfl (hg _ kg_3) (hg _ kg_433) (by decide +kernel) ⟨by decide, by decide⟩, hg _ kg_434, hg _ kg_435⟩ (c_B_write l hJ hq2 e2 hq3 e3 (by decide) (by decide) (w := 1)) hK hP hq2 e2 rfl rfl hl.1 rfl (Nat.le_of_ble_eq_true rfl) d_K_writeMaskBit_60 ⟨Nat.zero_le _, Nat.zero_le _⟩) hA hS (fun H locs hP hS => ?_)
    have ek : (va_up cs q3 (.inl (cB, 64, .inl (kv_write f 64 ((8 * rd) + (x / 8)) 1 ((kv_bare f 64 ((8 * rd) + (x / 8)) 1) &&& (((1 : Int32) <<< ((x - x / 8 * 8) &&& 31)) ^^^ ((-1)))))))) qk = .inr (3, [.ref (ad q2), .ref (ad q4), .ref (ad q6), .ref (ad q7), .int (nI w), .int gr, .int mo, .int xa, .int xb, .int (nI fr), .ref (ad q1), .int nu, .int (nI tt), .int (nI dn), .int (nI db)]) := (va_up_ne _ _ (hn_qk_q3)).trans ek
    have e1 : (va_up cs q3 (.inl (cB, 64, .inl (kv_write f 64 ((8 * rd) + (x / 8)) 1 ((kv_bare f 64 ((8 * rd) + (x / 8)) 1) &&& (((1 : Int32) <<< ((x - x / 8 * 8) &&& 31)) ^^^ ((-1)))))))) q1 = .inr (1, [.int op, .int rd, .int ra, .int rb, .int rn, .int mk]) := (va_up_ne _ _ (hn_q1_q3)).trans e1
    have e2 : (va_up cs q3 (.inl (cB, 64, .inl (kv_write f 64 ((8 * rd) + (x / 8)) 1 ((kv_bare f 64 ((8 * rd) + (x / 8)) 1) &&& (((1 : Int32) <<< ((x - x / 8 * 8) &&& 31)) ^^^ ((-1)))))))) q2 = .inr (0, [.ref (ad q3)]) := (va_up_ne _ _ (hn_q2_q3)).trans e2
    have e3 : (va_up cs q3 (.inl (cB, 64, .inl (kv_write f 64 ((8 * rd) + (x / 8)) 1 ((kv_bare f 64 ((8 * rd) + (x / 8)) 1) &&& (((1 : Int32) <<< ((x - x / 8 * 8) &&& 31)) ^^^ ((-1)))))))) q3 = .inl (cB, 64, .inl (kv_write f 64 ((8 * rd) + (x / 8)) 1 ((kv_bare f 64 ((8 * rd) + (x / 8)) 1) &&& (((1 : Int32) <<< ((x - x / 8 * 8) &&& 31)) ^^^ ((-1)))))) := va_up_self _ _ _
    exact kw_vret hx hb hr hlocks hP hK hS (by rw [show kv_K_writeMaskBit_q3 rd f x y = kv_write f 64 ((8 * rd) + (x / 8)) 1 ((kv_bare f 64 ((8 * rd) + (x / 8)) 1) &&& (((1 : Int32) <<< ((x - x / 8 * 8) &&& 31)) ^^^ ((-1)))) from (by rw [kv_K_writeMaskBit_q3, if_pos h1])]) d_K_writeMaskBit_63
  · refine lv_iload hx hb d_K_writeMaskBit_50 (lv_at hl 0 rfl) ?_
    refine lv_iload hx hb d_K_writeMaskBit_52 (lv_at hl 1 rfl) ?_
    refine lv_ior hx hb d_K_writeMaskBit_54 ?_
    refine lv_goto (tgt := 60) hx hb d_K_writeMaskBit_55 (by decide) ?_
    refine kw_callvx (kw_rV (As := [.int ((8 * rd) + (x / 8)), .int 1, .int (((kv_bare f 64 ((8 * rd) + (x / 8)) 1) &&& (((1 : Int32) <<< ((x - x / 8 * 8) &&& 31)) ^^^ ((-1)))) ||| ((1 : Int32) <<< ((x - x / 8 * 8) &&& 31)))]) (rest := []) (q0 := q2) ⟨hx, hb, hml, hown, hg⟩ ⟨callB_of 3 hg (kg_goodG kg_436) rfl rfl rfl (hg _ kg_3) (hg _ kg_433) (by decide +kernel) ⟨by decide, by decide⟩, hg _ kg_434, hg _ kg_435⟩ (c_B_write l hJ hq2 e2 hq3 e3 (by decide) (by decide) (w := 1)) hK hP hq2 e2 rfl rfl hl.1 rfl (Nat.le_of_ble_eq_true rfl) d_K_writeMaskBit_60 ⟨Nat.zero_le _, Nat.zero_le _⟩) hA hS (fun H locs hP hS => ?_)
    have ek : (va_up cs q3 (.inl (cB, 64, .inl (kv_write f 64 ((8 * rd) + (x / 8)) 1 (((kv_bare f 64 ((8 * rd) + (x / 8)) 1) &&& (((1 : Int32) <<< ((x - x / 8 * 8) &&& 31)) ^^^ ((-1)))) ||| ((1 : Int32) <<< ((x - x / 8 * 8) &&& 31))))))) qk = .inr (3, [.ref (ad q2), .ref (ad q4), .ref (ad q6), .ref (ad q7), .int (nI w), .int gr, .int mo, .int xa, .int xb, .int (nI fr), .ref (ad q1), .int nu, .int (nI tt), .int (nI dn), .int (nI db)]) := (va_up_ne _ _ (hn_qk_q3)).trans ek
    have e1 : (va_up cs q3 (.inl (cB, 64, .inl (kv_write f 64 ((8 * rd) + (x / 8)) 1 (((kv_bare f 64 ((8 * rd) + (x / 8)) 1) &&& (((1 : Int32) <<< ((x - x / 8 * 8) &&& 31)) ^^^ ((-1)))) ||| ((1 : Int32) <<< ((x - x / 8 * 8) &&& 31))))))) q1 = .inr (1, [.int op, .int rd, .int ra, .int rb, .int rn, .int mk]) := (va_up_ne _ _ (hn_q1_q3)).trans e1
    have e2 : (va_up cs q3 (.inl (cB, 64, .inl (kv_write f 64 ((8 * rd) + (x / 8)) 1 (((kv_bare f 64 ((8 * rd) + (x / 8)) 1) &&& (((1 : Int32) <<< ((x - x / 8 * 8) &&& 31)) ^^^ ((-1)))) ||| ((1 : Int32) <<< ((x - x / 8 * 8) &&& 31))))))) q2 = .inr (0, [.ref (ad q3)]) := (va_up_ne _ _ (hn_q2_q3)).trans e2
    have e3 : (va_up cs q3 (.inl (cB, 64, .inl (kv_write f 64 ((8 * rd) + (x / 8)) 1 (((kv_bare f 64 ((8 * rd) + (x / 8)) 1) &&& (((1 : Int32) <<< ((x - x / 8 * 8) &&& 31)) ^^^ ((-1)))) ||| ((1 : Int32) <<< ((x - x / 8 * 8) &&& 31))))))) q3 = .inl (cB, 64, .inl (kv_write f 64 ((8 * rd) + (x / 8)) 1 (((kv_bare f 64 ((8 * rd) + (x / 8)) 1) &&& (((1 : Int32) <<< ((x - x / 8 * 8) &&& 31)) ^^^ ((-1)))) ||| ((1 : Int32) <<< ((x - x / 8 * 8) &&& 31))))) := va_up_self _ _ _
    exact kw_vret hx hb hr hlocks hP hK hS (by rw [show kv_K_writeMaskBit_q3 rd f x y = kv_write f 64 ((8 * rd) + (x / 8)) 1 (((kv_bare f 64 ((8 * rd) + (x / 8)) 1) &&& (((1 : Int32) <<< ((x - x / 8 * 8) &&& 31)) ^^^ ((-1)))) ||| ((1 : Int32) <<< ((x - x / 8 * 8) &&& 31))) from (by rw [kv_K_writeMaskBit_q3, if_neg h1])]) d_K_writeMaskBit_63

def kv_sm (w : Nat) (mk ra : Int32) (f : Nat → Int32) : Nat → Nat → Int32 → Int32 → Int32 × Int32
  | 0, _, u, v => (u, v)
  | k + 1, i, u, v => if kv_K_isWorkedOn mk f (nI i) = 0 then kv_sm w mk ra f k (i + 1) u v else kv_sm w mk ra f k (i + 1) (u + kv_K_element w f ra (nI i)) 1
def kv_K_writeSum_q3 (w fr tt : Nat) (rd ra rb mk : Int32) (f : Nat → Int32) : Nat → Int32 := if (kv_sm w mk ra f (tt - fr) fr (kv_K_element w f rb 0) 0).2 = 0 then f else kv_write f 64 (kv_K_placeOf w rd 0) w (kv_sm w mk ra f (tt - fr) fr (kv_K_element w f rb 0) 0).1

set_option maxRecDepth 100000 in
set_option maxHeartbeats 4000000 in
theorem c_K_writeSum (l : Launch) {D : va_G} {ad : Nat → Nat} {n : Nat} {cs : Nat → va_E} (hJ : kw_J ad n) {cI : ClassId} {cB : ClassId} {cJ : ClassId} {cQ : ClassId} {cW : ClassId} {qk : Nat} {q1 : Nat} {q2 : Nat} {q3 : Nat} {q4 : Nat} {q6 : Nat} {q7 : Nat} {w : Nat} {fr : Nat} {tt : Nat} {dn : Nat} {db : Nat} {gr : Int32} {mo : Int32} {xa : Int32} {xb : Int32} {nu : Int32} {op : Int32} {rd : Int32} {ra : Int32} {rb : Int32} {rn : Int32} {mk : Int32} {f : Nat → Int32} (hqk : qk < n) (ek : cs qk = .inr (3, [.ref (ad q2), .ref (ad q4), .ref (ad q6), .ref (ad q7), .int (nI w), .int gr, .int mo, .int xa, .int xb, .int (nI fr), .ref (ad q1), .int nu, .int (nI tt), .int (nI dn), .int (nI db)])) (hq1 : q1 < n) (e1 : cs q1 = .inr (1, [.int op, .int rd, .int ra, .int rb, .int rn, .int mk])) (hq2 : q2 < n) (e2 : cs q2 = .inr (0, [.ref (ad q3)])) (hq3 : q3 < n) (e3 : cs q3 = .inl (cB, 64, .inl (f))) (hw : w ≤ 64) (hft : fr ≤ tt) (htt : tt < 2 ^ 30) : kw_mv l y_K_writeSum w_K_writeSum (kr 3) D kc (kt cI cB cJ cQ cW) ad n cs [.ref (ad qk)] (fun c9 => c9 = va_up cs q3 (.inl (cB, 64, .inl (kv_K_writeSum_q3 w fr tt rd ra rb mk f)))) := by
  refine kw_of (cc := b_K_writeSum) (maxL := 4) (ret := none) (by decide) rfl (Nat.le_of_ble_eq_true rfl) ?_
  intro p e s m below meth c ls hx hb hr hml hown hts hlocks hP hK hl
  have hg : ∀ w9 ∈ kg_G, w9.before [.ref (ad qk)].toArray s = true := fun w9 h9 => hts w9 (List.mem_cons_of_mem _ h9)
  have hown : s.vm.findClass "LaneMachine$Work" = some m.cls := hown
  have hA : ∀ k, k < n → kw_A ad n (ad k) := fun k hk => ⟨k, hk, rfl⟩
  have hS : va_S (kw_A ad n) s.heap s.heap [] := va_S.rf
  have hl : lv_has ls 4 [(0, .ref (ad qk))] := hl
  have hn_qk_q1 : qk ≠ q1 := fun h => by rw [h, e1] at ek; simp at ek
  have hn_qk_q2 : qk ≠ q2 := fun h => by rw [h, e2] at ek; simp at ek
  have hn_qk_q3 : qk ≠ q3 := fun h => by rw [h, e3] at ek; simp at ek
  have hn_q1_q2 : q1 ≠ q2 := fun h => by rw [h, e2] at e1; simp at e1
  have hn_q1_q3 : q1 ≠ q3 := fun h => by rw [h, e3] at e1; simp at e1
  have hn_q2_q3 : q2 ≠ q3 := fun h => by rw [h, e3] at e2; simp at e2
  refine lv_aload_n hx hb d_K_writeSum_0 rfl (lv_at hl 0 rfl) ?_
  refine lv_aload_n hx hb d_K_writeSum_1 rfl (lv_at hl 0 rfl) ?_
  refine kw_get hx hb hg in_K hown hK hP qk hqk ek rfl 10 (by decide) (hg _ kg_121) rfl rfl d_K_writeSum_2 ?_
  refine kw_get hx hb hg in_I hown hK hP q1 hq1 e1 rfl 3 (by decide) (hg _ kg_85) rfl rfl d_K_writeSum_5 ?_
  refine lv_iconst (v := 0) hx hb d_K_writeSum_8 (by decide) ?_
  refine kw_callix (kw_rV (As := [.int rb, .int 0]) (rest := []) (q0 := qk) ⟨hx, hb, hml, hown, hg⟩ ⟨callB_of 2 hg (kg_goodG kg_431) rfl rfl rfl (hg _ kg_6) (hg _ kg_428) (by decide +kernel) ⟨by decide, by decide⟩, hg _ kg_430, hg _ (kg_sel (q := (y_K_element, 15)) (by decide +kernel))⟩ (c_K_element l hqk ek hq1 e1 hq2 e2 hq3 e3 hw ) hK hP hqk ek rfl rfl hl.1 rfl (Nat.le_of_ble_eq_true rfl) d_K_writeSum_9 ⟨Nat.zero_le _, Nat.zero_le _⟩) hA hS (fun H locs hP hS => ?_)
  refine lv_istore_n (lv' := [(1, .int (kv_K_element w f rb 0)), (0, .ref (ad qk))]) hx hb d_K_writeSum_12 rfl hl (by decide) rfl (fun ls hl => ?_)
  refine lv_iconst (v := 0) hx hb d_K_writeSum_13 (by decide) ?_
  refine lv_istore_n (lv' := [(2, .int 0), (1, .int (kv_K_element w f rb 0)), (0, .ref (ad qk))]) hx hb d_K_writeSum_14 rfl hl (by decide) rfl (fun ls hl => ?_)
  refine lv_aload_n hx hb d_K_writeSum_15 rfl (lv_at hl 2 rfl) ?_
  refine kw_get hx hb hg in_K hown hK hP qk hqk ek rfl 9 (by decide) (hg _ kg_120) rfl rfl d_K_writeSum_16 ?_
  refine lv_istore_n (lv' := [(3, .int (nI fr)), (2, .int 0), (1, .int (kv_K_element w f rb 0)), (0, .ref (ad qk))]) hx hb d_K_writeSum_19 rfl hl (by decide) rfl (fun ls hl => ?_)
  have loop : ∀ (kk : Nat) (i : Nat) (u : Int32) (v : Int32) (H : Heap) (locs : List Loc) (ls : Array Slot), i + kk = tt → kv_sm w mk ra f (tt - fr) fr (kv_K_element w f rb 0) 0 = kv_sm w mk ra f kk i u v → va_P D kc (kw_w ad cs n) H → va_S (kw_A ad n) s.heap H locs → lv_has ls 4 [(3, .int (nI i)), (2, .int v), (1, .int u), (0, .ref (ad qk))] → W p l e (kr 3) s m [.ref (ad qk)].toArray below meth c H locs 0 0 (MQ below (va_Qv (fun c9 => c9 = va_up cs q3 (.inl (cB, 64, .inl (kv_K_writeSum_q3 w fr tt rd ra rb mk f)))) (kw_Pre D kc (kt cI cB cJ cQ cW) ad n) (kw_A ad n)) [.ref (ad qk)].toArray s 0 0 (kw_A ad n)) (F0 m 20 ls []) := by
    intro kk
    induction kk with
    | zero =>
      intro i u v H locs ls hik hv hP hS hl
      refine lv_iload_n hx hb d_K_writeSum_20 rfl (lv_at hl 0 rfl) ?_
      refine lv_aload_n hx hb d_K_writeSum_21 rfl (lv_at hl 3 rfl) ?_
      refine kw_get hx hb hg in_K hown hK hP qk hqk ek rfl 12 (by decide) (hg _ kg_125) rfl rfl d_K_writeSum_22 ?_
      refine lv_icmp_ge (tgt := 59) hx hb d_K_writeSum_25 (by decide) (fun _ => ?_) (fun h1 => absurd (nI_le (by omega) (by omega)) h1)
      refine lv_iload_n hx hb d_K_writeSum_59 rfl (lv_at hl 1 rfl) ?_
      refine lv_if_eq (tgt := 87) hx hb d_K_writeSum_60 (by decide) (fun h2 => ?_) (fun h2 => ?_)
      · exact kw_vret hx hb hr hlocks hP hK hS ((by rw [show kv_K_writeSum_q3 w fr tt rd ra rb mk f = f from (by unfold kv_K_writeSum_q3; rw [hv]; exact if_pos h2), kw_id e3])) d_K_writeSum_87
      · refine lv_aload_n hx hb d_K_writeSum_63 rfl (lv_at hl 3 rfl) ?_
        refine kw_get hx hb hg in_K hown hK hP qk hqk ek rfl 0 (by decide) (hg _ kg_111) rfl rfl d_K_writeSum_64 ?_
        refine lv_aload_n hx hb d_K_writeSum_67 rfl (lv_at hl 3 rfl) ?_
        refine lv_aload_n hx hb d_K_writeSum_68 rfl (lv_at hl 3 rfl) ?_
        refine kw_get hx hb hg in_K hown hK hP qk hqk ek rfl 10 (by decide) (hg _ kg_121) rfl rfl d_K_writeSum_69 ?_
        refine kw_get hx hb hg in_I hown hK hP q1 hq1 e1 rfl 1 (by decide) (hg _ kg_77) rfl rfl d_K_writeSum_72 ?_
        refine lv_iconst (v := 0) hx hb d_K_writeSum_75 (by decide) ?_
        refine kw_callix (kw_rV (As := [.int rd, .int 0]) (rest := [.ref (ad q2)]) (q0 := qk) ⟨hx, hb, hml, hown, hg⟩ ⟨callB_of 2 hg (kg_goodG kg_394) rfl rfl rfl (hg _ kg_6) (hg _ kg_391) (by decide +kernel) ⟨by decide, by decide⟩, hg _ kg_393, hg _ (kg_sel (q := (y_K_placeOf, 15)) (by decide +kernel))⟩ (c_K_placeOf l hqk ek ) hK hP hqk ek rfl rfl hl.1 rfl (Nat.le_of_ble_eq_true rfl) d_K_writeSum_76 ⟨Nat.zero_le _, Nat.zero_le _⟩) hA hS (fun H locs hP hS => ?_)
        refine lv_aload_n hx hb d_K_writeSum_79 rfl (lv_at hl 3 rfl) ?_
        refine kw_get hx hb hg in_K hown hK hP qk hqk ek rfl 4 (by decide) (hg _ kg_115) rfl rfl d_K_writeSum_80 ?_
        refine lv_iload_n hx hb d_K_writeSum_83 rfl (lv_at hl 2 rfl) ?_
        refine kw_callvx (kw_rV (As := [.int (kv_K_placeOf w rd 0), .int (nI w), .int u]) (rest := []) (q0 := q2) ⟨hx, hb, hml, hown, hg⟩ ⟨callB_of 3 hg (kg_goodG kg_436) rfl rfl rfl (hg _ kg_3) (hg _ kg_433) (by decide +kernel) ⟨by decide, by decide⟩, hg _ kg_434, hg _ kg_435⟩ (c_B_write l hJ hq2 e2 hq3 e3 hw (by decide) ) hK hP hq2 e2 rfl rfl hl.1 rfl (Nat.le_of_ble_eq_true rfl) d_K_writeSum_84 ⟨Nat.zero_le _, Nat.zero_le _⟩) hA hS (fun H locs hP hS => ?_)
        have ek : (va_up cs q3 (.inl (cB, 64, .inl (kv_write f 64 (kv_K_placeOf w rd 0) w u)))) qk = .inr (3, [.ref (ad q2), .ref (ad q4), .ref (ad q6), .ref (ad q7), .int (nI w), .int gr, .int mo, .int xa, .int xb, .int (nI fr), .ref (ad q1), .int nu, .int (nI tt), .int (nI dn), .int (nI db)]) := (va_up_ne _ _ (hn_qk_q3)).trans ek
        have e1 : (va_up cs q3 (.inl (cB, 64, .inl (kv_write f 64 (kv_K_placeOf w rd 0) w u)))) q1 = .inr (1, [.int op, .int rd, .int ra, .int rb, .int rn, .int mk]) := (va_up_ne _ _ (hn_q1_q3)).trans e1
        have e2 : (va_up cs q3 (.inl (cB, 64, .inl (kv_write f 64 (kv_K_placeOf w rd 0) w u)))) q2 = .inr (0, [.ref (ad q3)]) := (va_up_ne _ _ (hn_q2_q3)).trans e2
        have e3 : (va_up cs q3 (.inl (cB, 64, .inl (kv_write f 64 (kv_K_placeOf w rd 0) w u)))) q3 = .inl (cB, 64, .inl (kv_write f 64 (kv_K_placeOf w rd 0) w u)) := va_up_self _ _ _
        exact kw_vret hx hb hr hlocks hP hK hS ((by rw [show kv_K_writeSum_q3 w fr tt rd ra rb mk f = kv_write f 64 (kv_K_placeOf w rd 0) w u from (by unfold kv_K_writeSum_q3; rw [hv]; exact if_neg h2)])) d_K_writeSum_87
    | succ j ih =>
      intro i u v H locs ls hik hv hP hS hl
      refine lv_iload_n hx hb d_K_writeSum_20 rfl (lv_at hl 0 rfl) ?_
      refine lv_aload_n hx hb d_K_writeSum_21 rfl (lv_at hl 3 rfl) ?_
      refine kw_get hx hb hg in_K hown hK hP qk hqk ek rfl 12 (by decide) (hg _ kg_125) rfl rfl d_K_writeSum_22 ?_
      refine lv_icmp_ge (tgt := 59) hx hb d_K_writeSum_25 (by decide) (fun h3 => absurd h3 (nI_ge (by omega) (by omega))) (fun _ => ?_)
      refine lv_aload_n hx hb d_K_writeSum_28 rfl (lv_at hl 3 rfl) ?_
      refine lv_iload_n hx hb d_K_writeSum_29 rfl (lv_at hl 0 rfl) ?_
      refine kw_callix (kw_rV (As := [.int (nI i)]) (rest := []) (q0 := qk) ⟨hx, hb, hml, hown, hg⟩ ⟨callB_of 1 hg (kg_goodG kg_422) rfl rfl rfl (hg _ kg_6) (hg _ kg_419) (by decide +kernel) ⟨by decide, by decide⟩, hg _ kg_421, hg _ (kg_sel (q := (y_K_isWorkedOn, 15)) (by decide +kernel))⟩ (c_K_isWorkedOn l hqk ek hq1 e1 hq2 e2 hq3 e3 ) hK hP hqk ek rfl rfl hl.1 rfl (Nat.le_of_ble_eq_true rfl) d_K_writeSum_30 ⟨Nat.zero_le _, Nat.zero_le _⟩) hA hS (fun H locs hP hS => ?_)
      refine lv_if_eq (tgt := 53) hx hb d_K_writeSum_33 (by decide) (fun h4 => ?_) (fun h4 => ?_)
      · refine lv_iinc (k := 0) (v := nI (i + 1)) (lv' := [(3, .int (nI (i + 1))), (2, .int v), (1, .int u), (0, .ref (ad qk))]) hx hb d_K_writeSum_53 hl rfl ((nI_succ i).symm) (by decide) rfl (fun ls hl => ?_)
        refine lv_goto (tgt := 20) hx hb d_K_writeSum_56 (by decide) ?_
        exact ih ((i + 1)) _ _ _ _ _ (by omega) (by rw [hv, kv_sm, if_pos h4]) (hP) hS (lv_sub hl [0, 1, 2, 3] rfl)
      · refine lv_iload_n hx hb d_K_writeSum_36 rfl (lv_at hl 2 rfl) ?_
        refine lv_aload_n hx hb d_K_writeSum_37 rfl (lv_at hl 3 rfl) ?_
        refine lv_aload_n hx hb d_K_writeSum_38 rfl (lv_at hl 3 rfl) ?_
        refine kw_get hx hb hg in_K hown hK hP qk hqk ek rfl 10 (by decide) (hg _ kg_121) rfl rfl d_K_writeSum_39 ?_
        refine kw_get hx hb hg in_I hown hK hP q1 hq1 e1 rfl 2 (by decide) (hg _ kg_81) rfl rfl d_K_writeSum_42 ?_
        refine lv_iload_n hx hb d_K_writeSum_45 rfl (lv_at hl 0 rfl) ?_
        refine kw_callix (kw_rV (As := [.int ra, .int (nI i)]) (rest := [.int u]) (q0 := qk) ⟨hx, hb, hml, hown, hg⟩ ⟨callB_of 2 hg (kg_goodG kg_431) rfl rfl rfl (hg _ kg_6) (hg _ kg_428) (by decide +kernel) ⟨by decide, by decide⟩, hg _ kg_430, hg _ (kg_sel (q := (y_K_element, 15)) (by decide +kernel))⟩ (c_K_element l hqk ek hq1 e1 hq2 e2 hq3 e3 hw ) hK hP hqk ek rfl rfl hl.1 rfl (Nat.le_of_ble_eq_true rfl) d_K_writeSum_46 ⟨Nat.zero_le _, Nat.zero_le _⟩) hA hS (fun H locs hP hS => ?_)
        refine lv_iadd hx hb d_K_writeSum_49 ?_
        refine lv_istore_n (lv' := [(1, .int (u + (kv_K_element w f ra (nI i)))), (3, .int (nI i)), (2, .int v), (0, .ref (ad qk))]) hx hb d_K_writeSum_50 rfl hl (by decide) rfl (fun ls hl => ?_)
        refine lv_iconst (v := 1) hx hb d_K_writeSum_51 (by decide) ?_
        refine lv_istore_n (lv' := [(2, .int 1), (1, .int (u + (kv_K_element w f ra (nI i)))), (3, .int (nI i)), (0, .ref (ad qk))]) hx hb d_K_writeSum_52 rfl hl (by decide) rfl (fun ls hl => ?_)
        refine lv_iinc (k := 2) (v := nI (i + 1)) (lv' := [(3, .int (nI (i + 1))), (2, .int 1), (1, .int (u + (kv_K_element w f ra (nI i)))), (0, .ref (ad qk))]) hx hb d_K_writeSum_53 hl rfl ((nI_succ i).symm) (by decide) rfl (fun ls hl => ?_)
        refine lv_goto (tgt := 20) hx hb d_K_writeSum_56 (by decide) ?_
        exact ih ((i + 1)) _ _ _ _ _ (by omega) (by rw [hv, kv_sm, if_neg h4]) (hP) hS (lv_sub hl [0, 1, 2, 3] rfl)
  exact loop (tt - fr) fr _ _ _ _ _ (by omega) (rfl) (hP) hS (lv_sub hl [0, 1, 2, 3] rfl)

def kv_K_doNextStep_q3 (w : Nat) (fr : Nat) (tt : Nat) (dn : Nat) (mo : Int32) (xa : Int32) (xb : Int32) (op : Int32) (rd : Int32) (ra : Int32) (rb : Int32) (mk : Int32) (f : Nat → Int32) (g : Nat → Int32) : Nat → Int32 := if op = 14 then (if op = 12 then (if (kv_K_element w f rb ((nI fr) + (nI dn))) ≤ (kv_K_element w f ra ((nI fr) + (nI dn))) then (kv_K_writeMaskBit_q3 rd f ((nI fr) + (nI dn)) 0) else (kv_K_writeMaskBit_q3 rd f ((nI fr) + (nI dn)) 1)) else if op = 13 then (kv_write f 64 ((8 * rd) + ((2 * ((nI fr) + (nI dn))) * (nI w))) (2 * w) (kv_K_result w mo xa xb op ra rb f g ((nI fr) + (nI dn)))) else if op = 14 then (kv_K_writeSum_q3 w fr tt rd ra rb mk f) else if op = 18 then f else (kv_write f 64 (kv_K_placeOf w rd ((nI fr) + (nI dn))) w (kv_K_result w mo xa xb op ra rb f g ((nI fr) + (nI dn))))) else if (kv_K_isWorkedOn mk f ((nI fr) + (nI dn))) = 0 then f else if op = 12 then (if (kv_K_element w f rb ((nI fr) + (nI dn))) ≤ (kv_K_element w f ra ((nI fr) + (nI dn))) then (kv_K_writeMaskBit_q3 rd f ((nI fr) + (nI dn)) 0) else (kv_K_writeMaskBit_q3 rd f ((nI fr) + (nI dn)) 1)) else if op = 13 then (kv_write f 64 ((8 * rd) + ((2 * ((nI fr) + (nI dn))) * (nI w))) (2 * w) (kv_K_result w mo xa xb op ra rb f g ((nI fr) + (nI dn)))) else if op = 14 then (kv_K_writeSum_q3 w fr tt rd ra rb mk f) else if op = 18 then f else (kv_write f 64 (kv_K_placeOf w rd ((nI fr) + (nI dn))) w (kv_K_result w mo xa xb op ra rb f g ((nI fr) + (nI dn))))
def kv_K_doNextStep_q5 (w : Nat) (fr : Nat) (dn : Nat) (xa : Int32) (xb : Int32) (op : Int32) (rd : Int32) (rb : Int32) (mk : Int32) (f : Nat → Int32) (g : Nat → Int32) : Nat → Int32 := if op = 14 then (if op = 12 then g else if op = 13 then g else if op = 14 then g else if op = 18 then (kv_write g 128 (kv_K_placeInMemory w xa xb op rb f ((nI fr) + (nI dn))) w (kv_K_element w f rd ((nI fr) + (nI dn)))) else g) else if (kv_K_isWorkedOn mk f ((nI fr) + (nI dn))) = 0 then g else if op = 12 then g else if op = 13 then g else if op = 14 then g else if op = 18 then (kv_write g 128 (kv_K_placeInMemory w xa xb op rb f ((nI fr) + (nI dn))) w (kv_K_element w f rd ((nI fr) + (nI dn)))) else g
set_option maxRecDepth 100000 in
set_option maxHeartbeats 4000000 in
theorem c_K_doNextStep (l : Launch) {D : va_G} {ad : Nat → Nat} {n : Nat} {cs : Nat → va_E} (hJ : kw_J ad n) {cI : ClassId} {cB : ClassId} {cJ : ClassId} {cQ : ClassId} {cW : ClassId} {qk : Nat} {q1 : Nat} {q2 : Nat} {q3 : Nat} {q4 : Nat} {q5 : Nat} {q6 : Nat} {q7 : Nat} {w : Nat} {fr : Nat} {tt : Nat} {dn : Nat} {db : Nat} {gr : Int32} {mo : Int32} {xa : Int32} {xb : Int32} {nu : Int32} {op : Int32} {rd : Int32} {ra : Int32} {rb : Int32} {rn : Int32} {mk : Int32} {f : Nat → Int32} {g : Nat → Int32} (hqk : qk < n) (ek : cs qk = .inr (3, [.ref (ad q2), .ref (ad q4), .ref (ad q6), .ref (ad q7), .int (nI w), .int gr, .int mo, .int xa, .int xb, .int (nI fr), .ref (ad q1), .int nu, .int (nI tt), .int (nI dn), .int (nI db)])) (hq1 : q1 < n) (e1 : cs q1 = .inr (1, [.int op, .int rd, .int ra, .int rb, .int rn, .int mk])) (hq2 : q2 < n) (e2 : cs q2 = .inr (0, [.ref (ad q3)])) (hq3 : q3 < n) (e3 : cs q3 = .inl (cB, 64, .inl (f))) (hq4 : q4 < n) (e4 : cs q4 = .inr (0, [.ref (ad q5)])) (hq5 : q5 < n) (e5 : cs q5 = .inl (cB, 128, .inl (g))) (hw : w ≤ 4) (hft : fr ≤ tt) (htt : tt < 2 ^ 30) : kw_mv l y_K_doNextStep w_K_doNextStep (kr 4) D kc (kt cI cB cJ cQ cW) ad n cs [.ref (ad qk)] (fun c9 => c9 = va_up (va_up (va_up cs qk (.inr (3, [.ref (ad q2), .ref (ad q4), .ref (ad q6), .ref (ad q7), .int (nI w), .int gr, .int mo, .int xa, .int xb, .int (nI fr), .ref (ad q1), .int nu, .int (nI tt), .int (nI (dn + 1)), .int (nI db)]))) q3 (.inl (cB, 64, .inl (kv_K_doNextStep_q3 w fr tt dn mo xa xb op rd ra rb mk f g)))) q5 (.inl (cB, 128, .inl (kv_K_doNextStep_q5 w fr dn xa xb op rd rb mk f g)))) := by
  refine kw_of (cc := b_K_doNextStep) (maxL := 2) (ret := none) (by decide) rfl (Nat.le_of_ble_eq_true rfl) ?_
  intro p e s m below meth c ls hx hb hr hml hown hts hlocks hP hK hl
  have hg : ∀ w9 ∈ kg_G, w9.before [.ref (ad qk)].toArray s = true := fun w9 h9 => hts w9 (List.mem_cons_of_mem _ h9)
  have hown : s.vm.findClass "LaneMachine$Work" = some m.cls := hown
  have hA : ∀ k, k < n → kw_A ad n (ad k) := fun k hk => ⟨k, hk, rfl⟩
  have hS : va_S (kw_A ad n) s.heap s.heap [] := va_S.rf
  have hl : lv_has ls 2 [(0, .ref (ad qk))] := hl
  have hn_qk_q1 : qk ≠ q1 := fun h => by rw [h, e1] at ek; simp at ek
  have hn_qk_q2 : qk ≠ q2 := fun h => by rw [h, e2] at ek; simp at ek
  have hn_qk_q3 : qk ≠ q3 := fun h => by rw [h, e3] at ek; simp at ek
  have hn_qk_q4 : qk ≠ q4 := fun h => by rw [h, e4] at ek; simp at ek
  have hn_qk_q5 : qk ≠ q5 := fun h => by rw [h, e5] at ek; simp at ek
  have hn_q1_q2 : q1 ≠ q2 := fun h => by rw [h, e2] at e1; simp at e1
  have hn_q1_q3 : q1 ≠ q3 := fun h => by rw [h, e3] at e1; simp at e1
  have hn_q1_q4 : q1 ≠ q4 := fun h => by rw [h, e4] at e1; simp at e1
  have hn_q1_q5 : q1 ≠ q5 := fun h => by rw [h, e5] at e1; simp at e1
  have hn_q2_q3 : q2 ≠ q3 := fun h => by rw [h, e3] at e2; simp at e2
  have hn_q2_q5 : q2 ≠ q5 := fun h => by rw [h, e5] at e2; simp at e2
  have hn_q3_q4 : q3 ≠ q4 := fun h => by rw [h, e4] at e3; simp at e3
  have hn_q3_q5 : q3 ≠ q5 := fun h => by rw [h, e5] at e3; simp at e3
  have hn_q4_q5 : q4 ≠ q5 := fun h => by rw [h, e5] at e4; simp at e4
  have hn_q2_q4 : q2 ≠ q4 := fun h => by rw [h, e4] at e2; simp at e2; exact hn_q3_q5 (hJ _ _ hq3 hq5 e2.symm)
  refine lv_aload_n hx hb d_K_doNextStep_0 rfl (lv_at hl 0 rfl) ?_
  refine kw_get hx hb hg in_K hown hK hP qk hqk ek rfl 9 (by decide) (hg _ kg_120) rfl rfl d_K_doNextStep_1 ?_
  refine lv_aload_n hx hb d_K_doNextStep_4 rfl (lv_at hl 0 rfl) ?_
  refine kw_get hx hb hg in_K hown hK hP qk hqk ek rfl 13 (by decide) (hg _ kg_127) rfl rfl d_K_doNextStep_5 ?_
  refine lv_iadd hx hb d_K_doNextStep_8 ?_
  refine lv_istore_n (lv' := [(1, .int ((nI fr) + (nI dn))), (0, .ref (ad qk))]) hx hb d_K_doNextStep_9 rfl hl (by decide) rfl (fun ls hl => ?_)
  refine lv_aload_n hx hb d_K_doNextStep_10 rfl (lv_at hl 1 rfl) ?_
  refine lv_dup hx hb d_K_doNextStep_11 rfl ?_
  refine kw_get hx hb hg in_K hown hK hP qk hqk ek rfl 13 (by decide) (hg _ kg_127) rfl rfl d_K_doNextStep_12 ?_
  refine lv_iconst (v := 1) hx hb d_K_doNextStep_15 (by decide) ?_
  refine lv_iadd hx hb d_K_doNextStep_16 ?_
  rw [nI_1]
  refine kw_put (ty := .int) hx hb hg in_K t_K ty_K nm_K hown hK hP hJ hA hS qk hqk ek rfl 13 (by decide) (hg _ kg_127) rfl rfl (by decide +kernel) rfl rfl (Nat.le_of_ble_eq_true rfl) d_K_doNextStep_17 (fun H locs hP hS => ?_)
  have ek : (va_up cs qk (.inr (3, [.ref (ad q2), .ref (ad q4), .ref (ad q6), .ref (ad q7), .int (nI w), .int gr, .int mo, .int xa, .int xb, .int (nI fr), .ref (ad q1), .int nu, .int (nI tt), .int (nI (dn + 1)), .int (nI db)]))) qk = .inr (3, [.ref (ad q2), .ref (ad q4), .ref (ad q6), .ref (ad q7), .int (nI w), .int gr, .int mo, .int xa, .int xb, .int (nI fr), .ref (ad q1), .int nu, .int (nI tt), .int (nI (dn + 1)), .int (nI db)]) := va_up_self _ _ _
  have e1 : (va_up cs qk (.inr (3, [.ref (ad q2), .ref (ad q4), .ref (ad q6), .ref (ad q7), .int (nI w), .int gr, .int mo, .int xa, .int xb, .int (nI fr), .ref (ad q1), .int nu, .int (nI tt), .int (nI (dn + 1)), .int (nI db)]))) q1 = .inr (1, [.int op, .int rd, .int ra, .int rb, .int rn, .int mk]) := (va_up_ne _ _ (hn_qk_q1.symm)).trans e1
  have e2 : (va_up cs qk (.inr (3, [.ref (ad q2), .ref (ad q4), .ref (ad q6), .ref (ad q7), .int (nI w), .int gr, .int mo, .int xa, .int xb, .int (nI fr), .ref (ad q1), .int nu, .int (nI tt), .int (nI (dn + 1)), .int (nI db)]))) q2 = .inr (0, [.ref (ad q3)]) := (va_up_ne _ _ (hn_qk_q2.symm)).trans e2
  have e3 : (va_up cs qk (.inr (3, [.ref (ad q2), .ref (ad q4), .ref (ad q6), .ref (ad q7), .int (nI w), .int gr, .int mo, .int xa, .int xb, .int (nI fr), .ref (ad q1), .int nu, .int (nI tt), .int (nI (dn + 1)), .int (nI db)]))) q3 = .inl (cB, 64, .inl (f)) := (va_up_ne _ _ (hn_qk_q3.symm)).trans e3
  have e4 : (va_up cs qk (.inr (3, [.ref (ad q2), .ref (ad q4), .ref (ad q6), .ref (ad q7), .int (nI w), .int gr, .int mo, .int xa, .int xb, .int (nI fr), .ref (ad q1), .int nu, .int (nI tt), .int (nI (dn + 1)), .int (nI db)]))) q4 = .inr (0, [.ref (ad q5)]) := (va_up_ne _ _ (hn_qk_q4.symm)).trans e4
  have e5 : (va_up cs qk (.inr (3, [.ref (ad q2), .ref (ad q4), .ref (ad q6), .ref (ad q7), .int (nI w), .int gr, .int mo, .int xa, .int xb, .int (nI fr), .ref (ad q1), .int nu, .int (nI tt), .int (nI (dn + 1)), .int (nI db)]))) q5 = .inl (cB, 128, .inl (g)) := (va_up_ne _ _ (hn_qk_q5.symm)).trans e5
  refine lv_aload_n hx hb d_K_doNextStep_20 rfl (lv_at hl 1 rfl) ?_
  refine kw_get hx hb hg in_K hown hK hP qk hqk ek rfl 10 (by decide) (hg _ kg_121) rfl rfl d_K_doNextStep_21 ?_
  refine kw_get hx hb hg in_I hown hK hP q1 hq1 e1 rfl 0 (by decide) (hg _ kg_72) rfl rfl d_K_doNextStep_24 ?_
  refine lv_bipush (v := 14) hx hb d_K_doNextStep_27 (by decide) ?_
  refine lv_icmp_eq (tgt := 41) hx hb d_K_doNextStep_29 (by decide) (fun h1 => ?_) (fun h1 => ?_)
  · refine lv_aload_n hx hb d_K_doNextStep_41 rfl (lv_at hl 1 rfl) ?_
    refine kw_get hx hb hg in_K hown hK hP qk hqk ek rfl 10 (by decide) (hg _ kg_121) rfl rfl d_K_doNextStep_42 ?_
    refine kw_get hx hb hg in_I hown hK hP q1 hq1 e1 rfl 0 (by decide) (hg _ kg_72) rfl rfl d_K_doNextStep_45 ?_
    by_cases h2 : op = 12
    · refine lv_tableIn (tgt := 99) hx hb d_K_doNextStep_48 (by rw [h2]; decide) (by rw [h2]; decide) (by rw [h2]; rfl) (by decide) ?_
      refine lv_aload_n hx hb d_K_doNextStep_99 rfl (lv_at hl 1 rfl) ?_
      refine lv_iload_n hx hb d_K_doNextStep_100 rfl (lv_at hl 0 rfl) ?_
      refine lv_aload_n hx hb d_K_doNextStep_101 rfl (lv_at hl 1 rfl) ?_
      refine lv_aload_n hx hb d_K_doNextStep_102 rfl (lv_at hl 1 rfl) ?_
      refine kw_get hx hb hg in_K hown hK hP qk hqk ek rfl 10 (by decide) (hg _ kg_121) rfl rfl d_K_doNextStep_103 ?_
      refine kw_get hx hb hg in_I hown hK hP q1 hq1 e1 rfl 2 (by decide) (hg _ kg_81) rfl rfl d_K_doNextStep_106 ?_
      refine lv_iload_n hx hb d_K_doNextStep_109 rfl (lv_at hl 0 rfl) ?_
      refine kw_callix (kw_rV (As := [.int ra, .int ((nI fr) + (nI dn))]) (rest := [.int ((nI fr) + (nI dn)), .ref (ad qk)]) (q0 := qk) ⟨hx, hb, hml, hown, hg⟩ ⟨callB_of 2 hg (kg_goodG kg_431) rfl rfl rfl (hg _ kg_6) (hg _ kg_428) (by decide +kernel) ⟨by decide, by decide⟩, hg _ kg_430, hg _ (kg_sel (q := (y_K_element, 15)) (by decide +kernel))⟩ (c_K_element l hqk ek hq1 e1 hq2 e2 hq3 e3 (by omega) ) hK hP hqk ek rfl rfl hl.1 rfl (Nat.le_of_ble_eq_true rfl) d_K_doNextStep_110 ⟨Nat.zero_le _, Nat.zero_le _⟩) hA hS (fun H locs hP hS => ?_)
      refine lv_aload_n hx hb d_K_doNextStep_113 rfl (lv_at hl 1 rfl) ?_
      refine lv_aload_n hx hb d_K_doNextStep_114 rfl (lv_at hl 1 rfl) ?_
      refine kw_get hx hb hg in_K hown hK hP qk hqk ek rfl 10 (by decide) (hg _ kg_121) rfl rfl d_K_doNextStep_115 ?_
      refine kw_get hx hb hg in_I hown hK hP q1 hq1 e1 rfl 3 (by decide) (hg _ kg_85) rfl rfl d_K_doNextStep_118 ?_
      refine lv_iload_n hx hb d_K_doNextStep_121 rfl (lv_at hl 0 rfl) ?_
      refine kw_callix (kw_rV (As := [.int rb, .int ((nI fr) + (nI dn))]) (rest := [.int (kv_K_element w f ra ((nI fr) + (nI dn))), .int ((nI fr) + (nI dn)), .ref (ad qk)]) (q0 := qk) ⟨hx, hb, hml, hown, hg⟩ ⟨callB_of 2 hg (kg_goodG kg_431) rfl rfl rfl (hg _ kg_6) (hg _ kg_428) (by decide +kernel) ⟨by decide, by decide⟩, hg _ kg_430, hg _ (kg_sel (q := (y_K_element, 15)) (by decide +kernel))⟩ (c_K_element l hqk ek hq1 e1 hq2 e2 hq3 e3 (by omega) ) hK hP hqk ek rfl rfl hl.1 rfl (Nat.le_of_ble_eq_true rfl) d_K_doNextStep_122 ⟨Nat.zero_le _, Nat.zero_le _⟩) hA hS (fun H locs hP hS => ?_)
      refine lv_icmp_ge (tgt := 132) hx hb d_K_doNextStep_125 (by decide) (fun h3 => ?_) (fun h3 => ?_)
      · refine lv_iconst (v := 0) hx hb d_K_doNextStep_132 (by decide) ?_
        refine kw_callvx (kw_rV (As := [.int ((nI fr) + (nI dn)), .int 0]) (rest := []) (q0 := qk) ⟨hx, hb, hml, hown, hg⟩ ⟨callB_of 2 hg (kg_goodG kg_440) rfl rfl rfl (hg _ kg_6) (hg _ kg_437) (by decide +kernel) ⟨by decide, by decide⟩, hg _ kg_439, hg _ (kg_sel (q := (y_K_writeMaskBit, 15)) (by decide +kernel))⟩ (c_K_writeMaskBit l hJ hqk ek hq1 e1 hq2 e2 hq3 e3 ) hK hP hqk ek rfl rfl hl.1 rfl (Nat.le_of_ble_eq_true rfl) d_K_doNextStep_133 ⟨Nat.zero_le _, Nat.zero_le _⟩) hA hS (fun H locs hP hS => ?_)
        have ek : (va_up (va_up cs qk (.inr (3, [.ref (ad q2), .ref (ad q4), .ref (ad q6), .ref (ad q7), .int (nI w), .int gr, .int mo, .int xa, .int xb, .int (nI fr), .ref (ad q1), .int nu, .int (nI tt), .int (nI (dn + 1)), .int (nI db)]))) q3 (.inl (cB, 64, .inl (kv_K_writeMaskBit_q3 rd f ((nI fr) + (nI dn)) 0)))) qk = .inr (3, [.ref (ad q2), .ref (ad q4), .ref (ad q6), .ref (ad q7), .int (nI w), .int gr, .int mo, .int xa, .int xb, .int (nI fr), .ref (ad q1), .int nu, .int (nI tt), .int (nI (dn + 1)), .int (nI db)]) := (va_up_ne _ _ (hn_qk_q3)).trans ek
        have e1 : (va_up (va_up cs qk (.inr (3, [.ref (ad q2), .ref (ad q4), .ref (ad q6), .ref (ad q7), .int (nI w), .int gr, .int mo, .int xa, .int xb, .int (nI fr), .ref (ad q1), .int nu, .int (nI tt), .int (nI (dn + 1)), .int (nI db)]))) q3 (.inl (cB, 64, .inl (kv_K_writeMaskBit_q3 rd f ((nI fr) + (nI dn)) 0)))) q1 = .inr (1, [.int op, .int rd, .int ra, .int rb, .int rn, .int mk]) := (va_up_ne _ _ (hn_q1_q3)).trans e1
        have e2 : (va_up (va_up cs qk (.inr (3, [.ref (ad q2), .ref (ad q4), .ref (ad q6), .ref (ad q7), .int (nI w), .int gr, .int mo, .int xa, .int xb, .int (nI fr), .ref (ad q1), .int nu, .int (nI tt), .int (nI (dn + 1)), .int (nI db)]))) q3 (.inl (cB, 64, .inl (kv_K_writeMaskBit_q3 rd f ((nI fr) + (nI dn)) 0)))) q2 = .inr (0, [.ref (ad q3)]) := (va_up_ne _ _ (hn_q2_q3)).trans e2
        have e3 : (va_up (va_up cs qk (.inr (3, [.ref (ad q2), .ref (ad q4), .ref (ad q6), .ref (ad q7), .int (nI w), .int gr, .int mo, .int xa, .int xb, .int (nI fr), .ref (ad q1), .int nu, .int (nI tt), .int (nI (dn + 1)), .int (nI db)]))) q3 (.inl (cB, 64, .inl (kv_K_writeMaskBit_q3 rd f ((nI fr) + (nI dn)) 0)))) q3 = .inl (cB, 64, .inl (kv_K_writeMaskBit_q3 rd f ((nI fr) + (nI dn)) 0)) := va_up_self _ _ _
        have e4 : (va_up (va_up cs qk (.inr (3, [.ref (ad q2), .ref (ad q4), .ref (ad q6), .ref (ad q7), .int (nI w), .int gr, .int mo, .int xa, .int xb, .int (nI fr), .ref (ad q1), .int nu, .int (nI tt), .int (nI (dn + 1)), .int (nI db)]))) q3 (.inl (cB, 64, .inl (kv_K_writeMaskBit_q3 rd f ((nI fr) + (nI dn)) 0)))) q4 = .inr (0, [.ref (ad q5)]) := (va_up_ne _ _ (hn_q3_q4.symm)).trans e4
        have e5 : (va_up (va_up cs qk (.inr (3, [.ref (ad q2), .ref (ad q4), .ref (ad q6), .ref (ad q7), .int (nI w), .int gr, .int mo, .int xa, .int xb, .int (nI fr), .ref (ad q1), .int nu, .int (nI tt), .int (nI (dn + 1)), .int (nI db)]))) q3 (.inl (cB, 64, .inl (kv_K_writeMaskBit_q3 rd f ((nI fr) + (nI dn)) 0)))) q5 = .inl (cB, 128, .inl (g)) := (va_up_ne _ _ (hn_q3_q5.symm)).trans e5
        refine lv_goto (tgt := 238) hx hb d_K_doNextStep_136 (by decide) ?_
        exact kw_vret hx hb hr hlocks hP hK hS (by rw [show kv_K_doNextStep_q3 w fr tt dn mo xa xb op rd ra rb mk f g = kv_K_writeMaskBit_q3 rd f ((nI fr) + (nI dn)) 0 from (by rw [kv_K_doNextStep_q3, if_pos h1, if_pos h2, if_pos h3]), show kv_K_doNextStep_q5 w fr dn xa xb op rd rb mk f g = g from (by rw [kv_K_doNextStep_q5, if_pos h1, if_pos h2]), kw_id (e5)]) d_K_doNextStep_238
      · refine lv_iconst (v := 1) hx hb d_K_doNextStep_128 (by decide) ?_
        refine lv_goto (tgt := 133) hx hb d_K_doNextStep_129 (by decide) ?_
        refine kw_callvx (kw_rV (As := [.int ((nI fr) + (nI dn)), .int 1]) (rest := []) (q0 := qk) ⟨hx, hb, hml, hown, hg⟩ ⟨callB_of 2 hg (kg_goodG kg_440) rfl rfl rfl (hg _ kg_6) (hg _ kg_437) (by decide +kernel) ⟨by decide, by decide⟩, hg _ kg_439, hg _ (kg_sel (q := (y_K_writeMaskBit, 15)) (by decide +kernel))⟩ (c_K_writeMaskBit l hJ hqk ek hq1 e1 hq2 e2 hq3 e3 ) hK hP hqk ek rfl rfl hl.1 rfl (Nat.le_of_ble_eq_true rfl) d_K_doNextStep_133 ⟨Nat.zero_le _, Nat.zero_le _⟩) hA hS (fun H locs hP hS => ?_)
        have ek : (va_up (va_up cs qk (.inr (3, [.ref (ad q2), .ref (ad q4), .ref (ad q6), .ref (ad q7), .int (nI w), .int gr, .int mo, .int xa, .int xb, .int (nI fr), .ref (ad q1), .int nu, .int (nI tt), .int (nI (dn + 1)), .int (nI db)]))) q3 (.inl (cB, 64, .inl (kv_K_writeMaskBit_q3 rd f ((nI fr) + (nI dn)) 1)))) qk = .inr (3, [.ref (ad q2), .ref (ad q4), .ref (ad q6), .ref (ad q7), .int (nI w), .int gr, .int mo, .int xa, .int xb, .int (nI fr), .ref (ad q1), .int nu, .int (nI tt), .int (nI (dn + 1)), .int (nI db)]) := (va_up_ne _ _ (hn_qk_q3)).trans ek
        have e1 : (va_up (va_up cs qk (.inr (3, [.ref (ad q2), .ref (ad q4), .ref (ad q6), .ref (ad q7), .int (nI w), .int gr, .int mo, .int xa, .int xb, .int (nI fr), .ref (ad q1), .int nu, .int (nI tt), .int (nI (dn + 1)), .int (nI db)]))) q3 (.inl (cB, 64, .inl (kv_K_writeMaskBit_q3 rd f ((nI fr) + (nI dn)) 1)))) q1 = .inr (1, [.int op, .int rd, .int ra, .int rb, .int rn, .int mk]) := (va_up_ne _ _ (hn_q1_q3)).trans e1
        have e2 : (va_up (va_up cs qk (.inr (3, [.ref (ad q2), .ref (ad q4), .ref (ad q6), .ref (ad q7), .int (nI w), .int gr, .int mo, .int xa, .int xb, .int (nI fr), .ref (ad q1), .int nu, .int (nI tt), .int (nI (dn + 1)), .int (nI db)]))) q3 (.inl (cB, 64, .inl (kv_K_writeMaskBit_q3 rd f ((nI fr) + (nI dn)) 1)))) q2 = .inr (0, [.ref (ad q3)]) := (va_up_ne _ _ (hn_q2_q3)).trans e2
        have e3 : (va_up (va_up cs qk (.inr (3, [.ref (ad q2), .ref (ad q4), .ref (ad q6), .ref (ad q7), .int (nI w), .int gr, .int mo, .int xa, .int xb, .int (nI fr), .ref (ad q1), .int nu, .int (nI tt), .int (nI (dn + 1)), .int (nI db)]))) q3 (.inl (cB, 64, .inl (kv_K_writeMaskBit_q3 rd f ((nI fr) + (nI dn)) 1)))) q3 = .inl (cB, 64, .inl (kv_K_writeMaskBit_q3 rd f ((nI fr) + (nI dn)) 1)) := va_up_self _ _ _
        have e4 : (va_up (va_up cs qk (.inr (3, [.ref (ad q2), .ref (ad q4), .ref (ad q6), .ref (ad q7), .int (nI w), .int gr, .int mo, .int xa, .int xb, .int (nI fr), .ref (ad q1), .int nu, .int (nI tt), .int (nI (dn + 1)), .int (nI db)]))) q3 (.inl (cB, 64, .inl (kv_K_writeMaskBit_q3 rd f ((nI fr) + (nI dn)) 1)))) q4 = .inr (0, [.ref (ad q5)]) := (va_up_ne _ _ (hn_q3_q4.symm)).trans e4
        have e5 : (va_up (va_up cs qk (.inr (3, [.ref (ad q2), .ref (ad q4), .ref (ad q6), .ref (ad q7), .int (nI w), .int gr, .int mo, .int xa, .int xb, .int (nI fr), .ref (ad q1), .int nu, .int (nI tt), .int (nI (dn + 1)), .int (nI db)]))) q3 (.inl (cB, 64, .inl (kv_K_writeMaskBit_q3 rd f ((nI fr) + (nI dn)) 1)))) q5 = .inl (cB, 128, .inl (g)) := (va_up_ne _ _ (hn_q3_q5.symm)).trans e5
        refine lv_goto (tgt := 238) hx hb d_K_doNextStep_136 (by decide) ?_
        exact kw_vret hx hb hr hlocks hP hK hS (by rw [show kv_K_doNextStep_q3 w fr tt dn mo xa xb op rd ra rb mk f g = kv_K_writeMaskBit_q3 rd f ((nI fr) + (nI dn)) 1 from (by rw [kv_K_doNextStep_q3, if_pos h1, if_pos h2, if_neg h3]), show kv_K_doNextStep_q5 w fr dn xa xb op rd rb mk f g = g from (by rw [kv_K_doNextStep_q5, if_pos h1, if_pos h2]), kw_id (e5)]) d_K_doNextStep_238
    by_cases h4 : op = 13
    · refine lv_tableIn (tgt := 139) hx hb d_K_doNextStep_48 (by rw [h4]; decide) (by rw [h4]; decide) (by rw [h4]; rfl) (by decide) ?_
      refine lv_aload_n hx hb d_K_doNextStep_139 rfl (lv_at hl 1 rfl) ?_
      refine kw_get hx hb hg in_K hown hK hP qk hqk ek rfl 0 (by decide) (hg _ kg_111) rfl rfl d_K_doNextStep_140 ?_
      refine lv_bipush (v := 8) hx hb d_K_doNextStep_143 (by decide) ?_
      refine lv_aload_n hx hb d_K_doNextStep_145 rfl (lv_at hl 1 rfl) ?_
      refine kw_get hx hb hg in_K hown hK hP qk hqk ek rfl 10 (by decide) (hg _ kg_121) rfl rfl d_K_doNextStep_146 ?_
      refine kw_get hx hb hg in_I hown hK hP q1 hq1 e1 rfl 1 (by decide) (hg _ kg_77) rfl rfl d_K_doNextStep_149 ?_
      refine lv_imul hx hb d_K_doNextStep_152 ?_
      refine lv_iconst (v := 2) hx hb d_K_doNextStep_153 (by decide) ?_
      refine lv_iload_n hx hb d_K_doNextStep_154 rfl (lv_at hl 0 rfl) ?_
      refine lv_imul hx hb d_K_doNextStep_155 ?_
      refine lv_aload_n hx hb d_K_doNextStep_156 rfl (lv_at hl 1 rfl) ?_
      refine kw_get hx hb hg in_K hown hK hP qk hqk ek rfl 4 (by decide) (hg _ kg_115) rfl rfl d_K_doNextStep_157 ?_
      refine lv_imul hx hb d_K_doNextStep_160 ?_
      refine lv_iadd hx hb d_K_doNextStep_161 ?_
      refine lv_iconst (v := 2) hx hb d_K_doNextStep_162 (by decide) ?_
      refine lv_aload_n hx hb d_K_doNextStep_163 rfl (lv_at hl 1 rfl) ?_
      refine kw_get hx hb hg in_K hown hK hP qk hqk ek rfl 4 (by decide) (hg _ kg_115) rfl rfl d_K_doNextStep_164 ?_
      refine lv_imul hx hb d_K_doNextStep_167 ?_
      rw [show (2 : Int32) * nI w = nI (2 * w) from pk_mul 2 w]
      refine lv_aload_n hx hb d_K_doNextStep_168 rfl (lv_at hl 1 rfl) ?_
      refine lv_iload_n hx hb d_K_doNextStep_169 rfl (lv_at hl 0 rfl) ?_
      refine kw_callix (kw_rV (As := [.int ((nI fr) + (nI dn))]) (rest := [.int (nI (2 * w)), .int ((8 * rd) + ((2 * ((nI fr) + (nI dn))) * (nI w))), .ref (ad q2)]) (q0 := qk) ⟨hx, hb, hml, hown, hg⟩ ⟨callB_of 1 hg (kg_goodG kg_444) rfl rfl rfl (hg _ kg_6) (hg _ kg_441) (by decide +kernel) ⟨by decide, by decide⟩, hg _ kg_443, hg _ (kg_sel (q := (y_K_result, 15)) (by decide +kernel))⟩ (c_K_result l hqk ek hq1 e1 hq2 e2 hq3 e3 hq4 e4 hq5 e5 (by omega) ) hK hP hqk ek rfl rfl hl.1 rfl (Nat.le_of_ble_eq_true rfl) d_K_doNextStep_170 ⟨Nat.zero_le _, Nat.zero_le _⟩) hA hS (fun H locs hP hS => ?_)
      refine kw_callvx (kw_rV (As := [.int ((8 * rd) + ((2 * ((nI fr) + (nI dn))) * (nI w))), .int (nI (2 * w)), .int (kv_K_result w mo xa xb op ra rb f g ((nI fr) + (nI dn)))]) (rest := []) (q0 := q2) ⟨hx, hb, hml, hown, hg⟩ ⟨callB_of 3 hg (kg_goodG kg_436) rfl rfl rfl (hg _ kg_3) (hg _ kg_433) (by decide +kernel) ⟨by decide, by decide⟩, hg _ kg_434, hg _ kg_435⟩ (c_B_write l hJ hq2 e2 hq3 e3 (by omega) (by decide) (w := 2 * w)) hK hP hq2 e2 rfl rfl hl.1 rfl (Nat.le_of_ble_eq_true rfl) d_K_doNextStep_173 ⟨Nat.zero_le _, Nat.zero_le _⟩) hA hS (fun H locs hP hS => ?_)
      have ek : (va_up (va_up cs qk (.inr (3, [.ref (ad q2), .ref (ad q4), .ref (ad q6), .ref (ad q7), .int (nI w), .int gr, .int mo, .int xa, .int xb, .int (nI fr), .ref (ad q1), .int nu, .int (nI tt), .int (nI (dn + 1)), .int (nI db)]))) q3 (.inl (cB, 64, .inl (kv_write f 64 ((8 * rd) + ((2 * ((nI fr) + (nI dn))) * (nI w))) (2 * w) (kv_K_result w mo xa xb op ra rb f g ((nI fr) + (nI dn))))))) qk = .inr (3, [.ref (ad q2), .ref (ad q4), .ref (ad q6), .ref (ad q7), .int (nI w), .int gr, .int mo, .int xa, .int xb, .int (nI fr), .ref (ad q1), .int nu, .int (nI tt), .int (nI (dn + 1)), .int (nI db)]) := (va_up_ne _ _ (hn_qk_q3)).trans ek
      have e1 : (va_up (va_up cs qk (.inr (3, [.ref (ad q2), .ref (ad q4), .ref (ad q6), .ref (ad q7), .int (nI w), .int gr, .int mo, .int xa, .int xb, .int (nI fr), .ref (ad q1), .int nu, .int (nI tt), .int (nI (dn + 1)), .int (nI db)]))) q3 (.inl (cB, 64, .inl (kv_write f 64 ((8 * rd) + ((2 * ((nI fr) + (nI dn))) * (nI w))) (2 * w) (kv_K_result w mo xa xb op ra rb f g ((nI fr) + (nI dn))))))) q1 = .inr (1, [.int op, .int rd, .int ra, .int rb, .int rn, .int mk]) := (va_up_ne _ _ (hn_q1_q3)).trans e1
      have e2 : (va_up (va_up cs qk (.inr (3, [.ref (ad q2), .ref (ad q4), .ref (ad q6), .ref (ad q7), .int (nI w), .int gr, .int mo, .int xa, .int xb, .int (nI fr), .ref (ad q1), .int nu, .int (nI tt), .int (nI (dn + 1)), .int (nI db)]))) q3 (.inl (cB, 64, .inl (kv_write f 64 ((8 * rd) + ((2 * ((nI fr) + (nI dn))) * (nI w))) (2 * w) (kv_K_result w mo xa xb op ra rb f g ((nI fr) + (nI dn))))))) q2 = .inr (0, [.ref (ad q3)]) := (va_up_ne _ _ (hn_q2_q3)).trans e2
      have e3 : (va_up (va_up cs qk (.inr (3, [.ref (ad q2), .ref (ad q4), .ref (ad q6), .ref (ad q7), .int (nI w), .int gr, .int mo, .int xa, .int xb, .int (nI fr), .ref (ad q1), .int nu, .int (nI tt), .int (nI (dn + 1)), .int (nI db)]))) q3 (.inl (cB, 64, .inl (kv_write f 64 ((8 * rd) + ((2 * ((nI fr) + (nI dn))) * (nI w))) (2 * w) (kv_K_result w mo xa xb op ra rb f g ((nI fr) + (nI dn))))))) q3 = .inl (cB, 64, .inl (kv_write f 64 ((8 * rd) + ((2 * ((nI fr) + (nI dn))) * (nI w))) (2 * w) (kv_K_result w mo xa xb op ra rb f g ((nI fr) + (nI dn))))) := va_up_self _ _ _
      have e4 : (va_up (va_up cs qk (.inr (3, [.ref (ad q2), .ref (ad q4), .ref (ad q6), .ref (ad q7), .int (nI w), .int gr, .int mo, .int xa, .int xb, .int (nI fr), .ref (ad q1), .int nu, .int (nI tt), .int (nI (dn + 1)), .int (nI db)]))) q3 (.inl (cB, 64, .inl (kv_write f 64 ((8 * rd) + ((2 * ((nI fr) + (nI dn))) * (nI w))) (2 * w) (kv_K_result w mo xa xb op ra rb f g ((nI fr) + (nI dn))))))) q4 = .inr (0, [.ref (ad q5)]) := (va_up_ne _ _ (hn_q3_q4.symm)).trans e4
      have e5 : (va_up (va_up cs qk (.inr (3, [.ref (ad q2), .ref (ad q4), .ref (ad q6), .ref (ad q7), .int (nI w), .int gr, .int mo, .int xa, .int xb, .int (nI fr), .ref (ad q1), .int nu, .int (nI tt), .int (nI (dn + 1)), .int (nI db)]))) q3 (.inl (cB, 64, .inl (kv_write f 64 ((8 * rd) + ((2 * ((nI fr) + (nI dn))) * (nI w))) (2 * w) (kv_K_result w mo xa xb op ra rb f g ((nI fr) + (nI dn))))))) q5 = .inl (cB, 128, .inl (g)) := (va_up_ne _ _ (hn_q3_q5.symm)).trans e5
      refine lv_goto (tgt := 238) hx hb d_K_doNextStep_176 (by decide) ?_
      exact kw_vret hx hb hr hlocks hP hK hS (by rw [show kv_K_doNextStep_q3 w fr tt dn mo xa xb op rd ra rb mk f g = kv_write f 64 ((8 * rd) + ((2 * ((nI fr) + (nI dn))) * (nI w))) (2 * w) (kv_K_result w mo xa xb op ra rb f g ((nI fr) + (nI dn))) from (by rw [kv_K_doNextStep_q3, if_pos h1, if_neg h2, if_pos h4]), show kv_K_doNextStep_q5 w fr dn xa xb op rd rb mk f g = g from (by rw [kv_K_doNextStep_q5, if_pos h1, if_neg h2, if_pos h4]), kw_id (e5)]) d_K_doNextStep_238
    by_cases h5 : op = 14
    · refine lv_tableIn (tgt := 92) hx hb d_K_doNextStep_48 (by rw [h5]; decide) (by rw [h5]; decide) (by rw [h5]; rfl) (by decide) ?_
      refine lv_aload_n hx hb d_K_doNextStep_92 rfl (lv_at hl 1 rfl) ?_
      refine kw_callvx (kw_rV (As := []) (rest := []) (q0 := qk) ⟨hx, hb, hml, hown, hg⟩ ⟨callB_of 0 hg (kg_goodG kg_427) rfl rfl rfl (hg _ kg_6) (hg _ kg_424) (by decide +kernel) ⟨by decide, by decide⟩, hg _ kg_426, hg _ (kg_sel (q := (y_K_writeSum, 15)) (by decide +kernel))⟩ (c_K_writeSum l hJ hqk ek hq1 e1 hq2 e2 hq3 e3 (by omega) hft htt ) hK hP hqk ek rfl rfl hl.1 rfl (Nat.le_of_ble_eq_true rfl) d_K_doNextStep_93 ⟨Nat.zero_le _, Nat.zero_le _⟩) hA hS (fun H locs hP hS => ?_)
      have ek : (va_up (va_up cs qk (.inr (3, [.ref (ad q2), .ref (ad q4), .ref (ad q6), .ref (ad q7), .int (nI w), .int gr, .int mo, .int xa, .int xb, .int (nI fr), .ref (ad q1), .int nu, .int (nI tt), .int (nI (dn + 1)), .int (nI db)]))) q3 (.inl (cB, 64, .inl (kv_K_writeSum_q3 w fr tt rd ra rb mk f)))) qk = .inr (3, [.ref (ad q2), .ref (ad q4), .ref (ad q6), .ref (ad q7), .int (nI w), .int gr, .int mo, .int xa, .int xb, .int (nI fr), .ref (ad q1), .int nu, .int (nI tt), .int (nI (dn + 1)), .int (nI db)]) := (va_up_ne _ _ (hn_qk_q3)).trans ek
      have e1 : (va_up (va_up cs qk (.inr (3, [.ref (ad q2), .ref (ad q4), .ref (ad q6), .ref (ad q7), .int (nI w), .int gr, .int mo, .int xa, .int xb, .int (nI fr), .ref (ad q1), .int nu, .int (nI tt), .int (nI (dn + 1)), .int (nI db)]))) q3 (.inl (cB, 64, .inl (kv_K_writeSum_q3 w fr tt rd ra rb mk f)))) q1 = .inr (1, [.int op, .int rd, .int ra, .int rb, .int rn, .int mk]) := (va_up_ne _ _ (hn_q1_q3)).trans e1
      have e2 : (va_up (va_up cs qk (.inr (3, [.ref (ad q2), .ref (ad q4), .ref (ad q6), .ref (ad q7), .int (nI w), .int gr, .int mo, .int xa, .int xb, .int (nI fr), .ref (ad q1), .int nu, .int (nI tt), .int (nI (dn + 1)), .int (nI db)]))) q3 (.inl (cB, 64, .inl (kv_K_writeSum_q3 w fr tt rd ra rb mk f)))) q2 = .inr (0, [.ref (ad q3)]) := (va_up_ne _ _ (hn_q2_q3)).trans e2
      have e3 : (va_up (va_up cs qk (.inr (3, [.ref (ad q2), .ref (ad q4), .ref (ad q6), .ref (ad q7), .int (nI w), .int gr, .int mo, .int xa, .int xb, .int (nI fr), .ref (ad q1), .int nu, .int (nI tt), .int (nI (dn + 1)), .int (nI db)]))) q3 (.inl (cB, 64, .inl (kv_K_writeSum_q3 w fr tt rd ra rb mk f)))) q3 = .inl (cB, 64, .inl (kv_K_writeSum_q3 w fr tt rd ra rb mk f)) := va_up_self _ _ _
      have e4 : (va_up (va_up cs qk (.inr (3, [.ref (ad q2), .ref (ad q4), .ref (ad q6), .ref (ad q7), .int (nI w), .int gr, .int mo, .int xa, .int xb, .int (nI fr), .ref (ad q1), .int nu, .int (nI tt), .int (nI (dn + 1)), .int (nI db)]))) q3 (.inl (cB, 64, .inl (kv_K_writeSum_q3 w fr tt rd ra rb mk f)))) q4 = .inr (0, [.ref (ad q5)]) := (va_up_ne _ _ (hn_q3_q4.symm)).trans e4
      have e5 : (va_up (va_up cs qk (.inr (3, [.ref (ad q2), .ref (ad q4), .ref (ad q6), .ref (ad q7), .int (nI w), .int gr, .int mo, .int xa, .int xb, .int (nI fr), .ref (ad q1), .int nu, .int (nI tt), .int (nI (dn + 1)), .int (nI db)]))) q3 (.inl (cB, 64, .inl (kv_K_writeSum_q3 w fr tt rd ra rb mk f)))) q5 = .inl (cB, 128, .inl (g)) := (va_up_ne _ _ (hn_q3_q5.symm)).trans e5
      refine lv_goto (tgt := 238) hx hb d_K_doNextStep_96 (by decide) ?_
      exact kw_vret hx hb hr hlocks hP hK hS (by rw [show kv_K_doNextStep_q3 w fr tt dn mo xa xb op rd ra rb mk f g = kv_K_writeSum_q3 w fr tt rd ra rb mk f from (by rw [kv_K_doNextStep_q3, if_pos h1, if_neg h2, if_neg h4, if_pos h5]), show kv_K_doNextStep_q5 w fr dn xa xb op rd rb mk f g = g from (by rw [kv_K_doNextStep_q5, if_pos h1, if_neg h2, if_neg h4, if_pos h5]), kw_id (e5)]) d_K_doNextStep_238
    by_cases h6 : op = 18
    · refine lv_tableIn (tgt := 179) hx hb d_K_doNextStep_48 (by rw [h6]; decide) (by rw [h6]; decide) (by rw [h6]; rfl) (by decide) ?_
      refine lv_aload_n hx hb d_K_doNextStep_179 rfl (lv_at hl 1 rfl) ?_
      refine kw_get hx hb hg in_K hown hK hP qk hqk ek rfl 1 (by decide) (hg _ kg_112) rfl rfl d_K_doNextStep_180 ?_
      refine lv_aload_n hx hb d_K_doNextStep_183 rfl (lv_at hl 1 rfl) ?_
      refine lv_iload_n hx hb d_K_doNextStep_184 rfl (lv_at hl 0 rfl) ?_
      refine kw_callix (kw_rV (As := [.int ((nI fr) + (nI dn))]) (rest := [.ref (ad q4)]) (q0 := qk) ⟨hx, hb, hml, hown, hg⟩ ⟨callB_of 1 hg (kg_goodG kg_452) rfl rfl rfl (hg _ kg_6) (hg _ kg_449) (by decide +kernel) ⟨by decide, by decide⟩, hg _ kg_451, hg _ (kg_sel (q := (y_K_placeInMemory, 15)) (by decide +kernel))⟩ (c_K_placeInMemory l hqk ek hq1 e1 hq2 e2 hq3 e3 (by omega) ) hK hP hqk ek rfl rfl hl.1 rfl (Nat.le_of_ble_eq_true rfl) d_K_doNextStep_185 ⟨Nat.zero_le _, Nat.zero_le _⟩) hA hS (fun H locs hP hS => ?_)
      refine lv_aload_n hx hb d_K_doNextStep_188 rfl (lv_at hl 1 rfl) ?_
      refine kw_get hx hb hg in_K hown hK hP qk hqk ek rfl 4 (by decide) (hg _ kg_115) rfl rfl d_K_doNextStep_189 ?_
      refine lv_aload_n hx hb d_K_doNextStep_192 rfl (lv_at hl 1 rfl) ?_
      refine lv_aload_n hx hb d_K_doNextStep_193 rfl (lv_at hl 1 rfl) ?_
      refine kw_get hx hb hg in_K hown hK hP qk hqk ek rfl 10 (by decide) (hg _ kg_121) rfl rfl d_K_doNextStep_194 ?_
      refine kw_get hx hb hg in_I hown hK hP q1 hq1 e1 rfl 1 (by decide) (hg _ kg_77) rfl rfl d_K_doNextStep_197 ?_
      refine lv_iload_n hx hb d_K_doNextStep_200 rfl (lv_at hl 0 rfl) ?_
      refine kw_callix (kw_rV (As := [.int rd, .int ((nI fr) + (nI dn))]) (rest := [.int (nI w), .int (kv_K_placeInMemory w xa xb op rb f ((nI fr) + (nI dn))), .ref (ad q4)]) (q0 := qk) ⟨hx, hb, hml, hown, hg⟩ ⟨callB_of 2 hg (kg_goodG kg_431) rfl rfl rfl (hg _ kg_6) (hg _ kg_428) (by decide +kernel) ⟨by decide, by decide⟩, hg _ kg_430, hg _ (kg_sel (q := (y_K_element, 15)) (by decide +kernel))⟩ (c_K_element l hqk ek hq1 e1 hq2 e2 hq3 e3 (by omega) ) hK hP hqk ek rfl rfl hl.1 rfl (Nat.le_of_ble_eq_true rfl) d_K_doNextStep_201 ⟨Nat.zero_le _, Nat.zero_le _⟩) hA hS (fun H locs hP hS => ?_)
      refine kw_callvx (kw_rV (As := [.int (kv_K_placeInMemory w xa xb op rb f ((nI fr) + (nI dn))), .int (nI w), .int (kv_K_element w f rd ((nI fr) + (nI dn)))]) (rest := []) (q0 := q4) ⟨hx, hb, hml, hown, hg⟩ ⟨callB_of 3 hg (kg_goodG kg_436) rfl rfl rfl (hg _ kg_3) (hg _ kg_433) (by decide +kernel) ⟨by decide, by decide⟩, hg _ kg_434, hg _ kg_435⟩ (c_B_write l hJ hq4 e4 hq5 e5 (by omega) (by decide) ) hK hP hq4 e4 rfl rfl hl.1 rfl (Nat.le_of_ble_eq_true rfl) d_K_doNextStep_204 ⟨Nat.zero_le _, Nat.zero_le _⟩) hA hS (fun H locs hP hS => ?_)
      have ek : (va_up (va_up cs qk (.inr (3, [.ref (ad q2), .ref (ad q4), .ref (ad q6), .ref (ad q7), .int (nI w), .int gr, .int mo, .int xa, .int xb, .int (nI fr), .ref (ad q1), .int nu, .int (nI tt), .int (nI (dn + 1)), .int (nI db)]))) q5 (.inl (cB, 128, .inl (kv_write g 128 (kv_K_placeInMemory w xa xb op rb f ((nI fr) + (nI dn))) w (kv_K_element w f rd ((nI fr) + (nI dn))))))) qk = .inr (3, [.ref (ad q2), .ref (ad q4), .ref (ad q6), .ref (ad q7), .int (nI w), .int gr, .int mo, .int xa, .int xb, .int (nI fr), .ref (ad q1), .int nu, .int (nI tt), .int (nI (dn + 1)), .int (nI db)]) := (va_up_ne _ _ (hn_qk_q5)).trans ek
      have e1 : (va_up (va_up cs qk (.inr (3, [.ref (ad q2), .ref (ad q4), .ref (ad q6), .ref (ad q7), .int (nI w), .int gr, .int mo, .int xa, .int xb, .int (nI fr), .ref (ad q1), .int nu, .int (nI tt), .int (nI (dn + 1)), .int (nI db)]))) q5 (.inl (cB, 128, .inl (kv_write g 128 (kv_K_placeInMemory w xa xb op rb f ((nI fr) + (nI dn))) w (kv_K_element w f rd ((nI fr) + (nI dn))))))) q1 = .inr (1, [.int op, .int rd, .int ra, .int rb, .int rn, .int mk]) := (va_up_ne _ _ (hn_q1_q5)).trans e1
      have e2 : (va_up (va_up cs qk (.inr (3, [.ref (ad q2), .ref (ad q4), .ref (ad q6), .ref (ad q7), .int (nI w), .int gr, .int mo, .int xa, .int xb, .int (nI fr), .ref (ad q1), .int nu, .int (nI tt), .int (nI (dn + 1)), .int (nI db)]))) q5 (.inl (cB, 128, .inl (kv_write g 128 (kv_K_placeInMemory w xa xb op rb f ((nI fr) + (nI dn))) w (kv_K_element w f rd ((nI fr) + (nI dn))))))) q2 = .inr (0, [.ref (ad q3)]) := (va_up_ne _ _ (hn_q2_q5)).trans e2
      have e3 : (va_up (va_up cs qk (.inr (3, [.ref (ad q2), .ref (ad q4), .ref (ad q6), .ref (ad q7), .int (nI w), .int gr, .int mo, .int xa, .int xb, .int (nI fr), .ref (ad q1), .int nu, .int (nI tt), .int (nI (dn + 1)), .int (nI db)]))) q5 (.inl (cB, 128, .inl (kv_write g 128 (kv_K_placeInMemory w xa xb op rb f ((nI fr) + (nI dn))) w (kv_K_element w f rd ((nI fr) + (nI dn))))))) q3 = .inl (cB, 64, .inl (f)) := (va_up_ne _ _ (hn_q3_q5)).trans e3
      have e4 : (va_up (va_up cs qk (.inr (3, [.ref (ad q2), .ref (ad q4), .ref (ad q6), .ref (ad q7), .int (nI w), .int gr, .int mo, .int xa, .int xb, .int (nI fr), .ref (ad q1), .int nu, .int (nI tt), .int (nI (dn + 1)), .int (nI db)]))) q5 (.inl (cB, 128, .inl (kv_write g 128 (kv_K_placeInMemory w xa xb op rb f ((nI fr) + (nI dn))) w (kv_K_element w f rd ((nI fr) + (nI dn))))))) q4 = .inr (0, [.ref (ad q5)]) := (va_up_ne _ _ (hn_q4_q5)).trans e4
      have e5 : (va_up (va_up cs qk (.inr (3, [.ref (ad q2), .ref (ad q4), .ref (ad q6), .ref (ad q7), .int (nI w), .int gr, .int mo, .int xa, .int xb, .int (nI fr), .ref (ad q1), .int nu, .int (nI tt), .int (nI (dn + 1)), .int (nI db)]))) q5 (.inl (cB, 128, .inl (kv_write g 128 (kv_K_placeInMemory w xa xb op rb f ((nI fr) + (nI dn))) w (kv_K_element w f rd ((nI fr) + (nI dn))))))) q5 = .inl (cB, 128, .inl (kv_write g 128 (kv_K_placeInMemory w xa xb op rb f ((nI fr) + (nI dn))) w (kv_K_element w f rd ((nI fr) + (nI dn))))) := va_up_self _ _ _
      refine lv_goto (tgt := 238) hx hb d_K_doNextStep_207 (by decide) ?_
      exact kw_vret hx hb hr hlocks hP hK hS (by rw [show kv_K_doNextStep_q3 w fr tt dn mo xa xb op rd ra rb mk f g = f from (by rw [kv_K_doNextStep_q3, if_pos h1, if_neg h2, if_neg h4, if_neg h5, if_pos h6]), show kv_K_doNextStep_q5 w fr dn xa xb op rd rb mk f g = kv_write g 128 (kv_K_placeInMemory w xa xb op rb f ((nI fr) + (nI dn))) w (kv_K_element w f rd ((nI fr) + (nI dn))) from (by rw [kv_K_doNextStep_q5, if_pos h1, if_neg h2, if_neg h4, if_neg h5, if_pos h6]), kw_id ((va_up_ne _ _ (hn_q3_q5)).symm.trans (e3))]) d_K_doNextStep_238
    refine kw_tbl (tgt := 210) (N := 7) hx hb d_K_doNextStep_48 rfl (by decide) (fun i hi => match i, hi with | 0, _ => Or.inr (lv_neT h2 rfl) | 1, _ => Or.inr (lv_neT h4 rfl) | 2, _ => Or.inr (lv_neT h5 rfl) | 3, _ => Or.inl rfl | 4, _ => Or.inl rfl | 5, _ => Or.inl rfl | 6, _ => Or.inr (lv_neT h6 rfl) | z + 7, h => absurd h (by omega)) ?_
    refine lv_aload_n hx hb d_K_doNextStep_210 rfl (lv_at hl 1 rfl) ?_
    refine kw_get hx hb hg in_K hown hK hP qk hqk ek rfl 0 (by decide) (hg _ kg_111) rfl rfl d_K_doNextStep_211 ?_
    refine lv_aload_n hx hb d_K_doNextStep_214 rfl (lv_at hl 1 rfl) ?_
    refine lv_aload_n hx hb d_K_doNextStep_215 rfl (lv_at hl 1 rfl) ?_
    refine kw_get hx hb hg in_K hown hK hP qk hqk ek rfl 10 (by decide) (hg _ kg_121) rfl rfl d_K_doNextStep_216 ?_
    refine kw_get hx hb hg in_I hown hK hP q1 hq1 e1 rfl 1 (by decide) (hg _ kg_77) rfl rfl d_K_doNextStep_219 ?_
    refine lv_iload_n hx hb d_K_doNextStep_222 rfl (lv_at hl 0 rfl) ?_
    refine kw_callix (kw_rV (As := [.int rd, .int ((nI fr) + (nI dn))]) (rest := [.ref (ad q2)]) (q0 := qk) ⟨hx, hb, hml, hown, hg⟩ ⟨callB_of 2 hg (kg_goodG kg_394) rfl rfl rfl (hg _ kg_6) (hg _ kg_391) (by decide +kernel) ⟨by decide, by decide⟩, hg _ kg_393, hg _ (kg_sel (q := (y_K_placeOf, 15)) (by decide +kernel))⟩ (c_K_placeOf l hqk ek ) hK hP hqk ek rfl rfl hl.1 rfl (Nat.le_of_ble_eq_true rfl) d_K_doNextStep_223 ⟨Nat.zero_le _, Nat.zero_le _⟩) hA hS (fun H locs hP hS => ?_)
    refine lv_aload_n hx hb d_K_doNextStep_226 rfl (lv_at hl 1 rfl) ?_
    refine kw_get hx hb hg in_K hown hK hP qk hqk ek rfl 4 (by decide) (hg _ kg_115) rfl rfl d_K_doNextStep_227 ?_
    refine lv_aload_n hx hb d_K_doNextStep_230 rfl (lv_at hl 1 rfl) ?_
    refine lv_iload_n hx hb d_K_doNextStep_231 rfl (lv_at hl 0 rfl) ?_
    refine kw_callix (kw_rV (As := [.int ((nI fr) + (nI dn))]) (rest := [.int (nI w), .int (kv_K_placeOf w rd ((nI fr) + (nI dn))), .ref (ad q2)]) (q0 := qk) ⟨hx, hb, hml, hown, hg⟩ ⟨callB_of 1 hg (kg_goodG kg_444) rfl rfl rfl (hg _ kg_6) (hg _ kg_441) (by decide +kernel) ⟨by decide, by decide⟩, hg _ kg_443, hg _ (kg_sel (q := (y_K_result, 15)) (by decide +kernel))⟩ (c_K_result l hqk ek hq1 e1 hq2 e2 hq3 e3 hq4 e4 hq5 e5 (by omega) ) hK hP hqk ek rfl rfl hl.1 rfl (Nat.le_of_ble_eq_true rfl) d_K_doNextStep_232 ⟨Nat.zero_le _, Nat.zero_le _⟩) hA hS (fun H locs hP hS => ?_)
    refine kw_callvx (kw_rV (As := [.int (kv_K_placeOf w rd ((nI fr) + (nI dn))), .int (nI w), .int (kv_K_result w mo xa xb op ra rb f g ((nI fr) + (nI dn)))]) (rest := []) (q0 := q2) ⟨hx, hb, hml, hown, hg⟩ ⟨callB_of 3 hg (kg_goodG kg_436) rfl rfl rfl (hg _ kg_3) (hg _ kg_433) (by decide +kernel) ⟨by decide, by decide⟩, hg _ kg_434, hg _ kg_435⟩ (c_B_write l hJ hq2 e2 hq3 e3 (by omega) (by decide) ) hK hP hq2 e2 rfl rfl hl.1 rfl (Nat.le_of_ble_eq_true rfl) d_K_doNextStep_235 ⟨Nat.zero_le _, Nat.zero_le _⟩) hA hS (fun H locs hP hS => ?_)
    have ek : (va_up (va_up cs qk (.inr (3, [.ref (ad q2), .ref (ad q4), .ref (ad q6), .ref (ad q7), .int (nI w), .int gr, .int mo, .int xa, .int xb, .int (nI fr), .ref (ad q1), .int nu, .int (nI tt), .int (nI (dn + 1)), .int (nI db)]))) q3 (.inl (cB, 64, .inl (kv_write f 64 (kv_K_placeOf w rd ((nI fr) + (nI dn))) w (kv_K_result w mo xa xb op ra rb f g ((nI fr) + (nI dn))))))) qk = .inr (3, [.ref (ad q2), .ref (ad q4), .ref (ad q6), .ref (ad q7), .int (nI w), .int gr, .int mo, .int xa, .int xb, .int (nI fr), .ref (ad q1), .int nu, .int (nI tt), .int (nI (dn + 1)), .int (nI db)]) := (va_up_ne _ _ (hn_qk_q3)).trans ek
    have e1 : (va_up (va_up cs qk (.inr (3, [.ref (ad q2), .ref (ad q4), .ref (ad q6), .ref (ad q7), .int (nI w), .int gr, .int mo, .int xa, .int xb, .int (nI fr), .ref (ad q1), .int nu, .int (nI tt), .int (nI (dn + 1)), .int (nI db)]))) q3 (.inl (cB, 64, .inl (kv_write f 64 (kv_K_placeOf w rd ((nI fr) + (nI dn))) w (kv_K_result w mo xa xb op ra rb f g ((nI fr) + (nI dn))))))) q1 = .inr (1, [.int op, .int rd, .int ra, .int rb, .int rn, .int mk]) := (va_up_ne _ _ (hn_q1_q3)).trans e1
    have e2 : (va_up (va_up cs qk (.inr (3, [.ref (ad q2), .ref (ad q4), .ref (ad q6), .ref (ad q7), .int (nI w), .int gr, .int mo, .int xa, .int xb, .int (nI fr), .ref (ad q1), .int nu, .int (nI tt), .int (nI (dn + 1)), .int (nI db)]))) q3 (.inl (cB, 64, .inl (kv_write f 64 (kv_K_placeOf w rd ((nI fr) + (nI dn))) w (kv_K_result w mo xa xb op ra rb f g ((nI fr) + (nI dn))))))) q2 = .inr (0, [.ref (ad q3)]) := (va_up_ne _ _ (hn_q2_q3)).trans e2
    have e3 : (va_up (va_up cs qk (.inr (3, [.ref (ad q2), .ref (ad q4), .ref (ad q6), .ref (ad q7), .int (nI w), .int gr, .int mo, .int xa, .int xb, .int (nI fr), .ref (ad q1), .int nu, .int (nI tt), .int (nI (dn + 1)), .int (nI db)]))) q3 (.inl (cB, 64, .inl (kv_write f 64 (kv_K_placeOf w rd ((nI fr) + (nI dn))) w (kv_K_result w mo xa xb op ra rb f g ((nI fr) + (nI dn))))))) q3 = .inl (cB, 64, .inl (kv_write f 64 (kv_K_placeOf w rd ((nI fr) + (nI dn))) w (kv_K_result w mo xa xb op ra rb f g ((nI fr) + (nI dn))))) := va_up_self _ _ _
    have e4 : (va_up (va_up cs qk (.inr (3, [.ref (ad q2), .ref (ad q4), .ref (ad q6), .ref (ad q7), .int (nI w), .int gr, .int mo, .int xa, .int xb, .int (nI fr), .ref (ad q1), .int nu, .int (nI tt), .int (nI (dn + 1)), .int (nI db)]))) q3 (.inl (cB, 64, .inl (kv_write f 64 (kv_K_placeOf w rd ((nI fr) + (nI dn))) w (kv_K_result w mo xa xb op ra rb f g ((nI fr) + (nI dn))))))) q4 = .inr (0, [.ref (ad q5)]) := (va_up_ne _ _ (hn_q3_q4.symm)).trans e4
    have e5 : (va_up (va_up cs qk (.inr (3, [.ref (ad q2), .ref (ad q4), .ref (ad q6), .ref (ad q7), .int (nI w), .int gr, .int mo, .int xa, .int xb, .int (nI fr), .ref (ad q1), .int nu, .int (nI tt), .int (nI (dn + 1)), .int (nI db)]))) q3 (.inl (cB, 64, .inl (kv_write f 64 (kv_K_placeOf w rd ((nI fr) + (nI dn))) w (kv_K_result w mo xa xb op ra rb f g ((nI fr) + (nI dn))))))) q5 = .inl (cB, 128, .inl (g)) := (va_up_ne _ _ (hn_q3_q5.symm)).trans e5
    exact kw_vret hx hb hr hlocks hP hK hS (by rw [show kv_K_doNextStep_q3 w fr tt dn mo xa xb op rd ra rb mk f g = kv_write f 64 (kv_K_placeOf w rd ((nI fr) + (nI dn))) w (kv_K_result w mo xa xb op ra rb f g ((nI fr) + (nI dn))) from (by rw [kv_K_doNextStep_q3, if_pos h1, if_neg h2, if_neg h4, if_neg h5, if_neg h6]), show kv_K_doNextStep_q5 w fr dn xa xb op rd rb mk f g = g from (by rw [kv_K_doNextStep_q5, if_pos h1, if_neg h2, if_neg h4, if_neg h5, if_neg h6]), kw_id (e5)]) d_K_doNextStep_238
  · refine lv_aload_n hx hb d_K_doNextStep_32 rfl (lv_at hl 1 rfl) ?_
    refine lv_iload_n hx hb d_K_doNextStep_33 rfl (lv_at hl 0 rfl) ?_
    refine kw_callix (kw_rV (As := [.int ((nI fr) + (nI dn))]) (rest := []) (q0 := qk) ⟨hx, hb, hml, hown, hg⟩ ⟨callB_of 1 hg (kg_goodG kg_422) rfl rfl rfl (hg _ kg_6) (hg _ kg_419) (by decide +kernel) ⟨by decide, by decide⟩, hg _ kg_421, hg _ (kg_sel (q := (y_K_isWorkedOn, 15)) (by decide +kernel))⟩ (c_K_isWorkedOn l hqk ek hq1 e1 hq2 e2 hq3 e3 ) hK hP hqk ek rfl rfl hl.1 rfl (Nat.le_of_ble_eq_true rfl) d_K_doNextStep_34 ⟨Nat.zero_le _, Nat.zero_le _⟩) hA hS (fun H locs hP hS => ?_)
    refine lv_if_ne (tgt := 41) hx hb d_K_doNextStep_37 (by decide) (fun h7 => ?_) (fun h7 => ?_)
    · refine lv_aload_n hx hb d_K_doNextStep_41 rfl (lv_at hl 1 rfl) ?_
      refine kw_get hx hb hg in_K hown hK hP qk hqk ek rfl 10 (by decide) (hg _ kg_121) rfl rfl d_K_doNextStep_42 ?_
      refine kw_get hx hb hg in_I hown hK hP q1 hq1 e1 rfl 0 (by decide) (hg _ kg_72) rfl rfl d_K_doNextStep_45 ?_
      by_cases h8 : op = 12
      · refine lv_tableIn (tgt := 99) hx hb d_K_doNextStep_48 (by rw [h8]; decide) (by rw [h8]; decide) (by rw [h8]; rfl) (by decide) ?_
        refine lv_aload_n hx hb d_K_doNextStep_99 rfl (lv_at hl 1 rfl) ?_
        refine lv_iload_n hx hb d_K_doNextStep_100 rfl (lv_at hl 0 rfl) ?_
        refine lv_aload_n hx hb d_K_doNextStep_101 rfl (lv_at hl 1 rfl) ?_
        refine lv_aload_n hx hb d_K_doNextStep_102 rfl (lv_at hl 1 rfl) ?_
        refine kw_get hx hb hg in_K hown hK hP qk hqk ek rfl 10 (by decide) (hg _ kg_121) rfl rfl d_K_doNextStep_103 ?_
        refine kw_get hx hb hg in_I hown hK hP q1 hq1 e1 rfl 2 (by decide) (hg _ kg_81) rfl rfl d_K_doNextStep_106 ?_
        refine lv_iload_n hx hb d_K_doNextStep_109 rfl (lv_at hl 0 rfl) ?_
        refine kw_callix (kw_rV (As := [.int ra, .int ((nI fr) + (nI dn))]) (rest := [.int ((nI fr) + (nI dn)), .ref (ad qk)]) (q0 := qk) ⟨hx, hb, hml, hown, hg⟩ ⟨callB_of 2 hg (kg_goodG kg_431) rfl rfl rfl (hg _ kg_6) (hg _ kg_428) (by decide +kernel) ⟨by decide, by decide⟩, hg _ kg_430, hg _ (kg_sel (q := (y_K_element, 15)) (by decide +kernel))⟩ (c_K_element l hqk ek hq1 e1 hq2 e2 hq3 e3 (by omega) ) hK hP hqk ek rfl rfl hl.1 rfl (Nat.le_of_ble_eq_true rfl) d_K_doNextStep_110 ⟨Nat.zero_le _, Nat.zero_le _⟩) hA hS (fun H locs hP hS => ?_)
        refine lv_aload_n hx hb d_K_doNextStep_113 rfl (lv_at hl 1 rfl) ?_
        refine lv_aload_n hx hb d_K_doNextStep_114 rfl (lv_at hl 1 rfl) ?_
        refine kw_get hx hb hg in_K hown hK hP qk hqk ek rfl 10 (by decide) (hg _ kg_121) rfl rfl d_K_doNextStep_115 ?_
        refine kw_get hx hb hg in_I hown hK hP q1 hq1 e1 rfl 3 (by decide) (hg _ kg_85) rfl rfl d_K_doNextStep_118 ?_
        refine lv_iload_n hx hb d_K_doNextStep_121 rfl (lv_at hl 0 rfl) ?_
        refine kw_callix (kw_rV (As := [.int rb, .int ((nI fr) + (nI dn))]) (rest := [.int (kv_K_element w f ra ((nI fr) + (nI dn))), .int ((nI fr) + (nI dn)), .ref (ad qk)]) (q0 := qk) ⟨hx, hb, hml, hown, hg⟩ ⟨callB_of 2 hg (kg_goodG kg_431) rfl rfl rfl (hg _ kg_6) (hg _ kg_428) (by decide +kernel) ⟨by decide, by decide⟩, hg _ kg_430, hg _ (kg_sel (q := (y_K_element, 15)) (by decide +kernel))⟩ (c_K_element l hqk ek hq1 e1 hq2 e2 hq3 e3 (by omega) ) hK hP hqk ek rfl rfl hl.1 rfl (Nat.le_of_ble_eq_true rfl) d_K_doNextStep_122 ⟨Nat.zero_le _, Nat.zero_le _⟩) hA hS (fun H locs hP hS => ?_)
        refine lv_icmp_ge (tgt := 132) hx hb d_K_doNextStep_125 (by decide) (fun h9 => ?_) (fun h9 => ?_)
        · refine lv_iconst (v := 0) hx hb d_K_doNextStep_132 (by decide) ?_
          refine kw_callvx (kw_rV (As := [.int ((nI fr) + (nI dn)), .int 0]) (rest := []) (q0 := qk) ⟨hx, hb, hml, hown, hg⟩ ⟨callB_of 2 hg (kg_goodG kg_440) rfl rfl rfl (hg _ kg_6) (hg _ kg_437) (by decide +kernel) ⟨by decide, by decide⟩, hg _ kg_439, hg _ (kg_sel (q := (y_K_writeMaskBit, 15)) (by decide +kernel))⟩ (c_K_writeMaskBit l hJ hqk ek hq1 e1 hq2 e2 hq3 e3 ) hK hP hqk ek rfl rfl hl.1 rfl (Nat.le_of_ble_eq_true rfl) d_K_doNextStep_133 ⟨Nat.zero_le _, Nat.zero_le _⟩) hA hS (fun H locs hP hS => ?_)
          have ek : (va_up (va_up cs qk (.inr (3, [.ref (ad q2), .ref (ad q4), .ref (ad q6), .ref (ad q7), .int (nI w), .int gr, .int mo, .int xa, .int xb, .int (nI fr), .ref (ad q1), .int nu, .int (nI tt), .int (nI (dn + 1)), .int (nI db)]))) q3 (.inl (cB, 64, .inl (kv_K_writeMaskBit_q3 rd f ((nI fr) + (nI dn)) 0)))) qk = .inr (3, [.ref (ad q2), .ref (ad q4), .ref (ad q6), .ref (ad q7), .int (nI w), .int gr, .int mo, .int xa, .int xb, .int (nI fr), .ref (ad q1), .int nu, .int (nI tt), .int (nI (dn + 1)), .int (nI db)]) := (va_up_ne _ _ (hn_qk_q3)).trans ek
          have e1 : (va_up (va_up cs qk (.inr (3, [.ref (ad q2), .ref (ad q4), .ref (ad q6), .ref (ad q7), .int (nI w), .int gr, .int mo, .int xa, .int xb, .int (nI fr), .ref (ad q1), .int nu, .int (nI tt), .int (nI (dn + 1)), .int (nI db)]))) q3 (.inl (cB, 64, .inl (kv_K_writeMaskBit_q3 rd f ((nI fr) + (nI dn)) 0)))) q1 = .inr (1, [.int op, .int rd, .int ra, .int rb, .int rn, .int mk]) := (va_up_ne _ _ (hn_q1_q3)).trans e1
          have e2 : (va_up (va_up cs qk (.inr (3, [.ref (ad q2), .ref (ad q4), .ref (ad q6), .ref (ad q7), .int (nI w), .int gr, .int mo, .int xa, .int xb, .int (nI fr), .ref (ad q1), .int nu, .int (nI tt), .int (nI (dn + 1)), .int (nI db)]))) q3 (.inl (cB, 64, .inl (kv_K_writeMaskBit_q3 rd f ((nI fr) + (nI dn)) 0)))) q2 = .inr (0, [.ref (ad q3)]) := (va_up_ne _ _ (hn_q2_q3)).trans e2
          have e3 : (va_up (va_up cs qk (.inr (3, [.ref (ad q2), .ref (ad q4), .ref (ad q6), .ref (ad q7), .int (nI w), .int gr, .int mo, .int xa, .int xb, .int (nI fr), .ref (ad q1), .int nu, .int (nI tt), .int (nI (dn + 1)), .int (nI db)]))) q3 (.inl (cB, 64, .inl (kv_K_writeMaskBit_q3 rd f ((nI fr) + (nI dn)) 0)))) q3 = .inl (cB, 64, .inl (kv_K_writeMaskBit_q3 rd f ((nI fr) + (nI dn)) 0)) := va_up_self _ _ _
          have e4 : (va_up (va_up cs qk (.inr (3, [.ref (ad q2), .ref (ad q4), .ref (ad q6), .ref (ad q7), .int (nI w), .int gr, .int mo, .int xa, .int xb, .int (nI fr), .ref (ad q1), .int nu, .int (nI tt), .int (nI (dn + 1)), .int (nI db)]))) q3 (.inl (cB, 64, .inl (kv_K_writeMaskBit_q3 rd f ((nI fr) + (nI dn)) 0)))) q4 = .inr (0, [.ref (ad q5)]) := (va_up_ne _ _ (hn_q3_q4.symm)).trans e4
          have e5 : (va_up (va_up cs qk (.inr (3, [.ref (ad q2), .ref (ad q4), .ref (ad q6), .ref (ad q7), .int (nI w), .int gr, .int mo, .int xa, .int xb, .int (nI fr), .ref (ad q1), .int nu, .int (nI tt), .int (nI (dn + 1)), .int (nI db)]))) q3 (.inl (cB, 64, .inl (kv_K_writeMaskBit_q3 rd f ((nI fr) + (nI dn)) 0)))) q5 = .inl (cB, 128, .inl (g)) := (va_up_ne _ _ (hn_q3_q5.symm)).trans e5
          refine lv_goto (tgt := 238) hx hb d_K_doNextStep_136 (by decide) ?_
          exact kw_vret hx hb hr hlocks hP hK hS (by rw [show kv_K_doNextStep_q3 w fr tt dn mo xa xb op rd ra rb mk f g = kv_K_writeMaskBit_q3 rd f ((nI fr) + (nI dn)) 0 from (by rw [kv_K_doNextStep_q3, if_neg h1, if_neg h7, if_pos h8, if_pos h9]), show kv_K_doNextStep_q5 w fr dn xa xb op rd rb mk f g = g from (by rw [kv_K_doNextStep_q5, if_neg h1, if_neg h7, if_pos h8]), kw_id (e5)]) d_K_doNextStep_238
        · refine lv_iconst (v := 1) hx hb d_K_doNextStep_128 (by decide) ?_
          refine lv_goto (tgt := 133) hx hb d_K_doNextStep_129 (by decide) ?_
          refine kw_callvx (kw_rV (As := [.int ((nI fr) + (nI dn)), .int 1]) (rest := []) (q0 := qk) ⟨hx, hb, hml, hown, hg⟩ ⟨callB_of 2 hg (kg_goodG kg_440) rfl rfl rfl (hg _ kg_6) (hg _ kg_437) (by decide +kernel) ⟨by decide, by decide⟩, hg _ kg_439, hg _ (kg_sel (q := (y_K_writeMaskBit, 15)) (by decide +kernel))⟩ (c_K_writeMaskBit l hJ hqk ek hq1 e1 hq2 e2 hq3 e3 ) hK hP hqk ek rfl rfl hl.1 rfl (Nat.le_of_ble_eq_true rfl) d_K_doNextStep_133 ⟨Nat.zero_le _, Nat.zero_le _⟩) hA hS (fun H locs hP hS => ?_)
          have ek : (va_up (va_up cs qk (.inr (3, [.ref (ad q2), .ref (ad q4), .ref (ad q6), .ref (ad q7), .int (nI w), .int gr, .int mo, .int xa, .int xb, .int (nI fr), .ref (ad q1), .int nu, .int (nI tt), .int (nI (dn + 1)), .int (nI db)]))) q3 (.inl (cB, 64, .inl (kv_K_writeMaskBit_q3 rd f ((nI fr) + (nI dn)) 1)))) qk = .inr (3, [.ref (ad q2), .ref (ad q4), .ref (ad q6), .ref (ad q7), .int (nI w), .int gr, .int mo, .int xa, .int xb, .int (nI fr), .ref (ad q1), .int nu, .int (nI tt), .int (nI (dn + 1)), .int (nI db)]) := (va_up_ne _ _ (hn_qk_q3)).trans ek
          have e1 : (va_up (va_up cs qk (.inr (3, [.ref (ad q2), .ref (ad q4), .ref (ad q6), .ref (ad q7), .int (nI w), .int gr, .int mo, .int xa, .int xb, .int (nI fr), .ref (ad q1), .int nu, .int (nI tt), .int (nI (dn + 1)), .int (nI db)]))) q3 (.inl (cB, 64, .inl (kv_K_writeMaskBit_q3 rd f ((nI fr) + (nI dn)) 1)))) q1 = .inr (1, [.int op, .int rd, .int ra, .int rb, .int rn, .int mk]) := (va_up_ne _ _ (hn_q1_q3)).trans e1
          have e2 : (va_up (va_up cs qk (.inr (3, [.ref (ad q2), .ref (ad q4), .ref (ad q6), .ref (ad q7), .int (nI w), .int gr, .int mo, .int xa, .int xb, .int (nI fr), .ref (ad q1), .int nu, .int (nI tt), .int (nI (dn + 1)), .int (nI db)]))) q3 (.inl (cB, 64, .inl (kv_K_writeMaskBit_q3 rd f ((nI fr) + (nI dn)) 1)))) q2 = .inr (0, [.ref (ad q3)]) := (va_up_ne _ _ (hn_q2_q3)).trans e2
          have e3 : (va_up (va_up cs qk (.inr (3, [.ref (ad q2), .ref (ad q4), .ref (ad q6), .ref (ad q7), .int (nI w), .int gr, .int mo, .int xa, .int xb, .int (nI fr), .ref (ad q1), .int nu, .int (nI tt), .int (nI (dn + 1)), .int (nI db)]))) q3 (.inl (cB, 64, .inl (kv_K_writeMaskBit_q3 rd f ((nI fr) + (nI dn)) 1)))) q3 = .inl (cB, 64, .inl (kv_K_writeMaskBit_q3 rd f ((nI fr) + (nI dn)) 1)) := va_up_self _ _ _
          have e4 : (va_up (va_up cs qk (.inr (3, [.ref (ad q2), .ref (ad q4), .ref (ad q6), .ref (ad q7), .int (nI w), .int gr, .int mo, .int xa, .int xb, .int (nI fr), .ref (ad q1), .int nu, .int (nI tt), .int (nI (dn + 1)), .int (nI db)]))) q3 (.inl (cB, 64, .inl (kv_K_writeMaskBit_q3 rd f ((nI fr) + (nI dn)) 1)))) q4 = .inr (0, [.ref (ad q5)]) := (va_up_ne _ _ (hn_q3_q4.symm)).trans e4
          have e5 : (va_up (va_up cs qk (.inr (3, [.ref (ad q2), .ref (ad q4), .ref (ad q6), .ref (ad q7), .int (nI w), .int gr, .int mo, .int xa, .int xb, .int (nI fr), .ref (ad q1), .int nu, .int (nI tt), .int (nI (dn + 1)), .int (nI db)]))) q3 (.inl (cB, 64, .inl (kv_K_writeMaskBit_q3 rd f ((nI fr) + (nI dn)) 1)))) q5 = .inl (cB, 128, .inl (g)) := (va_up_ne _ _ (hn_q3_q5.symm)).trans e5
          refine lv_goto (tgt := 238) hx hb d_K_doNextStep_136 (by decide) ?_
          exact kw_vret hx hb hr hlocks hP hK hS (by rw [show kv_K_doNextStep_q3 w fr tt dn mo xa xb op rd ra rb mk f g = kv_K_writeMaskBit_q3 rd f ((nI fr) + (nI dn)) 1 from (by rw [kv_K_doNextStep_q3, if_neg h1, if_neg h7, if_pos h8, if_neg h9]), show kv_K_doNextStep_q5 w fr dn xa xb op rd rb mk f g = g from (by rw [kv_K_doNextStep_q5, if_neg h1, if_neg h7, if_pos h8]), kw_id (e5)]) d_K_doNextStep_238
      by_cases h10 : op = 13
      · refine lv_tableIn (tgt := 139) hx hb d_K_doNextStep_48 (by rw [h10]; decide) (by rw [h10]; decide) (by rw [h10]; rfl) (by decide) ?_
        refine lv_aload_n hx hb d_K_doNextStep_139 rfl (lv_at hl 1 rfl) ?_
        refine kw_get hx hb hg in_K hown hK hP qk hqk ek rfl 0 (by decide) (hg _ kg_111) rfl rfl d_K_doNextStep_140 ?_
        refine lv_bipush (v := 8) hx hb d_K_doNextStep_143 (by decide) ?_
        refine lv_aload_n hx hb d_K_doNextStep_145 rfl (lv_at hl 1 rfl) ?_
        refine kw_get hx hb hg in_K hown hK hP qk hqk ek rfl 10 (by decide) (hg _ kg_121) rfl rfl d_K_doNextStep_146 ?_
        refine kw_get hx hb hg in_I hown hK hP q1 hq1 e1 rfl 1 (by decide) (hg _ kg_77) rfl rfl d_K_doNextStep_149 ?_
        refine lv_imul hx hb d_K_doNextStep_152 ?_
        refine lv_iconst (v := 2) hx hb d_K_doNextStep_153 (by decide) ?_
        refine lv_iload_n hx hb d_K_doNextStep_154 rfl (lv_at hl 0 rfl) ?_
        refine lv_imul hx hb d_K_doNextStep_155 ?_
        refine lv_aload_n hx hb d_K_doNextStep_156 rfl (lv_at hl 1 rfl) ?_
        refine kw_get hx hb hg in_K hown hK hP qk hqk ek rfl 4 (by decide) (hg _ kg_115) rfl rfl d_K_doNextStep_157 ?_
        refine lv_imul hx hb d_K_doNextStep_160 ?_
        refine lv_iadd hx hb d_K_doNextStep_161 ?_
        refine lv_iconst (v := 2) hx hb d_K_doNextStep_162 (by decide) ?_
        refine lv_aload_n hx hb d_K_doNextStep_163 rfl (lv_at hl 1 rfl) ?_
        refine kw_get hx hb hg in_K hown hK hP qk hqk ek rfl 4 (by decide) (hg _ kg_115) rfl rfl d_K_doNextStep_164 ?_
        refine lv_imul hx hb d_K_doNextStep_167 ?_
        rw [show (2 : Int32) * nI w = nI (2 * w) from pk_mul 2 w]
        refine lv_aload_n hx hb d_K_doNextStep_168 rfl (lv_at hl 1 rfl) ?_
        refine lv_iload_n hx hb d_K_doNextStep_169 rfl (lv_at hl 0 rfl) ?_
        refine kw_callix (kw_rV (As := [.int ((nI fr) + (nI dn))]) (rest := [.int (nI (2 * w)), .int ((8 * rd) + ((2 * ((nI fr) + (nI dn))) * (nI w))), .ref (ad q2)]) (q0 := qk) ⟨hx, hb, hml, hown, hg⟩ ⟨callB_of 1 hg (kg_goodG kg_444) rfl rfl rfl (hg _ kg_6) (hg _ kg_441) (by decide +kernel) ⟨by decide, by decide⟩, hg _ kg_443, hg _ (kg_sel (q := (y_K_result, 15)) (by decide +kernel))⟩ (c_K_result l hqk ek hq1 e1 hq2 e2 hq3 e3 hq4 e4 hq5 e5 (by omega) ) hK hP hqk ek rfl rfl hl.1 rfl (Nat.le_of_ble_eq_true rfl) d_K_doNextStep_170 ⟨Nat.zero_le _, Nat.zero_le _⟩) hA hS (fun H locs hP hS => ?_)
        refine kw_callvx (kw_rV (As := [.int ((8 * rd) + ((2 * ((nI fr) + (nI dn))) * (nI w))), .int (nI (2 * w)), .int (kv_K_result w mo xa xb op ra rb f g ((nI fr) + (nI dn)))]) (rest := []) (q0 := q2) ⟨hx, hb, hml, hown, hg⟩ ⟨callB_of 3 hg (kg_goodG kg_436) rfl rfl rfl (hg _ kg_3) (hg _ kg_433) (by decide +kernel) ⟨by decide, by decide⟩, hg _ kg_434, hg _ kg_435⟩ (c_B_write l hJ hq2 e2 hq3 e3 (by omega) (by decide) (w := 2 * w)) hK hP hq2 e2 rfl rfl hl.1 rfl (Nat.le_of_ble_eq_true rfl) d_K_doNextStep_173 ⟨Nat.zero_le _, Nat.zero_le _⟩) hA hS (fun H locs hP hS => ?_)
        have ek : (va_up (va_up cs qk (.inr (3, [.ref (ad q2), .ref (ad q4), .ref (ad q6), .ref (ad q7), .int (nI w), .int gr, .int mo, .int xa, .int xb, .int (nI fr), .ref (ad q1), .int nu, .int (nI tt), .int (nI (dn + 1)), .int (nI db)]))) q3 (.inl (cB, 64, .inl (kv_write f 64 ((8 * rd) + ((2 * ((nI fr) + (nI dn))) * (nI w))) (2 * w) (kv_K_result w mo xa xb op ra rb f g ((nI fr) + (nI dn))))))) qk = .inr (3, [.ref (ad q2), .ref (ad q4), .ref (ad q6), .ref (ad q7), .int (nI w), .int gr, .int mo, .int xa, .int xb, .int (nI fr), .ref (ad q1), .int nu, .int (nI tt), .int (nI (dn + 1)), .int (nI db)]) := (va_up_ne _ _ (hn_qk_q3)).trans ek
        have e1 : (va_up (va_up cs qk (.inr (3, [.ref (ad q2), .ref (ad q4), .ref (ad q6), .ref (ad q7), .int (nI w), .int gr, .int mo, .int xa, .int xb, .int (nI fr), .ref (ad q1), .int nu, .int (nI tt), .int (nI (dn + 1)), .int (nI db)]))) q3 (.inl (cB, 64, .inl (kv_write f 64 ((8 * rd) + ((2 * ((nI fr) + (nI dn))) * (nI w))) (2 * w) (kv_K_result w mo xa xb op ra rb f g ((nI fr) + (nI dn))))))) q1 = .inr (1, [.int op, .int rd, .int ra, .int rb, .int rn, .int mk]) := (va_up_ne _ _ (hn_q1_q3)).trans e1
        have e2 : (va_up (va_up cs qk (.inr (3, [.ref (ad q2), .ref (ad q4), .ref (ad q6), .ref (ad q7), .int (nI w), .int gr, .int mo, .int xa, .int xb, .int (nI fr), .ref (ad q1), .int nu, .int (nI tt), .int (nI (dn + 1)), .int (nI db)]))) q3 (.inl (cB, 64, .inl (kv_write f 64 ((8 * rd) + ((2 * ((nI fr) + (nI dn))) * (nI w))) (2 * w) (kv_K_result w mo xa xb op ra rb f g ((nI fr) + (nI dn))))))) q2 = .inr (0, [.ref (ad q3)]) := (va_up_ne _ _ (hn_q2_q3)).trans e2
        have e3 : (va_up (va_up cs qk (.inr (3, [.ref (ad q2), .ref (ad q4), .ref (ad q6), .ref (ad q7), .int (nI w), .int gr, .int mo, .int xa, .int xb, .int (nI fr), .ref (ad q1), .int nu, .int (nI tt), .int (nI (dn + 1)), .int (nI db)]))) q3 (.inl (cB, 64, .inl (kv_write f 64 ((8 * rd) + ((2 * ((nI fr) + (nI dn))) * (nI w))) (2 * w) (kv_K_result w mo xa xb op ra rb f g ((nI fr) + (nI dn))))))) q3 = .inl (cB, 64, .inl (kv_write f 64 ((8 * rd) + ((2 * ((nI fr) + (nI dn))) * (nI w))) (2 * w) (kv_K_result w mo xa xb op ra rb f g ((nI fr) + (nI dn))))) := va_up_self _ _ _
        have e4 : (va_up (va_up cs qk (.inr (3, [.ref (ad q2), .ref (ad q4), .ref (ad q6), .ref (ad q7), .int (nI w), .int gr, .int mo, .int xa, .int xb, .int (nI fr), .ref (ad q1), .int nu, .int (nI tt), .int (nI (dn + 1)), .int (nI db)]))) q3 (.inl (cB, 64, .inl (kv_write f 64 ((8 * rd) + ((2 * ((nI fr) + (nI dn))) * (nI w))) (2 * w) (kv_K_result w mo xa xb op ra rb f g ((nI fr) + (nI dn))))))) q4 = .inr (0, [.ref (ad q5)]) := (va_up_ne _ _ (hn_q3_q4.symm)).trans e4
        have e5 : (va_up (va_up cs qk (.inr (3, [.ref (ad q2), .ref (ad q4), .ref (ad q6), .ref (ad q7), .int (nI w), .int gr, .int mo, .int xa, .int xb, .int (nI fr), .ref (ad q1), .int nu, .int (nI tt), .int (nI (dn + 1)), .int (nI db)]))) q3 (.inl (cB, 64, .inl (kv_write f 64 ((8 * rd) + ((2 * ((nI fr) + (nI dn))) * (nI w))) (2 * w) (kv_K_result w mo xa xb op ra rb f g ((nI fr) + (nI dn))))))) q5 = .inl (cB, 128, .inl (g)) := (va_up_ne _ _ (hn_q3_q5.symm)).trans e5
        refine lv_goto (tgt := 238) hx hb d_K_doNextStep_176 (by decide) ?_
        exact kw_vret hx hb hr hlocks hP hK hS (by rw [show kv_K_doNextStep_q3 w fr tt dn mo xa xb op rd ra rb mk f g = kv_write f 64 ((8 * rd) + ((2 * ((nI fr) + (nI dn))) * (nI w))) (2 * w) (kv_K_result w mo xa xb op ra rb f g ((nI fr) + (nI dn))) from (by rw [kv_K_doNextStep_q3, if_neg h1, if_neg h7, if_neg h8, if_pos h10]), show kv_K_doNextStep_q5 w fr dn xa xb op rd rb mk f g = g from (by rw [kv_K_doNextStep_q5, if_neg h1, if_neg h7, if_neg h8, if_pos h10]), kw_id (e5)]) d_K_doNextStep_238
      by_cases h11 : op = 14
      · refine lv_tableIn (tgt := 92) hx hb d_K_doNextStep_48 (by rw [h11]; decide) (by rw [h11]; decide) (by rw [h11]; rfl) (by decide) ?_
        refine lv_aload_n hx hb d_K_doNextStep_92 rfl (lv_at hl 1 rfl) ?_
        refine kw_callvx (kw_rV (As := []) (rest := []) (q0 := qk) ⟨hx, hb, hml, hown, hg⟩ ⟨callB_of 0 hg (kg_goodG kg_427) rfl rfl rfl (hg _ kg_6) (hg _ kg_424) (by decide +kernel) ⟨by decide, by decide⟩, hg _ kg_426, hg _ (kg_sel (q := (y_K_writeSum, 15)) (by decide +kernel))⟩ (c_K_writeSum l hJ hqk ek hq1 e1 hq2 e2 hq3 e3 (by omega) hft htt ) hK hP hqk ek rfl rfl hl.1 rfl (Nat.le_of_ble_eq_true rfl) d_K_doNextStep_93 ⟨Nat.zero_le _, Nat.zero_le _⟩) hA hS (fun H locs hP hS => ?_)
        have ek : (va_up (va_up cs qk (.inr (3, [.ref (ad q2), .ref (ad q4), .ref (ad q6), .ref (ad q7), .int (nI w), .int gr, .int mo, .int xa, .int xb, .int (nI fr), .ref (ad q1), .int nu, .int (nI tt), .int (nI (dn + 1)), .int (nI db)]))) q3 (.inl (cB, 64, .inl (kv_K_writeSum_q3 w fr tt rd ra rb mk f)))) qk = .inr (3, [.ref (ad q2), .ref (ad q4), .ref (ad q6), .ref (ad q7), .int (nI w), .int gr, .int mo, .int xa, .int xb, .int (nI fr), .ref (ad q1), .int nu, .int (nI tt), .int (nI (dn + 1)), .int (nI db)]) := (va_up_ne _ _ (hn_qk_q3)).trans ek
        have e1 : (va_up (va_up cs qk (.inr (3, [.ref (ad q2), .ref (ad q4), .ref (ad q6), .ref (ad q7), .int (nI w), .int gr, .int mo, .int xa, .int xb, .int (nI fr), .ref (ad q1), .int nu, .int (nI tt), .int (nI (dn + 1)), .int (nI db)]))) q3 (.inl (cB, 64, .inl (kv_K_writeSum_q3 w fr tt rd ra rb mk f)))) q1 = .inr (1, [.int op, .int rd, .int ra, .int rb, .int rn, .int mk]) := (va_up_ne _ _ (hn_q1_q3)).trans e1
        have e2 : (va_up (va_up cs qk (.inr (3, [.ref (ad q2), .ref (ad q4), .ref (ad q6), .ref (ad q7), .int (nI w), .int gr, .int mo, .int xa, .int xb, .int (nI fr), .ref (ad q1), .int nu, .int (nI tt), .int (nI (dn + 1)), .int (nI db)]))) q3 (.inl (cB, 64, .inl (kv_K_writeSum_q3 w fr tt rd ra rb mk f)))) q2 = .inr (0, [.ref (ad q3)]) := (va_up_ne _ _ (hn_q2_q3)).trans e2
        have e3 : (va_up (va_up cs qk (.inr (3, [.ref (ad q2), .ref (ad q4), .ref (ad q6), .ref (ad q7), .int (nI w), .int gr, .int mo, .int xa, .int xb, .int (nI fr), .ref (ad q1), .int nu, .int (nI tt), .int (nI (dn + 1)), .int (nI db)]))) q3 (.inl (cB, 64, .inl (kv_K_writeSum_q3 w fr tt rd ra rb mk f)))) q3 = .inl (cB, 64, .inl (kv_K_writeSum_q3 w fr tt rd ra rb mk f)) := va_up_self _ _ _
        have e4 : (va_up (va_up cs qk (.inr (3, [.ref (ad q2), .ref (ad q4), .ref (ad q6), .ref (ad q7), .int (nI w), .int gr, .int mo, .int xa, .int xb, .int (nI fr), .ref (ad q1), .int nu, .int (nI tt), .int (nI (dn + 1)), .int (nI db)]))) q3 (.inl (cB, 64, .inl (kv_K_writeSum_q3 w fr tt rd ra rb mk f)))) q4 = .inr (0, [.ref (ad q5)]) := (va_up_ne _ _ (hn_q3_q4.symm)).trans e4
        have e5 : (va_up (va_up cs qk (.inr (3, [.ref (ad q2), .ref (ad q4), .ref (ad q6), .ref (ad q7), .int (nI w), .int gr, .int mo, .int xa, .int xb, .int (nI fr), .ref (ad q1), .int nu, .int (nI tt), .int (nI (dn + 1)), .int (nI db)]))) q3 (.inl (cB, 64, .inl (kv_K_writeSum_q3 w fr tt rd ra rb mk f)))) q5 = .inl (cB, 128, .inl (g)) := (va_up_ne _ _ (hn_q3_q5.symm)).trans e5
        refine lv_goto (tgt := 238) hx hb d_K_doNextStep_96 (by decide) ?_
        exact kw_vret hx hb hr hlocks hP hK hS (by rw [show kv_K_doNextStep_q3 w fr tt dn mo xa xb op rd ra rb mk f g = kv_K_writeSum_q3 w fr tt rd ra rb mk f from (by rw [kv_K_doNextStep_q3, if_neg h1, if_neg h7, if_neg h8, if_neg h10, if_pos h11]), show kv_K_doNextStep_q5 w fr dn xa xb op rd rb mk f g = g from (by rw [kv_K_doNextStep_q5, if_neg h1, if_neg h7, if_neg h8, if_neg h10, if_pos h11]), kw_id (e5)]) d_K_doNextStep_238
      by_cases h12 : op = 18
      · refine lv_tableIn (tgt := 179) hx hb d_K_doNextStep_48 (by rw [h12]; decide) (by rw [h12]; decide) (by rw [h12]; rfl) (by decide) ?_
        refine lv_aload_n hx hb d_K_doNextStep_179 rfl (lv_at hl 1 rfl) ?_
        refine kw_get hx hb hg in_K hown hK hP qk hqk ek rfl 1 (by decide) (hg _ kg_112) rfl rfl d_K_doNextStep_180 ?_
        refine lv_aload_n hx hb d_K_doNextStep_183 rfl (lv_at hl 1 rfl) ?_
        refine lv_iload_n hx hb d_K_doNextStep_184 rfl (lv_at hl 0 rfl) ?_
        refine kw_callix (kw_rV (As := [.int ((nI fr) + (nI dn))]) (rest := [.ref (ad q4)]) (q0 := qk) ⟨hx, hb, hml, hown, hg⟩ ⟨callB_of 1 hg (kg_goodG kg_452) rfl rfl rfl (hg _ kg_6) (hg _ kg_449) (by decide +kernel) ⟨by decide, by decide⟩, hg _ kg_451, hg _ (kg_sel (q := (y_K_placeInMemory, 15)) (by decide +kernel))⟩ (c_K_placeInMemory l hqk ek hq1 e1 hq2 e2 hq3 e3 (by omega) ) hK hP hqk ek rfl rfl hl.1 rfl (Nat.le_of_ble_eq_true rfl) d_K_doNextStep_185 ⟨Nat.zero_le _, Nat.zero_le _⟩) hA hS (fun H locs hP hS => ?_)
        refine lv_aload_n hx hb d_K_doNextStep_188 rfl (lv_at hl 1 rfl) ?_
        refine kw_get hx hb hg in_K hown hK hP qk hqk ek rfl 4 (by decide) (hg _ kg_115) rfl rfl d_K_doNextStep_189 ?_
        refine lv_aload_n hx hb d_K_doNextStep_192 rfl (lv_at hl 1 rfl) ?_
        refine lv_aload_n hx hb d_K_doNextStep_193 rfl (lv_at hl 1 rfl) ?_
        refine kw_get hx hb hg in_K hown hK hP qk hqk ek rfl 10 (by decide) (hg _ kg_121) rfl rfl d_K_doNextStep_194 ?_
        refine kw_get hx hb hg in_I hown hK hP q1 hq1 e1 rfl 1 (by decide) (hg _ kg_77) rfl rfl d_K_doNextStep_197 ?_
        refine lv_iload_n hx hb d_K_doNextStep_200 rfl (lv_at hl 0 rfl) ?_
        refine kw_callix (kw_rV (As := [.int rd, .int ((nI fr) + (nI dn))]) (rest := [.int (nI w), .int (kv_K_placeInMemory w xa xb op rb f ((nI fr) + (nI dn))), .ref (ad q4)]) (q0 := qk) ⟨hx, hb, hml, hown, hg⟩ ⟨callB_of 2 hg (kg_goodG kg_431) rfl rfl rfl (hg _ kg_6) (hg _ kg_428) (by decide +kernel) ⟨by decide, by decide⟩, hg _ kg_430, hg _ (kg_sel (q := (y_K_element, 15)) (by decide +kernel))⟩ (c_K_element l hqk ek hq1 e1 hq2 e2 hq3 e3 (by omega) ) hK hP hqk ek rfl rfl hl.1 rfl (Nat.le_of_ble_eq_true rfl) d_K_doNextStep_201 ⟨Nat.zero_le _, Nat.zero_le _⟩) hA hS (fun H locs hP hS => ?_)
        refine kw_callvx (kw_rV (As := [.int (kv_K_placeInMemory w xa xb op rb f ((nI fr) + (nI dn))), .int (nI w), .int (kv_K_element w f rd ((nI fr) + (nI dn)))]) (rest := []) (q0 := q4) ⟨hx, hb, hml, hown, hg⟩ ⟨callB_of 3 hg (kg_goodG kg_436) rfl rfl rfl (hg _ kg_3) (hg _ kg_433) (by decide +kernel) ⟨by decide, by decide⟩, hg _ kg_434, hg _ kg_435⟩ (c_B_write l hJ hq4 e4 hq5 e5 (by omega) (by decide) ) hK hP hq4 e4 rfl rfl hl.1 rfl (Nat.le_of_ble_eq_true rfl) d_K_doNextStep_204 ⟨Nat.zero_le _, Nat.zero_le _⟩) hA hS (fun H locs hP hS => ?_)
        have ek : (va_up (va_up cs qk (.inr (3, [.ref (ad q2), .ref (ad q4), .ref (ad q6), .ref (ad q7), .int (nI w), .int gr, .int mo, .int xa, .int xb, .int (nI fr), .ref (ad q1), .int nu, .int (nI tt), .int (nI (dn + 1)), .int (nI db)]))) q5 (.inl (cB, 128, .inl (kv_write g 128 (kv_K_placeInMemory w xa xb op rb f ((nI fr) + (nI dn))) w (kv_K_element w f rd ((nI fr) + (nI dn))))))) qk = .inr (3, [.ref (ad q2), .ref (ad q4), .ref (ad q6), .ref (ad q7), .int (nI w), .int gr, .int mo, .int xa, .int xb, .int (nI fr), .ref (ad q1), .int nu, .int (nI tt), .int (nI (dn + 1)), .int (nI db)]) := (va_up_ne _ _ (hn_qk_q5)).trans ek
        have e1 : (va_up (va_up cs qk (.inr (3, [.ref (ad q2), .ref (ad q4), .ref (ad q6), .ref (ad q7), .int (nI w), .int gr, .int mo, .int xa, .int xb, .int (nI fr), .ref (ad q1), .int nu, .int (nI tt), .int (nI (dn + 1)), .int (nI db)]))) q5 (.inl (cB, 128, .inl (kv_write g 128 (kv_K_placeInMemory w xa xb op rb f ((nI fr) + (nI dn))) w (kv_K_element w f rd ((nI fr) + (nI dn))))))) q1 = .inr (1, [.int op, .int rd, .int ra, .int rb, .int rn, .int mk]) := (va_up_ne _ _ (hn_q1_q5)).trans e1
        have e2 : (va_up (va_up cs qk (.inr (3, [.ref (ad q2), .ref (ad q4), .ref (ad q6), .ref (ad q7), .int (nI w), .int gr, .int mo, .int xa, .int xb, .int (nI fr), .ref (ad q1), .int nu, .int (nI tt), .int (nI (dn + 1)), .int (nI db)]))) q5 (.inl (cB, 128, .inl (kv_write g 128 (kv_K_placeInMemory w xa xb op rb f ((nI fr) + (nI dn))) w (kv_K_element w f rd ((nI fr) + (nI dn))))))) q2 = .inr (0, [.ref (ad q3)]) := (va_up_ne _ _ (hn_q2_q5)).trans e2
        have e3 : (va_up (va_up cs qk (.inr (3, [.ref (ad q2), .ref (ad q4), .ref (ad q6), .ref (ad q7), .int (nI w), .int gr, .int mo, .int xa, .int xb, .int (nI fr), .ref (ad q1), .int nu, .int (nI tt), .int (nI (dn + 1)), .int (nI db)]))) q5 (.inl (cB, 128, .inl (kv_write g 128 (kv_K_placeInMemory w xa xb op rb f ((nI fr) + (nI dn))) w (kv_K_element w f rd ((nI fr) + (nI dn))))))) q3 = .inl (cB, 64, .inl (f)) := (va_up_ne _ _ (hn_q3_q5)).trans e3
        have e4 : (va_up (va_up cs qk (.inr (3, [.ref (ad q2), .ref (ad q4), .ref (ad q6), .ref (ad q7), .int (nI w), .int gr, .int mo, .int xa, .int xb, .int (nI fr), .ref (ad q1), .int nu, .int (nI tt), .int (nI (dn + 1)), .int (nI db)]))) q5 (.inl (cB, 128, .inl (kv_write g 128 (kv_K_placeInMemory w xa xb op rb f ((nI fr) + (nI dn))) w (kv_K_element w f rd ((nI fr) + (nI dn))))))) q4 = .inr (0, [.ref (ad q5)]) := (va_up_ne _ _ (hn_q4_q5)).trans e4
        have e5 : (va_up (va_up cs qk (.inr (3, [.ref (ad q2), .ref (ad q4), .ref (ad q6), .ref (ad q7), .int (nI w), .int gr, .int mo, .int xa, .int xb, .int (nI fr), .ref (ad q1), .int nu, .int (nI tt), .int (nI (dn + 1)), .int (nI db)]))) q5 (.inl (cB, 128, .inl (kv_write g 128 (kv_K_placeInMemory w xa xb op rb f ((nI fr) + (nI dn))) w (kv_K_element w f rd ((nI fr) + (nI dn))))))) q5 = .inl (cB, 128, .inl (kv_write g 128 (kv_K_placeInMemory w xa xb op rb f ((nI fr) + (nI dn))) w (kv_K_element w f rd ((nI fr) + (nI dn))))) := va_up_self _ _ _
        refine lv_goto (tgt := 238) hx hb d_K_doNextStep_207 (by decide) ?_
        exact kw_vret hx hb hr hlocks hP hK hS (by rw [show kv_K_doNextStep_q3 w fr tt dn mo xa xb op rd ra rb mk f g = f from (by rw [kv_K_doNextStep_q3, if_neg h1, if_neg h7, if_neg h8, if_neg h10, if_neg h11, if_pos h12]), show kv_K_doNextStep_q5 w fr dn xa xb op rd rb mk f g = kv_write g 128 (kv_K_placeInMemory w xa xb op rb f ((nI fr) + (nI dn))) w (kv_K_element w f rd ((nI fr) + (nI dn))) from (by rw [kv_K_doNextStep_q5, if_neg h1, if_neg h7, if_neg h8, if_neg h10, if_neg h11, if_pos h12]), kw_id ((va_up_ne _ _ (hn_q3_q5)).symm.trans (e3))]) d_K_doNextStep_238
      refine kw_tbl (tgt := 210) (N := 7) hx hb d_K_doNextStep_48 rfl (by decide) (fun i hi => match i, hi with | 0, _ => Or.inr (lv_neT h8 rfl) | 1, _ => Or.inr (lv_neT h10 rfl) | 2, _ => Or.inr (lv_neT h11 rfl) | 3, _ => Or.inl rfl | 4, _ => Or.inl rfl | 5, _ => Or.inl rfl | 6, _ => Or.inr (lv_neT h12 rfl) | z + 7, h => absurd h (by omega)) ?_
      refine lv_aload_n hx hb d_K_doNextStep_210 rfl (lv_at hl 1 rfl) ?_
      refine kw_get hx hb hg in_K hown hK hP qk hqk ek rfl 0 (by decide) (hg _ kg_111) rfl rfl d_K_doNextStep_211 ?_
      refine lv_aload_n hx hb d_K_doNextStep_214 rfl (lv_at hl 1 rfl) ?_
      refine lv_aload_n hx hb d_K_doNextStep_215 rfl (lv_at hl 1 rfl) ?_
      refine kw_get hx hb hg in_K hown hK hP qk hqk ek rfl 10 (by decide) (hg _ kg_121) rfl rfl d_K_doNextStep_216 ?_
      refine kw_get hx hb hg in_I hown hK hP q1 hq1 e1 rfl 1 (by decide) (hg _ kg_77) rfl rfl d_K_doNextStep_219 ?_
      refine lv_iload_n hx hb d_K_doNextStep_222 rfl (lv_at hl 0 rfl) ?_
      refine kw_callix (kw_rV (As := [.int rd, .int ((nI fr) + (nI dn))]) (rest := [.ref (ad q2)]) (q0 := qk) ⟨hx, hb, hml, hown, hg⟩ ⟨callB_of 2 hg (kg_goodG kg_394) rfl rfl rfl (hg _ kg_6) (hg _ kg_391) (by decide +kernel) ⟨by decide, by decide⟩, hg _ kg_393, hg _ (kg_sel (q := (y_K_placeOf, 15)) (by decide +kernel))⟩ (c_K_placeOf l hqk ek ) hK hP hqk ek rfl rfl hl.1 rfl (Nat.le_of_ble_eq_true rfl) d_K_doNextStep_223 ⟨Nat.zero_le _, Nat.zero_le _⟩) hA hS (fun H locs hP hS => ?_)
      refine lv_aload_n hx hb d_K_doNextStep_226 rfl (lv_at hl 1 rfl) ?_
      refine kw_get hx hb hg in_K hown hK hP qk hqk ek rfl 4 (by decide) (hg _ kg_115) rfl rfl d_K_doNextStep_227 ?_
      refine lv_aload_n hx hb d_K_doNextStep_230 rfl (lv_at hl 1 rfl) ?_
      refine lv_iload_n hx hb d_K_doNextStep_231 rfl (lv_at hl 0 rfl) ?_
      refine kw_callix (kw_rV (As := [.int ((nI fr) + (nI dn))]) (rest := [.int (nI w), .int (kv_K_placeOf w rd ((nI fr) + (nI dn))), .ref (ad q2)]) (q0 := qk) ⟨hx, hb, hml, hown, hg⟩ ⟨callB_of 1 hg (kg_goodG kg_444) rfl rfl rfl (hg _ kg_6) (hg _ kg_441) (by decide +kernel) ⟨by decide, by decide⟩, hg _ kg_443, hg _ (kg_sel (q := (y_K_result, 15)) (by decide +kernel))⟩ (c_K_result l hqk ek hq1 e1 hq2 e2 hq3 e3 hq4 e4 hq5 e5 (by omega) ) hK hP hqk ek rfl rfl hl.1 rfl (Nat.le_of_ble_eq_true rfl) d_K_doNextStep_232 ⟨Nat.zero_le _, Nat.zero_le _⟩) hA hS (fun H locs hP hS => ?_)
      refine kw_callvx (kw_rV (As := [.int (kv_K_placeOf w rd ((nI fr) + (nI dn))), .int (nI w), .int (kv_K_result w mo xa xb op ra rb f g ((nI fr) + (nI dn)))]) (rest := []) (q0 := q2) ⟨hx, hb, hml, hown, hg⟩ ⟨callB_of 3 hg (kg_goodG kg_436) rfl rfl rfl (hg _ kg_3) (hg _ kg_433) (by decide +kernel) ⟨by decide, by decide⟩, hg _ kg_434, hg _ kg_435⟩ (c_B_write l hJ hq2 e2 hq3 e3 (by omega) (by decide) ) hK hP hq2 e2 rfl rfl hl.1 rfl (Nat.le_of_ble_eq_true rfl) d_K_doNextStep_235 ⟨Nat.zero_le _, Nat.zero_le _⟩) hA hS (fun H locs hP hS => ?_)
      have ek : (va_up (va_up cs qk (.inr (3, [.ref (ad q2), .ref (ad q4), .ref (ad q6), .ref (ad q7), .int (nI w), .int gr, .int mo, .int xa, .int xb, .int (nI fr), .ref (ad q1), .int nu, .int (nI tt), .int (nI (dn + 1)), .int (nI db)]))) q3 (.inl (cB, 64, .inl (kv_write f 64 (kv_K_placeOf w rd ((nI fr) + (nI dn))) w (kv_K_result w mo xa xb op ra rb f g ((nI fr) + (nI dn))))))) qk = .inr (3, [.ref (ad q2), .ref (ad q4), .ref (ad q6), .ref (ad q7), .int (nI w), .int gr, .int mo, .int xa, .int xb, .int (nI fr), .ref (ad q1), .int nu, .int (nI tt), .int (nI (dn + 1)), .int (nI db)]) := (va_up_ne _ _ (hn_qk_q3)).trans ek
      have e1 : (va_up (va_up cs qk (.inr (3, [.ref (ad q2), .ref (ad q4), .ref (ad q6), .ref (ad q7), .int (nI w), .int gr, .int mo, .int xa, .int xb, .int (nI fr), .ref (ad q1), .int nu, .int (nI tt), .int (nI (dn + 1)), .int (nI db)]))) q3 (.inl (cB, 64, .inl (kv_write f 64 (kv_K_placeOf w rd ((nI fr) + (nI dn))) w (kv_K_result w mo xa xb op ra rb f g ((nI fr) + (nI dn))))))) q1 = .inr (1, [.int op, .int rd, .int ra, .int rb, .int rn, .int mk]) := (va_up_ne _ _ (hn_q1_q3)).trans e1
      have e2 : (va_up (va_up cs qk (.inr (3, [.ref (ad q2), .ref (ad q4), .ref (ad q6), .ref (ad q7), .int (nI w), .int gr, .int mo, .int xa, .int xb, .int (nI fr), .ref (ad q1), .int nu, .int (nI tt), .int (nI (dn + 1)), .int (nI db)]))) q3 (.inl (cB, 64, .inl (kv_write f 64 (kv_K_placeOf w rd ((nI fr) + (nI dn))) w (kv_K_result w mo xa xb op ra rb f g ((nI fr) + (nI dn))))))) q2 = .inr (0, [.ref (ad q3)]) := (va_up_ne _ _ (hn_q2_q3)).trans e2
      have e3 : (va_up (va_up cs qk (.inr (3, [.ref (ad q2), .ref (ad q4), .ref (ad q6), .ref (ad q7), .int (nI w), .int gr, .int mo, .int xa, .int xb, .int (nI fr), .ref (ad q1), .int nu, .int (nI tt), .int (nI (dn + 1)), .int (nI db)]))) q3 (.inl (cB, 64, .inl (kv_write f 64 (kv_K_placeOf w rd ((nI fr) + (nI dn))) w (kv_K_result w mo xa xb op ra rb f g ((nI fr) + (nI dn))))))) q3 = .inl (cB, 64, .inl (kv_write f 64 (kv_K_placeOf w rd ((nI fr) + (nI dn))) w (kv_K_result w mo xa xb op ra rb f g ((nI fr) + (nI dn))))) := va_up_self _ _ _
      have e4 : (va_up (va_up cs qk (.inr (3, [.ref (ad q2), .ref (ad q4), .ref (ad q6), .ref (ad q7), .int (nI w), .int gr, .int mo, .int xa, .int xb, .int (nI fr), .ref (ad q1), .int nu, .int (nI tt), .int (nI (dn + 1)), .int (nI db)]))) q3 (.inl (cB, 64, .inl (kv_write f 64 (kv_K_placeOf w rd ((nI fr) + (nI dn))) w (kv_K_result w mo xa xb op ra rb f g ((nI fr) + (nI dn))))))) q4 = .inr (0, [.ref (ad q5)]) := (va_up_ne _ _ (hn_q3_q4.symm)).trans e4
      have e5 : (va_up (va_up cs qk (.inr (3, [.ref (ad q2), .ref (ad q4), .ref (ad q6), .ref (ad q7), .int (nI w), .int gr, .int mo, .int xa, .int xb, .int (nI fr), .ref (ad q1), .int nu, .int (nI tt), .int (nI (dn + 1)), .int (nI db)]))) q3 (.inl (cB, 64, .inl (kv_write f 64 (kv_K_placeOf w rd ((nI fr) + (nI dn))) w (kv_K_result w mo xa xb op ra rb f g ((nI fr) + (nI dn))))))) q5 = .inl (cB, 128, .inl (g)) := (va_up_ne _ _ (hn_q3_q5.symm)).trans e5
      exact kw_vret hx hb hr hlocks hP hK hS (by rw [show kv_K_doNextStep_q3 w fr tt dn mo xa xb op rd ra rb mk f g = kv_write f 64 (kv_K_placeOf w rd ((nI fr) + (nI dn))) w (kv_K_result w mo xa xb op ra rb f g ((nI fr) + (nI dn))) from (by rw [kv_K_doNextStep_q3, if_neg h1, if_neg h7, if_neg h8, if_neg h10, if_neg h11, if_neg h12]), show kv_K_doNextStep_q5 w fr dn xa xb op rd rb mk f g = g from (by rw [kv_K_doNextStep_q5, if_neg h1, if_neg h7, if_neg h8, if_neg h10, if_neg h11, if_neg h12]), kw_id (e5)]) d_K_doNextStep_238
    · exact kw_vret hx hb hr hlocks hP hK hS (by rw [show kv_K_doNextStep_q3 w fr tt dn mo xa xb op rd ra rb mk f g = f from (by rw [kv_K_doNextStep_q3, if_neg h1, if_pos h7]), show kv_K_doNextStep_q5 w fr dn xa xb op rd rb mk f g = g from (by rw [kv_K_doNextStep_q5, if_neg h1, if_pos h7]), kw_id (e3), kw_id (e5)]) d_K_doNextStep_40
end
section
/-! Work: take, foresee -/
set_option maxRecDepth 100000 in
set_option maxHeartbeats 4000000 in
theorem c_K_take (l : Launch) {D : va_G} {ad : Nat → Nat} {n : Nat} {cs : Nat → va_E} (hJ : kw_J ad n) {cI : ClassId} {cB : ClassId} {cJ : ClassId} {cQ : ClassId} {cW : ClassId} {qk : Nat} {q1 : Nat} {q2 : Nat} {q4 : Nat} {q6 : Nat} {q7 : Nat} {xa : Int32} {xb : Int32} {nu : Int32} {q0 : Nat} {q8 : Nat} {k4 : Int32} {k5 : Int32} {k6 : Int32} {k7 : Int32} {k8 : Int32} {k9 : Int32} {k11 : Int32} {k12 : Int32} {k13 : Int32} {k14 : Int32} {wp : Int32} {gp : Int32} {ln : Int32} {sa : Int32} (hqk : qk < n) (ek : cs qk = .inr (3, [.ref (ad q2), .ref (ad q4), .ref (ad q6), .ref (ad q7), .int k4, .int k5, .int k6, .int k7, .int k8, .int k9, .ref (ad q8), .int k11, .int k12, .int k13, .int k14])) (hq0 : q0 < n) (e0 : cs q0 = .inr (2, [.int wp, .int gp, .int ln, .int sa]))  : kw_mv l y_K_take w_K_take (kr 1) D kc (kt cI cB cJ cQ cW) ad n cs [.ref (ad qk), .ref (ad q1), .int nu, .ref (ad q0), .int xa, .int xb] (fun c9 => c9 = va_up cs qk (.inr (3, [.ref (ad q2), .ref (ad q4), .ref (ad q6), .ref (ad q7), .int (kv_S_width wp), .int (kv_S_group gp), .int (kv_S_most wp gp), .int xa, .int xb, .int sa, .ref (ad q1), .int nu, .int ln, .int 0, .int k14]))) := by
  refine kw_of (cc := b_K_take) (maxL := 6) (ret := none) (by decide) rfl (Nat.le_of_ble_eq_true rfl) ?_
  intro p e s m below meth c ls hx hb hr hml hown hts hlocks hP hK hl
  have hg : ∀ w9 ∈ kg_G, w9.before [.ref (ad qk), .ref (ad q1), .int nu, .ref (ad q0), .int xa, .int xb].toArray s = true := fun w9 h9 => hts w9 (List.mem_cons_of_mem _ h9)
  have hown : s.vm.findClass "LaneMachine$Work" = some m.cls := hown
  have hA : ∀ k, k < n → kw_A ad n (ad k) := fun k hk => ⟨k, hk, rfl⟩
  have hS : va_S (kw_A ad n) s.heap s.heap [] := va_S.rf
  have hl : lv_has ls 6 [(0, .ref (ad qk)), (1, .ref (ad q1)), (2, .int nu), (3, .ref (ad q0)), (4, .int xa), (5, .int xb)] := hl
  have hn_qk_q0 : qk ≠ q0 := fun h => by rw [h, e0] at ek; simp at ek
  refine lv_aload_n hx hb d_K_take_0 rfl (lv_at hl 0 rfl) ?_
  refine lv_aload_n hx hb d_K_take_1 rfl (lv_at hl 1 rfl) ?_
  refine kw_put (ty := (.object "LaneMachine$Instruction")) hx hb hg in_K t_K ty_K nm_K hown hK hP hJ hA hS qk hqk ek rfl 10 (by decide) (hg _ kg_121) rfl rfl (by decide +kernel) rfl rfl (Nat.le_of_ble_eq_true rfl) d_K_take_2 (fun H locs hP hS => ?_)
  have ek : (va_up cs qk (.inr (3, [.ref (ad q2), .ref (ad q4), .ref (ad q6), .ref (ad q7), .int k4, .int k5, .int k6, .int k7, .int k8, .int k9, .ref (ad q1), .int k11, .int k12, .int k13, .int k14]))) qk = .inr (3, [.ref (ad q2), .ref (ad q4), .ref (ad q6), .ref (ad q7), .int k4, .int k5, .int k6, .int k7, .int k8, .int k9, .ref (ad q1), .int k11, .int k12, .int k13, .int k14]) := va_up_self _ _ _
  have e0 : (va_up cs qk (.inr (3, [.ref (ad q2), .ref (ad q4), .ref (ad q6), .ref (ad q7), .int k4, .int k5, .int k6, .int k7, .int k8, .int k9, .ref (ad q1), .int k11, .int k12, .int k13, .int k14]))) q0 = .inr (2, [.int wp, .int gp, .int ln, .int sa]) := (va_up_ne _ _ (hn_qk_q0.symm)).trans e0
  refine lv_aload_n hx hb d_K_take_5 rfl (lv_at hl 0 rfl) ?_
  refine lv_iload_n hx hb d_K_take_6 rfl (lv_at hl 2 rfl) ?_
  refine kw_put (ty := .int) hx hb hg in_K t_K ty_K nm_K hown hK hP hJ hA hS qk hqk ek rfl 11 (by decide) (hg _ kg_123) rfl rfl (by decide +kernel) rfl rfl (Nat.le_of_ble_eq_true rfl) d_K_take_7 (fun H locs hP hS => ?_)
  rw [bx_uu] at hP
  have ek : (va_up cs qk (.inr (3, [.ref (ad q2), .ref (ad q4), .ref (ad q6), .ref (ad q7), .int k4, .int k5, .int k6, .int k7, .int k8, .int k9, .ref (ad q1), .int nu, .int k12, .int k13, .int k14]))) qk = .inr (3, [.ref (ad q2), .ref (ad q4), .ref (ad q6), .ref (ad q7), .int k4, .int k5, .int k6, .int k7, .int k8, .int k9, .ref (ad q1), .int nu, .int k12, .int k13, .int k14]) := va_up_self _ _ _
  have e0 : (va_up cs qk (.inr (3, [.ref (ad q2), .ref (ad q4), .ref (ad q6), .ref (ad q7), .int k4, .int k5, .int k6, .int k7, .int k8, .int k9, .ref (ad q1), .int nu, .int k12, .int k13, .int k14]))) q0 = .inr (2, [.int wp, .int gp, .int ln, .int sa]) := (va_up_ne _ _ (hn_qk_q0.symm)).trans ((va_up_ne _ _ (hn_qk_q0.symm)).symm.trans e0)
  refine lv_aload_n hx hb d_K_take_10 rfl (lv_at hl 0 rfl) ?_
  refine lv_iload hx hb d_K_take_11 (lv_at hl 4 rfl) ?_
  refine kw_put (ty := .int) hx hb hg in_K t_K ty_K nm_K hown hK hP hJ hA hS qk hqk ek rfl 7 (by decide) (hg _ kg_118) rfl rfl (by decide +kernel) rfl rfl (Nat.le_of_ble_eq_true rfl) d_K_take_13 (fun H locs hP hS => ?_)
  rw [bx_uu] at hP
  have ek : (va_up cs qk (.inr (3, [.ref (ad q2), .ref (ad q4), .ref (ad q6), .ref (ad q7), .int k4, .int k5, .int k6, .int xa, .int k8, .int k9, .ref (ad q1), .int nu, .int k12, .int k13, .int k14]))) qk = .inr (3, [.ref (ad q2), .ref (ad q4), .ref (ad q6), .ref (ad q7), .int k4, .int k5, .int k6, .int xa, .int k8, .int k9, .ref (ad q1), .int nu, .int k12, .int k13, .int k14]) := va_up_self _ _ _
  have e0 : (va_up cs qk (.inr (3, [.ref (ad q2), .ref (ad q4), .ref (ad q6), .ref (ad q7), .int k4, .int k5, .int k6, .int xa, .int k8, .int k9, .ref (ad q1), .int nu, .int k12, .int k13, .int k14]))) q0 = .inr (2, [.int wp, .int gp, .int ln, .int sa]) := (va_up_ne _ _ (hn_qk_q0.symm)).trans ((va_up_ne _ _ (hn_qk_q0.symm)).symm.trans e0)
  refine lv_aload_n hx hb d_K_take_16 rfl (lv_at hl 0 rfl) ?_
  refine lv_iload hx hb d_K_take_17 (lv_at hl 5 rfl) ?_
  refine kw_put (ty := .int) hx hb hg in_K t_K ty_K nm_K hown hK hP hJ hA hS qk hqk ek rfl 8 (by decide) (hg _ kg_119) rfl rfl (by decide +kernel) rfl rfl (Nat.le_of_ble_eq_true rfl) d_K_take_19 (fun H locs hP hS => ?_)
  rw [bx_uu] at hP
  have ek : (va_up cs qk (.inr (3, [.ref (ad q2), .ref (ad q4), .ref (ad q6), .ref (ad q7), .int k4, .int k5, .int k6, .int xa, .int xb, .int k9, .ref (ad q1), .int nu, .int k12, .int k13, .int k14]))) qk = .inr (3, [.ref (ad q2), .ref (ad q4), .ref (ad q6), .ref (ad q7), .int k4, .int k5, .int k6, .int xa, .int xb, .int k9, .ref (ad q1), .int nu, .int k12, .int k13, .int k14]) := va_up_self _ _ _
  have e0 : (va_up cs qk (.inr (3, [.ref (ad q2), .ref (ad q4), .ref (ad q6), .ref (ad q7), .int k4, .int k5, .int k6, .int xa, .int xb, .int k9, .ref (ad q1), .int nu, .int k12, .int k13, .int k14]))) q0 = .inr (2, [.int wp, .int gp, .int ln, .int sa]) := (va_up_ne _ _ (hn_qk_q0.symm)).trans ((va_up_ne _ _ (hn_qk_q0.symm)).symm.trans e0)
  refine lv_aload_n hx hb d_K_take_22 rfl (lv_at hl 0 rfl) ?_
  refine lv_aload_n hx hb d_K_take_23 rfl (lv_at hl 3 rfl) ?_
  refine kw_callix (kw_rV (As := []) (rest := [.ref (ad qk)]) (q0 := q0) ⟨hx, hb, hml, hown, hg⟩ ⟨callB_of 0 hg (kg_goodG kg_232) rfl rfl rfl (hg _ kg_4) (hg _ kg_529) (by decide +kernel) ⟨by decide, by decide⟩, hg _ kg_230, hg _ kg_231⟩ (c_S_width l hq0 e0 ) hK hP hq0 e0 rfl rfl hl.1 rfl (Nat.le_of_ble_eq_true rfl) d_K_take_24 ⟨Nat.zero_le _, Nat.zero_le _⟩) hA hS (fun H locs hP hS => ?_)
  refine kw_put (ty := .int) hx hb hg in_K t_K ty_K nm_K hown hK hP hJ hA hS qk hqk ek rfl 4 (by decide) (hg _ kg_115) rfl rfl (by decide +kernel) rfl rfl (Nat.le_of_ble_eq_true rfl) d_K_take_27 (fun H locs hP hS => ?_)
  rw [bx_uu] at hP
  have ek : (va_up cs qk (.inr (3, [.ref (ad q2), .ref (ad q4), .ref (ad q6), .ref (ad q7), .int (kv_S_width wp), .int k5, .int k6, .int xa, .int xb, .int k9, .ref (ad q1), .int nu, .int k12, .int k13, .int k14]))) qk = .inr (3, [.ref (ad q2), .ref (ad q4), .ref (ad q6), .ref (ad q7), .int (kv_S_width wp), .int k5, .int k6, .int xa, .int xb, .int k9, .ref (ad q1), .int nu, .int k12, .int k13, .int k14]) := va_up_self _ _ _
  have e0 : (va_up cs qk (.inr (3, [.ref (ad q2), .ref (ad q4), .ref (ad q6), .ref (ad q7), .int (kv_S_width wp), .int k5, .int k6, .int xa, .int xb, .int k9, .ref (ad q1), .int nu, .int k12, .int k13, .int k14]))) q0 = .inr (2, [.int wp, .int gp, .int ln, .int sa]) := (va_up_ne _ _ (hn_qk_q0.symm)).trans ((va_up_ne _ _ (hn_qk_q0.symm)).symm.trans e0)
  refine lv_aload_n hx hb d_K_take_30 rfl (lv_at hl 0 rfl) ?_
  refine lv_aload_n hx hb d_K_take_31 rfl (lv_at hl 3 rfl) ?_
  refine kw_callix (kw_rV (As := []) (rest := [.ref (ad qk)]) (q0 := q0) ⟨hx, hb, hml, hown, hg⟩ ⟨callB_of 0 hg (kg_goodG kg_236) rfl rfl rfl (hg _ kg_4) (hg _ kg_530) (by decide +kernel) ⟨by decide, by decide⟩, hg _ kg_234, hg _ kg_235⟩ (c_S_group l hq0 e0 ) hK hP hq0 e0 rfl rfl hl.1 rfl (Nat.le_of_ble_eq_true rfl) d_K_take_32 ⟨Nat.zero_le _, Nat.zero_le _⟩) hA hS (fun H locs hP hS => ?_)
  refine kw_put (ty := .int) hx hb hg in_K t_K ty_K nm_K hown hK hP hJ hA hS qk hqk ek rfl 5 (by decide) (hg _ kg_116) rfl rfl (by decide +kernel) rfl rfl (Nat.le_of_ble_eq_true rfl) d_K_take_35 (fun H locs hP hS => ?_)
  rw [bx_uu] at hP
  have ek : (va_up cs qk (.inr (3, [.ref (ad q2), .ref (ad q4), .ref (ad q6), .ref (ad q7), .int (kv_S_width wp), .int (kv_S_group gp), .int k6, .int xa, .int xb, .int k9, .ref (ad q1), .int nu, .int k12, .int k13, .int k14]))) qk = .inr (3, [.ref (ad q2), .ref (ad q4), .ref (ad q6), .ref (ad q7), .int (kv_S_width wp), .int (kv_S_group gp), .int k6, .int xa, .int xb, .int k9, .ref (ad q1), .int nu, .int k12, .int k13, .int k14]) := va_up_self _ _ _
  have e0 : (va_up cs qk (.inr (3, [.ref (ad q2), .ref (ad q4), .ref (ad q6), .ref (ad q7), .int (kv_S_width wp), .int (kv_S_group gp), .int k6, .int xa, .int xb, .int k9, .ref (ad q1), .int nu, .int k12, .int k13, .int k14]))) q0 = .inr (2, [.int wp, .int gp, .int ln, .int sa]) := (va_up_ne _ _ (hn_qk_q0.symm)).trans ((va_up_ne _ _ (hn_qk_q0.symm)).symm.trans e0)
  refine lv_aload_n hx hb d_K_take_38 rfl (lv_at hl 0 rfl) ?_
  refine lv_aload_n hx hb d_K_take_39 rfl (lv_at hl 3 rfl) ?_
  refine kw_callix (kw_rV (As := []) (rest := [.ref (ad qk)]) (q0 := q0) ⟨hx, hb, hml, hown, hg⟩ ⟨callB_of 0 hg (kg_goodG kg_534) rfl rfl rfl (hg _ kg_4) (hg _ kg_531) (by decide +kernel) ⟨by decide, by decide⟩, hg _ kg_532, hg _ kg_533⟩ (c_S_most l hq0 e0 ) hK hP hq0 e0 rfl rfl hl.1 rfl (Nat.le_of_ble_eq_true rfl) d_K_take_40 ⟨Nat.zero_le _, Nat.zero_le _⟩) hA hS (fun H locs hP hS => ?_)
  refine kw_put (ty := .int) hx hb hg in_K t_K ty_K nm_K hown hK hP hJ hA hS qk hqk ek rfl 6 (by decide) (hg _ kg_117) rfl rfl (by decide +kernel) rfl rfl (Nat.le_of_ble_eq_true rfl) d_K_take_43 (fun H locs hP hS => ?_)
  rw [bx_uu] at hP
  have ek : (va_up cs qk (.inr (3, [.ref (ad q2), .ref (ad q4), .ref (ad q6), .ref (ad q7), .int (kv_S_width wp), .int (kv_S_group gp), .int (kv_S_most wp gp), .int xa, .int xb, .int k9, .ref (ad q1), .int nu, .int k12, .int k13, .int k14]))) qk = .inr (3, [.ref (ad q2), .ref (ad q4), .ref (ad q6), .ref (ad q7), .int (kv_S_width wp), .int (kv_S_group gp), .int (kv_S_most wp gp), .int xa, .int xb, .int k9, .ref (ad q1), .int nu, .int k12, .int k13, .int k14]) := va_up_self _ _ _
  have e0 : (va_up cs qk (.inr (3, [.ref (ad q2), .ref (ad q4), .ref (ad q6), .ref (ad q7), .int (kv_S_width wp), .int (kv_S_group gp), .int (kv_S_most wp gp), .int xa, .int xb, .int k9, .ref (ad q1), .int nu, .int k12, .int k13, .int k14]))) q0 = .inr (2, [.int wp, .int gp, .int ln, .int sa]) := (va_up_ne _ _ (hn_qk_q0.symm)).trans ((va_up_ne _ _ (hn_qk_q0.symm)).symm.trans e0)
  refine lv_aload_n hx hb d_K_take_46 rfl (lv_at hl 0 rfl) ?_
  refine lv_aload_n hx hb d_K_take_47 rfl (lv_at hl 3 rfl) ?_
  refine kw_get hx hb hg in_S hown hK hP q0 hq0 e0 rfl 3 (by decide) (hg _ kg_50) rfl rfl d_K_take_48 ?_
  refine kw_put (ty := .int) hx hb hg in_K t_K ty_K nm_K hown hK hP hJ hA hS qk hqk ek rfl 9 (by decide) (hg _ kg_120) rfl rfl (by decide +kernel) rfl rfl (Nat.le_of_ble_eq_true rfl) d_K_take_51 (fun H locs hP hS => ?_)
  rw [bx_uu] at hP
  have ek : (va_up cs qk (.inr (3, [.ref (ad q2), .ref (ad q4), .ref (ad q6), .ref (ad q7), .int (kv_S_width wp), .int (kv_S_group gp), .int (kv_S_most wp gp), .int xa, .int xb, .int sa, .ref (ad q1), .int nu, .int k12, .int k13, .int k14]))) qk = .inr (3, [.ref (ad q2), .ref (ad q4), .ref (ad q6), .ref (ad q7), .int (kv_S_width wp), .int (kv_S_group gp), .int (kv_S_most wp gp), .int xa, .int xb, .int sa, .ref (ad q1), .int nu, .int k12, .int k13, .int k14]) := va_up_self _ _ _
  have e0 : (va_up cs qk (.inr (3, [.ref (ad q2), .ref (ad q4), .ref (ad q6), .ref (ad q7), .int (kv_S_width wp), .int (kv_S_group gp), .int (kv_S_most wp gp), .int xa, .int xb, .int sa, .ref (ad q1), .int nu, .int k12, .int k13, .int k14]))) q0 = .inr (2, [.int wp, .int gp, .int ln, .int sa]) := (va_up_ne _ _ (hn_qk_q0.symm)).trans ((va_up_ne _ _ (hn_qk_q0.symm)).symm.trans e0)
  refine lv_aload_n hx hb d_K_take_54 rfl (lv_at hl 0 rfl) ?_
  refine lv_aload_n hx hb d_K_take_55 rfl (lv_at hl 3 rfl) ?_
  refine kw_get hx hb hg in_S hown hK hP q0 hq0 e0 rfl 2 (by decide) (hg _ kg_47) rfl rfl d_K_take_56 ?_
  refine kw_put (ty := .int) hx hb hg in_K t_K ty_K nm_K hown hK hP hJ hA hS qk hqk ek rfl 12 (by decide) (hg _ kg_125) rfl rfl (by decide +kernel) rfl rfl (Nat.le_of_ble_eq_true rfl) d_K_take_59 (fun H locs hP hS => ?_)
  rw [bx_uu] at hP
  have ek : (va_up cs qk (.inr (3, [.ref (ad q2), .ref (ad q4), .ref (ad q6), .ref (ad q7), .int (kv_S_width wp), .int (kv_S_group gp), .int (kv_S_most wp gp), .int xa, .int xb, .int sa, .ref (ad q1), .int nu, .int ln, .int k13, .int k14]))) qk = .inr (3, [.ref (ad q2), .ref (ad q4), .ref (ad q6), .ref (ad q7), .int (kv_S_width wp), .int (kv_S_group gp), .int (kv_S_most wp gp), .int xa, .int xb, .int sa, .ref (ad q1), .int nu, .int ln, .int k13, .int k14]) := va_up_self _ _ _
  have e0 : (va_up cs qk (.inr (3, [.ref (ad q2), .ref (ad q4), .ref (ad q6), .ref (ad q7), .int (kv_S_width wp), .int (kv_S_group gp), .int (kv_S_most wp gp), .int xa, .int xb, .int sa, .ref (ad q1), .int nu, .int ln, .int k13, .int k14]))) q0 = .inr (2, [.int wp, .int gp, .int ln, .int sa]) := (va_up_ne _ _ (hn_qk_q0.symm)).trans ((va_up_ne _ _ (hn_qk_q0.symm)).symm.trans e0)
  refine lv_aload_n hx hb d_K_take_62 rfl (lv_at hl 0 rfl) ?_
  refine lv_iconst (v := 0) hx hb d_K_take_63 (by decide) ?_
  refine kw_put (ty := .int) hx hb hg in_K t_K ty_K nm_K hown hK hP hJ hA hS qk hqk ek rfl 13 (by decide) (hg _ kg_127) rfl rfl (by decide +kernel) rfl rfl (Nat.le_of_ble_eq_true rfl) d_K_take_64 (fun H locs hP hS => ?_)
  rw [bx_uu] at hP
  have ek : (va_up cs qk (.inr (3, [.ref (ad q2), .ref (ad q4), .ref (ad q6), .ref (ad q7), .int (kv_S_width wp), .int (kv_S_group gp), .int (kv_S_most wp gp), .int xa, .int xb, .int sa, .ref (ad q1), .int nu, .int ln, .int 0, .int k14]))) qk = .inr (3, [.ref (ad q2), .ref (ad q4), .ref (ad q6), .ref (ad q7), .int (kv_S_width wp), .int (kv_S_group gp), .int (kv_S_most wp gp), .int xa, .int xb, .int sa, .ref (ad q1), .int nu, .int ln, .int 0, .int k14]) := va_up_self _ _ _
  have e0 : (va_up cs qk (.inr (3, [.ref (ad q2), .ref (ad q4), .ref (ad q6), .ref (ad q7), .int (kv_S_width wp), .int (kv_S_group gp), .int (kv_S_most wp gp), .int xa, .int xb, .int sa, .ref (ad q1), .int nu, .int ln, .int 0, .int k14]))) q0 = .inr (2, [.int wp, .int gp, .int ln, .int sa]) := (va_up_ne _ _ (hn_qk_q0.symm)).trans ((va_up_ne _ _ (hn_qk_q0.symm)).symm.trans e0)
  exact kw_vret hx hb hr hlocks hP hK hS (rfl) d_K_take_67

set_option maxRecDepth 100000 in
set_option maxHeartbeats 4000000 in
theorem c_K_readsFromStep (l : Launch) {D : va_G} {ad : Nat → Nat} {n : Nat} {cs : Nat → va_E} {cI : ClassId} {cB : ClassId} {cJ : ClassId} {cQ : ClassId} {cW : ClassId} {qk : Nat} {q1 : Nat} {q2 : Nat} {q4 : Nat} {q6 : Nat} {q7 : Nat} {w : Nat} {fr : Nat} {tt : Nat} {dn : Nat} {db : Nat} {gr : Int32} {mo : Int32} {xa : Int32} {xb : Int32} {nu : Int32} {y9 : Nat} {rF : Nat → Int64} (hqk : qk < n) (ek : cs qk = .inr (3, [.ref (ad q2), .ref (ad q4), .ref (ad q6), .ref (ad q7), .int (nI w), .int gr, .int mo, .int xa, .int xb, .int (nI fr), .ref (ad q1), .int nu, .int (nI tt), .int (nI dn), .int (nI db)])) (hq6 : q6 < n) (e6 : cs q6 = .inl (cJ, 33, .inr (.inl (rF)))) (hy : y9 ≤ 32) : kw_ml l y_K_readsFromStep w_K_readsFromStep (kr 0) D kc (kt cI cB cJ cQ cW) ad n cs [.ref (ad qk), .int (nI y9)] (fun r9 c9 => r9 = rF y9 ∧ c9 = cs) := by
  refine kw_of (cc := b_K_readsFromStep) (maxL := 2) (ret := (some .long)) (by decide) rfl (Nat.le_of_ble_eq_true rfl) ?_
  intro p e s m below meth c ls hx hb hr hml hown hts hlocks hP hK hl
  have hg : ∀ w9 ∈ kg_G, w9.before [.ref (ad qk), .int (nI y9)].toArray s = true := fun w9 h9 => hts w9 (List.mem_cons_of_mem _ h9)
  have hown : s.vm.findClass "LaneMachine$Work" = some m.cls := hown
  have hA : ∀ k, k < n → kw_A ad n (ad k) := fun k hk => ⟨k, hk, rfl⟩
  have hS : va_S (kw_A ad n) s.heap s.heap [] := va_S.rf
  have hl : lv_has ls 2 [(0, .ref (ad qk)), (1, .int (nI y9))] := hl
  refine lv_iload_n hx hb d_K_readsFromStep_0 rfl (lv_at hl 1 rfl) ?_
  refine lv_if_lt (tgt := 19) hx hb d_K_readsFromStep_1 (by decide) (fun h1 => absurd h1 (nI_pos (by omega))) (fun _ => ?_)
  refine lv_iload_n hx hb d_K_readsFromStep_4 rfl (lv_at hl 1 rfl) ?_
  refine lv_bipush (v := 32) hx hb d_K_readsFromStep_5 (by decide) ?_
  refine lv_icmp_gt (tgt := 19) hx hb d_K_readsFromStep_7 (by decide) (fun h2 => absurd h2 (nI_nlt (b := y9) (a := 32) (by omega) (by omega))) (fun _ => ?_)
  refine lv_aload_n hx hb d_K_readsFromStep_10 rfl (lv_at hl 0 rfl) ?_
  refine kw_get hx hb hg in_K hown hK hP qk hqk ek rfl 2 (by decide) (hg _ kg_113) rfl rfl d_K_readsFromStep_11 ?_
  refine lv_iload_n hx hb d_K_readsFromStep_14 rfl (lv_at hl 1 rfl) ?_
  refine kw_lald hx hb hK hP q6 2 hq6 e6 rfl y9 (rfl) (by omega) (by omega) d_K_readsFromStep_15 ?_
  refine lv_goto (tgt := 20) hx hb d_K_readsFromStep_16 (by decide) ?_
  exact kw_lret hx hb hr hlocks hP hK hS ⟨rfl, rfl⟩ d_K_readsFromStep_20

set_option maxRecDepth 100000 in
set_option maxHeartbeats 4000000 in
theorem c_K_writesFromStep (l : Launch) {D : va_G} {ad : Nat → Nat} {n : Nat} {cs : Nat → va_E} {cI : ClassId} {cB : ClassId} {cJ : ClassId} {cQ : ClassId} {cW : ClassId} {qk : Nat} {q1 : Nat} {q2 : Nat} {q4 : Nat} {q6 : Nat} {q7 : Nat} {w : Nat} {fr : Nat} {tt : Nat} {dn : Nat} {db : Nat} {gr : Int32} {mo : Int32} {xa : Int32} {xb : Int32} {nu : Int32} {y9 : Nat} {wF : Nat → Int64} (hqk : qk < n) (ek : cs qk = .inr (3, [.ref (ad q2), .ref (ad q4), .ref (ad q6), .ref (ad q7), .int (nI w), .int gr, .int mo, .int xa, .int xb, .int (nI fr), .ref (ad q1), .int nu, .int (nI tt), .int (nI dn), .int (nI db)])) (hq7 : q7 < n) (e7 : cs q7 = .inl (cJ, 33, .inr (.inl (wF)))) (hy : y9 ≤ 32) : kw_ml l y_K_writesFromStep w_K_writesFromStep (kr 0) D kc (kt cI cB cJ cQ cW) ad n cs [.ref (ad qk), .int (nI y9)] (fun r9 c9 => r9 = wF y9 ∧ c9 = cs) := by
  refine kw_of (cc := b_K_writesFromStep) (maxL := 2) (ret := (some .long)) (by decide) rfl (Nat.le_of_ble_eq_true rfl) ?_
  intro p e s m below meth c ls hx hb hr hml hown hts hlocks hP hK hl
  have hg : ∀ w9 ∈ kg_G, w9.before [.ref (ad qk), .int (nI y9)].toArray s = true := fun w9 h9 => hts w9 (List.mem_cons_of_mem _ h9)
  have hown : s.vm.findClass "LaneMachine$Work" = some m.cls := hown
  have hA : ∀ k, k < n → kw_A ad n (ad k) := fun k hk => ⟨k, hk, rfl⟩
  have hS : va_S (kw_A ad n) s.heap s.heap [] := va_S.rf
  have hl : lv_has ls 2 [(0, .ref (ad qk)), (1, .int (nI y9))] := hl
  refine lv_iload_n hx hb d_K_writesFromStep_0 rfl (lv_at hl 1 rfl) ?_
  refine lv_if_lt (tgt := 19) hx hb d_K_writesFromStep_1 (by decide) (fun h1 => absurd h1 (nI_pos (by omega))) (fun _ => ?_)
  refine lv_iload_n hx hb d_K_writesFromStep_4 rfl (lv_at hl 1 rfl) ?_
  refine lv_bipush (v := 32) hx hb d_K_writesFromStep_5 (by decide) ?_
  refine lv_icmp_gt (tgt := 19) hx hb d_K_writesFromStep_7 (by decide) (fun h2 => absurd h2 (nI_nlt (b := y9) (a := 32) (by omega) (by omega))) (fun _ => ?_)
  refine lv_aload_n hx hb d_K_writesFromStep_10 rfl (lv_at hl 0 rfl) ?_
  refine kw_get hx hb hg in_K hown hK hP qk hqk ek rfl 3 (by decide) (hg _ kg_114) rfl rfl d_K_writesFromStep_11 ?_
  refine lv_iload_n hx hb d_K_writesFromStep_14 rfl (lv_at hl 1 rfl) ?_
  refine kw_lald hx hb hK hP q7 2 hq7 e7 rfl y9 (rfl) (by omega) (by omega) d_K_writesFromStep_15 ?_
  refine lv_goto (tgt := 20) hx hb d_K_writesFromStep_16 (by decide) ?_
  exact kw_lret hx hb hr hlocks hP hK hS ⟨rfl, rfl⟩ d_K_writesFromStep_20

theorem kw_uu2 {cs : Nat → va_E} {i j : Nat} {a b c d : va_E} (h : i ≠ j) : va_up (va_up (va_up (va_up cs i a) j b) i c) j d = va_up (va_up cs i c) j d := by
  funext k
  by_cases h1 : k = j
  · subst h1; simp [va_up]
  · by_cases h2 : k = i
    · subst h2; simp [va_up, h]
    · simp [va_up, h1, h2]
def kv_fo (w fr tt : Nat) (gr mo xb op rd ra rb mk : Int32) : Nat → Int64 → Int64 → (Nat → Int64) → (Nat → Int64) → (Nat → Int64) × (Nat → Int64)
  | 0, _, _, a, b => (a, b)
  | k + 1, u, v, a, b => if kv_K_steps fr tt op ≤ nI k then kv_fo w fr tt gr mo xb op rd ra rb mk k u v (vp_updL a k u) (vp_updL b k v)
    else kv_fo w fr tt gr mo xb op rd ra rb mk k (u ||| kv_K_readsOf w fr tt gr mo xb op rd ra rb mk (nI k)) (v ||| kv_K_writesOf w fr op rd (nI k)) (vp_updL a k (u ||| kv_K_readsOf w fr tt gr mo xb op rd ra rb mk (nI k))) (vp_updL b k (v ||| kv_K_writesOf w fr op rd (nI k)))

set_option maxRecDepth 100000 in
set_option maxHeartbeats 4000000 in
theorem c_K_foresee (l : Launch) {D : va_G} {ad : Nat → Nat} {n : Nat} {cs : Nat → va_E} (hJ : kw_J ad n) {cI : ClassId} {cB : ClassId} {cJ : ClassId} {cQ : ClassId} {cW : ClassId} {qk : Nat} {q1 : Nat} {q2 : Nat} {q4 : Nat} {q6 : Nat} {q7 : Nat} {w : Nat} {fr : Nat} {tt : Nat} {dn : Nat} {db : Nat} {gr : Int32} {mo : Int32} {xa : Int32} {xb : Int32} {nu : Int32} {op : Int32} {rd : Int32} {ra : Int32} {rb : Int32} {rn : Int32} {mk : Int32} {rF : Nat → Int64} {wF : Nat → Int64} (hqk : qk < n) (ek : cs qk = .inr (3, [.ref (ad q2), .ref (ad q4), .ref (ad q6), .ref (ad q7), .int (nI w), .int gr, .int mo, .int xa, .int xb, .int (nI fr), .ref (ad q1), .int nu, .int (nI tt), .int (nI dn), .int (nI db)])) (hq1 : q1 < n) (e1 : cs q1 = .inr (1, [.int op, .int rd, .int ra, .int rb, .int rn, .int mk])) (hq6 : q6 < n) (e6 : cs q6 = .inl (cJ, 33, .inr (.inl (rF)))) (hq7 : q7 < n) (e7 : cs q7 = .inl (cJ, 33, .inr (.inl (wF)))) (h67 : q6 ≠ q7) (hft : fr ≤ tt) (htt : tt < 2 ^ 30) : kw_mv l y_K_foresee w_K_foresee (kr 3) D kc (kt cI cB cJ cQ cW) ad n cs [.ref (ad qk)] (fun c9 => c9 = va_up (va_up cs q6 (.inl (cJ, 33, .inr (.inl ((kv_fo w fr tt gr mo xb op rd ra rb mk 33 0 0 rF wF).1))))) q7 (.inl (cJ, 33, .inr (.inl ((kv_fo w fr tt gr mo xb op rd ra rb mk 33 0 0 rF wF).2))))) := by
  refine kw_of (cc := b_K_foresee) (maxL := 7) (ret := none) (by decide) rfl (Nat.le_of_ble_eq_true rfl) ?_
  intro p e s m below meth c ls hx hb hr hml hown hts hlocks hP hK hl
  have hg : ∀ w9 ∈ kg_G, w9.before [.ref (ad qk)].toArray s = true := fun w9 h9 => hts w9 (List.mem_cons_of_mem _ h9)
  have hown : s.vm.findClass "LaneMachine$Work" = some m.cls := hown
  have hA : ∀ k, k < n → kw_A ad n (ad k) := fun k hk => ⟨k, hk, rfl⟩
  have hS : va_S (kw_A ad n) s.heap s.heap [] := va_S.rf
  have hl : lv_has ls 7 [(0, .ref (ad qk))] := hl
  have hn_qk_q1 : qk ≠ q1 := fun h => by rw [h, e1] at ek; simp at ek
  have hn_qk_q6 : qk ≠ q6 := fun h => by rw [h, e6] at ek; simp at ek
  have hn_qk_q7 : qk ≠ q7 := fun h => by rw [h, e7] at ek; simp at ek
  have hn_q1_q6 : q1 ≠ q6 := fun h => by rw [h, e6] at e1; simp at e1
  have hn_q1_q7 : q1 ≠ q7 := fun h => by rw [h, e7] at e1; simp at e1
  refine lv_aload_n hx hb d_K_foresee_0 rfl (lv_at hl 0 rfl) ?_
  refine kw_callix (kw_rV (As := []) (rest := []) (q0 := qk) ⟨hx, hb, hml, hown, hg⟩ ⟨callB_of 0 hg (kg_goodG kg_244) rfl rfl rfl (hg _ kg_6) (hg _ kg_383) (by decide +kernel) ⟨by decide, by decide⟩, hg _ kg_242, hg _ kg_243⟩ (c_K_steps l hqk ek hq1 e1 ) hK hP hqk ek rfl rfl hl.1 rfl (Nat.le_of_ble_eq_true rfl) d_K_foresee_1 ⟨Nat.zero_le _, Nat.zero_le _⟩) hA hS (fun H locs hP hS => ?_)
  refine lv_istore_n (lv' := [(1, .int (kv_K_steps fr tt op)), (0, .ref (ad qk))]) hx hb d_K_foresee_4 rfl hl (by decide) rfl (fun ls hl => ?_)
  refine lv_lconst (v := 0) hx hb d_K_foresee_5 (by decide) ?_
  refine lv_lstore_n (lv' := [(2, .long 0), (1, .int (kv_K_steps fr tt op)), (0, .ref (ad qk))]) hx hb d_K_foresee_6 rfl hl (by decide) rfl (fun ls hl => ?_)
  refine lv_lconst (v := 0) hx hb d_K_foresee_7 (by decide) ?_
  refine lv_lstore (lv' := [(4, .long 0), (2, .long 0), (1, .int (kv_K_steps fr tt op)), (0, .ref (ad qk))]) hx hb d_K_foresee_8 hl (by decide) rfl (fun ls hl => ?_)
  refine lv_bipush (v := 32) hx hb d_K_foresee_10 (by decide) ?_
  refine lv_istore (lv' := [(6, .int 32), (4, .long 0), (2, .long 0), (1, .int (kv_K_steps fr tt op)), (0, .ref (ad qk))]) hx hb d_K_foresee_12 hl (by decide) rfl (fun ls hl => ?_)
  have loop : ∀ (kk : Nat) (u : Int64) (v : Int64) (a : Nat → Int64) (b : Nat → Int64) (H : Heap) (locs : List Loc) (ls : Array Slot), kk ≤ 33 → kv_fo w fr tt gr mo xb op rd ra rb mk 33 0 0 rF wF = kv_fo w fr tt gr mo xb op rd ra rb mk kk u v a b → va_P D kc (kw_w ad (va_up (va_up cs q6 (.inl (cJ, 33, .inr (.inl (a))))) q7 (.inl (cJ, 33, .inr (.inl (b))))) n) H → va_S (kw_A ad n) s.heap H locs → lv_has ls 7 [(6, .int (nI kk - 1)), (4, .long v), (2, .long u), (1, .int (kv_K_steps fr tt op)), (0, .ref (ad qk))] → W p l e (kr 3) s m [.ref (ad qk)].toArray below meth c H locs 0 0 (MQ below (va_Qv (fun c9 => c9 = va_up (va_up cs q6 (.inl (cJ, 33, .inr (.inl ((kv_fo w fr tt gr mo xb op rd ra rb mk 33 0 0 rF wF).1))))) q7 (.inl (cJ, 33, .inr (.inl ((kv_fo w fr tt gr mo xb op rd ra rb mk 33 0 0 rF wF).2))))) (kw_Pre D kc (kt cI cB cJ cQ cW) ad n) (kw_A ad n)) [.ref (ad qk)].toArray s 0 0 (kw_A ad n)) (F0 m 14 ls []) := by
    intro kk
    induction kk with
    | zero =>
      intro u v a b H locs ls hk hv hP hS hl
      have ek : (va_up (va_up cs q6 (.inl (cJ, 33, .inr (.inl (a))))) q7 (.inl (cJ, 33, .inr (.inl (b))))) qk = .inr (3, [.ref (ad q2), .ref (ad q4), .ref (ad q6), .ref (ad q7), .int (nI w), .int gr, .int mo, .int xa, .int xb, .int (nI fr), .ref (ad q1), .int nu, .int (nI tt), .int (nI dn), .int (nI db)]) := ((va_up_ne _ _ hn_qk_q7).trans (va_up_ne _ _ hn_qk_q6)).trans ek
      have e1 : (va_up (va_up cs q6 (.inl (cJ, 33, .inr (.inl (a))))) q7 (.inl (cJ, 33, .inr (.inl (b))))) q1 = .inr (1, [.int op, .int rd, .int ra, .int rb, .int rn, .int mk]) := ((va_up_ne _ _ hn_q1_q7).trans (va_up_ne _ _ hn_q1_q6)).trans e1
      have e6 : (va_up (va_up cs q6 (.inl (cJ, 33, .inr (.inl (a))))) q7 (.inl (cJ, 33, .inr (.inl (b))))) q6 = .inl (cJ, 33, .inr (.inl (a))) := (va_up_ne _ _ h67).trans (va_up_self _ _ _)
      have e7 : (va_up (va_up cs q6 (.inl (cJ, 33, .inr (.inl (a))))) q7 (.inl (cJ, 33, .inr (.inl (b))))) q7 = .inl (cJ, 33, .inr (.inl (b))) := va_up_self _ _ _
      refine lv_iload hx hb d_K_foresee_14 (lv_at hl 0 rfl) ?_
      refine lv_if_lt (tgt := 68) hx hb d_K_foresee_16 (by decide) (fun _ => ?_) (fun h1 => absurd (by decide) h1)
      exact kw_vret hx hb hr hlocks hP hK hS (by rw [hv, kv_fo]) d_K_foresee_68
    | succ j ih =>
      intro u v a b H locs ls hk hv hP hS hl
      have ek : (va_up (va_up cs q6 (.inl (cJ, 33, .inr (.inl (a))))) q7 (.inl (cJ, 33, .inr (.inl (b))))) qk = .inr (3, [.ref (ad q2), .ref (ad q4), .ref (ad q6), .ref (ad q7), .int (nI w), .int gr, .int mo, .int xa, .int xb, .int (nI fr), .ref (ad q1), .int nu, .int (nI tt), .int (nI dn), .int (nI db)]) := ((va_up_ne _ _ hn_qk_q7).trans (va_up_ne _ _ hn_qk_q6)).trans ek
      have e1 : (va_up (va_up cs q6 (.inl (cJ, 33, .inr (.inl (a))))) q7 (.inl (cJ, 33, .inr (.inl (b))))) q1 = .inr (1, [.int op, .int rd, .int ra, .int rb, .int rn, .int mk]) := ((va_up_ne _ _ hn_q1_q7).trans (va_up_ne _ _ hn_q1_q6)).trans e1
      have e6 : (va_up (va_up cs q6 (.inl (cJ, 33, .inr (.inl (a))))) q7 (.inl (cJ, 33, .inr (.inl (b))))) q6 = .inl (cJ, 33, .inr (.inl (a))) := (va_up_ne _ _ h67).trans (va_up_self _ _ _)
      have e7 : (va_up (va_up cs q6 (.inl (cJ, 33, .inr (.inl (a))))) q7 (.inl (cJ, 33, .inr (.inl (b))))) q7 = .inl (cJ, 33, .inr (.inl (b))) := va_up_self _ _ _
      rw [nI_pred] at hl
      refine lv_iload hx hb d_K_foresee_14 (lv_at hl 0 rfl) ?_
      refine lv_if_lt (tgt := 68) hx hb d_K_foresee_16 (by decide) (fun h2 => absurd h2 (nI_pos (by omega))) (fun _ => ?_)
      refine lv_iload hx hb d_K_foresee_19 (lv_at hl 0 rfl) ?_
      refine lv_iload_n hx hb d_K_foresee_21 rfl (lv_at hl 3 rfl) ?_
      refine lv_icmp_ge (tgt := 45) hx hb d_K_foresee_22 (by decide) (fun h3 => ?_) (fun h3 => ?_)
      · refine lv_aload_n hx hb d_K_foresee_45 rfl (lv_at hl 4 rfl) ?_
        refine kw_get hx hb hg in_K hown hK hP qk hqk ek rfl 2 (by decide) (hg _ kg_113) rfl rfl d_K_foresee_46 ?_
        refine lv_iload hx hb d_K_foresee_49 (lv_at hl 0 rfl) ?_
        refine lv_lload_n hx hb d_K_foresee_51 rfl (lv_at hl 2 rfl) ?_
        refine kw_last hx hb hK hP hJ hA hS q6 2 hq6 e6 rfl j (rfl) (by omega) (by omega) d_K_foresee_52 (fun H locs hP hS => ?_)
        have ek : (va_up (va_up (va_up cs q6 (.inl (cJ, 33, .inr (.inl (a))))) q7 (.inl (cJ, 33, .inr (.inl (b))))) q6 (.inl (cJ, 33, .inr (.inl (vp_updL a j u))))) qk = .inr (3, [.ref (ad q2), .ref (ad q4), .ref (ad q6), .ref (ad q7), .int (nI w), .int gr, .int mo, .int xa, .int xb, .int (nI fr), .ref (ad q1), .int nu, .int (nI tt), .int (nI dn), .int (nI db)]) := (va_up_ne _ _ (hn_qk_q6)).trans ek
        have e1 : (va_up (va_up (va_up cs q6 (.inl (cJ, 33, .inr (.inl (a))))) q7 (.inl (cJ, 33, .inr (.inl (b))))) q6 (.inl (cJ, 33, .inr (.inl (vp_updL a j u))))) q1 = .inr (1, [.int op, .int rd, .int ra, .int rb, .int rn, .int mk]) := (va_up_ne _ _ (hn_q1_q6)).trans e1
        have e6 : (va_up (va_up (va_up cs q6 (.inl (cJ, 33, .inr (.inl (a))))) q7 (.inl (cJ, 33, .inr (.inl (b))))) q6 (.inl (cJ, 33, .inr (.inl (vp_updL a j u))))) q6 = .inl (cJ, 33, .inr (.inl (vp_updL a j u))) := va_up_self _ _ _
        have e7 : (va_up (va_up (va_up cs q6 (.inl (cJ, 33, .inr (.inl (a))))) q7 (.inl (cJ, 33, .inr (.inl (b))))) q6 (.inl (cJ, 33, .inr (.inl (vp_updL a j u))))) q7 = .inl (cJ, 33, .inr (.inl (b))) := (va_up_ne _ _ (h67.symm)).trans e7
        refine lv_aload_n hx hb d_K_foresee_53 rfl (lv_at hl 4 rfl) ?_
        refine kw_get hx hb hg in_K hown hK hP qk hqk ek rfl 3 (by decide) (hg _ kg_114) rfl rfl d_K_foresee_54 ?_
        refine lv_iload hx hb d_K_foresee_57 (lv_at hl 0 rfl) ?_
        refine lv_lload hx hb d_K_foresee_59 (lv_at hl 1 rfl) ?_
        refine kw_last hx hb hK hP hJ hA hS q7 2 hq7 e7 rfl j (rfl) (by omega) (by omega) d_K_foresee_61 (fun H locs hP hS => ?_)
        have ek : (va_up (va_up (va_up (va_up cs q6 (.inl (cJ, 33, .inr (.inl (a))))) q7 (.inl (cJ, 33, .inr (.inl (b))))) q6 (.inl (cJ, 33, .inr (.inl (vp_updL a j u))))) q7 (.inl (cJ, 33, .inr (.inl (vp_updL b j v))))) qk = .inr (3, [.ref (ad q2), .ref (ad q4), .ref (ad q6), .ref (ad q7), .int (nI w), .int gr, .int mo, .int xa, .int xb, .int (nI fr), .ref (ad q1), .int nu, .int (nI tt), .int (nI dn), .int (nI db)]) := (va_up_ne _ _ (hn_qk_q7)).trans ek
        have e1 : (va_up (va_up (va_up (va_up cs q6 (.inl (cJ, 33, .inr (.inl (a))))) q7 (.inl (cJ, 33, .inr (.inl (b))))) q6 (.inl (cJ, 33, .inr (.inl (vp_updL a j u))))) q7 (.inl (cJ, 33, .inr (.inl (vp_updL b j v))))) q1 = .inr (1, [.int op, .int rd, .int ra, .int rb, .int rn, .int mk]) := (va_up_ne _ _ (hn_q1_q7)).trans e1
        have e6 : (va_up (va_up (va_up (va_up cs q6 (.inl (cJ, 33, .inr (.inl (a))))) q7 (.inl (cJ, 33, .inr (.inl (b))))) q6 (.inl (cJ, 33, .inr (.inl (vp_updL a j u))))) q7 (.inl (cJ, 33, .inr (.inl (vp_updL b j v))))) q6 = .inl (cJ, 33, .inr (.inl (vp_updL a j u))) := (va_up_ne _ _ (h67)).trans e6
        have e7 : (va_up (va_up (va_up (va_up cs q6 (.inl (cJ, 33, .inr (.inl (a))))) q7 (.inl (cJ, 33, .inr (.inl (b))))) q6 (.inl (cJ, 33, .inr (.inl (vp_updL a j u))))) q7 (.inl (cJ, 33, .inr (.inl (vp_updL b j v))))) q7 = .inl (cJ, 33, .inr (.inl (vp_updL b j v))) := va_up_self _ _ _
        refine lv_iinc (k := 0) (v := nI j - 1) (lv' := [(6, .int (nI j - 1)), (4, .long v), (2, .long u), (1, .int (kv_K_steps fr tt op)), (0, .ref (ad qk))]) hx hb d_K_foresee_62 hl rfl (kw_m1 _) (by decide) rfl (fun ls hl => ?_)
        refine lv_goto (tgt := 14) hx hb d_K_foresee_65 (by decide) ?_
        exact ih _ _ _ _ _ _ _ (by omega) (by rw [hv, kv_fo, if_pos h3]) (by rw [kw_uu2 h67] at hP; exact hP) hS (lv_sub hl [0, 1, 2, 3, 4] rfl)
      · refine lv_lload_n hx hb d_K_foresee_25 rfl (lv_at hl 2 rfl) ?_
        refine lv_aload_n hx hb d_K_foresee_26 rfl (lv_at hl 4 rfl) ?_
        refine lv_iload hx hb d_K_foresee_27 (lv_at hl 0 rfl) ?_
        refine kw_calllx (kw_rV (As := [.int (nI j)]) (rest := [.long u]) (q0 := qk) ⟨hx, hb, hml, hown, hg⟩ ⟨callB_of 1 hg (kg_goodG kg_398) rfl rfl rfl (hg _ kg_6) (hg _ kg_395) (by decide +kernel) ⟨by decide, by decide⟩, hg _ kg_397, hg _ (kg_sel (q := (y_K_readsOf, 15)) (by decide +kernel))⟩ (c_K_readsOf l hqk ek hq1 e1 hft htt ) hK hP hqk ek rfl rfl hl.1 rfl (Nat.le_of_ble_eq_true rfl) d_K_foresee_29 ⟨Nat.zero_le _, Nat.zero_le _⟩) hA hS (fun H locs hP hS => ?_)
        refine lv_lor hx hb d_K_foresee_32 ?_
        refine lv_lstore_n (lv' := [(2, .long (u ||| (kv_K_readsOf w fr tt gr mo xb op rd ra rb mk (nI j)))), (6, .int (nI j)), (4, .long v), (1, .int (kv_K_steps fr tt op)), (0, .ref (ad qk))]) hx hb d_K_foresee_33 rfl hl (by decide) rfl (fun ls hl => ?_)
        refine lv_lload hx hb d_K_foresee_34 (lv_at hl 2 rfl) ?_
        refine lv_aload_n hx hb d_K_foresee_36 rfl (lv_at hl 4 rfl) ?_
        refine lv_iload hx hb d_K_foresee_37 (lv_at hl 1 rfl) ?_
        refine kw_calllx (kw_rV (As := [.int (nI j)]) (rest := [.long v]) (q0 := qk) ⟨hx, hb, hml, hown, hg⟩ ⟨callB_of 1 hg (kg_goodG kg_387) rfl rfl rfl (hg _ kg_6) (hg _ kg_384) (by decide +kernel) ⟨by decide, by decide⟩, hg _ kg_386, hg _ (kg_sel (q := (y_K_writesOf, 15)) (by decide +kernel))⟩ (c_K_writesOf l hqk ek hq1 e1 ) hK hP hqk ek rfl rfl hl.1 rfl (Nat.le_of_ble_eq_true rfl) d_K_foresee_39 ⟨Nat.zero_le _, Nat.zero_le _⟩) hA hS (fun H locs hP hS => ?_)
        refine lv_lor hx hb d_K_foresee_42 ?_
        refine lv_lstore (lv' := [(4, .long (v ||| (kv_K_writesOf w fr op rd (nI j)))), (2, .long (u ||| (kv_K_readsOf w fr tt gr mo xb op rd ra rb mk (nI j)))), (6, .int (nI j)), (1, .int (kv_K_steps fr tt op)), (0, .ref (ad qk))]) hx hb d_K_foresee_43 hl (by decide) rfl (fun ls hl => ?_)
        refine lv_aload_n hx hb d_K_foresee_45 rfl (lv_at hl 4 rfl) ?_
        refine kw_get hx hb hg in_K hown hK hP qk hqk ek rfl 2 (by decide) (hg _ kg_113) rfl rfl d_K_foresee_46 ?_
        refine lv_iload hx hb d_K_foresee_49 (lv_at hl 2 rfl) ?_
        refine lv_lload_n hx hb d_K_foresee_51 rfl (lv_at hl 1 rfl) ?_
        refine kw_last hx hb hK hP hJ hA hS q6 2 hq6 e6 rfl j (rfl) (by omega) (by omega) d_K_foresee_52 (fun H locs hP hS => ?_)
        have ek : (va_up (va_up (va_up cs q6 (.inl (cJ, 33, .inr (.inl (a))))) q7 (.inl (cJ, 33, .inr (.inl (b))))) q6 (.inl (cJ, 33, .inr (.inl (vp_updL a j (u ||| (kv_K_readsOf w fr tt gr mo xb op rd ra rb mk (nI j)))))))) qk = .inr (3, [.ref (ad q2), .ref (ad q4), .ref (ad q6), .ref (ad q7), .int (nI w), .int gr, .int mo, .int xa, .int xb, .int (nI fr), .ref (ad q1), .int nu, .int (nI tt), .int (nI dn), .int (nI db)]) := (va_up_ne _ _ (hn_qk_q6)).trans ek
        have e1 : (va_up (va_up (va_up cs q6 (.inl (cJ, 33, .inr (.inl (a))))) q7 (.inl (cJ, 33, .inr (.inl (b))))) q6 (.inl (cJ, 33, .inr (.inl (vp_updL a j (u ||| (kv_K_readsOf w fr tt gr mo xb op rd ra rb mk (nI j)))))))) q1 = .inr (1, [.int op, .int rd, .int ra, .int rb, .int rn, .int mk]) := (va_up_ne _ _ (hn_q1_q6)).trans e1
        have e6 : (va_up (va_up (va_up cs q6 (.inl (cJ, 33, .inr (.inl (a))))) q7 (.inl (cJ, 33, .inr (.inl (b))))) q6 (.inl (cJ, 33, .inr (.inl (vp_updL a j (u ||| (kv_K_readsOf w fr tt gr mo xb op rd ra rb mk (nI j)))))))) q6 = .inl (cJ, 33, .inr (.inl (vp_updL a j (u ||| (kv_K_readsOf w fr tt gr mo xb op rd ra rb mk (nI j)))))) := va_up_self _ _ _
        have e7 : (va_up (va_up (va_up cs q6 (.inl (cJ, 33, .inr (.inl (a))))) q7 (.inl (cJ, 33, .inr (.inl (b))))) q6 (.inl (cJ, 33, .inr (.inl (vp_updL a j (u ||| (kv_K_readsOf w fr tt gr mo xb op rd ra rb mk (nI j)))))))) q7 = .inl (cJ, 33, .inr (.inl (b))) := (va_up_ne _ _ (h67.symm)).trans e7
        refine lv_aload_n hx hb d_K_foresee_53 rfl (lv_at hl 4 rfl) ?_
        refine kw_get hx hb hg in_K hown hK hP qk hqk ek rfl 3 (by decide) (hg _ kg_114) rfl rfl d_K_foresee_54 ?_
        refine lv_iload hx hb d_K_foresee_57 (lv_at hl 2 rfl) ?_
        refine lv_lload hx hb d_K_foresee_59 (lv_at hl 0 rfl) ?_
        refine kw_last hx hb hK hP hJ hA hS q7 2 hq7 e7 rfl j (rfl) (by omega) (by omega) d_K_foresee_61 (fun H locs hP hS => ?_)
        have ek : (va_up (va_up (va_up (va_up cs q6 (.inl (cJ, 33, .inr (.inl (a))))) q7 (.inl (cJ, 33, .inr (.inl (b))))) q6 (.inl (cJ, 33, .inr (.inl (vp_updL a j (u ||| (kv_K_readsOf w fr tt gr mo xb op rd ra rb mk (nI j)))))))) q7 (.inl (cJ, 33, .inr (.inl (vp_updL b j (v ||| (kv_K_writesOf w fr op rd (nI j)))))))) qk = .inr (3, [.ref (ad q2), .ref (ad q4), .ref (ad q6), .ref (ad q7), .int (nI w), .int gr, .int mo, .int xa, .int xb, .int (nI fr), .ref (ad q1), .int nu, .int (nI tt), .int (nI dn), .int (nI db)]) := (va_up_ne _ _ (hn_qk_q7)).trans ek
        have e1 : (va_up (va_up (va_up (va_up cs q6 (.inl (cJ, 33, .inr (.inl (a))))) q7 (.inl (cJ, 33, .inr (.inl (b))))) q6 (.inl (cJ, 33, .inr (.inl (vp_updL a j (u ||| (kv_K_readsOf w fr tt gr mo xb op rd ra rb mk (nI j)))))))) q7 (.inl (cJ, 33, .inr (.inl (vp_updL b j (v ||| (kv_K_writesOf w fr op rd (nI j)))))))) q1 = .inr (1, [.int op, .int rd, .int ra, .int rb, .int rn, .int mk]) := (va_up_ne _ _ (hn_q1_q7)).trans e1
        have e6 : (va_up (va_up (va_up (va_up cs q6 (.inl (cJ, 33, .inr (.inl (a))))) q7 (.inl (cJ, 33, .inr (.inl (b))))) q6 (.inl (cJ, 33, .inr (.inl (vp_updL a j (u ||| (kv_K_readsOf w fr tt gr mo xb op rd ra rb mk (nI j)))))))) q7 (.inl (cJ, 33, .inr (.inl (vp_updL b j (v ||| (kv_K_writesOf w fr op rd (nI j)))))))) q6 = .inl (cJ, 33, .inr (.inl (vp_updL a j (u ||| (kv_K_readsOf w fr tt gr mo xb op rd ra rb mk (nI j)))))) := (va_up_ne _ _ (h67)).trans e6
        have e7 : (va_up (va_up (va_up (va_up cs q6 (.inl (cJ, 33, .inr (.inl (a))))) q7 (.inl (cJ, 33, .inr (.inl (b))))) q6 (.inl (cJ, 33, .inr (.inl (vp_updL a j (u ||| (kv_K_readsOf w fr tt gr mo xb op rd ra rb mk (nI j)))))))) q7 (.inl (cJ, 33, .inr (.inl (vp_updL b j (v ||| (kv_K_writesOf w fr op rd (nI j)))))))) q7 = .inl (cJ, 33, .inr (.inl (vp_updL b j (v ||| (kv_K_writesOf w fr op rd (nI j)))))) := va_up_self _ _ _
        refine lv_iinc (k := 2) (v := nI j - 1) (lv' := [(6, .int (nI j - 1)), (4, .long (v ||| (kv_K_writesOf w fr op rd (nI j)))), (2, .long (u ||| (kv_K_readsOf w fr tt gr mo xb op rd ra rb mk (nI j)))), (1, .int (kv_K_steps fr tt op)), (0, .ref (ad qk))]) hx hb d_K_foresee_62 hl rfl (kw_m1 _) (by decide) rfl (fun ls hl => ?_)
        refine lv_goto (tgt := 14) hx hb d_K_foresee_65 (by decide) ?_
        exact ih _ _ _ _ _ _ _ (by omega) (by rw [hv, kv_fo, if_neg h3]) (by rw [kw_uu2 h67] at hP; exact hP) hS (lv_sub hl [0, 1, 2, 3, 4] rfl)
  exact loop 33 _ _ _ _ _ _ _ (by omega) (rfl) (by rw [kw_id e6, kw_id e7]; exact hP) hS (lv_sub hl [0, 1, 2, 3, 4] rfl)
end
section
/-! the reference: its cells, its reads -/
abbrev ktR (cI cZ : ClassId) : List (ClassId × FieldType) := [(cI, .int), (cZ, .boolean)]
/-- the cells of the reference: its object, and its rows -/
def kR (ad : Nat → Nat) (cI cZ : ClassId) (cs : Nat → va_E) (la : Nat) (th : Int32) (st : Nat) (nx : Int32) (wi : Nat) (gp : Nat) (vl : Nat) (sa : Nat) (bo : Nat) (cy : Int32) (sd : Int32) (ma : Nat) (qu : Nat) (X : Nat → Int32) (F : Nat → Int32) (M : Nat → Int32) (po : Nat → Nat) (pd : Nat → Nat) (pa : Nat → Nat) (pb : Nat → Nat) (pn : Nat → Int32) (pm : Nat → Int32) (wh : Nat → Nat) (wd : Nat → Nat) (rg : Nat → Nat) (fr : Nat → Nat) (sp : Nat → Nat) (dn : Nat → Nat) (bf : Nat → Nat) (XA : Nat → Int32) (XB : Nat → Int32) : Prop :=
  cs 0 = .inr (5, [.int (nI la), .int th, .int (nI st), .int nx, .int (nI wi), .int (nI gp), .int (nI vl), .int (nI sa), .int (nI bo), .int cy, .int sd, .ref (ad 1), .ref (ad 2), .ref (ad 3), .int (nI ma), .ref (ad 4), .ref (ad 5), .ref (ad 6), .ref (ad 7), .ref (ad 8), .ref (ad 9), .int (nI qu), .ref (ad 10), .ref (ad 11), .ref (ad 12), .ref (ad 13), .ref (ad 14), .ref (ad 15), .ref (ad 16), .ref (ad 17), .ref (ad 18)]) ∧ cs 1 = .inl (cI, 8, .inl (X)) ∧ cs 2 = .inl (cI, 64, .inl (F)) ∧ cs 3 = .inl (cI, 128, .inl (M)) ∧ cs 4 = .inl (cI, 40, .inl (fun i => nI (po i))) ∧ cs 5 = .inl (cI, 40, .inl (fun i => nI (pd i))) ∧ cs 6 = .inl (cI, 40, .inl (fun i => nI (pa i))) ∧ cs 7 = .inl (cI, 40, .inl (fun i => nI (pb i))) ∧ cs 8 = .inl (cI, 40, .inl (pn)) ∧ cs 9 = .inl (cZ, 40, .inl (pm)) ∧ cs 10 = .inl (cI, 5, .inl (fun i => nI (wh i))) ∧ cs 11 = .inl (cI, 5, .inl (fun i => nI (wd i))) ∧ cs 12 = .inl (cI, 5, .inl (fun i => nI (rg i))) ∧ cs 13 = .inl (cI, 5, .inl (fun i => nI (fr i))) ∧ cs 14 = .inl (cI, 5, .inl (fun i => nI (sp i))) ∧ cs 15 = .inl (cI, 5, .inl (fun i => nI (dn i))) ∧ cs 16 = .inl (cI, 5, .inl (fun i => nI (bf i))) ∧ cs 17 = .inl (cI, 5, .inl (XA)) ∧ cs 18 = .inl (cI, 5, .inl (XB))

set_option maxRecDepth 100000 in
set_option maxHeartbeats 4000000 in
theorem c_R_thrown (l : Launch) {D : va_G} {ad : Nat → Nat} {n : Nat} {cs : Nat → va_E} {cI : ClassId} {cZ : ClassId} {la : Nat} {th : Int32} {st : Nat} {nx : Int32} {wi : Nat} {gp : Nat} {vl : Nat} {sa : Nat} {bo : Nat} {cy : Int32} {sd : Int32} {ma : Nat} {qu : Nat} {X : Nat → Int32} {F : Nat → Int32} {M : Nat → Int32} {po : Nat → Nat} {pd : Nat → Nat} {pa : Nat → Nat} {pb : Nat → Nat} {pn : Nat → Int32} {pm : Nat → Int32} {wh : Nat → Nat} {wd : Nat → Nat} {rg : Nat → Nat} {fr : Nat → Nat} {sp : Nat → Nat} {dn : Nat → Nat} {bf : Nat → Nat} {XA : Nat → Int32} {XB : Nat → Int32} (hn : 19 ≤ n) (hR : kR ad cI cZ cs la th st nx wi gp vl sa bo cy sd ma qu X F M po pd pa pb pn pm wh wd rg fr sp dn bf XA XB)  : kw_mi l y_R_thrown w_R_thrown (kr 0) D kc (ktR cI cZ) ad n cs [.ref (ad 0)] (fun r9 c9 => r9 = th ∧ c9 = cs) := by
  refine kw_of (cc := b_R_thrown) (maxL := 1) (ret := (some .int)) (by decide) rfl (Nat.le_of_ble_eq_true rfl) ?_
  intro p e s m below meth c ls hx hb hr hml hown hts hlocks hP hK hl
  have hg : ∀ w9 ∈ kg_G, w9.before [.ref (ad 0)].toArray s = true := fun w9 h9 => hts w9 (List.mem_cons_of_mem _ h9)
  have hown : s.vm.findClass "LaneMachineModel" = some m.cls := hown
  have hA : ∀ k, k < n → kw_A ad n (ad k) := fun k hk => ⟨k, hk, rfl⟩
  have hS : va_S (kw_A ad n) s.heap s.heap [] := va_S.rf
  have hl : lv_has ls 1 [(0, .ref (ad 0))] := hl
  obtain ⟨e0, e1, e2, e3, e4, e5, e6, e7, e8, e9, e10, e11, e12, e13, e14, e15, e16, e17, e18⟩ := hR
  refine lv_aload_n hx hb d_R_thrown_0 rfl (lv_at hl 0 rfl) ?_
  refine kw_get hx hb hg in_R hown hK hP 0 (Nat.lt_of_lt_of_le (by decide : 0 < 19) hn) e0 rfl 1 (by decide) (hg _ kg_584) rfl rfl d_R_thrown_1 ?_
  exact kw_iret hx hb hr hlocks hP hK hS ⟨rfl, rfl⟩ d_R_thrown_4

set_option maxRecDepth 100000 in
set_option maxHeartbeats 4000000 in
theorem c_R_vlOf (l : Launch) {D : va_G} {ad : Nat → Nat} {n : Nat} {cs : Nat → va_E} {cI : ClassId} {cZ : ClassId} {la : Nat} {th : Int32} {st : Nat} {nx : Int32} {wi : Nat} {gp : Nat} {vl : Nat} {sa : Nat} {bo : Nat} {cy : Int32} {sd : Int32} {ma : Nat} {qu : Nat} {X : Nat → Int32} {F : Nat → Int32} {M : Nat → Int32} {po : Nat → Nat} {pd : Nat → Nat} {pa : Nat → Nat} {pb : Nat → Nat} {pn : Nat → Int32} {pm : Nat → Int32} {wh : Nat → Nat} {wd : Nat → Nat} {rg : Nat → Nat} {fr : Nat → Nat} {sp : Nat → Nat} {dn : Nat → Nat} {bf : Nat → Nat} {XA : Nat → Int32} {XB : Nat → Int32} {q : Nat} (hn : 19 ≤ n) (hR : kR ad cI cZ cs la th st nx wi gp vl sa bo cy sd ma qu X F M po pd pa pb pn pm wh wd rg fr sp dn bf XA XB) (hq : q < 5) : kw_mi l y_R_vlOf w_R_vlOf (kr 0) D kc (ktR cI cZ) ad n cs [.ref (ad 0), .int (nI q)] (fun r9 c9 => r9 = XA q ∧ c9 = cs) := by
  refine kw_of (cc := b_R_vlOf) (maxL := 2) (ret := (some .int)) (by decide) rfl (Nat.le_of_ble_eq_true rfl) ?_
  intro p e s m below meth c ls hx hb hr hml hown hts hlocks hP hK hl
  have hg : ∀ w9 ∈ kg_G, w9.before [.ref (ad 0), .int (nI q)].toArray s = true := fun w9 h9 => hts w9 (List.mem_cons_of_mem _ h9)
  have hown : s.vm.findClass "LaneMachineModel" = some m.cls := hown
  have hA : ∀ k, k < n → kw_A ad n (ad k) := fun k hk => ⟨k, hk, rfl⟩
  have hS : va_S (kw_A ad n) s.heap s.heap [] := va_S.rf
  have hl : lv_has ls 2 [(0, .ref (ad 0)), (1, .int (nI q))] := hl
  obtain ⟨e0, e1, e2, e3, e4, e5, e6, e7, e8, e9, e10, e11, e12, e13, e14, e15, e16, e17, e18⟩ := hR
  refine lv_aload_n hx hb d_R_vlOf_0 rfl (lv_at hl 0 rfl) ?_
  refine kw_get hx hb hg in_R hown hK hP 0 (Nat.lt_of_lt_of_le (by decide : 0 < 19) hn) e0 rfl 29 (by decide) (hg _ kg_612) rfl rfl d_R_vlOf_1 ?_
  refine lv_iload_n hx hb d_R_vlOf_4 rfl (lv_at hl 1 rfl) ?_
  refine kw_iald hx hb hK hP 17 0 (Nat.lt_of_lt_of_le (by decide : 17 < 19) hn) e17 rfl q (rfl) (hq) (by omega) d_R_vlOf_5 ?_
  exact kw_iret hx hb hr hlocks hP hK hS ⟨rfl, rfl⟩ d_R_vlOf_6

def kv_R_bit (F : Nat → Int32) (r i : Nat) : Int32 := if ((F (8 * r + i / 8) >>> ((nI i - nI i / 8 * 8) &&& 31)) &&& 1) = 1 then 1 else 0

set_option maxRecDepth 100000 in
set_option maxHeartbeats 4000000 in
theorem c_R_bit (l : Launch) {D : va_G} {ad : Nat → Nat} {n : Nat} {cs : Nat → va_E} {cI : ClassId} {cZ : ClassId} {la : Nat} {th : Int32} {st : Nat} {nx : Int32} {wi : Nat} {gp : Nat} {vl : Nat} {sa : Nat} {bo : Nat} {cy : Int32} {sd : Int32} {ma : Nat} {qu : Nat} {X : Nat → Int32} {F : Nat → Int32} {M : Nat → Int32} {po : Nat → Nat} {pd : Nat → Nat} {pa : Nat → Nat} {pb : Nat → Nat} {pn : Nat → Int32} {pm : Nat → Int32} {wh : Nat → Nat} {wd : Nat → Nat} {rg : Nat → Nat} {fr : Nat → Nat} {sp : Nat → Nat} {dn : Nat → Nat} {bf : Nat → Nat} {XA : Nat → Int32} {XB : Nat → Int32} {r : Nat} {i : Nat} (hn : 19 ≤ n) (hR : kR ad cI cZ cs la th st nx wi gp vl sa bo cy sd ma qu X F M po pd pa pb pn pm wh wd rg fr sp dn bf XA XB) (hi : i < 2 ^ 20) (hr9 : 8 * r + i / 8 < 64) : kw_mi l y_R_bit w_R_bit (kr 0) D kc (ktR cI cZ) ad n cs [.ref (ad 0), .int (nI r), .int (nI i)] (fun r9 c9 => r9 = kv_R_bit F r i ∧ c9 = cs) := by
  refine kw_of (cc := b_R_bit) (maxL := 3) (ret := (some .boolean)) (by decide) rfl (Nat.le_of_ble_eq_true rfl) ?_
  intro p e s m below meth c ls hx hb hr hml hown hts hlocks hP hK hl
  have hg : ∀ w9 ∈ kg_G, w9.before [.ref (ad 0), .int (nI r), .int (nI i)].toArray s = true := fun w9 h9 => hts w9 (List.mem_cons_of_mem _ h9)
  have hown : s.vm.findClass "LaneMachineModel" = some m.cls := hown
  have hA : ∀ k, k < n → kw_A ad n (ad k) := fun k hk => ⟨k, hk, rfl⟩
  have hS : va_S (kw_A ad n) s.heap s.heap [] := va_S.rf
  have hl : lv_has ls 3 [(0, .ref (ad 0)), (1, .int (nI r)), (2, .int (nI i))] := hl
  obtain ⟨e0, e1, e2, e3, e4, e5, e6, e7, e8, e9, e10, e11, e12, e13, e14, e15, e16, e17, e18⟩ := hR
  refine lv_aload_n hx hb d_R_bit_0 rfl (lv_at hl 0 rfl) ?_
  refine kw_get hx hb hg in_R hown hK hP 0 (Nat.lt_of_lt_of_le (by decide : 0 < 19) hn) e0 rfl 12 (by decide) (hg _ kg_595) rfl rfl d_R_bit_1 ?_
  refine lv_bipush (v := 8) hx hb d_R_bit_4 (by decide) ?_
  refine lv_iload_n hx hb d_R_bit_6 rfl (lv_at hl 1 rfl) ?_
  refine lv_imul hx hb d_R_bit_7 ?_
  refine lv_iload_n hx hb d_R_bit_8 rfl (lv_at hl 2 rfl) ?_
  refine lv_bipush (v := 8) hx hb d_R_bit_9 (by decide) ?_
  refine lv_idiv hx hb d_R_bit_11 (by decide) ?_
  refine lv_iadd hx hb d_R_bit_12 ?_
  refine kw_iald hx hb hK hP 2 0 (Nat.lt_of_lt_of_le (by decide : 2 < 19) hn) e2 rfl (8 * r + i / 8) (by rw [show (8 : Int32) = nI 8 from rfl, pk_mul, pk_div (by omega) (by decide) (by decide), nI_add]) (hr9) (by omega) d_R_bit_13 ?_
  refine lv_iload_n hx hb d_R_bit_14 rfl (lv_at hl 2 rfl) ?_
  refine lv_bipush (v := 8) hx hb d_R_bit_15 (by decide) ?_
  refine lv_irem hx hb d_R_bit_17 (by decide) ?_
  refine lv_ishr hx hb d_R_bit_18 ?_
  refine lv_iconst (v := 1) hx hb d_R_bit_19 (by decide) ?_
  refine lv_iand hx hb d_R_bit_20 ?_
  refine lv_iconst (v := 1) hx hb d_R_bit_21 (by decide) ?_
  refine lv_icmp_ne (tgt := 29) hx hb d_R_bit_22 (by decide) (fun h1 => ?_) (fun h1 => ?_)
  · refine lv_iconst (v := 0) hx hb d_R_bit_29 (by decide) ?_
    exact kw_zret hx hb hr hlocks hP hK hS (Or.inl rfl) ⟨by rw [kv_R_bit, if_neg h1], rfl⟩ d_R_bit_30
  · refine lv_iconst (v := 1) hx hb d_R_bit_25 (by decide) ?_
    refine lv_goto (tgt := 30) hx hb d_R_bit_26 (by decide) ?_
    exact kw_zret hx hb hr hlocks hP hK hS (Or.inr rfl) ⟨by rw [kv_R_bit, if_pos h1], rfl⟩ d_R_bit_30

def kv_el (F : Nat → Int32) (q : Nat) : Nat → Int64 → Int64
  | 0, v => v
  | j + 1, v => kv_el F q j (v * 256 + (F (q + j) &&& 255).toInt64)
def kv_R_element (F : Nat → Int32) (r i w : Nat) : Int32 := kv_R_signed (kv_el F (8 * r + i * w) w 0) (nI w)

set_option maxRecDepth 100000 in
set_option maxHeartbeats 4000000 in
theorem c_R_element (l : Launch) {D : va_G} {ad : Nat → Nat} {n : Nat} {cs : Nat → va_E} {cI : ClassId} {cZ : ClassId} {la : Nat} {th : Int32} {st : Nat} {nx : Int32} {wi : Nat} {gp : Nat} {vl : Nat} {sa : Nat} {bo : Nat} {cy : Int32} {sd : Int32} {ma : Nat} {qu : Nat} {X : Nat → Int32} {F : Nat → Int32} {M : Nat → Int32} {po : Nat → Nat} {pd : Nat → Nat} {pa : Nat → Nat} {pb : Nat → Nat} {pn : Nat → Int32} {pm : Nat → Int32} {wh : Nat → Nat} {wd : Nat → Nat} {rg : Nat → Nat} {fr : Nat → Nat} {sp : Nat → Nat} {dn : Nat → Nat} {bf : Nat → Nat} {XA : Nat → Int32} {XB : Nat → Int32} {r : Nat} {i : Nat} {w : Nat} (hn : 19 ≤ n) (hR : kR ad cI cZ cs la th st nx wi gp vl sa bo cy sd ma qu X F M po pd pa pb pn pm wh wd rg fr sp dn bf XA XB) (hr9 : 8 * r + i * w + w ≤ 64) : kw_mi l y_R_element w_R_element (kr 1) D kc (ktR cI cZ) ad n cs [.ref (ad 0), .int (nI r), .int (nI i), .int (nI w)] (fun r9 c9 => r9 = kv_R_element F r i w ∧ c9 = cs) := by
  refine kw_of (cc := b_R_element) (maxL := 7) (ret := (some .int)) (by decide) rfl (Nat.le_of_ble_eq_true rfl) ?_
  intro p e s m below meth c ls hx hb hr hml hown hts hlocks hP hK hl
  have hg : ∀ w9 ∈ kg_G, w9.before [.ref (ad 0), .int (nI r), .int (nI i), .int (nI w)].toArray s = true := fun w9 h9 => hts w9 (List.mem_cons_of_mem _ h9)
  have hown : s.vm.findClass "LaneMachineModel" = some m.cls := hown
  have hA : ∀ k, k < n → kw_A ad n (ad k) := fun k hk => ⟨k, hk, rfl⟩
  have hS : va_S (kw_A ad n) s.heap s.heap [] := va_S.rf
  have hl : lv_has ls 7 [(0, .ref (ad 0)), (1, .int (nI r)), (2, .int (nI i)), (3, .int (nI w))] := hl
  obtain ⟨e0, e1, e2, e3, e4, e5, e6, e7, e8, e9, e10, e11, e12, e13, e14, e15, e16, e17, e18⟩ := hR
  refine lv_lconst (v := 0) hx hb d_R_element_0 (by decide) ?_
  refine lv_lstore (lv' := [(4, .long 0), (0, .ref (ad 0)), (1, .int (nI r)), (2, .int (nI i)), (3, .int (nI w))]) hx hb d_R_element_1 hl (by decide) rfl (fun ls hl => ?_)
  refine lv_iload_n hx hb d_R_element_3 rfl (lv_at hl 4 rfl) ?_
  refine lv_iconst (v := 1) hx hb d_R_element_4 (by decide) ?_
  refine lv_isub hx hb d_R_element_5 ?_
  refine lv_istore (lv' := [(6, .int ((nI w) - 1)), (4, .long 0), (0, .ref (ad 0)), (1, .int (nI r)), (2, .int (nI i)), (3, .int (nI w))]) hx hb d_R_element_6 hl (by decide) rfl (fun ls hl => ?_)
  have loop : ∀ (kk : Nat) (v : Int64) (H : Heap) (locs : List Loc) (ls : Array Slot), kk ≤ w → kv_el F (8 * r + i * w) w 0 = kv_el F (8 * r + i * w) kk v → va_P D kc (kw_w ad cs n) H → va_S (kw_A ad n) s.heap H locs → lv_has ls 7 [(6, .int (nI kk - 1)), (4, .long v), (0, .ref (ad 0)), (1, .int (nI r)), (2, .int (nI i)), (3, .int (nI w))] → W p l e (kr 1) s m [.ref (ad 0), .int (nI r), .int (nI i), .int (nI w)].toArray below meth c H locs 0 0 (MQ below (va_Qi (fun r9 c9 => r9 = kv_R_element F r i w ∧ c9 = cs) (kw_Pre D kc (ktR cI cZ) ad n) (kw_A ad n)) [.ref (ad 0), .int (nI r), .int (nI i), .int (nI w)].toArray s 0 0 (kw_A ad n)) (F0 m 8 ls []) := by
    intro kk
    induction kk with
    | zero =>
      intro v H locs ls hk hv hP hS hl
      refine lv_iload hx hb d_R_element_8 (lv_at hl 0 rfl) ?_
      refine lv_if_lt (tgt := 49) hx hb d_R_element_10 (by decide) (fun _ => ?_) (fun h1 => absurd (by decide) h1)
      refine lv_lload hx hb d_R_element_49 (lv_at hl 1 rfl) ?_
      refine lv_iload_n hx hb d_R_element_51 rfl (lv_at hl 5 rfl) ?_
      refine kw_callix (kw_rS (As := [.long v, .int (nI w)]) (rest := []) ⟨hx, hb, hml, hown, hg⟩ ⟨callB_of 2 hg (kg_goodG kg_727) rfl rfl rfl (hg _ kg_7) (hg _ kg_725) (by decide +kernel) ⟨by decide, by decide⟩, hg _ kg_726⟩ (c_R_signed l  ) hK hP rfl hl.1 rfl (Nat.le_of_ble_eq_true rfl) d_R_element_52 ⟨Nat.zero_le _, Nat.zero_le _⟩) hA hS (fun H locs hP hS => ?_)
      exact kw_iret hx hb hr hlocks hP hK hS ⟨by rw [kv_R_element, hv, kv_el], rfl⟩ d_R_element_55
    | succ j ih =>
      intro v H locs ls hk hv hP hS hl
      refine lv_iload hx hb d_R_element_8 (lv_at hl 0 rfl) ?_
      refine lv_if_lt (tgt := 49) hx hb d_R_element_10 (by decide) (fun h2 => absurd h2 (by rw [nI_pred]; exact nI_pos (by omega))) (fun _ => ?_)
      refine lv_lload hx hb d_R_element_13 (lv_at hl 1 rfl) ?_
      refine lv_ldc2 (v := 256) hx hb hown (hg _ kg_724) d_R_element_15 ?_
      refine lv_lmul hx hb d_R_element_18 ?_
      refine lv_aload_n hx hb d_R_element_19 rfl (lv_at hl 2 rfl) ?_
      refine kw_get hx hb hg in_R hown hK hP 0 (Nat.lt_of_lt_of_le (by decide : 0 < 19) hn) e0 rfl 12 (by decide) (hg _ kg_595) rfl rfl d_R_element_20 ?_
      refine lv_bipush (v := 8) hx hb d_R_element_23 (by decide) ?_
      refine lv_iload_n hx hb d_R_element_25 rfl (lv_at hl 3 rfl) ?_
      refine lv_imul hx hb d_R_element_26 ?_
      refine lv_iload_n hx hb d_R_element_27 rfl (lv_at hl 4 rfl) ?_
      refine lv_iload_n hx hb d_R_element_28 rfl (lv_at hl 5 rfl) ?_
      refine lv_imul hx hb d_R_element_29 ?_
      refine lv_iadd hx hb d_R_element_30 ?_
      refine lv_iload hx hb d_R_element_31 (lv_at hl 0 rfl) ?_
      refine lv_iadd hx hb d_R_element_33 ?_
      refine kw_iald hx hb hK hP 2 0 (Nat.lt_of_lt_of_le (by decide : 2 < 19) hn) e2 rfl (8 * r + i * w + j) (by rw [show (8 : Int32) = nI 8 from rfl, pk_mul, pk_mul, nI_add, nI_pred, nI_add]) (by omega) (by omega) d_R_element_34 ?_
      refine lv_sipush (v := 255) hx hb d_R_element_35 (by decide) ?_
      refine lv_iand hx hb d_R_element_38 ?_
      refine lv_i2l hx hb d_R_element_39 rfl ?_
      refine lv_ladd hx hb d_R_element_40 ?_
      refine lv_lstore (lv' := [(4, .long ((v * 256) + (((F (8 * r + i * w + j)) &&& 255).toInt64))), (6, .int (nI (j + 1) - 1)), (0, .ref (ad 0)), (1, .int (nI r)), (2, .int (nI i)), (3, .int (nI w))]) hx hb d_R_element_41 hl (by decide) rfl (fun ls hl => ?_)
      refine lv_iinc (k := 1) (v := nI j - 1) (lv' := [(6, .int (nI j - 1)), (4, .long ((v * 256) + (((F (8 * r + i * w + j)) &&& 255).toInt64))), (0, .ref (ad 0)), (1, .int (nI r)), (2, .int (nI i)), (3, .int (nI w))]) hx hb d_R_element_43 hl rfl (by rw [nI_pred]; exact kw_m1 _) (by decide) rfl (fun ls hl => ?_)
      refine lv_goto (tgt := 8) hx hb d_R_element_46 (by decide) ?_
      exact ih _ _ _ _ (by omega) (hv) (hP) hS (lv_sub hl [0, 1, 2, 3, 4, 5] rfl)
  exact loop w 0 _ _ _ (Nat.le_refl _) (rfl) (hP) hS (lv_sub hl [0, 1, 2, 3, 4, 5] rfl)
end
