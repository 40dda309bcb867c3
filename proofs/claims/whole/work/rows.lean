section
-- ===== PART A: goes FIRST, ahead of the names: the tables' words, and 'selects' of the private methods out of them =====
/-- a private method of a class that the tables say can be made, by its rows of tables_1 -/
def lw_okq (q : MethodName × Nat) : Prop := (q.1.cls ≠ "java/lang/invoke/MethodHandle" ∧ q.1.cls ≠ "java/lang/invoke/VarHandle") ∧ Cond.instantiable q.1.cls q.2 ∈ tables_1 ∧ Cond.privateMethod q.1 ∈ tables_1 ∧ Cond.instanceMethod q.1 ∈ tables_1
theorem lw_p0 : lw_okq (⟨"java/lang/Throwable", "fillInStackTrace", "(I)Ljava/lang/Throwable;"⟩, 6) := ⟨⟨by decide +kernel, by decide +kernel⟩, List.mem_of_getElem? (i := 300) (by decide +kernel), List.mem_of_getElem? (i := 298) (by decide +kernel), List.mem_of_getElem? (i := 299) (by decide +kernel)⟩
theorem lw_p1 : lw_okq (⟨"LaneMachine", "noteStepsDone", "()V"⟩, 14) := ⟨⟨by decide +kernel, by decide +kernel⟩, List.mem_of_getElem? (i := 14) (by decide +kernel), List.mem_of_getElem? (i := 364) (by decide +kernel), List.mem_of_getElem? (i := 365) (by decide +kernel)⟩
theorem lw_p2 : lw_okq (⟨"LaneMachine", "workUnit", "(I)V"⟩, 14) := ⟨⟨by decide +kernel, by decide +kernel⟩, List.mem_of_getElem? (i := 14) (by decide +kernel), List.mem_of_getElem? (i := 368) (by decide +kernel), List.mem_of_getElem? (i := 369) (by decide +kernel)⟩
theorem lw_p3 : lw_okq (⟨"LaneMachine$Work", "writesOf", "(I)J"⟩, 15) := ⟨⟨by decide +kernel, by decide +kernel⟩, List.mem_of_getElem? (i := 106) (by decide +kernel), List.mem_of_getElem? (i := 385) (by decide +kernel), List.mem_of_getElem? (i := 386) (by decide +kernel)⟩
theorem lw_p4 : lw_okq (⟨"LaneMachine$Work", "placeOf", "(II)I"⟩, 15) := ⟨⟨by decide +kernel, by decide +kernel⟩, List.mem_of_getElem? (i := 106) (by decide +kernel), List.mem_of_getElem? (i := 392) (by decide +kernel), List.mem_of_getElem? (i := 393) (by decide +kernel)⟩
theorem lw_p5 : lw_okq (⟨"LaneMachine$Work", "readsOf", "(I)J"⟩, 15) := ⟨⟨by decide +kernel, by decide +kernel⟩, List.mem_of_getElem? (i := 106) (by decide +kernel), List.mem_of_getElem? (i := 396) (by decide +kernel), List.mem_of_getElem? (i := 397) (by decide +kernel)⟩
theorem lw_p6 : lw_okq (⟨"LaneMachine$Work", "readsOfSum", "()J"⟩, 15) := ⟨⟨by decide +kernel, by decide +kernel⟩, List.mem_of_getElem? (i := 106) (by decide +kernel), List.mem_of_getElem? (i := 400) (by decide +kernel), List.mem_of_getElem? (i := 401) (by decide +kernel)⟩
theorem lw_p7 : lw_okq (⟨"LaneMachine$Work", "maskByte", "(I)J"⟩, 15) := ⟨⟨by decide +kernel, by decide +kernel⟩, List.mem_of_getElem? (i := 106) (by decide +kernel), List.mem_of_getElem? (i := 404) (by decide +kernel), List.mem_of_getElem? (i := 405) (by decide +kernel)⟩
theorem lw_p8 : lw_okq (⟨"LaneMachine$Work", "sourcesOf", "(I)J"⟩, 15) := ⟨⟨by decide +kernel, by decide +kernel⟩, List.mem_of_getElem? (i := 106) (by decide +kernel), List.mem_of_getElem? (i := 408) (by decide +kernel), List.mem_of_getElem? (i := 409) (by decide +kernel)⟩
theorem lw_p9 : lw_okq (⟨"LaneMachine$Work", "isInGroup", "(I)Z"⟩, 15) := ⟨⟨by decide +kernel, by decide +kernel⟩, List.mem_of_getElem? (i := 106) (by decide +kernel), List.mem_of_getElem? (i := 412) (by decide +kernel), List.mem_of_getElem? (i := 413) (by decide +kernel)⟩
theorem lw_p10 : lw_okq (⟨"LaneMachine$Work", "isWorkedOn", "(I)Z"⟩, 15) := ⟨⟨by decide +kernel, by decide +kernel⟩, List.mem_of_getElem? (i := 106) (by decide +kernel), List.mem_of_getElem? (i := 420) (by decide +kernel), List.mem_of_getElem? (i := 421) (by decide +kernel)⟩
theorem lw_p11 : lw_okq (⟨"LaneMachine$Work", "writeSum", "()V"⟩, 15) := ⟨⟨by decide +kernel, by decide +kernel⟩, List.mem_of_getElem? (i := 106) (by decide +kernel), List.mem_of_getElem? (i := 425) (by decide +kernel), List.mem_of_getElem? (i := 426) (by decide +kernel)⟩
theorem lw_p12 : lw_okq (⟨"LaneMachine$Work", "element", "(II)I"⟩, 15) := ⟨⟨by decide +kernel, by decide +kernel⟩, List.mem_of_getElem? (i := 106) (by decide +kernel), List.mem_of_getElem? (i := 429) (by decide +kernel), List.mem_of_getElem? (i := 430) (by decide +kernel)⟩
theorem lw_p13 : lw_okq (⟨"LaneMachine$Work", "writeMaskBit", "(IZ)V"⟩, 15) := ⟨⟨by decide +kernel, by decide +kernel⟩, List.mem_of_getElem? (i := 106) (by decide +kernel), List.mem_of_getElem? (i := 438) (by decide +kernel), List.mem_of_getElem? (i := 439) (by decide +kernel)⟩
theorem lw_p14 : lw_okq (⟨"LaneMachine$Work", "result", "(I)I"⟩, 15) := ⟨⟨by decide +kernel, by decide +kernel⟩, List.mem_of_getElem? (i := 106) (by decide +kernel), List.mem_of_getElem? (i := 442) (by decide +kernel), List.mem_of_getElem? (i := 443) (by decide +kernel)⟩
theorem lw_p15 : lw_okq (⟨"LaneMachine$Work", "elementOrZero", "(II)I"⟩, 15) := ⟨⟨by decide +kernel, by decide +kernel⟩, List.mem_of_getElem? (i := 106) (by decide +kernel), List.mem_of_getElem? (i := 446) (by decide +kernel), List.mem_of_getElem? (i := 447) (by decide +kernel)⟩
def lw_privs_1 : List (MethodName × Nat) := [(⟨"java/lang/Throwable", "fillInStackTrace", "(I)Ljava/lang/Throwable;"⟩, 6), (⟨"LaneMachine", "noteStepsDone", "()V"⟩, 14), (⟨"LaneMachine", "workUnit", "(I)V"⟩, 14), (⟨"LaneMachine$Work", "writesOf", "(I)J"⟩, 15), (⟨"LaneMachine$Work", "placeOf", "(II)I"⟩, 15), (⟨"LaneMachine$Work", "readsOf", "(I)J"⟩, 15), (⟨"LaneMachine$Work", "readsOfSum", "()J"⟩, 15), (⟨"LaneMachine$Work", "maskByte", "(I)J"⟩, 15), (⟨"LaneMachine$Work", "sourcesOf", "(I)J"⟩, 15), (⟨"LaneMachine$Work", "isInGroup", "(I)Z"⟩, 15), (⟨"LaneMachine$Work", "isWorkedOn", "(I)Z"⟩, 15), (⟨"LaneMachine$Work", "writeSum", "()V"⟩, 15), (⟨"LaneMachine$Work", "element", "(II)I"⟩, 15), (⟨"LaneMachine$Work", "writeMaskBit", "(IZ)V"⟩, 15), (⟨"LaneMachine$Work", "result", "(I)I"⟩, 15), (⟨"LaneMachine$Work", "elementOrZero", "(II)I"⟩, 15)]
theorem lw_r1 : ∀ q ∈ lw_privs_1, lw_okq q := List.forall_mem_cons.mpr ⟨lw_p0, List.forall_mem_cons.mpr ⟨lw_p1, List.forall_mem_cons.mpr ⟨lw_p2, List.forall_mem_cons.mpr ⟨lw_p3, List.forall_mem_cons.mpr ⟨lw_p4, List.forall_mem_cons.mpr ⟨lw_p5, List.forall_mem_cons.mpr ⟨lw_p6, List.forall_mem_cons.mpr ⟨lw_p7, List.forall_mem_cons.mpr ⟨lw_p8, List.forall_mem_cons.mpr ⟨lw_p9, List.forall_mem_cons.mpr ⟨lw_p10, List.forall_mem_cons.mpr ⟨lw_p11, List.forall_mem_cons.mpr ⟨lw_p12, List.forall_mem_cons.mpr ⟨lw_p13, List.forall_mem_cons.mpr ⟨lw_p14, List.forall_mem_cons.mpr ⟨lw_p15, fun _ h => absurd h List.not_mem_nil⟩⟩⟩⟩⟩⟩⟩⟩⟩⟩⟩⟩⟩⟩⟩⟩
theorem lw_p16 : lw_okq (⟨"LaneMachine$Work", "placeInMemory", "(I)I"⟩, 15) := ⟨⟨by decide +kernel, by decide +kernel⟩, List.mem_of_getElem? (i := 106) (by decide +kernel), List.mem_of_getElem? (i := 450) (by decide +kernel), List.mem_of_getElem? (i := 451) (by decide +kernel)⟩
theorem lw_p17 : lw_okq (⟨"LaneMachine", "dropFinished", "()V"⟩, 14) := ⟨⟨by decide +kernel, by decide +kernel⟩, List.mem_of_getElem? (i := 14) (by decide +kernel), List.mem_of_getElem? (i := 462) (by decide +kernel), List.mem_of_getElem? (i := 463) (by decide +kernel)⟩
theorem lw_p18 : lw_okq (⟨"LaneMachine", "advance", "()V"⟩, 14) := ⟨⟨by decide +kernel, by decide +kernel⟩, List.mem_of_getElem? (i := 14) (by decide +kernel), List.mem_of_getElem? (i := 467) (by decide +kernel), List.mem_of_getElem? (i := 468) (by decide +kernel)⟩
theorem lw_p19 : lw_okq (⟨"LaneMachine$Setting", "isMisplaced", "(LLaneMachine$Instruction;)Z"⟩, 4) := ⟨⟨by decide +kernel, by decide +kernel⟩, List.mem_of_getElem? (i := 40) (by decide +kernel), List.mem_of_getElem? (i := 479) (by decide +kernel), List.mem_of_getElem? (i := 480) (by decide +kernel)⟩
theorem lw_p20 : lw_okq (⟨"LaneMachine$Setting", "spoilsSources", "(LLaneMachine$Instruction;)Z"⟩, 4) := ⟨⟨by decide +kernel, by decide +kernel⟩, List.mem_of_getElem? (i := 40) (by decide +kernel), List.mem_of_getElem? (i := 502) (by decide +kernel), List.mem_of_getElem? (i := 503) (by decide +kernel)⟩
theorem lw_p21 : lw_okq (⟨"LaneMachine$Setting", "isInWideGroup", "(II)Z"⟩, 4) := ⟨⟨by decide +kernel, by decide +kernel⟩, List.mem_of_getElem? (i := 40) (by decide +kernel), List.mem_of_getElem? (i := 506) (by decide +kernel), List.mem_of_getElem? (i := 507) (by decide +kernel)⟩
theorem lw_p22 : lw_okq (⟨"LaneMachine$Setting", "isTooWide", "(LLaneMachine$Instruction;)Z"⟩, 4) := ⟨⟨by decide +kernel, by decide +kernel⟩, List.mem_of_getElem? (i := 40) (by decide +kernel), List.mem_of_getElem? (i := 510) (by decide +kernel), List.mem_of_getElem? (i := 511) (by decide +kernel)⟩
theorem lw_p23 : lw_okq (⟨"LaneMachine", "mustWaitForQueue", "(LLaneMachine$Instruction;)Z"⟩, 14) := ⟨⟨by decide +kernel, by decide +kernel⟩, List.mem_of_getElem? (i := 14) (by decide +kernel), List.mem_of_getElem? (i := 516) (by decide +kernel), List.mem_of_getElem? (i := 517) (by decide +kernel)⟩
theorem lw_p24 : lw_okq (⟨"LaneMachine", "handOut", "(LLaneMachine$Instruction;LLaneMachine$Work;)V"⟩, 14) := ⟨⟨by decide +kernel, by decide +kernel⟩, List.mem_of_getElem? (i := 14) (by decide +kernel), List.mem_of_getElem? (i := 521) (by decide +kernel), List.mem_of_getElem? (i := 522) (by decide +kernel)⟩
theorem lw_p25 : lw_okq (⟨"LaneMachine", "doScalar", "(LLaneMachine$Instruction;)V"⟩, 14) := ⟨⟨by decide +kernel, by decide +kernel⟩, List.mem_of_getElem? (i := 14) (by decide +kernel), List.mem_of_getElem? (i := 548) (by decide +kernel), List.mem_of_getElem? (i := 549) (by decide +kernel)⟩
theorem lw_p26 : lw_okq (⟨"LaneMachine", "setScalar", "(II)V"⟩, 14) := ⟨⟨by decide +kernel, by decide +kernel⟩, List.mem_of_getElem? (i := 14) (by decide +kernel), List.mem_of_getElem? (i := 552) (by decide +kernel), List.mem_of_getElem? (i := 553) (by decide +kernel)⟩
theorem lw_p27 : lw_okq (⟨"LaneMachineModel", "units", "()V"⟩, 31) := ⟨⟨by decide +kernel, by decide +kernel⟩, List.mem_of_getElem? (i := 578) (by decide +kernel), List.mem_of_getElem? (i := 687) (by decide +kernel), List.mem_of_getElem? (i := 688) (by decide +kernel)⟩
theorem lw_p28 : lw_okq (⟨"LaneMachineModel", "free", "(II)Z"⟩, 31) := ⟨⟨by decide +kernel, by decide +kernel⟩, List.mem_of_getElem? (i := 578) (by decide +kernel), List.mem_of_getElem? (i := 694) (by decide +kernel), List.mem_of_getElem? (i := 695) (by decide +kernel)⟩
theorem lw_p29 : lw_okq (⟨"LaneMachineModel", "reads", "(II)J"⟩, 31) := ⟨⟨by decide +kernel, by decide +kernel⟩, List.mem_of_getElem? (i := 578) (by decide +kernel), List.mem_of_getElem? (i := 698) (by decide +kernel), List.mem_of_getElem? (i := 699) (by decide +kernel)⟩
theorem lw_p30 : lw_okq (⟨"LaneMachineModel", "vlOf", "(I)I"⟩, 31) := ⟨⟨by decide +kernel, by decide +kernel⟩, List.mem_of_getElem? (i := 578) (by decide +kernel), List.mem_of_getElem? (i := 702) (by decide +kernel), List.mem_of_getElem? (i := 703) (by decide +kernel)⟩
theorem lw_p31 : lw_okq (⟨"LaneMachineModel", "writes", "(II)J"⟩, 31) := ⟨⟨by decide +kernel, by decide +kernel⟩, List.mem_of_getElem? (i := 578) (by decide +kernel), List.mem_of_getElem? (i := 709) (by decide +kernel), List.mem_of_getElem? (i := 710) (by decide +kernel)⟩
def lw_privs_2 : List (MethodName × Nat) := [(⟨"LaneMachine$Work", "placeInMemory", "(I)I"⟩, 15), (⟨"LaneMachine", "dropFinished", "()V"⟩, 14), (⟨"LaneMachine", "advance", "()V"⟩, 14), (⟨"LaneMachine$Setting", "isMisplaced", "(LLaneMachine$Instruction;)Z"⟩, 4), (⟨"LaneMachine$Setting", "spoilsSources", "(LLaneMachine$Instruction;)Z"⟩, 4), (⟨"LaneMachine$Setting", "isInWideGroup", "(II)Z"⟩, 4), (⟨"LaneMachine$Setting", "isTooWide", "(LLaneMachine$Instruction;)Z"⟩, 4), (⟨"LaneMachine", "mustWaitForQueue", "(LLaneMachine$Instruction;)Z"⟩, 14), (⟨"LaneMachine", "handOut", "(LLaneMachine$Instruction;LLaneMachine$Work;)V"⟩, 14), (⟨"LaneMachine", "doScalar", "(LLaneMachine$Instruction;)V"⟩, 14), (⟨"LaneMachine", "setScalar", "(II)V"⟩, 14), (⟨"LaneMachineModel", "units", "()V"⟩, 31), (⟨"LaneMachineModel", "free", "(II)Z"⟩, 31), (⟨"LaneMachineModel", "reads", "(II)J"⟩, 31), (⟨"LaneMachineModel", "vlOf", "(I)I"⟩, 31), (⟨"LaneMachineModel", "writes", "(II)J"⟩, 31)]
theorem lw_r2 : ∀ q ∈ lw_privs_2, lw_okq q := List.forall_mem_cons.mpr ⟨lw_p16, List.forall_mem_cons.mpr ⟨lw_p17, List.forall_mem_cons.mpr ⟨lw_p18, List.forall_mem_cons.mpr ⟨lw_p19, List.forall_mem_cons.mpr ⟨lw_p20, List.forall_mem_cons.mpr ⟨lw_p21, List.forall_mem_cons.mpr ⟨lw_p22, List.forall_mem_cons.mpr ⟨lw_p23, List.forall_mem_cons.mpr ⟨lw_p24, List.forall_mem_cons.mpr ⟨lw_p25, List.forall_mem_cons.mpr ⟨lw_p26, List.forall_mem_cons.mpr ⟨lw_p27, List.forall_mem_cons.mpr ⟨lw_p28, List.forall_mem_cons.mpr ⟨lw_p29, List.forall_mem_cons.mpr ⟨lw_p30, List.forall_mem_cons.mpr ⟨lw_p31, fun _ h => absurd h List.not_mem_nil⟩⟩⟩⟩⟩⟩⟩⟩⟩⟩⟩⟩⟩⟩⟩⟩
theorem lw_p32 : lw_okq (⟨"LaneMachineModel", "does", "(II)V"⟩, 31) := ⟨⟨by decide +kernel, by decide +kernel⟩, List.mem_of_getElem? (i := 578) (by decide +kernel), List.mem_of_getElem? (i := 713) (by decide +kernel), List.mem_of_getElem? (i := 714) (by decide +kernel)⟩
theorem lw_p33 : lw_okq (⟨"LaneMachineModel", "sums", "(I)V"⟩, 31) := ⟨⟨by decide +kernel, by decide +kernel⟩, List.mem_of_getElem? (i := 578) (by decide +kernel), List.mem_of_getElem? (i := 717) (by decide +kernel), List.mem_of_getElem? (i := 718) (by decide +kernel)⟩
theorem lw_p34 : lw_okq (⟨"LaneMachineModel", "element", "(III)I"⟩, 31) := ⟨⟨by decide +kernel, by decide +kernel⟩, List.mem_of_getElem? (i := 578) (by decide +kernel), List.mem_of_getElem? (i := 721) (by decide +kernel), List.mem_of_getElem? (i := 722) (by decide +kernel)⟩
theorem lw_p35 : lw_okq (⟨"LaneMachineModel", "bit", "(II)Z"⟩, 31) := ⟨⟨by decide +kernel, by decide +kernel⟩, List.mem_of_getElem? (i := 578) (by decide +kernel), List.mem_of_getElem? (i := 729) (by decide +kernel), List.mem_of_getElem? (i := 730) (by decide +kernel)⟩
theorem lw_p36 : lw_okq (⟨"LaneMachineModel", "set", "(IIII)V"⟩, 31) := ⟨⟨by decide +kernel, by decide +kernel⟩, List.mem_of_getElem? (i := 578) (by decide +kernel), List.mem_of_getElem? (i := 733) (by decide +kernel), List.mem_of_getElem? (i := 734) (by decide +kernel)⟩
theorem lw_p37 : lw_okq (⟨"LaneMachineModel", "pairs", "(II)I"⟩, 31) := ⟨⟨by decide +kernel, by decide +kernel⟩, List.mem_of_getElem? (i := 578) (by decide +kernel), List.mem_of_getElem? (i := 737) (by decide +kernel), List.mem_of_getElem? (i := 738) (by decide +kernel)⟩
theorem lw_p38 : lw_okq (⟨"LaneMachineModel", "moves", "(II)V"⟩, 31) := ⟨⟨by decide +kernel, by decide +kernel⟩, List.mem_of_getElem? (i := 578) (by decide +kernel), List.mem_of_getElem? (i := 741) (by decide +kernel), List.mem_of_getElem? (i := 742) (by decide +kernel)⟩
theorem lw_p39 : lw_okq (⟨"LaneMachineModel", "place", "(II)I"⟩, 31) := ⟨⟨by decide +kernel, by decide +kernel⟩, List.mem_of_getElem? (i := 578) (by decide +kernel), List.mem_of_getElem? (i := 745) (by decide +kernel), List.mem_of_getElem? (i := 746) (by decide +kernel)⟩
theorem lw_p40 : lw_okq (⟨"LaneMachineModel", "picks", "(II)I"⟩, 31) := ⟨⟨by decide +kernel, by decide +kernel⟩, List.mem_of_getElem? (i := 578) (by decide +kernel), List.mem_of_getElem? (i := 755) (by decide +kernel), List.mem_of_getElem? (i := 756) (by decide +kernel)⟩
theorem lw_p41 : lw_okq (⟨"LaneMachineModel", "leaves", "()V"⟩, 31) := ⟨⟨by decide +kernel, by decide +kernel⟩, List.mem_of_getElem? (i := 578) (by decide +kernel), List.mem_of_getElem? (i := 759) (by decide +kernel), List.mem_of_getElem? (i := 760) (by decide +kernel)⟩
theorem lw_p42 : lw_okq (⟨"LaneMachineModel", "goesOn", "()V"⟩, 31) := ⟨⟨by decide +kernel, by decide +kernel⟩, List.mem_of_getElem? (i := 578) (by decide +kernel), List.mem_of_getElem? (i := 763) (by decide +kernel), List.mem_of_getElem? (i := 764) (by decide +kernel)⟩
theorem lw_p43 : lw_okq (⟨"LaneMachineModel", "illegal", "(I)Z"⟩, 31) := ⟨⟨by decide +kernel, by decide +kernel⟩, List.mem_of_getElem? (i := 578) (by decide +kernel), List.mem_of_getElem? (i := 767) (by decide +kernel), List.mem_of_getElem? (i := 768) (by decide +kernel)⟩
theorem lw_p44 : lw_okq (⟨"LaneMachineModel", "odd", "(II)Z"⟩, 31) := ⟨⟨by decide +kernel, by decide +kernel⟩, List.mem_of_getElem? (i := 578) (by decide +kernel), List.mem_of_getElem? (i := 771) (by decide +kernel), List.mem_of_getElem? (i := 772) (by decide +kernel)⟩
theorem lw_p45 : lw_okq (⟨"LaneMachineModel", "scalarDone", "(I)Z"⟩, 31) := ⟨⟨by decide +kernel, by decide +kernel⟩, List.mem_of_getElem? (i := 578) (by decide +kernel), List.mem_of_getElem? (i := 775) (by decide +kernel), List.mem_of_getElem? (i := 776) (by decide +kernel)⟩
theorem lw_p46 : lw_okq (⟨"LaneMachineModel", "setX", "(II)V"⟩, 31) := ⟨⟨by decide +kernel, by decide +kernel⟩, List.mem_of_getElem? (i := 578) (by decide +kernel), List.mem_of_getElem? (i := 779) (by decide +kernel), List.mem_of_getElem? (i := 780) (by decide +kernel)⟩
theorem lw_p47 : lw_okq (⟨"LaneMachineModel", "configures", "(I)V"⟩, 31) := ⟨⟨by decide +kernel, by decide +kernel⟩, List.mem_of_getElem? (i := 578) (by decide +kernel), List.mem_of_getElem? (i := 783) (by decide +kernel), List.mem_of_getElem? (i := 784) (by decide +kernel)⟩
def lw_privs_3 : List (MethodName × Nat) := [(⟨"LaneMachineModel", "does", "(II)V"⟩, 31), (⟨"LaneMachineModel", "sums", "(I)V"⟩, 31), (⟨"LaneMachineModel", "element", "(III)I"⟩, 31), (⟨"LaneMachineModel", "bit", "(II)Z"⟩, 31), (⟨"LaneMachineModel", "set", "(IIII)V"⟩, 31), (⟨"LaneMachineModel", "pairs", "(II)I"⟩, 31), (⟨"LaneMachineModel", "moves", "(II)V"⟩, 31), (⟨"LaneMachineModel", "place", "(II)I"⟩, 31), (⟨"LaneMachineModel", "picks", "(II)I"⟩, 31), (⟨"LaneMachineModel", "leaves", "()V"⟩, 31), (⟨"LaneMachineModel", "goesOn", "()V"⟩, 31), (⟨"LaneMachineModel", "illegal", "(I)Z"⟩, 31), (⟨"LaneMachineModel", "odd", "(II)Z"⟩, 31), (⟨"LaneMachineModel", "scalarDone", "(I)Z"⟩, 31), (⟨"LaneMachineModel", "setX", "(II)V"⟩, 31), (⟨"LaneMachineModel", "configures", "(I)V"⟩, 31)]
theorem lw_r3 : ∀ q ∈ lw_privs_3, lw_okq q := List.forall_mem_cons.mpr ⟨lw_p32, List.forall_mem_cons.mpr ⟨lw_p33, List.forall_mem_cons.mpr ⟨lw_p34, List.forall_mem_cons.mpr ⟨lw_p35, List.forall_mem_cons.mpr ⟨lw_p36, List.forall_mem_cons.mpr ⟨lw_p37, List.forall_mem_cons.mpr ⟨lw_p38, List.forall_mem_cons.mpr ⟨lw_p39, List.forall_mem_cons.mpr ⟨lw_p40, List.forall_mem_cons.mpr ⟨lw_p41, List.forall_mem_cons.mpr ⟨lw_p42, List.forall_mem_cons.mpr ⟨lw_p43, List.forall_mem_cons.mpr ⟨lw_p44, List.forall_mem_cons.mpr ⟨lw_p45, List.forall_mem_cons.mpr ⟨lw_p46, List.forall_mem_cons.mpr ⟨lw_p47, fun _ h => absurd h List.not_mem_nil⟩⟩⟩⟩⟩⟩⟩⟩⟩⟩⟩⟩⟩⟩⟩⟩
theorem lw_p48 : lw_okq (⟨"LaneMachineModel", "held", "(I)Z"⟩, 31) := ⟨⟨by decide +kernel, by decide +kernel⟩, List.mem_of_getElem? (i := 578) (by decide +kernel), List.mem_of_getElem? (i := 787) (by decide +kernel), List.mem_of_getElem? (i := 788) (by decide +kernel)⟩
theorem lw_p49 : lw_okq (⟨"LaneMachineModel", "handsOut", "(I)V"⟩, 31) := ⟨⟨by decide +kernel, by decide +kernel⟩, List.mem_of_getElem? (i := 578) (by decide +kernel), List.mem_of_getElem? (i := 791) (by decide +kernel), List.mem_of_getElem? (i := 792) (by decide +kernel)⟩
theorem lw_p50 : lw_okq (⟨"LaneMachineModel", "bad", "(I)I"⟩, 31) := ⟨⟨by decide +kernel, by decide +kernel⟩, List.mem_of_getElem? (i := 578) (by decide +kernel), List.mem_of_getElem? (i := 795) (by decide +kernel), List.mem_of_getElem? (i := 796) (by decide +kernel)⟩
def lw_privs_4 : List (MethodName × Nat) := [(⟨"LaneMachineModel", "held", "(I)Z"⟩, 31), (⟨"LaneMachineModel", "handsOut", "(I)V"⟩, 31), (⟨"LaneMachineModel", "bad", "(I)I"⟩, 31)]
theorem lw_r4 : ∀ q ∈ lw_privs_4, lw_okq q := List.forall_mem_cons.mpr ⟨lw_p48, List.forall_mem_cons.mpr ⟨lw_p49, List.forall_mem_cons.mpr ⟨lw_p50, fun _ h => absurd h List.not_mem_nil⟩⟩⟩
def lw_privs : List (MethodName × Nat) := lw_privs_1 ++ (lw_privs_2 ++ (lw_privs_3 ++ (lw_privs_4)))
def lw_tbl : List Cond := k2_sels lw_privs ++ tables_1
theorem lw_privs_ok : ∀ q ∈ lw_privs, lw_okq q := by
  show ∀ q ∈ lw_privs_1 ++ (lw_privs_2 ++ (lw_privs_3 ++ (lw_privs_4))), lw_okq q
  exact List.forall_mem_append.mpr ⟨lw_r1, List.forall_mem_append.mpr ⟨lw_r2, List.forall_mem_append.mpr ⟨lw_r3, lw_r4⟩⟩⟩
end
section
/-! names, by an own program out of the Statement: classes R_, fields F_ t_, methods y_ b_, words kg_, decode rows d_ -/
/-- all good words of the tables: one list for every method -/
def kg_G : List Cond := lw_tbl.filter goodWord
theorem kg_of {w : Cond} (h : w ∈ lw_tbl) (hg : goodWord w = true) : w ∈ kg_G := List.mem_filter.mpr ⟨h, hg⟩
theorem kg_sel {q : MethodName × Nat} (h : q ∈ lw_privs) : Cond.selects q.1.cls q.1 q.1 ∈ kg_G := kg_of (List.mem_append_left _ (List.mem_map.mpr ⟨q, h, rfl⟩)) rfl
theorem kg_i1 {w : Cond} (k : Nat) (hk : tables_1_1[k]? = some w) (hg : goodWord w = true) : w ∈ kg_G := by
  have h : w ∈ tables_1_1 := List.mem_of_getElem? hk
  have h1 : w ∈ tables_1 := List.mem_append_left _ h
  exact kg_of (List.mem_append_right _ h1) hg
theorem kg_i2 {w : Cond} (k : Nat) (hk : tables_1_2[k]? = some w) (hg : goodWord w = true) : w ∈ kg_G := by
  have h : w ∈ tables_1_2 := List.mem_of_getElem? hk
  have h1 : w ∈ tables_1 := List.mem_append_right _ (List.mem_append_left _ h)
  exact kg_of (List.mem_append_right _ h1) hg
theorem kg_i3 {w : Cond} (k : Nat) (hk : tables_1_3[k]? = some w) (hg : goodWord w = true) : w ∈ kg_G := by
  have h : w ∈ tables_1_3 := List.mem_of_getElem? hk
  have h1 : w ∈ tables_1 := List.mem_append_right _ (List.mem_append_right _ (List.mem_append_left _ h))
  exact kg_of (List.mem_append_right _ h1) hg
theorem kg_i4 {w : Cond} (k : Nat) (hk : tables_1_4[k]? = some w) (hg : goodWord w = true) : w ∈ kg_G := by
  have h : w ∈ tables_1_4 := List.mem_of_getElem? hk
  have h1 : w ∈ tables_1 := List.mem_append_right _ (List.mem_append_right _ (List.mem_append_right _ (h)))
  exact kg_of (List.mem_append_right _ h1) hg
theorem kg_good {x : Cond} {y : MethodName} {b : ByteArray} {n : Nat} {r : Option FieldType} (h : Cond.code y b n r ∈ kg_G) : GoodIn (x :: kg_G) (Cond.code y b n r :: kg_G) := fun w hw => by
  have h1 : w ∈ kg_G := by
    rcases List.mem_cons.mp hw with rfl | h1
    · exact h
    · exact h1
  exact ⟨List.mem_cons_of_mem _ h1, good_of_word (List.mem_filter.mp h1).2⟩
def R_M : String := "LaneMachine"
def R_B : String := "LaneMachine$Bytes"
def R_I : String := "LaneMachine$Instruction"
def R_S : String := "LaneMachine$Setting"
def R_K : String := "LaneMachine$Work"
def R_R : String := "LaneMachineModel"
def R_L : String := "LaneMachineLaw"
def R_JM : String := "java/lang/Math"
def R_JO : String := "java/lang/Object"
def R_JT : String := "java/lang/Throwable"
def R_JE : String := "java/lang/Exception"
def R_JR : String := "java/lang/RuntimeException"
def R_JA : String := "java/lang/IllegalArgumentException"
def R_JS : String := "java/lang/IllegalStateException"
def y_B_bareNumber : MethodName := ⟨"LaneMachine$Bytes", "bareNumber", "(II)I"⟩
def y_B_init : MethodName := ⟨"LaneMachine$Bytes", "<init>", "(I)V"⟩
def y_B_number : MethodName := ⟨"LaneMachine$Bytes", "number", "(II)I"⟩
def y_B_write : MethodName := ⟨"LaneMachine$Bytes", "write", "(III)V"⟩
def y_I_hasGroupAtA : MethodName := ⟨"LaneMachine$Instruction", "hasGroupAtA", "()Z"⟩
def y_I_hasGroupAtB : MethodName := ⟨"LaneMachine$Instruction", "hasGroupAtB", "()Z"⟩
def y_I_hasGroupAtD : MethodName := ⟨"LaneMachine$Instruction", "hasGroupAtD", "()Z"⟩
def y_I_init : MethodName := ⟨"LaneMachine$Instruction", "<init>", "(IIIIIZ)V"⟩
def y_I_isVector : MethodName := ⟨"LaneMachine$Instruction", "isVector", "()Z"⟩
def y_I_needsEmptyQueue : MethodName := ⟨"LaneMachine$Instruction", "needsEmptyQueue", "()Z"⟩
def y_I_unit : MethodName := ⟨"LaneMachine$Instruction", "unit", "()I"⟩
def y_JA_init : MethodName := ⟨"java/lang/IllegalArgumentException", "<init>", "()V"⟩
def y_JE_init : MethodName := ⟨"java/lang/Exception", "<init>", "()V"⟩
def y_JE_initS : MethodName := ⟨"java/lang/Exception", "<init>", "(Ljava/lang/String;)V"⟩
def y_JM_max : MethodName := ⟨"java/lang/Math", "max", "(II)I"⟩
def y_JM_min : MethodName := ⟨"java/lang/Math", "min", "(II)I"⟩
def y_JO_init : MethodName := ⟨"java/lang/Object", "<init>", "()V"⟩
def y_JR_init : MethodName := ⟨"java/lang/RuntimeException", "<init>", "()V"⟩
def y_JR_initS : MethodName := ⟨"java/lang/RuntimeException", "<init>", "(Ljava/lang/String;)V"⟩
def y_JS_init : MethodName := ⟨"java/lang/IllegalStateException", "<init>", "()V"⟩
def y_JT_fill0 : MethodName := ⟨"java/lang/Throwable", "fillInStackTrace", "()Ljava/lang/Throwable;"⟩
def y_JT_fill1 : MethodName := ⟨"java/lang/Throwable", "fillInStackTrace", "(I)Ljava/lang/Throwable;"⟩
def y_JT_init : MethodName := ⟨"java/lang/Throwable", "<init>", "()V"⟩
def y_JT_initS : MethodName := ⟨"java/lang/Throwable", "<init>", "(Ljava/lang/String;)V"⟩
def y_K_doNextStep : MethodName := ⟨"LaneMachine$Work", "doNextStep", "()V"⟩
def y_K_element : MethodName := ⟨"LaneMachine$Work", "element", "(II)I"⟩
def y_K_elementOrZero : MethodName := ⟨"LaneMachine$Work", "elementOrZero", "(II)I"⟩
def y_K_firstBad : MethodName := ⟨"LaneMachine$Work", "firstBad", "(I)I"⟩
def y_K_foresee : MethodName := ⟨"LaneMachine$Work", "foresee", "()V"⟩
def y_K_init : MethodName := ⟨"LaneMachine$Work", "<init>", "(LLaneMachine$Bytes;LLaneMachine$Bytes;LLaneMachine$Instruction;)V"⟩
def y_K_isDone : MethodName := ⟨"LaneMachine$Work", "isDone", "()Z"⟩
def y_K_isInGroup : MethodName := ⟨"LaneMachine$Work", "isInGroup", "(I)Z"⟩
def y_K_isNextStepFree : MethodName := ⟨"LaneMachine$Work", "isNextStepFree", "(JJ)Z"⟩
def y_K_isWorkedOn : MethodName := ⟨"LaneMachine$Work", "isWorkedOn", "(I)Z"⟩
def y_K_maskByte : MethodName := ⟨"LaneMachine$Work", "maskByte", "(I)J"⟩
def y_K_placeInMemory : MethodName := ⟨"LaneMachine$Work", "placeInMemory", "(I)I"⟩
def y_K_placeOf : MethodName := ⟨"LaneMachine$Work", "placeOf", "(II)I"⟩
def y_K_readsFromStep : MethodName := ⟨"LaneMachine$Work", "readsFromStep", "(I)J"⟩
def y_K_readsOf : MethodName := ⟨"LaneMachine$Work", "readsOf", "(I)J"⟩
def y_K_readsOfSum : MethodName := ⟨"LaneMachine$Work", "readsOfSum", "()J"⟩
def y_K_result : MethodName := ⟨"LaneMachine$Work", "result", "(I)I"⟩
def y_K_sourcesOf : MethodName := ⟨"LaneMachine$Work", "sourcesOf", "(I)J"⟩
def y_K_span : MethodName := ⟨"LaneMachine$Work", "span", "(II)J"⟩
def y_K_steps : MethodName := ⟨"LaneMachine$Work", "steps", "()I"⟩
def y_K_take : MethodName := ⟨"LaneMachine$Work", "take", "(LLaneMachine$Instruction;ILLaneMachine$Setting;II)V"⟩
def y_K_writeMaskBit : MethodName := ⟨"LaneMachine$Work", "writeMaskBit", "(IZ)V"⟩
def y_K_writeSum : MethodName := ⟨"LaneMachine$Work", "writeSum", "()V"⟩
def y_K_writesFromStep : MethodName := ⟨"LaneMachine$Work", "writesFromStep", "(I)J"⟩
def y_K_writesOf : MethodName := ⟨"LaneMachine$Work", "writesOf", "(I)J"⟩
def y_L_cell : MethodName := ⟨"LaneMachineLaw", "cell", "([II)I"⟩
def y_L_cycles : MethodName := ⟨"LaneMachineLaw", "cycles", "(LLaneMachine;I[J)I"⟩
def y_L_go : MethodName := ⟨"LaneMachineLaw", "go", "(LLaneMachine;I[J)I"⟩
def y_L_limit : MethodName := ⟨"LaneMachineLaw", "limit", "(LLaneMachine;I[J)I"⟩
def y_L_poke : MethodName := ⟨"LaneMachineLaw", "poke", "(LLaneMachine;II[J)I"⟩
def y_L_put : MethodName := ⟨"LaneMachineLaw", "put", "(LLaneMachine;IIIIIZ[J)I"⟩
def y_L_resume : MethodName := ⟨"LaneMachineLaw", "resume", "(LLaneMachine;[J)I"⟩
def y_M_about : MethodName := ⟨"LaneMachine", "about", "(I)I"⟩
def y_M_advance : MethodName := ⟨"LaneMachine", "advance", "()V"⟩
def y_M_cycles : MethodName := ⟨"LaneMachine", "cycles", "(I)I"⟩
def y_M_doScalar : MethodName := ⟨"LaneMachine", "doScalar", "(LLaneMachine$Instruction;)V"⟩
def y_M_dropFinished : MethodName := ⟨"LaneMachine", "dropFinished", "()V"⟩
def y_M_file : MethodName := ⟨"LaneMachine", "file", "(I)I"⟩
def y_M_go : MethodName := ⟨"LaneMachine", "go", "(I)I"⟩
def y_M_handOut : MethodName := ⟨"LaneMachine", "handOut", "(LLaneMachine$Instruction;LLaneMachine$Work;)V"⟩
def y_M_init : MethodName := ⟨"LaneMachine", "<init>", "(I)V"⟩
def y_M_isRegister : MethodName := ⟨"LaneMachine", "isRegister", "(I)Z"⟩
def y_M_limit : MethodName := ⟨"LaneMachine", "limit", "(I)Z"⟩
def y_M_memory : MethodName := ⟨"LaneMachine", "memory", "(I)I"⟩
def y_M_mustWaitForQueue : MethodName := ⟨"LaneMachine", "mustWaitForQueue", "(LLaneMachine$Instruction;)Z"⟩
def y_M_noteStepsDone : MethodName := ⟨"LaneMachine", "noteStepsDone", "()V"⟩
def y_M_poke : MethodName := ⟨"LaneMachine", "poke", "(II)Z"⟩
def y_M_put : MethodName := ⟨"LaneMachine", "put", "(IIIIIZ)I"⟩
def y_M_queue : MethodName := ⟨"LaneMachine", "queue", "(II)I"⟩
def y_M_resume : MethodName := ⟨"LaneMachine", "resume", "()I"⟩
def y_M_scalar : MethodName := ⟨"LaneMachine", "scalar", "(I)I"⟩
def y_M_setScalar : MethodName := ⟨"LaneMachine", "setScalar", "(II)V"⟩
def y_M_workUnit : MethodName := ⟨"LaneMachine", "workUnit", "(I)V"⟩
def y_R_about : MethodName := ⟨"LaneMachineModel", "about", "(I)I"⟩
def y_R_bad : MethodName := ⟨"LaneMachineModel", "bad", "(I)I"⟩
def y_R_bit : MethodName := ⟨"LaneMachineModel", "bit", "(II)Z"⟩
def y_R_bytes : MethodName := ⟨"LaneMachineModel", "bytes", "(II)J"⟩
def y_R_configures : MethodName := ⟨"LaneMachineModel", "configures", "(I)V"⟩
def y_R_cycles : MethodName := ⟨"LaneMachineModel", "cycles", "(I)I"⟩
def y_R_does : MethodName := ⟨"LaneMachineModel", "does", "(II)V"⟩
def y_R_element : MethodName := ⟨"LaneMachineModel", "element", "(III)I"⟩
def y_R_file : MethodName := ⟨"LaneMachineModel", "file", "(I)I"⟩
def y_R_free : MethodName := ⟨"LaneMachineModel", "free", "(II)Z"⟩
def y_R_go : MethodName := ⟨"LaneMachineModel", "go", "(I)I"⟩
def y_R_goesOn : MethodName := ⟨"LaneMachineModel", "goesOn", "()V"⟩
def y_R_handsOut : MethodName := ⟨"LaneMachineModel", "handsOut", "(I)V"⟩
def y_R_held : MethodName := ⟨"LaneMachineModel", "held", "(I)Z"⟩
def y_R_illegal : MethodName := ⟨"LaneMachineModel", "illegal", "(I)Z"⟩
def y_R_init : MethodName := ⟨"LaneMachineModel", "<init>", "(I)V"⟩
def y_R_isRegister : MethodName := ⟨"LaneMachineModel", "isRegister", "(I)Z"⟩
def y_R_leaves : MethodName := ⟨"LaneMachineModel", "leaves", "()V"⟩
def y_R_limit : MethodName := ⟨"LaneMachineModel", "limit", "(I)Z"⟩
def y_R_memory : MethodName := ⟨"LaneMachineModel", "memory", "(I)I"⟩
def y_R_moves : MethodName := ⟨"LaneMachineModel", "moves", "(II)V"⟩
def y_R_odd : MethodName := ⟨"LaneMachineModel", "odd", "(II)Z"⟩
def y_R_pairs : MethodName := ⟨"LaneMachineModel", "pairs", "(II)I"⟩
def y_R_picks : MethodName := ⟨"LaneMachineModel", "picks", "(II)I"⟩
def y_R_place : MethodName := ⟨"LaneMachineModel", "place", "(II)I"⟩
def y_R_plain : MethodName := ⟨"LaneMachineModel", "plain", "(II)J"⟩
def y_R_poke : MethodName := ⟨"LaneMachineModel", "poke", "(II)Z"⟩
def y_R_put : MethodName := ⟨"LaneMachineModel", "put", "(IIIIIZ)I"⟩
def y_R_queue : MethodName := ⟨"LaneMachineModel", "queue", "(II)I"⟩
def y_R_reads : MethodName := ⟨"LaneMachineModel", "reads", "(II)J"⟩
def y_R_resume : MethodName := ⟨"LaneMachineModel", "resume", "()I"⟩
def y_R_scalar : MethodName := ⟨"LaneMachineModel", "scalar", "(I)I"⟩
def y_R_scalarDone : MethodName := ⟨"LaneMachineModel", "scalarDone", "(I)Z"⟩
def y_R_set : MethodName := ⟨"LaneMachineModel", "set", "(IIII)V"⟩
def y_R_setX : MethodName := ⟨"LaneMachineModel", "setX", "(II)V"⟩
def y_R_signed : MethodName := ⟨"LaneMachineModel", "signed", "(JI)I"⟩
def y_R_sums : MethodName := ⟨"LaneMachineModel", "sums", "(I)V"⟩
def y_R_thrown : MethodName := ⟨"LaneMachineModel", "thrown", "()I"⟩
def y_R_unit : MethodName := ⟨"LaneMachineModel", "unit", "(I)I"⟩
def y_R_units : MethodName := ⟨"LaneMachineModel", "units", "()V"⟩
def y_R_vlOf : MethodName := ⟨"LaneMachineModel", "vlOf", "(I)I"⟩
def y_R_writes : MethodName := ⟨"LaneMachineModel", "writes", "(II)J"⟩
def y_S_configure : MethodName := ⟨"LaneMachine$Setting", "configure", "(II)V"⟩
def y_S_forbids : MethodName := ⟨"LaneMachine$Setting", "forbids", "(LLaneMachine$Instruction;)Z"⟩
def y_S_group : MethodName := ⟨"LaneMachine$Setting", "group", "()I"⟩
def y_S_init : MethodName := ⟨"LaneMachine$Setting", "<init>", "()V"⟩
def y_S_isCode : MethodName := ⟨"LaneMachine$Setting", "isCode", "(I)Z"⟩
def y_S_isInWideGroup : MethodName := ⟨"LaneMachine$Setting", "isInWideGroup", "(II)Z"⟩
def y_S_isMisplaced : MethodName := ⟨"LaneMachine$Setting", "isMisplaced", "(LLaneMachine$Instruction;)Z"⟩
def y_S_isMultiple : MethodName := ⟨"LaneMachine$Setting", "isMultiple", "(II)Z"⟩
def y_S_isTooWide : MethodName := ⟨"LaneMachine$Setting", "isTooWide", "(LLaneMachine$Instruction;)Z"⟩
def y_S_most : MethodName := ⟨"LaneMachine$Setting", "most", "()I"⟩
def y_S_spoilsMask : MethodName := ⟨"LaneMachine$Setting", "spoilsMask", "(LLaneMachine$Instruction;)Z"⟩
def y_S_spoilsSources : MethodName := ⟨"LaneMachine$Setting", "spoilsSources", "(LLaneMachine$Instruction;)Z"⟩
def y_S_width : MethodName := ⟨"LaneMachine$Setting", "width", "()I"⟩
def y_L_law : MethodName := ⟨"LaneMachineLaw", "law", "([I)Z"⟩
def F_B : u_T := fun k => match k with
  | _ => ("LaneMachine$Bytes", "row", "[B", true)
def t_B : Nat → FieldType := fun k => match k with
  | _ => (.array .byte)
theorem nm_B : ∀ a, a < 1 → ∀ b, b < 1 → a ≠ b → (F_B a).2.1 ≠ (F_B b).2.1 := by decide +kernel
theorem ty_B : ∀ k, k < 1 → parseFieldDescriptor (F_B k).2.2.1 = some (t_B k) := by decide +kernel
def F_I : u_T := fun k => match k with
  | 0 => ("LaneMachine$Instruction", "op", "I", true)
  | 1 => ("LaneMachine$Instruction", "d", "I", true)
  | 2 => ("LaneMachine$Instruction", "a", "I", true)
  | 3 => ("LaneMachine$Instruction", "b", "I", true)
  | 4 => ("LaneMachine$Instruction", "n", "I", true)
  | _ => ("LaneMachine$Instruction", "masked", "Z", true)
def t_I : Nat → FieldType := fun k => match k with
  | 0 => .int
  | 1 => .int
  | 2 => .int
  | 3 => .int
  | 4 => .int
  | _ => .boolean
theorem nm_I : ∀ a, a < 6 → ∀ b, b < 6 → a ≠ b → (F_I a).2.1 ≠ (F_I b).2.1 := by decide +kernel
theorem ty_I : ∀ k, k < 6 → parseFieldDescriptor (F_I k).2.2.1 = some (t_I k) := by decide +kernel
def F_S : u_T := fun k => match k with
  | 0 => ("LaneMachine$Setting", "widthPower", "I", false)
  | 1 => ("LaneMachine$Setting", "groupPower", "I", false)
  | 2 => ("LaneMachine$Setting", "length", "I", false)
  | _ => ("LaneMachine$Setting", "start", "I", false)
def t_S : Nat → FieldType := fun k => match k with
  | 0 => .int
  | 1 => .int
  | 2 => .int
  | _ => .int
theorem nm_S : ∀ a, a < 4 → ∀ b, b < 4 → a ≠ b → (F_S a).2.1 ≠ (F_S b).2.1 := by decide +kernel
theorem ty_S : ∀ k, k < 4 → parseFieldDescriptor (F_S k).2.2.1 = some (t_S k) := by decide +kernel
def F_K : u_T := fun k => match k with
  | 0 => ("LaneMachine$Work", "registers", "LLaneMachine$Bytes;", true)
  | 1 => ("LaneMachine$Work", "cells", "LLaneMachine$Bytes;", true)
  | 2 => ("LaneMachine$Work", "readsFrom", "[J", true)
  | 3 => ("LaneMachine$Work", "writesFrom", "[J", true)
  | 4 => ("LaneMachine$Work", "width", "I", false)
  | 5 => ("LaneMachine$Work", "group", "I", false)
  | 6 => ("LaneMachine$Work", "most", "I", false)
  | 7 => ("LaneMachine$Work", "xa", "I", false)
  | 8 => ("LaneMachine$Work", "xb", "I", false)
  | 9 => ("LaneMachine$Work", "from", "I", false)
  | 10 => ("LaneMachine$Work", "what", "LLaneMachine$Instruction;", false)
  | 11 => ("LaneMachine$Work", "number", "I", false)
  | 12 => ("LaneMachine$Work", "to", "I", false)
  | 13 => ("LaneMachine$Work", "done", "I", false)
  | _ => ("LaneMachine$Work", "doneBefore", "I", false)
def t_K : Nat → FieldType := fun k => match k with
  | 0 => (.object "LaneMachine$Bytes")
  | 1 => (.object "LaneMachine$Bytes")
  | 2 => (.array .long)
  | 3 => (.array .long)
  | 4 => .int
  | 5 => .int
  | 6 => .int
  | 7 => .int
  | 8 => .int
  | 9 => .int
  | 10 => (.object "LaneMachine$Instruction")
  | 11 => .int
  | 12 => .int
  | 13 => .int
  | _ => .int
theorem nm_K : ∀ a, a < 15 → ∀ b, b < 15 → a ≠ b → (F_K a).2.1 ≠ (F_K b).2.1 := by decide +kernel
theorem ty_K : ∀ k, k < 15 → parseFieldDescriptor (F_K k).2.2.1 = some (t_K k) := by decide +kernel
def F_M : u_T := fun k => match k with
  | 0 => ("LaneMachine", "lanes", "I", true)
  | 1 => ("LaneMachine", "x", "[I", true)
  | 2 => ("LaneMachine", "registers", "LLaneMachine$Bytes;", true)
  | 3 => ("LaneMachine", "cells", "LLaneMachine$Bytes;", true)
  | 4 => ("LaneMachine", "setting", "LLaneMachine$Setting;", true)
  | 5 => ("LaneMachine", "program", "[LLaneMachine$Instruction;", true)
  | 6 => ("LaneMachine", "works", "[LLaneMachine$Work;", true)
  | 7 => ("LaneMachine", "programSize", "I", false)
  | 8 => ("LaneMachine", "queued", "I", false)
  | 9 => ("LaneMachine", "state", "I", false)
  | 10 => ("LaneMachine", "next", "I", false)
  | 11 => ("LaneMachine", "bound", "I", false)
  | 12 => ("LaneMachine", "cyclesDone", "I", false)
  | _ => ("LaneMachine", "stepsDone", "I", false)
def t_M : Nat → FieldType := fun k => match k with
  | 0 => .int
  | 1 => (.array .int)
  | 2 => (.object "LaneMachine$Bytes")
  | 3 => (.object "LaneMachine$Bytes")
  | 4 => (.object "LaneMachine$Setting")
  | 5 => (.array (.object "LaneMachine$Instruction"))
  | 6 => (.array (.object "LaneMachine$Work"))
  | 7 => .int
  | 8 => .int
  | 9 => .int
  | 10 => .int
  | 11 => .int
  | 12 => .int
  | _ => .int
theorem nm_M : ∀ a, a < 14 → ∀ b, b < 14 → a ≠ b → (F_M a).2.1 ≠ (F_M b).2.1 := by decide +kernel
theorem ty_M : ∀ k, k < 14 → parseFieldDescriptor (F_M k).2.2.1 = some (t_M k) := by decide +kernel
def F_R : u_T := fun k => match k with
  | 0 => ("LaneMachineModel", "lanes", "I", true)
  | 1 => ("LaneMachineModel", "threw", "I", false)
  | 2 => ("LaneMachineModel", "state", "I", false)
  | 3 => ("LaneMachineModel", "next", "I", false)
  | 4 => ("LaneMachineModel", "width", "I", false)
  | 5 => ("LaneMachineModel", "group", "I", false)
  | 6 => ("LaneMachineModel", "vl", "I", false)
  | 7 => ("LaneMachineModel", "start", "I", false)
  | 8 => ("LaneMachineModel", "bound", "I", false)
  | 9 => ("LaneMachineModel", "cycles", "I", false)
  | 10 => ("LaneMachineModel", "stepsDone", "I", false)
  | 11 => ("LaneMachineModel", "x", "[I", true)
  | 12 => ("LaneMachineModel", "file", "[I", true)
  | 13 => ("LaneMachineModel", "memory", "[I", true)
  | 14 => ("LaneMachineModel", "many", "I", false)
  | 15 => ("LaneMachineModel", "op", "[I", true)
  | 16 => ("LaneMachineModel", "d", "[I", true)
  | 17 => ("LaneMachineModel", "a", "[I", true)
  | 18 => ("LaneMachineModel", "b", "[I", true)
  | 19 => ("LaneMachineModel", "n", "[I", true)
  | 20 => ("LaneMachineModel", "masked", "[Z", true)
  | 21 => ("LaneMachineModel", "queued", "I", false)
  | 22 => ("LaneMachineModel", "which", "[I", true)
  | 23 => ("LaneMachineModel", "wide", "[I", true)
  | 24 => ("LaneMachineModel", "regs", "[I", true)
  | 25 => ("LaneMachineModel", "from", "[I", true)
  | 26 => ("LaneMachineModel", "steps", "[I", true)
  | 27 => ("LaneMachineModel", "done", "[I", true)
  | 28 => ("LaneMachineModel", "before", "[I", true)
  | 29 => ("LaneMachineModel", "xa", "[I", true)
  | _ => ("LaneMachineModel", "xb", "[I", true)
def t_R : Nat → FieldType := fun k => match k with
  | 0 => .int
  | 1 => .int
  | 2 => .int
  | 3 => .int
  | 4 => .int
  | 5 => .int
  | 6 => .int
  | 7 => .int
  | 8 => .int
  | 9 => .int
  | 10 => .int
  | 11 => (.array .int)
  | 12 => (.array .int)
  | 13 => (.array .int)
  | 14 => .int
  | 15 => (.array .int)
  | 16 => (.array .int)
  | 17 => (.array .int)
  | 18 => (.array .int)
  | 19 => (.array .int)
  | 20 => (.array .boolean)
  | 21 => .int
  | 22 => (.array .int)
  | 23 => (.array .int)
  | 24 => (.array .int)
  | 25 => (.array .int)
  | 26 => (.array .int)
  | 27 => (.array .int)
  | 28 => (.array .int)
  | 29 => (.array .int)
  | _ => (.array .int)
theorem nm_R : ∀ a, a < 31 → ∀ b, b < 31 → a ≠ b → (F_R a).2.1 ≠ (F_R b).2.1 := by decide +kernel
theorem ty_R : ∀ k, k < 31 → parseFieldDescriptor (F_R k).2.2.1 = some (t_R k) := by decide +kernel
abbrev kc : List vw_C := [(R_B, F_B, 1), (R_I, F_I, 6), (R_S, F_S, 4), (R_K, F_K, 15), (R_M, F_M, 14), (R_R, F_R, 31)]
theorem kg_0 : Cond.initialized "LaneMachineLaw" ∈ kg_G := kg_i1 0 rfl rfl
theorem kg_1 : Cond.initialized "LaneMachine" ∈ kg_G := kg_i1 1 rfl rfl
theorem kg_2 : Cond.initialized "java/lang/Math" ∈ kg_G := kg_i1 2 rfl rfl
theorem kg_3 : Cond.initialized "LaneMachine$Bytes" ∈ kg_G := kg_i1 3 rfl rfl
theorem kg_4 : Cond.initialized "LaneMachine$Setting" ∈ kg_G := kg_i1 4 rfl rfl
theorem kg_5 : Cond.initialized "LaneMachine$Instruction" ∈ kg_G := kg_i1 5 rfl rfl
theorem kg_6 : Cond.initialized "LaneMachine$Work" ∈ kg_G := kg_i1 6 rfl rfl
theorem kg_7 : Cond.initialized "LaneMachineModel" ∈ kg_G := kg_i1 7 rfl rfl
theorem kg_8 : Cond.initialized "java/lang/Throwable" ∈ kg_G := kg_i1 8 rfl rfl
theorem kg_9 : Cond.initialized "java/lang/Exception" ∈ kg_G := kg_i1 9 rfl rfl
theorem kg_10 : Cond.initialized "java/lang/RuntimeException" ∈ kg_G := kg_i1 10 rfl rfl
theorem kg_11 : Cond.initialized "java/lang/IllegalArgumentException" ∈ kg_G := kg_i1 11 rfl rfl
theorem kg_12 : Cond.initialized "java/lang/IllegalStateException" ∈ kg_G := kg_i1 12 rfl rfl
theorem kg_13 : Cond.classLink "LaneMachineLaw" 8 "LaneMachine" ∈ kg_G := kg_i1 13 rfl rfl
theorem kg_14 : Cond.instantiable "LaneMachine" 14 ∈ kg_G := kg_i1 14 rfl rfl
theorem kg_15 : Cond.methodLink "LaneMachineLaw" 42 y_M_init ∈ kg_G := kg_i1 15 rfl rfl
theorem kg_16 : Cond.instanceMethod y_M_init ∈ kg_G := kg_i1 16 rfl rfl
theorem kg_17 : Cond.code y_M_init prog_1_method_1_code 4 none ∈ kg_G := kg_i1 17 rfl rfl
theorem kg_18 : Cond.methodLink "LaneMachine" 1 y_JO_init ∈ kg_G := kg_i1 18 rfl rfl
theorem kg_19 : Cond.instanceMethod y_JO_init ∈ kg_G := kg_i1 19 rfl rfl
theorem kg_20 : Cond.code y_JO_init object_method_1_code 1 none ∈ kg_G := kg_i1 20 rfl rfl
theorem kg_21 : Cond.methodLink "LaneMachine" 9 y_JM_min ∈ kg_G := kg_i1 21 rfl rfl
theorem kg_22 : Cond.static y_JM_min ∈ kg_G := kg_i1 22 rfl rfl
theorem kg_23 : Cond.code y_JM_min prog_11_method_69_code 2 (some .int) ∈ kg_G := kg_i1 23 rfl rfl
theorem kg_24 : Cond.methodLink "LaneMachine" 15 y_JM_max ∈ kg_G := kg_i1 24 rfl rfl
theorem kg_25 : Cond.static y_JM_max ∈ kg_G := kg_i1 25 rfl rfl
theorem kg_26 : Cond.code y_JM_max prog_11_method_65_code 2 (some .int) ∈ kg_G := kg_i1 26 rfl rfl
theorem kg_27 : Cond.classLink "LaneMachine" 26 "LaneMachine$Bytes" ∈ kg_G := kg_i1 27 rfl rfl
theorem kg_28 : Cond.instantiable "LaneMachine$Bytes" 1 ∈ kg_G := kg_i1 28 rfl rfl
theorem kg_29 : Cond.methodLink "LaneMachine" 28 y_B_init ∈ kg_G := kg_i1 29 rfl rfl
theorem kg_30 : Cond.instanceMethod y_B_init ∈ kg_G := kg_i1 30 rfl rfl
theorem kg_31 : Cond.code y_B_init prog_2_method_1_code 2 none ∈ kg_G := kg_i1 31 rfl rfl
theorem kg_32 : Cond.methodLink "LaneMachine$Bytes" 1 y_JO_init ∈ kg_G := kg_i1 32 rfl rfl
theorem kg_33 : Cond.fieldLink "LaneMachine$Bytes" 7 "LaneMachine$Bytes" "row" "[B" ∈ kg_G := kg_i1 33 rfl rfl
theorem kg_34 : Cond.laysFinal "LaneMachine$Bytes" "LaneMachine$Bytes" "row" "[B" ∈ kg_G := kg_i1 34 rfl rfl
theorem kg_37 : Cond.arrayClass .int ∈ kg_G := kg_i1 37 rfl rfl
theorem kg_38 : Cond.arrayClass .byte ∈ kg_G := kg_i1 38 rfl rfl
theorem kg_39 : Cond.classLink "LaneMachine" 38 "LaneMachine$Setting" ∈ kg_G := kg_i1 39 rfl rfl
theorem kg_40 : Cond.instantiable "LaneMachine$Setting" 4 ∈ kg_G := kg_i1 40 rfl rfl
theorem kg_42 : Cond.instanceMethod y_S_init ∈ kg_G := kg_i1 42 rfl rfl
theorem kg_43 : Cond.code y_S_init prog_4_method_1_code 1 none ∈ kg_G := kg_i1 43 rfl rfl
theorem kg_44 : Cond.methodLink "LaneMachine$Setting" 3 y_JO_init ∈ kg_G := kg_i1 44 rfl rfl
theorem kg_45 : Cond.fieldLink "LaneMachine$Setting" 9 "LaneMachine$Setting" "widthPower" "I" ∈ kg_G := kg_i1 45 rfl rfl
theorem kg_46 : Cond.fieldLink "LaneMachine$Setting" 15 "LaneMachine$Setting" "groupPower" "I" ∈ kg_G := kg_i1 46 rfl rfl
theorem kg_47 : Cond.fieldLink "LaneMachine$Work" 63 "LaneMachine$Setting" "length" "I" ∈ kg_G := kg_i1 47 rfl rfl
theorem kg_48 : Cond.fieldLink "LaneMachine$Setting" 31 "LaneMachine$Setting" "length" "I" ∈ kg_G := kg_i1 48 rfl rfl
theorem kg_49 : Cond.fieldLink "LaneMachine" 123 "LaneMachine$Setting" "length" "I" ∈ kg_G := kg_i1 49 rfl rfl
theorem kg_50 : Cond.fieldLink "LaneMachine$Work" 57 "LaneMachine$Setting" "start" "I" ∈ kg_G := kg_i1 50 rfl rfl
theorem kg_51 : Cond.fieldLink "LaneMachine" 91 "LaneMachine$Setting" "start" "I" ∈ kg_G := kg_i1 51 rfl rfl
theorem kg_52 : Cond.fieldLink "LaneMachine$Setting" 34 "LaneMachine$Setting" "start" "I" ∈ kg_G := kg_i1 52 rfl rfl
theorem kg_53 : Cond.lays "LaneMachine$Setting" "LaneMachine$Setting" "widthPower" "I" ∈ kg_G := kg_i1 53 rfl rfl
theorem kg_55 : Cond.lays "LaneMachine$Setting" "LaneMachine$Setting" "groupPower" "I" ∈ kg_G := kg_i1 55 rfl rfl
theorem kg_57 : Cond.lays "LaneMachine$Setting" "LaneMachine$Setting" "length" "I" ∈ kg_G := kg_i1 57 rfl rfl
theorem kg_59 : Cond.lays "LaneMachine$Setting" "LaneMachine$Setting" "start" "I" ∈ kg_G := kg_i1 59 rfl rfl
theorem kg_62 : Cond.classLink "LaneMachine" 45 "LaneMachine$Instruction" ∈ kg_G := kg_i1 62 rfl rfl
theorem kg_64 : Cond.classLink "LaneMachine" 51 "LaneMachine$Work" ∈ kg_G := kg_i1 64 rfl rfl
theorem kg_66 : Cond.instantiable "LaneMachine$Instruction" 6 ∈ kg_G := kg_i1 66 rfl rfl
theorem kg_67 : Cond.methodLink "LaneMachine" 57 y_I_init ∈ kg_G := kg_i1 67 rfl rfl
theorem kg_68 : Cond.instanceMethod y_I_init ∈ kg_G := kg_i1 68 rfl rfl
theorem kg_69 : Cond.code y_I_init prog_3_method_1_code 7 none ∈ kg_G := kg_i1 69 rfl rfl
theorem kg_70 : Cond.methodLink "LaneMachine$Instruction" 3 y_JO_init ∈ kg_G := kg_i1 70 rfl rfl
theorem kg_71 : Cond.fieldLink "LaneMachine$Instruction" 9 "LaneMachine$Instruction" "op" "I" ∈ kg_G := kg_i1 71 rfl rfl
theorem kg_72 : Cond.fieldLink "LaneMachine$Work" 78 "LaneMachine$Instruction" "op" "I" ∈ kg_G := kg_i1 72 rfl rfl
theorem kg_73 : Cond.fieldLink "LaneMachine$Setting" 56 "LaneMachine$Instruction" "op" "I" ∈ kg_G := kg_i1 73 rfl rfl
theorem kg_74 : Cond.fieldLink "LaneMachine" 186 "LaneMachine$Instruction" "op" "I" ∈ kg_G := kg_i1 74 rfl rfl
theorem kg_75 : Cond.fieldLink "LaneMachine$Instruction" 15 "LaneMachine$Instruction" "d" "I" ∈ kg_G := kg_i1 75 rfl rfl
theorem kg_76 : Cond.fieldLink "LaneMachine$Setting" 65 "LaneMachine$Instruction" "d" "I" ∈ kg_G := kg_i1 76 rfl rfl
theorem kg_77 : Cond.fieldLink "LaneMachine$Work" 123 "LaneMachine$Instruction" "d" "I" ∈ kg_G := kg_i1 77 rfl rfl
theorem kg_78 : Cond.fieldLink "LaneMachine" 189 "LaneMachine$Instruction" "d" "I" ∈ kg_G := kg_i1 78 rfl rfl
theorem kg_79 : Cond.fieldLink "LaneMachine$Instruction" 18 "LaneMachine$Instruction" "a" "I" ∈ kg_G := kg_i1 79 rfl rfl
theorem kg_80 : Cond.fieldLink "LaneMachine$Setting" 75 "LaneMachine$Instruction" "a" "I" ∈ kg_G := kg_i1 80 rfl rfl
theorem kg_81 : Cond.fieldLink "LaneMachine$Work" 106 "LaneMachine$Instruction" "a" "I" ∈ kg_G := kg_i1 81 rfl rfl
theorem kg_82 : Cond.fieldLink "LaneMachine" 199 "LaneMachine$Instruction" "a" "I" ∈ kg_G := kg_i1 82 rfl rfl
theorem kg_83 : Cond.fieldLink "LaneMachine$Instruction" 21 "LaneMachine$Instruction" "b" "I" ∈ kg_G := kg_i1 83 rfl rfl
theorem kg_84 : Cond.fieldLink "LaneMachine$Setting" 81 "LaneMachine$Instruction" "b" "I" ∈ kg_G := kg_i1 84 rfl rfl
theorem kg_85 : Cond.fieldLink "LaneMachine$Work" 120 "LaneMachine$Instruction" "b" "I" ∈ kg_G := kg_i1 85 rfl rfl
theorem kg_86 : Cond.fieldLink "LaneMachine" 206 "LaneMachine$Instruction" "b" "I" ∈ kg_G := kg_i1 86 rfl rfl
theorem kg_87 : Cond.fieldLink "LaneMachine$Instruction" 24 "LaneMachine$Instruction" "n" "I" ∈ kg_G := kg_i1 87 rfl rfl
theorem kg_88 : Cond.fieldLink "LaneMachine" 192 "LaneMachine$Instruction" "n" "I" ∈ kg_G := kg_i1 88 rfl rfl
theorem kg_89 : Cond.fieldLink "LaneMachine$Instruction" 27 "LaneMachine$Instruction" "masked" "Z" ∈ kg_G := kg_i1 89 rfl rfl
theorem kg_90 : Cond.fieldLink "LaneMachine$Setting" 84 "LaneMachine$Instruction" "masked" "Z" ∈ kg_G := kg_i1 90 rfl rfl
theorem kg_91 : Cond.fieldLink "LaneMachine$Work" 126 "LaneMachine$Instruction" "masked" "Z" ∈ kg_G := kg_i1 91 rfl rfl
theorem kg_92 : Cond.fieldLink "LaneMachine" 212 "LaneMachine$Instruction" "masked" "Z" ∈ kg_G := kg_i1 92 rfl rfl
theorem kg_93 : Cond.laysFinal "LaneMachine$Instruction" "LaneMachine$Instruction" "op" "I" ∈ kg_G := kg_i1 93 rfl rfl
theorem kg_95 : Cond.laysFinal "LaneMachine$Instruction" "LaneMachine$Instruction" "d" "I" ∈ kg_G := kg_i1 95 rfl rfl
theorem kg_97 : Cond.laysFinal "LaneMachine$Instruction" "LaneMachine$Instruction" "a" "I" ∈ kg_G := kg_i1 97 rfl rfl
theorem kg_99 : Cond.laysFinal "LaneMachine$Instruction" "LaneMachine$Instruction" "b" "I" ∈ kg_G := kg_i1 99 rfl rfl
theorem kg_101 : Cond.laysFinal "LaneMachine$Instruction" "LaneMachine$Instruction" "n" "I" ∈ kg_G := kg_i1 101 rfl rfl
theorem kg_103 : Cond.laysFinal "LaneMachine$Instruction" "LaneMachine$Instruction" "masked" "Z" ∈ kg_G := kg_i1 103 rfl rfl
theorem kg_106 : Cond.instantiable "LaneMachine$Work" 15 ∈ kg_G := kg_i1 106 rfl rfl
theorem kg_107 : Cond.methodLink "LaneMachine" 60 y_K_init ∈ kg_G := kg_i1 107 rfl rfl
theorem kg_108 : Cond.instanceMethod y_K_init ∈ kg_G := kg_i1 108 rfl rfl
theorem kg_109 : Cond.code y_K_init prog_5_method_1_code 4 none ∈ kg_G := kg_i1 109 rfl rfl
theorem kg_110 : Cond.methodLink "LaneMachine$Work" 3 y_JO_init ∈ kg_G := kg_i1 110 rfl rfl
theorem kg_111 : Cond.fieldLink "LaneMachine$Work" 9 "LaneMachine$Work" "registers" "LLaneMachine$Bytes;" ∈ kg_G := kg_i1 111 rfl rfl
theorem kg_112 : Cond.fieldLink "LaneMachine$Work" 15 "LaneMachine$Work" "cells" "LLaneMachine$Bytes;" ∈ kg_G := kg_i1 112 rfl rfl
theorem kg_113 : Cond.fieldLink "LaneMachine$Work" 18 "LaneMachine$Work" "readsFrom" "[J" ∈ kg_G := kg_i1 113 rfl rfl
theorem kg_114 : Cond.fieldLink "LaneMachine$Work" 22 "LaneMachine$Work" "writesFrom" "[J" ∈ kg_G := kg_i1 114 rfl rfl
theorem kg_115 : Cond.fieldLink "LaneMachine$Work" 45 "LaneMachine$Work" "width" "I" ∈ kg_G := kg_i1 115 rfl rfl
theorem kg_116 : Cond.fieldLink "LaneMachine$Work" 50 "LaneMachine$Work" "group" "I" ∈ kg_G := kg_i1 116 rfl rfl
theorem kg_117 : Cond.fieldLink "LaneMachine$Work" 55 "LaneMachine$Work" "most" "I" ∈ kg_G := kg_i1 117 rfl rfl
theorem kg_118 : Cond.fieldLink "LaneMachine$Work" 33 "LaneMachine$Work" "xa" "I" ∈ kg_G := kg_i1 118 rfl rfl
theorem kg_119 : Cond.fieldLink "LaneMachine$Work" 36 "LaneMachine$Work" "xb" "I" ∈ kg_G := kg_i1 119 rfl rfl
theorem kg_120 : Cond.fieldLink "LaneMachine$Work" 60 "LaneMachine$Work" "from" "I" ∈ kg_G := kg_i1 120 rfl rfl
theorem kg_121 : Cond.fieldLink "LaneMachine$Work" 25 "LaneMachine$Work" "what" "LLaneMachine$Instruction;" ∈ kg_G := kg_i1 121 rfl rfl
theorem kg_122 : Cond.fieldLink "LaneMachine" 140 "LaneMachine$Work" "what" "LLaneMachine$Instruction;" ∈ kg_G := kg_i1 122 rfl rfl
theorem kg_123 : Cond.fieldLink "LaneMachine$Work" 29 "LaneMachine$Work" "number" "I" ∈ kg_G := kg_i1 123 rfl rfl
theorem kg_124 : Cond.fieldLink "LaneMachine" 129 "LaneMachine$Work" "number" "I" ∈ kg_G := kg_i1 124 rfl rfl
theorem kg_125 : Cond.fieldLink "LaneMachine$Work" 66 "LaneMachine$Work" "to" "I" ∈ kg_G := kg_i1 125 rfl rfl
theorem kg_126 : Cond.fieldLink "LaneMachine" 227 "LaneMachine$Work" "to" "I" ∈ kg_G := kg_i1 126 rfl rfl
theorem kg_127 : Cond.fieldLink "LaneMachine$Work" 69 "LaneMachine$Work" "done" "I" ∈ kg_G := kg_i1 127 rfl rfl
theorem kg_128 : Cond.fieldLink "LaneMachine" 134 "LaneMachine$Work" "done" "I" ∈ kg_G := kg_i1 128 rfl rfl
theorem kg_129 : Cond.fieldLink "LaneMachine" 137 "LaneMachine$Work" "doneBefore" "I" ∈ kg_G := kg_i1 129 rfl rfl
theorem kg_130 : Cond.laysFinal "LaneMachine$Work" "LaneMachine$Work" "registers" "LLaneMachine$Bytes;" ∈ kg_G := kg_i1 130 rfl rfl
theorem kg_132 : Cond.laysFinal "LaneMachine$Work" "LaneMachine$Work" "cells" "LLaneMachine$Bytes;" ∈ kg_G := kg_i1 132 rfl rfl
theorem kg_134 : Cond.laysFinal "LaneMachine$Work" "LaneMachine$Work" "readsFrom" "[J" ∈ kg_G := kg_i1 134 rfl rfl
theorem kg_136 : Cond.laysFinal "LaneMachine$Work" "LaneMachine$Work" "writesFrom" "[J" ∈ kg_G := kg_i1 136 rfl rfl
theorem kg_138 : Cond.lays "LaneMachine$Work" "LaneMachine$Work" "width" "I" ∈ kg_G := kg_i1 138 rfl rfl
theorem kg_140 : Cond.lays "LaneMachine$Work" "LaneMachine$Work" "group" "I" ∈ kg_G := kg_i1 140 rfl rfl
theorem kg_142 : Cond.lays "LaneMachine$Work" "LaneMachine$Work" "most" "I" ∈ kg_G := kg_i1 142 rfl rfl
theorem kg_144 : Cond.lays "LaneMachine$Work" "LaneMachine$Work" "xa" "I" ∈ kg_G := kg_i1 144 rfl rfl
theorem kg_146 : Cond.lays "LaneMachine$Work" "LaneMachine$Work" "xb" "I" ∈ kg_G := kg_i1 146 rfl rfl
theorem kg_148 : Cond.lays "LaneMachine$Work" "LaneMachine$Work" "from" "I" ∈ kg_G := kg_i1 148 rfl rfl
theorem kg_150 : Cond.lays "LaneMachine$Work" "LaneMachine$Work" "what" "LLaneMachine$Instruction;" ∈ kg_G := kg_i1 150 rfl rfl
theorem kg_152 : Cond.lays "LaneMachine$Work" "LaneMachine$Work" "number" "I" ∈ kg_G := kg_i1 152 rfl rfl
theorem kg_154 : Cond.lays "LaneMachine$Work" "LaneMachine$Work" "to" "I" ∈ kg_G := kg_i1 154 rfl rfl
theorem kg_156 : Cond.lays "LaneMachine$Work" "LaneMachine$Work" "done" "I" ∈ kg_G := kg_i1 156 rfl rfl
theorem kg_158 : Cond.lays "LaneMachine$Work" "LaneMachine$Work" "doneBefore" "I" ∈ kg_G := kg_i1 158 rfl rfl
theorem kg_161 : Cond.arrayClass .long ∈ kg_G := kg_i1 161 rfl rfl
theorem kg_162 : Cond.fieldLink "LaneMachine" 18 "LaneMachine" "lanes" "I" ∈ kg_G := kg_i1 162 rfl rfl
theorem kg_163 : Cond.fieldLink "LaneMachine" 22 "LaneMachine" "x" "[I" ∈ kg_G := kg_i1 163 rfl rfl
theorem kg_164 : Cond.fieldLink "LaneMachine" 31 "LaneMachine" "registers" "LLaneMachine$Bytes;" ∈ kg_G := kg_i1 164 rfl rfl
theorem kg_165 : Cond.fieldLink "LaneMachine" 35 "LaneMachine" "cells" "LLaneMachine$Bytes;" ∈ kg_G := kg_i1 165 rfl rfl
theorem kg_166 : Cond.fieldLink "LaneMachine" 41 "LaneMachine" "setting" "LLaneMachine$Setting;" ∈ kg_G := kg_i1 166 rfl rfl
theorem kg_167 : Cond.fieldLink "LaneMachine" 47 "LaneMachine" "program" "[LLaneMachine$Instruction;" ∈ kg_G := kg_i1 167 rfl rfl
theorem kg_168 : Cond.fieldLink "LaneMachine" 53 "LaneMachine" "works" "[LLaneMachine$Work;" ∈ kg_G := kg_i1 168 rfl rfl
theorem kg_169 : Cond.fieldLink "LaneMachine" 79 "LaneMachine" "programSize" "I" ∈ kg_G := kg_i1 169 rfl rfl
theorem kg_170 : Cond.fieldLink "LaneMachine" 85 "LaneMachine" "queued" "I" ∈ kg_G := kg_i1 170 rfl rfl
theorem kg_171 : Cond.fieldLink "LaneMachine" 63 "LaneMachine" "state" "I" ∈ kg_G := kg_i1 171 rfl rfl
theorem kg_172 : Cond.fieldLink "LaneMachine" 88 "LaneMachine" "next" "I" ∈ kg_G := kg_i1 172 rfl rfl
theorem kg_173 : Cond.fieldLink "LaneMachine" 66 "LaneMachine" "bound" "I" ∈ kg_G := kg_i1 173 rfl rfl
theorem kg_174 : Cond.fieldLink "LaneMachine" 94 "LaneMachine" "cyclesDone" "I" ∈ kg_G := kg_i1 174 rfl rfl
theorem kg_175 : Cond.fieldLink "LaneMachine" 126 "LaneMachine" "stepsDone" "I" ∈ kg_G := kg_i1 175 rfl rfl
theorem kg_176 : Cond.laysFinal "LaneMachine" "LaneMachine" "lanes" "I" ∈ kg_G := kg_i1 176 rfl rfl
theorem kg_178 : Cond.laysFinal "LaneMachine" "LaneMachine" "x" "[I" ∈ kg_G := kg_i1 178 rfl rfl
theorem kg_180 : Cond.laysFinal "LaneMachine" "LaneMachine" "registers" "LLaneMachine$Bytes;" ∈ kg_G := kg_i1 180 rfl rfl
theorem kg_182 : Cond.laysFinal "LaneMachine" "LaneMachine" "cells" "LLaneMachine$Bytes;" ∈ kg_G := kg_i1 182 rfl rfl
theorem kg_184 : Cond.laysFinal "LaneMachine" "LaneMachine" "setting" "LLaneMachine$Setting;" ∈ kg_G := kg_i1 184 rfl rfl
theorem kg_186 : Cond.laysFinal "LaneMachine" "LaneMachine" "program" "[LLaneMachine$Instruction;" ∈ kg_G := kg_i1 186 rfl rfl
theorem kg_188 : Cond.laysFinal "LaneMachine" "LaneMachine" "works" "[LLaneMachine$Work;" ∈ kg_G := kg_i1 188 rfl rfl
theorem kg_190 : Cond.lays "LaneMachine" "LaneMachine" "programSize" "I" ∈ kg_G := kg_i1 190 rfl rfl
theorem kg_192 : Cond.lays "LaneMachine" "LaneMachine" "queued" "I" ∈ kg_G := kg_i1 192 rfl rfl
theorem kg_194 : Cond.lays "LaneMachine" "LaneMachine" "state" "I" ∈ kg_G := kg_i1 194 rfl rfl
theorem kg_196 : Cond.lays "LaneMachine" "LaneMachine" "next" "I" ∈ kg_G := kg_i1 196 rfl rfl
theorem kg_198 : Cond.lays "LaneMachine" "LaneMachine" "bound" "I" ∈ kg_G := kg_i1 198 rfl rfl
theorem kg_200 : Cond.lays "LaneMachine" "LaneMachine" "cyclesDone" "I" ∈ kg_G := kg_i1 200 rfl rfl
theorem kg_202 : Cond.lays "LaneMachine" "LaneMachine" "stepsDone" "I" ∈ kg_G := kg_i1 202 rfl rfl
theorem kg_205 : Cond.methodLink "LaneMachineLaw" 73 y_M_scalar ∈ kg_G := kg_i1 205 rfl rfl
theorem kg_206 : Cond.instanceMethod y_M_scalar ∈ kg_G := kg_i1 206 rfl rfl
theorem kg_207 : Cond.selects "LaneMachine" y_M_scalar y_M_scalar ∈ kg_G := kg_i1 207 rfl rfl
theorem kg_208 : Cond.code y_M_scalar prog_1_method_8_code 2 (some .int) ∈ kg_G := kg_i1 208 rfl rfl
theorem kg_209 : Cond.methodLink "LaneMachineLaw" 77 y_M_file ∈ kg_G := kg_i1 209 rfl rfl
theorem kg_210 : Cond.instanceMethod y_M_file ∈ kg_G := kg_i1 210 rfl rfl
theorem kg_211 : Cond.selects "LaneMachine" y_M_file y_M_file ∈ kg_G := kg_i1 211 rfl rfl
theorem kg_212 : Cond.code y_M_file prog_1_method_9_code 2 (some .int) ∈ kg_G := kg_i1 212 rfl rfl
theorem kg_213 : Cond.methodLink "LaneMachine" 113 y_B_number ∈ kg_G := kg_i1 213 rfl rfl
theorem kg_214 : Cond.instanceMethod y_B_number ∈ kg_G := kg_i1 214 rfl rfl
theorem kg_215 : Cond.selects "LaneMachine$Bytes" y_B_number y_B_number ∈ kg_G := kg_i1 215 rfl rfl
theorem kg_216 : Cond.code y_B_number prog_2_method_2_code 4 (some .int) ∈ kg_G := kg_i1 216 rfl rfl
theorem kg_217 : Cond.methodLink "LaneMachine$Bytes" 13 y_B_bareNumber ∈ kg_G := kg_i1 217 rfl rfl
theorem kg_218 : Cond.instanceMethod y_B_bareNumber ∈ kg_G := kg_i1 218 rfl rfl
theorem kg_219 : Cond.selects "LaneMachine$Bytes" y_B_bareNumber y_B_bareNumber ∈ kg_G := kg_i1 219 rfl rfl
theorem kg_220 : Cond.code y_B_bareNumber prog_2_method_3_code 5 (some .int) ∈ kg_G := kg_i1 220 rfl rfl
theorem kg_221 : Cond.methodLink "LaneMachineLaw" 81 y_M_memory ∈ kg_G := kg_i1 221 rfl rfl
theorem kg_222 : Cond.instanceMethod y_M_memory ∈ kg_G := kg_i1 222 rfl rfl
theorem kg_223 : Cond.selects "LaneMachine" y_M_memory y_M_memory ∈ kg_G := kg_i1 223 rfl rfl
theorem kg_224 : Cond.code y_M_memory prog_1_method_10_code 2 (some .int) ∈ kg_G := kg_i1 224 rfl rfl
theorem kg_225 : Cond.methodLink "LaneMachineLaw" 85 y_M_about ∈ kg_G := kg_i1 225 rfl rfl
theorem kg_226 : Cond.instanceMethod y_M_about ∈ kg_G := kg_i1 226 rfl rfl
theorem kg_227 : Cond.selects "LaneMachine" y_M_about y_M_about ∈ kg_G := kg_i1 227 rfl rfl
theorem kg_228 : Cond.code y_M_about prog_1_method_11_code 2 (some .int) ∈ kg_G := kg_i1 228 rfl rfl
theorem kg_229 : Cond.methodLink "LaneMachine" 116 y_S_width ∈ kg_G := kg_i1 229 rfl rfl
theorem kg_230 : Cond.instanceMethod y_S_width ∈ kg_G := kg_i1 230 rfl rfl
theorem kg_231 : Cond.selects "LaneMachine$Setting" y_S_width y_S_width ∈ kg_G := kg_i1 231 rfl rfl
theorem kg_232 : Cond.code y_S_width prog_4_method_3_code 1 (some .int) ∈ kg_G := kg_i1 232 rfl rfl
theorem kg_233 : Cond.methodLink "LaneMachine" 120 y_S_group ∈ kg_G := kg_i1 233 rfl rfl
theorem kg_234 : Cond.instanceMethod y_S_group ∈ kg_G := kg_i1 234 rfl rfl
theorem kg_235 : Cond.selects "LaneMachine$Setting" y_S_group y_S_group ∈ kg_G := kg_i1 235 rfl rfl
theorem kg_236 : Cond.code y_S_group prog_4_method_4_code 1 (some .int) ∈ kg_G := kg_i1 236 rfl rfl
theorem kg_237 : Cond.methodLink "LaneMachineLaw" 89 y_M_queue ∈ kg_G := kg_i1 237 rfl rfl
theorem kg_238 : Cond.instanceMethod y_M_queue ∈ kg_G := kg_i1 238 rfl rfl
theorem kg_239 : Cond.selects "LaneMachine" y_M_queue y_M_queue ∈ kg_G := kg_i1 239 rfl rfl
theorem kg_240 : Cond.code y_M_queue prog_1_method_12_code 4 (some .int) ∈ kg_G := kg_i2 0 rfl rfl
theorem kg_241 : Cond.methodLink "LaneMachine" 131 y_K_steps ∈ kg_G := kg_i2 1 rfl rfl
theorem kg_242 : Cond.instanceMethod y_K_steps ∈ kg_G := kg_i2 2 rfl rfl
theorem kg_243 : Cond.selects "LaneMachine$Work" y_K_steps y_K_steps ∈ kg_G := kg_i2 3 rfl rfl
theorem kg_244 : Cond.code y_K_steps prog_5_method_3_code 2 (some .int) ∈ kg_G := kg_i2 4 rfl rfl
theorem kg_245 : Cond.methodLink "LaneMachine$Work" 72 y_JM_max ∈ kg_G := kg_i2 5 rfl rfl
theorem kg_246 : Cond.methodLink "LaneMachine$Work" 83 y_JM_min ∈ kg_G := kg_i2 6 rfl rfl
theorem kg_247 : Cond.methodLink "LaneMachineLaw" 36 y_L_cell ∈ kg_G := kg_i2 7 rfl rfl
theorem kg_248 : Cond.static y_L_cell ∈ kg_G := kg_i2 8 rfl rfl
theorem kg_249 : Cond.code y_L_cell method_2_code 2 (some .int) ∈ kg_G := kg_i2 9 rfl rfl
theorem kg_250 : Cond.methodLink "LaneMachineLaw" 48 y_L_put ∈ kg_G := kg_i2 10 rfl rfl
theorem kg_251 : Cond.static y_L_put ∈ kg_G := kg_i2 11 rfl rfl
theorem kg_252 : Cond.codeWith y_L_put method_3_code 9 (some .int) [(0, 18, 21, 13), (0, 18, 25, 15)] ∈ kg_G := kg_i2 12 rfl rfl
theorem kg_253 : Cond.classLink "LaneMachineLaw" 13 "java/lang/IllegalArgumentException" ∈ kg_G := kg_i2 13 rfl rfl
theorem kg_254 : Cond.classLink "LaneMachineLaw" 15 "java/lang/IllegalStateException" ∈ kg_G := kg_i2 14 rfl rfl
theorem kg_255 : Cond.methodLink "LaneMachineLaw" 7 y_M_put ∈ kg_G := kg_i2 15 rfl rfl
theorem kg_256 : Cond.instanceMethod y_M_put ∈ kg_G := kg_i2 16 rfl rfl
theorem kg_257 : Cond.selects "LaneMachine" y_M_put y_M_put ∈ kg_G := kg_i2 17 rfl rfl
theorem kg_258 : Cond.code y_M_put prog_1_method_2_code 7 (some .int) ∈ kg_G := kg_i2 18 rfl rfl
theorem kg_259 : Cond.methodLink "LaneMachine" 69 y_M_isRegister ∈ kg_G := kg_i2 19 rfl rfl
theorem kg_260 : Cond.static y_M_isRegister ∈ kg_G := kg_i2 20 rfl rfl
theorem kg_261 : Cond.code y_M_isRegister prog_1_method_13_code 1 (some .boolean) ∈ kg_G := kg_i2 21 rfl rfl
theorem kg_262 : Cond.classLink "LaneMachine" 73 "java/lang/IllegalArgumentException" ∈ kg_G := kg_i2 22 rfl rfl
theorem kg_263 : Cond.instantiable "java/lang/IllegalArgumentException" 6 ∈ kg_G := kg_i2 23 rfl rfl
theorem kg_271 : Cond.selects "java/lang/IllegalArgumentException" y_JT_fill1 y_JT_fill1 ∈ kg_G := kg_i2 31 rfl rfl
theorem kg_272 : Cond.selects "java/lang/IllegalArgumentException" y_JT_fill0 y_JT_fill0 ∈ kg_G := kg_i2 32 rfl rfl
theorem kg_273 : Cond.lays "java/lang/IllegalArgumentException" "java/lang/Throwable" "cause" "Ljava/lang/Throwable;" ∈ kg_G := kg_i2 33 rfl rfl
theorem kg_274 : Cond.lays "java/lang/Throwable" "java/lang/Throwable" "cause" "Ljava/lang/Throwable;" ∈ kg_G := kg_i2 34 rfl rfl
theorem kg_275 : Cond.lays "java/lang/IllegalArgumentException" "java/lang/Throwable" "stackTrace" "[Ljava/lang/StackTraceElement;" ∈ kg_G := kg_i2 35 rfl rfl
theorem kg_276 : Cond.lays "java/lang/Throwable" "java/lang/Throwable" "stackTrace" "[Ljava/lang/StackTraceElement;" ∈ kg_G := kg_i2 36 rfl rfl
theorem kg_277 : Cond.lays "java/lang/IllegalArgumentException" "java/lang/Throwable" "suppressedExceptions" "Ljava/util/List;" ∈ kg_G := kg_i2 37 rfl rfl
theorem kg_278 : Cond.lays "java/lang/Throwable" "java/lang/Throwable" "suppressedExceptions" "Ljava/util/List;" ∈ kg_G := kg_i2 38 rfl rfl
theorem kg_279 : Cond.lays "java/lang/IllegalArgumentException" "java/lang/Throwable" "detailMessage" "Ljava/lang/String;" ∈ kg_G := kg_i2 39 rfl rfl
theorem kg_280 : Cond.lays "java/lang/Throwable" "java/lang/Throwable" "detailMessage" "Ljava/lang/String;" ∈ kg_G := kg_i2 40 rfl rfl
theorem kg_281 : Cond.lays "java/lang/IllegalArgumentException" "java/lang/Throwable" "backtrace" "Ljava/lang/Object;" ∈ kg_G := kg_i2 41 rfl rfl
theorem kg_282 : Cond.lays "java/lang/Throwable" "java/lang/Throwable" "backtrace" "Ljava/lang/Object;" ∈ kg_G := kg_i2 42 rfl rfl
theorem kg_283 : Cond.fieldLink "java/lang/Throwable" 198 "java/lang/Throwable" "backtrace" "Ljava/lang/Object;" ∈ kg_G := kg_i2 43 rfl rfl
theorem kg_285 : Cond.instanceMethod y_JT_init ∈ kg_G := kg_i2 45 rfl rfl
theorem kg_286 : Cond.code y_JT_init prog_13_method_1_code 1 none ∈ kg_G := kg_i2 46 rfl rfl
theorem kg_287 : Cond.methodLink "java/lang/Throwable" 1 y_JO_init ∈ kg_G := kg_i2 47 rfl rfl
theorem kg_288 : Cond.fieldLink "java/lang/Throwable" 13 "java/lang/Throwable" "UNASSIGNED_STACK" "[Ljava/lang/StackTraceElement;" ∈ kg_G := kg_i2 48 rfl rfl
theorem kg_290 : Cond.fieldLink "java/lang/Throwable" 20 "java/lang/Throwable" "SUPPRESSED_SENTINEL" "Ljava/util/List;" ∈ kg_G := kg_i2 50 rfl rfl
theorem kg_292 : Cond.methodLink "java/lang/Throwable" 27 y_JT_fill0 ∈ kg_G := kg_i2 52 rfl rfl
theorem kg_293 : Cond.instanceMethod y_JT_fill0 ∈ kg_G := kg_i2 53 rfl rfl
theorem kg_295 : Cond.selects "java/lang/IllegalStateException" y_JT_fill0 y_JT_fill0 ∈ kg_G := kg_i2 55 rfl rfl
theorem kg_297 : Cond.methodLink "java/lang/Throwable" 202 y_JT_fill1 ∈ kg_G := kg_i2 57 rfl rfl
theorem kg_299 : Cond.instanceMethod y_JT_fill1 ∈ kg_G := kg_i2 59 rfl rfl
theorem kg_300 : Cond.instantiable "java/lang/Throwable" 6 ∈ kg_G := kg_i2 60 rfl rfl
theorem kg_302 : Cond.methodLink "LaneMachine" 75 y_JA_init ∈ kg_G := kg_i2 62 rfl rfl
theorem kg_303 : Cond.instanceMethod y_JA_init ∈ kg_G := kg_i2 63 rfl rfl
theorem kg_304 : Cond.code y_JA_init prog_9_method_1_code 1 none ∈ kg_G := kg_i2 64 rfl rfl
theorem kg_305 : Cond.methodLink "java/lang/IllegalArgumentException" 1 y_JR_init ∈ kg_G := kg_i2 65 rfl rfl
theorem kg_306 : Cond.instanceMethod y_JR_init ∈ kg_G := kg_i2 66 rfl rfl
theorem kg_307 : Cond.code y_JR_init prog_12_method_1_code 1 none ∈ kg_G := kg_i2 67 rfl rfl
theorem kg_308 : Cond.methodLink "java/lang/RuntimeException" 1 y_JE_init ∈ kg_G := kg_i2 68 rfl rfl
theorem kg_309 : Cond.instanceMethod y_JE_init ∈ kg_G := kg_i2 69 rfl rfl
theorem kg_310 : Cond.code y_JE_init prog_8_method_1_code 1 none ∈ kg_G := kg_i2 70 rfl rfl
theorem kg_311 : Cond.methodLink "java/lang/Exception" 1 y_JT_init ∈ kg_G := kg_i2 71 rfl rfl
theorem kg_313 : Cond.fieldLink "java/lang/Throwable" 7 "java/lang/Throwable" "cause" "Ljava/lang/Throwable;" ∈ kg_G := kg_i2 73 rfl rfl
theorem kg_314 : Cond.fieldLink "java/lang/Throwable" 17 "java/lang/Throwable" "stackTrace" "[Ljava/lang/StackTraceElement;" ∈ kg_G := kg_i2 74 rfl rfl
theorem kg_315 : Cond.fieldLink "java/lang/Throwable" 24 "java/lang/Throwable" "suppressedExceptions" "Ljava/util/List;" ∈ kg_G := kg_i2 75 rfl rfl
theorem kg_320 : Cond.lays "java/lang/IllegalArgumentException" "java/lang/Throwable" "depth" "I" ∈ kg_G := kg_i2 80 rfl rfl
theorem kg_324 : Cond.methodLink "LaneMachine" 76 y_S_isCode ∈ kg_G := kg_i2 84 rfl rfl
theorem kg_325 : Cond.static y_S_isCode ∈ kg_G := kg_i2 85 rfl rfl
theorem kg_326 : Cond.code y_S_isCode prog_4_method_2_code 1 (some .boolean) ∈ kg_G := kg_i2 86 rfl rfl
theorem kg_327 : Cond.classLink "LaneMachine" 82 "java/lang/IllegalStateException" ∈ kg_G := kg_i2 87 rfl rfl
theorem kg_328 : Cond.instantiable "java/lang/IllegalStateException" 6 ∈ kg_G := kg_i2 88 rfl rfl
theorem kg_330 : Cond.selects "java/lang/IllegalStateException" y_JT_fill1 y_JT_fill1 ∈ kg_G := kg_i2 90 rfl rfl
theorem kg_331 : Cond.lays "java/lang/IllegalStateException" "java/lang/Throwable" "cause" "Ljava/lang/Throwable;" ∈ kg_G := kg_i2 91 rfl rfl
theorem kg_332 : Cond.lays "java/lang/IllegalStateException" "java/lang/Throwable" "stackTrace" "[Ljava/lang/StackTraceElement;" ∈ kg_G := kg_i2 92 rfl rfl
theorem kg_333 : Cond.lays "java/lang/IllegalStateException" "java/lang/Throwable" "suppressedExceptions" "Ljava/util/List;" ∈ kg_G := kg_i2 93 rfl rfl
theorem kg_334 : Cond.lays "java/lang/IllegalStateException" "java/lang/Throwable" "detailMessage" "Ljava/lang/String;" ∈ kg_G := kg_i2 94 rfl rfl
theorem kg_335 : Cond.lays "java/lang/IllegalStateException" "java/lang/Throwable" "backtrace" "Ljava/lang/Object;" ∈ kg_G := kg_i2 95 rfl rfl
theorem kg_336 : Cond.methodLink "LaneMachine" 84 y_JS_init ∈ kg_G := kg_i2 96 rfl rfl
theorem kg_337 : Cond.instanceMethod y_JS_init ∈ kg_G := kg_i2 97 rfl rfl
theorem kg_338 : Cond.code y_JS_init prog_10_method_1_code 1 none ∈ kg_G := kg_i2 98 rfl rfl
theorem kg_339 : Cond.methodLink "java/lang/IllegalStateException" 1 y_JR_init ∈ kg_G := kg_i2 99 rfl rfl
theorem kg_340 : Cond.lays "java/lang/IllegalStateException" "java/lang/Throwable" "depth" "I" ∈ kg_G := kg_i2 100 rfl rfl
theorem kg_342 : Cond.methodLink "LaneMachineLaw" 55 y_L_go ∈ kg_G := kg_i2 102 rfl rfl
theorem kg_343 : Cond.static y_L_go ∈ kg_G := kg_i2 103 rfl rfl
theorem kg_344 : Cond.codeWith y_L_go method_4_code 4 (some .int) [(0, 9, 12, 13), (0, 9, 15, 15)] ∈ kg_G := kg_i2 104 rfl rfl
theorem kg_345 : Cond.methodLink "LaneMachineLaw" 17 y_M_go ∈ kg_G := kg_i2 105 rfl rfl
theorem kg_346 : Cond.instanceMethod y_M_go ∈ kg_G := kg_i2 106 rfl rfl
theorem kg_347 : Cond.selects "LaneMachine" y_M_go y_M_go ∈ kg_G := kg_i2 107 rfl rfl
theorem kg_348 : Cond.code y_M_go prog_1_method_3_code 2 (some .int) ∈ kg_G := kg_i2 108 rfl rfl
theorem kg_349 : Cond.methodLink "LaneMachineLaw" 59 y_L_resume ∈ kg_G := kg_i2 109 rfl rfl
theorem kg_350 : Cond.static y_L_resume ∈ kg_G := kg_i2 110 rfl rfl
theorem kg_351 : Cond.codeWith y_L_resume method_5_code 3 (some .int) [(0, 8, 11, 15)] ∈ kg_G := kg_i2 111 rfl rfl
theorem kg_352 : Cond.methodLink "LaneMachineLaw" 21 y_M_resume ∈ kg_G := kg_i2 112 rfl rfl
theorem kg_353 : Cond.instanceMethod y_M_resume ∈ kg_G := kg_i2 113 rfl rfl
theorem kg_354 : Cond.selects "LaneMachine" y_M_resume y_M_resume ∈ kg_G := kg_i2 114 rfl rfl
theorem kg_355 : Cond.code y_M_resume prog_1_method_4_code 1 (some .int) ∈ kg_G := kg_i2 115 rfl rfl
theorem kg_356 : Cond.methodLink "LaneMachineLaw" 63 y_L_cycles ∈ kg_G := kg_i2 116 rfl rfl
theorem kg_357 : Cond.static y_L_cycles ∈ kg_G := kg_i2 117 rfl rfl
theorem kg_358 : Cond.codeWith y_L_cycles method_6_code 4 (some .int) [(0, 9, 12, 13)] ∈ kg_G := kg_i2 118 rfl rfl
theorem kg_359 : Cond.methodLink "LaneMachineLaw" 25 y_M_cycles ∈ kg_G := kg_i2 119 rfl rfl
theorem kg_360 : Cond.instanceMethod y_M_cycles ∈ kg_G := kg_i2 120 rfl rfl
theorem kg_361 : Cond.selects "LaneMachine" y_M_cycles y_M_cycles ∈ kg_G := kg_i2 121 rfl rfl
theorem kg_362 : Cond.code y_M_cycles prog_1_method_5_code 4 (some .int) ∈ kg_G := kg_i2 122 rfl rfl
theorem kg_363 : Cond.methodLink "LaneMachine" 97 y_M_noteStepsDone ∈ kg_G := kg_i2 123 rfl rfl
theorem kg_365 : Cond.instanceMethod y_M_noteStepsDone ∈ kg_G := kg_i2 125 rfl rfl
theorem kg_366 : Cond.code y_M_noteStepsDone prog_1_method_14_code 2 none ∈ kg_G := kg_i2 126 rfl rfl
theorem kg_367 : Cond.methodLink "LaneMachine" 100 y_M_workUnit ∈ kg_G := kg_i2 127 rfl rfl
theorem kg_369 : Cond.instanceMethod y_M_workUnit ∈ kg_G := kg_i2 129 rfl rfl
theorem kg_370 : Cond.code y_M_workUnit prog_1_method_15_code 9 none ∈ kg_G := kg_i2 130 rfl rfl
theorem kg_371 : Cond.methodLink "LaneMachine" 144 y_I_unit ∈ kg_G := kg_i2 131 rfl rfl
theorem kg_372 : Cond.instanceMethod y_I_unit ∈ kg_G := kg_i2 132 rfl rfl
theorem kg_373 : Cond.selects "LaneMachine$Instruction" y_I_unit y_I_unit ∈ kg_G := kg_i2 133 rfl rfl
theorem kg_374 : Cond.code y_I_unit prog_3_method_4_code 1 (some .int) ∈ kg_G := kg_i2 134 rfl rfl
theorem kg_375 : Cond.methodLink "LaneMachine" 147 y_K_isNextStepFree ∈ kg_G := kg_i2 135 rfl rfl
theorem kg_376 : Cond.instanceMethod y_K_isNextStepFree ∈ kg_G := kg_i2 136 rfl rfl
theorem kg_377 : Cond.selects "LaneMachine$Work" y_K_isNextStepFree y_K_isNextStepFree ∈ kg_G := kg_i2 137 rfl rfl
theorem kg_378 : Cond.code y_K_isNextStepFree prog_5_method_15_code 7 (some .boolean) ∈ kg_G := kg_i2 138 rfl rfl
theorem kg_379 : Cond.methodLink "LaneMachine$Work" 130 y_K_isDone ∈ kg_G := kg_i2 139 rfl rfl
theorem kg_380 : Cond.instanceMethod y_K_isDone ∈ kg_G := kg_i2 140 rfl rfl
theorem kg_381 : Cond.selects "LaneMachine$Work" y_K_isDone y_K_isDone ∈ kg_G := kg_i2 141 rfl rfl
theorem kg_382 : Cond.code y_K_isDone prog_5_method_14_code 1 (some .boolean) ∈ kg_G := kg_i2 142 rfl rfl
theorem kg_383 : Cond.methodLink "LaneMachine$Work" 86 y_K_steps ∈ kg_G := kg_i2 143 rfl rfl
theorem kg_384 : Cond.methodLink "LaneMachine$Work" 93 y_K_writesOf ∈ kg_G := kg_i2 144 rfl rfl
theorem kg_386 : Cond.instanceMethod y_K_writesOf ∈ kg_G := kg_i2 146 rfl rfl
theorem kg_387 : Cond.code y_K_writesOf prog_5_method_13_code 3 (some .long) ∈ kg_G := kg_i2 147 rfl rfl
theorem kg_388 : Cond.methodLink "LaneMachine$Work" 112 y_K_span ∈ kg_G := kg_i2 148 rfl rfl
theorem kg_389 : Cond.static y_K_span ∈ kg_G := kg_i2 149 rfl rfl
theorem kg_390 : Cond.code y_K_span prog_5_method_7_code 2 (some .long) ∈ kg_G := kg_i2 150 rfl rfl
theorem kg_391 : Cond.methodLink "LaneMachine$Work" 109 y_K_placeOf ∈ kg_G := kg_i2 151 rfl rfl
theorem kg_393 : Cond.instanceMethod y_K_placeOf ∈ kg_G := kg_i2 153 rfl rfl
theorem kg_394 : Cond.code y_K_placeOf prog_5_method_8_code 3 (some .int) ∈ kg_G := kg_i2 154 rfl rfl
theorem kg_395 : Cond.methodLink "LaneMachine$Work" 89 y_K_readsOf ∈ kg_G := kg_i2 155 rfl rfl
theorem kg_397 : Cond.instanceMethod y_K_readsOf ∈ kg_G := kg_i2 157 rfl rfl
theorem kg_398 : Cond.code y_K_readsOf prog_5_method_9_code 3 (some .long) ∈ kg_G := kg_i2 158 rfl rfl
theorem kg_399 : Cond.methodLink "LaneMachine$Work" 96 y_K_readsOfSum ∈ kg_G := kg_i2 159 rfl rfl
theorem kg_401 : Cond.instanceMethod y_K_readsOfSum ∈ kg_G := kg_i2 161 rfl rfl
theorem kg_402 : Cond.code y_K_readsOfSum prog_5_method_11_code 4 (some .long) ∈ kg_G := kg_i2 162 rfl rfl
theorem kg_403 : Cond.methodLink "LaneMachine$Work" 100 y_K_maskByte ∈ kg_G := kg_i2 163 rfl rfl
theorem kg_405 : Cond.instanceMethod y_K_maskByte ∈ kg_G := kg_i2 165 rfl rfl
theorem kg_406 : Cond.code y_K_maskByte prog_5_method_12_code 2 (some .long) ∈ kg_G := kg_i2 166 rfl rfl
theorem kg_407 : Cond.methodLink "LaneMachine$Work" 103 y_K_sourcesOf ∈ kg_G := kg_i2 167 rfl rfl
theorem kg_409 : Cond.instanceMethod y_K_sourcesOf ∈ kg_G := kg_i2 169 rfl rfl
theorem kg_410 : Cond.code y_K_sourcesOf prog_5_method_10_code 2 (some .long) ∈ kg_G := kg_i2 170 rfl rfl
theorem kg_411 : Cond.methodLink "LaneMachine$Work" 116 y_K_isInGroup ∈ kg_G := kg_i2 171 rfl rfl
theorem kg_413 : Cond.instanceMethod y_K_isInGroup ∈ kg_G := kg_i2 173 rfl rfl
theorem kg_414 : Cond.code y_K_isInGroup prog_5_method_23_code 2 (some .boolean) ∈ kg_G := kg_i2 174 rfl rfl
theorem kg_415 : Cond.methodLink "LaneMachine" 151 y_K_doNextStep ∈ kg_G := kg_i2 175 rfl rfl
theorem kg_416 : Cond.instanceMethod y_K_doNextStep ∈ kg_G := kg_i2 176 rfl rfl
theorem kg_417 : Cond.selects "LaneMachine$Work" y_K_doNextStep y_K_doNextStep ∈ kg_G := kg_i2 177 rfl rfl
theorem kg_418 : Cond.code y_K_doNextStep prog_5_method_16_code 2 none ∈ kg_G := kg_i2 178 rfl rfl
theorem kg_419 : Cond.methodLink "LaneMachine$Work" 134 y_K_isWorkedOn ∈ kg_G := kg_i2 179 rfl rfl
theorem kg_421 : Cond.instanceMethod y_K_isWorkedOn ∈ kg_G := kg_i2 181 rfl rfl
theorem kg_422 : Cond.code y_K_isWorkedOn prog_5_method_17_code 2 (some .boolean) ∈ kg_G := kg_i2 182 rfl rfl
theorem kg_423 : Cond.methodLink "LaneMachine$Work" 160 y_B_bareNumber ∈ kg_G := kg_i2 183 rfl rfl
theorem kg_424 : Cond.methodLink "LaneMachine$Work" 137 y_K_writeSum ∈ kg_G := kg_i2 184 rfl rfl
theorem kg_426 : Cond.instanceMethod y_K_writeSum ∈ kg_G := kg_i2 186 rfl rfl
theorem kg_427 : Cond.code y_K_writeSum prog_5_method_18_code 4 none ∈ kg_G := kg_i2 187 rfl rfl
theorem kg_428 : Cond.methodLink "LaneMachine$Work" 140 y_K_element ∈ kg_G := kg_i2 188 rfl rfl
theorem kg_430 : Cond.instanceMethod y_K_element ∈ kg_G := kg_i2 190 rfl rfl
theorem kg_431 : Cond.code y_K_element prog_5_method_21_code 3 (some .int) ∈ kg_G := kg_i2 191 rfl rfl
theorem kg_432 : Cond.methodLink "LaneMachine$Work" 166 y_B_number ∈ kg_G := kg_i2 192 rfl rfl
theorem kg_433 : Cond.methodLink "LaneMachine$Work" 151 y_B_write ∈ kg_G := kg_i2 193 rfl rfl
theorem kg_434 : Cond.instanceMethod y_B_write ∈ kg_G := kg_i2 194 rfl rfl
theorem kg_435 : Cond.selects "LaneMachine$Bytes" y_B_write y_B_write ∈ kg_G := kg_i2 195 rfl rfl
theorem kg_436 : Cond.code y_B_write prog_2_method_4_code 5 none ∈ kg_G := kg_i2 196 rfl rfl
theorem kg_437 : Cond.methodLink "LaneMachine$Work" 143 y_K_writeMaskBit ∈ kg_G := kg_i2 197 rfl rfl
theorem kg_439 : Cond.instanceMethod y_K_writeMaskBit ∈ kg_G := kg_i2 199 rfl rfl
theorem kg_440 : Cond.code y_K_writeMaskBit prog_5_method_19_code 6 none ∈ kg_G := kg_i2 200 rfl rfl
theorem kg_441 : Cond.methodLink "LaneMachine$Work" 147 y_K_result ∈ kg_G := kg_i2 201 rfl rfl
theorem kg_443 : Cond.instanceMethod y_K_result ∈ kg_G := kg_i2 203 rfl rfl
theorem kg_444 : Cond.code y_K_result prog_5_method_20_code 2 (some .int) ∈ kg_G := kg_i2 204 rfl rfl
theorem kg_445 : Cond.methodLink "LaneMachine$Work" 163 y_K_elementOrZero ∈ kg_G := kg_i2 205 rfl rfl
theorem kg_447 : Cond.instanceMethod y_K_elementOrZero ∈ kg_G := kg_i2 207 rfl rfl
theorem kg_448 : Cond.code y_K_elementOrZero prog_5_method_22_code 3 (some .int) ∈ kg_G := kg_i2 208 rfl rfl
theorem kg_449 : Cond.methodLink "LaneMachine$Work" 157 y_K_placeInMemory ∈ kg_G := kg_i2 209 rfl rfl
theorem kg_451 : Cond.instanceMethod y_K_placeInMemory ∈ kg_G := kg_i2 211 rfl rfl
theorem kg_452 : Cond.code y_K_placeInMemory prog_5_method_24_code 2 (some .int) ∈ kg_G := kg_i2 212 rfl rfl
theorem kg_453 : Cond.methodLink "LaneMachine" 154 y_K_readsFromStep ∈ kg_G := kg_i2 213 rfl rfl
theorem kg_454 : Cond.instanceMethod y_K_readsFromStep ∈ kg_G := kg_i2 214 rfl rfl
theorem kg_455 : Cond.selects "LaneMachine$Work" y_K_readsFromStep y_K_readsFromStep ∈ kg_G := kg_i2 215 rfl rfl
theorem kg_456 : Cond.code y_K_readsFromStep prog_5_method_5_code 2 (some .long) ∈ kg_G := kg_i2 216 rfl rfl
theorem kg_457 : Cond.methodLink "LaneMachine" 158 y_K_writesFromStep ∈ kg_G := kg_i2 217 rfl rfl
theorem kg_458 : Cond.instanceMethod y_K_writesFromStep ∈ kg_G := kg_i2 218 rfl rfl
theorem kg_459 : Cond.selects "LaneMachine$Work" y_K_writesFromStep y_K_writesFromStep ∈ kg_G := kg_i2 219 rfl rfl
theorem kg_460 : Cond.code y_K_writesFromStep prog_5_method_6_code 2 (some .long) ∈ kg_G := kg_i2 220 rfl rfl
theorem kg_461 : Cond.methodLink "LaneMachine" 103 y_M_dropFinished ∈ kg_G := kg_i2 221 rfl rfl
theorem kg_463 : Cond.instanceMethod y_M_dropFinished ∈ kg_G := kg_i2 223 rfl rfl
theorem kg_464 : Cond.code y_M_dropFinished prog_1_method_16_code 4 none ∈ kg_G := kg_i2 224 rfl rfl
theorem kg_465 : Cond.methodLink "LaneMachine" 161 y_K_isDone ∈ kg_G := kg_i2 225 rfl rfl
theorem kg_466 : Cond.methodLink "LaneMachine" 106 y_M_advance ∈ kg_G := kg_i2 226 rfl rfl
theorem kg_468 : Cond.instanceMethod y_M_advance ∈ kg_G := kg_i2 228 rfl rfl
theorem kg_469 : Cond.code y_M_advance prog_1_method_17_code 2 none ∈ kg_G := kg_i2 229 rfl rfl
theorem kg_470 : Cond.methodLink "LaneMachine" 165 y_S_forbids ∈ kg_G := kg_i2 230 rfl rfl
theorem kg_471 : Cond.instanceMethod y_S_forbids ∈ kg_G := kg_i2 231 rfl rfl
theorem kg_472 : Cond.selects "LaneMachine$Setting" y_S_forbids y_S_forbids ∈ kg_G := kg_i2 232 rfl rfl
theorem kg_473 : Cond.code y_S_forbids prog_4_method_7_code 2 (some .boolean) ∈ kg_G := kg_i2 233 rfl rfl
theorem kg_474 : Cond.methodLink "LaneMachine$Setting" 37 y_I_isVector ∈ kg_G := kg_i2 234 rfl rfl
theorem kg_475 : Cond.instanceMethod y_I_isVector ∈ kg_G := kg_i2 235 rfl rfl
theorem kg_476 : Cond.selects "LaneMachine$Instruction" y_I_isVector y_I_isVector ∈ kg_G := kg_i2 236 rfl rfl
theorem kg_477 : Cond.code y_I_isVector prog_3_method_2_code 1 (some .boolean) ∈ kg_G := kg_i2 237 rfl rfl
theorem kg_478 : Cond.methodLink "LaneMachine$Setting" 43 y_S_isMisplaced ∈ kg_G := kg_i2 238 rfl rfl
theorem kg_480 : Cond.instanceMethod y_S_isMisplaced ∈ kg_G := kg_i3 0 rfl rfl
theorem kg_481 : Cond.code y_S_isMisplaced prog_4_method_8_code 3 (some .boolean) ∈ kg_G := kg_i3 1 rfl rfl
theorem kg_482 : Cond.methodLink "LaneMachine$Setting" 59 y_S_group ∈ kg_G := kg_i3 2 rfl rfl
theorem kg_483 : Cond.methodLink "LaneMachine$Setting" 62 y_I_hasGroupAtD ∈ kg_G := kg_i3 3 rfl rfl
theorem kg_484 : Cond.instanceMethod y_I_hasGroupAtD ∈ kg_G := kg_i3 4 rfl rfl
theorem kg_485 : Cond.selects "LaneMachine$Instruction" y_I_hasGroupAtD y_I_hasGroupAtD ∈ kg_G := kg_i3 5 rfl rfl
theorem kg_486 : Cond.code y_I_hasGroupAtD prog_3_method_5_code 1 (some .boolean) ∈ kg_G := kg_i3 6 rfl rfl
theorem kg_487 : Cond.methodLink "LaneMachine$Setting" 68 y_S_isMultiple ∈ kg_G := kg_i3 7 rfl rfl
theorem kg_488 : Cond.static y_S_isMultiple ∈ kg_G := kg_i3 8 rfl rfl
theorem kg_489 : Cond.code y_S_isMultiple prog_4_method_9_code 2 (some .boolean) ∈ kg_G := kg_i3 9 rfl rfl
theorem kg_490 : Cond.methodLink "LaneMachine$Setting" 72 y_I_hasGroupAtA ∈ kg_G := kg_i3 10 rfl rfl
theorem kg_491 : Cond.instanceMethod y_I_hasGroupAtA ∈ kg_G := kg_i3 11 rfl rfl
theorem kg_492 : Cond.selects "LaneMachine$Instruction" y_I_hasGroupAtA y_I_hasGroupAtA ∈ kg_G := kg_i3 12 rfl rfl
theorem kg_493 : Cond.code y_I_hasGroupAtA prog_3_method_6_code 1 (some .boolean) ∈ kg_G := kg_i3 13 rfl rfl
theorem kg_494 : Cond.methodLink "LaneMachine$Setting" 78 y_I_hasGroupAtB ∈ kg_G := kg_i3 14 rfl rfl
theorem kg_495 : Cond.instanceMethod y_I_hasGroupAtB ∈ kg_G := kg_i3 15 rfl rfl
theorem kg_496 : Cond.selects "LaneMachine$Instruction" y_I_hasGroupAtB y_I_hasGroupAtB ∈ kg_G := kg_i3 16 rfl rfl
theorem kg_497 : Cond.code y_I_hasGroupAtB prog_3_method_7_code 1 (some .boolean) ∈ kg_G := kg_i3 17 rfl rfl
theorem kg_498 : Cond.methodLink "LaneMachine$Setting" 47 y_S_spoilsMask ∈ kg_G := kg_i3 18 rfl rfl
theorem kg_499 : Cond.static y_S_spoilsMask ∈ kg_G := kg_i3 19 rfl rfl
theorem kg_500 : Cond.code y_S_spoilsMask prog_4_method_10_code 1 (some .boolean) ∈ kg_G := kg_i3 20 rfl rfl
theorem kg_501 : Cond.methodLink "LaneMachine$Setting" 50 y_S_spoilsSources ∈ kg_G := kg_i3 21 rfl rfl
theorem kg_503 : Cond.instanceMethod y_S_spoilsSources ∈ kg_G := kg_i3 23 rfl rfl
theorem kg_504 : Cond.code y_S_spoilsSources prog_4_method_11_code 2 (some .boolean) ∈ kg_G := kg_i3 24 rfl rfl
theorem kg_505 : Cond.methodLink "LaneMachine$Setting" 88 y_S_isInWideGroup ∈ kg_G := kg_i3 25 rfl rfl
theorem kg_507 : Cond.instanceMethod y_S_isInWideGroup ∈ kg_G := kg_i3 27 rfl rfl
theorem kg_508 : Cond.code y_S_isInWideGroup prog_4_method_12_code 3 (some .boolean) ∈ kg_G := kg_i3 28 rfl rfl
theorem kg_509 : Cond.methodLink "LaneMachine$Setting" 53 y_S_isTooWide ∈ kg_G := kg_i3 29 rfl rfl
theorem kg_511 : Cond.instanceMethod y_S_isTooWide ∈ kg_G := kg_i3 31 rfl rfl
theorem kg_512 : Cond.code y_S_isTooWide prog_4_method_13_code 2 (some .boolean) ∈ kg_G := kg_i3 32 rfl rfl
theorem kg_513 : Cond.methodLink "LaneMachine$Setting" 91 y_S_width ∈ kg_G := kg_i3 33 rfl rfl
theorem kg_514 : Cond.methodLink "LaneMachine" 169 y_I_isVector ∈ kg_G := kg_i3 34 rfl rfl
theorem kg_515 : Cond.methodLink "LaneMachine" 172 y_M_mustWaitForQueue ∈ kg_G := kg_i3 35 rfl rfl
theorem kg_517 : Cond.instanceMethod y_M_mustWaitForQueue ∈ kg_G := kg_i3 37 rfl rfl
theorem kg_518 : Cond.code y_M_mustWaitForQueue prog_1_method_20_code 6 (some .boolean) ∈ kg_G := kg_i3 38 rfl rfl
theorem kg_519 : Cond.methodLink "LaneMachine" 216 y_K_span ∈ kg_G := kg_i3 39 rfl rfl
theorem kg_520 : Cond.methodLink "LaneMachine" 175 y_M_handOut ∈ kg_G := kg_i3 40 rfl rfl
theorem kg_522 : Cond.instanceMethod y_M_handOut ∈ kg_G := kg_i3 42 rfl rfl
theorem kg_523 : Cond.code y_M_handOut prog_1_method_21_code 4 none ∈ kg_G := kg_i3 43 rfl rfl
theorem kg_524 : Cond.methodLink "LaneMachine" 202 y_M_scalar ∈ kg_G := kg_i3 44 rfl rfl
theorem kg_525 : Cond.methodLink "LaneMachine" 220 y_K_take ∈ kg_G := kg_i3 45 rfl rfl
theorem kg_526 : Cond.instanceMethod y_K_take ∈ kg_G := kg_i3 46 rfl rfl
theorem kg_527 : Cond.selects "LaneMachine$Work" y_K_take y_K_take ∈ kg_G := kg_i3 47 rfl rfl
theorem kg_528 : Cond.code y_K_take prog_5_method_2_code 6 none ∈ kg_G := kg_i3 48 rfl rfl
theorem kg_529 : Cond.methodLink "LaneMachine$Work" 39 y_S_width ∈ kg_G := kg_i3 49 rfl rfl
theorem kg_530 : Cond.methodLink "LaneMachine$Work" 47 y_S_group ∈ kg_G := kg_i3 50 rfl rfl
theorem kg_531 : Cond.methodLink "LaneMachine$Work" 52 y_S_most ∈ kg_G := kg_i3 51 rfl rfl
theorem kg_532 : Cond.instanceMethod y_S_most ∈ kg_G := kg_i3 52 rfl rfl
theorem kg_533 : Cond.selects "LaneMachine$Setting" y_S_most y_S_most ∈ kg_G := kg_i3 53 rfl rfl
theorem kg_534 : Cond.code y_S_most prog_4_method_5_code 1 (some .int) ∈ kg_G := kg_i3 54 rfl rfl
theorem kg_535 : Cond.methodLink "LaneMachine" 224 y_K_firstBad ∈ kg_G := kg_i3 55 rfl rfl
theorem kg_536 : Cond.instanceMethod y_K_firstBad ∈ kg_G := kg_i3 56 rfl rfl
theorem kg_537 : Cond.selects "LaneMachine$Work" y_K_firstBad y_K_firstBad ∈ kg_G := kg_i3 57 rfl rfl
theorem kg_538 : Cond.code y_K_firstBad prog_5_method_25_code 4 (some .int) ∈ kg_G := kg_i3 58 rfl rfl
theorem kg_539 : Cond.methodLink "LaneMachine" 230 y_K_foresee ∈ kg_G := kg_i3 59 rfl rfl
theorem kg_540 : Cond.instanceMethod y_K_foresee ∈ kg_G := kg_i3 60 rfl rfl
theorem kg_541 : Cond.selects "LaneMachine$Work" y_K_foresee y_K_foresee ∈ kg_G := kg_i3 61 rfl rfl
theorem kg_542 : Cond.code y_K_foresee prog_5_method_4_code 7 none ∈ kg_G := kg_i3 62 rfl rfl
theorem kg_543 : Cond.methodLink "LaneMachine" 179 y_I_needsEmptyQueue ∈ kg_G := kg_i3 63 rfl rfl
theorem kg_544 : Cond.instanceMethod y_I_needsEmptyQueue ∈ kg_G := kg_i3 64 rfl rfl
theorem kg_545 : Cond.selects "LaneMachine$Instruction" y_I_needsEmptyQueue y_I_needsEmptyQueue ∈ kg_G := kg_i3 65 rfl rfl
theorem kg_546 : Cond.code y_I_needsEmptyQueue prog_3_method_3_code 1 (some .boolean) ∈ kg_G := kg_i3 66 rfl rfl
theorem kg_547 : Cond.methodLink "LaneMachine" 182 y_M_doScalar ∈ kg_G := kg_i3 67 rfl rfl
theorem kg_549 : Cond.instanceMethod y_M_doScalar ∈ kg_G := kg_i3 69 rfl rfl
theorem kg_550 : Cond.code y_M_doScalar prog_1_method_18_code 3 none ∈ kg_G := kg_i3 70 rfl rfl
theorem kg_551 : Cond.methodLink "LaneMachine" 195 y_M_setScalar ∈ kg_G := kg_i3 71 rfl rfl
theorem kg_553 : Cond.instanceMethod y_M_setScalar ∈ kg_G := kg_i3 73 rfl rfl
theorem kg_554 : Cond.code y_M_setScalar prog_1_method_19_code 3 none ∈ kg_G := kg_i3 74 rfl rfl
theorem kg_555 : Cond.methodLink "LaneMachine" 209 y_S_configure ∈ kg_G := kg_i3 75 rfl rfl
theorem kg_556 : Cond.instanceMethod y_S_configure ∈ kg_G := kg_i3 76 rfl rfl
theorem kg_557 : Cond.selects "LaneMachine$Setting" y_S_configure y_S_configure ∈ kg_G := kg_i3 77 rfl rfl
theorem kg_558 : Cond.code y_S_configure prog_4_method_6_code 3 none ∈ kg_G := kg_i3 78 rfl rfl
theorem kg_559 : Cond.methodLink "LaneMachine$Setting" 18 y_S_most ∈ kg_G := kg_i3 79 rfl rfl
theorem kg_560 : Cond.methodLink "LaneMachine$Setting" 22 y_JM_min ∈ kg_G := kg_i3 80 rfl rfl
theorem kg_561 : Cond.methodLink "LaneMachine$Setting" 28 y_JM_max ∈ kg_G := kg_i3 81 rfl rfl
theorem kg_562 : Cond.methodLink "LaneMachineLaw" 66 y_L_poke ∈ kg_G := kg_i3 82 rfl rfl
theorem kg_563 : Cond.static y_L_poke ∈ kg_G := kg_i3 83 rfl rfl
theorem kg_564 : Cond.codeWith y_L_poke method_7_code 5 (some .int) [(0, 17, 20, 13)] ∈ kg_G := kg_i3 84 rfl rfl
theorem kg_565 : Cond.methodLink "LaneMachineLaw" 28 y_M_poke ∈ kg_G := kg_i3 85 rfl rfl
theorem kg_566 : Cond.instanceMethod y_M_poke ∈ kg_G := kg_i3 86 rfl rfl
theorem kg_567 : Cond.selects "LaneMachine" y_M_poke y_M_poke ∈ kg_G := kg_i3 87 rfl rfl
theorem kg_568 : Cond.code y_M_poke prog_1_method_6_code 3 (some .boolean) ∈ kg_G := kg_i3 88 rfl rfl
theorem kg_569 : Cond.methodLink "LaneMachine" 109 y_B_write ∈ kg_G := kg_i3 89 rfl rfl
theorem kg_570 : Cond.methodLink "LaneMachineLaw" 70 y_L_limit ∈ kg_G := kg_i3 90 rfl rfl
theorem kg_571 : Cond.static y_L_limit ∈ kg_G := kg_i3 91 rfl rfl
theorem kg_572 : Cond.codeWith y_L_limit method_8_code 4 (some .int) [(0, 16, 19, 13), (0, 16, 22, 15)] ∈ kg_G := kg_i3 92 rfl rfl
theorem kg_573 : Cond.methodLink "LaneMachineLaw" 32 y_M_limit ∈ kg_G := kg_i3 93 rfl rfl
theorem kg_574 : Cond.instanceMethod y_M_limit ∈ kg_G := kg_i3 94 rfl rfl
theorem kg_575 : Cond.selects "LaneMachine" y_M_limit y_M_limit ∈ kg_G := kg_i3 95 rfl rfl
theorem kg_576 : Cond.code y_M_limit prog_1_method_7_code 2 (some .boolean) ∈ kg_G := kg_i3 96 rfl rfl
theorem kg_577 : Cond.classLink "LaneMachineLaw" 45 "LaneMachineModel" ∈ kg_G := kg_i3 97 rfl rfl
theorem kg_578 : Cond.instantiable "LaneMachineModel" 31 ∈ kg_G := kg_i3 98 rfl rfl
theorem kg_579 : Cond.methodLink "LaneMachineLaw" 47 y_R_init ∈ kg_G := kg_i3 99 rfl rfl
theorem kg_580 : Cond.instanceMethod y_R_init ∈ kg_G := kg_i3 100 rfl rfl
theorem kg_581 : Cond.code y_R_init prog_7_method_1_code 2 none ∈ kg_G := kg_i3 101 rfl rfl
theorem kg_582 : Cond.methodLink "LaneMachineModel" 1 y_JO_init ∈ kg_G := kg_i3 102 rfl rfl
theorem kg_583 : Cond.fieldLink "LaneMachineModel" 78 "LaneMachineModel" "lanes" "I" ∈ kg_G := kg_i3 103 rfl rfl
theorem kg_584 : Cond.fieldLink "LaneMachineModel" 81 "LaneMachineModel" "threw" "I" ∈ kg_G := kg_i3 104 rfl rfl
theorem kg_585 : Cond.fieldLink "LaneMachineModel" 9 "LaneMachineModel" "state" "I" ∈ kg_G := kg_i3 105 rfl rfl
theorem kg_586 : Cond.fieldLink "LaneMachineModel" 170 "LaneMachineModel" "next" "I" ∈ kg_G := kg_i3 106 rfl rfl
theorem kg_587 : Cond.fieldLink "LaneMachineModel" 13 "LaneMachineModel" "width" "I" ∈ kg_G := kg_i3 107 rfl rfl
theorem kg_588 : Cond.fieldLink "LaneMachineModel" 16 "LaneMachineModel" "group" "I" ∈ kg_G := kg_i3 108 rfl rfl
theorem kg_589 : Cond.fieldLink "LaneMachineModel" 161 "LaneMachineModel" "vl" "I" ∈ kg_G := kg_i3 109 rfl rfl
theorem kg_590 : Cond.fieldLink "LaneMachineModel" 167 "LaneMachineModel" "start" "I" ∈ kg_G := kg_i3 110 rfl rfl
theorem kg_591 : Cond.fieldLink "LaneMachineModel" 19 "LaneMachineModel" "bound" "I" ∈ kg_G := kg_i3 111 rfl rfl
theorem kg_592 : Cond.fieldLink "LaneMachineModel" 195 "LaneMachineModel" "cycles" "I" ∈ kg_G := kg_i3 112 rfl rfl
theorem kg_593 : Cond.fieldLink "LaneMachineModel" 129 "LaneMachineModel" "stepsDone" "I" ∈ kg_G := kg_i3 113 rfl rfl
theorem kg_594 : Cond.fieldLink "LaneMachineModel" 22 "LaneMachineModel" "x" "[I" ∈ kg_G := kg_i3 114 rfl rfl
theorem kg_595 : Cond.fieldLink "LaneMachineModel" 26 "LaneMachineModel" "file" "[I" ∈ kg_G := kg_i3 115 rfl rfl
theorem kg_596 : Cond.fieldLink "LaneMachineModel" 29 "LaneMachineModel" "memory" "[I" ∈ kg_G := kg_i3 116 rfl rfl
theorem kg_597 : Cond.fieldLink "LaneMachineModel" 179 "LaneMachineModel" "many" "I" ∈ kg_G := kg_i3 117 rfl rfl
theorem kg_598 : Cond.fieldLink "LaneMachineModel" 32 "LaneMachineModel" "op" "[I" ∈ kg_G := kg_i3 118 rfl rfl
theorem kg_599 : Cond.fieldLink "LaneMachineModel" 35 "LaneMachineModel" "d" "[I" ∈ kg_G := kg_i3 119 rfl rfl
theorem kg_600 : Cond.fieldLink "LaneMachineModel" 38 "LaneMachineModel" "a" "[I" ∈ kg_G := kg_i3 120 rfl rfl
theorem kg_601 : Cond.fieldLink "LaneMachineModel" 41 "LaneMachineModel" "b" "[I" ∈ kg_G := kg_i3 121 rfl rfl
theorem kg_602 : Cond.fieldLink "LaneMachineModel" 44 "LaneMachineModel" "n" "[I" ∈ kg_G := kg_i3 122 rfl rfl
theorem kg_603 : Cond.fieldLink "LaneMachineModel" 47 "LaneMachineModel" "masked" "[Z" ∈ kg_G := kg_i3 123 rfl rfl
theorem kg_604 : Cond.fieldLink "LaneMachineModel" 146 "LaneMachineModel" "queued" "I" ∈ kg_G := kg_i3 124 rfl rfl
theorem kg_605 : Cond.fieldLink "LaneMachineModel" 51 "LaneMachineModel" "which" "[I" ∈ kg_G := kg_i3 125 rfl rfl
theorem kg_606 : Cond.fieldLink "LaneMachineModel" 54 "LaneMachineModel" "wide" "[I" ∈ kg_G := kg_i3 126 rfl rfl
theorem kg_607 : Cond.fieldLink "LaneMachineModel" 57 "LaneMachineModel" "regs" "[I" ∈ kg_G := kg_i3 127 rfl rfl
theorem kg_608 : Cond.fieldLink "LaneMachineModel" 60 "LaneMachineModel" "from" "[I" ∈ kg_G := kg_i3 128 rfl rfl
theorem kg_609 : Cond.fieldLink "LaneMachineModel" 63 "LaneMachineModel" "steps" "[I" ∈ kg_G := kg_i3 129 rfl rfl
theorem kg_610 : Cond.fieldLink "LaneMachineModel" 66 "LaneMachineModel" "done" "[I" ∈ kg_G := kg_i3 130 rfl rfl
theorem kg_611 : Cond.fieldLink "LaneMachineModel" 69 "LaneMachineModel" "before" "[I" ∈ kg_G := kg_i3 131 rfl rfl
theorem kg_612 : Cond.fieldLink "LaneMachineModel" 72 "LaneMachineModel" "xa" "[I" ∈ kg_G := kg_i3 132 rfl rfl
theorem kg_613 : Cond.fieldLink "LaneMachineModel" 75 "LaneMachineModel" "xb" "[I" ∈ kg_G := kg_i3 133 rfl rfl
theorem kg_614 : Cond.laysFinal "LaneMachineModel" "LaneMachineModel" "lanes" "I" ∈ kg_G := kg_i3 134 rfl rfl
theorem kg_616 : Cond.lays "LaneMachineModel" "LaneMachineModel" "threw" "I" ∈ kg_G := kg_i3 136 rfl rfl
theorem kg_618 : Cond.lays "LaneMachineModel" "LaneMachineModel" "state" "I" ∈ kg_G := kg_i3 138 rfl rfl
theorem kg_620 : Cond.lays "LaneMachineModel" "LaneMachineModel" "next" "I" ∈ kg_G := kg_i3 140 rfl rfl
theorem kg_622 : Cond.lays "LaneMachineModel" "LaneMachineModel" "width" "I" ∈ kg_G := kg_i3 142 rfl rfl
theorem kg_624 : Cond.lays "LaneMachineModel" "LaneMachineModel" "group" "I" ∈ kg_G := kg_i3 144 rfl rfl
theorem kg_626 : Cond.lays "LaneMachineModel" "LaneMachineModel" "vl" "I" ∈ kg_G := kg_i3 146 rfl rfl
theorem kg_628 : Cond.lays "LaneMachineModel" "LaneMachineModel" "start" "I" ∈ kg_G := kg_i3 148 rfl rfl
theorem kg_630 : Cond.lays "LaneMachineModel" "LaneMachineModel" "bound" "I" ∈ kg_G := kg_i3 150 rfl rfl
theorem kg_632 : Cond.lays "LaneMachineModel" "LaneMachineModel" "cycles" "I" ∈ kg_G := kg_i3 152 rfl rfl
theorem kg_634 : Cond.lays "LaneMachineModel" "LaneMachineModel" "stepsDone" "I" ∈ kg_G := kg_i3 154 rfl rfl
theorem kg_636 : Cond.laysFinal "LaneMachineModel" "LaneMachineModel" "x" "[I" ∈ kg_G := kg_i3 156 rfl rfl
theorem kg_638 : Cond.laysFinal "LaneMachineModel" "LaneMachineModel" "file" "[I" ∈ kg_G := kg_i3 158 rfl rfl
theorem kg_640 : Cond.laysFinal "LaneMachineModel" "LaneMachineModel" "memory" "[I" ∈ kg_G := kg_i3 160 rfl rfl
theorem kg_642 : Cond.lays "LaneMachineModel" "LaneMachineModel" "many" "I" ∈ kg_G := kg_i3 162 rfl rfl
theorem kg_644 : Cond.laysFinal "LaneMachineModel" "LaneMachineModel" "op" "[I" ∈ kg_G := kg_i3 164 rfl rfl
theorem kg_646 : Cond.laysFinal "LaneMachineModel" "LaneMachineModel" "d" "[I" ∈ kg_G := kg_i3 166 rfl rfl
theorem kg_648 : Cond.laysFinal "LaneMachineModel" "LaneMachineModel" "a" "[I" ∈ kg_G := kg_i3 168 rfl rfl
theorem kg_650 : Cond.laysFinal "LaneMachineModel" "LaneMachineModel" "b" "[I" ∈ kg_G := kg_i3 170 rfl rfl
theorem kg_652 : Cond.laysFinal "LaneMachineModel" "LaneMachineModel" "n" "[I" ∈ kg_G := kg_i3 172 rfl rfl
theorem kg_654 : Cond.laysFinal "LaneMachineModel" "LaneMachineModel" "masked" "[Z" ∈ kg_G := kg_i3 174 rfl rfl
theorem kg_656 : Cond.lays "LaneMachineModel" "LaneMachineModel" "queued" "I" ∈ kg_G := kg_i3 176 rfl rfl
theorem kg_658 : Cond.laysFinal "LaneMachineModel" "LaneMachineModel" "which" "[I" ∈ kg_G := kg_i3 178 rfl rfl
theorem kg_660 : Cond.laysFinal "LaneMachineModel" "LaneMachineModel" "wide" "[I" ∈ kg_G := kg_i3 180 rfl rfl
theorem kg_662 : Cond.laysFinal "LaneMachineModel" "LaneMachineModel" "regs" "[I" ∈ kg_G := kg_i3 182 rfl rfl
theorem kg_664 : Cond.laysFinal "LaneMachineModel" "LaneMachineModel" "from" "[I" ∈ kg_G := kg_i3 184 rfl rfl
theorem kg_666 : Cond.laysFinal "LaneMachineModel" "LaneMachineModel" "steps" "[I" ∈ kg_G := kg_i3 186 rfl rfl
theorem kg_668 : Cond.laysFinal "LaneMachineModel" "LaneMachineModel" "done" "[I" ∈ kg_G := kg_i3 188 rfl rfl
theorem kg_670 : Cond.laysFinal "LaneMachineModel" "LaneMachineModel" "before" "[I" ∈ kg_G := kg_i3 190 rfl rfl
theorem kg_672 : Cond.laysFinal "LaneMachineModel" "LaneMachineModel" "xa" "[I" ∈ kg_G := kg_i3 192 rfl rfl
theorem kg_674 : Cond.laysFinal "LaneMachineModel" "LaneMachineModel" "xb" "[I" ∈ kg_G := kg_i3 194 rfl rfl
theorem kg_677 : Cond.arrayClass .boolean ∈ kg_G := kg_i3 197 rfl rfl
theorem kg_678 : Cond.methodLink "LaneMachineLaw" 52 y_R_thrown ∈ kg_G := kg_i3 198 rfl rfl
theorem kg_679 : Cond.instanceMethod y_R_thrown ∈ kg_G := kg_i3 199 rfl rfl
theorem kg_680 : Cond.selects "LaneMachineModel" y_R_thrown y_R_thrown ∈ kg_G := kg_i3 200 rfl rfl
theorem kg_681 : Cond.code y_R_thrown prog_7_method_2_code 1 (some .int) ∈ kg_G := kg_i3 201 rfl rfl
theorem kg_682 : Cond.methodLink "LaneMachineLaw" 65 y_R_cycles ∈ kg_G := kg_i3 202 rfl rfl
theorem kg_683 : Cond.instanceMethod y_R_cycles ∈ kg_G := kg_i3 203 rfl rfl
theorem kg_684 : Cond.selects "LaneMachineModel" y_R_cycles y_R_cycles ∈ kg_G := kg_i3 204 rfl rfl
theorem kg_685 : Cond.code y_R_cycles prog_7_method_31_code 3 (some .int) ∈ kg_G := kg_i3 205 rfl rfl
theorem kg_686 : Cond.methodLink "LaneMachineModel" 198 y_R_units ∈ kg_G := kg_i3 206 rfl rfl
theorem kg_688 : Cond.instanceMethod y_R_units ∈ kg_G := kg_i3 208 rfl rfl
theorem kg_689 : Cond.code y_R_units prog_7_method_20_code 5 none ∈ kg_G := kg_i3 209 rfl rfl
theorem kg_690 : Cond.methodLink "LaneMachineModel" 149 y_R_unit ∈ kg_G := kg_i3 210 rfl rfl
theorem kg_691 : Cond.static y_R_unit ∈ kg_G := kg_i3 211 rfl rfl
theorem kg_692 : Cond.code y_R_unit prog_7_method_9_code 1 (some .int) ∈ kg_G := kg_i3 212 rfl rfl
theorem kg_693 : Cond.methodLink "LaneMachineModel" 152 y_R_free ∈ kg_G := kg_i3 213 rfl rfl
theorem kg_695 : Cond.instanceMethod y_R_free ∈ kg_G := kg_i3 215 rfl rfl
theorem kg_696 : Cond.code y_R_free prog_7_method_13_code 10 (some .boolean) ∈ kg_G := kg_i3 216 rfl rfl
theorem kg_697 : Cond.methodLink "LaneMachineModel" 104 y_R_reads ∈ kg_G := kg_i3 217 rfl rfl
theorem kg_699 : Cond.instanceMethod y_R_reads ∈ kg_G := kg_i3 219 rfl rfl
theorem kg_700 : Cond.code y_R_reads prog_7_method_10_code 11 (some .long) ∈ kg_G := kg_i3 220 rfl rfl
theorem kg_701 : Cond.methodLink "LaneMachineModel" 96 y_R_vlOf ∈ kg_G := kg_i3 221 rfl rfl
theorem kg_703 : Cond.instanceMethod y_R_vlOf ∈ kg_G := kg_i3 223 rfl rfl
theorem kg_704 : Cond.code y_R_vlOf prog_7_method_11_code 2 (some .int) ∈ kg_G := kg_i3 224 rfl rfl
theorem kg_705 : Cond.methodLink "LaneMachineModel" 100 y_R_bytes ∈ kg_G := kg_i3 225 rfl rfl
theorem kg_706 : Cond.static y_R_bytes ∈ kg_G := kg_i3 226 rfl rfl
theorem kg_707 : Cond.code y_R_bytes prog_7_method_3_code 2 (some .long) ∈ kg_G := kg_i3 227 rfl rfl
theorem kg_708 : Cond.methodLink "LaneMachineModel" 107 y_R_writes ∈ kg_G := kg_i3 228 rfl rfl
theorem kg_710 : Cond.instanceMethod y_R_writes ∈ kg_G := kg_i3 230 rfl rfl
theorem kg_711 : Cond.code y_R_writes prog_7_method_12_code 7 (some .long) ∈ kg_G := kg_i3 231 rfl rfl
theorem kg_712 : Cond.methodLink "LaneMachineModel" 155 y_R_does ∈ kg_G := kg_i3 232 rfl rfl
theorem kg_714 : Cond.instanceMethod y_R_does ∈ kg_G := kg_i3 234 rfl rfl
theorem kg_715 : Cond.code y_R_does prog_7_method_19_code 9 none ∈ kg_G := kg_i3 235 rfl rfl
theorem kg_716 : Cond.methodLink "LaneMachineModel" 132 y_R_sums ∈ kg_G := kg_i3 236 rfl rfl
theorem kg_718 : Cond.instanceMethod y_R_sums ∈ kg_G := kg_i3 238 rfl rfl
theorem kg_719 : Cond.code y_R_sums prog_7_method_14_code 8 none ∈ kg_G := kg_i3 239 rfl rfl
theorem kg_720 : Cond.methodLink "LaneMachineModel" 110 y_R_element ∈ kg_G := kg_i4 0 rfl rfl
theorem kg_722 : Cond.instanceMethod y_R_element ∈ kg_G := kg_i4 2 rfl rfl
theorem kg_723 : Cond.code y_R_element prog_7_method_5_code 7 (some .int) ∈ kg_G := kg_i4 3 rfl rfl
theorem kg_724 : Cond.constantLong "LaneMachineModel" 84 256 ∈ kg_G := kg_i4 4 rfl rfl
theorem kg_725 : Cond.methodLink "LaneMachineModel" 86 y_R_signed ∈ kg_G := kg_i4 5 rfl rfl
theorem kg_726 : Cond.static y_R_signed ∈ kg_G := kg_i4 6 rfl rfl
theorem kg_727 : Cond.code y_R_signed prog_7_method_4_code 3 (some .int) ∈ kg_G := kg_i4 7 rfl rfl
theorem kg_728 : Cond.methodLink "LaneMachineModel" 114 y_R_bit ∈ kg_G := kg_i4 8 rfl rfl
theorem kg_730 : Cond.instanceMethod y_R_bit ∈ kg_G := kg_i4 10 rfl rfl
theorem kg_731 : Cond.code y_R_bit prog_7_method_8_code 3 (some .boolean) ∈ kg_G := kg_i4 11 rfl rfl
theorem kg_732 : Cond.methodLink "LaneMachineModel" 118 y_R_set ∈ kg_G := kg_i4 12 rfl rfl
theorem kg_734 : Cond.instanceMethod y_R_set ∈ kg_G := kg_i4 14 rfl rfl
theorem kg_735 : Cond.code y_R_set prog_7_method_6_code 6 none ∈ kg_G := kg_i4 15 rfl rfl
theorem kg_736 : Cond.methodLink "LaneMachineModel" 136 y_R_pairs ∈ kg_G := kg_i4 16 rfl rfl
theorem kg_738 : Cond.instanceMethod y_R_pairs ∈ kg_G := kg_i4 18 rfl rfl
theorem kg_739 : Cond.code y_R_pairs prog_7_method_17_code 7 (some .int) ∈ kg_G := kg_i4 19 rfl rfl
theorem kg_740 : Cond.methodLink "LaneMachineModel" 139 y_R_moves ∈ kg_G := kg_i4 20 rfl rfl
theorem kg_742 : Cond.instanceMethod y_R_moves ∈ kg_G := kg_i4 22 rfl rfl
theorem kg_743 : Cond.code y_R_moves prog_7_method_16_code 7 none ∈ kg_G := kg_i4 23 rfl rfl
theorem kg_744 : Cond.methodLink "LaneMachineModel" 125 y_R_place ∈ kg_G := kg_i4 24 rfl rfl
theorem kg_746 : Cond.instanceMethod y_R_place ∈ kg_G := kg_i4 26 rfl rfl
theorem kg_747 : Cond.code y_R_place prog_7_method_15_code 4 (some .int) ∈ kg_G := kg_i4 27 rfl rfl
theorem kg_748 : Cond.methodLink "LaneMachineModel" 122 y_R_plain ∈ kg_G := kg_i4 28 rfl rfl
theorem kg_749 : Cond.static y_R_plain ∈ kg_G := kg_i4 29 rfl rfl
theorem kg_750 : Cond.code y_R_plain prog_7_method_7_code 2 (some .long) ∈ kg_G := kg_i4 30 rfl rfl
theorem kg_751 : Cond.constantLong "LaneMachineModel" 90 4294967295 ∈ kg_G := kg_i4 31 rfl rfl
theorem kg_752 : Cond.constantLong "LaneMachineModel" 92 65535 ∈ kg_G := kg_i4 32 rfl rfl
theorem kg_753 : Cond.constantLong "LaneMachineModel" 94 255 ∈ kg_G := kg_i4 33 rfl rfl
theorem kg_754 : Cond.methodLink "LaneMachineModel" 143 y_R_picks ∈ kg_G := kg_i4 34 rfl rfl
theorem kg_756 : Cond.instanceMethod y_R_picks ∈ kg_G := kg_i4 36 rfl rfl
theorem kg_757 : Cond.code y_R_picks prog_7_method_18_code 8 (some .int) ∈ kg_G := kg_i4 37 rfl rfl
theorem kg_758 : Cond.methodLink "LaneMachineModel" 201 y_R_leaves ∈ kg_G := kg_i4 38 rfl rfl
theorem kg_760 : Cond.instanceMethod y_R_leaves ∈ kg_G := kg_i4 40 rfl rfl
theorem kg_761 : Cond.code y_R_leaves prog_7_method_21_code 3 none ∈ kg_G := kg_i4 41 rfl rfl
theorem kg_762 : Cond.methodLink "LaneMachineModel" 204 y_R_goesOn ∈ kg_G := kg_i4 42 rfl rfl
theorem kg_764 : Cond.instanceMethod y_R_goesOn ∈ kg_G := kg_i4 44 rfl rfl
theorem kg_765 : Cond.code y_R_goesOn prog_7_method_30_code 2 none ∈ kg_G := kg_i4 45 rfl rfl
theorem kg_766 : Cond.methodLink "LaneMachineModel" 182 y_R_illegal ∈ kg_G := kg_i4 46 rfl rfl
theorem kg_768 : Cond.instanceMethod y_R_illegal ∈ kg_G := kg_i4 48 rfl rfl
theorem kg_769 : Cond.code y_R_illegal prog_7_method_23_code 7 (some .boolean) ∈ kg_G := kg_i4 49 rfl rfl
theorem kg_770 : Cond.methodLink "LaneMachineModel" 158 y_R_odd ∈ kg_G := kg_i4 50 rfl rfl
theorem kg_772 : Cond.instanceMethod y_R_odd ∈ kg_G := kg_i4 52 rfl rfl
theorem kg_773 : Cond.code y_R_odd prog_7_method_22_code 3 (some .boolean) ∈ kg_G := kg_i4 53 rfl rfl
theorem kg_774 : Cond.methodLink "LaneMachineModel" 186 y_R_scalarDone ∈ kg_G := kg_i4 54 rfl rfl
theorem kg_776 : Cond.instanceMethod y_R_scalarDone ∈ kg_G := kg_i4 56 rfl rfl
theorem kg_777 : Cond.code y_R_scalarDone prog_7_method_26_code 4 (some .boolean) ∈ kg_G := kg_i4 57 rfl rfl
theorem kg_778 : Cond.methodLink "LaneMachineModel" 164 y_R_setX ∈ kg_G := kg_i4 58 rfl rfl
theorem kg_780 : Cond.instanceMethod y_R_setX ∈ kg_G := kg_i4 60 rfl rfl
theorem kg_781 : Cond.code y_R_setX prog_7_method_24_code 3 none ∈ kg_G := kg_i4 61 rfl rfl
theorem kg_782 : Cond.methodLink "LaneMachineModel" 173 y_R_configures ∈ kg_G := kg_i4 62 rfl rfl
theorem kg_784 : Cond.instanceMethod y_R_configures ∈ kg_G := kg_i4 64 rfl rfl
theorem kg_785 : Cond.code y_R_configures prog_7_method_25_code 6 none ∈ kg_G := kg_i4 65 rfl rfl
theorem kg_786 : Cond.methodLink "LaneMachineModel" 189 y_R_held ∈ kg_G := kg_i4 66 rfl rfl
theorem kg_788 : Cond.instanceMethod y_R_held ∈ kg_G := kg_i4 68 rfl rfl
theorem kg_789 : Cond.code y_R_held prog_7_method_27_code 7 (some .boolean) ∈ kg_G := kg_i4 69 rfl rfl
theorem kg_790 : Cond.methodLink "LaneMachineModel" 192 y_R_handsOut ∈ kg_G := kg_i4 70 rfl rfl
theorem kg_792 : Cond.instanceMethod y_R_handsOut ∈ kg_G := kg_i4 72 rfl rfl
theorem kg_793 : Cond.code y_R_handsOut prog_7_method_29_code 6 none ∈ kg_G := kg_i4 73 rfl rfl
theorem kg_794 : Cond.methodLink "LaneMachineModel" 176 y_R_bad ∈ kg_G := kg_i4 74 rfl rfl
theorem kg_796 : Cond.instanceMethod y_R_bad ∈ kg_G := kg_i4 76 rfl rfl
theorem kg_797 : Cond.code y_R_bad prog_7_method_28_code 5 (some .int) ∈ kg_G := kg_i4 77 rfl rfl
theorem kg_798 : Cond.methodLink "LaneMachineLaw" 51 y_R_put ∈ kg_G := kg_i4 78 rfl rfl
theorem kg_799 : Cond.instanceMethod y_R_put ∈ kg_G := kg_i4 79 rfl rfl
theorem kg_800 : Cond.selects "LaneMachineModel" y_R_put y_R_put ∈ kg_G := kg_i4 80 rfl rfl
theorem kg_801 : Cond.code y_R_put prog_7_method_33_code 8 (some .int) ∈ kg_G := kg_i4 81 rfl rfl
theorem kg_802 : Cond.methodLink "LaneMachineModel" 207 y_R_isRegister ∈ kg_G := kg_i4 82 rfl rfl
theorem kg_803 : Cond.static y_R_isRegister ∈ kg_G := kg_i4 83 rfl rfl
theorem kg_804 : Cond.code y_R_isRegister prog_7_method_32_code 1 (some .boolean) ∈ kg_G := kg_i4 84 rfl rfl
theorem kg_805 : Cond.methodLink "LaneMachineLaw" 58 y_R_go ∈ kg_G := kg_i4 85 rfl rfl
theorem kg_806 : Cond.instanceMethod y_R_go ∈ kg_G := kg_i4 86 rfl rfl
theorem kg_807 : Cond.selects "LaneMachineModel" y_R_go y_R_go ∈ kg_G := kg_i4 87 rfl rfl
theorem kg_808 : Cond.code y_R_go prog_7_method_34_code 2 (some .int) ∈ kg_G := kg_i4 88 rfl rfl
theorem kg_809 : Cond.methodLink "LaneMachineLaw" 62 y_R_resume ∈ kg_G := kg_i4 89 rfl rfl
theorem kg_810 : Cond.instanceMethod y_R_resume ∈ kg_G := kg_i4 90 rfl rfl
theorem kg_811 : Cond.selects "LaneMachineModel" y_R_resume y_R_resume ∈ kg_G := kg_i4 91 rfl rfl
theorem kg_812 : Cond.code y_R_resume prog_7_method_35_code 1 (some .int) ∈ kg_G := kg_i4 92 rfl rfl
theorem kg_813 : Cond.methodLink "LaneMachineLaw" 69 y_R_poke ∈ kg_G := kg_i4 93 rfl rfl
theorem kg_814 : Cond.instanceMethod y_R_poke ∈ kg_G := kg_i4 94 rfl rfl
theorem kg_815 : Cond.selects "LaneMachineModel" y_R_poke y_R_poke ∈ kg_G := kg_i4 95 rfl rfl
theorem kg_816 : Cond.code y_R_poke prog_7_method_36_code 3 (some .boolean) ∈ kg_G := kg_i4 96 rfl rfl
theorem kg_817 : Cond.methodLink "LaneMachineLaw" 72 y_R_limit ∈ kg_G := kg_i4 97 rfl rfl
theorem kg_818 : Cond.instanceMethod y_R_limit ∈ kg_G := kg_i4 98 rfl rfl
theorem kg_819 : Cond.selects "LaneMachineModel" y_R_limit y_R_limit ∈ kg_G := kg_i4 99 rfl rfl
theorem kg_820 : Cond.code y_R_limit prog_7_method_37_code 2 (some .boolean) ∈ kg_G := kg_i4 100 rfl rfl
theorem kg_821 : Cond.methodLink "LaneMachineLaw" 76 y_R_scalar ∈ kg_G := kg_i4 101 rfl rfl
theorem kg_822 : Cond.instanceMethod y_R_scalar ∈ kg_G := kg_i4 102 rfl rfl
theorem kg_823 : Cond.selects "LaneMachineModel" y_R_scalar y_R_scalar ∈ kg_G := kg_i4 103 rfl rfl
theorem kg_824 : Cond.code y_R_scalar prog_7_method_38_code 2 (some .int) ∈ kg_G := kg_i4 104 rfl rfl
theorem kg_825 : Cond.methodLink "LaneMachineLaw" 80 y_R_file ∈ kg_G := kg_i4 105 rfl rfl
theorem kg_826 : Cond.instanceMethod y_R_file ∈ kg_G := kg_i4 106 rfl rfl
theorem kg_827 : Cond.selects "LaneMachineModel" y_R_file y_R_file ∈ kg_G := kg_i4 107 rfl rfl
theorem kg_828 : Cond.code y_R_file prog_7_method_39_code 2 (some .int) ∈ kg_G := kg_i4 108 rfl rfl
theorem kg_829 : Cond.methodLink "LaneMachineLaw" 84 y_R_memory ∈ kg_G := kg_i4 109 rfl rfl
theorem kg_830 : Cond.instanceMethod y_R_memory ∈ kg_G := kg_i4 110 rfl rfl
theorem kg_831 : Cond.selects "LaneMachineModel" y_R_memory y_R_memory ∈ kg_G := kg_i4 111 rfl rfl
theorem kg_832 : Cond.code y_R_memory prog_7_method_40_code 2 (some .int) ∈ kg_G := kg_i4 112 rfl rfl
theorem kg_833 : Cond.methodLink "LaneMachineLaw" 88 y_R_about ∈ kg_G := kg_i4 113 rfl rfl
theorem kg_834 : Cond.instanceMethod y_R_about ∈ kg_G := kg_i4 114 rfl rfl
theorem kg_835 : Cond.selects "LaneMachineModel" y_R_about y_R_about ∈ kg_G := kg_i4 115 rfl rfl
theorem kg_836 : Cond.code y_R_about prog_7_method_41_code 2 (some .int) ∈ kg_G := kg_i4 116 rfl rfl
theorem kg_837 : Cond.methodLink "LaneMachineLaw" 93 y_R_queue ∈ kg_G := kg_i4 117 rfl rfl
theorem kg_838 : Cond.instanceMethod y_R_queue ∈ kg_G := kg_i4 118 rfl rfl
theorem kg_839 : Cond.selects "LaneMachineModel" y_R_queue y_R_queue ∈ kg_G := kg_i4 119 rfl rfl
theorem kg_840 : Cond.code y_R_queue prog_7_method_42_code 3 (some .int) ∈ kg_G := kg_i4 120 rfl rfl
end
section
theorem in_B : ∀ w ∈ u_ws R_B F_B 1, w ∈ kg_G := by
  intro w hw
  obtain ⟨k, hk, rfl⟩ := List.mem_map.mp hw
  have h : k < 1 := List.mem_range.mp hk
  clear hw hk
  by_cases h0 : k = 0
  · subst h0; exact kg_34
  omega
theorem in_I : ∀ w ∈ u_ws R_I F_I 6, w ∈ kg_G := by
  intro w hw
  obtain ⟨k, hk, rfl⟩ := List.mem_map.mp hw
  have h : k < 6 := List.mem_range.mp hk
  clear hw hk
  by_cases h0 : k = 0
  · subst h0; exact kg_93
  by_cases h1 : k = 1
  · subst h1; exact kg_95
  by_cases h2 : k = 2
  · subst h2; exact kg_97
  by_cases h3 : k = 3
  · subst h3; exact kg_99
  by_cases h4 : k = 4
  · subst h4; exact kg_101
  by_cases h5 : k = 5
  · subst h5; exact kg_103
  omega
theorem in_S : ∀ w ∈ u_ws R_S F_S 4, w ∈ kg_G := by
  intro w hw
  obtain ⟨k, hk, rfl⟩ := List.mem_map.mp hw
  have h : k < 4 := List.mem_range.mp hk
  clear hw hk
  by_cases h0 : k = 0
  · subst h0; exact kg_53
  by_cases h1 : k = 1
  · subst h1; exact kg_55
  by_cases h2 : k = 2
  · subst h2; exact kg_57
  by_cases h3 : k = 3
  · subst h3; exact kg_59
  omega
theorem in_K : ∀ w ∈ u_ws R_K F_K 15, w ∈ kg_G := by
  intro w hw
  obtain ⟨k, hk, rfl⟩ := List.mem_map.mp hw
  have h : k < 15 := List.mem_range.mp hk
  clear hw hk
  by_cases h0 : k = 0
  · subst h0; exact kg_130
  by_cases h1 : k = 1
  · subst h1; exact kg_132
  by_cases h2 : k = 2
  · subst h2; exact kg_134
  by_cases h3 : k = 3
  · subst h3; exact kg_136
  by_cases h4 : k = 4
  · subst h4; exact kg_138
  by_cases h5 : k = 5
  · subst h5; exact kg_140
  by_cases h6 : k = 6
  · subst h6; exact kg_142
  by_cases h7 : k = 7
  · subst h7; exact kg_144
  by_cases h8 : k = 8
  · subst h8; exact kg_146
  by_cases h9 : k = 9
  · subst h9; exact kg_148
  by_cases h10 : k = 10
  · subst h10; exact kg_150
  by_cases h11 : k = 11
  · subst h11; exact kg_152
  by_cases h12 : k = 12
  · subst h12; exact kg_154
  by_cases h13 : k = 13
  · subst h13; exact kg_156
  by_cases h14 : k = 14
  · subst h14; exact kg_158
  omega
theorem in_M : ∀ w ∈ u_ws R_M F_M 14, w ∈ kg_G := by
  intro w hw
  obtain ⟨k, hk, rfl⟩ := List.mem_map.mp hw
  have h : k < 14 := List.mem_range.mp hk
  clear hw hk
  by_cases h0 : k = 0
  · subst h0; exact kg_176
  by_cases h1 : k = 1
  · subst h1; exact kg_178
  by_cases h2 : k = 2
  · subst h2; exact kg_180
  by_cases h3 : k = 3
  · subst h3; exact kg_182
  by_cases h4 : k = 4
  · subst h4; exact kg_184
  by_cases h5 : k = 5
  · subst h5; exact kg_186
  by_cases h6 : k = 6
  · subst h6; exact kg_188
  by_cases h7 : k = 7
  · subst h7; exact kg_190
  by_cases h8 : k = 8
  · subst h8; exact kg_192
  by_cases h9 : k = 9
  · subst h9; exact kg_194
  by_cases h10 : k = 10
  · subst h10; exact kg_196
  by_cases h11 : k = 11
  · subst h11; exact kg_198
  by_cases h12 : k = 12
  · subst h12; exact kg_200
  by_cases h13 : k = 13
  · subst h13; exact kg_202
  omega
theorem in_R : ∀ w ∈ u_ws R_R F_R 31, w ∈ kg_G := by
  intro w hw
  obtain ⟨k, hk, rfl⟩ := List.mem_map.mp hw
  have h : k < 31 := List.mem_range.mp hk
  clear hw hk
  by_cases h0 : k = 0
  · subst h0; exact kg_614
  by_cases h1 : k = 1
  · subst h1; exact kg_616
  by_cases h2 : k = 2
  · subst h2; exact kg_618
  by_cases h3 : k = 3
  · subst h3; exact kg_620
  by_cases h4 : k = 4
  · subst h4; exact kg_622
  by_cases h5 : k = 5
  · subst h5; exact kg_624
  by_cases h6 : k = 6
  · subst h6; exact kg_626
  by_cases h7 : k = 7
  · subst h7; exact kg_628
  by_cases h8 : k = 8
  · subst h8; exact kg_630
  by_cases h9 : k = 9
  · subst h9; exact kg_632
  by_cases h10 : k = 10
  · subst h10; exact kg_634
  by_cases h11 : k = 11
  · subst h11; exact kg_636
  by_cases h12 : k = 12
  · subst h12; exact kg_638
  by_cases h13 : k = 13
  · subst h13; exact kg_640
  by_cases h14 : k = 14
  · subst h14; exact kg_642
  by_cases h15 : k = 15
  · subst h15; exact kg_644
  by_cases h16 : k = 16
  · subst h16; exact kg_646
  by_cases h17 : k = 17
  · subst h17; exact kg_648
  by_cases h18 : k = 18
  · subst h18; exact kg_650
  by_cases h19 : k = 19
  · subst h19; exact kg_652
  by_cases h20 : k = 20
  · subst h20; exact kg_654
  by_cases h21 : k = 21
  · subst h21; exact kg_656
  by_cases h22 : k = 22
  · subst h22; exact kg_658
  by_cases h23 : k = 23
  · subst h23; exact kg_660
  by_cases h24 : k = 24
  · subst h24; exact kg_662
  by_cases h25 : k = 25
  · subst h25; exact kg_664
  by_cases h26 : k = 26
  · subst h26; exact kg_666
  by_cases h27 : k = 27
  · subst h27; exact kg_668
  by_cases h28 : k = 28
  · subst h28; exact kg_670
  by_cases h29 : k = 29
  · subst h29; exact kg_672
  by_cases h30 : k = 30
  · subst h30; exact kg_674
  omega
abbrev b_M_init : ByteArray := prog_1_method_1_code
abbrev w_M_init : List Cond := Cond.code y_M_init b_M_init 4 none :: kg_G
abbrev b_JO_init : ByteArray := object_method_1_code
abbrev w_JO_init : List Cond := Cond.code y_JO_init b_JO_init 1 none :: kg_G
abbrev b_JM_min : ByteArray := prog_11_method_69_code
abbrev w_JM_min : List Cond := Cond.code y_JM_min b_JM_min 2 (some .int) :: kg_G
abbrev b_JM_max : ByteArray := prog_11_method_65_code
abbrev w_JM_max : List Cond := Cond.code y_JM_max b_JM_max 2 (some .int) :: kg_G
abbrev b_B_init : ByteArray := prog_2_method_1_code
abbrev w_B_init : List Cond := Cond.code y_B_init b_B_init 2 none :: kg_G
abbrev b_S_init : ByteArray := prog_4_method_1_code
abbrev w_S_init : List Cond := Cond.code y_S_init b_S_init 1 none :: kg_G
abbrev b_I_init : ByteArray := prog_3_method_1_code
abbrev w_I_init : List Cond := Cond.code y_I_init b_I_init 7 none :: kg_G
abbrev b_K_init : ByteArray := prog_5_method_1_code
abbrev w_K_init : List Cond := Cond.code y_K_init b_K_init 4 none :: kg_G
abbrev b_M_scalar : ByteArray := prog_1_method_8_code
abbrev w_M_scalar : List Cond := Cond.code y_M_scalar b_M_scalar 2 (some .int) :: kg_G
abbrev b_M_file : ByteArray := prog_1_method_9_code
abbrev w_M_file : List Cond := Cond.code y_M_file b_M_file 2 (some .int) :: kg_G
abbrev b_B_number : ByteArray := prog_2_method_2_code
abbrev w_B_number : List Cond := Cond.code y_B_number b_B_number 4 (some .int) :: kg_G
abbrev b_B_bareNumber : ByteArray := prog_2_method_3_code
abbrev w_B_bareNumber : List Cond := Cond.code y_B_bareNumber b_B_bareNumber 5 (some .int) :: kg_G
abbrev b_M_memory : ByteArray := prog_1_method_10_code
abbrev w_M_memory : List Cond := Cond.code y_M_memory b_M_memory 2 (some .int) :: kg_G
abbrev b_M_about : ByteArray := prog_1_method_11_code
abbrev w_M_about : List Cond := Cond.code y_M_about b_M_about 2 (some .int) :: kg_G
abbrev b_S_width : ByteArray := prog_4_method_3_code
abbrev w_S_width : List Cond := Cond.code y_S_width b_S_width 1 (some .int) :: kg_G
abbrev b_S_group : ByteArray := prog_4_method_4_code
abbrev w_S_group : List Cond := Cond.code y_S_group b_S_group 1 (some .int) :: kg_G
abbrev b_M_queue : ByteArray := prog_1_method_12_code
abbrev w_M_queue : List Cond := Cond.code y_M_queue b_M_queue 4 (some .int) :: kg_G
abbrev b_K_steps : ByteArray := prog_5_method_3_code
abbrev w_K_steps : List Cond := Cond.code y_K_steps b_K_steps 2 (some .int) :: kg_G
abbrev b_L_cell : ByteArray := method_2_code
abbrev w_L_cell : List Cond := Cond.code y_L_cell b_L_cell 2 (some .int) :: kg_G
abbrev b_L_put : ByteArray := method_3_code
abbrev w_L_put : List Cond := Cond.codeWith y_L_put b_L_put 9 (some .int) [(0, 18, 21, 13), (0, 18, 25, 15)] :: kg_G
abbrev b_M_put : ByteArray := prog_1_method_2_code
abbrev w_M_put : List Cond := Cond.code y_M_put b_M_put 7 (some .int) :: kg_G
abbrev b_M_isRegister : ByteArray := prog_1_method_13_code
abbrev w_M_isRegister : List Cond := Cond.code y_M_isRegister b_M_isRegister 1 (some .boolean) :: kg_G
abbrev b_JT_init : ByteArray := prog_13_method_1_code
abbrev w_JT_init : List Cond := Cond.code y_JT_init b_JT_init 1 none :: kg_G
abbrev b_JA_init : ByteArray := prog_9_method_1_code
abbrev w_JA_init : List Cond := Cond.code y_JA_init b_JA_init 1 none :: kg_G
abbrev b_JR_init : ByteArray := prog_12_method_1_code
abbrev w_JR_init : List Cond := Cond.code y_JR_init b_JR_init 1 none :: kg_G
abbrev b_JE_init : ByteArray := prog_8_method_1_code
abbrev w_JE_init : List Cond := Cond.code y_JE_init b_JE_init 1 none :: kg_G
abbrev b_S_isCode : ByteArray := prog_4_method_2_code
abbrev w_S_isCode : List Cond := Cond.code y_S_isCode b_S_isCode 1 (some .boolean) :: kg_G
abbrev b_JS_init : ByteArray := prog_10_method_1_code
abbrev w_JS_init : List Cond := Cond.code y_JS_init b_JS_init 1 none :: kg_G
abbrev b_L_go : ByteArray := method_4_code
abbrev w_L_go : List Cond := Cond.codeWith y_L_go b_L_go 4 (some .int) [(0, 9, 12, 13), (0, 9, 15, 15)] :: kg_G
abbrev b_M_go : ByteArray := prog_1_method_3_code
abbrev w_M_go : List Cond := Cond.code y_M_go b_M_go 2 (some .int) :: kg_G
abbrev b_L_resume : ByteArray := method_5_code
abbrev w_L_resume : List Cond := Cond.codeWith y_L_resume b_L_resume 3 (some .int) [(0, 8, 11, 15)] :: kg_G
abbrev b_M_resume : ByteArray := prog_1_method_4_code
abbrev w_M_resume : List Cond := Cond.code y_M_resume b_M_resume 1 (some .int) :: kg_G
abbrev b_L_cycles : ByteArray := method_6_code
abbrev w_L_cycles : List Cond := Cond.codeWith y_L_cycles b_L_cycles 4 (some .int) [(0, 9, 12, 13)] :: kg_G
abbrev b_M_cycles : ByteArray := prog_1_method_5_code
abbrev w_M_cycles : List Cond := Cond.code y_M_cycles b_M_cycles 4 (some .int) :: kg_G
abbrev b_M_noteStepsDone : ByteArray := prog_1_method_14_code
abbrev w_M_noteStepsDone : List Cond := Cond.code y_M_noteStepsDone b_M_noteStepsDone 2 none :: kg_G
abbrev b_M_workUnit : ByteArray := prog_1_method_15_code
abbrev w_M_workUnit : List Cond := Cond.code y_M_workUnit b_M_workUnit 9 none :: kg_G
abbrev b_I_unit : ByteArray := prog_3_method_4_code
abbrev w_I_unit : List Cond := Cond.code y_I_unit b_I_unit 1 (some .int) :: kg_G
abbrev b_K_isNextStepFree : ByteArray := prog_5_method_15_code
abbrev w_K_isNextStepFree : List Cond := Cond.code y_K_isNextStepFree b_K_isNextStepFree 7 (some .boolean) :: kg_G
abbrev b_K_isDone : ByteArray := prog_5_method_14_code
abbrev w_K_isDone : List Cond := Cond.code y_K_isDone b_K_isDone 1 (some .boolean) :: kg_G
abbrev b_K_writesOf : ByteArray := prog_5_method_13_code
abbrev w_K_writesOf : List Cond := Cond.code y_K_writesOf b_K_writesOf 3 (some .long) :: kg_G
abbrev b_K_span : ByteArray := prog_5_method_7_code
abbrev w_K_span : List Cond := Cond.code y_K_span b_K_span 2 (some .long) :: kg_G
abbrev b_K_placeOf : ByteArray := prog_5_method_8_code
abbrev w_K_placeOf : List Cond := Cond.code y_K_placeOf b_K_placeOf 3 (some .int) :: kg_G
abbrev b_K_readsOf : ByteArray := prog_5_method_9_code
abbrev w_K_readsOf : List Cond := Cond.code y_K_readsOf b_K_readsOf 3 (some .long) :: kg_G
abbrev b_K_readsOfSum : ByteArray := prog_5_method_11_code
abbrev w_K_readsOfSum : List Cond := Cond.code y_K_readsOfSum b_K_readsOfSum 4 (some .long) :: kg_G
abbrev b_K_maskByte : ByteArray := prog_5_method_12_code
abbrev w_K_maskByte : List Cond := Cond.code y_K_maskByte b_K_maskByte 2 (some .long) :: kg_G
abbrev b_K_sourcesOf : ByteArray := prog_5_method_10_code
abbrev w_K_sourcesOf : List Cond := Cond.code y_K_sourcesOf b_K_sourcesOf 2 (some .long) :: kg_G
abbrev b_K_isInGroup : ByteArray := prog_5_method_23_code
abbrev w_K_isInGroup : List Cond := Cond.code y_K_isInGroup b_K_isInGroup 2 (some .boolean) :: kg_G
abbrev b_K_doNextStep : ByteArray := prog_5_method_16_code
abbrev w_K_doNextStep : List Cond := Cond.code y_K_doNextStep b_K_doNextStep 2 none :: kg_G
abbrev b_K_isWorkedOn : ByteArray := prog_5_method_17_code
abbrev w_K_isWorkedOn : List Cond := Cond.code y_K_isWorkedOn b_K_isWorkedOn 2 (some .boolean) :: kg_G
abbrev b_K_writeSum : ByteArray := prog_5_method_18_code
abbrev w_K_writeSum : List Cond := Cond.code y_K_writeSum b_K_writeSum 4 none :: kg_G
abbrev b_K_element : ByteArray := prog_5_method_21_code
abbrev w_K_element : List Cond := Cond.code y_K_element b_K_element 3 (some .int) :: kg_G
abbrev b_B_write : ByteArray := prog_2_method_4_code
abbrev w_B_write : List Cond := Cond.code y_B_write b_B_write 5 none :: kg_G
abbrev b_K_writeMaskBit : ByteArray := prog_5_method_19_code
abbrev w_K_writeMaskBit : List Cond := Cond.code y_K_writeMaskBit b_K_writeMaskBit 6 none :: kg_G
abbrev b_K_result : ByteArray := prog_5_method_20_code
abbrev w_K_result : List Cond := Cond.code y_K_result b_K_result 2 (some .int) :: kg_G
abbrev b_K_elementOrZero : ByteArray := prog_5_method_22_code
abbrev w_K_elementOrZero : List Cond := Cond.code y_K_elementOrZero b_K_elementOrZero 3 (some .int) :: kg_G
abbrev b_K_placeInMemory : ByteArray := prog_5_method_24_code
abbrev w_K_placeInMemory : List Cond := Cond.code y_K_placeInMemory b_K_placeInMemory 2 (some .int) :: kg_G
abbrev b_K_readsFromStep : ByteArray := prog_5_method_5_code
abbrev w_K_readsFromStep : List Cond := Cond.code y_K_readsFromStep b_K_readsFromStep 2 (some .long) :: kg_G
abbrev b_K_writesFromStep : ByteArray := prog_5_method_6_code
abbrev w_K_writesFromStep : List Cond := Cond.code y_K_writesFromStep b_K_writesFromStep 2 (some .long) :: kg_G
abbrev b_M_dropFinished : ByteArray := prog_1_method_16_code
abbrev w_M_dropFinished : List Cond := Cond.code y_M_dropFinished b_M_dropFinished 4 none :: kg_G
abbrev b_M_advance : ByteArray := prog_1_method_17_code
abbrev w_M_advance : List Cond := Cond.code y_M_advance b_M_advance 2 none :: kg_G
abbrev b_S_forbids : ByteArray := prog_4_method_7_code
abbrev w_S_forbids : List Cond := Cond.code y_S_forbids b_S_forbids 2 (some .boolean) :: kg_G
abbrev b_I_isVector : ByteArray := prog_3_method_2_code
abbrev w_I_isVector : List Cond := Cond.code y_I_isVector b_I_isVector 1 (some .boolean) :: kg_G
abbrev b_S_isMisplaced : ByteArray := prog_4_method_8_code
abbrev w_S_isMisplaced : List Cond := Cond.code y_S_isMisplaced b_S_isMisplaced 3 (some .boolean) :: kg_G
abbrev b_I_hasGroupAtD : ByteArray := prog_3_method_5_code
abbrev w_I_hasGroupAtD : List Cond := Cond.code y_I_hasGroupAtD b_I_hasGroupAtD 1 (some .boolean) :: kg_G
abbrev b_S_isMultiple : ByteArray := prog_4_method_9_code
abbrev w_S_isMultiple : List Cond := Cond.code y_S_isMultiple b_S_isMultiple 2 (some .boolean) :: kg_G
abbrev b_I_hasGroupAtA : ByteArray := prog_3_method_6_code
abbrev w_I_hasGroupAtA : List Cond := Cond.code y_I_hasGroupAtA b_I_hasGroupAtA 1 (some .boolean) :: kg_G
abbrev b_I_hasGroupAtB : ByteArray := prog_3_method_7_code
abbrev w_I_hasGroupAtB : List Cond := Cond.code y_I_hasGroupAtB b_I_hasGroupAtB 1 (some .boolean) :: kg_G
abbrev b_S_spoilsMask : ByteArray := prog_4_method_10_code
abbrev w_S_spoilsMask : List Cond := Cond.code y_S_spoilsMask b_S_spoilsMask 1 (some .boolean) :: kg_G
abbrev b_S_spoilsSources : ByteArray := prog_4_method_11_code
abbrev w_S_spoilsSources : List Cond := Cond.code y_S_spoilsSources b_S_spoilsSources 2 (some .boolean) :: kg_G
abbrev b_S_isInWideGroup : ByteArray := prog_4_method_12_code
abbrev w_S_isInWideGroup : List Cond := Cond.code y_S_isInWideGroup b_S_isInWideGroup 3 (some .boolean) :: kg_G
abbrev b_S_isTooWide : ByteArray := prog_4_method_13_code
abbrev w_S_isTooWide : List Cond := Cond.code y_S_isTooWide b_S_isTooWide 2 (some .boolean) :: kg_G
abbrev b_M_mustWaitForQueue : ByteArray := prog_1_method_20_code
abbrev w_M_mustWaitForQueue : List Cond := Cond.code y_M_mustWaitForQueue b_M_mustWaitForQueue 6 (some .boolean) :: kg_G
abbrev b_M_handOut : ByteArray := prog_1_method_21_code
abbrev w_M_handOut : List Cond := Cond.code y_M_handOut b_M_handOut 4 none :: kg_G
abbrev b_K_take : ByteArray := prog_5_method_2_code
abbrev w_K_take : List Cond := Cond.code y_K_take b_K_take 6 none :: kg_G
abbrev b_S_most : ByteArray := prog_4_method_5_code
abbrev w_S_most : List Cond := Cond.code y_S_most b_S_most 1 (some .int) :: kg_G
abbrev b_K_firstBad : ByteArray := prog_5_method_25_code
abbrev w_K_firstBad : List Cond := Cond.code y_K_firstBad b_K_firstBad 4 (some .int) :: kg_G
abbrev b_K_foresee : ByteArray := prog_5_method_4_code
abbrev w_K_foresee : List Cond := Cond.code y_K_foresee b_K_foresee 7 none :: kg_G
abbrev b_I_needsEmptyQueue : ByteArray := prog_3_method_3_code
abbrev w_I_needsEmptyQueue : List Cond := Cond.code y_I_needsEmptyQueue b_I_needsEmptyQueue 1 (some .boolean) :: kg_G
abbrev b_M_doScalar : ByteArray := prog_1_method_18_code
abbrev w_M_doScalar : List Cond := Cond.code y_M_doScalar b_M_doScalar 3 none :: kg_G
abbrev b_M_setScalar : ByteArray := prog_1_method_19_code
abbrev w_M_setScalar : List Cond := Cond.code y_M_setScalar b_M_setScalar 3 none :: kg_G
abbrev b_S_configure : ByteArray := prog_4_method_6_code
abbrev w_S_configure : List Cond := Cond.code y_S_configure b_S_configure 3 none :: kg_G
abbrev b_L_poke : ByteArray := method_7_code
abbrev w_L_poke : List Cond := Cond.codeWith y_L_poke b_L_poke 5 (some .int) [(0, 17, 20, 13)] :: kg_G
abbrev b_M_poke : ByteArray := prog_1_method_6_code
abbrev w_M_poke : List Cond := Cond.code y_M_poke b_M_poke 3 (some .boolean) :: kg_G
abbrev b_L_limit : ByteArray := method_8_code
abbrev w_L_limit : List Cond := Cond.codeWith y_L_limit b_L_limit 4 (some .int) [(0, 16, 19, 13), (0, 16, 22, 15)] :: kg_G
abbrev b_M_limit : ByteArray := prog_1_method_7_code
abbrev w_M_limit : List Cond := Cond.code y_M_limit b_M_limit 2 (some .boolean) :: kg_G
abbrev b_R_init : ByteArray := prog_7_method_1_code
abbrev w_R_init : List Cond := Cond.code y_R_init b_R_init 2 none :: kg_G
abbrev b_R_thrown : ByteArray := prog_7_method_2_code
abbrev w_R_thrown : List Cond := Cond.code y_R_thrown b_R_thrown 1 (some .int) :: kg_G
abbrev b_R_cycles : ByteArray := prog_7_method_31_code
abbrev w_R_cycles : List Cond := Cond.code y_R_cycles b_R_cycles 3 (some .int) :: kg_G
abbrev b_R_units : ByteArray := prog_7_method_20_code
abbrev w_R_units : List Cond := Cond.code y_R_units b_R_units 5 none :: kg_G
abbrev b_R_unit : ByteArray := prog_7_method_9_code
abbrev w_R_unit : List Cond := Cond.code y_R_unit b_R_unit 1 (some .int) :: kg_G
abbrev b_R_free : ByteArray := prog_7_method_13_code
abbrev w_R_free : List Cond := Cond.code y_R_free b_R_free 10 (some .boolean) :: kg_G
abbrev b_R_reads : ByteArray := prog_7_method_10_code
abbrev w_R_reads : List Cond := Cond.code y_R_reads b_R_reads 11 (some .long) :: kg_G
abbrev b_R_vlOf : ByteArray := prog_7_method_11_code
abbrev w_R_vlOf : List Cond := Cond.code y_R_vlOf b_R_vlOf 2 (some .int) :: kg_G
abbrev b_R_bytes : ByteArray := prog_7_method_3_code
abbrev w_R_bytes : List Cond := Cond.code y_R_bytes b_R_bytes 2 (some .long) :: kg_G
abbrev b_R_writes : ByteArray := prog_7_method_12_code
abbrev w_R_writes : List Cond := Cond.code y_R_writes b_R_writes 7 (some .long) :: kg_G
abbrev b_R_does : ByteArray := prog_7_method_19_code
abbrev w_R_does : List Cond := Cond.code y_R_does b_R_does 9 none :: kg_G
abbrev b_R_sums : ByteArray := prog_7_method_14_code
abbrev w_R_sums : List Cond := Cond.code y_R_sums b_R_sums 8 none :: kg_G
abbrev b_R_element : ByteArray := prog_7_method_5_code
abbrev w_R_element : List Cond := Cond.code y_R_element b_R_element 7 (some .int) :: kg_G
abbrev b_R_signed : ByteArray := prog_7_method_4_code
abbrev w_R_signed : List Cond := Cond.code y_R_signed b_R_signed 3 (some .int) :: kg_G
abbrev b_R_bit : ByteArray := prog_7_method_8_code
abbrev w_R_bit : List Cond := Cond.code y_R_bit b_R_bit 3 (some .boolean) :: kg_G
abbrev b_R_set : ByteArray := prog_7_method_6_code
abbrev w_R_set : List Cond := Cond.code y_R_set b_R_set 6 none :: kg_G
abbrev b_R_pairs : ByteArray := prog_7_method_17_code
abbrev w_R_pairs : List Cond := Cond.code y_R_pairs b_R_pairs 7 (some .int) :: kg_G
abbrev b_R_moves : ByteArray := prog_7_method_16_code
abbrev w_R_moves : List Cond := Cond.code y_R_moves b_R_moves 7 none :: kg_G
abbrev b_R_place : ByteArray := prog_7_method_15_code
abbrev w_R_place : List Cond := Cond.code y_R_place b_R_place 4 (some .int) :: kg_G
abbrev b_R_plain : ByteArray := prog_7_method_7_code
abbrev w_R_plain : List Cond := Cond.code y_R_plain b_R_plain 2 (some .long) :: kg_G
abbrev b_R_picks : ByteArray := prog_7_method_18_code
abbrev w_R_picks : List Cond := Cond.code y_R_picks b_R_picks 8 (some .int) :: kg_G
abbrev b_R_leaves : ByteArray := prog_7_method_21_code
abbrev w_R_leaves : List Cond := Cond.code y_R_leaves b_R_leaves 3 none :: kg_G
abbrev b_R_goesOn : ByteArray := prog_7_method_30_code
abbrev w_R_goesOn : List Cond := Cond.code y_R_goesOn b_R_goesOn 2 none :: kg_G
abbrev b_R_illegal : ByteArray := prog_7_method_23_code
abbrev w_R_illegal : List Cond := Cond.code y_R_illegal b_R_illegal 7 (some .boolean) :: kg_G
abbrev b_R_odd : ByteArray := prog_7_method_22_code
abbrev w_R_odd : List Cond := Cond.code y_R_odd b_R_odd 3 (some .boolean) :: kg_G
abbrev b_R_scalarDone : ByteArray := prog_7_method_26_code
abbrev w_R_scalarDone : List Cond := Cond.code y_R_scalarDone b_R_scalarDone 4 (some .boolean) :: kg_G
abbrev b_R_setX : ByteArray := prog_7_method_24_code
abbrev w_R_setX : List Cond := Cond.code y_R_setX b_R_setX 3 none :: kg_G
abbrev b_R_configures : ByteArray := prog_7_method_25_code
abbrev w_R_configures : List Cond := Cond.code y_R_configures b_R_configures 6 none :: kg_G
abbrev b_R_held : ByteArray := prog_7_method_27_code
abbrev w_R_held : List Cond := Cond.code y_R_held b_R_held 7 (some .boolean) :: kg_G
abbrev b_R_handsOut : ByteArray := prog_7_method_29_code
abbrev w_R_handsOut : List Cond := Cond.code y_R_handsOut b_R_handsOut 6 none :: kg_G
abbrev b_R_bad : ByteArray := prog_7_method_28_code
abbrev w_R_bad : List Cond := Cond.code y_R_bad b_R_bad 5 (some .int) :: kg_G
abbrev b_R_put : ByteArray := prog_7_method_33_code
abbrev w_R_put : List Cond := Cond.code y_R_put b_R_put 8 (some .int) :: kg_G
abbrev b_R_isRegister : ByteArray := prog_7_method_32_code
abbrev w_R_isRegister : List Cond := Cond.code y_R_isRegister b_R_isRegister 1 (some .boolean) :: kg_G
abbrev b_R_go : ByteArray := prog_7_method_34_code
abbrev w_R_go : List Cond := Cond.code y_R_go b_R_go 2 (some .int) :: kg_G
abbrev b_R_resume : ByteArray := prog_7_method_35_code
abbrev w_R_resume : List Cond := Cond.code y_R_resume b_R_resume 1 (some .int) :: kg_G
abbrev b_R_poke : ByteArray := prog_7_method_36_code
abbrev w_R_poke : List Cond := Cond.code y_R_poke b_R_poke 3 (some .boolean) :: kg_G
abbrev b_R_limit : ByteArray := prog_7_method_37_code
abbrev w_R_limit : List Cond := Cond.code y_R_limit b_R_limit 2 (some .boolean) :: kg_G
abbrev b_R_scalar : ByteArray := prog_7_method_38_code
abbrev w_R_scalar : List Cond := Cond.code y_R_scalar b_R_scalar 2 (some .int) :: kg_G
abbrev b_R_file : ByteArray := prog_7_method_39_code
abbrev w_R_file : List Cond := Cond.code y_R_file b_R_file 2 (some .int) :: kg_G
abbrev b_R_memory : ByteArray := prog_7_method_40_code
abbrev w_R_memory : List Cond := Cond.code y_R_memory b_R_memory 2 (some .int) :: kg_G
abbrev b_R_about : ByteArray := prog_7_method_41_code
abbrev w_R_about : List Cond := Cond.code y_R_about b_R_about 2 (some .int) :: kg_G
abbrev b_R_queue : ByteArray := prog_7_method_42_code
abbrev w_R_queue : List Cond := Cond.code y_R_queue b_R_queue 3 (some .int) :: kg_G
abbrev b_L_law : ByteArray := code
end
section
theorem d_B_init_0 : decode b_B_init 0 = .ok (.aload_n 0, 1) := by decide +kernel
theorem d_B_init_1 : decode b_B_init 1 = .ok (.invokespecial 1, 3) := by decide +kernel
theorem d_B_init_4 : decode b_B_init 4 = .ok (.aload_n 0, 1) := by decide +kernel
theorem d_B_init_5 : decode b_B_init 5 = .ok (.iload_n 1, 1) := by decide +kernel
theorem d_B_init_6 : decode b_B_init 6 = .ok (.newarray .byte, 2) := by decide +kernel
theorem d_B_init_8 : decode b_B_init 8 = .ok (.putfield 7, 3) := by decide +kernel
theorem d_B_init_11 : decode b_B_init 11 = .ok (.return_, 1) := by decide +kernel
theorem d_B_number_0 : decode b_B_number 0 = .ok (.bipush 32, 2) := by decide +kernel
theorem d_B_number_2 : decode b_B_number 2 = .ok (.bipush 8, 2) := by decide +kernel
theorem d_B_number_4 : decode b_B_number 4 = .ok (.iload_n 2, 1) := by decide +kernel
theorem d_B_number_5 : decode b_B_number 5 = .ok (.imul, 1) := by decide +kernel
theorem d_B_number_6 : decode b_B_number 6 = .ok (.isub, 1) := by decide +kernel
theorem d_B_number_7 : decode b_B_number 7 = .ok (.istore_n 3, 1) := by decide +kernel
theorem d_B_number_8 : decode b_B_number 8 = .ok (.aload_n 0, 1) := by decide +kernel
theorem d_B_number_9 : decode b_B_number 9 = .ok (.iload_n 1, 1) := by decide +kernel
theorem d_B_number_10 : decode b_B_number 10 = .ok (.iload_n 2, 1) := by decide +kernel
theorem d_B_number_11 : decode b_B_number 11 = .ok (.invokevirtual 13, 3) := by decide +kernel
theorem d_B_number_14 : decode b_B_number 14 = .ok (.iload_n 3, 1) := by decide +kernel
theorem d_B_number_15 : decode b_B_number 15 = .ok (.ishl, 1) := by decide +kernel
theorem d_B_number_16 : decode b_B_number 16 = .ok (.iload_n 3, 1) := by decide +kernel
theorem d_B_number_17 : decode b_B_number 17 = .ok (.ishr, 1) := by decide +kernel
theorem d_B_number_18 : decode b_B_number 18 = .ok (.ireturn, 1) := by decide +kernel
theorem d_B_bareNumber_0 : decode b_B_bareNumber 0 = .ok (.iconst 0, 1) := by decide +kernel
theorem d_B_bareNumber_1 : decode b_B_bareNumber 1 = .ok (.istore_n 3, 1) := by decide +kernel
theorem d_B_bareNumber_2 : decode b_B_bareNumber 2 = .ok (.iload_n 1, 1) := by decide +kernel
theorem d_B_bareNumber_3 : decode b_B_bareNumber 3 = .ok (.ifCond .lt 49, 3) := by decide +kernel
theorem d_B_bareNumber_6 : decode b_B_bareNumber 6 = .ok (.iload_n 1, 1) := by decide +kernel
theorem d_B_bareNumber_7 : decode b_B_bareNumber 7 = .ok (.aload_n 0, 1) := by decide +kernel
theorem d_B_bareNumber_8 : decode b_B_bareNumber 8 = .ok (.getfield 7, 3) := by decide +kernel
theorem d_B_bareNumber_11 : decode b_B_bareNumber 11 = .ok (.arraylength, 1) := by decide +kernel
theorem d_B_bareNumber_12 : decode b_B_bareNumber 12 = .ok (.iload_n 2, 1) := by decide +kernel
theorem d_B_bareNumber_13 : decode b_B_bareNumber 13 = .ok (.isub, 1) := by decide +kernel
theorem d_B_bareNumber_14 : decode b_B_bareNumber 14 = .ok (.if_icmp .gt 38, 3) := by decide +kernel
theorem d_B_bareNumber_17 : decode b_B_bareNumber 17 = .ok (.iload_n 2, 1) := by decide +kernel
theorem d_B_bareNumber_18 : decode b_B_bareNumber 18 = .ok (.iconst 1, 1) := by decide +kernel
theorem d_B_bareNumber_19 : decode b_B_bareNumber 19 = .ok (.isub, 1) := by decide +kernel
theorem d_B_bareNumber_20 : decode b_B_bareNumber 20 = .ok (.istore 4, 2) := by decide +kernel
theorem d_B_bareNumber_22 : decode b_B_bareNumber 22 = .ok (.iload 4, 2) := by decide +kernel
theorem d_B_bareNumber_24 : decode b_B_bareNumber 24 = .ok (.ifCond .lt 28, 3) := by decide +kernel
theorem d_B_bareNumber_27 : decode b_B_bareNumber 27 = .ok (.iload_n 3, 1) := by decide +kernel
theorem d_B_bareNumber_28 : decode b_B_bareNumber 28 = .ok (.bipush 8, 2) := by decide +kernel
theorem d_B_bareNumber_30 : decode b_B_bareNumber 30 = .ok (.ishl, 1) := by decide +kernel
theorem d_B_bareNumber_31 : decode b_B_bareNumber 31 = .ok (.aload_n 0, 1) := by decide +kernel
theorem d_B_bareNumber_32 : decode b_B_bareNumber 32 = .ok (.getfield 7, 3) := by decide +kernel
theorem d_B_bareNumber_35 : decode b_B_bareNumber 35 = .ok (.iload_n 1, 1) := by decide +kernel
theorem d_B_bareNumber_36 : decode b_B_bareNumber 36 = .ok (.iload 4, 2) := by decide +kernel
theorem d_B_bareNumber_38 : decode b_B_bareNumber 38 = .ok (.iadd, 1) := by decide +kernel
theorem d_B_bareNumber_39 : decode b_B_bareNumber 39 = .ok (.baload, 1) := by decide +kernel
theorem d_B_bareNumber_40 : decode b_B_bareNumber 40 = .ok (.sipush 255, 3) := by decide +kernel
theorem d_B_bareNumber_43 : decode b_B_bareNumber 43 = .ok (.iand, 1) := by decide +kernel
theorem d_B_bareNumber_44 : decode b_B_bareNumber 44 = .ok (.ior, 1) := by decide +kernel
theorem d_B_bareNumber_45 : decode b_B_bareNumber 45 = .ok (.istore_n 3, 1) := by decide +kernel
theorem d_B_bareNumber_46 : decode b_B_bareNumber 46 = .ok (.iinc 4 (-1), 3) := by decide +kernel
theorem d_B_bareNumber_49 : decode b_B_bareNumber 49 = .ok (.goto (-27), 3) := by decide +kernel
theorem d_B_bareNumber_52 : decode b_B_bareNumber 52 = .ok (.iload_n 3, 1) := by decide +kernel
theorem d_B_bareNumber_53 : decode b_B_bareNumber 53 = .ok (.ireturn, 1) := by decide +kernel
theorem d_B_write_0 : decode b_B_write 0 = .ok (.iload_n 1, 1) := by decide +kernel
theorem d_B_write_1 : decode b_B_write 1 = .ok (.ifCond .lt 46, 3) := by decide +kernel
theorem d_B_write_4 : decode b_B_write 4 = .ok (.iload_n 1, 1) := by decide +kernel
theorem d_B_write_5 : decode b_B_write 5 = .ok (.aload_n 0, 1) := by decide +kernel
theorem d_B_write_6 : decode b_B_write 6 = .ok (.getfield 7, 3) := by decide +kernel
theorem d_B_write_9 : decode b_B_write 9 = .ok (.arraylength, 1) := by decide +kernel
theorem d_B_write_10 : decode b_B_write 10 = .ok (.iload_n 2, 1) := by decide +kernel
theorem d_B_write_11 : decode b_B_write 11 = .ok (.isub, 1) := by decide +kernel
theorem d_B_write_12 : decode b_B_write 12 = .ok (.if_icmp .gt 35, 3) := by decide +kernel
theorem d_B_write_15 : decode b_B_write 15 = .ok (.iconst 0, 1) := by decide +kernel
theorem d_B_write_16 : decode b_B_write 16 = .ok (.istore 4, 2) := by decide +kernel
theorem d_B_write_18 : decode b_B_write 18 = .ok (.iload 4, 2) := by decide +kernel
theorem d_B_write_20 : decode b_B_write 20 = .ok (.iload_n 2, 1) := by decide +kernel
theorem d_B_write_21 : decode b_B_write 21 = .ok (.if_icmp .ge 26, 3) := by decide +kernel
theorem d_B_write_24 : decode b_B_write 24 = .ok (.aload_n 0, 1) := by decide +kernel
theorem d_B_write_25 : decode b_B_write 25 = .ok (.getfield 7, 3) := by decide +kernel
theorem d_B_write_28 : decode b_B_write 28 = .ok (.iload_n 1, 1) := by decide +kernel
theorem d_B_write_29 : decode b_B_write 29 = .ok (.iload 4, 2) := by decide +kernel
theorem d_B_write_31 : decode b_B_write 31 = .ok (.iadd, 1) := by decide +kernel
theorem d_B_write_32 : decode b_B_write 32 = .ok (.iload_n 3, 1) := by decide +kernel
theorem d_B_write_33 : decode b_B_write 33 = .ok (.bipush 8, 2) := by decide +kernel
theorem d_B_write_35 : decode b_B_write 35 = .ok (.iload 4, 2) := by decide +kernel
theorem d_B_write_37 : decode b_B_write 37 = .ok (.imul, 1) := by decide +kernel
theorem d_B_write_38 : decode b_B_write 38 = .ok (.ishr, 1) := by decide +kernel
theorem d_B_write_39 : decode b_B_write 39 = .ok (.i2b, 1) := by decide +kernel
theorem d_B_write_40 : decode b_B_write 40 = .ok (.bastore, 1) := by decide +kernel
theorem d_B_write_41 : decode b_B_write 41 = .ok (.iinc 4 1, 3) := by decide +kernel
theorem d_B_write_44 : decode b_B_write 44 = .ok (.goto (-26), 3) := by decide +kernel
theorem d_B_write_47 : decode b_B_write 47 = .ok (.return_, 1) := by decide +kernel
end
section
theorem d_I_init_0 : decode b_I_init 0 = .ok (.aload_n 0, 1) := by decide +kernel
theorem d_I_init_1 : decode b_I_init 1 = .ok (.invokespecial 3, 3) := by decide +kernel
theorem d_I_init_4 : decode b_I_init 4 = .ok (.aload_n 0, 1) := by decide +kernel
theorem d_I_init_5 : decode b_I_init 5 = .ok (.iload_n 1, 1) := by decide +kernel
theorem d_I_init_6 : decode b_I_init 6 = .ok (.putfield 9, 3) := by decide +kernel
theorem d_I_init_9 : decode b_I_init 9 = .ok (.aload_n 0, 1) := by decide +kernel
theorem d_I_init_10 : decode b_I_init 10 = .ok (.iload_n 2, 1) := by decide +kernel
theorem d_I_init_11 : decode b_I_init 11 = .ok (.putfield 15, 3) := by decide +kernel
theorem d_I_init_14 : decode b_I_init 14 = .ok (.aload_n 0, 1) := by decide +kernel
theorem d_I_init_15 : decode b_I_init 15 = .ok (.iload_n 3, 1) := by decide +kernel
theorem d_I_init_16 : decode b_I_init 16 = .ok (.putfield 18, 3) := by decide +kernel
theorem d_I_init_19 : decode b_I_init 19 = .ok (.aload_n 0, 1) := by decide +kernel
theorem d_I_init_20 : decode b_I_init 20 = .ok (.iload 4, 2) := by decide +kernel
theorem d_I_init_22 : decode b_I_init 22 = .ok (.putfield 21, 3) := by decide +kernel
theorem d_I_init_25 : decode b_I_init 25 = .ok (.aload_n 0, 1) := by decide +kernel
theorem d_I_init_26 : decode b_I_init 26 = .ok (.iload 5, 2) := by decide +kernel
theorem d_I_init_28 : decode b_I_init 28 = .ok (.putfield 24, 3) := by decide +kernel
theorem d_I_init_31 : decode b_I_init 31 = .ok (.aload_n 0, 1) := by decide +kernel
theorem d_I_init_32 : decode b_I_init 32 = .ok (.iload 6, 2) := by decide +kernel
theorem d_I_init_34 : decode b_I_init 34 = .ok (.putfield 27, 3) := by decide +kernel
theorem d_I_init_37 : decode b_I_init 37 = .ok (.return_, 1) := by decide +kernel
theorem d_I_unit_0 : decode b_I_unit 0 = .ok (.aload_n 0, 1) := by decide +kernel
theorem d_I_unit_1 : decode b_I_unit 1 = .ok (.getfield 9, 3) := by decide +kernel
theorem d_I_unit_4 : decode b_I_unit 4 = .ok (.bipush 17, 2) := by decide +kernel
theorem d_I_unit_6 : decode b_I_unit 6 = .ok (.if_icmp .lt 5, 3) := by decide +kernel
theorem d_I_unit_9 : decode b_I_unit 9 = .ok (.iconst 2, 1) := by decide +kernel
theorem d_I_unit_10 : decode b_I_unit 10 = .ok (.ireturn, 1) := by decide +kernel
theorem d_I_unit_11 : decode b_I_unit 11 = .ok (.aload_n 0, 1) := by decide +kernel
theorem d_I_unit_12 : decode b_I_unit 12 = .ok (.getfield 9, 3) := by decide +kernel
theorem d_I_unit_15 : decode b_I_unit 15 = .ok (.bipush 10, 2) := by decide +kernel
theorem d_I_unit_17 : decode b_I_unit 17 = .ok (.if_icmp .eq 12, 3) := by decide +kernel
theorem d_I_unit_20 : decode b_I_unit 20 = .ok (.aload_n 0, 1) := by decide +kernel
theorem d_I_unit_21 : decode b_I_unit 21 = .ok (.getfield 9, 3) := by decide +kernel
theorem d_I_unit_24 : decode b_I_unit 24 = .ok (.bipush 14, 2) := by decide +kernel
theorem d_I_unit_26 : decode b_I_unit 26 = .ok (.if_icmp .lt 7, 3) := by decide +kernel
theorem d_I_unit_29 : decode b_I_unit 29 = .ok (.iconst 1, 1) := by decide +kernel
theorem d_I_unit_30 : decode b_I_unit 30 = .ok (.goto 4, 3) := by decide +kernel
theorem d_I_unit_33 : decode b_I_unit 33 = .ok (.iconst 0, 1) := by decide +kernel
theorem d_I_unit_34 : decode b_I_unit 34 = .ok (.ireturn, 1) := by decide +kernel
theorem d_I_isVector_0 : decode b_I_isVector 0 = .ok (.aload_n 0, 1) := by decide +kernel
theorem d_I_isVector_1 : decode b_I_isVector 1 = .ok (.getfield 9, 3) := by decide +kernel
theorem d_I_isVector_4 : decode b_I_isVector 4 = .ok (.bipush 8, 2) := by decide +kernel
theorem d_I_isVector_6 : decode b_I_isVector 6 = .ok (.if_icmp .lt 7, 3) := by decide +kernel
theorem d_I_isVector_9 : decode b_I_isVector 9 = .ok (.iconst 1, 1) := by decide +kernel
theorem d_I_isVector_10 : decode b_I_isVector 10 = .ok (.goto 4, 3) := by decide +kernel
theorem d_I_isVector_13 : decode b_I_isVector 13 = .ok (.iconst 0, 1) := by decide +kernel
theorem d_I_isVector_14 : decode b_I_isVector 14 = .ok (.ireturn, 1) := by decide +kernel
theorem d_I_hasGroupAtD_0 : decode b_I_hasGroupAtD 0 = .ok (.aload_n 0, 1) := by decide +kernel
theorem d_I_hasGroupAtD_1 : decode b_I_hasGroupAtD 1 = .ok (.getfield 9, 3) := by decide +kernel
theorem d_I_hasGroupAtD_4 : decode b_I_hasGroupAtD 4 = .ok (.bipush 12, 2) := by decide +kernel
theorem d_I_hasGroupAtD_6 : decode b_I_hasGroupAtD 6 = .ok (.if_icmp .eq 16, 3) := by decide +kernel
theorem d_I_hasGroupAtD_9 : decode b_I_hasGroupAtD 9 = .ok (.aload_n 0, 1) := by decide +kernel
theorem d_I_hasGroupAtD_10 : decode b_I_hasGroupAtD 10 = .ok (.getfield 9, 3) := by decide +kernel
theorem d_I_hasGroupAtD_13 : decode b_I_hasGroupAtD 13 = .ok (.bipush 14, 2) := by decide +kernel
theorem d_I_hasGroupAtD_15 : decode b_I_hasGroupAtD 15 = .ok (.if_icmp .eq 7, 3) := by decide +kernel
theorem d_I_hasGroupAtD_18 : decode b_I_hasGroupAtD 18 = .ok (.iconst 1, 1) := by decide +kernel
theorem d_I_hasGroupAtD_19 : decode b_I_hasGroupAtD 19 = .ok (.goto 4, 3) := by decide +kernel
theorem d_I_hasGroupAtD_22 : decode b_I_hasGroupAtD 22 = .ok (.iconst 0, 1) := by decide +kernel
theorem d_I_hasGroupAtD_23 : decode b_I_hasGroupAtD 23 = .ok (.ireturn, 1) := by decide +kernel
theorem d_I_hasGroupAtA_0 : decode b_I_hasGroupAtA 0 = .ok (.aload_n 0, 1) := by decide +kernel
theorem d_I_hasGroupAtA_1 : decode b_I_hasGroupAtA 1 = .ok (.getfield 9, 3) := by decide +kernel
theorem d_I_hasGroupAtA_4 : decode b_I_hasGroupAtA 4 = .ok (.bipush 16, 2) := by decide +kernel
theorem d_I_hasGroupAtA_6 : decode b_I_hasGroupAtA 6 = .ok (.if_icmp .gt 7, 3) := by decide +kernel
theorem d_I_hasGroupAtA_9 : decode b_I_hasGroupAtA 9 = .ok (.iconst 1, 1) := by decide +kernel
theorem d_I_hasGroupAtA_10 : decode b_I_hasGroupAtA 10 = .ok (.goto 4, 3) := by decide +kernel
theorem d_I_hasGroupAtA_13 : decode b_I_hasGroupAtA 13 = .ok (.iconst 0, 1) := by decide +kernel
theorem d_I_hasGroupAtA_14 : decode b_I_hasGroupAtA 14 = .ok (.ireturn, 1) := by decide +kernel
theorem d_I_hasGroupAtB_0 : decode b_I_hasGroupAtB 0 = .ok (.aload_n 0, 1) := by decide +kernel
theorem d_I_hasGroupAtB_1 : decode b_I_hasGroupAtB 1 = .ok (.getfield 9, 3) := by decide +kernel
theorem d_I_hasGroupAtB_4 : decode b_I_hasGroupAtB 4 = .ok (.bipush 19, 2) := by decide +kernel
theorem d_I_hasGroupAtB_6 : decode b_I_hasGroupAtB 6 = .ok (.if_icmp .eq 39, 3) := by decide +kernel
theorem d_I_hasGroupAtB_9 : decode b_I_hasGroupAtB 9 = .ok (.aload_n 0, 1) := by decide +kernel
theorem d_I_hasGroupAtB_10 : decode b_I_hasGroupAtB 10 = .ok (.getfield 9, 3) := by decide +kernel
theorem d_I_hasGroupAtB_13 : decode b_I_hasGroupAtB 13 = .ok (.bipush 16, 2) := by decide +kernel
theorem d_I_hasGroupAtB_15 : decode b_I_hasGroupAtB 15 = .ok (.if_icmp .gt 34, 3) := by decide +kernel
theorem d_I_hasGroupAtB_18 : decode b_I_hasGroupAtB 18 = .ok (.aload_n 0, 1) := by decide +kernel
theorem d_I_hasGroupAtB_19 : decode b_I_hasGroupAtB 19 = .ok (.getfield 9, 3) := by decide +kernel
theorem d_I_hasGroupAtB_22 : decode b_I_hasGroupAtB 22 = .ok (.bipush 11, 2) := by decide +kernel
theorem d_I_hasGroupAtB_24 : decode b_I_hasGroupAtB 24 = .ok (.if_icmp .eq 25, 3) := by decide +kernel
theorem d_I_hasGroupAtB_27 : decode b_I_hasGroupAtB 27 = .ok (.aload_n 0, 1) := by decide +kernel
theorem d_I_hasGroupAtB_28 : decode b_I_hasGroupAtB 28 = .ok (.getfield 9, 3) := by decide +kernel
theorem d_I_hasGroupAtB_31 : decode b_I_hasGroupAtB 31 = .ok (.bipush 15, 2) := by decide +kernel
theorem d_I_hasGroupAtB_33 : decode b_I_hasGroupAtB 33 = .ok (.if_icmp .eq 16, 3) := by decide +kernel
theorem d_I_hasGroupAtB_36 : decode b_I_hasGroupAtB 36 = .ok (.aload_n 0, 1) := by decide +kernel
theorem d_I_hasGroupAtB_37 : decode b_I_hasGroupAtB 37 = .ok (.getfield 9, 3) := by decide +kernel
theorem d_I_hasGroupAtB_40 : decode b_I_hasGroupAtB 40 = .ok (.bipush 14, 2) := by decide +kernel
theorem d_I_hasGroupAtB_42 : decode b_I_hasGroupAtB 42 = .ok (.if_icmp .eq 7, 3) := by decide +kernel
theorem d_I_hasGroupAtB_45 : decode b_I_hasGroupAtB 45 = .ok (.iconst 1, 1) := by decide +kernel
theorem d_I_hasGroupAtB_46 : decode b_I_hasGroupAtB 46 = .ok (.goto 4, 3) := by decide +kernel
theorem d_I_hasGroupAtB_49 : decode b_I_hasGroupAtB 49 = .ok (.iconst 0, 1) := by decide +kernel
theorem d_I_hasGroupAtB_50 : decode b_I_hasGroupAtB 50 = .ok (.ireturn, 1) := by decide +kernel
theorem d_I_needsEmptyQueue_0 : decode b_I_needsEmptyQueue 0 = .ok (.aload_n 0, 1) := by decide +kernel
theorem d_I_needsEmptyQueue_1 : decode b_I_needsEmptyQueue 1 = .ok (.getfield 9, 3) := by decide +kernel
theorem d_I_needsEmptyQueue_4 : decode b_I_needsEmptyQueue 4 = .ok (.bipush 7, 2) := by decide +kernel
theorem d_I_needsEmptyQueue_6 : decode b_I_needsEmptyQueue 6 = .ok (.if_icmp .eq 20, 3) := by decide +kernel
theorem d_I_needsEmptyQueue_9 : decode b_I_needsEmptyQueue 9 = .ok (.aload_n 0, 1) := by decide +kernel
theorem d_I_needsEmptyQueue_10 : decode b_I_needsEmptyQueue 10 = .ok (.getfield 9, 3) := by decide +kernel
theorem d_I_needsEmptyQueue_13 : decode b_I_needsEmptyQueue 13 = .ok (.bipush 6, 2) := by decide +kernel
theorem d_I_needsEmptyQueue_15 : decode b_I_needsEmptyQueue 15 = .ok (.if_icmp .eq 11, 3) := by decide +kernel
theorem d_I_needsEmptyQueue_18 : decode b_I_needsEmptyQueue 18 = .ok (.aload_n 0, 1) := by decide +kernel
theorem d_I_needsEmptyQueue_19 : decode b_I_needsEmptyQueue 19 = .ok (.getfield 9, 3) := by decide +kernel
theorem d_I_needsEmptyQueue_22 : decode b_I_needsEmptyQueue 22 = .ok (.iconst 5, 1) := by decide +kernel
theorem d_I_needsEmptyQueue_23 : decode b_I_needsEmptyQueue 23 = .ok (.if_icmp .ne 7, 3) := by decide +kernel
theorem d_I_needsEmptyQueue_26 : decode b_I_needsEmptyQueue 26 = .ok (.iconst 1, 1) := by decide +kernel
theorem d_I_needsEmptyQueue_27 : decode b_I_needsEmptyQueue 27 = .ok (.goto 4, 3) := by decide +kernel
theorem d_I_needsEmptyQueue_30 : decode b_I_needsEmptyQueue 30 = .ok (.iconst 0, 1) := by decide +kernel
theorem d_I_needsEmptyQueue_31 : decode b_I_needsEmptyQueue 31 = .ok (.ireturn, 1) := by decide +kernel
end
section
theorem d_S_init_0 : decode b_S_init 0 = .ok (.aload_n 0, 1) := by decide +kernel
theorem d_S_init_1 : decode b_S_init 1 = .ok (.invokespecial 3, 3) := by decide +kernel
theorem d_S_init_4 : decode b_S_init 4 = .ok (.return_, 1) := by decide +kernel
theorem d_S_width_0 : decode b_S_width 0 = .ok (.iconst 1, 1) := by decide +kernel
theorem d_S_width_1 : decode b_S_width 1 = .ok (.aload_n 0, 1) := by decide +kernel
theorem d_S_width_2 : decode b_S_width 2 = .ok (.getfield 9, 3) := by decide +kernel
theorem d_S_width_5 : decode b_S_width 5 = .ok (.ishl, 1) := by decide +kernel
theorem d_S_width_6 : decode b_S_width 6 = .ok (.ireturn, 1) := by decide +kernel
theorem d_S_group_0 : decode b_S_group 0 = .ok (.iconst 1, 1) := by decide +kernel
theorem d_S_group_1 : decode b_S_group 1 = .ok (.aload_n 0, 1) := by decide +kernel
theorem d_S_group_2 : decode b_S_group 2 = .ok (.getfield 15, 3) := by decide +kernel
theorem d_S_group_5 : decode b_S_group 5 = .ok (.ishl, 1) := by decide +kernel
theorem d_S_group_6 : decode b_S_group 6 = .ok (.ireturn, 1) := by decide +kernel
theorem d_S_isCode_0 : decode b_S_isCode 0 = .ok (.iload_n 0, 1) := by decide +kernel
theorem d_S_isCode_1 : decode b_S_isCode 1 = .ok (.ifCond .lt 20, 3) := by decide +kernel
theorem d_S_isCode_4 : decode b_S_isCode 4 = .ok (.iload_n 0, 1) := by decide +kernel
theorem d_S_isCode_5 : decode b_S_isCode 5 = .ok (.bipush 10, 2) := by decide +kernel
theorem d_S_isCode_7 : decode b_S_isCode 7 = .ok (.if_icmp .gt 14, 3) := by decide +kernel
theorem d_S_isCode_10 : decode b_S_isCode 10 = .ok (.iload_n 0, 1) := by decide +kernel
theorem d_S_isCode_11 : decode b_S_isCode 11 = .ok (.iconst 4, 1) := by decide +kernel
theorem d_S_isCode_12 : decode b_S_isCode 12 = .ok (.irem, 1) := by decide +kernel
theorem d_S_isCode_13 : decode b_S_isCode 13 = .ok (.iconst 3, 1) := by decide +kernel
theorem d_S_isCode_14 : decode b_S_isCode 14 = .ok (.if_icmp .eq 7, 3) := by decide +kernel
theorem d_S_isCode_17 : decode b_S_isCode 17 = .ok (.iconst 1, 1) := by decide +kernel
theorem d_S_isCode_18 : decode b_S_isCode 18 = .ok (.goto 4, 3) := by decide +kernel
theorem d_S_isCode_21 : decode b_S_isCode 21 = .ok (.iconst 0, 1) := by decide +kernel
theorem d_S_isCode_22 : decode b_S_isCode 22 = .ok (.ireturn, 1) := by decide +kernel
theorem d_S_forbids_0 : decode b_S_forbids 0 = .ok (.aload_n 1, 1) := by decide +kernel
theorem d_S_forbids_1 : decode b_S_forbids 1 = .ok (.invokevirtual 37, 3) := by decide +kernel
theorem d_S_forbids_4 : decode b_S_forbids 4 = .ok (.ifCond .eq 38, 3) := by decide +kernel
theorem d_S_forbids_7 : decode b_S_forbids 7 = .ok (.aload_n 0, 1) := by decide +kernel
theorem d_S_forbids_8 : decode b_S_forbids 8 = .ok (.aload_n 1, 1) := by decide +kernel
theorem d_S_forbids_9 : decode b_S_forbids 9 = .ok (.invokevirtual 43, 3) := by decide +kernel
theorem d_S_forbids_12 : decode b_S_forbids 12 = .ok (.ifCond .ne 26, 3) := by decide +kernel
theorem d_S_forbids_15 : decode b_S_forbids 15 = .ok (.aload_n 1, 1) := by decide +kernel
theorem d_S_forbids_16 : decode b_S_forbids 16 = .ok (.invokestatic 47, 3) := by decide +kernel
theorem d_S_forbids_19 : decode b_S_forbids 19 = .ok (.ifCond .ne 19, 3) := by decide +kernel
theorem d_S_forbids_22 : decode b_S_forbids 22 = .ok (.aload_n 0, 1) := by decide +kernel
theorem d_S_forbids_23 : decode b_S_forbids 23 = .ok (.aload_n 1, 1) := by decide +kernel
theorem d_S_forbids_24 : decode b_S_forbids 24 = .ok (.invokevirtual 50, 3) := by decide +kernel
theorem d_S_forbids_27 : decode b_S_forbids 27 = .ok (.ifCond .ne 11, 3) := by decide +kernel
theorem d_S_forbids_30 : decode b_S_forbids 30 = .ok (.aload_n 0, 1) := by decide +kernel
theorem d_S_forbids_31 : decode b_S_forbids 31 = .ok (.aload_n 1, 1) := by decide +kernel
theorem d_S_forbids_32 : decode b_S_forbids 32 = .ok (.invokevirtual 53, 3) := by decide +kernel
theorem d_S_forbids_35 : decode b_S_forbids 35 = .ok (.ifCond .eq 7, 3) := by decide +kernel
theorem d_S_forbids_38 : decode b_S_forbids 38 = .ok (.iconst 1, 1) := by decide +kernel
theorem d_S_forbids_39 : decode b_S_forbids 39 = .ok (.goto 4, 3) := by decide +kernel
theorem d_S_forbids_42 : decode b_S_forbids 42 = .ok (.iconst 0, 1) := by decide +kernel
theorem d_S_forbids_43 : decode b_S_forbids 43 = .ok (.ireturn, 1) := by decide +kernel
theorem d_S_isMisplaced_0 : decode b_S_isMisplaced 0 = .ok (.aload_n 1, 1) := by decide +kernel
theorem d_S_isMisplaced_1 : decode b_S_isMisplaced 1 = .ok (.getfield 56, 3) := by decide +kernel
theorem d_S_isMisplaced_4 : decode b_S_isMisplaced 4 = .ok (.bipush 13, 2) := by decide +kernel
theorem d_S_isMisplaced_6 : decode b_S_isMisplaced 6 = .ok (.if_icmp .ne 12, 3) := by decide +kernel
theorem d_S_isMisplaced_9 : decode b_S_isMisplaced 9 = .ok (.iconst 2, 1) := by decide +kernel
theorem d_S_isMisplaced_10 : decode b_S_isMisplaced 10 = .ok (.aload_n 0, 1) := by decide +kernel
theorem d_S_isMisplaced_11 : decode b_S_isMisplaced 11 = .ok (.invokevirtual 59, 3) := by decide +kernel
theorem d_S_isMisplaced_14 : decode b_S_isMisplaced 14 = .ok (.imul, 1) := by decide +kernel
theorem d_S_isMisplaced_15 : decode b_S_isMisplaced 15 = .ok (.goto 7, 3) := by decide +kernel
theorem d_S_isMisplaced_18 : decode b_S_isMisplaced 18 = .ok (.aload_n 0, 1) := by decide +kernel
theorem d_S_isMisplaced_19 : decode b_S_isMisplaced 19 = .ok (.invokevirtual 59, 3) := by decide +kernel
theorem d_S_isMisplaced_22 : decode b_S_isMisplaced 22 = .ok (.istore_n 2, 1) := by decide +kernel
theorem d_S_isMisplaced_23 : decode b_S_isMisplaced 23 = .ok (.aload_n 1, 1) := by decide +kernel
theorem d_S_isMisplaced_24 : decode b_S_isMisplaced 24 = .ok (.invokevirtual 62, 3) := by decide +kernel
theorem d_S_isMisplaced_27 : decode b_S_isMisplaced 27 = .ok (.ifCond .eq 14, 3) := by decide +kernel
theorem d_S_isMisplaced_30 : decode b_S_isMisplaced 30 = .ok (.aload_n 1, 1) := by decide +kernel
theorem d_S_isMisplaced_31 : decode b_S_isMisplaced 31 = .ok (.getfield 65, 3) := by decide +kernel
theorem d_S_isMisplaced_34 : decode b_S_isMisplaced 34 = .ok (.iload_n 2, 1) := by decide +kernel
theorem d_S_isMisplaced_35 : decode b_S_isMisplaced 35 = .ok (.invokestatic 68, 3) := by decide +kernel
theorem d_S_isMisplaced_38 : decode b_S_isMisplaced 38 = .ok (.ifCond .eq 45, 3) := by decide +kernel
theorem d_S_isMisplaced_41 : decode b_S_isMisplaced 41 = .ok (.aload_n 1, 1) := by decide +kernel
theorem d_S_isMisplaced_42 : decode b_S_isMisplaced 42 = .ok (.invokevirtual 72, 3) := by decide +kernel
theorem d_S_isMisplaced_45 : decode b_S_isMisplaced 45 = .ok (.ifCond .eq 17, 3) := by decide +kernel
theorem d_S_isMisplaced_48 : decode b_S_isMisplaced 48 = .ok (.aload_n 1, 1) := by decide +kernel
theorem d_S_isMisplaced_49 : decode b_S_isMisplaced 49 = .ok (.getfield 75, 3) := by decide +kernel
theorem d_S_isMisplaced_52 : decode b_S_isMisplaced 52 = .ok (.aload_n 0, 1) := by decide +kernel
theorem d_S_isMisplaced_53 : decode b_S_isMisplaced 53 = .ok (.invokevirtual 59, 3) := by decide +kernel
theorem d_S_isMisplaced_56 : decode b_S_isMisplaced 56 = .ok (.invokestatic 68, 3) := by decide +kernel
theorem d_S_isMisplaced_59 : decode b_S_isMisplaced 59 = .ok (.ifCond .eq 24, 3) := by decide +kernel
theorem d_S_isMisplaced_62 : decode b_S_isMisplaced 62 = .ok (.aload_n 1, 1) := by decide +kernel
theorem d_S_isMisplaced_63 : decode b_S_isMisplaced 63 = .ok (.invokevirtual 78, 3) := by decide +kernel
theorem d_S_isMisplaced_66 : decode b_S_isMisplaced 66 = .ok (.ifCond .eq 21, 3) := by decide +kernel
theorem d_S_isMisplaced_69 : decode b_S_isMisplaced 69 = .ok (.aload_n 1, 1) := by decide +kernel
theorem d_S_isMisplaced_70 : decode b_S_isMisplaced 70 = .ok (.getfield 81, 3) := by decide +kernel
theorem d_S_isMisplaced_73 : decode b_S_isMisplaced 73 = .ok (.aload_n 0, 1) := by decide +kernel
theorem d_S_isMisplaced_74 : decode b_S_isMisplaced 74 = .ok (.invokevirtual 59, 3) := by decide +kernel
theorem d_S_isMisplaced_77 : decode b_S_isMisplaced 77 = .ok (.invokestatic 68, 3) := by decide +kernel
theorem d_S_isMisplaced_80 : decode b_S_isMisplaced 80 = .ok (.ifCond .ne 7, 3) := by decide +kernel
theorem d_S_isMisplaced_83 : decode b_S_isMisplaced 83 = .ok (.iconst 1, 1) := by decide +kernel
theorem d_S_isMisplaced_84 : decode b_S_isMisplaced 84 = .ok (.goto 4, 3) := by decide +kernel
theorem d_S_isMisplaced_87 : decode b_S_isMisplaced 87 = .ok (.iconst 0, 1) := by decide +kernel
theorem d_S_isMisplaced_88 : decode b_S_isMisplaced 88 = .ok (.ireturn, 1) := by decide +kernel
theorem d_S_isMultiple_0 : decode b_S_isMultiple 0 = .ok (.iload_n 0, 1) := by decide +kernel
theorem d_S_isMultiple_1 : decode b_S_isMultiple 1 = .ok (.iload_n 1, 1) := by decide +kernel
theorem d_S_isMultiple_2 : decode b_S_isMultiple 2 = .ok (.iconst 1, 1) := by decide +kernel
theorem d_S_isMultiple_3 : decode b_S_isMultiple 3 = .ok (.isub, 1) := by decide +kernel
theorem d_S_isMultiple_4 : decode b_S_isMultiple 4 = .ok (.iand, 1) := by decide +kernel
theorem d_S_isMultiple_5 : decode b_S_isMultiple 5 = .ok (.ifCond .ne 7, 3) := by decide +kernel
theorem d_S_isMultiple_8 : decode b_S_isMultiple 8 = .ok (.iconst 1, 1) := by decide +kernel
theorem d_S_isMultiple_9 : decode b_S_isMultiple 9 = .ok (.goto 4, 3) := by decide +kernel
theorem d_S_isMultiple_12 : decode b_S_isMultiple 12 = .ok (.iconst 0, 1) := by decide +kernel
theorem d_S_isMultiple_13 : decode b_S_isMultiple 13 = .ok (.ireturn, 1) := by decide +kernel
theorem d_S_spoilsMask_0 : decode b_S_spoilsMask 0 = .ok (.aload_n 0, 1) := by decide +kernel
theorem d_S_spoilsMask_1 : decode b_S_spoilsMask 1 = .ok (.getfield 84, 3) := by decide +kernel
theorem d_S_spoilsMask_4 : decode b_S_spoilsMask 4 = .ok (.ifCond .eq 32, 3) := by decide +kernel
theorem d_S_spoilsMask_7 : decode b_S_spoilsMask 7 = .ok (.aload_n 0, 1) := by decide +kernel
theorem d_S_spoilsMask_8 : decode b_S_spoilsMask 8 = .ok (.getfield 65, 3) := by decide +kernel
theorem d_S_spoilsMask_11 : decode b_S_spoilsMask 11 = .ok (.ifCond .ne 25, 3) := by decide +kernel
theorem d_S_spoilsMask_14 : decode b_S_spoilsMask 14 = .ok (.aload_n 0, 1) := by decide +kernel
theorem d_S_spoilsMask_15 : decode b_S_spoilsMask 15 = .ok (.getfield 56, 3) := by decide +kernel
theorem d_S_spoilsMask_18 : decode b_S_spoilsMask 18 = .ok (.bipush 12, 2) := by decide +kernel
theorem d_S_spoilsMask_20 : decode b_S_spoilsMask 20 = .ok (.if_icmp .eq 16, 3) := by decide +kernel
theorem d_S_spoilsMask_23 : decode b_S_spoilsMask 23 = .ok (.aload_n 0, 1) := by decide +kernel
theorem d_S_spoilsMask_24 : decode b_S_spoilsMask 24 = .ok (.getfield 56, 3) := by decide +kernel
theorem d_S_spoilsMask_27 : decode b_S_spoilsMask 27 = .ok (.bipush 18, 2) := by decide +kernel
theorem d_S_spoilsMask_29 : decode b_S_spoilsMask 29 = .ok (.if_icmp .eq 7, 3) := by decide +kernel
theorem d_S_spoilsMask_32 : decode b_S_spoilsMask 32 = .ok (.iconst 1, 1) := by decide +kernel
theorem d_S_spoilsMask_33 : decode b_S_spoilsMask 33 = .ok (.goto 4, 3) := by decide +kernel
theorem d_S_spoilsMask_36 : decode b_S_spoilsMask 36 = .ok (.iconst 0, 1) := by decide +kernel
theorem d_S_spoilsMask_37 : decode b_S_spoilsMask 37 = .ok (.ireturn, 1) := by decide +kernel
theorem d_S_spoilsSources_0 : decode b_S_spoilsSources 0 = .ok (.aload_n 1, 1) := by decide +kernel
theorem d_S_spoilsSources_1 : decode b_S_spoilsSources 1 = .ok (.getfield 56, 3) := by decide +kernel
theorem d_S_spoilsSources_4 : decode b_S_spoilsSources 4 = .ok (.tableswitch 113 13 16 #[77, 113, 32, 49], 32) := by decide +kernel
theorem d_S_spoilsSources_36 : decode b_S_spoilsSources 36 = .ok (.aload_n 1, 1) := by decide +kernel
theorem d_S_spoilsSources_37 : decode b_S_spoilsSources 37 = .ok (.getfield 65, 3) := by decide +kernel
theorem d_S_spoilsSources_40 : decode b_S_spoilsSources 40 = .ok (.aload_n 1, 1) := by decide +kernel
theorem d_S_spoilsSources_41 : decode b_S_spoilsSources 41 = .ok (.getfield 75, 3) := by decide +kernel
theorem d_S_spoilsSources_44 : decode b_S_spoilsSources 44 = .ok (.if_icmp .ne 7, 3) := by decide +kernel
theorem d_S_spoilsSources_47 : decode b_S_spoilsSources 47 = .ok (.iconst 1, 1) := by decide +kernel
theorem d_S_spoilsSources_48 : decode b_S_spoilsSources 48 = .ok (.goto 4, 3) := by decide +kernel
theorem d_S_spoilsSources_51 : decode b_S_spoilsSources 51 = .ok (.iconst 0, 1) := by decide +kernel
theorem d_S_spoilsSources_52 : decode b_S_spoilsSources 52 = .ok (.ireturn, 1) := by decide +kernel
theorem d_S_spoilsSources_53 : decode b_S_spoilsSources 53 = .ok (.aload_n 1, 1) := by decide +kernel
theorem d_S_spoilsSources_54 : decode b_S_spoilsSources 54 = .ok (.getfield 65, 3) := by decide +kernel
theorem d_S_spoilsSources_57 : decode b_S_spoilsSources 57 = .ok (.aload_n 1, 1) := by decide +kernel
theorem d_S_spoilsSources_58 : decode b_S_spoilsSources 58 = .ok (.getfield 75, 3) := by decide +kernel
theorem d_S_spoilsSources_61 : decode b_S_spoilsSources 61 = .ok (.if_icmp .eq 14, 3) := by decide +kernel
theorem d_S_spoilsSources_64 : decode b_S_spoilsSources 64 = .ok (.aload_n 1, 1) := by decide +kernel
theorem d_S_spoilsSources_65 : decode b_S_spoilsSources 65 = .ok (.getfield 65, 3) := by decide +kernel
theorem d_S_spoilsSources_68 : decode b_S_spoilsSources 68 = .ok (.aload_n 1, 1) := by decide +kernel
theorem d_S_spoilsSources_69 : decode b_S_spoilsSources 69 = .ok (.getfield 81, 3) := by decide +kernel
theorem d_S_spoilsSources_72 : decode b_S_spoilsSources 72 = .ok (.if_icmp .ne 7, 3) := by decide +kernel
theorem d_S_spoilsSources_75 : decode b_S_spoilsSources 75 = .ok (.iconst 1, 1) := by decide +kernel
theorem d_S_spoilsSources_76 : decode b_S_spoilsSources 76 = .ok (.goto 4, 3) := by decide +kernel
theorem d_S_spoilsSources_79 : decode b_S_spoilsSources 79 = .ok (.iconst 0, 1) := by decide +kernel
theorem d_S_spoilsSources_80 : decode b_S_spoilsSources 80 = .ok (.ireturn, 1) := by decide +kernel
theorem d_S_spoilsSources_81 : decode b_S_spoilsSources 81 = .ok (.aload_n 0, 1) := by decide +kernel
theorem d_S_spoilsSources_82 : decode b_S_spoilsSources 82 = .ok (.aload_n 1, 1) := by decide +kernel
theorem d_S_spoilsSources_83 : decode b_S_spoilsSources 83 = .ok (.getfield 65, 3) := by decide +kernel
theorem d_S_spoilsSources_86 : decode b_S_spoilsSources 86 = .ok (.aload_n 1, 1) := by decide +kernel
theorem d_S_spoilsSources_87 : decode b_S_spoilsSources 87 = .ok (.getfield 75, 3) := by decide +kernel
theorem d_S_spoilsSources_90 : decode b_S_spoilsSources 90 = .ok (.invokevirtual 88, 3) := by decide +kernel
theorem d_S_spoilsSources_93 : decode b_S_spoilsSources 93 = .ok (.ifCond .ne 18, 3) := by decide +kernel
theorem d_S_spoilsSources_96 : decode b_S_spoilsSources 96 = .ok (.aload_n 0, 1) := by decide +kernel
theorem d_S_spoilsSources_97 : decode b_S_spoilsSources 97 = .ok (.aload_n 1, 1) := by decide +kernel
theorem d_S_spoilsSources_98 : decode b_S_spoilsSources 98 = .ok (.getfield 65, 3) := by decide +kernel
theorem d_S_spoilsSources_101 : decode b_S_spoilsSources 101 = .ok (.aload_n 1, 1) := by decide +kernel
theorem d_S_spoilsSources_102 : decode b_S_spoilsSources 102 = .ok (.getfield 81, 3) := by decide +kernel
theorem d_S_spoilsSources_105 : decode b_S_spoilsSources 105 = .ok (.invokevirtual 88, 3) := by decide +kernel
theorem d_S_spoilsSources_108 : decode b_S_spoilsSources 108 = .ok (.ifCond .eq 7, 3) := by decide +kernel
theorem d_S_spoilsSources_111 : decode b_S_spoilsSources 111 = .ok (.iconst 1, 1) := by decide +kernel
theorem d_S_spoilsSources_112 : decode b_S_spoilsSources 112 = .ok (.goto 4, 3) := by decide +kernel
theorem d_S_spoilsSources_115 : decode b_S_spoilsSources 115 = .ok (.iconst 0, 1) := by decide +kernel
theorem d_S_spoilsSources_116 : decode b_S_spoilsSources 116 = .ok (.ireturn, 1) := by decide +kernel
theorem d_S_spoilsSources_117 : decode b_S_spoilsSources 117 = .ok (.iconst 0, 1) := by decide +kernel
theorem d_S_spoilsSources_118 : decode b_S_spoilsSources 118 = .ok (.ireturn, 1) := by decide +kernel
theorem d_S_isInWideGroup_0 : decode b_S_isInWideGroup 0 = .ok (.iload_n 2, 1) := by decide +kernel
theorem d_S_isInWideGroup_1 : decode b_S_isInWideGroup 1 = .ok (.iload_n 1, 1) := by decide +kernel
theorem d_S_isInWideGroup_2 : decode b_S_isInWideGroup 2 = .ok (.if_icmp .lt 19, 3) := by decide +kernel
theorem d_S_isInWideGroup_5 : decode b_S_isInWideGroup 5 = .ok (.iload_n 2, 1) := by decide +kernel
theorem d_S_isInWideGroup_6 : decode b_S_isInWideGroup 6 = .ok (.iload_n 1, 1) := by decide +kernel
theorem d_S_isInWideGroup_7 : decode b_S_isInWideGroup 7 = .ok (.iconst 2, 1) := by decide +kernel
theorem d_S_isInWideGroup_8 : decode b_S_isInWideGroup 8 = .ok (.aload_n 0, 1) := by decide +kernel
theorem d_S_isInWideGroup_9 : decode b_S_isInWideGroup 9 = .ok (.invokevirtual 59, 3) := by decide +kernel
theorem d_S_isInWideGroup_12 : decode b_S_isInWideGroup 12 = .ok (.imul, 1) := by decide +kernel
theorem d_S_isInWideGroup_13 : decode b_S_isInWideGroup 13 = .ok (.iadd, 1) := by decide +kernel
theorem d_S_isInWideGroup_14 : decode b_S_isInWideGroup 14 = .ok (.if_icmp .ge 7, 3) := by decide +kernel
theorem d_S_isInWideGroup_17 : decode b_S_isInWideGroup 17 = .ok (.iconst 1, 1) := by decide +kernel
theorem d_S_isInWideGroup_18 : decode b_S_isInWideGroup 18 = .ok (.goto 4, 3) := by decide +kernel
theorem d_S_isInWideGroup_21 : decode b_S_isInWideGroup 21 = .ok (.iconst 0, 1) := by decide +kernel
theorem d_S_isInWideGroup_22 : decode b_S_isInWideGroup 22 = .ok (.ireturn, 1) := by decide +kernel
theorem d_S_isTooWide_0 : decode b_S_isTooWide 0 = .ok (.aload_n 1, 1) := by decide +kernel
theorem d_S_isTooWide_1 : decode b_S_isTooWide 1 = .ok (.getfield 56, 3) := by decide +kernel
theorem d_S_isTooWide_4 : decode b_S_isTooWide 4 = .ok (.bipush 13, 2) := by decide +kernel
theorem d_S_isTooWide_6 : decode b_S_isTooWide 6 = .ok (.if_icmp .ne 23, 3) := by decide +kernel
theorem d_S_isTooWide_9 : decode b_S_isTooWide 9 = .ok (.aload_n 0, 1) := by decide +kernel
theorem d_S_isTooWide_10 : decode b_S_isTooWide 10 = .ok (.invokevirtual 91, 3) := by decide +kernel
theorem d_S_isTooWide_13 : decode b_S_isTooWide 13 = .ok (.iconst 4, 1) := by decide +kernel
theorem d_S_isTooWide_14 : decode b_S_isTooWide 14 = .ok (.if_icmp .eq 11, 3) := by decide +kernel
theorem d_S_isTooWide_17 : decode b_S_isTooWide 17 = .ok (.aload_n 0, 1) := by decide +kernel
theorem d_S_isTooWide_18 : decode b_S_isTooWide 18 = .ok (.invokevirtual 59, 3) := by decide +kernel
theorem d_S_isTooWide_21 : decode b_S_isTooWide 21 = .ok (.iconst 4, 1) := by decide +kernel
theorem d_S_isTooWide_22 : decode b_S_isTooWide 22 = .ok (.if_icmp .ne 7, 3) := by decide +kernel
theorem d_S_isTooWide_25 : decode b_S_isTooWide 25 = .ok (.iconst 1, 1) := by decide +kernel
theorem d_S_isTooWide_26 : decode b_S_isTooWide 26 = .ok (.goto 4, 3) := by decide +kernel
theorem d_S_isTooWide_29 : decode b_S_isTooWide 29 = .ok (.iconst 0, 1) := by decide +kernel
theorem d_S_isTooWide_30 : decode b_S_isTooWide 30 = .ok (.ireturn, 1) := by decide +kernel
theorem d_S_most_0 : decode b_S_most 0 = .ok (.bipush 8, 2) := by decide +kernel
theorem d_S_most_2 : decode b_S_most 2 = .ok (.aload_n 0, 1) := by decide +kernel
theorem d_S_most_3 : decode b_S_most 3 = .ok (.getfield 15, 3) := by decide +kernel
theorem d_S_most_6 : decode b_S_most 6 = .ok (.ishl, 1) := by decide +kernel
theorem d_S_most_7 : decode b_S_most 7 = .ok (.aload_n 0, 1) := by decide +kernel
theorem d_S_most_8 : decode b_S_most 8 = .ok (.getfield 9, 3) := by decide +kernel
theorem d_S_most_11 : decode b_S_most 11 = .ok (.ishr, 1) := by decide +kernel
theorem d_S_most_12 : decode b_S_most 12 = .ok (.ireturn, 1) := by decide +kernel
theorem d_S_configure_0 : decode b_S_configure 0 = .ok (.aload_n 0, 1) := by decide +kernel
theorem d_S_configure_1 : decode b_S_configure 1 = .ok (.iload_n 1, 1) := by decide +kernel
theorem d_S_configure_2 : decode b_S_configure 2 = .ok (.iconst 4, 1) := by decide +kernel
theorem d_S_configure_3 : decode b_S_configure 3 = .ok (.irem, 1) := by decide +kernel
theorem d_S_configure_4 : decode b_S_configure 4 = .ok (.putfield 9, 3) := by decide +kernel
theorem d_S_configure_7 : decode b_S_configure 7 = .ok (.aload_n 0, 1) := by decide +kernel
theorem d_S_configure_8 : decode b_S_configure 8 = .ok (.iload_n 1, 1) := by decide +kernel
theorem d_S_configure_9 : decode b_S_configure 9 = .ok (.iconst 4, 1) := by decide +kernel
theorem d_S_configure_10 : decode b_S_configure 10 = .ok (.idiv, 1) := by decide +kernel
theorem d_S_configure_11 : decode b_S_configure 11 = .ok (.putfield 15, 3) := by decide +kernel
theorem d_S_configure_14 : decode b_S_configure 14 = .ok (.aload_n 0, 1) := by decide +kernel
theorem d_S_configure_15 : decode b_S_configure 15 = .ok (.iconst 0, 1) := by decide +kernel
theorem d_S_configure_16 : decode b_S_configure 16 = .ok (.aload_n 0, 1) := by decide +kernel
theorem d_S_configure_17 : decode b_S_configure 17 = .ok (.invokevirtual 18, 3) := by decide +kernel
theorem d_S_configure_20 : decode b_S_configure 20 = .ok (.iload_n 2, 1) := by decide +kernel
theorem d_S_configure_21 : decode b_S_configure 21 = .ok (.invokestatic 22, 3) := by decide +kernel
theorem d_S_configure_24 : decode b_S_configure 24 = .ok (.invokestatic 28, 3) := by decide +kernel
theorem d_S_configure_27 : decode b_S_configure 27 = .ok (.putfield 31, 3) := by decide +kernel
theorem d_S_configure_30 : decode b_S_configure 30 = .ok (.aload_n 0, 1) := by decide +kernel
theorem d_S_configure_31 : decode b_S_configure 31 = .ok (.iconst 0, 1) := by decide +kernel
theorem d_S_configure_32 : decode b_S_configure 32 = .ok (.putfield 34, 3) := by decide +kernel
theorem d_S_configure_35 : decode b_S_configure 35 = .ok (.return_, 1) := by decide +kernel
end
section
/-! the world by names: name k lies at ad k and holds cs k -/
def kw_w (ad : Nat → Nat) (cs : Nat → va_E) (n : Nat) : va_W := (List.range n).map (fun k => (ad k, cs k))
theorem kw_at {ad : Nat → Nat} {cs : Nat → va_E} {n k : Nat} (hk : k < n) : (kw_w ad cs n)[k]? = some (ad k, cs k) := by
  simp [kw_w, hk]
theorem kw_at' {ad : Nat → Nat} {cs : Nat → va_E} {n k : Nat} {q : Nat × va_E} (h : (kw_w ad cs n)[k]? = some q) : k < n ∧ q = (ad k, cs k) := by
  have hk : k < n := by
    have := (List.getElem?_eq_some_iff.mp h).1
    simpa [kw_w] using this
  exact ⟨hk, (Option.some.inj ((kw_at hk).symm.trans h)).symm⟩
theorem kw_set {ad : Nat → Nat} {cs : Nat → va_E} {n k : Nat} {e : va_E} : (kw_w ad cs n).set k (ad k, e) = kw_w ad (va_up cs k e) n := by
  apply List.ext_getElem?
  intro i
  rw [List.getElem?_set]
  by_cases hi : i < n
  · rw [kw_at hi]
    by_cases hk : k = i
    · subst hk
      rw [if_pos rfl, if_pos (by simpa [kw_w] using hi), kw_at hi, va_up_self]
    · rw [if_neg hk, kw_at hi, va_up_ne _ _ (fun h => hk h.symm)]
  · have h1 : (kw_w ad cs n)[i]? = none := by simp [kw_w]; omega
    have h2 : (kw_w ad (va_up cs k e) n)[i]? = none := by simp [kw_w]; omega
    rw [h1, h2]
    by_cases hk : k = i
    · rw [if_pos hk, if_neg (by simp [kw_w]; omega)]
    · rw [if_neg hk]
theorem kw_push {ad : Nat → Nat} {cs : Nat → va_E} {n q : Nat} {e : va_E} : kw_w ad cs n ++ [(q, e)] = kw_w (va_up ad n q) (va_up cs n e) (n + 1) := by
  unfold kw_w
  rw [List.range_succ, List.map_append]
  congr 1
  · apply List.map_congr_left
    intro k hk
    have h := List.mem_range.mp hk
    rw [va_up_ne _ _ (by omega), va_up_ne _ _ (by omega)]
  · simp [va_up_self]
/-- names lie apart -/
def kw_J (ad : Nat → Nat) (n : Nat) : Prop := ∀ i j, i < n → j < n → ad i = ad j → i = j
/-- the addresses of the names -/
def kw_A (ad : Nat → Nat) (n : Nat) : Nat → Prop := fun q => ∃ k, k < n ∧ ad k = q
theorem kw_D {ad : Nat → Nat} {n : Nat} {cs : Nat → va_E} {A : Nat → Prop} (hJ : kw_J ad n) (hA : ∀ k, k < n → A (ad k)) : va_D A (kw_w ad cs n) := by
  refine ⟨fun i j p q hi hj h => ?_, fun k q hk => ?_⟩
  · obtain ⟨h1, rfl⟩ := kw_at' hi
    obtain ⟨h2, rfl⟩ := kw_at' hj
    exact hJ i j h1 h2 h
  · obtain ⟨h1, rfl⟩ := kw_at' hk
    exact hA k h1
theorem kw_J.of {ad : Nat → Nat} {n : Nat} {cs : Nat → va_E} {A : Nat → Prop} (h : va_D A (kw_w ad cs n)) : kw_J ad n := fun i j hi hj he => h.1 i j _ _ (kw_at hi) (kw_at hj) he
section KWR
variable {p : Program} {l : Launch} {e : Env} {R : Room} {s : State} {m : MethodId} {args : Array Value} {below : List Frame} {meth : Method} {c : Code} {H : Heap} {locs : List Loc} {cells slots : Nat} {Q : State → Prop}
variable {cc : ByteArray} {pc : Nat} {ls : Array Slot} {rest : List Value} {D : va_G} {cl : List vw_C} {A : Nat → Prop} {tys : List (ClassId × FieldType)} {ad : Nat → Nat} {cs : Nat → va_E} {n : Nat} {H0 : Heap}
theorem kw_get (hexec : p.tables.exec = Jvm.exec) (hb : c.code = cc) {own ref C : String} {T : u_T} {N ci index : Nat} {Ts : List Cond} (hts : ∀ w ∈ Ts, w.before args s = true) (hin : ∀ w ∈ u_ws C T N, w ∈ Ts) (hown : s.vm.findClass own = some m.cls) (hK : va_K D cl tys s) (hP : va_P D cl (kw_w ad cs n) H) (q0 : Nat) (hq : q0 < n) {fs : List Value} (he : cs q0 = .inr (ci, fs)) (hc : cl[ci]? = some (C, T, N)) (k : Nat) (hk : k < N) (hlink : (Cond.fieldLink own index ref (T k).2.1 (T k).2.2.1).before args s = true) (hsame : (T k).1 = ref) {v : Value} (hv : fs[k]? = some v) (hdg : decode cc pc = .ok (.getfield index, 3))
    (kk : W p l e R s m args below meth c H locs cells slots Q (F0 m (pc + 3) ls (v :: rest))) : W p l e R s m args below meth c H locs cells slots Q (F0 m pc ls (.ref (ad q0) :: rest)) :=
  va_get hexec hb hts hin hown hK hP q0 ((kw_at hq).trans (by rw [he])) hc k hk hlink (fun x h => by rw [← hsame]; exact h) hv hdg kk
theorem kw_getN (hexec : p.tables.exec = Jvm.exec) (hb : c.code = cc) {own ref C host : String} {T : u_T} {N ci index : Nat} {Ts : List Cond} (hts : ∀ w ∈ Ts, w.before args s = true) (hin : ∀ w ∈ u_ws C T N, w ∈ Ts) (hown : s.vm.findClass own = some m.cls) (hK : va_K D cl tys s) (hP : va_P D cl (kw_w ad cs n) H) (q0 : Nat) (hq : q0 < n) {fs : List Value} (he : cs q0 = .inr (ci, fs)) (hc : cl[ci]? = some (C, T, N)) (k : Nat) (hk : k < N) (hlink : (Cond.fieldLinkNest own index ref (T k).2.1 (T k).2.2.1 host).before args s = true) (hsame : (T k).1 = ref) {v : Value} (hv : fs[k]? = some v) (hdg : decode cc pc = .ok (.getfield index, 3))
    (kk : W p l e R s m args below meth c H locs cells slots Q (F0 m (pc + 3) ls (v :: rest))) : W p l e R s m args below meth c H locs cells slots Q (F0 m pc ls (.ref (ad q0) :: rest)) :=
  va_getN hexec hb hts hin hown hK hP q0 ((kw_at hq).trans (by rw [he])) hc k hk hlink (fun x h => by rw [← hsame]; exact h) hv hdg kk
theorem kw_put (hexec : p.tables.exec = Jvm.exec) (hb : c.code = cc) {own ref C : String} {T : u_T} {N ci index : Nat} {Ts : List Cond} (hts : ∀ w ∈ Ts, w.before args s = true) (hin : ∀ w ∈ u_ws C T N, w ∈ Ts) (ty0 : Nat → FieldType) (hty : ∀ k, k < N → parseFieldDescriptor (T k).2.2.1 = some (ty0 k)) (hnm : ∀ a, a < N → ∀ b, b < N → a ≠ b → (T a).2.1 ≠ (T b).2.1) (hown : s.vm.findClass own = some m.cls) (hK : va_K D cl tys s) (hP : va_P D cl (kw_w ad cs n) H) (hJ : kw_J ad n) (hA : ∀ k, k < n → A (ad k)) (hS : va_S A H0 H locs) (q0 : Nat) (hq : q0 < n) {fs : List Value} (he : cs q0 = .inr (ci, fs)) (hc : cl[ci]? = some (C, T, N)) (k : Nat) (hk : k < N) (hlink : (Cond.fieldLink own index ref (T k).2.1 (T k).2.2.1).before args s = true) (hsame : (T k).1 = ref) (hfin : (T k).2.2.2 = false) {ty : FieldType} {v : Value} (hd : parseFieldDescriptor (T k).2.2.1 = some ty) (hn : narrow ty v = v) (hfit : fits ty v = true) (hl : k < fs.length) (hdg : decode cc pc = .ok (.putfield index, 3))
    (kk : ∀ (H1 : Heap) (locs1 : List Loc), va_P D cl (kw_w ad (va_up cs q0 (.inr (ci, fs.set k v))) n) H1 → va_S A H0 H1 locs1 → W p l e R s m args below meth c H1 locs1 cells slots Q (F0 m (pc + 3) ls rest)) : W p l e R s m args below meth c H locs cells slots Q (F0 m pc ls (v :: .ref (ad q0) :: rest)) :=
  va_put hexec hb hts hin ty0 hty hnm hown hK hP (kw_D hJ hA) hS q0 ((kw_at hq).trans (by rw [he])) hc k hk hlink (fun x h => by rw [← hsame]; exact h) hfin hd hn hfit hl hdg (fun H1 locs1 h1 _ h3 => kk H1 locs1 (by rw [kw_set] at h1; exact h1) h3)
theorem kw_putN (hexec : p.tables.exec = Jvm.exec) (hb : c.code = cc) {own ref C host : String} {T : u_T} {N ci index : Nat} {Ts : List Cond} (hts : ∀ w ∈ Ts, w.before args s = true) (hin : ∀ w ∈ u_ws C T N, w ∈ Ts) (ty0 : Nat → FieldType) (hty : ∀ k, k < N → parseFieldDescriptor (T k).2.2.1 = some (ty0 k)) (hnm : ∀ a, a < N → ∀ b, b < N → a ≠ b → (T a).2.1 ≠ (T b).2.1) (hown : s.vm.findClass own = some m.cls) (hK : va_K D cl tys s) (hP : va_P D cl (kw_w ad cs n) H) (hJ : kw_J ad n) (hA : ∀ k, k < n → A (ad k)) (hS : va_S A H0 H locs) (q0 : Nat) (hq : q0 < n) {fs : List Value} (he : cs q0 = .inr (ci, fs)) (hc : cl[ci]? = some (C, T, N)) (k : Nat) (hk : k < N) (hlink : (Cond.fieldLinkNest own index ref (T k).2.1 (T k).2.2.1 host).before args s = true) (hsame : (T k).1 = ref) (hfin : (T k).2.2.2 = false) {ty : FieldType} {v : Value} (hd : parseFieldDescriptor (T k).2.2.1 = some ty) (hn : narrow ty v = v) (hfit : fits ty v = true) (hl : k < fs.length) (hdg : decode cc pc = .ok (.putfield index, 3))
    (kk : ∀ (H1 : Heap) (locs1 : List Loc), va_P D cl (kw_w ad (va_up cs q0 (.inr (ci, fs.set k v))) n) H1 → va_S A H0 H1 locs1 → W p l e R s m args below meth c H1 locs1 cells slots Q (F0 m (pc + 3) ls rest)) : W p l e R s m args below meth c H locs cells slots Q (F0 m pc ls (v :: .ref (ad q0) :: rest)) :=
  va_putN hexec hb hts hin ty0 hty hnm hown hK hP (kw_D hJ hA) hS q0 ((kw_at hq).trans (by rw [he])) hc k hk hlink (fun x h => by rw [← hsame]; exact h) hfin hd hn hfit hl hdg (fun H1 locs1 h1 _ h3 => kk H1 locs1 (by rw [kw_set] at h1; exact h1) h3)
theorem kw_iald (hexec : p.tables.exec = Jvm.exec) (hb : c.code = cc) (hK : va_K D cl tys s) (hP : va_P D cl (kw_w ad cs n) H) (q0 t0 : Nat) (hq : q0 < n) {cA : ClassId} {N : Nat} {f : Nat → Int32} (he : cs q0 = .inl (cA, N, .inl f)) (ht : tys[t0]? = some (cA, .int)) {i : Int32} (j : Nat) (hi : i = nI j) (hj : j < N) (hN : N < 2 ^ 31) (hdg : decode cc pc = .ok (.iaload, 1))
    (kk : W p l e R s m args below meth c H locs cells slots Q (F0 m (pc + 1) ls (.int (f j) :: rest))) : W p l e R s m args below meth c H locs cells slots Q (F0 m pc ls (.int i :: .ref (ad q0) :: rest)) := by
  subst hi
  refine va_iald hexec hb hK hP q0 t0 ((kw_at hq).trans (by rw [he])) ht (vp_in_nI hj hN) hdg ?_
  rw [nI_clamp (Nat.lt_trans hj hN)]
  exact kk
theorem kw_bald (hexec : p.tables.exec = Jvm.exec) (hb : c.code = cc) (hK : va_K D cl tys s) (hP : va_P D cl (kw_w ad cs n) H) (q0 t0 : Nat) (hq : q0 < n) {cA : ClassId} {N : Nat} {f : Nat → Int32} (he : cs q0 = .inl (cA, N, .inl f)) (ht : tys[t0]? = some (cA, .byte)) {i : Int32} (j : Nat) (hi : i = nI j) (hj : j < N) (hN : N < 2 ^ 31) (hdg : decode cc pc = .ok (.baload, 1))
    (kk : W p l e R s m args below meth c H locs cells slots Q (F0 m (pc + 1) ls (.int (f j) :: rest))) : W p l e R s m args below meth c H locs cells slots Q (F0 m pc ls (.int i :: .ref (ad q0) :: rest)) := by
  subst hi
  refine va_bald hexec hb hK hP q0 t0 ((kw_at hq).trans (by rw [he])) ht (vp_in_nI hj hN) hdg ?_
  rw [nI_clamp (Nat.lt_trans hj hN)]
  exact kk
theorem kw_zald (hexec : p.tables.exec = Jvm.exec) (hb : c.code = cc) (hK : va_K D cl tys s) (hP : va_P D cl (kw_w ad cs n) H) (q0 t0 : Nat) (hq : q0 < n) {cA : ClassId} {N : Nat} {f : Nat → Int32} (he : cs q0 = .inl (cA, N, .inl f)) (ht : tys[t0]? = some (cA, .boolean)) {i : Int32} (j : Nat) (hi : i = nI j) (hj : j < N) (hN : N < 2 ^ 31) (hdg : decode cc pc = .ok (.baload, 1))
    (kk : W p l e R s m args below meth c H locs cells slots Q (F0 m (pc + 1) ls (.int (f j) :: rest))) : W p l e R s m args below meth c H locs cells slots Q (F0 m pc ls (.int i :: .ref (ad q0) :: rest)) := by
  subst hi
  refine va_zald hexec hb hK hP q0 t0 ((kw_at hq).trans (by rw [he])) ht (vp_in_nI hj hN) hdg ?_
  rw [nI_clamp (Nat.lt_trans hj hN)]
  exact kk
theorem kw_lald (hexec : p.tables.exec = Jvm.exec) (hb : c.code = cc) (hK : va_K D cl tys s) (hP : va_P D cl (kw_w ad cs n) H) (q0 t0 : Nat) (hq : q0 < n) {cA : ClassId} {N : Nat} {f : Nat → Int64} (he : cs q0 = .inl (cA, N, .inr (.inl f))) (ht : tys[t0]? = some (cA, .long)) {i : Int32} (j : Nat) (hi : i = nI j) (hj : j < N) (hN : N < 2 ^ 31) (hdg : decode cc pc = .ok (.laload, 1))
    (kk : W p l e R s m args below meth c H locs cells slots Q (F0 m (pc + 1) ls (.long (f j) :: rest))) : W p l e R s m args below meth c H locs cells slots Q (F0 m pc ls (.int i :: .ref (ad q0) :: rest)) := by
  subst hi
  refine va_lald hexec hb hK hP q0 t0 ((kw_at hq).trans (by rw [he])) ht (vp_in_nI hj hN) hdg ?_
  rw [nI_clamp (Nat.lt_trans hj hN)]
  exact kk
theorem kw_iast (hexec : p.tables.exec = Jvm.exec) (hb : c.code = cc) (hK : va_K D cl tys s) (hP : va_P D cl (kw_w ad cs n) H) (hJ : kw_J ad n) (hA : ∀ k, k < n → A (ad k)) (hS : va_S A H0 H locs) (q0 t0 : Nat) (hq : q0 < n) {cA : ClassId} {N : Nat} {f : Nat → Int32} (he : cs q0 = .inl (cA, N, .inl (f))) (ht : tys[t0]? = some (cA, .int)) {i : Int32} {x : Int32} (j : Nat) (hi : i = nI j) (hj : j < N) (hN : N < 2 ^ 31) (hdg : decode cc pc = .ok (.iastore, 1))
    (kk : ∀ (H1 : Heap) (locs1 : List Loc), va_P D cl (kw_w ad (va_up cs q0 (.inl (cA, N, .inl (upd f j x)))) n) H1 → va_S A H0 H1 locs1 → W p l e R s m args below meth c H1 locs1 cells slots Q (F0 m (pc + 1) ls rest)) : W p l e R s m args below meth c H locs cells slots Q (F0 m pc ls (.int x :: .int i :: .ref (ad q0) :: rest)) := by
  subst hi
  refine va_iast hexec hb hK hP (kw_D hJ hA) hS q0 t0 ((kw_at hq).trans (by rw [he])) ht (vp_in_nI hj hN) hdg (fun H1 locs1 h1 _ h3 => ?_)
  rw [nI_clamp (Nat.lt_trans hj hN), kw_set] at h1
  exact kk H1 locs1 h1 h3
theorem kw_bast (hexec : p.tables.exec = Jvm.exec) (hb : c.code = cc) (hK : va_K D cl tys s) (hP : va_P D cl (kw_w ad cs n) H) (hJ : kw_J ad n) (hA : ∀ k, k < n → A (ad k)) (hS : va_S A H0 H locs) (q0 t0 : Nat) (hq : q0 < n) {cA : ClassId} {N : Nat} {f : Nat → Int32} (he : cs q0 = .inl (cA, N, .inl (f))) (ht : tys[t0]? = some (cA, .byte)) {i : Int32} {x : Int32} (j : Nat) (hi : i = nI j) (hj : j < N) (hN : N < 2 ^ 31) (hdg : decode cc pc = .ok (.bastore, 1))
    (kk : ∀ (H1 : Heap) (locs1 : List Loc), va_P D cl (kw_w ad (va_up cs q0 (.inl (cA, N, .inl (upd f j (vp_nar .byte x))))) n) H1 → va_S A H0 H1 locs1 → W p l e R s m args below meth c H1 locs1 cells slots Q (F0 m (pc + 1) ls rest)) : W p l e R s m args below meth c H locs cells slots Q (F0 m pc ls (.int x :: .int i :: .ref (ad q0) :: rest)) := by
  subst hi
  refine va_bast hexec hb hK hP (kw_D hJ hA) hS q0 t0 ((kw_at hq).trans (by rw [he])) ht (vp_in_nI hj hN) hdg (fun H1 locs1 h1 _ h3 => ?_)
  rw [nI_clamp (Nat.lt_trans hj hN), kw_set] at h1
  exact kk H1 locs1 h1 h3
theorem kw_zast (hexec : p.tables.exec = Jvm.exec) (hb : c.code = cc) (hK : va_K D cl tys s) (hP : va_P D cl (kw_w ad cs n) H) (hJ : kw_J ad n) (hA : ∀ k, k < n → A (ad k)) (hS : va_S A H0 H locs) (q0 t0 : Nat) (hq : q0 < n) {cA : ClassId} {N : Nat} {f : Nat → Int32} (he : cs q0 = .inl (cA, N, .inl (f))) (ht : tys[t0]? = some (cA, .boolean)) {i : Int32} {x : Int32} (j : Nat) (hi : i = nI j) (hj : j < N) (hN : N < 2 ^ 31) (hdg : decode cc pc = .ok (.bastore, 1))
    (kk : ∀ (H1 : Heap) (locs1 : List Loc), va_P D cl (kw_w ad (va_up cs q0 (.inl (cA, N, .inl (upd f j (vp_nar .boolean x))))) n) H1 → va_S A H0 H1 locs1 → W p l e R s m args below meth c H1 locs1 cells slots Q (F0 m (pc + 1) ls rest)) : W p l e R s m args below meth c H locs cells slots Q (F0 m pc ls (.int x :: .int i :: .ref (ad q0) :: rest)) := by
  subst hi
  refine va_zast hexec hb hK hP (kw_D hJ hA) hS q0 t0 ((kw_at hq).trans (by rw [he])) ht (vp_in_nI hj hN) hdg (fun H1 locs1 h1 _ h3 => ?_)
  rw [nI_clamp (Nat.lt_trans hj hN), kw_set] at h1
  exact kk H1 locs1 h1 h3
theorem kw_last (hexec : p.tables.exec = Jvm.exec) (hb : c.code = cc) (hK : va_K D cl tys s) (hP : va_P D cl (kw_w ad cs n) H) (hJ : kw_J ad n) (hA : ∀ k, k < n → A (ad k)) (hS : va_S A H0 H locs) (q0 t0 : Nat) (hq : q0 < n) {cA : ClassId} {N : Nat} {f : Nat → Int64} (he : cs q0 = .inl (cA, N, .inr (.inl (f)))) (ht : tys[t0]? = some (cA, .long)) {i : Int32} {x : Int64} (j : Nat) (hi : i = nI j) (hj : j < N) (hN : N < 2 ^ 31) (hdg : decode cc pc = .ok (.lastore, 1))
    (kk : ∀ (H1 : Heap) (locs1 : List Loc), va_P D cl (kw_w ad (va_up cs q0 (.inl (cA, N, .inr (.inl (vp_updL f j x))))) n) H1 → va_S A H0 H1 locs1 → W p l e R s m args below meth c H1 locs1 cells slots Q (F0 m (pc + 1) ls rest)) : W p l e R s m args below meth c H locs cells slots Q (F0 m pc ls (.long x :: .int i :: .ref (ad q0) :: rest)) := by
  subst hi
  refine va_last hexec hb hK hP (kw_D hJ hA) hS q0 t0 ((kw_at hq).trans (by rw [he])) ht (vp_in_nI hj hN) hdg (fun H1 locs1 h1 _ h3 => ?_)
  rw [nI_clamp (Nat.lt_trans hj hN), kw_set] at h1
  exact kk H1 locs1 h1 h3
theorem kw_alen (hexec : p.tables.exec = Jvm.exec) (hb : c.code = cc) (hK : va_K D cl tys s) (hP : va_P D cl (kw_w ad cs n) H) (q0 t0 : Nat) (hq : q0 < n) {cA : ClassId} {x : vp_A} (he : cs q0 = .inl (cA, x)) {ty : FieldType} (ht : tys[t0]? = some (cA, ty)) {v : Int32} (hv : Int32.ofNat x.1 = v) (hdg : decode cc pc = .ok (.arraylength, 1))
    (kk : W p l e R s m args below meth c H locs cells slots Q (F0 m (pc + 1) ls (.int v :: rest))) : W p l e R s m args below meth c H locs cells slots Q (F0 m pc ls (.ref (ad q0) :: rest)) :=
  va_alen hexec hb hK hP q0 t0 ((kw_at hq).trans (by rw [he])) ht hv hdg kk
theorem kw_aldq (hexec : p.tables.exec = Jvm.exec) (hb : c.code = cc) (hK : va_K D cl tys s) (hP : va_P D cl (kw_w ad cs n) H) (q0 t0 : Nat) (hq : q0 < n) {cA : ClassId} {C : String} {N : Nat} {f : Nat → Option Nat} (he : cs q0 = .inl (cA, N, .inr (.inr (.inr (.inr f))))) (ht : tys[t0]? = some (cA, .object C)) {i : Int32} (j : Nat) (hi : i = nI j) (hj : j < N) (hN : N < 2 ^ 31) (hdg : decode cc pc = .ok (.aaload, 1))
    (kk : W p l e R s m args below meth c H locs cells slots Q (F0 m (pc + 1) ls (va_rf (f j) :: rest))) : W p l e R s m args below meth c H locs cells slots Q (F0 m pc ls (.int i :: .ref (ad q0) :: rest)) := by
  subst hi
  refine va_aldq hexec hb hK hP q0 t0 ((kw_at hq).trans (by rw [he])) ht (vp_in_nI hj hN) hdg ?_
  rw [nI_clamp (Nat.lt_trans hj hN)]
  exact kk
theorem kw_astq (hexec : p.tables.exec = Jvm.exec) (hb : c.code = cc) (hK : va_K D cl tys s) (hP : va_P D cl (kw_w ad cs n) H) (hJ : kw_J ad n) (hA : ∀ k, k < n → A (ad k)) (hS : va_S A H0 H locs) (q0 t0 qk ci : Nat) (hq : q0 < n) (hqk : qk < n) {cA : ClassId} {r : vw_C} {N : Nat} {vs : List Value} {f : Nat → Option Nat} (he : cs q0 = .inl (cA, N, .inr (.inr (.inr (.inr f))))) (ht : tys[t0]? = some (cA, .object r.1)) (hv : cs qk = .inr (ci, vs)) (hc : cl[ci]? = some r) {i : Int32} (j : Nat) (hi : i = nI j) (hj : j < N) (hN : N < 2 ^ 31) (hdg : decode cc pc = .ok (.aastore, 1))
    (kk : ∀ (H1 : Heap) (locs1 : List Loc), va_P D cl (kw_w ad (va_up cs q0 (.inl (cA, N, .inr (.inr (.inr (.inr (va_up f j (some (ad qk))))))))) n) H1 → va_S A H0 H1 locs1 → W p l e R s m args below meth c H1 locs1 cells slots Q (F0 m (pc + 1) ls rest)) : W p l e R s m args below meth c H locs cells slots Q (F0 m pc ls (.ref (ad qk) :: .int i :: .ref (ad q0) :: rest)) := by
  subst hi
  refine va_astq hexec hb hK hP (kw_D hJ hA) hS q0 t0 qk ci ((kw_at hq).trans (by rw [he])) ht ((kw_at hqk).trans (by rw [hv])) hc (vp_in_nI hj hN) hdg (fun H1 locs1 h1 _ h3 => ?_)
  rw [nI_clamp (Nat.lt_trans hj hN), kw_set] at h1
  exact kk H1 locs1 h1 h3
end KWR
end
section
/-! contracts over the world by names -/
def kw_Pre (D : va_G) (cl : List vw_C) (tys : List (ClassId × FieldType)) (ad : Nat → Nat) (n : Nat) (cs : Nat → va_E) (U : State) : Prop := va_P D cl (kw_w ad cs n) U.heap ∧ va_K D cl tys U
def kw_mi (l : Launch) (y : MethodName) (ws : List Cond) (rm : Room) (D : va_G) (cl : List vw_C) (tys : List (ClassId × FieldType)) (ad : Nat → Nat) (n : Nat) (cs : Nat → va_E) (vs : List Value) (post : Int32 → (Nat → va_E) → Prop) : Prop :=
  Met l y ws rm (va_Pc vs (kw_Pre D cl tys ad n cs)) (va_Qi post (kw_Pre D cl tys ad n) (kw_A ad n)) 0 0 (kw_A ad n)
def kw_ml (l : Launch) (y : MethodName) (ws : List Cond) (rm : Room) (D : va_G) (cl : List vw_C) (tys : List (ClassId × FieldType)) (ad : Nat → Nat) (n : Nat) (cs : Nat → va_E) (vs : List Value) (post : Int64 → (Nat → va_E) → Prop) : Prop :=
  Met l y ws rm (va_Pc vs (kw_Pre D cl tys ad n cs)) (va_Ql post (kw_Pre D cl tys ad n) (kw_A ad n)) 0 0 (kw_A ad n)
def kw_mv (l : Launch) (y : MethodName) (ws : List Cond) (rm : Room) (D : va_G) (cl : List vw_C) (tys : List (ClassId × FieldType)) (ad : Nat → Nat) (n : Nat) (cs : Nat → va_E) (vs : List Value) (post : (Nat → va_E) → Prop) : Prop :=
  Met l y ws rm (va_Pc vs (kw_Pre D cl tys ad n cs)) (va_Qv post (kw_Pre D cl tys ad n) (kw_A ad n)) 0 0 (kw_A ad n)
theorem kw_blind {D : va_G} {cl : List vw_C} {tys : List (ClassId × FieldType)} {ad : Nat → Nat} {n : Nat} {cs : Nat → va_E} {vs : List Value} : FrameBlind (va_Pc vs (kw_Pre D cl tys ad n cs)) := fun a U g mk h => by
  obtain ⟨h0, hP, hK⟩ := h
  exact ⟨h0, hP, va_K.moved (u := U) (U := U.calling g mk a) (Vm.Alike.refl U.vm) hK⟩
theorem kw_of {l : Launch} {y : MethodName} {ws ws' : List Cond} {rm : Room} {D : va_G} {cl : List vw_C} {tys : List (ClassId × FieldType)} {ad : Nat → Nat} {n : Nat} {cs : Nat → va_E} {vs : List Value} {Qc : Array Value → State → Outcome → State → Prop} {free : Addr → Prop} {mc ms : Nat} {cc : ByteArray} {maxL : Nat} {ret : Option FieldType}
    (hy : plainName y.cls = true) (hw : ws = Cond.code y cc maxL ret :: ws') (hlen : (lg_sl vs).length ≤ maxL)
    (body : ∀ (p : Program) (e : Env) (s : State) (m : MethodId) (below : List Frame) (meth : Method) (c : Code) (ls : Array Slot), p.tables.exec = Jvm.exec → c.code = cc → meth.sig.returnType = ret → c.maxLocals = maxL → s.vm.findClass y.cls = some m.cls → (∀ w ∈ ws, w.before vs.toArray s = true) → meth.locks = false → va_P D cl (kw_w ad cs n) s.heap → va_K D cl tys s → lv_has ls maxL (lv_args 0 vs) →
      W p l e rm s m vs.toArray below meth c s.heap [] 0 0 (MQ below Qc vs.toArray s mc ms free) (F0 m 0 ls [])) : Met l y ws rm (va_Pc vs (kw_Pre D cl tys ad n cs)) Qc mc ms free := by
  refine Met.ofW (cc := cc) (maxL := maxL) (ret := ret) hy hw ?_
  intro p e s m args below meth c s₁ B hml hv
  obtain ⟨rfl, hP, hK⟩ := hv
  rw [lg_entry_eq]
  exact body p e s m below meth c _ B.exec B.bytes B.returns hml (findClass_of_methodNamed B.named) (atoms_spec (ws := ws) B.pre) B.notSynchronized hP hK (lv_entry vs hlen)
section KWC
variable {p : Program} {l : Launch} {e : Env} {R : Room} {s : State} {m : MethodId} {args : Array Value} {below : List Frame} {meth : Method} {c : Code} {H : Heap} {locs : List Loc} {cells slots : Nat} {Q : State → Prop}
variable {cc : ByteArray} {pc : Nat} {ls : Array Slot} {rest : List Value} {D : va_G} {cl : List vw_C} {A : Nat → Prop} {tys : List (ClassId × FieldType)} {ad : Nat → Nat} {cs : Nat → va_E} {n : Nat} {H0 : Heap}
theorem kw_iret {post : Int32 → (Nat → va_E) → Prop} {v : Int32} (hexec : p.tables.exec = Jvm.exec) (hb : c.code = cc) (hr : meth.sig.returnType = some .int) (hlocks : meth.locks = false) (hP : va_P D cl (kw_w ad cs n) H) (hK : va_K D cl tys s) (hS : va_S (kw_A ad n) s.heap H locs) (hpost : post v cs) (hdg : decode cc pc = .ok (.ireturn, 1)) :
    W p l e R s m args below meth c H locs 0 0 (MQ below (va_Qi post (kw_Pre D cl tys ad n) (kw_A ad n)) args s 0 0 (kw_A ad n)) (F0 m pc ls [.int v]) :=
  W.iret hexec hb hr (fun t ht hW => ⟨⟨v, cs, rfl, hpost, by rw [ht]; exact hP, va_K.moved hW.alike hK⟩, hS.F ht⟩) hS.2.2 hdg hlocks
theorem kw_nz {v : Int32} (hv : v = 0 ∨ v = 1) : narrow .boolean (.int v) = .int v := by
  rcases hv with rfl | rfl <;> rfl
theorem kw_zret {post : Int32 → (Nat → va_E) → Prop} {v : Int32} (hexec : p.tables.exec = Jvm.exec) (hb : c.code = cc) (hr : meth.sig.returnType = some .boolean) (hlocks : meth.locks = false) (hP : va_P D cl (kw_w ad cs n) H) (hK : va_K D cl tys s) (hS : va_S (kw_A ad n) s.heap H locs) (hv : v = 0 ∨ v = 1) (hpost : post v cs) (hdg : decode cc pc = .ok (.ireturn, 1)) :
    W p l e R s m args below meth c H locs 0 0 (MQ below (va_Qi post (kw_Pre D cl tys ad n) (kw_A ad n)) args s 0 0 (kw_A ad n)) (F0 m pc ls [.int v]) :=
  W.zret hexec hb hr (kw_nz hv) (fun t ht hW => ⟨⟨v, cs, rfl, hpost, by rw [ht]; exact hP, va_K.moved hW.alike hK⟩, hS.F ht⟩) hS.2.2 hdg hlocks
theorem kw_lret {post : Int64 → (Nat → va_E) → Prop} {v : Int64} (hexec : p.tables.exec = Jvm.exec) (hb : c.code = cc) (hr : meth.sig.returnType = some .long) (hlocks : meth.locks = false) (hP : va_P D cl (kw_w ad cs n) H) (hK : va_K D cl tys s) (hS : va_S (kw_A ad n) s.heap H locs) (hpost : post v cs) (hdg : decode cc pc = .ok (.lreturn, 1)) :
    W p l e R s m args below meth c H locs 0 0 (MQ below (va_Ql post (kw_Pre D cl tys ad n) (kw_A ad n)) args s 0 0 (kw_A ad n)) (F0 m pc ls [.long v]) :=
  W.lret hexec hb hr (fun t ht hW => ⟨⟨v, cs, rfl, hpost, by rw [ht]; exact hP, va_K.moved hW.alike hK⟩, hS.F ht⟩) hS.2.2 hdg hlocks
theorem kw_vret {post : (Nat → va_E) → Prop} (hexec : p.tables.exec = Jvm.exec) (hb : c.code = cc) (hr : meth.sig.returnType = none) (hlocks : meth.locks = false) (hP : va_P D cl (kw_w ad cs n) H) (hK : va_K D cl tys s) (hS : va_S (kw_A ad n) s.heap H locs) (hpost : post cs) (hdg : decode cc pc = .ok (.return_, 1)) :
    W p l e R s m args below meth c H locs 0 0 (MQ below (va_Qv post (kw_Pre D cl tys ad n) (kw_A ad n)) args s 0 0 (kw_A ad n)) (F0 m pc ls []) :=
  W.vret hexec hb hr (fun t ht hW => ⟨⟨cs, rfl, hpost, by rw [ht]; exact hP, va_K.moved hW.alike hK⟩, hS.F ht⟩) hS.2.2 hdg hlocks
variable {y : MethodName} {bytes : ByteArray} {maxL nL k index : Nat} {ret : Option FieldType} {ws : List Cond} {rm : Room} {Qc : Array Value → State → Outcome → State → Prop} {free : Addr → Prop} {Ts : List Cond} {own C host : String} {As st0 : List Value}
theorem kw_rV (S : CallFix p m c cc nL s args Ts own) (cw : CallW R s args own C index y bytes maxL ret ws rm 0 0 k) {q0 : Nat} (hM : Met l y ws rm (va_Pc (.ref (ad q0) :: As) (kw_Pre D cl tys ad n cs)) Qc 0 0 free) (hK : va_K D cl tys s) (hP : va_P D cl (kw_w ad cs n) H) (hq : q0 < n) {ci N : Nat} {fs : List Value} {T : u_T} (he : cs q0 = .inr (ci, fs)) (hc : cl[ci]? = some (C, T, N)) (hn : As.length = k) (hsize : ls.size = nL) (hst : st0 = As.reverse ++ .ref (ad q0) :: rest) (hW : (rest.map fun v => v.category).sum ≤ 8) (hdg : decode cc pc = .ok (.invokevirtual index, 3)) (hcs : cells ≤ R.cells ∧ slots ≤ R.slots) :
    va_Run p l e R s m args below meth c H locs cells slots 0 0 (F0 m pc ls st0) rest (Qc (Value.ref (ad q0) :: As).toArray) free :=
  va_runV (As := As) (rest := rest) S hM cw ⟨kw_blind, va_recv hK hP hc ((kw_at hq).trans (by rw [he])), fun U hU hWm => ⟨rfl, by rw [hU]; exact hP, va_K.moved hWm.alike hK⟩⟩ rfl hn hsize hst (lv_room hW) hdg hcs
theorem kw_rVN (S : CallFix p m c cc nL s args Ts own) (cw : va_CN R s args own index y host bytes maxL ret ws rm 0 0 k ∧ (Cond.instanceMethod y).before args s = true ∧ (Cond.selects C y y).before args s = true) {q0 : Nat} (hM : Met l y ws rm (va_Pc (.ref (ad q0) :: As) (kw_Pre D cl tys ad n cs)) Qc 0 0 free) (hK : va_K D cl tys s) (hP : va_P D cl (kw_w ad cs n) H) (hq : q0 < n) {ci N : Nat} {fs : List Value} {T : u_T} (he : cs q0 = .inr (ci, fs)) (hc : cl[ci]? = some (C, T, N)) (hn : As.length = k) (hsize : ls.size = nL) (hst : st0 = As.reverse ++ .ref (ad q0) :: rest) (hW : (rest.map fun v => v.category).sum ≤ 8) (hdg : decode cc pc = .ok (.invokevirtual index, 3)) (hcs : cells ≤ R.cells ∧ slots ≤ R.slots) :
    va_Run p l e R s m args below meth c H locs cells slots 0 0 (F0 m pc ls st0) rest (Qc (Value.ref (ad q0) :: As).toArray) free :=
  va_runVN (As := As) (rest := rest) S hM cw ⟨kw_blind, va_recv hK hP hc ((kw_at hq).trans (by rw [he])), fun U hU hWm => ⟨rfl, by rw [hU]; exact hP, va_K.moved hWm.alike hK⟩⟩ rfl hn hsize hst (lv_room hW) hdg hcs
theorem kw_rS (S : CallFix p m c cc nL s args Ts own) (cw : CallB R s args own index y bytes maxL ret ws rm 0 0 k ∧ (Cond.static y).before args s = true) (hM : Met l y ws rm (va_Pc As (kw_Pre D cl tys ad n cs)) Qc 0 0 free) (hK : va_K D cl tys s) (hP : va_P D cl (kw_w ad cs n) H) (hn : As.length = k) (hsize : ls.size = nL) (hst : st0 = As.reverse ++ rest) (hW : (rest.map fun v => v.category).sum ≤ 8) (hdg : decode cc pc = .ok (.invokestatic index, 3)) (hcs : cells ≤ R.cells ∧ slots ≤ R.slots) :
    va_Run p l e R s m args below meth c H locs cells slots 0 0 (F0 m pc ls st0) rest (Qc As.toArray) free :=
  va_runS (As := As) (rest := rest) S hM cw ⟨kw_blind, fun U hU hWm => ⟨rfl, by rw [hU]; exact hP, va_K.moved hWm.alike hK⟩⟩ rfl hn hsize hst (lv_room hW) hdg hcs
theorem kw_rSN (S : CallFix p m c cc nL s args Ts own) (cw : va_CN R s args own index y host bytes maxL ret ws rm 0 0 k ∧ (Cond.static y).before args s = true ∧ True) (hM : Met l y ws rm (va_Pc As (kw_Pre D cl tys ad n cs)) Qc 0 0 free) (hK : va_K D cl tys s) (hP : va_P D cl (kw_w ad cs n) H) (hn : As.length = k) (hsize : ls.size = nL) (hst : st0 = As.reverse ++ rest) (hW : (rest.map fun v => v.category).sum ≤ 8) (hdg : decode cc pc = .ok (.invokestatic index, 3)) (hcs : cells ≤ R.cells ∧ slots ≤ R.slots) :
    va_Run p l e R s m args below meth c H locs cells slots 0 0 (F0 m pc ls st0) rest (Qc As.toArray) free :=
  va_runSN (As := As) (rest := rest) S hM cw ⟨kw_blind, fun U hU hWm => ⟨rfl, by rw [hU]; exact hP, va_K.moved hWm.alike hK⟩⟩ rfl hn hsize hst (lv_room hW) hdg hcs
theorem kw_calli {a : Array Value} {post : Int32 → (Nat → va_E) → Prop} (hr : va_Run p l e R s m args below meth c H locs cells slots 0 0 (F0 m pc ls st0) rest (va_Qi post (kw_Pre D cl tys ad n) (kw_A ad n) a) (kw_A ad n)) (hA : ∀ k, k < n → A (ad k)) (hS : va_S A H0 H locs)
    (kk : ∀ (r : Int32) (cs1 : Nat → va_E) (H1 : Heap) (locs1 : List Loc), post r cs1 → va_P D cl (kw_w ad cs1 n) H1 → va_S A H0 H1 locs1 → W p l e R s m args below meth c H1 locs1 cells slots Q (F0 m (pc + 3) ls (.int r :: rest))) : W p l e R s m args below meth c H locs cells slots Q (F0 m pc ls st0) :=
  va_calli hr hS (fun q _ ⟨k, h1, h2⟩ => h2 ▸ hA k h1) (fun q ⟨k, h1, h2⟩ => h2 ▸ hA k h1) (fun r u t H1 locs1 ht _ hp hB _ _ hS1 => kk r u H1 locs1 hp (by rw [← ht]; exact hB.1) hS1)
theorem kw_calll {a : Array Value} {post : Int64 → (Nat → va_E) → Prop} (hr : va_Run p l e R s m args below meth c H locs cells slots 0 0 (F0 m pc ls st0) rest (va_Ql post (kw_Pre D cl tys ad n) (kw_A ad n) a) (kw_A ad n)) (hA : ∀ k, k < n → A (ad k)) (hS : va_S A H0 H locs)
    (kk : ∀ (r : Int64) (cs1 : Nat → va_E) (H1 : Heap) (locs1 : List Loc), post r cs1 → va_P D cl (kw_w ad cs1 n) H1 → va_S A H0 H1 locs1 → W p l e R s m args below meth c H1 locs1 cells slots Q (F0 m (pc + 3) ls (.long r :: rest))) : W p l e R s m args below meth c H locs cells slots Q (F0 m pc ls st0) :=
  va_calll hr hS (fun q _ ⟨k, h1, h2⟩ => h2 ▸ hA k h1) (fun q ⟨k, h1, h2⟩ => h2 ▸ hA k h1) (fun r u t H1 locs1 ht _ hp hB _ _ hS1 => kk r u H1 locs1 hp (by rw [← ht]; exact hB.1) hS1)
theorem kw_callv {a : Array Value} {post : (Nat → va_E) → Prop} (hr : va_Run p l e R s m args below meth c H locs cells slots 0 0 (F0 m pc ls st0) rest (va_Qv post (kw_Pre D cl tys ad n) (kw_A ad n) a) (kw_A ad n)) (hA : ∀ k, k < n → A (ad k)) (hS : va_S A H0 H locs)
    (kk : ∀ (cs1 : Nat → va_E) (H1 : Heap) (locs1 : List Loc), post cs1 → va_P D cl (kw_w ad cs1 n) H1 → va_S A H0 H1 locs1 → W p l e R s m args below meth c H1 locs1 cells slots Q (F0 m (pc + 3) ls rest)) : W p l e R s m args below meth c H locs cells slots Q (F0 m pc ls st0) :=
  va_callv hr hS (fun q _ ⟨k, h1, h2⟩ => h2 ▸ hA k h1) (fun q ⟨k, h1, h2⟩ => h2 ▸ hA k h1) (fun u t H1 locs1 ht _ hp hB _ _ hS1 => kk u H1 locs1 hp (by rw [← ht]; exact hB.1) hS1)
theorem kw_callix {a : Array Value} {v : Int32} {cs1 : Nat → va_E} (hr : va_Run p l e R s m args below meth c H locs cells slots 0 0 (F0 m pc ls st0) rest (va_Qi (fun r c => r = v ∧ c = cs1) (kw_Pre D cl tys ad n) (kw_A ad n) a) (kw_A ad n)) (hA : ∀ k, k < n → A (ad k)) (hS : va_S A H0 H locs)
    (kk : ∀ (H1 : Heap) (locs1 : List Loc), va_P D cl (kw_w ad cs1 n) H1 → va_S A H0 H1 locs1 → W p l e R s m args below meth c H1 locs1 cells slots Q (F0 m (pc + 3) ls (.int v :: rest))) : W p l e R s m args below meth c H locs cells slots Q (F0 m pc ls st0) :=
  kw_calli hr hA hS (fun r c1 H1 locs1 hp hP hS => by obtain ⟨h1, h2⟩ := hp; subst h1; subst h2; exact kk H1 locs1 hP hS)
theorem kw_calllx {a : Array Value} {v : Int64} {cs1 : Nat → va_E} (hr : va_Run p l e R s m args below meth c H locs cells slots 0 0 (F0 m pc ls st0) rest (va_Ql (fun r c => r = v ∧ c = cs1) (kw_Pre D cl tys ad n) (kw_A ad n) a) (kw_A ad n)) (hA : ∀ k, k < n → A (ad k)) (hS : va_S A H0 H locs)
    (kk : ∀ (H1 : Heap) (locs1 : List Loc), va_P D cl (kw_w ad cs1 n) H1 → va_S A H0 H1 locs1 → W p l e R s m args below meth c H1 locs1 cells slots Q (F0 m (pc + 3) ls (.long v :: rest))) : W p l e R s m args below meth c H locs cells slots Q (F0 m pc ls st0) :=
  kw_calll hr hA hS (fun r c1 H1 locs1 hp hP hS => by obtain ⟨h1, h2⟩ := hp; subst h1; subst h2; exact kk H1 locs1 hP hS)
theorem kw_callvx {a : Array Value} {cs1 : Nat → va_E} (hr : va_Run p l e R s m args below meth c H locs cells slots 0 0 (F0 m pc ls st0) rest (va_Qv (fun c => c = cs1) (kw_Pre D cl tys ad n) (kw_A ad n) a) (kw_A ad n)) (hA : ∀ k, k < n → A (ad k)) (hS : va_S A H0 H locs)
    (kk : ∀ (H1 : Heap) (locs1 : List Loc), va_P D cl (kw_w ad cs1 n) H1 → va_S A H0 H1 locs1 → W p l e R s m args below meth c H1 locs1 cells slots Q (F0 m (pc + 3) ls rest)) : W p l e R s m args below meth c H locs cells slots Q (F0 m pc ls st0) :=
  kw_callv hr hA hS (fun c1 H1 locs1 hp hP hS => by subst hp; exact kk H1 locs1 hP hS)
end KWC
/-- the room of a method at depth d of the calls -/
abbrev kr (d : Nat) : Room := { frames := d, cells := 0, slots := 0, locals := 40 * d }
theorem kg_goodG {y : MethodName} {b : ByteArray} {n : Nat} {r : Option FieldType} (h : Cond.code y b n r ∈ kg_G) : GoodIn kg_G (Cond.code y b n r :: kg_G) := fun w hw => by
  have h1 : w ∈ kg_G := by
    rcases List.mem_cons.mp hw with rfl | h1
    · exact h
    · exact h1
  exact ⟨h1, good_of_word (List.mem_filter.mp h1).2⟩
end
section
/-! leaves: Setting, Instruction -/
def kv_S_width (wp : Int32) : Int32 := 1 <<< (wp &&& 31)
set_option maxRecDepth 100000 in
set_option maxHeartbeats 4000000 in
theorem c_S_width (l : Launch) {D : va_G} {tys : List (ClassId × FieldType)} {ad : Nat → Nat} {n : Nat} {cs : Nat → va_E} {q0 : Nat} {wp gp ln sa : Int32} (hq0 : q0 < n) (e0 : cs q0 = .inr (2, [.int wp, .int gp, .int ln, .int sa]))  : kw_mi l y_S_width w_S_width (kr 0) D kc tys ad n cs [.ref (ad q0)] (fun r c => r = kv_S_width wp ∧ c = cs) := by
  refine kw_of (cc := b_S_width) (maxL := 1) (ret := (some .int)) (by decide) rfl (Nat.le_of_ble_eq_true rfl) ?_
  intro p e s m below meth c ls hx hb hr hml hown hts hlocks hP hK hl
  have hg : ∀ w ∈ kg_G, w.before [.ref (ad q0)].toArray s = true := fun w h => hts w (List.mem_cons_of_mem _ h)
  have hown : s.vm.findClass "LaneMachine$Setting" = some m.cls := hown
  have hA : ∀ k, k < n → kw_A ad n (ad k) := fun k hk => ⟨k, hk, rfl⟩
  have hS : va_S (kw_A ad n) s.heap s.heap [] := va_S.rf
  have hl : lv_has ls 1 [(0, .ref (ad q0))] := hl
  refine lv_iconst (v := 1) hx hb d_S_width_0 (by decide) ?_
  refine lv_aload_n hx hb d_S_width_1 rfl (lv_at hl 0 rfl) ?_
  refine kw_get hx hb hg in_S hown hK hP q0 hq0 e0 rfl 0 (by decide) (hg _ kg_45) rfl rfl d_S_width_2 ?_
  refine lv_ishl hx hb d_S_width_5 ?_
  exact kw_iret hx hb hr hlocks hP hK hS ⟨by rw [kv_S_width], rfl⟩ d_S_width_6

def kv_S_group (gp : Int32) : Int32 := 1 <<< (gp &&& 31)
set_option maxRecDepth 100000 in
set_option maxHeartbeats 4000000 in
theorem c_S_group (l : Launch) {D : va_G} {tys : List (ClassId × FieldType)} {ad : Nat → Nat} {n : Nat} {cs : Nat → va_E} {q0 : Nat} {wp gp ln sa : Int32} (hq0 : q0 < n) (e0 : cs q0 = .inr (2, [.int wp, .int gp, .int ln, .int sa]))  : kw_mi l y_S_group w_S_group (kr 0) D kc tys ad n cs [.ref (ad q0)] (fun r c => r = kv_S_group gp ∧ c = cs) := by
  refine kw_of (cc := b_S_group) (maxL := 1) (ret := (some .int)) (by decide) rfl (Nat.le_of_ble_eq_true rfl) ?_
  intro p e s m below meth c ls hx hb hr hml hown hts hlocks hP hK hl
  have hg : ∀ w ∈ kg_G, w.before [.ref (ad q0)].toArray s = true := fun w h => hts w (List.mem_cons_of_mem _ h)
  have hown : s.vm.findClass "LaneMachine$Setting" = some m.cls := hown
  have hA : ∀ k, k < n → kw_A ad n (ad k) := fun k hk => ⟨k, hk, rfl⟩
  have hS : va_S (kw_A ad n) s.heap s.heap [] := va_S.rf
  have hl : lv_has ls 1 [(0, .ref (ad q0))] := hl
  refine lv_iconst (v := 1) hx hb d_S_group_0 (by decide) ?_
  refine lv_aload_n hx hb d_S_group_1 rfl (lv_at hl 0 rfl) ?_
  refine kw_get hx hb hg in_S hown hK hP q0 hq0 e0 rfl 1 (by decide) (hg _ kg_46) rfl rfl d_S_group_2 ?_
  refine lv_ishl hx hb d_S_group_5 ?_
  exact kw_iret hx hb hr hlocks hP hK hS ⟨by rw [kv_S_group], rfl⟩ d_S_group_6

def kv_S_most (wp : Int32) (gp : Int32) : Int32 := (8 <<< (gp &&& 31)) >>> (wp &&& 31)
set_option maxRecDepth 100000 in
set_option maxHeartbeats 4000000 in
theorem c_S_most (l : Launch) {D : va_G} {tys : List (ClassId × FieldType)} {ad : Nat → Nat} {n : Nat} {cs : Nat → va_E} {q0 : Nat} {wp gp ln sa : Int32} (hq0 : q0 < n) (e0 : cs q0 = .inr (2, [.int wp, .int gp, .int ln, .int sa]))  : kw_mi l y_S_most w_S_most (kr 0) D kc tys ad n cs [.ref (ad q0)] (fun r c => r = kv_S_most wp gp ∧ c = cs) := by
  refine kw_of (cc := b_S_most) (maxL := 1) (ret := (some .int)) (by decide) rfl (Nat.le_of_ble_eq_true rfl) ?_
  intro p e s m below meth c ls hx hb hr hml hown hts hlocks hP hK hl
  have hg : ∀ w ∈ kg_G, w.before [.ref (ad q0)].toArray s = true := fun w h => hts w (List.mem_cons_of_mem _ h)
  have hown : s.vm.findClass "LaneMachine$Setting" = some m.cls := hown
  have hA : ∀ k, k < n → kw_A ad n (ad k) := fun k hk => ⟨k, hk, rfl⟩
  have hS : va_S (kw_A ad n) s.heap s.heap [] := va_S.rf
  have hl : lv_has ls 1 [(0, .ref (ad q0))] := hl
  refine lv_bipush (v := 8) hx hb d_S_most_0 (by decide) ?_
  refine lv_aload_n hx hb d_S_most_2 rfl (lv_at hl 0 rfl) ?_
  refine kw_get hx hb hg in_S hown hK hP q0 hq0 e0 rfl 1 (by decide) (hg _ kg_46) rfl rfl d_S_most_3 ?_
  refine lv_ishl hx hb d_S_most_6 ?_
  refine lv_aload_n hx hb d_S_most_7 rfl (lv_at hl 0 rfl) ?_
  refine kw_get hx hb hg in_S hown hK hP q0 hq0 e0 rfl 0 (by decide) (hg _ kg_45) rfl rfl d_S_most_8 ?_
  refine lv_ishr hx hb d_S_most_11 ?_
  exact kw_iret hx hb hr hlocks hP hK hS ⟨by rw [kv_S_most], rfl⟩ d_S_most_12

def kv_S_isCode (x : Int32) : Int32 := if x < 0 then 0 else if 10 < x then 0 else if (x - x / 4 * 4) = 3 then 0 else 1
set_option maxRecDepth 100000 in
set_option maxHeartbeats 4000000 in
theorem c_S_isCode (l : Launch) {D : va_G} {tys : List (ClassId × FieldType)} {ad : Nat → Nat} {n : Nat} {cs : Nat → va_E} {x : Int32}   : kw_mi l y_S_isCode w_S_isCode (kr 0) D kc tys ad n cs [.int x] (fun r c => r = kv_S_isCode x ∧ c = cs) := by
  refine kw_of (cc := b_S_isCode) (maxL := 1) (ret := (some .boolean)) (by decide) rfl (Nat.le_of_ble_eq_true rfl) ?_
  intro p e s m below meth c ls hx hb hr hml hown hts hlocks hP hK hl
  have hg : ∀ w ∈ kg_G, w.before [.int x].toArray s = true := fun w h => hts w (List.mem_cons_of_mem _ h)
  have hown : s.vm.findClass "LaneMachine$Setting" = some m.cls := hown
  have hA : ∀ k, k < n → kw_A ad n (ad k) := fun k hk => ⟨k, hk, rfl⟩
  have hS : va_S (kw_A ad n) s.heap s.heap [] := va_S.rf
  have hl : lv_has ls 1 [(0, .int x)] := hl
  refine lv_iload_n hx hb d_S_isCode_0 rfl (lv_at hl 0 rfl) ?_
  refine lv_if_lt (tgt := 21) hx hb d_S_isCode_1 (by decide) (fun h1 => ?_) (fun h1 => ?_)
  · refine lv_iconst (v := 0) hx hb d_S_isCode_21 (by decide) ?_
    exact kw_zret hx hb hr hlocks hP hK hS (Or.inl rfl) ⟨by rw [kv_S_isCode, if_pos h1], rfl⟩ d_S_isCode_22
  · refine lv_iload_n hx hb d_S_isCode_4 rfl (lv_at hl 0 rfl) ?_
    refine lv_bipush (v := 10) hx hb d_S_isCode_5 (by decide) ?_
    refine lv_icmp_gt (tgt := 21) hx hb d_S_isCode_7 (by decide) (fun h2 => ?_) (fun h2 => ?_)
    · refine lv_iconst (v := 0) hx hb d_S_isCode_21 (by decide) ?_
      exact kw_zret hx hb hr hlocks hP hK hS (Or.inl rfl) ⟨by rw [kv_S_isCode, if_neg h1, if_pos h2], rfl⟩ d_S_isCode_22
    · refine lv_iload_n hx hb d_S_isCode_10 rfl (lv_at hl 0 rfl) ?_
      refine lv_iconst (v := 4) hx hb d_S_isCode_11 (by decide) ?_
      refine lv_irem hx hb d_S_isCode_12 (by decide) ?_
      refine lv_iconst (v := 3) hx hb d_S_isCode_13 (by decide) ?_
      refine lv_icmp_eq (tgt := 21) hx hb d_S_isCode_14 (by decide) (fun h3 => ?_) (fun h3 => ?_)
      · refine lv_iconst (v := 0) hx hb d_S_isCode_21 (by decide) ?_
        exact kw_zret hx hb hr hlocks hP hK hS (Or.inl rfl) ⟨by rw [kv_S_isCode, if_neg h1, if_neg h2, if_pos h3], rfl⟩ d_S_isCode_22
      · refine lv_iconst (v := 1) hx hb d_S_isCode_17 (by decide) ?_
        refine lv_goto (tgt := 22) hx hb d_S_isCode_18 (by decide) ?_
        exact kw_zret hx hb hr hlocks hP hK hS (Or.inr rfl) ⟨by rw [kv_S_isCode, if_neg h1, if_neg h2, if_neg h3], rfl⟩ d_S_isCode_22

def kv_S_isMultiple (x : Int32) (y : Int32) : Int32 := if (x &&& (y - 1)) = 0 then 1 else 0
set_option maxRecDepth 100000 in
set_option maxHeartbeats 4000000 in
theorem c_S_isMultiple (l : Launch) {D : va_G} {tys : List (ClassId × FieldType)} {ad : Nat → Nat} {n : Nat} {cs : Nat → va_E} {x y : Int32}   : kw_mi l y_S_isMultiple w_S_isMultiple (kr 0) D kc tys ad n cs [.int x, .int y] (fun r c => r = kv_S_isMultiple x y ∧ c = cs) := by
  refine kw_of (cc := b_S_isMultiple) (maxL := 2) (ret := (some .boolean)) (by decide) rfl (Nat.le_of_ble_eq_true rfl) ?_
  intro p e s m below meth c ls hx hb hr hml hown hts hlocks hP hK hl
  have hg : ∀ w ∈ kg_G, w.before [.int x, .int y].toArray s = true := fun w h => hts w (List.mem_cons_of_mem _ h)
  have hown : s.vm.findClass "LaneMachine$Setting" = some m.cls := hown
  have hA : ∀ k, k < n → kw_A ad n (ad k) := fun k hk => ⟨k, hk, rfl⟩
  have hS : va_S (kw_A ad n) s.heap s.heap [] := va_S.rf
  have hl : lv_has ls 2 [(0, .int x), (1, .int y)] := hl
  refine lv_iload_n hx hb d_S_isMultiple_0 rfl (lv_at hl 0 rfl) ?_
  refine lv_iload_n hx hb d_S_isMultiple_1 rfl (lv_at hl 1 rfl) ?_
  refine lv_iconst (v := 1) hx hb d_S_isMultiple_2 (by decide) ?_
  refine lv_isub hx hb d_S_isMultiple_3 ?_
  refine lv_iand hx hb d_S_isMultiple_4 ?_
  refine lv_if_ne (tgt := 12) hx hb d_S_isMultiple_5 (by decide) (fun h1 => ?_) (fun h1 => ?_)
  · refine lv_iconst (v := 0) hx hb d_S_isMultiple_12 (by decide) ?_
    exact kw_zret hx hb hr hlocks hP hK hS (Or.inl rfl) ⟨by rw [kv_S_isMultiple, if_neg h1], rfl⟩ d_S_isMultiple_13
  · refine lv_iconst (v := 1) hx hb d_S_isMultiple_8 (by decide) ?_
    refine lv_goto (tgt := 13) hx hb d_S_isMultiple_9 (by decide) ?_
    exact kw_zret hx hb hr hlocks hP hK hS (Or.inr rfl) ⟨by rw [kv_S_isMultiple, if_pos h1], rfl⟩ d_S_isMultiple_13

def kv_I_isVector (op : Int32) : Int32 := if op < 8 then 0 else 1
set_option maxRecDepth 100000 in
set_option maxHeartbeats 4000000 in
theorem c_I_isVector (l : Launch) {D : va_G} {tys : List (ClassId × FieldType)} {ad : Nat → Nat} {n : Nat} {cs : Nat → va_E} {q1 : Nat} {op rd ra rb rn mk : Int32} (hq1 : q1 < n) (e1 : cs q1 = .inr (1, [.int op, .int rd, .int ra, .int rb, .int rn, .int mk]))  : kw_mi l y_I_isVector w_I_isVector (kr 0) D kc tys ad n cs [.ref (ad q1)] (fun r c => r = kv_I_isVector op ∧ c = cs) := by
  refine kw_of (cc := b_I_isVector) (maxL := 1) (ret := (some .boolean)) (by decide) rfl (Nat.le_of_ble_eq_true rfl) ?_
  intro p e s m below meth c ls hx hb hr hml hown hts hlocks hP hK hl
  have hg : ∀ w ∈ kg_G, w.before [.ref (ad q1)].toArray s = true := fun w h => hts w (List.mem_cons_of_mem _ h)
  have hown : s.vm.findClass "LaneMachine$Instruction" = some m.cls := hown
  have hA : ∀ k, k < n → kw_A ad n (ad k) := fun k hk => ⟨k, hk, rfl⟩
  have hS : va_S (kw_A ad n) s.heap s.heap [] := va_S.rf
  have hl : lv_has ls 1 [(0, .ref (ad q1))] := hl
  refine lv_aload_n hx hb d_I_isVector_0 rfl (lv_at hl 0 rfl) ?_
  refine kw_get hx hb hg in_I hown hK hP q1 hq1 e1 rfl 0 (by decide) (hg _ kg_71) rfl rfl d_I_isVector_1 ?_
  refine lv_bipush (v := 8) hx hb d_I_isVector_4 (by decide) ?_
  refine lv_icmp_lt (tgt := 13) hx hb d_I_isVector_6 (by decide) (fun h1 => ?_) (fun h1 => ?_)
  · refine lv_iconst (v := 0) hx hb d_I_isVector_13 (by decide) ?_
    exact kw_zret hx hb hr hlocks hP hK hS (Or.inl rfl) ⟨by rw [kv_I_isVector, if_pos h1], rfl⟩ d_I_isVector_14
  · refine lv_iconst (v := 1) hx hb d_I_isVector_9 (by decide) ?_
    refine lv_goto (tgt := 14) hx hb d_I_isVector_10 (by decide) ?_
    exact kw_zret hx hb hr hlocks hP hK hS (Or.inr rfl) ⟨by rw [kv_I_isVector, if_neg h1], rfl⟩ d_I_isVector_14

def kv_I_needsEmptyQueue (op : Int32) : Int32 := if op = 7 then 1 else if op = 6 then 1 else if op = 5 then 1 else 0
set_option maxRecDepth 100000 in
set_option maxHeartbeats 4000000 in
theorem c_I_needsEmptyQueue (l : Launch) {D : va_G} {tys : List (ClassId × FieldType)} {ad : Nat → Nat} {n : Nat} {cs : Nat → va_E} {q1 : Nat} {op rd ra rb rn mk : Int32} (hq1 : q1 < n) (e1 : cs q1 = .inr (1, [.int op, .int rd, .int ra, .int rb, .int rn, .int mk]))  : kw_mi l y_I_needsEmptyQueue w_I_needsEmptyQueue (kr 0) D kc tys ad n cs [.ref (ad q1)] (fun r c => r = kv_I_needsEmptyQueue op ∧ c = cs) := by
  refine kw_of (cc := b_I_needsEmptyQueue) (maxL := 1) (ret := (some .boolean)) (by decide) rfl (Nat.le_of_ble_eq_true rfl) ?_
  intro p e s m below meth c ls hx hb hr hml hown hts hlocks hP hK hl
  have hg : ∀ w ∈ kg_G, w.before [.ref (ad q1)].toArray s = true := fun w h => hts w (List.mem_cons_of_mem _ h)
  have hown : s.vm.findClass "LaneMachine$Instruction" = some m.cls := hown
  have hA : ∀ k, k < n → kw_A ad n (ad k) := fun k hk => ⟨k, hk, rfl⟩
  have hS : va_S (kw_A ad n) s.heap s.heap [] := va_S.rf
  have hl : lv_has ls 1 [(0, .ref (ad q1))] := hl
  refine lv_aload_n hx hb d_I_needsEmptyQueue_0 rfl (lv_at hl 0 rfl) ?_
  refine kw_get hx hb hg in_I hown hK hP q1 hq1 e1 rfl 0 (by decide) (hg _ kg_71) rfl rfl d_I_needsEmptyQueue_1 ?_
  refine lv_bipush (v := 7) hx hb d_I_needsEmptyQueue_4 (by decide) ?_
  refine lv_icmp_eq (tgt := 26) hx hb d_I_needsEmptyQueue_6 (by decide) (fun h1 => ?_) (fun h1 => ?_)
  · refine lv_iconst (v := 1) hx hb d_I_needsEmptyQueue_26 (by decide) ?_
    refine lv_goto (tgt := 31) hx hb d_I_needsEmptyQueue_27 (by decide) ?_
    exact kw_zret hx hb hr hlocks hP hK hS (Or.inr rfl) ⟨by rw [kv_I_needsEmptyQueue, if_pos h1], rfl⟩ d_I_needsEmptyQueue_31
  · refine lv_aload_n hx hb d_I_needsEmptyQueue_9 rfl (lv_at hl 0 rfl) ?_
    refine kw_get hx hb hg in_I hown hK hP q1 hq1 e1 rfl 0 (by decide) (hg _ kg_71) rfl rfl d_I_needsEmptyQueue_10 ?_
    refine lv_bipush (v := 6) hx hb d_I_needsEmptyQueue_13 (by decide) ?_
    refine lv_icmp_eq (tgt := 26) hx hb d_I_needsEmptyQueue_15 (by decide) (fun h2 => ?_) (fun h2 => ?_)
    · refine lv_iconst (v := 1) hx hb d_I_needsEmptyQueue_26 (by decide) ?_
      refine lv_goto (tgt := 31) hx hb d_I_needsEmptyQueue_27 (by decide) ?_
      exact kw_zret hx hb hr hlocks hP hK hS (Or.inr rfl) ⟨by rw [kv_I_needsEmptyQueue, if_neg h1, if_pos h2], rfl⟩ d_I_needsEmptyQueue_31
    · refine lv_aload_n hx hb d_I_needsEmptyQueue_18 rfl (lv_at hl 0 rfl) ?_
      refine kw_get hx hb hg in_I hown hK hP q1 hq1 e1 rfl 0 (by decide) (hg _ kg_71) rfl rfl d_I_needsEmptyQueue_19 ?_
      refine lv_iconst (v := 5) hx hb d_I_needsEmptyQueue_22 (by decide) ?_
      refine lv_icmp_ne (tgt := 30) hx hb d_I_needsEmptyQueue_23 (by decide) (fun h3 => ?_) (fun h3 => ?_)
      · refine lv_iconst (v := 0) hx hb d_I_needsEmptyQueue_30 (by decide) ?_
        exact kw_zret hx hb hr hlocks hP hK hS (Or.inl rfl) ⟨by rw [kv_I_needsEmptyQueue, if_neg h1, if_neg h2, if_neg h3], rfl⟩ d_I_needsEmptyQueue_31
      · refine lv_iconst (v := 1) hx hb d_I_needsEmptyQueue_26 (by decide) ?_
        refine lv_goto (tgt := 31) hx hb d_I_needsEmptyQueue_27 (by decide) ?_
        exact kw_zret hx hb hr hlocks hP hK hS (Or.inr rfl) ⟨by rw [kv_I_needsEmptyQueue, if_neg h1, if_neg h2, if_pos h3], rfl⟩ d_I_needsEmptyQueue_31

def kv_I_unit (op : Int32) : Int32 := if op < 17 then (if op = 10 then 1 else if op < 14 then 0 else 1) else 2
set_option maxRecDepth 100000 in
set_option maxHeartbeats 4000000 in
theorem c_I_unit (l : Launch) {D : va_G} {tys : List (ClassId × FieldType)} {ad : Nat → Nat} {n : Nat} {cs : Nat → va_E} {q1 : Nat} {op rd ra rb rn mk : Int32} (hq1 : q1 < n) (e1 : cs q1 = .inr (1, [.int op, .int rd, .int ra, .int rb, .int rn, .int mk]))  : kw_mi l y_I_unit w_I_unit (kr 0) D kc tys ad n cs [.ref (ad q1)] (fun r c => r = kv_I_unit op ∧ c = cs) := by
  refine kw_of (cc := b_I_unit) (maxL := 1) (ret := (some .int)) (by decide) rfl (Nat.le_of_ble_eq_true rfl) ?_
  intro p e s m below meth c ls hx hb hr hml hown hts hlocks hP hK hl
  have hg : ∀ w ∈ kg_G, w.before [.ref (ad q1)].toArray s = true := fun w h => hts w (List.mem_cons_of_mem _ h)
  have hown : s.vm.findClass "LaneMachine$Instruction" = some m.cls := hown
  have hA : ∀ k, k < n → kw_A ad n (ad k) := fun k hk => ⟨k, hk, rfl⟩
  have hS : va_S (kw_A ad n) s.heap s.heap [] := va_S.rf
  have hl : lv_has ls 1 [(0, .ref (ad q1))] := hl
  refine lv_aload_n hx hb d_I_unit_0 rfl (lv_at hl 0 rfl) ?_
  refine kw_get hx hb hg in_I hown hK hP q1 hq1 e1 rfl 0 (by decide) (hg _ kg_71) rfl rfl d_I_unit_1 ?_
  refine lv_bipush (v := 17) hx hb d_I_unit_4 (by decide) ?_
  refine lv_icmp_lt (tgt := 11) hx hb d_I_unit_6 (by decide) (fun h1 => ?_) (fun h1 => ?_)
  · refine lv_aload_n hx hb d_I_unit_11 rfl (lv_at hl 0 rfl) ?_
    refine kw_get hx hb hg in_I hown hK hP q1 hq1 e1 rfl 0 (by decide) (hg _ kg_71) rfl rfl d_I_unit_12 ?_
    refine lv_bipush (v := 10) hx hb d_I_unit_15 (by decide) ?_
    refine lv_icmp_eq (tgt := 29) hx hb d_I_unit_17 (by decide) (fun h2 => ?_) (fun h2 => ?_)
    · refine lv_iconst (v := 1) hx hb d_I_unit_29 (by decide) ?_
      refine lv_goto (tgt := 34) hx hb d_I_unit_30 (by decide) ?_
      exact kw_iret hx hb hr hlocks hP hK hS ⟨by rw [kv_I_unit, if_pos h1, if_pos h2], rfl⟩ d_I_unit_34
    · refine lv_aload_n hx hb d_I_unit_20 rfl (lv_at hl 0 rfl) ?_
      refine kw_get hx hb hg in_I hown hK hP q1 hq1 e1 rfl 0 (by decide) (hg _ kg_71) rfl rfl d_I_unit_21 ?_
      refine lv_bipush (v := 14) hx hb d_I_unit_24 (by decide) ?_
      refine lv_icmp_lt (tgt := 33) hx hb d_I_unit_26 (by decide) (fun h3 => ?_) (fun h3 => ?_)
      · refine lv_iconst (v := 0) hx hb d_I_unit_33 (by decide) ?_
        exact kw_iret hx hb hr hlocks hP hK hS ⟨by rw [kv_I_unit, if_pos h1, if_neg h2, if_pos h3], rfl⟩ d_I_unit_34
      · refine lv_iconst (v := 1) hx hb d_I_unit_29 (by decide) ?_
        refine lv_goto (tgt := 34) hx hb d_I_unit_30 (by decide) ?_
        exact kw_iret hx hb hr hlocks hP hK hS ⟨by rw [kv_I_unit, if_pos h1, if_neg h2, if_neg h3], rfl⟩ d_I_unit_34
  · refine lv_iconst (v := 2) hx hb d_I_unit_9 (by decide) ?_
    exact kw_iret hx hb hr hlocks hP hK hS ⟨by rw [kv_I_unit, if_neg h1], rfl⟩ d_I_unit_10

def kv_I_hasGroupAtD (op : Int32) : Int32 := if op = 12 then 0 else if op = 14 then 0 else 1
set_option maxRecDepth 100000 in
set_option maxHeartbeats 4000000 in
theorem c_I_hasGroupAtD (l : Launch) {D : va_G} {tys : List (ClassId × FieldType)} {ad : Nat → Nat} {n : Nat} {cs : Nat → va_E} {q1 : Nat} {op rd ra rb rn mk : Int32} (hq1 : q1 < n) (e1 : cs q1 = .inr (1, [.int op, .int rd, .int ra, .int rb, .int rn, .int mk]))  : kw_mi l y_I_hasGroupAtD w_I_hasGroupAtD (kr 0) D kc tys ad n cs [.ref (ad q1)] (fun r c => r = kv_I_hasGroupAtD op ∧ c = cs) := by
  refine kw_of (cc := b_I_hasGroupAtD) (maxL := 1) (ret := (some .boolean)) (by decide) rfl (Nat.le_of_ble_eq_true rfl) ?_
  intro p e s m below meth c ls hx hb hr hml hown hts hlocks hP hK hl
  have hg : ∀ w ∈ kg_G, w.before [.ref (ad q1)].toArray s = true := fun w h => hts w (List.mem_cons_of_mem _ h)
  have hown : s.vm.findClass "LaneMachine$Instruction" = some m.cls := hown
  have hA : ∀ k, k < n → kw_A ad n (ad k) := fun k hk => ⟨k, hk, rfl⟩
  have hS : va_S (kw_A ad n) s.heap s.heap [] := va_S.rf
  have hl : lv_has ls 1 [(0, .ref (ad q1))] := hl
  refine lv_aload_n hx hb d_I_hasGroupAtD_0 rfl (lv_at hl 0 rfl) ?_
  refine kw_get hx hb hg in_I hown hK hP q1 hq1 e1 rfl 0 (by decide) (hg _ kg_71) rfl rfl d_I_hasGroupAtD_1 ?_
  refine lv_bipush (v := 12) hx hb d_I_hasGroupAtD_4 (by decide) ?_
  refine lv_icmp_eq (tgt := 22) hx hb d_I_hasGroupAtD_6 (by decide) (fun h1 => ?_) (fun h1 => ?_)
  · refine lv_iconst (v := 0) hx hb d_I_hasGroupAtD_22 (by decide) ?_
    exact kw_zret hx hb hr hlocks hP hK hS (Or.inl rfl) ⟨by rw [kv_I_hasGroupAtD, if_pos h1], rfl⟩ d_I_hasGroupAtD_23
  · refine lv_aload_n hx hb d_I_hasGroupAtD_9 rfl (lv_at hl 0 rfl) ?_
    refine kw_get hx hb hg in_I hown hK hP q1 hq1 e1 rfl 0 (by decide) (hg _ kg_71) rfl rfl d_I_hasGroupAtD_10 ?_
    refine lv_bipush (v := 14) hx hb d_I_hasGroupAtD_13 (by decide) ?_
    refine lv_icmp_eq (tgt := 22) hx hb d_I_hasGroupAtD_15 (by decide) (fun h2 => ?_) (fun h2 => ?_)
    · refine lv_iconst (v := 0) hx hb d_I_hasGroupAtD_22 (by decide) ?_
      exact kw_zret hx hb hr hlocks hP hK hS (Or.inl rfl) ⟨by rw [kv_I_hasGroupAtD, if_neg h1, if_pos h2], rfl⟩ d_I_hasGroupAtD_23
    · refine lv_iconst (v := 1) hx hb d_I_hasGroupAtD_18 (by decide) ?_
      refine lv_goto (tgt := 23) hx hb d_I_hasGroupAtD_19 (by decide) ?_
      exact kw_zret hx hb hr hlocks hP hK hS (Or.inr rfl) ⟨by rw [kv_I_hasGroupAtD, if_neg h1, if_neg h2], rfl⟩ d_I_hasGroupAtD_23

def kv_I_hasGroupAtA (op : Int32) : Int32 := if 16 < op then 0 else 1
set_option maxRecDepth 100000 in
set_option maxHeartbeats 4000000 in
theorem c_I_hasGroupAtA (l : Launch) {D : va_G} {tys : List (ClassId × FieldType)} {ad : Nat → Nat} {n : Nat} {cs : Nat → va_E} {q1 : Nat} {op rd ra rb rn mk : Int32} (hq1 : q1 < n) (e1 : cs q1 = .inr (1, [.int op, .int rd, .int ra, .int rb, .int rn, .int mk]))  : kw_mi l y_I_hasGroupAtA w_I_hasGroupAtA (kr 0) D kc tys ad n cs [.ref (ad q1)] (fun r c => r = kv_I_hasGroupAtA op ∧ c = cs) := by
  refine kw_of (cc := b_I_hasGroupAtA) (maxL := 1) (ret := (some .boolean)) (by decide) rfl (Nat.le_of_ble_eq_true rfl) ?_
  intro p e s m below meth c ls hx hb hr hml hown hts hlocks hP hK hl
  have hg : ∀ w ∈ kg_G, w.before [.ref (ad q1)].toArray s = true := fun w h => hts w (List.mem_cons_of_mem _ h)
  have hown : s.vm.findClass "LaneMachine$Instruction" = some m.cls := hown
  have hA : ∀ k, k < n → kw_A ad n (ad k) := fun k hk => ⟨k, hk, rfl⟩
  have hS : va_S (kw_A ad n) s.heap s.heap [] := va_S.rf
  have hl : lv_has ls 1 [(0, .ref (ad q1))] := hl
  refine lv_aload_n hx hb d_I_hasGroupAtA_0 rfl (lv_at hl 0 rfl) ?_
  refine kw_get hx hb hg in_I hown hK hP q1 hq1 e1 rfl 0 (by decide) (hg _ kg_71) rfl rfl d_I_hasGroupAtA_1 ?_
  refine lv_bipush (v := 16) hx hb d_I_hasGroupAtA_4 (by decide) ?_
  refine lv_icmp_gt (tgt := 13) hx hb d_I_hasGroupAtA_6 (by decide) (fun h1 => ?_) (fun h1 => ?_)
  · refine lv_iconst (v := 0) hx hb d_I_hasGroupAtA_13 (by decide) ?_
    exact kw_zret hx hb hr hlocks hP hK hS (Or.inl rfl) ⟨by rw [kv_I_hasGroupAtA, if_pos h1], rfl⟩ d_I_hasGroupAtA_14
  · refine lv_iconst (v := 1) hx hb d_I_hasGroupAtA_9 (by decide) ?_
    refine lv_goto (tgt := 14) hx hb d_I_hasGroupAtA_10 (by decide) ?_
    exact kw_zret hx hb hr hlocks hP hK hS (Or.inr rfl) ⟨by rw [kv_I_hasGroupAtA, if_neg h1], rfl⟩ d_I_hasGroupAtA_14

def kv_I_hasGroupAtB (op : Int32) : Int32 := if op = 19 then 1 else if 16 < op then 0 else if op = 11 then 0 else if op = 15 then 0 else if op = 14 then 0 else 1
set_option maxRecDepth 100000 in
set_option maxHeartbeats 4000000 in
theorem c_I_hasGroupAtB (l : Launch) {D : va_G} {tys : List (ClassId × FieldType)} {ad : Nat → Nat} {n : Nat} {cs : Nat → va_E} {q1 : Nat} {op rd ra rb rn mk : Int32} (hq1 : q1 < n) (e1 : cs q1 = .inr (1, [.int op, .int rd, .int ra, .int rb, .int rn, .int mk]))  : kw_mi l y_I_hasGroupAtB w_I_hasGroupAtB (kr 0) D kc tys ad n cs [.ref (ad q1)] (fun r c => r = kv_I_hasGroupAtB op ∧ c = cs) := by
  refine kw_of (cc := b_I_hasGroupAtB) (maxL := 1) (ret := (some .boolean)) (by decide) rfl (Nat.le_of_ble_eq_true rfl) ?_
  intro p e s m below meth c ls hx hb hr hml hown hts hlocks hP hK hl
  have hg : ∀ w ∈ kg_G, w.before [.ref (ad q1)].toArray s = true := fun w h => hts w (List.mem_cons_of_mem _ h)
  have hown : s.vm.findClass "LaneMachine$Instruction" = some m.cls := hown
  have hA : ∀ k, k < n → kw_A ad n (ad k) := fun k hk => ⟨k, hk, rfl⟩
  have hS : va_S (kw_A ad n) s.heap s.heap [] := va_S.rf
  have hl : lv_has ls 1 [(0, .ref (ad q1))] := hl
  refine lv_aload_n hx hb d_I_hasGroupAtB_0 rfl (lv_at hl 0 rfl) ?_
  refine kw_get hx hb hg in_I hown hK hP q1 hq1 e1 rfl 0 (by decide) (hg _ kg_71) rfl rfl d_I_hasGroupAtB_1 ?_
  refine lv_bipush (v := 19) hx hb d_I_hasGroupAtB_4 (by decide) ?_
  refine lv_icmp_eq (tgt := 45) hx hb d_I_hasGroupAtB_6 (by decide) (fun h1 => ?_) (fun h1 => ?_)
  · refine lv_iconst (v := 1) hx hb d_I_hasGroupAtB_45 (by decide) ?_
    refine lv_goto (tgt := 50) hx hb d_I_hasGroupAtB_46 (by decide) ?_
    exact kw_zret hx hb hr hlocks hP hK hS (Or.inr rfl) ⟨by rw [kv_I_hasGroupAtB, if_pos h1], rfl⟩ d_I_hasGroupAtB_50
  · refine lv_aload_n hx hb d_I_hasGroupAtB_9 rfl (lv_at hl 0 rfl) ?_
    refine kw_get hx hb hg in_I hown hK hP q1 hq1 e1 rfl 0 (by decide) (hg _ kg_71) rfl rfl d_I_hasGroupAtB_10 ?_
    refine lv_bipush (v := 16) hx hb d_I_hasGroupAtB_13 (by decide) ?_
    refine lv_icmp_gt (tgt := 49) hx hb d_I_hasGroupAtB_15 (by decide) (fun h2 => ?_) (fun h2 => ?_)
    · refine lv_iconst (v := 0) hx hb d_I_hasGroupAtB_49 (by decide) ?_
      exact kw_zret hx hb hr hlocks hP hK hS (Or.inl rfl) ⟨by rw [kv_I_hasGroupAtB, if_neg h1, if_pos h2], rfl⟩ d_I_hasGroupAtB_50
    · refine lv_aload_n hx hb d_I_hasGroupAtB_18 rfl (lv_at hl 0 rfl) ?_
      refine kw_get hx hb hg in_I hown hK hP q1 hq1 e1 rfl 0 (by decide) (hg _ kg_71) rfl rfl d_I_hasGroupAtB_19 ?_
      refine lv_bipush (v := 11) hx hb d_I_hasGroupAtB_22 (by decide) ?_
      refine lv_icmp_eq (tgt := 49) hx hb d_I_hasGroupAtB_24 (by decide) (fun h3 => ?_) (fun h3 => ?_)
      · refine lv_iconst (v := 0) hx hb d_I_hasGroupAtB_49 (by decide) ?_
        exact kw_zret hx hb hr hlocks hP hK hS (Or.inl rfl) ⟨by rw [kv_I_hasGroupAtB, if_neg h1, if_neg h2, if_pos h3], rfl⟩ d_I_hasGroupAtB_50
      · refine lv_aload_n hx hb d_I_hasGroupAtB_27 rfl (lv_at hl 0 rfl) ?_
        refine kw_get hx hb hg in_I hown hK hP q1 hq1 e1 rfl 0 (by decide) (hg _ kg_71) rfl rfl d_I_hasGroupAtB_28 ?_
        refine lv_bipush (v := 15) hx hb d_I_hasGroupAtB_31 (by decide) ?_
        refine lv_icmp_eq (tgt := 49) hx hb d_I_hasGroupAtB_33 (by decide) (fun h4 => ?_) (fun h4 => ?_)
        · refine lv_iconst (v := 0) hx hb d_I_hasGroupAtB_49 (by decide) ?_
          exact kw_zret hx hb hr hlocks hP hK hS (Or.inl rfl) ⟨by rw [kv_I_hasGroupAtB, if_neg h1, if_neg h2, if_neg h3, if_pos h4], rfl⟩ d_I_hasGroupAtB_50
        · refine lv_aload_n hx hb d_I_hasGroupAtB_36 rfl (lv_at hl 0 rfl) ?_
          refine kw_get hx hb hg in_I hown hK hP q1 hq1 e1 rfl 0 (by decide) (hg _ kg_71) rfl rfl d_I_hasGroupAtB_37 ?_
          refine lv_bipush (v := 14) hx hb d_I_hasGroupAtB_40 (by decide) ?_
          refine lv_icmp_eq (tgt := 49) hx hb d_I_hasGroupAtB_42 (by decide) (fun h5 => ?_) (fun h5 => ?_)
          · refine lv_iconst (v := 0) hx hb d_I_hasGroupAtB_49 (by decide) ?_
            exact kw_zret hx hb hr hlocks hP hK hS (Or.inl rfl) ⟨by rw [kv_I_hasGroupAtB, if_neg h1, if_neg h2, if_neg h3, if_neg h4, if_pos h5], rfl⟩ d_I_hasGroupAtB_50
          · refine lv_iconst (v := 1) hx hb d_I_hasGroupAtB_45 (by decide) ?_
            refine lv_goto (tgt := 50) hx hb d_I_hasGroupAtB_46 (by decide) ?_
            exact kw_zret hx hb hr hlocks hP hK hS (Or.inr rfl) ⟨by rw [kv_I_hasGroupAtB, if_neg h1, if_neg h2, if_neg h3, if_neg h4, if_neg h5], rfl⟩ d_I_hasGroupAtB_50

def kv_S_spoilsMask (op : Int32) (rd : Int32) (mk : Int32) : Int32 := if mk = 0 then 0 else if rd = 0 then (if op = 12 then 0 else if op = 18 then 0 else 1) else 0
set_option maxRecDepth 100000 in
set_option maxHeartbeats 4000000 in
theorem c_S_spoilsMask (l : Launch) {D : va_G} {tys : List (ClassId × FieldType)} {ad : Nat → Nat} {n : Nat} {cs : Nat → va_E} {q1 : Nat} {op rd ra rb rn mk : Int32} (hq1 : q1 < n) (e1 : cs q1 = .inr (1, [.int op, .int rd, .int ra, .int rb, .int rn, .int mk]))  : kw_mi l y_S_spoilsMask w_S_spoilsMask (kr 0) D kc tys ad n cs [.ref (ad q1)] (fun r c => r = kv_S_spoilsMask op rd mk ∧ c = cs) := by
  refine kw_of (cc := b_S_spoilsMask) (maxL := 1) (ret := (some .boolean)) (by decide) rfl (Nat.le_of_ble_eq_true rfl) ?_
  intro p e s m below meth c ls hx hb hr hml hown hts hlocks hP hK hl
  have hg : ∀ w ∈ kg_G, w.before [.ref (ad q1)].toArray s = true := fun w h => hts w (List.mem_cons_of_mem _ h)
  have hown : s.vm.findClass "LaneMachine$Setting" = some m.cls := hown
  have hA : ∀ k, k < n → kw_A ad n (ad k) := fun k hk => ⟨k, hk, rfl⟩
  have hS : va_S (kw_A ad n) s.heap s.heap [] := va_S.rf
  have hl : lv_has ls 1 [(0, .ref (ad q1))] := hl
  refine lv_aload_n hx hb d_S_spoilsMask_0 rfl (lv_at hl 0 rfl) ?_
  refine kw_get hx hb hg in_I hown hK hP q1 hq1 e1 rfl 5 (by decide) (hg _ kg_90) rfl rfl d_S_spoilsMask_1 ?_
  refine lv_if_eq (tgt := 36) hx hb d_S_spoilsMask_4 (by decide) (fun h1 => ?_) (fun h1 => ?_)
  · refine lv_iconst (v := 0) hx hb d_S_spoilsMask_36 (by decide) ?_
    exact kw_zret hx hb hr hlocks hP hK hS (Or.inl rfl) ⟨by rw [kv_S_spoilsMask, if_pos h1], rfl⟩ d_S_spoilsMask_37
  · refine lv_aload_n hx hb d_S_spoilsMask_7 rfl (lv_at hl 0 rfl) ?_
    refine kw_get hx hb hg in_I hown hK hP q1 hq1 e1 rfl 1 (by decide) (hg _ kg_76) rfl rfl d_S_spoilsMask_8 ?_
    refine lv_if_ne (tgt := 36) hx hb d_S_spoilsMask_11 (by decide) (fun h2 => ?_) (fun h2 => ?_)
    · refine lv_iconst (v := 0) hx hb d_S_spoilsMask_36 (by decide) ?_
      exact kw_zret hx hb hr hlocks hP hK hS (Or.inl rfl) ⟨by rw [kv_S_spoilsMask, if_neg h1, if_neg h2], rfl⟩ d_S_spoilsMask_37
    · refine lv_aload_n hx hb d_S_spoilsMask_14 rfl (lv_at hl 0 rfl) ?_
      refine kw_get hx hb hg in_I hown hK hP q1 hq1 e1 rfl 0 (by decide) (hg _ kg_73) rfl rfl d_S_spoilsMask_15 ?_
      refine lv_bipush (v := 12) hx hb d_S_spoilsMask_18 (by decide) ?_
      refine lv_icmp_eq (tgt := 36) hx hb d_S_spoilsMask_20 (by decide) (fun h3 => ?_) (fun h3 => ?_)
      · refine lv_iconst (v := 0) hx hb d_S_spoilsMask_36 (by decide) ?_
        exact kw_zret hx hb hr hlocks hP hK hS (Or.inl rfl) ⟨by rw [kv_S_spoilsMask, if_neg h1, if_pos h2, if_pos h3], rfl⟩ d_S_spoilsMask_37
      · refine lv_aload_n hx hb d_S_spoilsMask_23 rfl (lv_at hl 0 rfl) ?_
        refine kw_get hx hb hg in_I hown hK hP q1 hq1 e1 rfl 0 (by decide) (hg _ kg_73) rfl rfl d_S_spoilsMask_24 ?_
        refine lv_bipush (v := 18) hx hb d_S_spoilsMask_27 (by decide) ?_
        refine lv_icmp_eq (tgt := 36) hx hb d_S_spoilsMask_29 (by decide) (fun h4 => ?_) (fun h4 => ?_)
        · refine lv_iconst (v := 0) hx hb d_S_spoilsMask_36 (by decide) ?_
          exact kw_zret hx hb hr hlocks hP hK hS (Or.inl rfl) ⟨by rw [kv_S_spoilsMask, if_neg h1, if_pos h2, if_neg h3, if_pos h4], rfl⟩ d_S_spoilsMask_37
        · refine lv_iconst (v := 1) hx hb d_S_spoilsMask_32 (by decide) ?_
          refine lv_goto (tgt := 37) hx hb d_S_spoilsMask_33 (by decide) ?_
          exact kw_zret hx hb hr hlocks hP hK hS (Or.inr rfl) ⟨by rw [kv_S_spoilsMask, if_neg h1, if_pos h2, if_neg h3, if_neg h4], rfl⟩ d_S_spoilsMask_37

def kv_S_isInWideGroup (gp : Int32) (x : Int32) (y : Int32) : Int32 := if y < x then 0 else if (x + (2 * (kv_S_group gp))) ≤ y then 0 else 1
set_option maxRecDepth 100000 in
set_option maxHeartbeats 4000000 in
theorem c_S_isInWideGroup (l : Launch) {D : va_G} {tys : List (ClassId × FieldType)} {ad : Nat → Nat} {n : Nat} {cs : Nat → va_E} {q0 : Nat} {wp gp ln sa : Int32} {x y : Int32} (hq0 : q0 < n) (e0 : cs q0 = .inr (2, [.int wp, .int gp, .int ln, .int sa]))  : kw_mi l y_S_isInWideGroup w_S_isInWideGroup (kr 1) D kc tys ad n cs [.ref (ad q0), .int x, .int y] (fun r c => r = kv_S_isInWideGroup gp x y ∧ c = cs) := by
  refine kw_of (cc := b_S_isInWideGroup) (maxL := 3) (ret := (some .boolean)) (by decide) rfl (Nat.le_of_ble_eq_true rfl) ?_
  intro p e s m below meth c ls hx hb hr hml hown hts hlocks hP hK hl
  have hg : ∀ w ∈ kg_G, w.before [.ref (ad q0), .int x, .int y].toArray s = true := fun w h => hts w (List.mem_cons_of_mem _ h)
  have hown : s.vm.findClass "LaneMachine$Setting" = some m.cls := hown
  have hA : ∀ k, k < n → kw_A ad n (ad k) := fun k hk => ⟨k, hk, rfl⟩
  have hS : va_S (kw_A ad n) s.heap s.heap [] := va_S.rf
  have hl : lv_has ls 3 [(0, .ref (ad q0)), (1, .int x), (2, .int y)] := hl
  refine lv_iload_n hx hb d_S_isInWideGroup_0 rfl (lv_at hl 2 rfl) ?_
  refine lv_iload_n hx hb d_S_isInWideGroup_1 rfl (lv_at hl 1 rfl) ?_
  refine lv_icmp_lt (tgt := 21) hx hb d_S_isInWideGroup_2 (by decide) (fun h1 => ?_) (fun h1 => ?_)
  · refine lv_iconst (v := 0) hx hb d_S_isInWideGroup_21 (by decide) ?_
    exact kw_zret hx hb hr hlocks hP hK hS (Or.inl rfl) ⟨by rw [kv_S_isInWideGroup, if_pos h1], rfl⟩ d_S_isInWideGroup_22
  · refine lv_iload_n hx hb d_S_isInWideGroup_5 rfl (lv_at hl 2 rfl) ?_
    refine lv_iload_n hx hb d_S_isInWideGroup_6 rfl (lv_at hl 1 rfl) ?_
    refine lv_iconst (v := 2) hx hb d_S_isInWideGroup_7 (by decide) ?_
    refine lv_aload_n hx hb d_S_isInWideGroup_8 rfl (lv_at hl 0 rfl) ?_
    refine kw_callix (kw_rV (As := []) (rest := [.int 2, .int x, .int y]) (q0 := q0) ⟨hx, hb, hml, hown, hg⟩ ⟨callB_of 0 hg (kg_goodG kg_236) rfl rfl rfl (hg _ kg_4) (hg _ kg_482) (by decide +kernel) ⟨by decide, by decide⟩, hg _ kg_234, hg _ kg_235⟩ (c_S_group l hq0 e0) hK hP hq0 e0 rfl rfl hl.1 rfl (Nat.le_of_ble_eq_true rfl) d_S_isInWideGroup_9 ⟨Nat.zero_le _, Nat.zero_le _⟩) hA hS (fun H locs hP hS => ?_)
    refine lv_imul hx hb d_S_isInWideGroup_12 ?_
    refine lv_iadd hx hb d_S_isInWideGroup_13 ?_
    refine lv_icmp_ge (tgt := 21) hx hb d_S_isInWideGroup_14 (by decide) (fun h2 => ?_) (fun h2 => ?_)
    · refine lv_iconst (v := 0) hx hb d_S_isInWideGroup_21 (by decide) ?_
      exact kw_zret hx hb hr hlocks hP hK hS (Or.inl rfl) ⟨by rw [kv_S_isInWideGroup, if_neg h1, if_pos h2], rfl⟩ d_S_isInWideGroup_22
    · refine lv_iconst (v := 1) hx hb d_S_isInWideGroup_17 (by decide) ?_
      refine lv_goto (tgt := 22) hx hb d_S_isInWideGroup_18 (by decide) ?_
      exact kw_zret hx hb hr hlocks hP hK hS (Or.inr rfl) ⟨by rw [kv_S_isInWideGroup, if_neg h1, if_neg h2], rfl⟩ d_S_isInWideGroup_22

def kv_S_isTooWide (wp : Int32) (gp : Int32) (op : Int32) : Int32 := if op = 13 then (if (kv_S_width wp) = 4 then 1 else if (kv_S_group gp) = 4 then 1 else 0) else 0
set_option maxRecDepth 100000 in
set_option maxHeartbeats 4000000 in
theorem c_S_isTooWide (l : Launch) {D : va_G} {tys : List (ClassId × FieldType)} {ad : Nat → Nat} {n : Nat} {cs : Nat → va_E} {q0 : Nat} {wp gp ln sa : Int32} {q1 : Nat} {op rd ra rb rn mk : Int32} (hq0 : q0 < n) (e0 : cs q0 = .inr (2, [.int wp, .int gp, .int ln, .int sa])) (hq1 : q1 < n) (e1 : cs q1 = .inr (1, [.int op, .int rd, .int ra, .int rb, .int rn, .int mk]))  : kw_mi l y_S_isTooWide w_S_isTooWide (kr 1) D kc tys ad n cs [.ref (ad q0), .ref (ad q1)] (fun r c => r = kv_S_isTooWide wp gp op ∧ c = cs) := by
  refine kw_of (cc := b_S_isTooWide) (maxL := 2) (ret := (some .boolean)) (by decide) rfl (Nat.le_of_ble_eq_true rfl) ?_
  intro p e s m below meth c ls hx hb hr hml hown hts hlocks hP hK hl
  have hg : ∀ w ∈ kg_G, w.before [.ref (ad q0), .ref (ad q1)].toArray s = true := fun w h => hts w (List.mem_cons_of_mem _ h)
  have hown : s.vm.findClass "LaneMachine$Setting" = some m.cls := hown
  have hA : ∀ k, k < n → kw_A ad n (ad k) := fun k hk => ⟨k, hk, rfl⟩
  have hS : va_S (kw_A ad n) s.heap s.heap [] := va_S.rf
  have hl : lv_has ls 2 [(0, .ref (ad q0)), (1, .ref (ad q1))] := hl
  refine lv_aload_n hx hb d_S_isTooWide_0 rfl (lv_at hl 1 rfl) ?_
  refine kw_get hx hb hg in_I hown hK hP q1 hq1 e1 rfl 0 (by decide) (hg _ kg_73) rfl rfl d_S_isTooWide_1 ?_
  refine lv_bipush (v := 13) hx hb d_S_isTooWide_4 (by decide) ?_
  refine lv_icmp_ne (tgt := 29) hx hb d_S_isTooWide_6 (by decide) (fun h1 => ?_) (fun h1 => ?_)
  · refine lv_iconst (v := 0) hx hb d_S_isTooWide_29 (by decide) ?_
    exact kw_zret hx hb hr hlocks hP hK hS (Or.inl rfl) ⟨by rw [kv_S_isTooWide, if_neg h1], rfl⟩ d_S_isTooWide_30
  · refine lv_aload_n hx hb d_S_isTooWide_9 rfl (lv_at hl 0 rfl) ?_
    refine kw_callix (kw_rV (As := []) (rest := []) (q0 := q0) ⟨hx, hb, hml, hown, hg⟩ ⟨callB_of 0 hg (kg_goodG kg_232) rfl rfl rfl (hg _ kg_4) (hg _ kg_513) (by decide +kernel) ⟨by decide, by decide⟩, hg _ kg_230, hg _ kg_231⟩ (c_S_width l hq0 e0) hK hP hq0 e0 rfl rfl hl.1 rfl (Nat.le_of_ble_eq_true rfl) d_S_isTooWide_10 ⟨Nat.zero_le _, Nat.zero_le _⟩) hA hS (fun H locs hP hS => ?_)
    refine lv_iconst (v := 4) hx hb d_S_isTooWide_13 (by decide) ?_
    refine lv_icmp_eq (tgt := 25) hx hb d_S_isTooWide_14 (by decide) (fun h2 => ?_) (fun h2 => ?_)
    · refine lv_iconst (v := 1) hx hb d_S_isTooWide_25 (by decide) ?_
      refine lv_goto (tgt := 30) hx hb d_S_isTooWide_26 (by decide) ?_
      exact kw_zret hx hb hr hlocks hP hK hS (Or.inr rfl) ⟨by rw [kv_S_isTooWide, if_pos h1, if_pos h2], rfl⟩ d_S_isTooWide_30
    · refine lv_aload_n hx hb d_S_isTooWide_17 rfl (lv_at hl 0 rfl) ?_
      refine kw_callix (kw_rV (As := []) (rest := []) (q0 := q0) ⟨hx, hb, hml, hown, hg⟩ ⟨callB_of 0 hg (kg_goodG kg_236) rfl rfl rfl (hg _ kg_4) (hg _ kg_482) (by decide +kernel) ⟨by decide, by decide⟩, hg _ kg_234, hg _ kg_235⟩ (c_S_group l hq0 e0) hK hP hq0 e0 rfl rfl hl.1 rfl (Nat.le_of_ble_eq_true rfl) d_S_isTooWide_18 ⟨Nat.zero_le _, Nat.zero_le _⟩) hA hS (fun H locs hP hS => ?_)
      refine lv_iconst (v := 4) hx hb d_S_isTooWide_21 (by decide) ?_
      refine lv_icmp_ne (tgt := 29) hx hb d_S_isTooWide_22 (by decide) (fun h3 => ?_) (fun h3 => ?_)
      · refine lv_iconst (v := 0) hx hb d_S_isTooWide_29 (by decide) ?_
        exact kw_zret hx hb hr hlocks hP hK hS (Or.inl rfl) ⟨by rw [kv_S_isTooWide, if_pos h1, if_neg h2, if_neg h3], rfl⟩ d_S_isTooWide_30
      · refine lv_iconst (v := 1) hx hb d_S_isTooWide_25 (by decide) ?_
        refine lv_goto (tgt := 30) hx hb d_S_isTooWide_26 (by decide) ?_
        exact kw_zret hx hb hr hlocks hP hK hS (Or.inr rfl) ⟨by rw [kv_S_isTooWide, if_pos h1, if_neg h2, if_pos h3], rfl⟩ d_S_isTooWide_30

def kv_S_isMisplaced (gp : Int32) (op : Int32) (rd : Int32) (ra : Int32) (rb : Int32) : Int32 := if op = 13 then (if (kv_I_hasGroupAtD op) = 0 then (if (kv_I_hasGroupAtA op) = 0 then (if (kv_I_hasGroupAtB op) = 0 then 0 else if (kv_S_isMultiple rb (kv_S_group gp)) = 0 then 1 else 0) else if (kv_S_isMultiple ra (kv_S_group gp)) = 0 then 1 else if (kv_I_hasGroupAtB op) = 0 then 0 else if (kv_S_isMultiple rb (kv_S_group gp)) = 0 then 1 else 0) else if (kv_S_isMultiple rd (2 * (kv_S_group gp))) = 0 then 1 else if (kv_I_hasGroupAtA op) = 0 then (if (kv_I_hasGroupAtB op) = 0 then 0 else if (kv_S_isMultiple rb (kv_S_group gp)) = 0 then 1 else 0) else if (kv_S_isMultiple ra (kv_S_group gp)) = 0 then 1 else if (kv_I_hasGroupAtB op) = 0 then 0 else if (kv_S_isMultiple rb (kv_S_group gp)) = 0 then 1 else 0) else if (kv_I_hasGroupAtD op) = 0 then (if (kv_I_hasGroupAtA op) = 0 then (if (kv_I_hasGroupAtB op) = 0 then 0 else if (kv_S_isMultiple rb (kv_S_group gp)) = 0 then 1 else 0) else if (kv_S_isMultiple ra (kv_S_group gp)) = 0 then 1 else if (kv_I_hasGroupAtB op) = 0 then 0 else if (kv_S_isMultiple rb (kv_S_group gp)) = 0 then 1 else 0) else if (kv_S_isMultiple rd (kv_S_group gp)) = 0 then 1 else if (kv_I_hasGroupAtA op) = 0 then (if (kv_I_hasGroupAtB op) = 0 then 0 else if (kv_S_isMultiple rb (kv_S_group gp)) = 0 then 1 else 0) else if (kv_S_isMultiple ra (kv_S_group gp)) = 0 then 1 else if (kv_I_hasGroupAtB op) = 0 then 0 else if (kv_S_isMultiple rb (kv_S_group gp)) = 0 then 1 else 0
set_option maxRecDepth 100000 in
set_option maxHeartbeats 4000000 in
theorem c_S_isMisplaced (l : Launch) {D : va_G} {tys : List (ClassId × FieldType)} {ad : Nat → Nat} {n : Nat} {cs : Nat → va_E} {q0 : Nat} {wp gp ln sa : Int32} {q1 : Nat} {op rd ra rb rn mk : Int32} (hq0 : q0 < n) (e0 : cs q0 = .inr (2, [.int wp, .int gp, .int ln, .int sa])) (hq1 : q1 < n) (e1 : cs q1 = .inr (1, [.int op, .int rd, .int ra, .int rb, .int rn, .int mk]))  : kw_mi l y_S_isMisplaced w_S_isMisplaced (kr 1) D kc tys ad n cs [.ref (ad q0), .ref (ad q1)] (fun r c => r = kv_S_isMisplaced gp op rd ra rb ∧ c = cs) := by
  refine kw_of (cc := b_S_isMisplaced) (maxL := 3) (ret := (some .boolean)) (by decide) rfl (Nat.le_of_ble_eq_true rfl) ?_
  intro p e s m below meth c ls hx hb hr hml hown hts hlocks hP hK hl
  have hg : ∀ w ∈ kg_G, w.before [.ref (ad q0), .ref (ad q1)].toArray s = true := fun w h => hts w (List.mem_cons_of_mem _ h)
  have hown : s.vm.findClass "LaneMachine$Setting" = some m.cls := hown
  have hA : ∀ k, k < n → kw_A ad n (ad k) := fun k hk => ⟨k, hk, rfl⟩
  have hS : va_S (kw_A ad n) s.heap s.heap [] := va_S.rf
  have hl : lv_has ls 3 [(0, .ref (ad q0)), (1, .ref (ad q1))] := hl
  refine lv_aload_n hx hb d_S_isMisplaced_0 rfl (lv_at hl 1 rfl) ?_
  refine kw_get hx hb hg in_I hown hK hP q1 hq1 e1 rfl 0 (by decide) (hg _ kg_73) rfl rfl d_S_isMisplaced_1 ?_
  refine lv_bipush (v := 13) hx hb d_S_isMisplaced_4 (by decide) ?_
  refine lv_icmp_ne (tgt := 18) hx hb d_S_isMisplaced_6 (by decide) (fun h1 => ?_) (fun h1 => ?_)
  · refine lv_aload_n hx hb d_S_isMisplaced_18 rfl (lv_at hl 0 rfl) ?_
    refine kw_callix (kw_rV (As := []) (rest := []) (q0 := q0) ⟨hx, hb, hml, hown, hg⟩ ⟨callB_of 0 hg (kg_goodG kg_236) rfl rfl rfl (hg _ kg_4) (hg _ kg_482) (by decide +kernel) ⟨by decide, by decide⟩, hg _ kg_234, hg _ kg_235⟩ (c_S_group l hq0 e0) hK hP hq0 e0 rfl rfl hl.1 rfl (Nat.le_of_ble_eq_true rfl) d_S_isMisplaced_19 ⟨Nat.zero_le _, Nat.zero_le _⟩) hA hS (fun H locs hP hS => ?_)
    refine lv_istore_n (lv' := [(2, .int (kv_S_group gp)), (0, .ref (ad q0)), (1, .ref (ad q1))]) hx hb d_S_isMisplaced_22 rfl hl (by decide) rfl (fun ls hl => ?_)
    refine lv_aload_n hx hb d_S_isMisplaced_23 rfl (lv_at hl 2 rfl) ?_
    refine kw_callix (kw_rV (As := []) (rest := []) (q0 := q1) ⟨hx, hb, hml, hown, hg⟩ ⟨callB_of 0 hg (kg_goodG kg_486) rfl rfl rfl (hg _ kg_5) (hg _ kg_483) (by decide +kernel) ⟨by decide, by decide⟩, hg _ kg_484, hg _ kg_485⟩ (c_I_hasGroupAtD l hq1 e1) hK hP hq1 e1 rfl rfl hl.1 rfl (Nat.le_of_ble_eq_true rfl) d_S_isMisplaced_24 ⟨Nat.zero_le _, Nat.zero_le _⟩) hA hS (fun H locs hP hS => ?_)
    refine lv_if_eq (tgt := 41) hx hb d_S_isMisplaced_27 (by decide) (fun h2 => ?_) (fun h2 => ?_)
    · refine lv_aload_n hx hb d_S_isMisplaced_41 rfl (lv_at hl 2 rfl) ?_
      refine kw_callix (kw_rV (As := []) (rest := []) (q0 := q1) ⟨hx, hb, hml, hown, hg⟩ ⟨callB_of 0 hg (kg_goodG kg_493) rfl rfl rfl (hg _ kg_5) (hg _ kg_490) (by decide +kernel) ⟨by decide, by decide⟩, hg _ kg_491, hg _ kg_492⟩ (c_I_hasGroupAtA l hq1 e1) hK hP hq1 e1 rfl rfl hl.1 rfl (Nat.le_of_ble_eq_true rfl) d_S_isMisplaced_42 ⟨Nat.zero_le _, Nat.zero_le _⟩) hA hS (fun H locs hP hS => ?_)
      refine lv_if_eq (tgt := 62) hx hb d_S_isMisplaced_45 (by decide) (fun h3 => ?_) (fun h3 => ?_)
      · refine lv_aload_n hx hb d_S_isMisplaced_62 rfl (lv_at hl 2 rfl) ?_
        refine kw_callix (kw_rV (As := []) (rest := []) (q0 := q1) ⟨hx, hb, hml, hown, hg⟩ ⟨callB_of 0 hg (kg_goodG kg_497) rfl rfl rfl (hg _ kg_5) (hg _ kg_494) (by decide +kernel) ⟨by decide, by decide⟩, hg _ kg_495, hg _ kg_496⟩ (c_I_hasGroupAtB l hq1 e1) hK hP hq1 e1 rfl rfl hl.1 rfl (Nat.le_of_ble_eq_true rfl) d_S_isMisplaced_63 ⟨Nat.zero_le _, Nat.zero_le _⟩) hA hS (fun H locs hP hS => ?_)
        refine lv_if_eq (tgt := 87) hx hb d_S_isMisplaced_66 (by decide) (fun h4 => ?_) (fun h4 => ?_)
        · refine lv_iconst (v := 0) hx hb d_S_isMisplaced_87 (by decide) ?_
          exact kw_zret hx hb hr hlocks hP hK hS (Or.inl rfl) ⟨by rw [kv_S_isMisplaced, if_neg h1, if_pos h2, if_pos h3, if_pos h4], rfl⟩ d_S_isMisplaced_88
        · refine lv_aload_n hx hb d_S_isMisplaced_69 rfl (lv_at hl 2 rfl) ?_
          refine kw_get hx hb hg in_I hown hK hP q1 hq1 e1 rfl 3 (by decide) (hg _ kg_84) rfl rfl d_S_isMisplaced_70 ?_
          refine lv_aload_n hx hb d_S_isMisplaced_73 rfl (lv_at hl 1 rfl) ?_
          refine kw_callix (kw_rV (As := []) (rest := [.int rb]) (q0 := q0) ⟨hx, hb, hml, hown, hg⟩ ⟨callB_of 0 hg (kg_goodG kg_236) rfl rfl rfl (hg _ kg_4) (hg _ kg_482) (by decide +kernel) ⟨by decide, by decide⟩, hg _ kg_234, hg _ kg_235⟩ (c_S_group l hq0 e0) hK hP hq0 e0 rfl rfl hl.1 rfl (Nat.le_of_ble_eq_true rfl) d_S_isMisplaced_74 ⟨Nat.zero_le _, Nat.zero_le _⟩) hA hS (fun H locs hP hS => ?_)
          refine kw_callix (kw_rS (As := [.int rb, .int (kv_S_group gp)]) (rest := []) ⟨hx, hb, hml, hown, hg⟩ ⟨callB_of 2 hg (kg_goodG kg_489) rfl rfl rfl (hg _ kg_4) (hg _ kg_487) (by decide +kernel) ⟨by decide, by decide⟩, hg _ kg_488⟩ (c_S_isMultiple l ) hK hP rfl hl.1 rfl (Nat.le_of_ble_eq_true rfl) d_S_isMisplaced_77 ⟨Nat.zero_le _, Nat.zero_le _⟩) hA hS (fun H locs hP hS => ?_)
          refine lv_if_ne (tgt := 87) hx hb d_S_isMisplaced_80 (by decide) (fun h5 => ?_) (fun h5 => ?_)
          · refine lv_iconst (v := 0) hx hb d_S_isMisplaced_87 (by decide) ?_
            exact kw_zret hx hb hr hlocks hP hK hS (Or.inl rfl) ⟨by rw [kv_S_isMisplaced, if_neg h1, if_pos h2, if_pos h3, if_neg h4, if_neg h5], rfl⟩ d_S_isMisplaced_88
          · refine lv_iconst (v := 1) hx hb d_S_isMisplaced_83 (by decide) ?_
            refine lv_goto (tgt := 88) hx hb d_S_isMisplaced_84 (by decide) ?_
            exact kw_zret hx hb hr hlocks hP hK hS (Or.inr rfl) ⟨by rw [kv_S_isMisplaced, if_neg h1, if_pos h2, if_pos h3, if_neg h4, if_pos h5], rfl⟩ d_S_isMisplaced_88
      · refine lv_aload_n hx hb d_S_isMisplaced_48 rfl (lv_at hl 2 rfl) ?_
        refine kw_get hx hb hg in_I hown hK hP q1 hq1 e1 rfl 2 (by decide) (hg _ kg_80) rfl rfl d_S_isMisplaced_49 ?_
        refine lv_aload_n hx hb d_S_isMisplaced_52 rfl (lv_at hl 1 rfl) ?_
        refine kw_callix (kw_rV (As := []) (rest := [.int ra]) (q0 := q0) ⟨hx, hb, hml, hown, hg⟩ ⟨callB_of 0 hg (kg_goodG kg_236) rfl rfl rfl (hg _ kg_4) (hg _ kg_482) (by decide +kernel) ⟨by decide, by decide⟩, hg _ kg_234, hg _ kg_235⟩ (c_S_group l hq0 e0) hK hP hq0 e0 rfl rfl hl.1 rfl (Nat.le_of_ble_eq_true rfl) d_S_isMisplaced_53 ⟨Nat.zero_le _, Nat.zero_le _⟩) hA hS (fun H locs hP hS => ?_)
        refine kw_callix (kw_rS (As := [.int ra, .int (kv_S_group gp)]) (rest := []) ⟨hx, hb, hml, hown, hg⟩ ⟨callB_of 2 hg (kg_goodG kg_489) rfl rfl rfl (hg _ kg_4) (hg _ kg_487) (by decide +kernel) ⟨by decide, by decide⟩, hg _ kg_488⟩ (c_S_isMultiple l ) hK hP rfl hl.1 rfl (Nat.le_of_ble_eq_true rfl) d_S_isMisplaced_56 ⟨Nat.zero_le _, Nat.zero_le _⟩) hA hS (fun H locs hP hS => ?_)
        refine lv_if_eq (tgt := 83) hx hb d_S_isMisplaced_59 (by decide) (fun h6 => ?_) (fun h6 => ?_)
        · refine lv_iconst (v := 1) hx hb d_S_isMisplaced_83 (by decide) ?_
          refine lv_goto (tgt := 88) hx hb d_S_isMisplaced_84 (by decide) ?_
          exact kw_zret hx hb hr hlocks hP hK hS (Or.inr rfl) ⟨by rw [kv_S_isMisplaced, if_neg h1, if_pos h2, if_neg h3, if_pos h6], rfl⟩ d_S_isMisplaced_88
        · refine lv_aload_n hx hb d_S_isMisplaced_62 rfl (lv_at hl 2 rfl) ?_
          refine kw_callix (kw_rV (As := []) (rest := []) (q0 := q1) ⟨hx, hb, hml, hown, hg⟩ ⟨callB_of 0 hg (kg_goodG kg_497) rfl rfl rfl (hg _ kg_5) (hg _ kg_494) (by decide +kernel) ⟨by decide, by decide⟩, hg _ kg_495, hg _ kg_496⟩ (c_I_hasGroupAtB l hq1 e1) hK hP hq1 e1 rfl rfl hl.1 rfl (Nat.le_of_ble_eq_true rfl) d_S_isMisplaced_63 ⟨Nat.zero_le _, Nat.zero_le _⟩) hA hS (fun H locs hP hS => ?_)
          refine lv_if_eq (tgt := 87) hx hb d_S_isMisplaced_66 (by decide) (fun h7 => ?_) (fun h7 => ?_)
          · refine lv_iconst (v := 0) hx hb d_S_isMisplaced_87 (by decide) ?_
            exact kw_zret hx hb hr hlocks hP hK hS (Or.inl rfl) ⟨by rw [kv_S_isMisplaced, if_neg h1, if_pos h2, if_neg h3, if_neg h6, if_pos h7], rfl⟩ d_S_isMisplaced_88
          · refine lv_aload_n hx hb d_S_isMisplaced_69 rfl (lv_at hl 2 rfl) ?_
            refine kw_get hx hb hg in_I hown hK hP q1 hq1 e1 rfl 3 (by decide) (hg _ kg_84) rfl rfl d_S_isMisplaced_70 ?_
            refine lv_aload_n hx hb d_S_isMisplaced_73 rfl (lv_at hl 1 rfl) ?_
            refine kw_callix (kw_rV (As := []) (rest := [.int rb]) (q0 := q0) ⟨hx, hb, hml, hown, hg⟩ ⟨callB_of 0 hg (kg_goodG kg_236) rfl rfl rfl (hg _ kg_4) (hg _ kg_482) (by decide +kernel) ⟨by decide, by decide⟩, hg _ kg_234, hg _ kg_235⟩ (c_S_group l hq0 e0) hK hP hq0 e0 rfl rfl hl.1 rfl (Nat.le_of_ble_eq_true rfl) d_S_isMisplaced_74 ⟨Nat.zero_le _, Nat.zero_le _⟩) hA hS (fun H locs hP hS => ?_)
            refine kw_callix (kw_rS (As := [.int rb, .int (kv_S_group gp)]) (rest := []) ⟨hx, hb, hml, hown, hg⟩ ⟨callB_of 2 hg (kg_goodG kg_489) rfl rfl rfl (hg _ kg_4) (hg _ kg_487) (by decide +kernel) ⟨by decide, by decide⟩, hg _ kg_488⟩ (c_S_isMultiple l ) hK hP rfl hl.1 rfl (Nat.le_of_ble_eq_true rfl) d_S_isMisplaced_77 ⟨Nat.zero_le _, Nat.zero_le _⟩) hA hS (fun H locs hP hS => ?_)
            refine lv_if_ne (tgt := 87) hx hb d_S_isMisplaced_80 (by decide) (fun h8 => ?_) (fun h8 => ?_)
            · refine lv_iconst (v := 0) hx hb d_S_isMisplaced_87 (by decide) ?_
              exact kw_zret hx hb hr hlocks hP hK hS (Or.inl rfl) ⟨by rw [kv_S_isMisplaced, if_neg h1, if_pos h2, if_neg h3, if_neg h6, if_neg h7, if_neg h8], rfl⟩ d_S_isMisplaced_88
            · refine lv_iconst (v := 1) hx hb d_S_isMisplaced_83 (by decide) ?_
              refine lv_goto (tgt := 88) hx hb d_S_isMisplaced_84 (by decide) ?_
              exact kw_zret hx hb hr hlocks hP hK hS (Or.inr rfl) ⟨by rw [kv_S_isMisplaced, if_neg h1, if_pos h2, if_neg h3, if_neg h6, if_neg h7, if_pos h8], rfl⟩ d_S_isMisplaced_88
    · refine lv_aload_n hx hb d_S_isMisplaced_30 rfl (lv_at hl 2 rfl) ?_
      refine kw_get hx hb hg in_I hown hK hP q1 hq1 e1 rfl 1 (by decide) (hg _ kg_76) rfl rfl d_S_isMisplaced_31 ?_
      refine lv_iload_n hx hb d_S_isMisplaced_34 rfl (lv_at hl 0 rfl) ?_
      refine kw_callix (kw_rS (As := [.int rd, .int (kv_S_group gp)]) (rest := []) ⟨hx, hb, hml, hown, hg⟩ ⟨callB_of 2 hg (kg_goodG kg_489) rfl rfl rfl (hg _ kg_4) (hg _ kg_487) (by decide +kernel) ⟨by decide, by decide⟩, hg _ kg_488⟩ (c_S_isMultiple l ) hK hP rfl hl.1 rfl (Nat.le_of_ble_eq_true rfl) d_S_isMisplaced_35 ⟨Nat.zero_le _, Nat.zero_le _⟩) hA hS (fun H locs hP hS => ?_)
      refine lv_if_eq (tgt := 83) hx hb d_S_isMisplaced_38 (by decide) (fun h9 => ?_) (fun h9 => ?_)
      · refine lv_iconst (v := 1) hx hb d_S_isMisplaced_83 (by decide) ?_
        refine lv_goto (tgt := 88) hx hb d_S_isMisplaced_84 (by decide) ?_
        exact kw_zret hx hb hr hlocks hP hK hS (Or.inr rfl) ⟨by rw [kv_S_isMisplaced, if_neg h1, if_neg h2, if_pos h9], rfl⟩ d_S_isMisplaced_88
      · refine lv_aload_n hx hb d_S_isMisplaced_41 rfl (lv_at hl 2 rfl) ?_
        refine kw_callix (kw_rV (As := []) (rest := []) (q0 := q1) ⟨hx, hb, hml, hown, hg⟩ ⟨callB_of 0 hg (kg_goodG kg_493) rfl rfl rfl (hg _ kg_5) (hg _ kg_490) (by decide +kernel) ⟨by decide, by decide⟩, hg _ kg_491, hg _ kg_492⟩ (c_I_hasGroupAtA l hq1 e1) hK hP hq1 e1 rfl rfl hl.1 rfl (Nat.le_of_ble_eq_true rfl) d_S_isMisplaced_42 ⟨Nat.zero_le _, Nat.zero_le _⟩) hA hS (fun H locs hP hS => ?_)
        refine lv_if_eq (tgt := 62) hx hb d_S_isMisplaced_45 (by decide) (fun h10 => ?_) (fun h10 => ?_)
        · refine lv_aload_n hx hb d_S_isMisplaced_62 rfl (lv_at hl 2 rfl) ?_
          refine kw_callix (kw_rV (As := []) (rest := []) (q0 := q1) ⟨hx, hb, hml, hown, hg⟩ ⟨callB_of 0 hg (kg_goodG kg_497) rfl rfl rfl (hg _ kg_5) (hg _ kg_494) (by decide +kernel) ⟨by decide, by decide⟩, hg _ kg_495, hg _ kg_496⟩ (c_I_hasGroupAtB l hq1 e1) hK hP hq1 e1 rfl rfl hl.1 rfl (Nat.le_of_ble_eq_true rfl) d_S_isMisplaced_63 ⟨Nat.zero_le _, Nat.zero_le _⟩) hA hS (fun H locs hP hS => ?_)
          refine lv_if_eq (tgt := 87) hx hb d_S_isMisplaced_66 (by decide) (fun h11 => ?_) (fun h11 => ?_)
          · refine lv_iconst (v := 0) hx hb d_S_isMisplaced_87 (by decide) ?_
            exact kw_zret hx hb hr hlocks hP hK hS (Or.inl rfl) ⟨by rw [kv_S_isMisplaced, if_neg h1, if_neg h2, if_neg h9, if_pos h10, if_pos h11], rfl⟩ d_S_isMisplaced_88
          · refine lv_aload_n hx hb d_S_isMisplaced_69 rfl (lv_at hl 2 rfl) ?_
            refine kw_get hx hb hg in_I hown hK hP q1 hq1 e1 rfl 3 (by decide) (hg _ kg_84) rfl rfl d_S_isMisplaced_70 ?_
            refine lv_aload_n hx hb d_S_isMisplaced_73 rfl (lv_at hl 1 rfl) ?_
            refine kw_callix (kw_rV (As := []) (rest := [.int rb]) (q0 := q0) ⟨hx, hb, hml, hown, hg⟩ ⟨callB_of 0 hg (kg_goodG kg_236) rfl rfl rfl (hg _ kg_4) (hg _ kg_482) (by decide +kernel) ⟨by decide, by decide⟩, hg _ kg_234, hg _ kg_235⟩ (c_S_group l hq0 e0) hK hP hq0 e0 rfl rfl hl.1 rfl (Nat.le_of_ble_eq_true rfl) d_S_isMisplaced_74 ⟨Nat.zero_le _, Nat.zero_le _⟩) hA hS (fun H locs hP hS => ?_)
            refine kw_callix (kw_rS (As := [.int rb, .int (kv_S_group gp)]) (rest := []) ⟨hx, hb, hml, hown, hg⟩ ⟨callB_of 2 hg (kg_goodG kg_489) rfl rfl rfl (hg _ kg_4) (hg _ kg_487) (by decide +kernel) ⟨by decide, by decide⟩, hg _ kg_488⟩ (c_S_isMultiple l ) hK hP rfl hl.1 rfl (Nat.le_of_ble_eq_true rfl) d_S_isMisplaced_77 ⟨Nat.zero_le _, Nat.zero_le _⟩) hA hS (fun H locs hP hS => ?_)
            refine lv_if_ne (tgt := 87) hx hb d_S_isMisplaced_80 (by decide) (fun h12 => ?_) (fun h12 => ?_)
            · refine lv_iconst (v := 0) hx hb d_S_isMisplaced_87 (by decide) ?_
              exact kw_zret hx hb hr hlocks hP hK hS (Or.inl rfl) ⟨by rw [kv_S_isMisplaced, if_neg h1, if_neg h2, if_neg h9, if_pos h10, if_neg h11, if_neg h12], rfl⟩ d_S_isMisplaced_88
            · refine lv_iconst (v := 1) hx hb d_S_isMisplaced_83 (by decide) ?_
              refine lv_goto (tgt := 88) hx hb d_S_isMisplaced_84 (by decide) ?_
              exact kw_zret hx hb hr hlocks hP hK hS (Or.inr rfl) ⟨by rw [kv_S_isMisplaced, if_neg h1, if_neg h2, if_neg h9, if_pos h10, if_neg h11, if_pos h12], rfl⟩ d_S_isMisplaced_88
        · refine lv_aload_n hx hb d_S_isMisplaced_48 rfl (lv_at hl 2 rfl) ?_
          refine kw_get hx hb hg in_I hown hK hP q1 hq1 e1 rfl 2 (by decide) (hg _ kg_80) rfl rfl d_S_isMisplaced_49 ?_
          refine lv_aload_n hx hb d_S_isMisplaced_52 rfl (lv_at hl 1 rfl) ?_
          refine kw_callix (kw_rV (As := []) (rest := [.int ra]) (q0 := q0) ⟨hx, hb, hml, hown, hg⟩ ⟨callB_of 0 hg (kg_goodG kg_236) rfl rfl rfl (hg _ kg_4) (hg _ kg_482) (by decide +kernel) ⟨by decide, by decide⟩, hg _ kg_234, hg _ kg_235⟩ (c_S_group l hq0 e0) hK hP hq0 e0 rfl rfl hl.1 rfl (Nat.le_of_ble_eq_true rfl) d_S_isMisplaced_53 ⟨Nat.zero_le _, Nat.zero_le _⟩) hA hS (fun H locs hP hS => ?_)
          refine kw_callix (kw_rS (As := [.int ra, .int (kv_S_group gp)]) (rest := []) ⟨hx, hb, hml, hown, hg⟩ ⟨callB_of 2 hg (kg_goodG kg_489) rfl rfl rfl (hg _ kg_4) (hg _ kg_487) (by decide +kernel) ⟨by decide, by decide⟩, hg _ kg_488⟩ (c_S_isMultiple l ) hK hP rfl hl.1 rfl (Nat.le_of_ble_eq_true rfl) d_S_isMisplaced_56 ⟨Nat.zero_le _, Nat.zero_le _⟩) hA hS (fun H locs hP hS => ?_)
          refine lv_if_eq (tgt := 83) hx hb d_S_isMisplaced_59 (by decide) (fun h13 => ?_) (fun h13 => ?_)
          · refine lv_iconst (v := 1) hx hb d_S_isMisplaced_83 (by decide) ?_
            refine lv_goto (tgt := 88) hx hb d_S_isMisplaced_84 (by decide) ?_
            exact kw_zret hx hb hr hlocks hP hK hS (Or.inr rfl) ⟨by rw [kv_S_isMisplaced, if_neg h1, if_neg h2, if_neg h9, if_neg h10, if_pos h13], rfl⟩ d_S_isMisplaced_88
          · refine lv_aload_n hx hb d_S_isMisplaced_62 rfl (lv_at hl 2 rfl) ?_
            refine kw_callix (kw_rV (As := []) (rest := []) (q0 := q1) ⟨hx, hb, hml, hown, hg⟩ ⟨callB_of 0 hg (kg_goodG kg_497) rfl rfl rfl (hg _ kg_5) (hg _ kg_494) (by decide +kernel) ⟨by decide, by decide⟩, hg _ kg_495, hg _ kg_496⟩ (c_I_hasGroupAtB l hq1 e1) hK hP hq1 e1 rfl rfl hl.1 rfl (Nat.le_of_ble_eq_true rfl) d_S_isMisplaced_63 ⟨Nat.zero_le _, Nat.zero_le _⟩) hA hS (fun H locs hP hS => ?_)
            refine lv_if_eq (tgt := 87) hx hb d_S_isMisplaced_66 (by decide) (fun h14 => ?_) (fun h14 => ?_)
            · refine lv_iconst (v := 0) hx hb d_S_isMisplaced_87 (by decide) ?_
              exact kw_zret hx hb hr hlocks hP hK hS (Or.inl rfl) ⟨by rw [kv_S_isMisplaced, if_neg h1, if_neg h2, if_neg h9, if_neg h10, if_neg h13, if_pos h14], rfl⟩ d_S_isMisplaced_88
            · refine lv_aload_n hx hb d_S_isMisplaced_69 rfl (lv_at hl 2 rfl) ?_
              refine kw_get hx hb hg in_I hown hK hP q1 hq1 e1 rfl 3 (by decide) (hg _ kg_84) rfl rfl d_S_isMisplaced_70 ?_
              refine lv_aload_n hx hb d_S_isMisplaced_73 rfl (lv_at hl 1 rfl) ?_
              refine kw_callix (kw_rV (As := []) (rest := [.int rb]) (q0 := q0) ⟨hx, hb, hml, hown, hg⟩ ⟨callB_of 0 hg (kg_goodG kg_236) rfl rfl rfl (hg _ kg_4) (hg _ kg_482) (by decide +kernel) ⟨by decide, by decide⟩, hg _ kg_234, hg _ kg_235⟩ (c_S_group l hq0 e0) hK hP hq0 e0 rfl rfl hl.1 rfl (Nat.le_of_ble_eq_true rfl) d_S_isMisplaced_74 ⟨Nat.zero_le _, Nat.zero_le _⟩) hA hS (fun H locs hP hS => ?_)
              refine kw_callix (kw_rS (As := [.int rb, .int (kv_S_group gp)]) (rest := []) ⟨hx, hb, hml, hown, hg⟩ ⟨callB_of 2 hg (kg_goodG kg_489) rfl rfl rfl (hg _ kg_4) (hg _ kg_487) (by decide +kernel) ⟨by decide, by decide⟩, hg _ kg_488⟩ (c_S_isMultiple l ) hK hP rfl hl.1 rfl (Nat.le_of_ble_eq_true rfl) d_S_isMisplaced_77 ⟨Nat.zero_le _, Nat.zero_le _⟩) hA hS (fun H locs hP hS => ?_)
              refine lv_if_ne (tgt := 87) hx hb d_S_isMisplaced_80 (by decide) (fun h15 => ?_) (fun h15 => ?_)
              · refine lv_iconst (v := 0) hx hb d_S_isMisplaced_87 (by decide) ?_
                exact kw_zret hx hb hr hlocks hP hK hS (Or.inl rfl) ⟨by rw [kv_S_isMisplaced, if_neg h1, if_neg h2, if_neg h9, if_neg h10, if_neg h13, if_neg h14, if_neg h15], rfl⟩ d_S_isMisplaced_88
              · refine lv_iconst (v := 1) hx hb d_S_isMisplaced_83 (by decide) ?_
                refine lv_goto (tgt := 88) hx hb d_S_isMisplaced_84 (by decide) ?_
                exact kw_zret hx hb hr hlocks hP hK hS (Or.inr rfl) ⟨by rw [kv_S_isMisplaced, if_neg h1, if_neg h2, if_neg h9, if_neg h10, if_neg h13, if_neg h14, if_pos h15], rfl⟩ d_S_isMisplaced_88
  · refine lv_iconst (v := 2) hx hb d_S_isMisplaced_9 (by decide) ?_
    refine lv_aload_n hx hb d_S_isMisplaced_10 rfl (lv_at hl 0 rfl) ?_
    refine kw_callix (kw_rV (As := []) (rest := [.int 2]) (q0 := q0) ⟨hx, hb, hml, hown, hg⟩ ⟨callB_of 0 hg (kg_goodG kg_236) rfl rfl rfl (hg _ kg_4) (hg _ kg_482) (by decide +kernel) ⟨by decide, by decide⟩, hg _ kg_234, hg _ kg_235⟩ (c_S_group l hq0 e0) hK hP hq0 e0 rfl rfl hl.1 rfl (Nat.le_of_ble_eq_true rfl) d_S_isMisplaced_11 ⟨Nat.zero_le _, Nat.zero_le _⟩) hA hS (fun H locs hP hS => ?_)
    refine lv_imul hx hb d_S_isMisplaced_14 ?_
    refine lv_goto (tgt := 22) hx hb d_S_isMisplaced_15 (by decide) ?_
    refine lv_istore_n (lv' := [(2, .int (2 * (kv_S_group gp))), (0, .ref (ad q0)), (1, .ref (ad q1))]) hx hb d_S_isMisplaced_22 rfl hl (by decide) rfl (fun ls hl => ?_)
    refine lv_aload_n hx hb d_S_isMisplaced_23 rfl (lv_at hl 2 rfl) ?_
    refine kw_callix (kw_rV (As := []) (rest := []) (q0 := q1) ⟨hx, hb, hml, hown, hg⟩ ⟨callB_of 0 hg (kg_goodG kg_486) rfl rfl rfl (hg _ kg_5) (hg _ kg_483) (by decide +kernel) ⟨by decide, by decide⟩, hg _ kg_484, hg _ kg_485⟩ (c_I_hasGroupAtD l hq1 e1) hK hP hq1 e1 rfl rfl hl.1 rfl (Nat.le_of_ble_eq_true rfl) d_S_isMisplaced_24 ⟨Nat.zero_le _, Nat.zero_le _⟩) hA hS (fun H locs hP hS => ?_)
    refine lv_if_eq (tgt := 41) hx hb d_S_isMisplaced_27 (by decide) (fun h16 => ?_) (fun h16 => ?_)
    · refine lv_aload_n hx hb d_S_isMisplaced_41 rfl (lv_at hl 2 rfl) ?_
      refine kw_callix (kw_rV (As := []) (rest := []) (q0 := q1) ⟨hx, hb, hml, hown, hg⟩ ⟨callB_of 0 hg (kg_goodG kg_493) rfl rfl rfl (hg _ kg_5) (hg _ kg_490) (by decide +kernel) ⟨by decide, by decide⟩, hg _ kg_491, hg _ kg_492⟩ (c_I_hasGroupAtA l hq1 e1) hK hP hq1 e1 rfl rfl hl.1 rfl (Nat.le_of_ble_eq_true rfl) d_S_isMisplaced_42 ⟨Nat.zero_le _, Nat.zero_le _⟩) hA hS (fun H locs hP hS => ?_)
      refine lv_if_eq (tgt := 62) hx hb d_S_isMisplaced_45 (by decide) (fun h17 => ?_) (fun h17 => ?_)
      · refine lv_aload_n hx hb d_S_isMisplaced_62 rfl (lv_at hl 2 rfl) ?_
        refine kw_callix (kw_rV (As := []) (rest := []) (q0 := q1) ⟨hx, hb, hml, hown, hg⟩ ⟨callB_of 0 hg (kg_goodG kg_497) rfl rfl rfl (hg _ kg_5) (hg _ kg_494) (by decide +kernel) ⟨by decide, by decide⟩, hg _ kg_495, hg _ kg_496⟩ (c_I_hasGroupAtB l hq1 e1) hK hP hq1 e1 rfl rfl hl.1 rfl (Nat.le_of_ble_eq_true rfl) d_S_isMisplaced_63 ⟨Nat.zero_le _, Nat.zero_le _⟩) hA hS (fun H locs hP hS => ?_)
        refine lv_if_eq (tgt := 87) hx hb d_S_isMisplaced_66 (by decide) (fun h18 => ?_) (fun h18 => ?_)
        · refine lv_iconst (v := 0) hx hb d_S_isMisplaced_87 (by decide) ?_
          exact kw_zret hx hb hr hlocks hP hK hS (Or.inl rfl) ⟨by rw [kv_S_isMisplaced, if_pos h1, if_pos h16, if_pos h17, if_pos h18], rfl⟩ d_S_isMisplaced_88
        · refine lv_aload_n hx hb d_S_isMisplaced_69 rfl (lv_at hl 2 rfl) ?_
          refine kw_get hx hb hg in_I hown hK hP q1 hq1 e1 rfl 3 (by decide) (hg _ kg_84) rfl rfl d_S_isMisplaced_70 ?_
          refine lv_aload_n hx hb d_S_isMisplaced_73 rfl (lv_at hl 1 rfl) ?_
          refine kw_callix (kw_rV (As := []) (rest := [.int rb]) (q0 := q0) ⟨hx, hb, hml, hown, hg⟩ ⟨callB_of 0 hg (kg_goodG kg_236) rfl rfl rfl (hg _ kg_4) (hg _ kg_482) (by decide +kernel) ⟨by decide, by decide⟩, hg _ kg_234, hg _ kg_235⟩ (c_S_group l hq0 e0) hK hP hq0 e0 rfl rfl hl.1 rfl (Nat.le_of_ble_eq_true rfl) d_S_isMisplaced_74 ⟨Nat.zero_le _, Nat.zero_le _⟩) hA hS (fun H locs hP hS => ?_)
          refine kw_callix (kw_rS (As := [.int rb, .int (kv_S_group gp)]) (rest := []) ⟨hx, hb, hml, hown, hg⟩ ⟨callB_of 2 hg (kg_goodG kg_489) rfl rfl rfl (hg _ kg_4) (hg _ kg_487) (by decide +kernel) ⟨by decide, by decide⟩, hg _ kg_488⟩ (c_S_isMultiple l ) hK hP rfl hl.1 rfl (Nat.le_of_ble_eq_true rfl) d_S_isMisplaced_77 ⟨Nat.zero_le _, Nat.zero_le _⟩) hA hS (fun H locs hP hS => ?_)
          refine lv_if_ne (tgt := 87) hx hb d_S_isMisplaced_80 (by decide) (fun h19 => ?_) (fun h19 => ?_)
          · refine lv_iconst (v := 0) hx hb d_S_isMisplaced_87 (by decide) ?_
            exact kw_zret hx hb hr hlocks hP hK hS (Or.inl rfl) ⟨by rw [kv_S_isMisplaced, if_pos h1, if_pos h16, if_pos h17, if_neg h18, if_neg h19], rfl⟩ d_S_isMisplaced_88
          · refine lv_iconst (v := 1) hx hb d_S_isMisplaced_83 (by decide) ?_
            refine lv_goto (tgt := 88) hx hb d_S_isMisplaced_84 (by decide) ?_
            exact kw_zret hx hb hr hlocks hP hK hS (Or.inr rfl) ⟨by rw [kv_S_isMisplaced, if_pos h1, if_pos h16, if_pos h17, if_neg h18, if_pos h19], rfl⟩ d_S_isMisplaced_88
      · refine lv_aload_n hx hb d_S_isMisplaced_48 rfl (lv_at hl 2 rfl) ?_
        refine kw_get hx hb hg in_I hown hK hP q1 hq1 e1 rfl 2 (by decide) (hg _ kg_80) rfl rfl d_S_isMisplaced_49 ?_
        refine lv_aload_n hx hb d_S_isMisplaced_52 rfl (lv_at hl 1 rfl) ?_
        refine kw_callix (kw_rV (As := []) (rest := [.int ra]) (q0 := q0) ⟨hx, hb, hml, hown, hg⟩ ⟨callB_of 0 hg (kg_goodG kg_236) rfl rfl rfl (hg _ kg_4) (hg _ kg_482) (by decide +kernel) ⟨by decide, by decide⟩, hg _ kg_234, hg _ kg_235⟩ (c_S_group l hq0 e0) hK hP hq0 e0 rfl rfl hl.1 rfl (Nat.le_of_ble_eq_true rfl) d_S_isMisplaced_53 ⟨Nat.zero_le _, Nat.zero_le _⟩) hA hS (fun H locs hP hS => ?_)
        refine kw_callix (kw_rS (As := [.int ra, .int (kv_S_group gp)]) (rest := []) ⟨hx, hb, hml, hown, hg⟩ ⟨callB_of 2 hg (kg_goodG kg_489) rfl rfl rfl (hg _ kg_4) (hg _ kg_487) (by decide +kernel) ⟨by decide, by decide⟩, hg _ kg_488⟩ (c_S_isMultiple l ) hK hP rfl hl.1 rfl (Nat.le_of_ble_eq_true rfl) d_S_isMisplaced_56 ⟨Nat.zero_le _, Nat.zero_le _⟩) hA hS (fun H locs hP hS => ?_)
        refine lv_if_eq (tgt := 83) hx hb d_S_isMisplaced_59 (by decide) (fun h20 => ?_) (fun h20 => ?_)
        · refine lv_iconst (v := 1) hx hb d_S_isMisplaced_83 (by decide) ?_
          refine lv_goto (tgt := 88) hx hb d_S_isMisplaced_84 (by decide) ?_
          exact kw_zret hx hb hr hlocks hP hK hS (Or.inr rfl) ⟨by rw [kv_S_isMisplaced, if_pos h1, if_pos h16, if_neg h17, if_pos h20], rfl⟩ d_S_isMisplaced_88
        · refine lv_aload_n hx hb d_S_isMisplaced_62 rfl (lv_at hl 2 rfl) ?_
          refine kw_callix (kw_rV (As := []) (rest := []) (q0 := q1) ⟨hx, hb, hml, hown, hg⟩ ⟨callB_of 0 hg (kg_goodG kg_497) rfl rfl rfl (hg _ kg_5) (hg _ kg_494) (by decide +kernel) ⟨by decide, by decide⟩, hg _ kg_495, hg _ kg_496⟩ (c_I_hasGroupAtB l hq1 e1) hK hP hq1 e1 rfl rfl hl.1 rfl (Nat.le_of_ble_eq_true rfl) d_S_isMisplaced_63 ⟨Nat.zero_le _, Nat.zero_le _⟩) hA hS (fun H locs hP hS => ?_)
          refine lv_if_eq (tgt := 87) hx hb d_S_isMisplaced_66 (by decide) (fun h21 => ?_) (fun h21 => ?_)
          · refine lv_iconst (v := 0) hx hb d_S_isMisplaced_87 (by decide) ?_
            exact kw_zret hx hb hr hlocks hP hK hS (Or.inl rfl) ⟨by rw [kv_S_isMisplaced, if_pos h1, if_pos h16, if_neg h17, if_neg h20, if_pos h21], rfl⟩ d_S_isMisplaced_88
          · refine lv_aload_n hx hb d_S_isMisplaced_69 rfl (lv_at hl 2 rfl) ?_
            refine kw_get hx hb hg in_I hown hK hP q1 hq1 e1 rfl 3 (by decide) (hg _ kg_84) rfl rfl d_S_isMisplaced_70 ?_
            refine lv_aload_n hx hb d_S_isMisplaced_73 rfl (lv_at hl 1 rfl) ?_
            refine kw_callix (kw_rV (As := []) (rest := [.int rb]) (q0 := q0) ⟨hx, hb, hml, hown, hg⟩ ⟨callB_of 0 hg (kg_goodG kg_236) rfl rfl rfl (hg _ kg_4) (hg _ kg_482) (by decide +kernel) ⟨by decide, by decide⟩, hg _ kg_234, hg _ kg_235⟩ (c_S_group l hq0 e0) hK hP hq0 e0 rfl rfl hl.1 rfl (Nat.le_of_ble_eq_true rfl) d_S_isMisplaced_74 ⟨Nat.zero_le _, Nat.zero_le _⟩) hA hS (fun H locs hP hS => ?_)
            refine kw_callix (kw_rS (As := [.int rb, .int (kv_S_group gp)]) (rest := []) ⟨hx, hb, hml, hown, hg⟩ ⟨callB_of 2 hg (kg_goodG kg_489) rfl rfl rfl (hg _ kg_4) (hg _ kg_487) (by decide +kernel) ⟨by decide, by decide⟩, hg _ kg_488⟩ (c_S_isMultiple l ) hK hP rfl hl.1 rfl (Nat.le_of_ble_eq_true rfl) d_S_isMisplaced_77 ⟨Nat.zero_le _, Nat.zero_le _⟩) hA hS (fun H locs hP hS => ?_)
            refine lv_if_ne (tgt := 87) hx hb d_S_isMisplaced_80 (by decide) (fun h22 => ?_) (fun h22 => ?_)
            · refine lv_iconst (v := 0) hx hb d_S_isMisplaced_87 (by decide) ?_
              exact kw_zret hx hb hr hlocks hP hK hS (Or.inl rfl) ⟨by rw [kv_S_isMisplaced, if_pos h1, if_pos h16, if_neg h17, if_neg h20, if_neg h21, if_neg h22], rfl⟩ d_S_isMisplaced_88
            · refine lv_iconst (v := 1) hx hb d_S_isMisplaced_83 (by decide) ?_
              refine lv_goto (tgt := 88) hx hb d_S_isMisplaced_84 (by decide) ?_
              exact kw_zret hx hb hr hlocks hP hK hS (Or.inr rfl) ⟨by rw [kv_S_isMisplaced, if_pos h1, if_pos h16, if_neg h17, if_neg h20, if_neg h21, if_pos h22], rfl⟩ d_S_isMisplaced_88
    · refine lv_aload_n hx hb d_S_isMisplaced_30 rfl (lv_at hl 2 rfl) ?_
      refine kw_get hx hb hg in_I hown hK hP q1 hq1 e1 rfl 1 (by decide) (hg _ kg_76) rfl rfl d_S_isMisplaced_31 ?_
      refine lv_iload_n hx hb d_S_isMisplaced_34 rfl (lv_at hl 0 rfl) ?_
      refine kw_callix (kw_rS (As := [.int rd, .int (2 * (kv_S_group gp))]) (rest := []) ⟨hx, hb, hml, hown, hg⟩ ⟨callB_of 2 hg (kg_goodG kg_489) rfl rfl rfl (hg _ kg_4) (hg _ kg_487) (by decide +kernel) ⟨by decide, by decide⟩, hg _ kg_488⟩ (c_S_isMultiple l ) hK hP rfl hl.1 rfl (Nat.le_of_ble_eq_true rfl) d_S_isMisplaced_35 ⟨Nat.zero_le _, Nat.zero_le _⟩) hA hS (fun H locs hP hS => ?_)
      refine lv_if_eq (tgt := 83) hx hb d_S_isMisplaced_38 (by decide) (fun h23 => ?_) (fun h23 => ?_)
      · refine lv_iconst (v := 1) hx hb d_S_isMisplaced_83 (by decide) ?_
        refine lv_goto (tgt := 88) hx hb d_S_isMisplaced_84 (by decide) ?_
        exact kw_zret hx hb hr hlocks hP hK hS (Or.inr rfl) ⟨by rw [kv_S_isMisplaced, if_pos h1, if_neg h16, if_pos h23], rfl⟩ d_S_isMisplaced_88
      · refine lv_aload_n hx hb d_S_isMisplaced_41 rfl (lv_at hl 2 rfl) ?_
        refine kw_callix (kw_rV (As := []) (rest := []) (q0 := q1) ⟨hx, hb, hml, hown, hg⟩ ⟨callB_of 0 hg (kg_goodG kg_493) rfl rfl rfl (hg _ kg_5) (hg _ kg_490) (by decide +kernel) ⟨by decide, by decide⟩, hg _ kg_491, hg _ kg_492⟩ (c_I_hasGroupAtA l hq1 e1) hK hP hq1 e1 rfl rfl hl.1 rfl (Nat.le_of_ble_eq_true rfl) d_S_isMisplaced_42 ⟨Nat.zero_le _, Nat.zero_le _⟩) hA hS (fun H locs hP hS => ?_)
        refine lv_if_eq (tgt := 62) hx hb d_S_isMisplaced_45 (by decide) (fun h24 => ?_) (fun h24 => ?_)
        · refine lv_aload_n hx hb d_S_isMisplaced_62 rfl (lv_at hl 2 rfl) ?_
          refine kw_callix (kw_rV (As := []) (rest := []) (q0 := q1) ⟨hx, hb, hml, hown, hg⟩ ⟨callB_of 0 hg (kg_goodG kg_497) rfl rfl rfl (hg _ kg_5) (hg _ kg_494) (by decide +kernel) ⟨by decide, by decide⟩, hg _ kg_495, hg _ kg_496⟩ (c_I_hasGroupAtB l hq1 e1) hK hP hq1 e1 rfl rfl hl.1 rfl (Nat.le_of_ble_eq_true rfl) d_S_isMisplaced_63 ⟨Nat.zero_le _, Nat.zero_le _⟩) hA hS (fun H locs hP hS => ?_)
          refine lv_if_eq (tgt := 87) hx hb d_S_isMisplaced_66 (by decide) (fun h25 => ?_) (fun h25 => ?_)
          · refine lv_iconst (v := 0) hx hb d_S_isMisplaced_87 (by decide) ?_
            exact kw_zret hx hb hr hlocks hP hK hS (Or.inl rfl) ⟨by rw [kv_S_isMisplaced, if_pos h1, if_neg h16, if_neg h23, if_pos h24, if_pos h25], rfl⟩ d_S_isMisplaced_88
          · refine lv_aload_n hx hb d_S_isMisplaced_69 rfl (lv_at hl 2 rfl) ?_
            refine kw_get hx hb hg in_I hown hK hP q1 hq1 e1 rfl 3 (by decide) (hg _ kg_84) rfl rfl d_S_isMisplaced_70 ?_
            refine lv_aload_n hx hb d_S_isMisplaced_73 rfl (lv_at hl 1 rfl) ?_
            refine kw_callix (kw_rV (As := []) (rest := [.int rb]) (q0 := q0) ⟨hx, hb, hml, hown, hg⟩ ⟨callB_of 0 hg (kg_goodG kg_236) rfl rfl rfl (hg _ kg_4) (hg _ kg_482) (by decide +kernel) ⟨by decide, by decide⟩, hg _ kg_234, hg _ kg_235⟩ (c_S_group l hq0 e0) hK hP hq0 e0 rfl rfl hl.1 rfl (Nat.le_of_ble_eq_true rfl) d_S_isMisplaced_74 ⟨Nat.zero_le _, Nat.zero_le _⟩) hA hS (fun H locs hP hS => ?_)
            refine kw_callix (kw_rS (As := [.int rb, .int (kv_S_group gp)]) (rest := []) ⟨hx, hb, hml, hown, hg⟩ ⟨callB_of 2 hg (kg_goodG kg_489) rfl rfl rfl (hg _ kg_4) (hg _ kg_487) (by decide +kernel) ⟨by decide, by decide⟩, hg _ kg_488⟩ (c_S_isMultiple l ) hK hP rfl hl.1 rfl (Nat.le_of_ble_eq_true rfl) d_S_isMisplaced_77 ⟨Nat.zero_le _, Nat.zero_le _⟩) hA hS (fun H locs hP hS => ?_)
            refine lv_if_ne (tgt := 87) hx hb d_S_isMisplaced_80 (by decide) (fun h26 => ?_) (fun h26 => ?_)
            · refine lv_iconst (v := 0) hx hb d_S_isMisplaced_87 (by decide) ?_
              exact kw_zret hx hb hr hlocks hP hK hS (Or.inl rfl) ⟨by rw [kv_S_isMisplaced, if_pos h1, if_neg h16, if_neg h23, if_pos h24, if_neg h25, if_neg h26], rfl⟩ d_S_isMisplaced_88
            · refine lv_iconst (v := 1) hx hb d_S_isMisplaced_83 (by decide) ?_
              refine lv_goto (tgt := 88) hx hb d_S_isMisplaced_84 (by decide) ?_
              exact kw_zret hx hb hr hlocks hP hK hS (Or.inr rfl) ⟨by rw [kv_S_isMisplaced, if_pos h1, if_neg h16, if_neg h23, if_pos h24, if_neg h25, if_pos h26], rfl⟩ d_S_isMisplaced_88
        · refine lv_aload_n hx hb d_S_isMisplaced_48 rfl (lv_at hl 2 rfl) ?_
          refine kw_get hx hb hg in_I hown hK hP q1 hq1 e1 rfl 2 (by decide) (hg _ kg_80) rfl rfl d_S_isMisplaced_49 ?_
          refine lv_aload_n hx hb d_S_isMisplaced_52 rfl (lv_at hl 1 rfl) ?_
          refine kw_callix (kw_rV (As := []) (rest := [.int ra]) (q0 := q0) ⟨hx, hb, hml, hown, hg⟩ ⟨callB_of 0 hg (kg_goodG kg_236) rfl rfl rfl (hg _ kg_4) (hg _ kg_482) (by decide +kernel) ⟨by decide, by decide⟩, hg _ kg_234, hg _ kg_235⟩ (c_S_group l hq0 e0) hK hP hq0 e0 rfl rfl hl.1 rfl (Nat.le_of_ble_eq_true rfl) d_S_isMisplaced_53 ⟨Nat.zero_le _, Nat.zero_le _⟩) hA hS (fun H locs hP hS => ?_)
          refine kw_callix (kw_rS (As := [.int ra, .int (kv_S_group gp)]) (rest := []) ⟨hx, hb, hml, hown, hg⟩ ⟨callB_of 2 hg (kg_goodG kg_489) rfl rfl rfl (hg _ kg_4) (hg _ kg_487) (by decide +kernel) ⟨by decide, by decide⟩, hg _ kg_488⟩ (c_S_isMultiple l ) hK hP rfl hl.1 rfl (Nat.le_of_ble_eq_true rfl) d_S_isMisplaced_56 ⟨Nat.zero_le _, Nat.zero_le _⟩) hA hS (fun H locs hP hS => ?_)
          refine lv_if_eq (tgt := 83) hx hb d_S_isMisplaced_59 (by decide) (fun h27 => ?_) (fun h27 => ?_)
          · refine lv_iconst (v := 1) hx hb d_S_isMisplaced_83 (by decide) ?_
            refine lv_goto (tgt := 88) hx hb d_S_isMisplaced_84 (by decide) ?_
            exact kw_zret hx hb hr hlocks hP hK hS (Or.inr rfl) ⟨by rw [kv_S_isMisplaced, if_pos h1, if_neg h16, if_neg h23, if_neg h24, if_pos h27], rfl⟩ d_S_isMisplaced_88
          · refine lv_aload_n hx hb d_S_isMisplaced_62 rfl (lv_at hl 2 rfl) ?_
            refine kw_callix (kw_rV (As := []) (rest := []) (q0 := q1) ⟨hx, hb, hml, hown, hg⟩ ⟨callB_of 0 hg (kg_goodG kg_497) rfl rfl rfl (hg _ kg_5) (hg _ kg_494) (by decide +kernel) ⟨by decide, by decide⟩, hg _ kg_495, hg _ kg_496⟩ (c_I_hasGroupAtB l hq1 e1) hK hP hq1 e1 rfl rfl hl.1 rfl (Nat.le_of_ble_eq_true rfl) d_S_isMisplaced_63 ⟨Nat.zero_le _, Nat.zero_le _⟩) hA hS (fun H locs hP hS => ?_)
            refine lv_if_eq (tgt := 87) hx hb d_S_isMisplaced_66 (by decide) (fun h28 => ?_) (fun h28 => ?_)
            · refine lv_iconst (v := 0) hx hb d_S_isMisplaced_87 (by decide) ?_
              exact kw_zret hx hb hr hlocks hP hK hS (Or.inl rfl) ⟨by rw [kv_S_isMisplaced, if_pos h1, if_neg h16, if_neg h23, if_neg h24, if_neg h27, if_pos h28], rfl⟩ d_S_isMisplaced_88
            · refine lv_aload_n hx hb d_S_isMisplaced_69 rfl (lv_at hl 2 rfl) ?_
              refine kw_get hx hb hg in_I hown hK hP q1 hq1 e1 rfl 3 (by decide) (hg _ kg_84) rfl rfl d_S_isMisplaced_70 ?_
              refine lv_aload_n hx hb d_S_isMisplaced_73 rfl (lv_at hl 1 rfl) ?_
              refine kw_callix (kw_rV (As := []) (rest := [.int rb]) (q0 := q0) ⟨hx, hb, hml, hown, hg⟩ ⟨callB_of 0 hg (kg_goodG kg_236) rfl rfl rfl (hg _ kg_4) (hg _ kg_482) (by decide +kernel) ⟨by decide, by decide⟩, hg _ kg_234, hg _ kg_235⟩ (c_S_group l hq0 e0) hK hP hq0 e0 rfl rfl hl.1 rfl (Nat.le_of_ble_eq_true rfl) d_S_isMisplaced_74 ⟨Nat.zero_le _, Nat.zero_le _⟩) hA hS (fun H locs hP hS => ?_)
              refine kw_callix (kw_rS (As := [.int rb, .int (kv_S_group gp)]) (rest := []) ⟨hx, hb, hml, hown, hg⟩ ⟨callB_of 2 hg (kg_goodG kg_489) rfl rfl rfl (hg _ kg_4) (hg _ kg_487) (by decide +kernel) ⟨by decide, by decide⟩, hg _ kg_488⟩ (c_S_isMultiple l ) hK hP rfl hl.1 rfl (Nat.le_of_ble_eq_true rfl) d_S_isMisplaced_77 ⟨Nat.zero_le _, Nat.zero_le _⟩) hA hS (fun H locs hP hS => ?_)
              refine lv_if_ne (tgt := 87) hx hb d_S_isMisplaced_80 (by decide) (fun h29 => ?_) (fun h29 => ?_)
              · refine lv_iconst (v := 0) hx hb d_S_isMisplaced_87 (by decide) ?_
                exact kw_zret hx hb hr hlocks hP hK hS (Or.inl rfl) ⟨by rw [kv_S_isMisplaced, if_pos h1, if_neg h16, if_neg h23, if_neg h24, if_neg h27, if_neg h28, if_neg h29], rfl⟩ d_S_isMisplaced_88
              · refine lv_iconst (v := 1) hx hb d_S_isMisplaced_83 (by decide) ?_
                refine lv_goto (tgt := 88) hx hb d_S_isMisplaced_84 (by decide) ?_
                exact kw_zret hx hb hr hlocks hP hK hS (Or.inr rfl) ⟨by rw [kv_S_isMisplaced, if_pos h1, if_neg h16, if_neg h23, if_neg h24, if_neg h27, if_neg h28, if_pos h29], rfl⟩ d_S_isMisplaced_88
end
