theorem in_B : ∀ w ∈ u_ws R_B F_B 1, w ∈ kg_G := by
  intro w hw
  obtain ⟨k, hk, rfl⟩ := List.mem_map.mp hw
  have h : k < 1 := List.mem_range.mp hk
  clear hw hk
  by_cases h0 : k = 0
  · subst h0; exact kg_34
  omega
theorem in_I : ∀ w ∈ u_ws R_I F_I 6, w ∈ kg_G := by
  intro w hw
  obtain ⟨k, hk, rfl⟩ := List.mem_map.mp hw
  have h : k < 6 := List.mem_range.mp hk
  clear hw hk
  by_cases h0 : k = 0
  · subst h0; exact kg_93
  by_cases h1 : k = 1
  · subst h1; exact kg_95
  by_cases h2 : k = 2
  · subst h2; exact kg_97
  by_cases h3 : k = 3
  · subst h3; exact kg_99
  by_cases h4 : k = 4
  · subst h4; exact kg_101
  by_cases h5 : k = 5
  · subst h5; exact kg_103
  omega
theorem in_S : ∀ w ∈ u_ws R_S F_S 4, w ∈ kg_G := by
  intro w hw
  obtain ⟨k, hk, rfl⟩ := List.mem_map.mp hw
  have h : k < 4 := List.mem_range.mp hk
  clear hw hk
  by_cases h0 : k = 0
  · subst h0; exact kg_53
  by_cases h1 : k = 1
  · subst h1; exact kg_55
  by_cases h2 : k = 2
  · subst h2; exact kg_57
  by_cases h3 : k = 3
  · subst h3; exact kg_59
  omega
theorem in_K : ∀ w ∈ u_ws R_K F_K 15, w ∈ kg_G := by
  intro w hw
  obtain ⟨k, hk, rfl⟩ := List.mem_map.mp hw
  have h : k < 15 := List.mem_range.mp hk
  clear hw hk
  by_cases h0 : k = 0
  · subst h0; exact kg_130
  by_cases h1 : k = 1
  · subst h1; exact kg_132
  by_cases h2 : k = 2
  · subst h2; exact kg_134
  by_cases h3 : k = 3
  · subst h3; exact kg_136
  by_cases h4 : k = 4
  · subst h4; exact kg_138
  by_cases h5 : k = 5
  · subst h5; exact kg_140
  by_cases h6 : k = 6
  · subst h6; exact kg_142
  by_cases h7 : k = 7
  · subst h7; exact kg_144
  by_cases h8 : k = 8
  · subst h8; exact kg_146
  by_cases h9 : k = 9
  · subst h9; exact kg_148
  by_cases h10 : k = 10
  · subst h10; exact kg_150
  by_cases h11 : k = 11
  · subst h11; exact kg_152
  by_cases h12 : k = 12
  · subst h12; exact kg_154
  by_cases h13 : k = 13
  · subst h13; exact kg_156
  by_cases h14 : k = 14
  · subst h14; exact kg_158
  omega
theorem in_M : ∀ w ∈ u_ws R_M F_M 14, w ∈ kg_G := by
  intro w hw
  obtain ⟨k, hk, rfl⟩ := List.mem_map.mp hw
  have h : k < 14 := List.mem_range.mp hk
  clear hw hk
  by_cases h0 : k = 0
  · subst h0; exact kg_176
  by_cases h1 : k = 1
  · subst h1; exact kg_178
  by_cases h2 : k = 2
  · subst h2; exact kg_180
  by_cases h3 : k = 3
  · subst h3; exact kg_182
  by_cases h4 : k = 4
  · subst h4; exact kg_184
  by_cases h5 : k = 5
  · subst h5; exact kg_186
  by_cases h6 : k = 6
  · subst h6; exact kg_188
  by_cases h7 : k = 7
  · subst h7; exact kg_190
  by_cases h8 : k = 8
  · subst h8; exact kg_192
  by_cases h9 : k = 9
  · subst h9; exact kg_194
  by_cases h10 : k = 10
  · subst h10; exact kg_196
  by_cases h11 : k = 11
  · subst h11; exact kg_198
  by_cases h12 : k = 12
  · subst h12; exact kg_200
  by_cases h13 : k = 13
  · subst h13; exact kg_202
  omega
theorem in_R : ∀ w ∈ u_ws R_R F_R 31, w ∈ kg_G := by
  intro w hw
  obtain ⟨k, hk, rfl⟩ := List.mem_map.mp hw
  have h : k < 31 := List.mem_range.mp hk
  clear hw hk
  by_cases h0 : k = 0
  · subst h0; exact kg_614
  by_cases h1 : k = 1
  · subst h1; exact kg_616
  by_cases h2 : k = 2
  · subst h2; exact kg_618
  by_cases h3 : k = 3
  · subst h3; exact kg_620
  by_cases h4 : k = 4
  · subst h4; exact kg_622
  by_cases h5 : k = 5
  · subst h5; exact kg_624
  by_cases h6 : k = 6
  · subst h6; exact kg_626
  by_cases h7 : k = 7
  · subst h7; exact kg_628
  by_cases h8 : k = 8
  · subst h8; exact kg_630
  by_cases h9 : k = 9
  · subst h9; exact kg_632
  by_cases h10 : k = 10
  · subst h10; exact kg_634
  by_cases h11 : k = 11
  · subst h11; exact kg_636
  by_cases h12 : k = 12
  · subst h12; exact kg_638
  by_cases h13 : k = 13
  · subst h13; exact kg_640
  by_cases h14 : k = 14
  · subst h14; exact kg_642
  by_cases h15 : k = 15
  · subst h15; exact kg_644
  by_cases h16 : k = 16
  · subst h16; exact kg_646
  by_cases h17 : k = 17
  · subst h17; exact kg_648
  by_cases h18 : k = 18
  · subst h18; exact kg_650
  by_cases h19 : k = 19
  · subst h19; exact kg_652
  by_cases h20 : k = 20
  · subst h20; exact kg_654
  by_cases h21 : k = 21
  · subst h21; exact kg_656
  by_cases h22 : k = 22
  · subst h22; exact kg_658
  by_cases h23 : k = 23
  · subst h23; exact kg_660
  by_cases h24 : k = 24
  · subst h24; exact kg_662
  by_cases h25 : k = 25
  · subst h25; exact kg_664
  by_cases h26 : k = 26
  · subst h26; exact kg_666
  by_cases h27 : k = 27
  · subst h27; exact kg_668
  by_cases h28 : k = 28
  · subst h28; exact kg_670
  by_cases h29 : k = 29
  · subst h29; exact kg_672
  by_cases h30 : k = 30
  · subst h30; exact kg_674
  omega
abbrev b_M_init : ByteArray := prog_1_method_1_code
abbrev w_M_init : List Cond := Cond.code y_M_init b_M_init 4 none :: kg_G
abbrev b_JO_init : ByteArray := object_method_1_code
abbrev w_JO_init : List Cond := Cond.code y_JO_init b_JO_init 1 none :: kg_G
abbrev b_JM_min : ByteArray := prog_11_method_69_code
abbrev w_JM_min : List Cond := Cond.code y_JM_min b_JM_min 2 (some .int) :: kg_G
abbrev b_JM_max : ByteArray := prog_11_method_65_code
abbrev w_JM_max : List Cond := Cond.code y_JM_max b_JM_max 2 (some .int) :: kg_G
abbrev b_B_init : ByteArray := prog_2_method_1_code
abbrev w_B_init : List Cond := Cond.code y_B_init b_B_init 2 none :: kg_G
abbrev b_S_init : ByteArray := prog_4_method_1_code
abbrev w_S_init : List Cond := Cond.code y_S_init b_S_init 1 none :: kg_G
abbrev b_I_init : ByteArray := prog_3_method_1_code
abbrev w_I_init : List Cond := Cond.code y_I_init b_I_init 7 none :: kg_G
abbrev b_K_init : ByteArray := prog_5_method_1_code
abbrev w_K_init : List Cond := Cond.code y_K_init b_K_init 4 none :: kg_G
abbrev b_M_scalar : ByteArray := prog_1_method_8_code
abbrev w_M_scalar : List Cond := Cond.code y_M_scalar b_M_scalar 2 (some .int) :: kg_G
abbrev b_M_file : ByteArray := prog_1_method_9_code
abbrev w_M_file : List Cond := Cond.code y_M_file b_M_file 2 (some .int) :: kg_G
abbrev b_B_number : ByteArray := prog_2_method_2_code
abbrev w_B_number : List Cond := Cond.code y_B_number b_B_number 4 (some .int) :: kg_G
abbrev b_B_bareNumber : ByteArray := prog_2_method_3_code
abbrev w_B_bareNumber : List Cond := Cond.code y_B_bareNumber b_B_bareNumber 5 (some .int) :: kg_G
abbrev b_M_memory : ByteArray := prog_1_method_10_code
abbrev w_M_memory : List Cond := Cond.code y_M_memory b_M_memory 2 (some .int) :: kg_G
abbrev b_M_about : ByteArray := prog_1_method_11_code
abbrev w_M_about : List Cond := Cond.code y_M_about b_M_about 2 (some .int) :: kg_G
abbrev b_S_width : ByteArray := prog_4_method_3_code
abbrev w_S_width : List Cond := Cond.code y_S_width b_S_width 1 (some .int) :: kg_G
abbrev b_S_group : ByteArray := prog_4_method_4_code
abbrev w_S_group : List Cond := Cond.code y_S_group b_S_group 1 (some .int) :: kg_G
abbrev b_M_queue : ByteArray := prog_1_method_12_code
abbrev w_M_queue : List Cond := Cond.code y_M_queue b_M_queue 4 (some .int) :: kg_G
abbrev b_K_steps : ByteArray := prog_5_method_3_code
abbrev w_K_steps : List Cond := Cond.code y_K_steps b_K_steps 2 (some .int) :: kg_G
abbrev b_L_cell : ByteArray := method_2_code
abbrev w_L_cell : List Cond := Cond.code y_L_cell b_L_cell 2 (some .int) :: kg_G
abbrev b_L_put : ByteArray := method_3_code
abbrev w_L_put : List Cond := Cond.codeWith y_L_put b_L_put 9 (some .int) [(0, 18, 21, 13), (0, 18, 25, 15)] :: kg_G
abbrev b_M_put : ByteArray := prog_1_method_2_code
abbrev w_M_put : List Cond := Cond.code y_M_put b_M_put 7 (some .int) :: kg_G
abbrev b_M_isRegister : ByteArray := prog_1_method_13_code
abbrev w_M_isRegister : List Cond := Cond.code y_M_isRegister b_M_isRegister 1 (some .boolean) :: kg_G
abbrev b_JT_init : ByteArray := prog_13_method_1_code
abbrev w_JT_init : List Cond := Cond.code y_JT_init b_JT_init 1 none :: kg_G
abbrev b_JA_init : ByteArray := prog_9_method_1_code
abbrev w_JA_init : List Cond := Cond.code y_JA_init b_JA_init 1 none :: kg_G
abbrev b_JR_init : ByteArray := prog_12_method_1_code
abbrev w_JR_init : List Cond := Cond.code y_JR_init b_JR_init 1 none :: kg_G
abbrev b_JE_init : ByteArray := prog_8_method_1_code
abbrev w_JE_init : List Cond := Cond.code y_JE_init b_JE_init 1 none :: kg_G
abbrev b_S_isCode : ByteArray := prog_4_method_2_code
abbrev w_S_isCode : List Cond := Cond.code y_S_isCode b_S_isCode 1 (some .boolean) :: kg_G
abbrev b_JS_init : ByteArray := prog_10_method_1_code
abbrev w_JS_init : List Cond := Cond.code y_JS_init b_JS_init 1 none :: kg_G
abbrev b_L_go : ByteArray := method_4_code
abbrev w_L_go : List Cond := Cond.codeWith y_L_go b_L_go 4 (some .int) [(0, 9, 12, 13), (0, 9, 15, 15)] :: kg_G
abbrev b_M_go : ByteArray := prog_1_method_3_code
abbrev w_M_go : List Cond := Cond.code y_M_go b_M_go 2 (some .int) :: kg_G
abbrev b_L_resume : ByteArray := method_5_code
abbrev w_L_resume : List Cond := Cond.codeWith y_L_resume b_L_resume 3 (some .int) [(0, 8, 11, 15)] :: kg_G
abbrev b_M_resume : ByteArray := prog_1_method_4_code
abbrev w_M_resume : List Cond := Cond.code y_M_resume b_M_resume 1 (some .int) :: kg_G
abbrev b_L_cycles : ByteArray := method_6_code
abbrev w_L_cycles : List Cond := Cond.codeWith y_L_cycles b_L_cycles 4 (some .int) [(0, 9, 12, 13)] :: kg_G
abbrev b_M_cycles : ByteArray := prog_1_method_5_code
abbrev w_M_cycles : List Cond := Cond.code y_M_cycles b_M_cycles 4 (some .int) :: kg_G
abbrev b_M_noteStepsDone : ByteArray := prog_1_method_14_code
abbrev w_M_noteStepsDone : List Cond := Cond.code y_M_noteStepsDone b_M_noteStepsDone 2 none :: kg_G
abbrev b_M_workUnit : ByteArray := prog_1_method_15_code
abbrev w_M_workUnit : List Cond := Cond.code y_M_workUnit b_M_workUnit 9 none :: kg_G
abbrev b_I_unit : ByteArray := prog_3_method_4_code
abbrev w_I_unit : List Cond := Cond.code y_I_unit b_I_unit 1 (some .int) :: kg_G
abbrev b_K_isNextStepFree : ByteArray := prog_5_method_15_code
abbrev w_K_isNextStepFree : List Cond := Cond.code y_K_isNextStepFree b_K_isNextStepFree 7 (some .boolean) :: kg_G
abbrev b_K_isDone : ByteArray := prog_5_method_14_code
abbrev w_K_isDone : List Cond := Cond.code y_K_isDone b_K_isDone 1 (some .boolean) :: kg_G
abbrev b_K_writesOf : ByteArray := prog_5_method_13_code
abbrev w_K_writesOf : List Cond := Cond.code y_K_writesOf b_K_writesOf 3 (some .long) :: kg_G
abbrev b_K_span : ByteArray := prog_5_method_7_code
abbrev w_K_span : List Cond := Cond.code y_K_span b_K_span 2 (some .long) :: kg_G
abbrev b_K_placeOf : ByteArray := prog_5_method_8_code
abbrev w_K_placeOf : List Cond := Cond.code y_K_placeOf b_K_placeOf 3 (some .int) :: kg_G
abbrev b_K_readsOf : ByteArray := prog_5_method_9_code
abbrev w_K_readsOf : List Cond := Cond.code y_K_readsOf b_K_readsOf 3 (some .long) :: kg_G
abbrev b_K_readsOfSum : ByteArray := prog_5_method_11_code
abbrev w_K_readsOfSum : List Cond := Cond.code y_K_readsOfSum b_K_readsOfSum 4 (some .long) :: kg_G
abbrev b_K_maskByte : ByteArray := prog_5_method_12_code
abbrev w_K_maskByte : List Cond := Cond.code y_K_maskByte b_K_maskByte 2 (some .long) :: kg_G
abbrev b_K_sourcesOf : ByteArray := prog_5_method_10_code
abbrev w_K_sourcesOf : List Cond := Cond.code y_K_sourcesOf b_K_sourcesOf 2 (some .long) :: kg_G
abbrev b_K_isInGroup : ByteArray := prog_5_method_23_code
abbrev w_K_isInGroup : List Cond := Cond.code y_K_isInGroup b_K_isInGroup 2 (some .boolean) :: kg_G
abbrev b_K_doNextStep : ByteArray := prog_5_method_16_code
abbrev w_K_doNextStep : List Cond := Cond.code y_K_doNextStep b_K_doNextStep 2 none :: kg_G
abbrev b_K_isWorkedOn : ByteArray := prog_5_method_17_code
abbrev w_K_isWorkedOn : List Cond := Cond.code y_K_isWorkedOn b_K_isWorkedOn 2 (some .boolean) :: kg_G
abbrev b_K_writeSum : ByteArray := prog_5_method_18_code
abbrev w_K_writeSum : List Cond := Cond.code y_K_writeSum b_K_writeSum 4 none :: kg_G
abbrev b_K_element : ByteArray := prog_5_method_21_code
abbrev w_K_element : List Cond := Cond.code y_K_element b_K_element 3 (some .int) :: kg_G
abbrev b_B_write : ByteArray := prog_2_method_4_code
abbrev w_B_write : List Cond := Cond.code y_B_write b_B_write 5 none :: kg_G
abbrev b_K_writeMaskBit : ByteArray := prog_5_method_19_code
abbrev w_K_writeMaskBit : List Cond := Cond.code y_K_writeMaskBit b_K_writeMaskBit 6 none :: kg_G
abbrev b_K_result : ByteArray := prog_5_method_20_code
abbrev w_K_result : List Cond := Cond.code y_K_result b_K_result 2 (some .int) :: kg_G
abbrev b_K_elementOrZero : ByteArray := prog_5_method_22_code
abbrev w_K_elementOrZero : List Cond := Cond.code y_K_elementOrZero b_K_elementOrZero 3 (some .int) :: kg_G
abbrev b_K_placeInMemory : ByteArray := prog_5_method_24_code
abbrev w_K_placeInMemory : List Cond := Cond.code y_K_placeInMemory b_K_placeInMemory 2 (some .int) :: kg_G
abbrev b_K_readsFromStep : ByteArray := prog_5_method_5_code
abbrev w_K_readsFromStep : List Cond := Cond.code y_K_readsFromStep b_K_readsFromStep 2 (some .long) :: kg_G
abbrev b_K_writesFromStep : ByteArray := prog_5_method_6_code
abbrev w_K_writesFromStep : List Cond := Cond.code y_K_writesFromStep b_K_writesFromStep 2 (some .long) :: kg_G
abbrev b_M_dropFinished : ByteArray := prog_1_method_16_code
abbrev w_M_dropFinished : List Cond := Cond.code y_M_dropFinished b_M_dropFinished 4 none :: kg_G
abbrev b_M_advance : ByteArray := prog_1_method_17_code
abbrev w_M_advance : List Cond := Cond.code y_M_advance b_M_advance 2 none :: kg_G
abbrev b_S_forbids : ByteArray := prog_4_method_7_code
abbrev w_S_forbids : List Cond := Cond.code y_S_forbids b_S_forbids 2 (some .boolean) :: kg_G
abbrev b_I_isVector : ByteArray := prog_3_method_2_code
abbrev w_I_isVector : List Cond := Cond.code y_I_isVector b_I_isVector 1 (some .boolean) :: kg_G
abbrev b_S_isMisplaced : ByteArray := prog_4_method_8_code
abbrev w_S_isMisplaced : List Cond := Cond.code y_S_isMisplaced b_S_isMisplaced 3 (some .boolean) :: kg_G
abbrev b_I_hasGroupAtD : ByteArray := prog_3_method_5_code
abbrev w_I_hasGroupAtD : List Cond := Cond.code y_I_hasGroupAtD b_I_hasGroupAtD 1 (some .boolean) :: kg_G
abbrev b_S_isMultiple : ByteArray := prog_4_method_9_code
abbrev w_S_isMultiple : List Cond := Cond.code y_S_isMultiple b_S_isMultiple 2 (some .boolean) :: kg_G
abbrev b_I_hasGroupAtA : ByteArray := prog_3_method_6_code
abbrev w_I_hasGroupAtA : List Cond := Cond.code y_I_hasGroupAtA b_I_hasGroupAtA 1 (some .boolean) :: kg_G
abbrev b_I_hasGroupAtB : ByteArray := prog_3_method_7_code
abbrev w_I_hasGroupAtB : List Cond := Cond.code y_I_hasGroupAtB b_I_hasGroupAtB 1 (some .boolean) :: kg_G
abbrev b_S_spoilsMask : ByteArray := prog_4_method_10_code
abbrev w_S_spoilsMask : List Cond := Cond.code y_S_spoilsMask b_S_spoilsMask 1 (some .boolean) :: kg_G
abbrev b_S_spoilsSources : ByteArray := prog_4_method_11_code
abbrev w_S_spoilsSources : List Cond := Cond.code y_S_spoilsSources b_S_spoilsSources 2 (some .boolean) :: kg_G
abbrev b_S_isInWideGroup : ByteArray := prog_4_method_12_code
abbrev w_S_isInWideGroup : List Cond := Cond.code y_S_isInWideGroup b_S_isInWideGroup 3 (some .boolean) :: kg_G
abbrev b_S_isTooWide : ByteArray := prog_4_method_13_code
abbrev w_S_isTooWide : List Cond := Cond.code y_S_isTooWide b_S_isTooWide 2 (some .boolean) :: kg_G
abbrev b_M_mustWaitForQueue : ByteArray := prog_1_method_20_code
abbrev w_M_mustWaitForQueue : List Cond := Cond.code y_M_mustWaitForQueue b_M_mustWaitForQueue 6 (some .boolean) :: kg_G
abbrev b_M_handOut : ByteArray := prog_1_method_21_code
abbrev w_M_handOut : List Cond := Cond.code y_M_handOut b_M_handOut 4 none :: kg_G
abbrev b_K_take : ByteArray := prog_5_method_2_code
abbrev w_K_take : List Cond := Cond.code y_K_take b_K_take 6 none :: kg_G
abbrev b_S_most : ByteArray := prog_4_method_5_code
abbrev w_S_most : List Cond := Cond.code y_S_most b_S_most 1 (some .int) :: kg_G
abbrev b_K_firstBad : ByteArray := prog_5_method_25_code
abbrev w_K_firstBad : List Cond := Cond.code y_K_firstBad b_K_firstBad 4 (some .int) :: kg_G
abbrev b_K_foresee : ByteArray := prog_5_method_4_code
abbrev w_K_foresee : List Cond := Cond.code y_K_foresee b_K_foresee 7 none :: kg_G
abbrev b_I_needsEmptyQueue : ByteArray := prog_3_method_3_code
abbrev w_I_needsEmptyQueue : List Cond := Cond.code y_I_needsEmptyQueue b_I_needsEmptyQueue 1 (some .boolean) :: kg_G
abbrev b_M_doScalar : ByteArray := prog_1_method_18_code
abbrev w_M_doScalar : List Cond := Cond.code y_M_doScalar b_M_doScalar 3 none :: kg_G
abbrev b_M_setScalar : ByteArray := prog_1_method_19_code
abbrev w_M_setScalar : List Cond := Cond.code y_M_setScalar b_M_setScalar 3 none :: kg_G
abbrev b_S_configure : ByteArray := prog_4_method_6_code
abbrev w_S_configure : List Cond := Cond.code y_S_configure b_S_configure 3 none :: kg_G
abbrev b_L_poke : ByteArray := method_7_code
abbrev w_L_poke : List Cond := Cond.codeWith y_L_poke b_L_poke 5 (some .int) [(0, 17, 20, 13)] :: kg_G
abbrev b_M_poke : ByteArray := prog_1_method_6_code
abbrev w_M_poke : List Cond := Cond.code y_M_poke b_M_poke 3 (some .boolean) :: kg_G
abbrev b_L_limit : ByteArray := method_8_code
abbrev w_L_limit : List Cond := Cond.codeWith y_L_limit b_L_limit 4 (some .int) [(0, 16, 19, 13), (0, 16, 22, 15)] :: kg_G
abbrev b_M_limit : ByteArray := prog_1_method_7_code
abbrev w_M_limit : List Cond := Cond.code y_M_limit b_M_limit 2 (some .boolean) :: kg_G
abbrev b_R_init : ByteArray := prog_7_method_1_code
abbrev w_R_init : List Cond := Cond.code y_R_init b_R_init 2 none :: kg_G
abbrev b_R_thrown : ByteArray := prog_7_method_2_code
abbrev w_R_thrown : List Cond := Cond.code y_R_thrown b_R_thrown 1 (some .int) :: kg_G
abbrev b_R_cycles : ByteArray := prog_7_method_31_code
abbrev w_R_cycles : List Cond := Cond.code y_R_cycles b_R_cycles 3 (some .int) :: kg_G
abbrev b_R_units : ByteArray := prog_7_method_20_code
abbrev w_R_units : List Cond := Cond.code y_R_units b_R_units 5 none :: kg_G
abbrev b_R_unit : ByteArray := prog_7_method_9_code
abbrev w_R_unit : List Cond := Cond.code y_R_unit b_R_unit 1 (some .int) :: kg_G
abbrev b_R_free : ByteArray := prog_7_method_13_code
abbrev w_R_free : List Cond := Cond.code y_R_free b_R_free 10 (some .boolean) :: kg_G
abbrev b_R_reads : ByteArray := prog_7_method_10_code
abbrev w_R_reads : List Cond := Cond.code y_R_reads b_R_reads 11 (some .long) :: kg_G
abbrev b_R_vlOf : ByteArray := prog_7_method_11_code
abbrev w_R_vlOf : List Cond := Cond.code y_R_vlOf b_R_vlOf 2 (some .int) :: kg_G
abbrev b_R_bytes : ByteArray := prog_7_method_3_code
abbrev w_R_bytes : List Cond := Cond.code y_R_bytes b_R_bytes 2 (some .long) :: kg_G
abbrev b_R_writes : ByteArray := prog_7_method_12_code
abbrev w_R_writes : List Cond := Cond.code y_R_writes b_R_writes 7 (some .long) :: kg_G
abbrev b_R_does : ByteArray := prog_7_method_19_code
abbrev w_R_does : List Cond := Cond.code y_R_does b_R_does 9 none :: kg_G
abbrev b_R_sums : ByteArray := prog_7_method_14_code
abbrev w_R_sums : List Cond := Cond.code y_R_sums b_R_sums 8 none :: kg_G
abbrev b_R_element : ByteArray := prog_7_method_5_code
abbrev w_R_element : List Cond := Cond.code y_R_element b_R_element 7 (some .int) :: kg_G
abbrev b_R_signed : ByteArray := prog_7_method_4_code
abbrev w_R_signed : List Cond := Cond.code y_R_signed b_R_signed 3 (some .int) :: kg_G
abbrev b_R_bit : ByteArray := prog_7_method_8_code
abbrev w_R_bit : List Cond := Cond.code y_R_bit b_R_bit 3 (some .boolean) :: kg_G
abbrev b_R_set : ByteArray := prog_7_method_6_code
abbrev w_R_set : List Cond := Cond.code y_R_set b_R_set 6 none :: kg_G
abbrev b_R_pairs : ByteArray := prog_7_method_17_code
abbrev w_R_pairs : List Cond := Cond.code y_R_pairs b_R_pairs 7 (some .int) :: kg_G
abbrev b_R_moves : ByteArray := prog_7_method_16_code
abbrev w_R_moves : List Cond := Cond.code y_R_moves b_R_moves 7 none :: kg_G
abbrev b_R_place : ByteArray := prog_7_method_15_code
abbrev w_R_place : List Cond := Cond.code y_R_place b_R_place 4 (some .int) :: kg_G
abbrev b_R_plain : ByteArray := prog_7_method_7_code
abbrev w_R_plain : List Cond := Cond.code y_R_plain b_R_plain 2 (some .long) :: kg_G
abbrev b_R_picks : ByteArray := prog_7_method_18_code
abbrev w_R_picks : List Cond := Cond.code y_R_picks b_R_picks 8 (some .int) :: kg_G
abbrev b_R_leaves : ByteArray := prog_7_method_21_code
abbrev w_R_leaves : List Cond := Cond.code y_R_leaves b_R_leaves 3 none :: kg_G
abbrev b_R_goesOn : ByteArray := prog_7_method_30_code
abbrev w_R_goesOn : List Cond := Cond.code y_R_goesOn b_R_goesOn 2 none :: kg_G
abbrev b_R_illegal : ByteArray := prog_7_method_23_code
abbrev w_R_illegal : List Cond := Cond.code y_R_illegal b_R_illegal 7 (some .boolean) :: kg_G
abbrev b_R_odd : ByteArray := prog_7_method_22_code
abbrev w_R_odd : List Cond := Cond.code y_R_odd b_R_odd 3 (some .boolean) :: kg_G
abbrev b_R_scalarDone : ByteArray := prog_7_method_26_code
abbrev w_R_scalarDone : List Cond := Cond.code y_R_scalarDone b_R_scalarDone 4 (some .boolean) :: kg_G
abbrev b_R_setX : ByteArray := prog_7_method_24_code
abbrev w_R_setX : List Cond := Cond.code y_R_setX b_R_setX 3 none :: kg_G
abbrev b_R_configures : ByteArray := prog_7_method_25_code
abbrev w_R_configures : List Cond := Cond.code y_R_configures b_R_configures 6 none :: kg_G
abbrev b_R_held : ByteArray := prog_7_method_27_code
abbrev w_R_held : List Cond := Cond.code y_R_held b_R_held 7 (some .boolean) :: kg_G
abbrev b_R_handsOut : ByteArray := prog_7_method_29_code
abbrev w_R_handsOut : List Cond := Cond.code y_R_handsOut b_R_handsOut 6 none :: kg_G
abbrev b_R_bad : ByteArray := prog_7_method_28_code
abbrev w_R_bad : List Cond := Cond.code y_R_bad b_R_bad 5 (some .int) :: kg_G
abbrev b_R_put : ByteArray := prog_7_method_33_code
abbrev w_R_put : List Cond := Cond.code y_R_put b_R_put 8 (some .int) :: kg_G
abbrev b_R_isRegister : ByteArray := prog_7_method_32_code
abbrev w_R_isRegister : List Cond := Cond.code y_R_isRegister b_R_isRegister 1 (some .boolean) :: kg_G
abbrev b_R_go : ByteArray := prog_7_method_34_code
abbrev w_R_go : List Cond := Cond.code y_R_go b_R_go 2 (some .int) :: kg_G
abbrev b_R_resume : ByteArray := prog_7_method_35_code
abbrev w_R_resume : List Cond := Cond.code y_R_resume b_R_resume 1 (some .int) :: kg_G
abbrev b_R_poke : ByteArray := prog_7_method_36_code
abbrev w_R_poke : List Cond := Cond.code y_R_poke b_R_poke 3 (some .boolean) :: kg_G
abbrev b_R_limit : ByteArray := prog_7_method_37_code
abbrev w_R_limit : List Cond := Cond.code y_R_limit b_R_limit 2 (some .boolean) :: kg_G
abbrev b_R_scalar : ByteArray := prog_7_method_38_code
abbrev w_R_scalar : List Cond := Cond.code y_R_scalar b_R_scalar 2 (some .int) :: kg_G
abbrev b_R_file : ByteArray := prog_7_method_39_code
abbrev w_R_file : List Cond := Cond.code y_R_file b_R_file 2 (some .int) :: kg_G
abbrev b_R_memory : ByteArray := prog_7_method_40_code
abbrev w_R_memory : List Cond := Cond.code y_R_memory b_R_memory 2 (some .int) :: kg_G
abbrev b_R_about : ByteArray := prog_7_method_41_code
abbrev w_R_about : List Cond := Cond.code y_R_about b_R_about 2 (some .int) :: kg_G
abbrev b_R_queue : ByteArray := prog_7_method_42_code
abbrev w_R_queue : List Cond := Cond.code y_R_queue b_R_queue 3 (some .int) :: kg_G
abbrev b_L_law : ByteArray := code
