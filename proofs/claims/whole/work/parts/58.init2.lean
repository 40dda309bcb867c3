/-! births of the class -/
set_option maxRecDepth 100000 in
set_option maxHeartbeats 4000000 in
theorem c_S_init (l : Launch) {D : va_G} {h0 sz : Nat}   : Met l y_S_init w_S_init { frames := 1, cells := 0, slots := 0, locals := 40 } (va_Pc [.ref h0] (fun U => U.heap.size = sz ∧ va_P D kc [(h0, .inr (2, [.int 0, .int 0, .int 0, .int 0]))] U.heap ∧ va_K D kc [] U)) (va_Qv (fun _ : Unit => True) (fun _ t => va_P D kc [(h0, .inr (2, [.int 0, .int 0, .int 0, .int 0]))] t.heap ∧ va_K D kc [] t ∧ va_D (va_A [(h0, .inr (2, [.int 0, .int 0, .int 0, .int 0]))] sz) [(h0, .inr (2, [.int 0, .int 0, .int 0, .int 0]))]) (va_A [(h0, .inr (2, [.int 0, .int 0, .int 0, .int 0]))] sz)) 0 (0) (va_A [(h0, .inr (2, [.int 0, .int 0, .int 0, .int 0]))] sz) := by
  refine Met.ofW (cc := b_S_init) (maxL := 1) (ret := none) (by decide) rfl ?_
  intro p e s m args below meth c s₁ B hml hv
  obtain ⟨rfl, hsz, hP, hK⟩ := hv
  have hx := B.exec
  have hb := B.bytes
  have hr := B.returns
  have hts := atoms_spec (ws := w_S_init) B.pre
  have hg : ∀ w9 ∈ kg_G, w9.before [.ref h0].toArray s = true := fun w9 h9 => hts w9 (List.mem_cons_of_mem _ h9)
  have hown : s.vm.findClass "LaneMachine$Setting" = some m.cls := findClass_of_methodNamed B.named
  have hlocks := B.notSynchronized
  have hin : meth.name = "<init>" := (name_of_methodNamed B.named B.method).1
  subst hsz
  have hD : va_D (va_A [(h0, .inr (2, [.int 0, .int 0, .int 0, .int 0]))] s.heap.size) [(h0, .inr (2, [.int 0, .int 0, .int 0, .int 0]))] := kw_D1 (Or.inl ⟨0, _, rfl⟩)
  generalize hAe : va_A [(h0, .inr (2, [.int 0, .int 0, .int 0, .int 0]))] s.heap.size = A at hD ⊢
  have hA : ∀ q : Nat, s.heap.size ≤ q → A q := fun q h => by rw [← hAe]; exact Or.inr h
  have hS : va_S A s.heap s.heap [] := va_S.rf
  have hP : va_P D kc [(h0, .inr (2, [.int 0, .int 0, .int 0, .int 0]))] s.heap := hP
  have hl := lv_entry ([.ref h0]) (n := 1) (Nat.le_of_ble_eq_true rfl)
  rw [lg_entry_eq]
  generalize (lg_sl ([.ref h0]) ++ List.replicate (1 - (lg_sl ([.ref h0])).length) Slot.unset).toArray = ls at hl ⊢
  have hl : lv_has ls 1 [(0, .ref h0)] := hl
  refine lv_aload_n hx hb d_S_init_0 rfl (lv_at hl 0 rfl) ?_
  refine W.objInit hx hb hown (hg _ kg_44) (hg _ kg_19) (hg _ kg_20) rfl (by rw [hml]; exact hl.1) rfl d_S_init_1 (Nat.le_of_ble_eq_true rfl) (Nat.le_of_ble_eq_true rfl) ?_
  refine W.eq (g2 := F0 m 4 ls []) rfl ?_
  exact W.vret hx hb hr (fun t ht hW => ⟨⟨(), rfl, trivial, by rw [ht]; exact hP, va_K.moved hW.alike hK, hD⟩, hS.F ht⟩) hS.2.2 d_S_init_4 hlocks

set_option maxRecDepth 100000 in
set_option maxHeartbeats 4000000 in
theorem c_I_init (l : Launch) {D : va_G} {h0 sz : Nat} {o9 : Int32} {d9 : Int32} {a9 : Int32} {b9 : Int32} {n9 : Int32} {m9 : Int32} (hm : m9 = 0 ∨ m9 = 1) : Met l y_I_init w_I_init { frames := 1, cells := 0, slots := 0, locals := 40 } (va_Pc [.ref h0, .int o9, .int d9, .int a9, .int b9, .int n9, .int m9] (fun U => U.heap.size = sz ∧ va_P D kc [(h0, .inr (1, [.int 0, .int 0, .int 0, .int 0, .int 0, .int 0]))] U.heap ∧ va_K D kc [] U)) (va_Qv (fun _ : Unit => True) (fun _ t => va_P D kc [(h0, .inr (1, [.int o9, .int d9, .int a9, .int b9, .int n9, .int m9]))] t.heap ∧ va_K D kc [] t ∧ va_D (va_A [(h0, .inr (1, [.int 0, .int 0, .int 0, .int 0, .int 0, .int 0]))] sz) [(h0, .inr (1, [.int o9, .int d9, .int a9, .int b9, .int n9, .int m9]))]) (va_A [(h0, .inr (1, [.int 0, .int 0, .int 0, .int 0, .int 0, .int 0]))] sz)) 0 (0) (va_A [(h0, .inr (1, [.int 0, .int 0, .int 0, .int 0, .int 0, .int 0]))] sz) := by
  refine Met.ofW (cc := b_I_init) (maxL := 7) (ret := none) (by decide) rfl ?_
  intro p e s m args below meth c s₁ B hml hv
  obtain ⟨rfl, hsz, hP, hK⟩ := hv
  have hx := B.exec
  have hb := B.bytes
  have hr := B.returns
  have hts := atoms_spec (ws := w_I_init) B.pre
  have hg : ∀ w9 ∈ kg_G, w9.before [.ref h0, .int o9, .int d9, .int a9, .int b9, .int n9, .int m9].toArray s = true := fun w9 h9 => hts w9 (List.mem_cons_of_mem _ h9)
  have hown : s.vm.findClass "LaneMachine$Instruction" = some m.cls := findClass_of_methodNamed B.named
  have hlocks := B.notSynchronized
  have hin : meth.name = "<init>" := (name_of_methodNamed B.named B.method).1
  subst hsz
  have hD : va_D (va_A [(h0, .inr (1, [.int 0, .int 0, .int 0, .int 0, .int 0, .int 0]))] s.heap.size) [(h0, .inr (1, [.int 0, .int 0, .int 0, .int 0, .int 0, .int 0]))] := kw_D1 (Or.inl ⟨0, _, rfl⟩)
  generalize hAe : va_A [(h0, .inr (1, [.int 0, .int 0, .int 0, .int 0, .int 0, .int 0]))] s.heap.size = A at hD ⊢
  have hA : ∀ q : Nat, s.heap.size ≤ q → A q := fun q h => by rw [← hAe]; exact Or.inr h
  have hS : va_S A s.heap s.heap [] := va_S.rf
  have hP : va_P D kc [(h0, .inr (1, [.int 0, .int 0, .int 0, .int 0, .int 0, .int 0]))] s.heap := hP
  have hl := lv_entry ([.ref h0, .int o9, .int d9, .int a9, .int b9, .int n9, .int m9]) (n := 7) (Nat.le_of_ble_eq_true rfl)
  rw [lg_entry_eq]
  generalize (lg_sl ([.ref h0, .int o9, .int d9, .int a9, .int b9, .int n9, .int m9]) ++ List.replicate (7 - (lg_sl ([.ref h0, .int o9, .int d9, .int a9, .int b9, .int n9, .int m9])).length) Slot.unset).toArray = ls at hl ⊢
  have hl : lv_has ls 7 [(0, .ref h0), (1, .int o9), (2, .int d9), (3, .int a9), (4, .int b9), (5, .int n9), (6, .int m9)] := hl
  refine lv_aload_n hx hb d_I_init_0 rfl (lv_at hl 0 rfl) ?_
  refine W.objInit hx hb hown (hg _ kg_70) (hg _ kg_19) (hg _ kg_20) rfl (by rw [hml]; exact hl.1) rfl d_I_init_1 (Nat.le_of_ble_eq_true rfl) (Nat.le_of_ble_eq_true rfl) ?_
  refine W.eq (g2 := F0 m 4 ls []) rfl ?_
  refine lv_aload_n hx hb d_I_init_4 rfl (lv_at hl 0 rfl) ?_
  refine lv_iload_n hx hb d_I_init_5 rfl (lv_at hl 1 rfl) ?_
  refine va_putF (D := D) (ci := 1) (v := .int o9) (C := R_I) (T := F_I) (N := 6) hx hb hg in_I t_I ty_I nm_I hown hK hP hD hS 0 rfl rfl 0 (by decide) (hg _ kg_71) (fun _ h9 => h9) rfl hin rfl rfl (rfl) (rfl) (Nat.le_of_ble_eq_true rfl) d_I_init_6 (fun H locs hP hD hS => ?_)
  have hP : va_P D kc [(h0, .inr (1, [.int o9, .int 0, .int 0, .int 0, .int 0, .int 0]))] H := hP
  have hD : va_D A [(h0, .inr (1, [.int o9, .int 0, .int 0, .int 0, .int 0, .int 0]))] := hD
  refine lv_aload_n hx hb d_I_init_9 rfl (lv_at hl 0 rfl) ?_
  refine lv_iload_n hx hb d_I_init_10 rfl (lv_at hl 2 rfl) ?_
  refine va_putF (D := D) (ci := 1) (v := .int d9) (C := R_I) (T := F_I) (N := 6) hx hb hg in_I t_I ty_I nm_I hown hK hP hD hS 0 rfl rfl 1 (by decide) (hg _ kg_75) (fun _ h9 => h9) rfl hin rfl rfl (rfl) (rfl) (Nat.le_of_ble_eq_true rfl) d_I_init_11 (fun H locs hP hD hS => ?_)
  have hP : va_P D kc [(h0, .inr (1, [.int o9, .int d9, .int 0, .int 0, .int 0, .int 0]))] H := hP
  have hD : va_D A [(h0, .inr (1, [.int o9, .int d9, .int 0, .int 0, .int 0, .int 0]))] := hD
  refine lv_aload_n hx hb d_I_init_14 rfl (lv_at hl 0 rfl) ?_
  refine lv_iload_n hx hb d_I_init_15 rfl (lv_at hl 3 rfl) ?_
  refine va_putF (D := D) (ci := 1) (v := .int a9) (C := R_I) (T := F_I) (N := 6) hx hb hg in_I t_I ty_I nm_I hown hK hP hD hS 0 rfl rfl 2 (by decide) (hg _ kg_79) (fun _ h9 => h9) rfl hin rfl rfl (rfl) (rfl) (Nat.le_of_ble_eq_true rfl) d_I_init_16 (fun H locs hP hD hS => ?_)
  have hP : va_P D kc [(h0, .inr (1, [.int o9, .int d9, .int a9, .int 0, .int 0, .int 0]))] H := hP
  have hD : va_D A [(h0, .inr (1, [.int o9, .int d9, .int a9, .int 0, .int 0, .int 0]))] := hD
  refine lv_aload_n hx hb d_I_init_19 rfl (lv_at hl 0 rfl) ?_
  refine lv_iload hx hb d_I_init_20 (lv_at hl 4 rfl) ?_
  refine va_putF (D := D) (ci := 1) (v := .int b9) (C := R_I) (T := F_I) (N := 6) hx hb hg in_I t_I ty_I nm_I hown hK hP hD hS 0 rfl rfl 3 (by decide) (hg _ kg_83) (fun _ h9 => h9) rfl hin rfl rfl (rfl) (rfl) (Nat.le_of_ble_eq_true rfl) d_I_init_22 (fun H locs hP hD hS => ?_)
  have hP : va_P D kc [(h0, .inr (1, [.int o9, .int d9, .int a9, .int b9, .int 0, .int 0]))] H := hP
  have hD : va_D A [(h0, .inr (1, [.int o9, .int d9, .int a9, .int b9, .int 0, .int 0]))] := hD
  refine lv_aload_n hx hb d_I_init_25 rfl (lv_at hl 0 rfl) ?_
  refine lv_iload hx hb d_I_init_26 (lv_at hl 5 rfl) ?_
  refine va_putF (D := D) (ci := 1) (v := .int n9) (C := R_I) (T := F_I) (N := 6) hx hb hg in_I t_I ty_I nm_I hown hK hP hD hS 0 rfl rfl 4 (by decide) (hg _ kg_87) (fun _ h9 => h9) rfl hin rfl rfl (rfl) (rfl) (Nat.le_of_ble_eq_true rfl) d_I_init_28 (fun H locs hP hD hS => ?_)
  have hP : va_P D kc [(h0, .inr (1, [.int o9, .int d9, .int a9, .int b9, .int n9, .int 0]))] H := hP
  have hD : va_D A [(h0, .inr (1, [.int o9, .int d9, .int a9, .int b9, .int n9, .int 0]))] := hD
  refine lv_aload_n hx hb d_I_init_31 rfl (lv_at hl 0 rfl) ?_
  refine lv_iload hx hb d_I_init_32 (lv_at hl 6 rfl) ?_
  refine va_putF (D := D) (ci := 1) (v := .int m9) (C := R_I) (T := F_I) (N := 6) hx hb hg in_I t_I ty_I nm_I hown hK hP hD hS 0 rfl rfl 5 (by decide) (hg _ kg_89) (fun _ h9 => h9) rfl hin rfl rfl (by rcases hm with rfl | rfl <;> rfl) (by rcases hm with rfl | rfl <;> rfl) (Nat.le_of_ble_eq_true rfl) d_I_init_34 (fun H locs hP hD hS => ?_)
  have hP : va_P D kc [(h0, .inr (1, [.int o9, .int d9, .int a9, .int b9, .int n9, .int m9]))] H := hP
  have hD : va_D A [(h0, .inr (1, [.int o9, .int d9, .int a9, .int b9, .int n9, .int m9]))] := hD
  exact W.vret hx hb hr (fun t ht hW => ⟨⟨(), rfl, trivial, by rw [ht]; exact hP, va_K.moved hW.alike hK, hD⟩, hS.F ht⟩) hS.2.2 d_I_init_37 hlocks

set_option maxRecDepth 100000 in
set_option maxHeartbeats 4000000 in
theorem c_B_init (l : Launch) {D : va_G} {h0 sz : Nat} {L : Nat} (hL : L ≤ 128) : Met l y_B_init w_B_init { frames := 1, cells := 1, slots := L, locals := 40 } (va_Pc [.ref h0, .int (nI L)] (fun U => U.heap.size = sz ∧ va_P D kc [(h0, .inr (0, [.null]))] U.heap ∧ va_K D kc [] U)) (va_Qv (fun _ : Unit => True) (fun _ t => ∃ q1 : Nat, ∃ c1 : ClassId, va_P D kc [(h0, .inr (0, [.ref q1])), (q1, .inl (c1, L, .inl (fun _ => 0)))] t.heap ∧ va_K D kc [(c1, .byte)] t ∧ va_D (va_A [(h0, .inr (0, [.null]))] sz) [(h0, .inr (0, [.ref q1])), (q1, .inl (c1, L, .inl (fun _ => 0)))]) (va_A [(h0, .inr (0, [.null]))] sz)) 1 (L) (va_A [(h0, .inr (0, [.null]))] sz) := by
  refine Met.ofW (cc := b_B_init) (maxL := 2) (ret := none) (by decide) rfl ?_
  intro p e s m args below meth c s₁ B hml hv
  obtain ⟨rfl, hsz, hP, hK⟩ := hv
  have hx := B.exec
  have hb := B.bytes
  have hr := B.returns
  have hts := atoms_spec (ws := w_B_init) B.pre
  have hg : ∀ w9 ∈ kg_G, w9.before [.ref h0, .int (nI L)].toArray s = true := fun w9 h9 => hts w9 (List.mem_cons_of_mem _ h9)
  have hown : s.vm.findClass "LaneMachine$Bytes" = some m.cls := findClass_of_methodNamed B.named
  have hlocks := B.notSynchronized
  have hin : meth.name = "<init>" := (name_of_methodNamed B.named B.method).1
  subst hsz
  have hD : va_D (va_A [(h0, .inr (0, [.null]))] s.heap.size) [(h0, .inr (0, [.null]))] := kw_D1 (Or.inl ⟨0, _, rfl⟩)
  generalize hAe : va_A [(h0, .inr (0, [.null]))] s.heap.size = A at hD ⊢
  have hA : ∀ q : Nat, s.heap.size ≤ q → A q := fun q h => by rw [← hAe]; exact Or.inr h
  have hS : va_S A s.heap s.heap [] := va_S.rf
  have hP : va_P D kc [(h0, .inr (0, [.null]))] s.heap := hP
  have hl := lv_entry ([.ref h0, .int (nI L)]) (n := 2) (Nat.le_of_ble_eq_true rfl)
  rw [lg_entry_eq]
  generalize (lg_sl ([.ref h0, .int (nI L)]) ++ List.replicate (2 - (lg_sl ([.ref h0, .int (nI L)])).length) Slot.unset).toArray = ls at hl ⊢
  have hl : lv_has ls 2 [(0, .ref h0), (1, .int (nI L))] := hl
  refine lv_aload_n hx hb d_B_init_0 rfl (lv_at hl 0 rfl) ?_
  refine W.objInit hx hb hown (hg _ kg_32) (hg _ kg_19) (hg _ kg_20) rfl (by rw [hml]; exact hl.1) rfl d_B_init_1 (Nat.le_of_ble_eq_true rfl) (Nat.le_of_ble_eq_true rfl) ?_
  refine W.eq (g2 := F0 m 4 ls []) rfl ?_
  refine lv_aload_n hx hb d_B_init_4 rfl (lv_at hl 0 rfl) ?_
  refine lv_iload_n hx hb d_B_init_5 rfl (lv_at hl 1 rfl) ?_
  refine va_newa (atype := .byte) (ty := .byte) (a0 := (L, .inl (fun _ => 0))) (N' := L) hx hb (hg _ kg_38) rfl hK hP hD hS hA (fun _ => rfl) (fun z9 => absurd ((nI_ltI (b := 0) (by omega) (by omega)).mp z9) (Nat.not_lt_zero _)) (nI_clamp (by omega)) (by show L * 1 ≤ _; omega) (Nat.le_of_ble_eq_true rfl) (by show 0 + L ≤ L; omega) d_B_init_6 (fun q1 c1 H hK hP hD hS => ?_)
  have hK : va_K D kc [(c1, .byte)] s := hK
  have hP : va_P D kc [(h0, .inr (0, [.null])), (q1, .inl (c1, L, .inl (fun _ => 0)))] H := hP
  have hD : va_D A [(h0, .inr (0, [.null])), (q1, .inl (c1, L, .inl (fun _ => 0)))] := hD
  refine va_putF (D := D) (ci := 0) (v := .ref q1) (C := R_B) (T := F_B) (N := 1) hx hb hg in_B t_B ty_B nm_B hown hK hP hD hS 0 rfl rfl 0 (by decide) (hg _ kg_33) (fun _ h9 => h9) rfl hin rfl rfl (rfl) (rfl) (Nat.le_of_ble_eq_true rfl) d_B_init_8 (fun H locs hP hD hS => ?_)
  have hP : va_P D kc [(h0, .inr (0, [.ref q1])), (q1, .inl (c1, L, .inl (fun _ => 0)))] H := hP
  have hD : va_D A [(h0, .inr (0, [.ref q1])), (q1, .inl (c1, L, .inl (fun _ => 0)))] := hD
  refine W.widen (k := 1) (n := L) (by omega) (by omega) ?_
  exact W.vret hx hb hr (fun t ht hW => ⟨⟨(), rfl, trivial, q1, c1, by rw [ht]; exact hP, va_K.moved hW.alike hK, hD⟩, hS.F ht⟩) hS.2.2 d_B_init_11 hlocks

set_option maxRecDepth 100000 in
set_option maxHeartbeats 4000000 in
theorem c_K_init (l : Launch) {D : va_G} {h0 sz : Nat} {h1 : Nat} {h2 : Nat} {h3 : Nat}  : Met l y_K_init w_K_init { frames := 1, cells := 2, slots := 33 + 33, locals := 40 } (va_Pc [.ref h0, .ref h1, .ref h2, .ref h3] (fun U => U.heap.size = sz ∧ va_P D kc [(h0, .inr (3, [.null, .null, .null, .null, .int 0, .int 0, .int 0, .int 0, .int 0, .int 0, .null, .int 0, .int 0, .int 0, .int 0]))] U.heap ∧ va_K D kc [] U)) (va_Qv (fun _ : Unit => True) (fun _ t => ∃ q1 : Nat, ∃ q2 : Nat, ∃ c1 : ClassId, va_P D kc [(h0, .inr (3, [.ref h1, .ref h2, .ref q1, .ref q2, .int 0, .int 0, .int 0, .int 0, .int 0, .int 0, .ref h3, .int 0, .int 0, .int 0, .int 0])), (q1, .inl (c1, 33, .inr (.inl (fun _ => 0)))), (q2, .inl (c1, 33, .inr (.inl (fun _ => 0))))] t.heap ∧ va_K D kc [(c1, .long)] t ∧ va_D (va_A [(h0, .inr (3, [.null, .null, .null, .null, .int 0, .int 0, .int 0, .int 0, .int 0, .int 0, .null, .int 0, .int 0, .int 0, .int 0]))] sz) [(h0, .inr (3, [.ref h1, .ref h2, .ref q1, .ref q2, .int 0, .int 0, .int 0, .int 0, .int 0, .int 0, .ref h3, .int 0, .int 0, .int 0, .int 0])), (q1, .inl (c1, 33, .inr (.inl (fun _ => 0)))), (q2, .inl (c1, 33, .inr (.inl (fun _ => 0))))]) (va_A [(h0, .inr (3, [.null, .null, .null, .null, .int 0, .int 0, .int 0, .int 0, .int 0, .int 0, .null, .int 0, .int 0, .int 0, .int 0]))] sz)) 2 (33 + 33) (va_A [(h0, .inr (3, [.null, .null, .null, .null, .int 0, .int 0, .int 0, .int 0, .int 0, .int 0, .null, .int 0, .int 0, .int 0, .int 0]))] sz) := by
  refine Met.ofW (cc := b_K_init) (maxL := 4) (ret := none) (by decide) rfl ?_
  intro p e s m args below meth c s₁ B hml hv
  obtain ⟨rfl, hsz, hP, hK⟩ := hv
  have hx := B.exec
  have hb := B.bytes
  have hr := B.returns
  have hts := atoms_spec (ws := w_K_init) B.pre
  have hg : ∀ w9 ∈ kg_G, w9.before [.ref h0, .ref h1, .ref h2, .ref h3].toArray s = true := fun w9 h9 => hts w9 (List.mem_cons_of_mem _ h9)
  have hown : s.vm.findClass "LaneMachine$Work" = some m.cls := findClass_of_methodNamed B.named
  have hlocks := B.notSynchronized
  have hin : meth.name = "<init>" := (name_of_methodNamed B.named B.method).1
  subst hsz
  have hD : va_D (va_A [(h0, .inr (3, [.null, .null, .null, .null, .int 0, .int 0, .int 0, .int 0, .int 0, .int 0, .null, .int 0, .int 0, .int 0, .int 0]))] s.heap.size) [(h0, .inr (3, [.null, .null, .null, .null, .int 0, .int 0, .int 0, .int 0, .int 0, .int 0, .null, .int 0, .int 0, .int 0, .int 0]))] := kw_D1 (Or.inl ⟨0, _, rfl⟩)
  generalize hAe : va_A [(h0, .inr (3, [.null, .null, .null, .null, .int 0, .int 0, .int 0, .int 0, .int 0, .int 0, .null, .int 0, .int 0, .int 0, .int 0]))] s.heap.size = A at hD ⊢
  have hA : ∀ q : Nat, s.heap.size ≤ q → A q := fun q h => by rw [← hAe]; exact Or.inr h
  have hS : va_S A s.heap s.heap [] := va_S.rf
  have hP : va_P D kc [(h0, .inr (3, [.null, .null, .null, .null, .int 0, .int 0, .int 0, .int 0, .int 0, .int 0, .null, .int 0, .int 0, .int 0, .int 0]))] s.heap := hP
  have hl := lv_entry ([.ref h0, .ref h1, .ref h2, .ref h3]) (n := 4) (Nat.le_of_ble_eq_true rfl)
  rw [lg_entry_eq]
  generalize (lg_sl ([.ref h0, .ref h1, .ref h2, .ref h3]) ++ List.replicate (4 - (lg_sl ([.ref h0, .ref h1, .ref h2, .ref h3])).length) Slot.unset).toArray = ls at hl ⊢
  have hl : lv_has ls 4 [(0, .ref h0), (1, .ref h1), (2, .ref h2), (3, .ref h3)] := hl
  refine lv_aload_n hx hb d_K_init_0 rfl (lv_at hl 0 rfl) ?_
  refine W.objInit hx hb hown (hg _ kg_110) (hg _ kg_19) (hg _ kg_20) rfl (by rw [hml]; exact hl.1) rfl d_K_init_1 (Nat.le_of_ble_eq_true rfl) (Nat.le_of_ble_eq_true rfl) ?_
  refine W.eq (g2 := F0 m 4 ls []) rfl ?_
  refine lv_aload_n hx hb d_K_init_4 rfl (lv_at hl 0 rfl) ?_
  refine lv_aload_n hx hb d_K_init_5 rfl (lv_at hl 1 rfl) ?_
  refine va_putF (D := D) (ci := 3) (v := .ref h1) (C := R_K) (T := F_K) (N := 15) hx hb hg in_K t_K ty_K nm_K hown hK hP hD hS 0 rfl rfl 0 (by decide) (hg _ kg_111) (fun _ h9 => h9) rfl hin rfl rfl (rfl) (rfl) (Nat.le_of_ble_eq_true rfl) d_K_init_6 (fun H locs hP hD hS => ?_)
  have hP : va_P D kc [(h0, .inr (3, [.ref h1, .null, .null, .null, .int 0, .int 0, .int 0, .int 0, .int 0, .int 0, .null, .int 0, .int 0, .int 0, .int 0]))] H := hP
  have hD : va_D A [(h0, .inr (3, [.ref h1, .null, .null, .null, .int 0, .int 0, .int 0, .int 0, .int 0, .int 0, .null, .int 0, .int 0, .int 0, .int 0]))] := hD
  refine lv_aload_n hx hb d_K_init_9 rfl (lv_at hl 0 rfl) ?_
  refine lv_aload_n hx hb d_K_init_10 rfl (lv_at hl 2 rfl) ?_
  refine va_putF (D := D) (ci := 3) (v := .ref h2) (C := R_K) (T := F_K) (N := 15) hx hb hg in_K t_K ty_K nm_K hown hK hP hD hS 0 rfl rfl 1 (by decide) (hg _ kg_112) (fun _ h9 => h9) rfl hin rfl rfl (rfl) (rfl) (Nat.le_of_ble_eq_true rfl) d_K_init_11 (fun H locs hP hD hS => ?_)
  have hP : va_P D kc [(h0, .inr (3, [.ref h1, .ref h2, .null, .null, .int 0, .int 0, .int 0, .int 0, .int 0, .int 0, .null, .int 0, .int 0, .int 0, .int 0]))] H := hP
  have hD : va_D A [(h0, .inr (3, [.ref h1, .ref h2, .null, .null, .int 0, .int 0, .int 0, .int 0, .int 0, .int 0, .null, .int 0, .int 0, .int 0, .int 0]))] := hD
  refine lv_aload_n hx hb d_K_init_14 rfl (lv_at hl 0 rfl) ?_
  refine lv_bipush (v := 33) hx hb d_K_init_15 (by decide) ?_
  refine va_newa (atype := .long) (ty := .long) (a0 := (33, .inr (.inl (fun _ => 0)))) (N' := 33) hx hb (hg _ kg_161) rfl hK hP hD hS hA (fun _ => rfl) (by decide) (rfl) (by decide) (Nat.le_of_ble_eq_true rfl) (Nat.le_of_ble_eq_true rfl) d_K_init_17 (fun q1 c1 H hK hP hD hS => ?_)
  have hK : va_K D kc [(c1, .long)] s := hK
  have hP : va_P D kc [(h0, .inr (3, [.ref h1, .ref h2, .null, .null, .int 0, .int 0, .int 0, .int 0, .int 0, .int 0, .null, .int 0, .int 0, .int 0, .int 0])), (q1, .inl (c1, 33, .inr (.inl (fun _ => 0))))] H := hP
  have hD : va_D A [(h0, .inr (3, [.ref h1, .ref h2, .null, .null, .int 0, .int 0, .int 0, .int 0, .int 0, .int 0, .null, .int 0, .int 0, .int 0, .int 0])), (q1, .inl (c1, 33, .inr (.inl (fun _ => 0))))] := hD
  refine va_putF (D := D) (ci := 3) (v := .ref q1) (C := R_K) (T := F_K) (N := 15) hx hb hg in_K t_K ty_K nm_K hown hK hP hD hS 0 rfl rfl 2 (by decide) (hg _ kg_113) (fun _ h9 => h9) rfl hin rfl rfl (rfl) (rfl) (Nat.le_of_ble_eq_true rfl) d_K_init_19 (fun H locs hP hD hS => ?_)
  have hP : va_P D kc [(h0, .inr (3, [.ref h1, .ref h2, .ref q1, .null, .int 0, .int 0, .int 0, .int 0, .int 0, .int 0, .null, .int 0, .int 0, .int 0, .int 0])), (q1, .inl (c1, 33, .inr (.inl (fun _ => 0))))] H := hP
  have hD : va_D A [(h0, .inr (3, [.ref h1, .ref h2, .ref q1, .null, .int 0, .int 0, .int 0, .int 0, .int 0, .int 0, .null, .int 0, .int 0, .int 0, .int 0])), (q1, .inl (c1, 33, .inr (.inl (fun _ => 0))))] := hD
  refine lv_aload_n hx hb d_K_init_22 rfl (lv_at hl 0 rfl) ?_
  refine lv_bipush (v := 33) hx hb d_K_init_23 (by decide) ?_
  refine va_newa (atype := .long) (ty := .long) (a0 := (33, .inr (.inl (fun _ => 0)))) (N' := 33) hx hb (hg _ kg_161) rfl hK hP hD hS hA (fun _ => rfl) (by decide) (rfl) (by decide) (Nat.le_of_ble_eq_true rfl) (Nat.le_of_ble_eq_true rfl) d_K_init_25 (fun q2 c9 H hK9 hP hD hS => ?_)
  obtain rfl := kt_one (i := 0) (j := 1) (ty := .long) hK9 (fun _ h => h) rfl rfl
  clear hK9
  have hP : va_P D kc [(h0, .inr (3, [.ref h1, .ref h2, .ref q1, .null, .int 0, .int 0, .int 0, .int 0, .int 0, .int 0, .null, .int 0, .int 0, .int 0, .int 0])), (q1, .inl (c1, 33, .inr (.inl (fun _ => 0)))), (q2, .inl (c1, 33, .inr (.inl (fun _ => 0))))] H := hP
  have hD : va_D A [(h0, .inr (3, [.ref h1, .ref h2, .ref q1, .null, .int 0, .int 0, .int 0, .int 0, .int 0, .int 0, .null, .int 0, .int 0, .int 0, .int 0])), (q1, .inl (c1, 33, .inr (.inl (fun _ => 0)))), (q2, .inl (c1, 33, .inr (.inl (fun _ => 0))))] := hD
  refine va_putF (D := D) (ci := 3) (v := .ref q2) (C := R_K) (T := F_K) (N := 15) hx hb hg in_K t_K ty_K nm_K hown hK hP hD hS 0 rfl rfl 3 (by decide) (hg _ kg_114) (fun _ h9 => h9) rfl hin rfl rfl (rfl) (rfl) (Nat.le_of_ble_eq_true rfl) d_K_init_27 (fun H locs hP hD hS => ?_)
  have hP : va_P D kc [(h0, .inr (3, [.ref h1, .ref h2, .ref q1, .ref q2, .int 0, .int 0, .int 0, .int 0, .int 0, .int 0, .null, .int 0, .int 0, .int 0, .int 0])), (q1, .inl (c1, 33, .inr (.inl (fun _ => 0)))), (q2, .inl (c1, 33, .inr (.inl (fun _ => 0))))] H := hP
  have hD : va_D A [(h0, .inr (3, [.ref h1, .ref h2, .ref q1, .ref q2, .int 0, .int 0, .int 0, .int 0, .int 0, .int 0, .null, .int 0, .int 0, .int 0, .int 0])), (q1, .inl (c1, 33, .inr (.inl (fun _ => 0)))), (q2, .inl (c1, 33, .inr (.inl (fun _ => 0))))] := hD
  refine lv_aload_n hx hb d_K_init_30 rfl (lv_at hl 0 rfl) ?_
  refine lv_aload_n hx hb d_K_init_31 rfl (lv_at hl 3 rfl) ?_
  refine va_put (D := D) (ci := 3) (v := .ref h3) (C := R_K) (T := F_K) (N := 15) hx hb hg in_K t_K ty_K nm_K hown hK hP hD hS 0 rfl rfl 10 (by decide) (hg _ kg_121) (fun _ h9 => h9) rfl rfl (rfl) (rfl) (Nat.le_of_ble_eq_true rfl) d_K_init_32 (fun H locs hP hD hS => ?_)
  have hP : va_P D kc [(h0, .inr (3, [.ref h1, .ref h2, .ref q1, .ref q2, .int 0, .int 0, .int 0, .int 0, .int 0, .int 0, .ref h3, .int 0, .int 0, .int 0, .int 0])), (q1, .inl (c1, 33, .inr (.inl (fun _ => 0)))), (q2, .inl (c1, 33, .inr (.inl (fun _ => 0))))] H := hP
  have hD : va_D A [(h0, .inr (3, [.ref h1, .ref h2, .ref q1, .ref q2, .int 0, .int 0, .int 0, .int 0, .int 0, .int 0, .ref h3, .int 0, .int 0, .int 0, .int 0])), (q1, .inl (c1, 33, .inr (.inl (fun _ => 0)))), (q2, .inl (c1, 33, .inr (.inl (fun _ => 0))))] := hD
  refine W.widen (k := 2) (n := 33 + 33) (by omega) (by omega) ?_
  exact W.vret hx hb hr (fun t ht hW => ⟨⟨(), rfl, trivial, q1, q2, c1, by rw [ht]; exact hP, va_K.moved hW.alike hK, hD⟩, hS.F ht⟩) hS.2.2 d_K_init_35 hlocks
