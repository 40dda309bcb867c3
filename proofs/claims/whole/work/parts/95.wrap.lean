/-! the law's wrappers -/
set_option maxRecDepth 100000 in
set_option maxHeartbeats 4000000 in
theorem c_L_go_0 (l : Launch) {D : va_G} {ad : Nat → Nat} {n : Nat} {cs : Nat → va_E} {cI cB cJ cQ cW : ClassId} {ao sz : Nat} {o : Nat → Int64} {v : Int32} (hJ : kw_J ad n) (hap : ∀ k, k < n → ad k ≠ ao) (hq0 : 0 < n) {fs : List Value} (e0 : cs 0 = .inr (4, fs)) {post : Int32 → (Nat → va_E) → Prop} (hM : kw_mi l y_M_go w_M_go (kr 0) D kc (kt cI cB cJ cQ cW) ad n cs (.ref (ad 0) :: [.int v]) post) : Met l y_L_go w_L_go kL_r (va_Pc [.ref (ad 0), .int v, .ref ao] (kL_P D (kt cI cB cJ cQ cW) ad n cs cJ ao o sz)) (va_Qi (fun r (u : Int32 × (Nat → va_E)) => r = 0 ∧ post u.1 u.2) (fun u t => kw_Pre D kc (kt cI cB cJ cQ cW) ad n u.2 t ∧ va_P D kc (kL_o cJ ao (vp_updL o 0 u.1.toInt64)) t.heap) (kL_A ad n ao)) 1 6 (kL_A ad n ao) := by
  refine va_MetW (cc := b_L_go) (maxL := 4) (ret := some .int) (hh := [(0, 9, 12, 13), (0, 9, 15, 15)]) (by decide) rfl ?_
  intro p e s m args below meth c s₁ B hml hv
  obtain ⟨rfl, hsz, ⟨hP, hK⟩, hPo, hSt⟩ := hv
  have hx := B.exec
  have hb := B.bytes
  have hr := B.returns
  have hts := atoms_spec (ws := w_L_go) B.pre
  have hg : ∀ w9 ∈ kg_G, w9.before [.ref (ad 0), .int v, .ref ao].toArray s = true := fun w9 h9 => hts w9 (List.mem_cons_of_mem _ h9)
  have hown : s.vm.findClass "LaneMachineLaw" = some m.cls := findClass_of_methodNamed B.named
  have hlocks := B.notSynchronized
  subst hsz
  have hl := lv_entry ([.ref (ad 0), .int v, .ref ao]) (n := 4) (Nat.le_of_ble_eq_true rfl)
  rw [lg_entry_eq]
  generalize (lg_sl ([.ref (ad 0), .int v, .ref ao]) ++ List.replicate (4 - (lg_sl ([.ref (ad 0), .int v, .ref ao])).length) Slot.unset).toArray = ls at hl ⊢
  have hl : lv_has ls 4 [(0, .ref (ad 0)), (1, .int v), (2, .ref ao)] := hl
  have hS : va_S (kL_A ad n ao) s.heap s.heap [] := va_S.rf
  refine lv_aload_n hx hb d_L_go_0 rfl (lv_at hl 2 rfl) ?_
  refine lv_iconst (v := 0) hx hb d_L_go_1 (by decide) ?_
  refine lv_aload_n hx hb d_L_go_2 rfl (lv_at hl 0 rfl) ?_
  refine lv_iload_n hx hb d_L_go_3 rfl (lv_at hl 1 rfl) ?_
  refine va_calli (va_runV (As := [.int v]) (rest := [.int 0, .ref ao]) ⟨hx, hb, hml, hown, hg⟩ hM ⟨callB_of 1 hg (kg_goodG kg_348) rfl rfl rfl (hg _ kg_1) (hg _ kg_345) (by decide +kernel) ⟨by decide, by decide⟩, hg _ kg_346, hg _ kg_347⟩ ⟨kw_blind, va_recv hK hP rfl ((kw_at hq0).trans (by rw [e0])), fun U hU hWm => ⟨rfl, by rw [hU]; exact hP, va_K.moved hWm.alike hK⟩⟩ rfl rfl hl.1 rfl (lv_room (Nat.le_of_ble_eq_true rfl)) d_L_go_4 ⟨Nat.zero_le _, Nat.zero_le _⟩) hS (fun q _ h => Or.inl h) (fun q h => Or.inl h) (fun r u t H locs ht hal hp hB hz hk hS => ?_)
  have hP1 : va_P D kc (kw_w ad u n) H := by rw [← ht]; exact hB.1
  have hPo1 := kL_keep hPo (kL_notA hap) hk
  have hP2 := va_P.app hP1 hPo1
  unfold kL_o at hP2
  rw [kw_push] at hP2
  have hJ1 := kL_J hJ hap
  have hA1 : ∀ k, k < n + 1 → (kL_A ad n ao) (va_up ad n ao k) := fun k hk9 => by
    by_cases h9 : k = n
    · subst h9; rw [va_up_self]; exact Or.inr rfl
    · rw [va_up_ne _ _ h9]; exact Or.inl ⟨k, by omega, rfl⟩
  refine lv_i2l hx hb d_L_go_7 rfl ?_
  refine W.eq (g2 := F0 m 8 ls [.long r.toInt64, .int 0, .ref ((va_up ad n ao) (n))]) (by rw [va_up_self]) ?_
  refine kw_last hx hb hK hP2 hJ1 hA1 hS (n) 2 (by omega) (va_up_self _ _ _) rfl 0 rfl (by decide) (by omega) d_L_go_8 (fun H locs hP hS => ?_)
  refine lv_goto (tgt := 18) hx hb d_L_go_9 (by decide) ?_
  refine lv_iconst (v := 0) hx hb d_L_go_18 (by decide) ?_
  refine W.widen (k := 1) (n := 6) (by omega) (by omega) ?_
  exact W.iret hx hb hr (fun t ht hW => by
    subst ht
    exact ⟨⟨0, (r, u), rfl, ⟨rfl, hp⟩, ⟨(kL_split hP).1, va_K.moved hW.alike hK⟩, (kL_split hP).2⟩, hS.F rfl⟩) hS.2.2 d_L_go_19 hlocks

set_option maxRecDepth 100000 in
set_option maxHeartbeats 4000000 in
theorem c_L_go_A (l : Launch) {D : va_G} {ad : Nat → Nat} {n : Nat} {cs : Nat → va_E} {cI cB cJ cQ cW : ClassId} {ao sz : Nat} {o : Nat → Int64} {v : Int32} (hao : ao < sz) (hq0 : 0 < n) {fs : List Value} (e0 : cs 0 = .inr (4, fs)) (hM : kx_th l y_M_go w_M_go kx_r D kc (kt cI cB cJ cQ cW) ad n cs (.ref (ad 0) :: [.int v]) "java/lang/IllegalArgumentException") : Met l y_L_go w_L_go kL_r (va_Pc [.ref (ad 0), .int v, .ref ao] (kL_P D (kt cI cB cJ cQ cW) ad n cs cJ ao o sz)) (va_Qi (fun r (_ : Unit) => r = 1) (fun _ _ => True) (fun q => sz ≤ q)) 1 6 (fun q => sz ≤ q) := by
  refine va_MetW (cc := b_L_go) (maxL := 4) (ret := some .int) (hh := [(0, 9, 12, 13), (0, 9, 15, 15)]) (by decide) rfl ?_
  intro p e s m args below meth c s₁ B hml hv
  obtain ⟨rfl, hsz, ⟨hP, hK⟩, hPo, hSt⟩ := hv
  have hx := B.exec
  have hb := B.bytes
  have hr := B.returns
  have hts := atoms_spec (ws := w_L_go) B.pre
  have hg : ∀ w9 ∈ kg_G, w9.before [.ref (ad 0), .int v, .ref ao].toArray s = true := fun w9 h9 => hts w9 (List.mem_cons_of_mem _ h9)
  have hown : s.vm.findClass "LaneMachineLaw" = some m.cls := findClass_of_methodNamed B.named
  have hlocks := B.notSynchronized
  subst hsz
  have hl := lv_entry ([.ref (ad 0), .int v, .ref ao]) (n := 4) (Nat.le_of_ble_eq_true rfl)
  rw [lg_entry_eq]
  generalize (lg_sl ([.ref (ad 0), .int v, .ref ao]) ++ List.replicate (4 - (lg_sl ([.ref (ad 0), .int v, .ref ao])).length) Slot.unset).toArray = ls at hl ⊢
  have hl : lv_has ls 4 [(0, .ref (ad 0)), (1, .int v), (2, .ref ao)] := hl
  refine lv_aload_n hx hb d_L_go_0 rfl (lv_at hl 2 rfl) ?_
  refine lv_iconst (v := 0) hx hb d_L_go_1 (by decide) ?_
  refine lv_aload_n hx hb d_L_go_2 rfl (lv_at hl 0 rfl) ?_
  refine lv_iload_n hx hb d_L_go_3 rfl (lv_at hl 1 rfl) ?_
  obtain ⟨cellB, hcB, hoB, hclB⟩ := va_recv hK hP (q0 := 0) rfl ((kw_at hq0).trans (by rw [e0]))
  obtain ⟨m9, meth9, c9, hn9, hm9, hc9, -, -, htab, -, -, -⟩ := Cond.codeWith_spec (hts _ List.mem_cons_self)
  cases hn9.symm.trans B.named
  cases hm9.symm.trans B.method
  cases hc9.symm.trans (Stand.of_body B).code
  have htab := kL_t2 htab
  refine kx_call (Wd := 8) (hpc := 12) (As := [.int v]) (rest := [.int 0, .ref ao]) hx hb hown (hg _ kg_345) (hg _ kg_346) (hg _ kg_347) (hg _ kg_348) ⟨by decide, by decide⟩ (fun a9 U9 h9 => word_at h9 (Or.inl rfl) (hg _ kg_1)) hM kL_blindX rfl rfl (by decide) (by decide) (pay_in hg (kg_goodG kg_348)) List.mem_cons_self hcB hoB hclB (by rw [hml]; exact hl.1) (fun sig h9 => by have z9 : (parseMethodDescriptor y_M_go.desc).map (fun d => d.parameters.length) = some 1 := (by decide +kernel); (rw [h9] at z9); exact (Option.some.inj z9).symm) rfl (Nat.le_of_ble_eq_true rfl) d_L_go_4 (fun U hU hWm => ⟨rfl, ⟨by rw [hU]; exact hP, va_K.moved hWm.alike hK⟩, hSt.moved hWm (fun q cell hq _ => by rw [hU]; exact hq)⟩) ⟨by decide, by decide⟩ (fun x st t hst hal1 hal2 hT => ⟨fun T1 hT1 X1 => ?_, ?_⟩)
  · obtain ⟨hx1, ⟨ce, hce, hcls, hst1, hself⟩, hold⟩ := hT
    have hcls1 : s.vm.findClass "java/lang/IllegalArgumentException" = some ce.cls := by rw [← hal1.findClass]; exact hcls
    have hself1 : s.vm.assignable ce.cls ce.cls = true := by rw [← hal1.assignable]; exact hself
    have hex := kL_ex X1 hown (hg _ kg_253) hcls1
    exact kx_c1 X1 rfl hown htab rfl (by decide) (hg _ kg_253) (by rw [hT1]; exact hce) hst1 hex (fun k9 h9 => by cases hcls1.symm.trans h9; exact hself1)
  · obtain ⟨hx1, ⟨ce, hce, -⟩, hold⟩ := hT
    rw [hst] at hx1 hold
    refine lv_astore_n (lv' := [(3, .ref x), (0, .ref (ad 0)), (1, .int v), (2, .ref ao)]) hx hb d_L_go_12 rfl hl (by decide) rfl (fun ls hl => ?_)
    refine lv_iconst (v := 1) hx hb d_L_go_13 (by decide) ?_
    exact W.iret hx hb hr (fun t9 ht9 hW9 => ⟨⟨1, (), rfl, rfl, trivial⟩, by rw [ht9]; exact Nat.le_of_lt (Nat.lt_of_le_of_lt hx1 (Array.getElem?_eq_some_iff.mp hce).1), fun q h1 h2 => by rw [ht9]; exact hold q h1⟩) (fun q hq => by cases hq) d_L_go_14 hlocks

set_option maxRecDepth 100000 in
set_option maxHeartbeats 4000000 in
theorem c_L_go_S (l : Launch) {D : va_G} {ad : Nat → Nat} {n : Nat} {cs : Nat → va_E} {cI cB cJ cQ cW : ClassId} {ao sz : Nat} {o : Nat → Int64} {v : Int32} (hao : ao < sz) (hq0 : 0 < n) {fs : List Value} (e0 : cs 0 = .inr (4, fs)) (hM : kx_th l y_M_go w_M_go kx_r D kc (kt cI cB cJ cQ cW) ad n cs (.ref (ad 0) :: [.int v]) "java/lang/IllegalStateException") : Met l y_L_go w_L_go kL_r (va_Pc [.ref (ad 0), .int v, .ref ao] (kL_P D (kt cI cB cJ cQ cW) ad n cs cJ ao o sz)) (va_Qi (fun r (_ : Unit) => r = 2) (fun _ _ => True) (fun q => sz ≤ q)) 1 6 (fun q => sz ≤ q) := by
  refine va_MetW (cc := b_L_go) (maxL := 4) (ret := some .int) (hh := [(0, 9, 12, 13), (0, 9, 15, 15)]) (by decide) rfl ?_
  intro p e s m args below meth c s₁ B hml hv
  obtain ⟨rfl, hsz, ⟨hP, hK⟩, hPo, hSt⟩ := hv
  have hx := B.exec
  have hb := B.bytes
  have hr := B.returns
  have hts := atoms_spec (ws := w_L_go) B.pre
  have hg : ∀ w9 ∈ kg_G, w9.before [.ref (ad 0), .int v, .ref ao].toArray s = true := fun w9 h9 => hts w9 (List.mem_cons_of_mem _ h9)
  have hown : s.vm.findClass "LaneMachineLaw" = some m.cls := findClass_of_methodNamed B.named
  have hlocks := B.notSynchronized
  subst hsz
  have hl := lv_entry ([.ref (ad 0), .int v, .ref ao]) (n := 4) (Nat.le_of_ble_eq_true rfl)
  rw [lg_entry_eq]
  generalize (lg_sl ([.ref (ad 0), .int v, .ref ao]) ++ List.replicate (4 - (lg_sl ([.ref (ad 0), .int v, .ref ao])).length) Slot.unset).toArray = ls at hl ⊢
  have hl : lv_has ls 4 [(0, .ref (ad 0)), (1, .int v), (2, .ref ao)] := hl
  refine lv_aload_n hx hb d_L_go_0 rfl (lv_at hl 2 rfl) ?_
  refine lv_iconst (v := 0) hx hb d_L_go_1 (by decide) ?_
  refine lv_aload_n hx hb d_L_go_2 rfl (lv_at hl 0 rfl) ?_
  refine lv_iload_n hx hb d_L_go_3 rfl (lv_at hl 1 rfl) ?_
  obtain ⟨cellB, hcB, hoB, hclB⟩ := va_recv hK hP (q0 := 0) rfl ((kw_at hq0).trans (by rw [e0]))
  obtain ⟨m9, meth9, c9, hn9, hm9, hc9, -, -, htab, -, -, -⟩ := Cond.codeWith_spec (hts _ List.mem_cons_self)
  cases hn9.symm.trans B.named
  cases hm9.symm.trans B.method
  cases hc9.symm.trans (Stand.of_body B).code
  have htab := kL_t2 htab
  refine kx_call (Wd := 8) (hpc := 15) (As := [.int v]) (rest := [.int 0, .ref ao]) hx hb hown (hg _ kg_345) (hg _ kg_346) (hg _ kg_347) (hg _ kg_348) ⟨by decide, by decide⟩ (fun a9 U9 h9 => word_at h9 (Or.inl rfl) (hg _ kg_1)) hM kL_blindX rfl rfl (by decide) (by decide) (pay_in hg (kg_goodG kg_348)) List.mem_cons_self hcB hoB hclB (by rw [hml]; exact hl.1) (fun sig h9 => by have z9 : (parseMethodDescriptor y_M_go.desc).map (fun d => d.parameters.length) = some 1 := (by decide +kernel); (rw [h9] at z9); exact (Option.some.inj z9).symm) rfl (Nat.le_of_ble_eq_true rfl) d_L_go_4 (fun U hU hWm => ⟨rfl, ⟨by rw [hU]; exact hP, va_K.moved hWm.alike hK⟩, hSt.moved hWm (fun q cell hq _ => by rw [hU]; exact hq)⟩) ⟨by decide, by decide⟩ (fun x st t hst hal1 hal2 hT => ⟨fun T1 hT1 X1 => ?_, ?_⟩)
  · obtain ⟨hx1, ⟨ce, hce, hcls, hst1, hself⟩, hold⟩ := hT
    have hcls1 : s.vm.findClass "java/lang/IllegalStateException" = some ce.cls := by rw [← hal1.findClass]; exact hcls
    have hself1 : s.vm.assignable ce.cls ce.cls = true := by rw [← hal1.assignable]; exact hself
    have hex := kL_ex X1 hown (hg _ kg_254) hcls1
    exact kx_c2 X1 rfl hown htab rfl (by decide) (hg _ kg_253) rfl (by decide) (hg _ kg_254) (by rw [hT1]; exact hce) hst1 hex (fun k9 h9 => kL_not hSt hcls1 h9) (fun k9 h9 => by cases hcls1.symm.trans h9; exact hself1)
  · obtain ⟨hx1, ⟨ce, hce, -⟩, hold⟩ := hT
    rw [hst] at hx1 hold
    refine lv_astore_n (lv' := [(3, .ref x), (0, .ref (ad 0)), (1, .int v), (2, .ref ao)]) hx hb d_L_go_15 rfl hl (by decide) rfl (fun ls hl => ?_)
    refine lv_iconst (v := 2) hx hb d_L_go_16 (by decide) ?_
    exact W.iret hx hb hr (fun t9 ht9 hW9 => ⟨⟨2, (), rfl, rfl, trivial⟩, by rw [ht9]; exact Nat.le_of_lt (Nat.lt_of_le_of_lt hx1 (Array.getElem?_eq_some_iff.mp hce).1), fun q h1 h2 => by rw [ht9]; exact hold q h1⟩) (fun q hq => by cases hq) d_L_go_17 hlocks

set_option maxRecDepth 100000 in
set_option maxHeartbeats 4000000 in
theorem c_L_resume_0 (l : Launch) {D : va_G} {ad : Nat → Nat} {n : Nat} {cs : Nat → va_E} {cI cB cJ cQ cW : ClassId} {ao sz : Nat} {o : Nat → Int64} (hJ : kw_J ad n) (hap : ∀ k, k < n → ad k ≠ ao) (hq0 : 0 < n) {fs : List Value} (e0 : cs 0 = .inr (4, fs)) {post : Int32 → (Nat → va_E) → Prop} (hM : kw_mi l y_M_resume w_M_resume (kr 0) D kc (kt cI cB cJ cQ cW) ad n cs (.ref (ad 0) :: []) post) : Met l y_L_resume w_L_resume kL_r (va_Pc [.ref (ad 0), .ref ao] (kL_P D (kt cI cB cJ cQ cW) ad n cs cJ ao o sz)) (va_Qi (fun r (u : Int32 × (Nat → va_E)) => r = 0 ∧ post u.1 u.2) (fun u t => kw_Pre D kc (kt cI cB cJ cQ cW) ad n u.2 t ∧ va_P D kc (kL_o cJ ao (vp_updL o 0 u.1.toInt64)) t.heap) (kL_A ad n ao)) 1 6 (kL_A ad n ao) := by
  refine va_MetW (cc := b_L_resume) (maxL := 3) (ret := some .int) (hh := [(0, 8, 11, 15)]) (by decide) rfl ?_
  intro p e s m args below meth c s₁ B hml hv
  obtain ⟨rfl, hsz, ⟨hP, hK⟩, hPo, hSt⟩ := hv
  have hx := B.exec
  have hb := B.bytes
  have hr := B.returns
  have hts := atoms_spec (ws := w_L_resume) B.pre
  have hg : ∀ w9 ∈ kg_G, w9.before [.ref (ad 0), .ref ao].toArray s = true := fun w9 h9 => hts w9 (List.mem_cons_of_mem _ h9)
  have hown : s.vm.findClass "LaneMachineLaw" = some m.cls := findClass_of_methodNamed B.named
  have hlocks := B.notSynchronized
  subst hsz
  have hl := lv_entry ([.ref (ad 0), .ref ao]) (n := 3) (Nat.le_of_ble_eq_true rfl)
  rw [lg_entry_eq]
  generalize (lg_sl ([.ref (ad 0), .ref ao]) ++ List.replicate (3 - (lg_sl ([.ref (ad 0), .ref ao])).length) Slot.unset).toArray = ls at hl ⊢
  have hl : lv_has ls 3 [(0, .ref (ad 0)), (1, .ref ao)] := hl
  have hS : va_S (kL_A ad n ao) s.heap s.heap [] := va_S.rf
  refine lv_aload_n hx hb d_L_resume_0 rfl (lv_at hl 1 rfl) ?_
  refine lv_iconst (v := 0) hx hb d_L_resume_1 (by decide) ?_
  refine lv_aload_n hx hb d_L_resume_2 rfl (lv_at hl 0 rfl) ?_
  refine va_calli (va_runV (As := []) (rest := [.int 0, .ref ao]) ⟨hx, hb, hml, hown, hg⟩ hM ⟨callB_of 0 hg (kg_goodG kg_355) rfl rfl rfl (hg _ kg_1) (hg _ kg_352) (by decide +kernel) ⟨by decide, by decide⟩, hg _ kg_353, hg _ kg_354⟩ ⟨kw_blind, va_recv hK hP rfl ((kw_at hq0).trans (by rw [e0])), fun U hU hWm => ⟨rfl, by rw [hU]; exact hP, va_K.moved hWm.alike hK⟩⟩ rfl rfl hl.1 rfl (lv_room (Nat.le_of_ble_eq_true rfl)) d_L_resume_3 ⟨Nat.zero_le _, Nat.zero_le _⟩) hS (fun q _ h => Or.inl h) (fun q h => Or.inl h) (fun r u t H locs ht hal hp hB hz hk hS => ?_)
  have hP1 : va_P D kc (kw_w ad u n) H := by rw [← ht]; exact hB.1
  have hPo1 := kL_keep hPo (kL_notA hap) hk
  have hP2 := va_P.app hP1 hPo1
  unfold kL_o at hP2
  rw [kw_push] at hP2
  have hJ1 := kL_J hJ hap
  have hA1 : ∀ k, k < n + 1 → (kL_A ad n ao) (va_up ad n ao k) := fun k hk9 => by
    by_cases h9 : k = n
    · subst h9; rw [va_up_self]; exact Or.inr rfl
    · rw [va_up_ne _ _ h9]; exact Or.inl ⟨k, by omega, rfl⟩
  refine lv_i2l hx hb d_L_resume_6 rfl ?_
  refine W.eq (g2 := F0 m 7 ls [.long r.toInt64, .int 0, .ref ((va_up ad n ao) (n))]) (by rw [va_up_self]) ?_
  refine kw_last hx hb hK hP2 hJ1 hA1 hS (n) 2 (by omega) (va_up_self _ _ _) rfl 0 rfl (by decide) (by omega) d_L_resume_7 (fun H locs hP hS => ?_)
  refine lv_goto (tgt := 14) hx hb d_L_resume_8 (by decide) ?_
  refine lv_iconst (v := 0) hx hb d_L_resume_14 (by decide) ?_
  refine W.widen (k := 1) (n := 6) (by omega) (by omega) ?_
  exact W.iret hx hb hr (fun t ht hW => by
    subst ht
    exact ⟨⟨0, (r, u), rfl, ⟨rfl, hp⟩, ⟨(kL_split hP).1, va_K.moved hW.alike hK⟩, (kL_split hP).2⟩, hS.F rfl⟩) hS.2.2 d_L_resume_15 hlocks

set_option maxRecDepth 100000 in
set_option maxHeartbeats 4000000 in
theorem c_L_resume_S (l : Launch) {D : va_G} {ad : Nat → Nat} {n : Nat} {cs : Nat → va_E} {cI cB cJ cQ cW : ClassId} {ao sz : Nat} {o : Nat → Int64} (hao : ao < sz) (hq0 : 0 < n) {fs : List Value} (e0 : cs 0 = .inr (4, fs)) (hM : kx_th l y_M_resume w_M_resume kx_r D kc (kt cI cB cJ cQ cW) ad n cs (.ref (ad 0) :: []) "java/lang/IllegalStateException") : Met l y_L_resume w_L_resume kL_r (va_Pc [.ref (ad 0), .ref ao] (kL_P D (kt cI cB cJ cQ cW) ad n cs cJ ao o sz)) (va_Qi (fun r (_ : Unit) => r = 1) (fun _ _ => True) (fun q => sz ≤ q)) 1 6 (fun q => sz ≤ q) := by
  refine va_MetW (cc := b_L_resume) (maxL := 3) (ret := some .int) (hh := [(0, 8, 11, 15)]) (by decide) rfl ?_
  intro p e s m args below meth c s₁ B hml hv
  obtain ⟨rfl, hsz, ⟨hP, hK⟩, hPo, hSt⟩ := hv
  have hx := B.exec
  have hb := B.bytes
  have hr := B.returns
  have hts := atoms_spec (ws := w_L_resume) B.pre
  have hg : ∀ w9 ∈ kg_G, w9.before [.ref (ad 0), .ref ao].toArray s = true := fun w9 h9 => hts w9 (List.mem_cons_of_mem _ h9)
  have hown : s.vm.findClass "LaneMachineLaw" = some m.cls := findClass_of_methodNamed B.named
  have hlocks := B.notSynchronized
  subst hsz
  have hl := lv_entry ([.ref (ad 0), .ref ao]) (n := 3) (Nat.le_of_ble_eq_true rfl)
  rw [lg_entry_eq]
  generalize (lg_sl ([.ref (ad 0), .ref ao]) ++ List.replicate (3 - (lg_sl ([.ref (ad 0), .ref ao])).length) Slot.unset).toArray = ls at hl ⊢
  have hl : lv_has ls 3 [(0, .ref (ad 0)), (1, .ref ao)] := hl
  refine lv_aload_n hx hb d_L_resume_0 rfl (lv_at hl 1 rfl) ?_
  refine lv_iconst (v := 0) hx hb d_L_resume_1 (by decide) ?_
  refine lv_aload_n hx hb d_L_resume_2 rfl (lv_at hl 0 rfl) ?_
  obtain ⟨cellB, hcB, hoB, hclB⟩ := va_recv hK hP (q0 := 0) rfl ((kw_at hq0).trans (by rw [e0]))
  obtain ⟨m9, meth9, c9, hn9, hm9, hc9, -, -, htab, -, -, -⟩ := Cond.codeWith_spec (hts _ List.mem_cons_self)
  cases hn9.symm.trans B.named
  cases hm9.symm.trans B.method
  cases hc9.symm.trans (Stand.of_body B).code
  have htab := kL_t1 htab
  refine kx_call (Wd := 8) (hpc := 11) (As := []) (rest := [.int 0, .ref ao]) hx hb hown (hg _ kg_352) (hg _ kg_353) (hg _ kg_354) (hg _ kg_355) ⟨by decide, by decide⟩ (fun a9 U9 h9 => word_at h9 (Or.inl rfl) (hg _ kg_1)) hM kL_blindX rfl rfl (by decide) (by decide) (pay_in hg (kg_goodG kg_355)) List.mem_cons_self hcB hoB hclB (by rw [hml]; exact hl.1) (fun sig h9 => by have z9 : (parseMethodDescriptor y_M_resume.desc).map (fun d => d.parameters.length) = some 0 := (by decide +kernel); (rw [h9] at z9); exact (Option.some.inj z9).symm) rfl (Nat.le_of_ble_eq_true rfl) d_L_resume_3 (fun U hU hWm => ⟨rfl, ⟨by rw [hU]; exact hP, va_K.moved hWm.alike hK⟩, hSt.moved hWm (fun q cell hq _ => by rw [hU]; exact hq)⟩) ⟨by decide, by decide⟩ (fun x st t hst hal1 hal2 hT => ⟨fun T1 hT1 X1 => ?_, ?_⟩)
  · obtain ⟨hx1, ⟨ce, hce, hcls, hst1, hself⟩, hold⟩ := hT
    have hcls1 : s.vm.findClass "java/lang/IllegalStateException" = some ce.cls := by rw [← hal1.findClass]; exact hcls
    have hself1 : s.vm.assignable ce.cls ce.cls = true := by rw [← hal1.assignable]; exact hself
    have hex := kL_ex X1 hown (hg _ kg_254) hcls1
    exact kx_c1 X1 rfl hown htab rfl (by decide) (hg _ kg_254) (by rw [hT1]; exact hce) hst1 hex (fun k9 h9 => by cases hcls1.symm.trans h9; exact hself1)
  · obtain ⟨hx1, ⟨ce, hce, -⟩, hold⟩ := hT
    rw [hst] at hx1 hold
    refine lv_astore_n (lv' := [(2, .ref x), (0, .ref (ad 0)), (1, .ref ao)]) hx hb d_L_resume_11 rfl hl (by decide) rfl (fun ls hl => ?_)
    refine lv_iconst (v := 1) hx hb d_L_resume_12 (by decide) ?_
    exact W.iret hx hb hr (fun t9 ht9 hW9 => ⟨⟨1, (), rfl, rfl, trivial⟩, by rw [ht9]; exact Nat.le_of_lt (Nat.lt_of_le_of_lt hx1 (Array.getElem?_eq_some_iff.mp hce).1), fun q h1 h2 => by rw [ht9]; exact hold q h1⟩) (fun q hq => by cases hq) d_L_resume_13 hlocks

set_option maxRecDepth 100000 in
set_option maxHeartbeats 4000000 in
theorem c_L_cycles_0 (l : Launch) {D : va_G} {ad : Nat → Nat} {n : Nat} {cs : Nat → va_E} {cI cB cJ cQ cW : ClassId} {ao sz : Nat} {o : Nat → Int64} {v : Int32} (hJ : kw_J ad n) (hap : ∀ k, k < n → ad k ≠ ao) (hq0 : 0 < n) {fs : List Value} (e0 : cs 0 = .inr (4, fs)) {post : Int32 → (Nat → va_E) → Prop} (hM : kw_mi l y_M_cycles w_M_cycles (kr 6) D kc (kt cI cB cJ cQ cW) ad n cs (.ref (ad 0) :: [.int v]) post) : Met l y_L_cycles w_L_cycles kL_r (va_Pc [.ref (ad 0), .int v, .ref ao] (kL_P D (kt cI cB cJ cQ cW) ad n cs cJ ao o sz)) (va_Qi (fun r (u : Int32 × (Nat → va_E)) => r = 0 ∧ post u.1 u.2) (fun u t => kw_Pre D kc (kt cI cB cJ cQ cW) ad n u.2 t ∧ va_P D kc (kL_o cJ ao (vp_updL o 0 u.1.toInt64)) t.heap) (kL_A ad n ao)) 1 6 (kL_A ad n ao) := by
  refine va_MetW (cc := b_L_cycles) (maxL := 4) (ret := some .int) (hh := [(0, 9, 12, 13)]) (by decide) rfl ?_
  intro p e s m args below meth c s₁ B hml hv
  obtain ⟨rfl, hsz, ⟨hP, hK⟩, hPo, hSt⟩ := hv
  have hx := B.exec
  have hb := B.bytes
  have hr := B.returns
  have hts := atoms_spec (ws := w_L_cycles) B.pre
  have hg : ∀ w9 ∈ kg_G, w9.before [.ref (ad 0), .int v, .ref ao].toArray s = true := fun w9 h9 => hts w9 (List.mem_cons_of_mem _ h9)
  have hown : s.vm.findClass "LaneMachineLaw" = some m.cls := findClass_of_methodNamed B.named
  have hlocks := B.notSynchronized
  subst hsz
  have hl := lv_entry ([.ref (ad 0), .int v, .ref ao]) (n := 4) (Nat.le_of_ble_eq_true rfl)
  rw [lg_entry_eq]
  generalize (lg_sl ([.ref (ad 0), .int v, .ref ao]) ++ List.replicate (4 - (lg_sl ([.ref (ad 0), .int v, .ref ao])).length) Slot.unset).toArray = ls at hl ⊢
  have hl : lv_has ls 4 [(0, .ref (ad 0)), (1, .int v), (2, .ref ao)] := hl
  have hS : va_S (kL_A ad n ao) s.heap s.heap [] := va_S.rf
  refine lv_aload_n hx hb d_L_cycles_0 rfl (lv_at hl 2 rfl) ?_
  refine lv_iconst (v := 0) hx hb d_L_cycles_1 (by decide) ?_
  refine lv_aload_n hx hb d_L_cycles_2 rfl (lv_at hl 0 rfl) ?_
  refine lv_iload_n hx hb d_L_cycles_3 rfl (lv_at hl 1 rfl) ?_
  refine va_calli (va_runV (As := [.int v]) (rest := [.int 0, .ref ao]) ⟨hx, hb, hml, hown, hg⟩ hM ⟨callB_of 1 hg (kg_goodG kg_362) rfl rfl rfl (hg _ kg_1) (hg _ kg_359) (by decide +kernel) ⟨by decide, by decide⟩, hg _ kg_360, hg _ kg_361⟩ ⟨kw_blind, va_recv hK hP rfl ((kw_at hq0).trans (by rw [e0])), fun U hU hWm => ⟨rfl, by rw [hU]; exact hP, va_K.moved hWm.alike hK⟩⟩ rfl rfl hl.1 rfl (lv_room (Nat.le_of_ble_eq_true rfl)) d_L_cycles_4 ⟨Nat.zero_le _, Nat.zero_le _⟩) hS (fun q _ h => Or.inl h) (fun q h => Or.inl h) (fun r u t H locs ht hal hp hB hz hk hS => ?_)
  have hP1 : va_P D kc (kw_w ad u n) H := by rw [← ht]; exact hB.1
  have hPo1 := kL_keep hPo (kL_notA hap) hk
  have hP2 := va_P.app hP1 hPo1
  unfold kL_o at hP2
  rw [kw_push] at hP2
  have hJ1 := kL_J hJ hap
  have hA1 : ∀ k, k < n + 1 → (kL_A ad n ao) (va_up ad n ao k) := fun k hk9 => by
    by_cases h9 : k = n
    · subst h9; rw [va_up_self]; exact Or.inr rfl
    · rw [va_up_ne _ _ h9]; exact Or.inl ⟨k, by omega, rfl⟩
  refine lv_i2l hx hb d_L_cycles_7 rfl ?_
  refine W.eq (g2 := F0 m 8 ls [.long r.toInt64, .int 0, .ref ((va_up ad n ao) (n))]) (by rw [va_up_self]) ?_
  refine kw_last hx hb hK hP2 hJ1 hA1 hS (n) 2 (by omega) (va_up_self _ _ _) rfl 0 rfl (by decide) (by omega) d_L_cycles_8 (fun H locs hP hS => ?_)
  refine lv_goto (tgt := 15) hx hb d_L_cycles_9 (by decide) ?_
  refine lv_iconst (v := 0) hx hb d_L_cycles_15 (by decide) ?_
  refine W.widen (k := 1) (n := 6) (by omega) (by omega) ?_
  exact W.iret hx hb hr (fun t ht hW => by
    subst ht
    exact ⟨⟨0, (r, u), rfl, ⟨rfl, hp⟩, ⟨(kL_split hP).1, va_K.moved hW.alike hK⟩, (kL_split hP).2⟩, hS.F rfl⟩) hS.2.2 d_L_cycles_16 hlocks

set_option maxRecDepth 100000 in
set_option maxHeartbeats 4000000 in
theorem c_L_cycles_A (l : Launch) {D : va_G} {ad : Nat → Nat} {n : Nat} {cs : Nat → va_E} {cI cB cJ cQ cW : ClassId} {ao sz : Nat} {o : Nat → Int64} {v : Int32} (hao : ao < sz) (hq0 : 0 < n) {fs : List Value} (e0 : cs 0 = .inr (4, fs)) (hM : kx_th l y_M_cycles w_M_cycles kx_r D kc (kt cI cB cJ cQ cW) ad n cs (.ref (ad 0) :: [.int v]) "java/lang/IllegalArgumentException") : Met l y_L_cycles w_L_cycles kL_r (va_Pc [.ref (ad 0), .int v, .ref ao] (kL_P D (kt cI cB cJ cQ cW) ad n cs cJ ao o sz)) (va_Qi (fun r (_ : Unit) => r = 1) (fun _ _ => True) (fun q => sz ≤ q)) 1 6 (fun q => sz ≤ q) := by
  refine va_MetW (cc := b_L_cycles) (maxL := 4) (ret := some .int) (hh := [(0, 9, 12, 13)]) (by decide) rfl ?_
  intro p e s m args below meth c s₁ B hml hv
  obtain ⟨rfl, hsz, ⟨hP, hK⟩, hPo, hSt⟩ := hv
  have hx := B.exec
  have hb := B.bytes
  have hr := B.returns
  have hts := atoms_spec (ws := w_L_cycles) B.pre
  have hg : ∀ w9 ∈ kg_G, w9.before [.ref (ad 0), .int v, .ref ao].toArray s = true := fun w9 h9 => hts w9 (List.mem_cons_of_mem _ h9)
  have hown : s.vm.findClass "LaneMachineLaw" = some m.cls := findClass_of_methodNamed B.named
  have hlocks := B.notSynchronized
  subst hsz
  have hl := lv_entry ([.ref (ad 0), .int v, .ref ao]) (n := 4) (Nat.le_of_ble_eq_true rfl)
  rw [lg_entry_eq]
  generalize (lg_sl ([.ref (ad 0), .int v, .ref ao]) ++ List.replicate (4 - (lg_sl ([.ref (ad 0), .int v, .ref ao])).length) Slot.unset).toArray = ls at hl ⊢
  have hl : lv_has ls 4 [(0, .ref (ad 0)), (1, .int v), (2, .ref ao)] := hl
  refine lv_aload_n hx hb d_L_cycles_0 rfl (lv_at hl 2 rfl) ?_
  refine lv_iconst (v := 0) hx hb d_L_cycles_1 (by decide) ?_
  refine lv_aload_n hx hb d_L_cycles_2 rfl (lv_at hl 0 rfl) ?_
  refine lv_iload_n hx hb d_L_cycles_3 rfl (lv_at hl 1 rfl) ?_
  obtain ⟨cellB, hcB, hoB, hclB⟩ := va_recv hK hP (q0 := 0) rfl ((kw_at hq0).trans (by rw [e0]))
  obtain ⟨m9, meth9, c9, hn9, hm9, hc9, -, -, htab, -, -, -⟩ := Cond.codeWith_spec (hts _ List.mem_cons_self)
  cases hn9.symm.trans B.named
  cases hm9.symm.trans B.method
  cases hc9.symm.trans (Stand.of_body B).code
  have htab := kL_t1 htab
  refine kx_call (Wd := 8) (hpc := 12) (As := [.int v]) (rest := [.int 0, .ref ao]) hx hb hown (hg _ kg_359) (hg _ kg_360) (hg _ kg_361) (hg _ kg_362) ⟨by decide, by decide⟩ (fun a9 U9 h9 => word_at h9 (Or.inl rfl) (hg _ kg_1)) hM kL_blindX rfl rfl (by decide) (by decide) (pay_in hg (kg_goodG kg_362)) List.mem_cons_self hcB hoB hclB (by rw [hml]; exact hl.1) (fun sig h9 => by have z9 : (parseMethodDescriptor y_M_cycles.desc).map (fun d => d.parameters.length) = some 1 := (by decide +kernel); (rw [h9] at z9); exact (Option.some.inj z9).symm) rfl (Nat.le_of_ble_eq_true rfl) d_L_cycles_4 (fun U hU hWm => ⟨rfl, ⟨by rw [hU]; exact hP, va_K.moved hWm.alike hK⟩, hSt.moved hWm (fun q cell hq _ => by rw [hU]; exact hq)⟩) ⟨by decide, by decide⟩ (fun x st t hst hal1 hal2 hT => ⟨fun T1 hT1 X1 => ?_, ?_⟩)
  · obtain ⟨hx1, ⟨ce, hce, hcls, hst1, hself⟩, hold⟩ := hT
    have hcls1 : s.vm.findClass "java/lang/IllegalArgumentException" = some ce.cls := by rw [← hal1.findClass]; exact hcls
    have hself1 : s.vm.assignable ce.cls ce.cls = true := by rw [← hal1.assignable]; exact hself
    have hex := kL_ex X1 hown (hg _ kg_253) hcls1
    exact kx_c1 X1 rfl hown htab rfl (by decide) (hg _ kg_253) (by rw [hT1]; exact hce) hst1 hex (fun k9 h9 => by cases hcls1.symm.trans h9; exact hself1)
  · obtain ⟨hx1, ⟨ce, hce, -⟩, hold⟩ := hT
    rw [hst] at hx1 hold
    refine lv_astore_n (lv' := [(3, .ref x), (0, .ref (ad 0)), (1, .int v), (2, .ref ao)]) hx hb d_L_cycles_12 rfl hl (by decide) rfl (fun ls hl => ?_)
    refine lv_iconst (v := 1) hx hb d_L_cycles_13 (by decide) ?_
    exact W.iret hx hb hr (fun t9 ht9 hW9 => ⟨⟨1, (), rfl, rfl, trivial⟩, by rw [ht9]; exact Nat.le_of_lt (Nat.lt_of_le_of_lt hx1 (Array.getElem?_eq_some_iff.mp hce).1), fun q h1 h2 => by rw [ht9]; exact hold q h1⟩) (fun q hq => by cases hq) d_L_cycles_14 hlocks

set_option maxRecDepth 100000 in
set_option maxHeartbeats 4000000 in
theorem c_L_poke_0 (l : Launch) {D : va_G} {ad : Nat → Nat} {n : Nat} {cs : Nat → va_E} {cI cB cJ cQ cW : ClassId} {ao sz : Nat} {o : Nat → Int64} {v w : Int32} (hJ : kw_J ad n) (hap : ∀ k, k < n → ad k ≠ ao) (hq0 : 0 < n) {fs : List Value} (e0 : cs 0 = .inr (4, fs)) {post : Int32 → (Nat → va_E) → Prop} (hM : kw_mi l y_M_poke w_M_poke (kr 1) D kc (kt cI cB cJ cQ cW) ad n cs (.ref (ad 0) :: [.int v, .int w]) post) : Met l y_L_poke w_L_poke kL_r (va_Pc [.ref (ad 0), .int v, .int w, .ref ao] (kL_P D (kt cI cB cJ cQ cW) ad n cs cJ ao o sz)) (va_Qi (fun r (u : Int32 × (Nat → va_E)) => r = 0 ∧ post u.1 u.2) (fun u t => kw_Pre D kc (kt cI cB cJ cQ cW) ad n u.2 t ∧ va_P D kc (kL_o cJ ao (vp_updL o 0 (kL_b u.1))) t.heap) (kL_A ad n ao)) 1 6 (kL_A ad n ao) := by
  refine va_MetW (cc := b_L_poke) (maxL := 5) (ret := some .int) (hh := [(0, 17, 20, 13)]) (by decide) rfl ?_
  intro p e s m args below meth c s₁ B hml hv
  obtain ⟨rfl, hsz, ⟨hP, hK⟩, hPo, hSt⟩ := hv
  have hx := B.exec
  have hb := B.bytes
  have hr := B.returns
  have hts := atoms_spec (ws := w_L_poke) B.pre
  have hg : ∀ w9 ∈ kg_G, w9.before [.ref (ad 0), .int v, .int w, .ref ao].toArray s = true := fun w9 h9 => hts w9 (List.mem_cons_of_mem _ h9)
  have hown : s.vm.findClass "LaneMachineLaw" = some m.cls := findClass_of_methodNamed B.named
  have hlocks := B.notSynchronized
  subst hsz
  have hl := lv_entry ([.ref (ad 0), .int v, .int w, .ref ao]) (n := 5) (Nat.le_of_ble_eq_true rfl)
  rw [lg_entry_eq]
  generalize (lg_sl ([.ref (ad 0), .int v, .int w, .ref ao]) ++ List.replicate (5 - (lg_sl ([.ref (ad 0), .int v, .int w, .ref ao])).length) Slot.unset).toArray = ls at hl ⊢
  have hl : lv_has ls 5 [(0, .ref (ad 0)), (1, .int v), (2, .int w), (3, .ref ao)] := hl
  have hS : va_S (kL_A ad n ao) s.heap s.heap [] := va_S.rf
  refine lv_aload_n hx hb d_L_poke_0 rfl (lv_at hl 3 rfl) ?_
  refine lv_iconst (v := 0) hx hb d_L_poke_1 (by decide) ?_
  refine lv_aload_n hx hb d_L_poke_2 rfl (lv_at hl 0 rfl) ?_
  refine lv_iload_n hx hb d_L_poke_3 rfl (lv_at hl 1 rfl) ?_
  refine lv_iload_n hx hb d_L_poke_4 rfl (lv_at hl 2 rfl) ?_
  refine va_calli (va_runV (As := [.int v, .int w]) (rest := [.int 0, .ref ao]) ⟨hx, hb, hml, hown, hg⟩ hM ⟨callB_of 2 hg (kg_goodG kg_568) rfl rfl rfl (hg _ kg_1) (hg _ kg_565) (by decide +kernel) ⟨by decide, by decide⟩, hg _ kg_566, hg _ kg_567⟩ ⟨kw_blind, va_recv hK hP rfl ((kw_at hq0).trans (by rw [e0])), fun U hU hWm => ⟨rfl, by rw [hU]; exact hP, va_K.moved hWm.alike hK⟩⟩ rfl rfl hl.1 rfl (lv_room (Nat.le_of_ble_eq_true rfl)) d_L_poke_5 ⟨Nat.zero_le _, Nat.zero_le _⟩) hS (fun q _ h => Or.inl h) (fun q h => Or.inl h) (fun r u t H locs ht hal hp hB hz hk hS => ?_)
  have hP1 : va_P D kc (kw_w ad u n) H := by rw [← ht]; exact hB.1
  have hPo1 := kL_keep hPo (kL_notA hap) hk
  have hP2 := va_P.app hP1 hPo1
  unfold kL_o at hP2
  rw [kw_push] at hP2
  have hJ1 := kL_J hJ hap
  have hA1 : ∀ k, k < n + 1 → (kL_A ad n ao) (va_up ad n ao k) := fun k hk9 => by
    by_cases h9 : k = n
    · subst h9; rw [va_up_self]; exact Or.inr rfl
    · rw [va_up_ne _ _ h9]; exact Or.inl ⟨k, by omega, rfl⟩
  refine lv_if_eq (tgt := 15) hx hb d_L_poke_8 (by decide) (fun h0 => ?_) (fun h0 => ?_)
  · refine lv_lconst (v := 0) hx hb d_L_poke_15 (by decide) ?_
    refine W.eq (g2 := F0 m 16 ls [.long 0, .int 0, .ref ((va_up ad n ao) (n))]) (by rw [va_up_self]) ?_
    refine kw_last hx hb hK hP2 hJ1 hA1 hS (n) 2 (by omega) (va_up_self _ _ _) rfl 0 rfl (by decide) (by omega) d_L_poke_16 (fun H locs hP hS => ?_)
    refine lv_goto (tgt := 24) hx hb d_L_poke_17 (by decide) ?_
    refine lv_iconst (v := 0) hx hb d_L_poke_24 (by decide) ?_
    refine W.widen (k := 1) (n := 6) (by omega) (by omega) ?_
    exact W.iret hx hb hr (fun t ht hW => by
      subst ht
      exact ⟨⟨0, (r, u), rfl, ⟨rfl, hp⟩, ⟨(kL_split hP).1, va_K.moved hW.alike hK⟩, by rw [kL_b, if_pos h0]; exact (kL_split hP).2⟩, hS.F rfl⟩) hS.2.2 d_L_poke_25 hlocks
  · refine lv_lconst (v := 1) hx hb d_L_poke_11 (by decide) ?_
    refine lv_goto (tgt := 16) hx hb d_L_poke_12 (by decide) ?_
    refine W.eq (g2 := F0 m 16 ls [.long 1, .int 0, .ref ((va_up ad n ao) (n))]) (by rw [va_up_self]) ?_
    refine kw_last hx hb hK hP2 hJ1 hA1 hS (n) 2 (by omega) (va_up_self _ _ _) rfl 0 rfl (by decide) (by omega) d_L_poke_16 (fun H locs hP hS => ?_)
    refine lv_goto (tgt := 24) hx hb d_L_poke_17 (by decide) ?_
    refine lv_iconst (v := 0) hx hb d_L_poke_24 (by decide) ?_
    refine W.widen (k := 1) (n := 6) (by omega) (by omega) ?_
    exact W.iret hx hb hr (fun t ht hW => by
      subst ht
      exact ⟨⟨0, (r, u), rfl, ⟨rfl, hp⟩, ⟨(kL_split hP).1, va_K.moved hW.alike hK⟩, by rw [kL_b, if_neg h0]; exact (kL_split hP).2⟩, hS.F rfl⟩) hS.2.2 d_L_poke_25 hlocks

set_option maxRecDepth 100000 in
set_option maxHeartbeats 4000000 in
theorem c_L_poke_A (l : Launch) {D : va_G} {ad : Nat → Nat} {n : Nat} {cs : Nat → va_E} {cI cB cJ cQ cW : ClassId} {ao sz : Nat} {o : Nat → Int64} {v w : Int32} (hao : ao < sz) (hq0 : 0 < n) {fs : List Value} (e0 : cs 0 = .inr (4, fs)) (hM : kx_th l y_M_poke w_M_poke kx_r D kc (kt cI cB cJ cQ cW) ad n cs (.ref (ad 0) :: [.int v, .int w]) "java/lang/IllegalArgumentException") : Met l y_L_poke w_L_poke kL_r (va_Pc [.ref (ad 0), .int v, .int w, .ref ao] (kL_P D (kt cI cB cJ cQ cW) ad n cs cJ ao o sz)) (va_Qi (fun r (_ : Unit) => r = 1) (fun _ _ => True) (fun q => sz ≤ q)) 1 6 (fun q => sz ≤ q) := by
  refine va_MetW (cc := b_L_poke) (maxL := 5) (ret := some .int) (hh := [(0, 17, 20, 13)]) (by decide) rfl ?_
  intro p e s m args below meth c s₁ B hml hv
  obtain ⟨rfl, hsz, ⟨hP, hK⟩, hPo, hSt⟩ := hv
  have hx := B.exec
  have hb := B.bytes
  have hr := B.returns
  have hts := atoms_spec (ws := w_L_poke) B.pre
  have hg : ∀ w9 ∈ kg_G, w9.before [.ref (ad 0), .int v, .int w, .ref ao].toArray s = true := fun w9 h9 => hts w9 (List.mem_cons_of_mem _ h9)
  have hown : s.vm.findClass "LaneMachineLaw" = some m.cls := findClass_of_methodNamed B.named
  have hlocks := B.notSynchronized
  subst hsz
  have hl := lv_entry ([.ref (ad 0), .int v, .int w, .ref ao]) (n := 5) (Nat.le_of_ble_eq_true rfl)
  rw [lg_entry_eq]
  generalize (lg_sl ([.ref (ad 0), .int v, .int w, .ref ao]) ++ List.replicate (5 - (lg_sl ([.ref (ad 0), .int v, .int w, .ref ao])).length) Slot.unset).toArray = ls at hl ⊢
  have hl : lv_has ls 5 [(0, .ref (ad 0)), (1, .int v), (2, .int w), (3, .ref ao)] := hl
  refine lv_aload_n hx hb d_L_poke_0 rfl (lv_at hl 3 rfl) ?_
  refine lv_iconst (v := 0) hx hb d_L_poke_1 (by decide) ?_
  refine lv_aload_n hx hb d_L_poke_2 rfl (lv_at hl 0 rfl) ?_
  refine lv_iload_n hx hb d_L_poke_3 rfl (lv_at hl 1 rfl) ?_
  refine lv_iload_n hx hb d_L_poke_4 rfl (lv_at hl 2 rfl) ?_
  obtain ⟨cellB, hcB, hoB, hclB⟩ := va_recv hK hP (q0 := 0) rfl ((kw_at hq0).trans (by rw [e0]))
  obtain ⟨m9, meth9, c9, hn9, hm9, hc9, -, -, htab, -, -, -⟩ := Cond.codeWith_spec (hts _ List.mem_cons_self)
  cases hn9.symm.trans B.named
  cases hm9.symm.trans B.method
  cases hc9.symm.trans (Stand.of_body B).code
  have htab := kL_t1 htab
  refine kx_call (Wd := 8) (hpc := 20) (As := [.int v, .int w]) (rest := [.int 0, .ref ao]) hx hb hown (hg _ kg_565) (hg _ kg_566) (hg _ kg_567) (hg _ kg_568) ⟨by decide, by decide⟩ (fun a9 U9 h9 => word_at h9 (Or.inl rfl) (hg _ kg_1)) hM kL_blindX rfl rfl (by decide) (by decide) (pay_in hg (kg_goodG kg_568)) List.mem_cons_self hcB hoB hclB (by rw [hml]; exact hl.1) (fun sig h9 => by have z9 : (parseMethodDescriptor y_M_poke.desc).map (fun d => d.parameters.length) = some 2 := (by decide +kernel); (rw [h9] at z9); exact (Option.some.inj z9).symm) rfl (Nat.le_of_ble_eq_true rfl) d_L_poke_5 (fun U hU hWm => ⟨rfl, ⟨by rw [hU]; exact hP, va_K.moved hWm.alike hK⟩, hSt.moved hWm (fun q cell hq _ => by rw [hU]; exact hq)⟩) ⟨by decide, by decide⟩ (fun x st t hst hal1 hal2 hT => ⟨fun T1 hT1 X1 => ?_, ?_⟩)
  · obtain ⟨hx1, ⟨ce, hce, hcls, hst1, hself⟩, hold⟩ := hT
    have hcls1 : s.vm.findClass "java/lang/IllegalArgumentException" = some ce.cls := by rw [← hal1.findClass]; exact hcls
    have hself1 : s.vm.assignable ce.cls ce.cls = true := by rw [← hal1.assignable]; exact hself
    have hex := kL_ex X1 hown (hg _ kg_253) hcls1
    exact kx_c1 X1 rfl hown htab rfl (by decide) (hg _ kg_253) (by rw [hT1]; exact hce) hst1 hex (fun k9 h9 => by cases hcls1.symm.trans h9; exact hself1)
  · obtain ⟨hx1, ⟨ce, hce, -⟩, hold⟩ := hT
    rw [hst] at hx1 hold
    refine lv_astore (lv' := [(4, .ref x), (0, .ref (ad 0)), (1, .int v), (2, .int w), (3, .ref ao)]) hx hb d_L_poke_20 hl (by decide) rfl (fun ls hl => ?_)
    refine lv_iconst (v := 1) hx hb d_L_poke_22 (by decide) ?_
    exact W.iret hx hb hr (fun t9 ht9 hW9 => ⟨⟨1, (), rfl, rfl, trivial⟩, by rw [ht9]; exact Nat.le_of_lt (Nat.lt_of_le_of_lt hx1 (Array.getElem?_eq_some_iff.mp hce).1), fun q h1 h2 => by rw [ht9]; exact hold q h1⟩) (fun q hq => by cases hq) d_L_poke_23 hlocks

set_option maxRecDepth 100000 in
set_option maxHeartbeats 4000000 in
theorem c_L_limit_0 (l : Launch) {D : va_G} {ad : Nat → Nat} {n : Nat} {cs : Nat → va_E} {cI cB cJ cQ cW : ClassId} {ao sz : Nat} {o : Nat → Int64} {v : Int32} (hJ : kw_J ad n) (hap : ∀ k, k < n → ad k ≠ ao) (hq0 : 0 < n) {fs : List Value} (e0 : cs 0 = .inr (4, fs)) {post : Int32 → (Nat → va_E) → Prop} (hM : kw_mi l y_M_limit w_M_limit (kr 0) D kc (kt cI cB cJ cQ cW) ad n cs (.ref (ad 0) :: [.int v]) post) : Met l y_L_limit w_L_limit kL_r (va_Pc [.ref (ad 0), .int v, .ref ao] (kL_P D (kt cI cB cJ cQ cW) ad n cs cJ ao o sz)) (va_Qi (fun r (u : Int32 × (Nat → va_E)) => r = 0 ∧ post u.1 u.2) (fun u t => kw_Pre D kc (kt cI cB cJ cQ cW) ad n u.2 t ∧ va_P D kc (kL_o cJ ao (vp_updL o 0 (kL_b u.1))) t.heap) (kL_A ad n ao)) 1 6 (kL_A ad n ao) := by
  refine va_MetW (cc := b_L_limit) (maxL := 4) (ret := some .int) (hh := [(0, 16, 19, 13), (0, 16, 22, 15)]) (by decide) rfl ?_
  intro p e s m args below meth c s₁ B hml hv
  obtain ⟨rfl, hsz, ⟨hP, hK⟩, hPo, hSt⟩ := hv
  have hx := B.exec
  have hb := B.bytes
  have hr := B.returns
  have hts := atoms_spec (ws := w_L_limit) B.pre
  have hg : ∀ w9 ∈ kg_G, w9.before [.ref (ad 0), .int v, .ref ao].toArray s = true := fun w9 h9 => hts w9 (List.mem_cons_of_mem _ h9)
  have hown : s.vm.findClass "LaneMachineLaw" = some m.cls := findClass_of_methodNamed B.named
  have hlocks := B.notSynchronized
  subst hsz
  have hl := lv_entry ([.ref (ad 0), .int v, .ref ao]) (n := 4) (Nat.le_of_ble_eq_true rfl)
  rw [lg_entry_eq]
  generalize (lg_sl ([.ref (ad 0), .int v, .ref ao]) ++ List.replicate (4 - (lg_sl ([.ref (ad 0), .int v, .ref ao])).length) Slot.unset).toArray = ls at hl ⊢
  have hl : lv_has ls 4 [(0, .ref (ad 0)), (1, .int v), (2, .ref ao)] := hl
  have hS : va_S (kL_A ad n ao) s.heap s.heap [] := va_S.rf
  refine lv_aload_n hx hb d_L_limit_0 rfl (lv_at hl 2 rfl) ?_
  refine lv_iconst (v := 0) hx hb d_L_limit_1 (by decide) ?_
  refine lv_aload_n hx hb d_L_limit_2 rfl (lv_at hl 0 rfl) ?_
  refine lv_iload_n hx hb d_L_limit_3 rfl (lv_at hl 1 rfl) ?_
  refine va_calli (va_runV (As := [.int v]) (rest := [.int 0, .ref ao]) ⟨hx, hb, hml, hown, hg⟩ hM ⟨callB_of 1 hg (kg_goodG kg_576) rfl rfl rfl (hg _ kg_1) (hg _ kg_573) (by decide +kernel) ⟨by decide, by decide⟩, hg _ kg_574, hg _ kg_575⟩ ⟨kw_blind, va_recv hK hP rfl ((kw_at hq0).trans (by rw [e0])), fun U hU hWm => ⟨rfl, by rw [hU]; exact hP, va_K.moved hWm.alike hK⟩⟩ rfl rfl hl.1 rfl (lv_room (Nat.le_of_ble_eq_true rfl)) d_L_limit_4 ⟨Nat.zero_le _, Nat.zero_le _⟩) hS (fun q _ h => Or.inl h) (fun q h => Or.inl h) (fun r u t H locs ht hal hp hB hz hk hS => ?_)
  have hP1 : va_P D kc (kw_w ad u n) H := by rw [← ht]; exact hB.1
  have hPo1 := kL_keep hPo (kL_notA hap) hk
  have hP2 := va_P.app hP1 hPo1
  unfold kL_o at hP2
  rw [kw_push] at hP2
  have hJ1 := kL_J hJ hap
  have hA1 : ∀ k, k < n + 1 → (kL_A ad n ao) (va_up ad n ao k) := fun k hk9 => by
    by_cases h9 : k = n
    · subst h9; rw [va_up_self]; exact Or.inr rfl
    · rw [va_up_ne _ _ h9]; exact Or.inl ⟨k, by omega, rfl⟩
  refine lv_if_eq (tgt := 14) hx hb d_L_limit_7 (by decide) (fun h0 => ?_) (fun h0 => ?_)
  · refine lv_lconst (v := 0) hx hb d_L_limit_14 (by decide) ?_
    refine W.eq (g2 := F0 m 15 ls [.long 0, .int 0, .ref ((va_up ad n ao) (n))]) (by rw [va_up_self]) ?_
    refine kw_last hx hb hK hP2 hJ1 hA1 hS (n) 2 (by omega) (va_up_self _ _ _) rfl 0 rfl (by decide) (by omega) d_L_limit_15 (fun H locs hP hS => ?_)
    refine lv_goto (tgt := 25) hx hb d_L_limit_16 (by decide) ?_
    refine lv_iconst (v := 0) hx hb d_L_limit_25 (by decide) ?_
    refine W.widen (k := 1) (n := 6) (by omega) (by omega) ?_
    exact W.iret hx hb hr (fun t ht hW => by
      subst ht
      exact ⟨⟨0, (r, u), rfl, ⟨rfl, hp⟩, ⟨(kL_split hP).1, va_K.moved hW.alike hK⟩, by rw [kL_b, if_pos h0]; exact (kL_split hP).2⟩, hS.F rfl⟩) hS.2.2 d_L_limit_26 hlocks
  · refine lv_lconst (v := 1) hx hb d_L_limit_10 (by decide) ?_
    refine lv_goto (tgt := 15) hx hb d_L_limit_11 (by decide) ?_
    refine W.eq (g2 := F0 m 15 ls [.long 1, .int 0, .ref ((va_up ad n ao) (n))]) (by rw [va_up_self]) ?_
    refine kw_last hx hb hK hP2 hJ1 hA1 hS (n) 2 (by omega) (va_up_self _ _ _) rfl 0 rfl (by decide) (by omega) d_L_limit_15 (fun H locs hP hS => ?_)
    refine lv_goto (tgt := 25) hx hb d_L_limit_16 (by decide) ?_
    refine lv_iconst (v := 0) hx hb d_L_limit_25 (by decide) ?_
    refine W.widen (k := 1) (n := 6) (by omega) (by omega) ?_
    exact W.iret hx hb hr (fun t ht hW => by
      subst ht
      exact ⟨⟨0, (r, u), rfl, ⟨rfl, hp⟩, ⟨(kL_split hP).1, va_K.moved hW.alike hK⟩, by rw [kL_b, if_neg h0]; exact (kL_split hP).2⟩, hS.F rfl⟩) hS.2.2 d_L_limit_26 hlocks

set_option maxRecDepth 100000 in
set_option maxHeartbeats 4000000 in
theorem c_L_limit_A (l : Launch) {D : va_G} {ad : Nat → Nat} {n : Nat} {cs : Nat → va_E} {cI cB cJ cQ cW : ClassId} {ao sz : Nat} {o : Nat → Int64} {v : Int32} (hao : ao < sz) (hq0 : 0 < n) {fs : List Value} (e0 : cs 0 = .inr (4, fs)) (hM : kx_th l y_M_limit w_M_limit kx_r D kc (kt cI cB cJ cQ cW) ad n cs (.ref (ad 0) :: [.int v]) "java/lang/IllegalArgumentException") : Met l y_L_limit w_L_limit kL_r (va_Pc [.ref (ad 0), .int v, .ref ao] (kL_P D (kt cI cB cJ cQ cW) ad n cs cJ ao o sz)) (va_Qi (fun r (_ : Unit) => r = 1) (fun _ _ => True) (fun q => sz ≤ q)) 1 6 (fun q => sz ≤ q) := by
  refine va_MetW (cc := b_L_limit) (maxL := 4) (ret := some .int) (hh := [(0, 16, 19, 13), (0, 16, 22, 15)]) (by decide) rfl ?_
  intro p e s m args below meth c s₁ B hml hv
  obtain ⟨rfl, hsz, ⟨hP, hK⟩, hPo, hSt⟩ := hv
  have hx := B.exec
  have hb := B.bytes
  have hr := B.returns
  have hts := atoms_spec (ws := w_L_limit) B.pre
  have hg : ∀ w9 ∈ kg_G, w9.before [.ref (ad 0), .int v, .ref ao].toArray s = true := fun w9 h9 => hts w9 (List.mem_cons_of_mem _ h9)
  have hown : s.vm.findClass "LaneMachineLaw" = some m.cls := findClass_of_methodNamed B.named
  have hlocks := B.notSynchronized
  subst hsz
  have hl := lv_entry ([.ref (ad 0), .int v, .ref ao]) (n := 4) (Nat.le_of_ble_eq_true rfl)
  rw [lg_entry_eq]
  generalize (lg_sl ([.ref (ad 0), .int v, .ref ao]) ++ List.replicate (4 - (lg_sl ([.ref (ad 0), .int v, .ref ao])).length) Slot.unset).toArray = ls at hl ⊢
  have hl : lv_has ls 4 [(0, .ref (ad 0)), (1, .int v), (2, .ref ao)] := hl
  refine lv_aload_n hx hb d_L_limit_0 rfl (lv_at hl 2 rfl) ?_
  refine lv_iconst (v := 0) hx hb d_L_limit_1 (by decide) ?_
  refine lv_aload_n hx hb d_L_limit_2 rfl (lv_at hl 0 rfl) ?_
  refine lv_iload_n hx hb d_L_limit_3 rfl (lv_at hl 1 rfl) ?_
  obtain ⟨cellB, hcB, hoB, hclB⟩ := va_recv hK hP (q0 := 0) rfl ((kw_at hq0).trans (by rw [e0]))
  obtain ⟨m9, meth9, c9, hn9, hm9, hc9, -, -, htab, -, -, -⟩ := Cond.codeWith_spec (hts _ List.mem_cons_self)
  cases hn9.symm.trans B.named
  cases hm9.symm.trans B.method
  cases hc9.symm.trans (Stand.of_body B).code
  have htab := kL_t2 htab
  refine kx_call (Wd := 8) (hpc := 19) (As := [.int v]) (rest := [.int 0, .ref ao]) hx hb hown (hg _ kg_573) (hg _ kg_574) (hg _ kg_575) (hg _ kg_576) ⟨by decide, by decide⟩ (fun a9 U9 h9 => word_at h9 (Or.inl rfl) (hg _ kg_1)) hM kL_blindX rfl rfl (by decide) (by decide) (pay_in hg (kg_goodG kg_576)) List.mem_cons_self hcB hoB hclB (by rw [hml]; exact hl.1) (fun sig h9 => by have z9 : (parseMethodDescriptor y_M_limit.desc).map (fun d => d.parameters.length) = some 1 := (by decide +kernel); (rw [h9] at z9); exact (Option.some.inj z9).symm) rfl (Nat.le_of_ble_eq_true rfl) d_L_limit_4 (fun U hU hWm => ⟨rfl, ⟨by rw [hU]; exact hP, va_K.moved hWm.alike hK⟩, hSt.moved hWm (fun q cell hq _ => by rw [hU]; exact hq)⟩) ⟨by decide, by decide⟩ (fun x st t hst hal1 hal2 hT => ⟨fun T1 hT1 X1 => ?_, ?_⟩)
  · obtain ⟨hx1, ⟨ce, hce, hcls, hst1, hself⟩, hold⟩ := hT
    have hcls1 : s.vm.findClass "java/lang/IllegalArgumentException" = some ce.cls := by rw [← hal1.findClass]; exact hcls
    have hself1 : s.vm.assignable ce.cls ce.cls = true := by rw [← hal1.assignable]; exact hself
    have hex := kL_ex X1 hown (hg _ kg_253) hcls1
    exact kx_c1 X1 rfl hown htab rfl (by decide) (hg _ kg_253) (by rw [hT1]; exact hce) hst1 hex (fun k9 h9 => by cases hcls1.symm.trans h9; exact hself1)
  · obtain ⟨hx1, ⟨ce, hce, -⟩, hold⟩ := hT
    rw [hst] at hx1 hold
    refine lv_astore_n (lv' := [(3, .ref x), (0, .ref (ad 0)), (1, .int v), (2, .ref ao)]) hx hb d_L_limit_19 rfl hl (by decide) rfl (fun ls hl => ?_)
    refine lv_iconst (v := 1) hx hb d_L_limit_20 (by decide) ?_
    exact W.iret hx hb hr (fun t9 ht9 hW9 => ⟨⟨1, (), rfl, rfl, trivial⟩, by rw [ht9]; exact Nat.le_of_lt (Nat.lt_of_le_of_lt hx1 (Array.getElem?_eq_some_iff.mp hce).1), fun q h1 h2 => by rw [ht9]; exact hold q h1⟩) (fun q hq => by cases hq) d_L_limit_21 hlocks

set_option maxRecDepth 100000 in
set_option maxHeartbeats 4000000 in
theorem c_L_limit_S (l : Launch) {D : va_G} {ad : Nat → Nat} {n : Nat} {cs : Nat → va_E} {cI cB cJ cQ cW : ClassId} {ao sz : Nat} {o : Nat → Int64} {v : Int32} (hao : ao < sz) (hq0 : 0 < n) {fs : List Value} (e0 : cs 0 = .inr (4, fs)) (hM : kx_th l y_M_limit w_M_limit kx_r D kc (kt cI cB cJ cQ cW) ad n cs (.ref (ad 0) :: [.int v]) "java/lang/IllegalStateException") : Met l y_L_limit w_L_limit kL_r (va_Pc [.ref (ad 0), .int v, .ref ao] (kL_P D (kt cI cB cJ cQ cW) ad n cs cJ ao o sz)) (va_Qi (fun r (_ : Unit) => r = 2) (fun _ _ => True) (fun q => sz ≤ q)) 1 6 (fun q => sz ≤ q) := by
  refine va_MetW (cc := b_L_limit) (maxL := 4) (ret := some .int) (hh := [(0, 16, 19, 13), (0, 16, 22, 15)]) (by decide) rfl ?_
  intro p e s m args below meth c s₁ B hml hv
  obtain ⟨rfl, hsz, ⟨hP, hK⟩, hPo, hSt⟩ := hv
  have hx := B.exec
  have hb := B.bytes
  have hr := B.returns
  have hts := atoms_spec (ws := w_L_limit) B.pre
  have hg : ∀ w9 ∈ kg_G, w9.before [.ref (ad 0), .int v, .ref ao].toArray s = true := fun w9 h9 => hts w9 (List.mem_cons_of_mem _ h9)
  have hown : s.vm.findClass "LaneMachineLaw" = some m.cls := findClass_of_methodNamed B.named
  have hlocks := B.notSynchronized
  subst hsz
  have hl := lv_entry ([.ref (ad 0), .int v, .ref ao]) (n := 4) (Nat.le_of_ble_eq_true rfl)
  rw [lg_entry_eq]
  generalize (lg_sl ([.ref (ad 0), .int v, .ref ao]) ++ List.replicate (4 - (lg_sl ([.ref (ad 0), .int v, .ref ao])).length) Slot.unset).toArray = ls at hl ⊢
  have hl : lv_has ls 4 [(0, .ref (ad 0)), (1, .int v), (2, .ref ao)] := hl
  refine lv_aload_n hx hb d_L_limit_0 rfl (lv_at hl 2 rfl) ?_
  refine lv_iconst (v := 0) hx hb d_L_limit_1 (by decide) ?_
  refine lv_aload_n hx hb d_L_limit_2 rfl (lv_at hl 0 rfl) ?_
  refine lv_iload_n hx hb d_L_limit_3 rfl (lv_at hl 1 rfl) ?_
  obtain ⟨cellB, hcB, hoB, hclB⟩ := va_recv hK hP (q0 := 0) rfl ((kw_at hq0).trans (by rw [e0]))
  obtain ⟨m9, meth9, c9, hn9, hm9, hc9, -, -, htab, -, -, -⟩ := Cond.codeWith_spec (hts _ List.mem_cons_self)
  cases hn9.symm.trans B.named
  cases hm9.symm.trans B.method
  cases hc9.symm.trans (Stand.of_body B).code
  have htab := kL_t2 htab
  refine kx_call (Wd := 8) (hpc := 22) (As := [.int v]) (rest := [.int 0, .ref ao]) hx hb hown (hg _ kg_573) (hg _ kg_574) (hg _ kg_575) (hg _ kg_576) ⟨by decide, by decide⟩ (fun a9 U9 h9 => word_at h9 (Or.inl rfl) (hg _ kg_1)) hM kL_blindX rfl rfl (by decide) (by decide) (pay_in hg (kg_goodG kg_576)) List.mem_cons_self hcB hoB hclB (by rw [hml]; exact hl.1) (fun sig h9 => by have z9 : (parseMethodDescriptor y_M_limit.desc).map (fun d => d.parameters.length) = some 1 := (by decide +kernel); (rw [h9] at z9); exact (Option.some.inj z9).symm) rfl (Nat.le_of_ble_eq_true rfl) d_L_limit_4 (fun U hU hWm => ⟨rfl, ⟨by rw [hU]; exact hP, va_K.moved hWm.alike hK⟩, hSt.moved hWm (fun q cell hq _ => by rw [hU]; exact hq)⟩) ⟨by decide, by decide⟩ (fun x st t hst hal1 hal2 hT => ⟨fun T1 hT1 X1 => ?_, ?_⟩)
  · obtain ⟨hx1, ⟨ce, hce, hcls, hst1, hself⟩, hold⟩ := hT
    have hcls1 : s.vm.findClass "java/lang/IllegalStateException" = some ce.cls := by rw [← hal1.findClass]; exact hcls
    have hself1 : s.vm.assignable ce.cls ce.cls = true := by rw [← hal1.assignable]; exact hself
    have hex := kL_ex X1 hown (hg _ kg_254) hcls1
    exact kx_c2 X1 rfl hown htab rfl (by decide) (hg _ kg_253) rfl (by decide) (hg _ kg_254) (by rw [hT1]; exact hce) hst1 hex (fun k9 h9 => kL_not hSt hcls1 h9) (fun k9 h9 => by cases hcls1.symm.trans h9; exact hself1)
  · obtain ⟨hx1, ⟨ce, hce, -⟩, hold⟩ := hT
    rw [hst] at hx1 hold
    refine lv_astore_n (lv' := [(3, .ref x), (0, .ref (ad 0)), (1, .int v), (2, .ref ao)]) hx hb d_L_limit_22 rfl hl (by decide) rfl (fun ls hl => ?_)
    refine lv_iconst (v := 2) hx hb d_L_limit_23 (by decide) ?_
    exact W.iret hx hb hr (fun t9 ht9 hW9 => ⟨⟨2, (), rfl, rfl, trivial⟩, by rw [ht9]; exact Nat.le_of_lt (Nat.lt_of_le_of_lt hx1 (Array.getElem?_eq_some_iff.mp hce).1), fun q h1 h2 => by rw [ht9]; exact hold q h1⟩) (fun q hq => by cases hq) d_L_limit_24 hlocks

set_option maxRecDepth 100000 in
set_option maxHeartbeats 4000000 in
theorem c_L_put_0 (l : Launch) {D : va_G} {ad : Nat → Nat} {n : Nat} {cs : Nat → va_E} {cI cB cJ cQ cW : ClassId} {ao sz : Nat} {o : Nat → Int64} {v1 v2 v3 v4 v5 v6 : Int32} (hJ : kw_J ad n) (hap : ∀ k, k < n → ad k ≠ ao) (hao : ao < sz) (hq0 : 0 < n) {fs : List Value} (e0 : cs 0 = .inr (4, fs)) {post : Int32 → (Nat → Nat) × (Nat → va_E) → Prop} (hpost : ∀ r u, post r u → kw_J u.1 (n + 1) ∧ (∀ k, k < n → u.1 k = ad k) ∧ sz ≤ u.1 n) (hM : Met l y_M_put w_M_put { frames := 2, cells := 1, slots := 6, locals := 80 } (va_Pc (.ref (ad 0) :: [.int v1, .int v2, .int v3, .int v4, .int v5, .int v6]) (fun U => U.heap.size = sz ∧ kw_Pre D kc (kt cI cB cJ cQ cW) ad n cs U)) (va_Qi post (fun u t => kw_Pre D kc (kt cI cB cJ cQ cW) u.1 (n + 1) u.2 t) (kb_A ad n sz)) 1 6 (kb_A ad n sz)) : Met l y_L_put w_L_put kL_r (va_Pc [.ref (ad 0), .int v1, .int v2, .int v3, .int v4, .int v5, .int v6, .ref ao] (kL_P D (kt cI cB cJ cQ cW) ad n cs cJ ao o sz)) (va_Qi (fun r (u : Int32 × (Nat → Nat) × (Nat → va_E)) => r = 0 ∧ post u.1 u.2) (fun u t => kw_Pre D kc (kt cI cB cJ cQ cW) u.2.1 (n + 1) u.2.2 t ∧ va_P D kc (kL_o cJ ao (vp_updL o 0 u.1.toInt64)) t.heap) (kL_A2 ad n ao sz)) 1 6 (kL_A2 ad n ao sz) := by
  refine va_MetW (cc := b_L_put) (maxL := 9) (ret := some .int) (hh := [(0, 18, 21, 13), (0, 18, 25, 15)]) (by decide) rfl ?_
  intro p e s m args below meth c s₁ B hml hv
  obtain ⟨rfl, hsz, ⟨hP, hK⟩, hPo, hSt⟩ := hv
  have hx := B.exec
  have hb := B.bytes
  have hr := B.returns
  have hts := atoms_spec (ws := w_L_put) B.pre
  have hg : ∀ w9 ∈ kg_G, w9.before [.ref (ad 0), .int v1, .int v2, .int v3, .int v4, .int v5, .int v6, .ref ao].toArray s = true := fun w9 h9 => hts w9 (List.mem_cons_of_mem _ h9)
  have hown : s.vm.findClass "LaneMachineLaw" = some m.cls := findClass_of_methodNamed B.named
  have hlocks := B.notSynchronized
  subst hsz
  have hl := lv_entry ([.ref (ad 0), .int v1, .int v2, .int v3, .int v4, .int v5, .int v6, .ref ao]) (n := 9) (Nat.le_of_ble_eq_true rfl)
  rw [lg_entry_eq]
  generalize (lg_sl ([.ref (ad 0), .int v1, .int v2, .int v3, .int v4, .int v5, .int v6, .ref ao]) ++ List.replicate (9 - (lg_sl ([.ref (ad 0), .int v1, .int v2, .int v3, .int v4, .int v5, .int v6, .ref ao])).length) Slot.unset).toArray = ls at hl ⊢
  have hl : lv_has ls 9 [(0, .ref (ad 0)), (1, .int v1), (2, .int v2), (3, .int v3), (4, .int v4), (5, .int v5), (6, .int v6), (7, .ref ao)] := hl
  have hS : va_S (kL_A2 ad n ao s.heap.size) s.heap s.heap [] := va_S.rf
  refine lv_aload hx hb d_L_put_0 (lv_at hl 7 rfl) ?_
  refine lv_iconst (v := 0) hx hb d_L_put_2 (by decide) ?_
  refine lv_aload_n hx hb d_L_put_3 rfl (lv_at hl 0 rfl) ?_
  refine lv_iload_n hx hb d_L_put_4 rfl (lv_at hl 1 rfl) ?_
  refine lv_iload_n hx hb d_L_put_5 rfl (lv_at hl 2 rfl) ?_
  refine lv_iload_n hx hb d_L_put_6 rfl (lv_at hl 3 rfl) ?_
  refine lv_iload hx hb d_L_put_7 (lv_at hl 4 rfl) ?_
  refine lv_iload hx hb d_L_put_9 (lv_at hl 5 rfl) ?_
  refine lv_iload hx hb d_L_put_11 (lv_at hl 6 rfl) ?_
  refine va_calli (va_runV (As := [.int v1, .int v2, .int v3, .int v4, .int v5, .int v6]) (rest := [.int 0, .ref ao]) ⟨hx, hb, hml, hown, hg⟩ hM ⟨callB_of 6 hg (kg_goodG kg_258) rfl rfl rfl (hg _ kg_1) (hg _ kg_255) (by decide +kernel) ⟨by decide, by decide⟩, hg _ kg_256, hg _ kg_257⟩ ⟨kL_blindP, va_recv hK hP rfl ((kw_at hq0).trans (by rw [e0])), fun U hU hWm => ⟨rfl, by rw [hU], by rw [hU]; exact hP, va_K.moved hWm.alike hK⟩⟩ rfl rfl hl.1 rfl (lv_room (Nat.le_of_ble_eq_true rfl)) d_L_put_13 ⟨Nat.le_of_ble_eq_true rfl, Nat.le_of_ble_eq_true rfl⟩) hS (fun q _ h => h.elim (fun h => Or.inl h) (fun h => Or.inr (Or.inr h))) (fun q h => h.elim (fun h => Or.inl h) (fun h => Or.inr (Or.inr h))) (fun r u t H locs ht hal hp hB hz hk hS => ?_)
  obtain ⟨hJu, hadu, hszu⟩ := hpost r u hp
  have hapu : ∀ k, k < n + 1 → u.1 k ≠ ao := fun k hk9 => by
    by_cases h9 : k = n
    · subst h9; omega
    · rw [hadu k (by omega)]; exact hap k (by omega)
  have hP1 : va_P D kc (kw_w u.1 u.2 (n + 1)) H := by rw [← ht]; exact hB.1
  have hPo1 := kL_keep hPo (A1 := kb_A ad n s.heap.size) (fun h => h.elim (kL_notA hap) (fun h => absurd hao (Nat.not_lt.mpr h))) hk
  have hP2 := va_P.app hP1 hPo1
  unfold kL_o at hP2
  rw [kw_push] at hP2
  have hJ1 := kL_J hJu hapu
  have hA1 : ∀ k, k < n + 1 + 1 → kL_A2 ad n ao s.heap.size (va_up u.1 (n + 1) ao k) := fun k hk9 => by
    by_cases h9 : k = n + 1
    · subst h9; rw [va_up_self]; exact Or.inr (Or.inl rfl)
    · rw [va_up_ne _ _ h9]
      by_cases h8 : k = n
      · subst h8; exact Or.inr (Or.inr hszu)
      · rw [hadu k (by omega)]; exact Or.inl ⟨k, by omega, rfl⟩
  refine lv_i2l hx hb d_L_put_16 rfl ?_
  refine W.eq (g2 := F0 m 17 ls [.long r.toInt64, .int 0, .ref ((va_up u.1 (n + 1) ao) (n + 1))]) (by rw [va_up_self]) ?_
  refine kw_last hx hb hK hP2 hJ1 hA1 hS (n + 1) 2 (by omega) (va_up_self _ _ _) rfl 0 rfl (by decide) (by omega) d_L_put_17 (fun H locs hP hS => ?_)
  refine lv_goto (tgt := 29) hx hb d_L_put_18 (by decide) ?_
  refine lv_iconst (v := 0) hx hb d_L_put_29 (by decide) ?_
  exact W.iret hx hb hr (fun t ht hW => by
    subst ht
    exact ⟨⟨0, (r, u), rfl, ⟨rfl, hp⟩, ⟨(kL_split hP).1, va_K.moved hW.alike hK⟩, (kL_split hP).2⟩, hS.F rfl⟩) hS.2.2 d_L_put_30 hlocks

set_option maxRecDepth 100000 in
set_option maxHeartbeats 4000000 in
theorem c_L_put_A (l : Launch) {D : va_G} {ad : Nat → Nat} {n : Nat} {cs : Nat → va_E} {cI cB cJ cQ cW : ClassId} {ao sz : Nat} {o : Nat → Int64} {v1 v2 v3 v4 v5 v6 : Int32} (hao : ao < sz) (hq0 : 0 < n) {fs : List Value} (e0 : cs 0 = .inr (4, fs)) (hM : kx_th l y_M_put w_M_put kx_r D kc (kt cI cB cJ cQ cW) ad n cs (.ref (ad 0) :: [.int v1, .int v2, .int v3, .int v4, .int v5, .int v6]) "java/lang/IllegalArgumentException") : Met l y_L_put w_L_put kL_r (va_Pc [.ref (ad 0), .int v1, .int v2, .int v3, .int v4, .int v5, .int v6, .ref ao] (kL_P D (kt cI cB cJ cQ cW) ad n cs cJ ao o sz)) (va_Qi (fun r (_ : Unit) => r = 1) (fun _ _ => True) (fun q => sz ≤ q)) 1 6 (fun q => sz ≤ q) := by
  refine va_MetW (cc := b_L_put) (maxL := 9) (ret := some .int) (hh := [(0, 18, 21, 13), (0, 18, 25, 15)]) (by decide) rfl ?_
  intro p e s m args below meth c s₁ B hml hv
  obtain ⟨rfl, hsz, ⟨hP, hK⟩, hPo, hSt⟩ := hv
  have hx := B.exec
  have hb := B.bytes
  have hr := B.returns
  have hts := atoms_spec (ws := w_L_put) B.pre
  have hg : ∀ w9 ∈ kg_G, w9.before [.ref (ad 0), .int v1, .int v2, .int v3, .int v4, .int v5, .int v6, .ref ao].toArray s = true := fun w9 h9 => hts w9 (List.mem_cons_of_mem _ h9)
  have hown : s.vm.findClass "LaneMachineLaw" = some m.cls := findClass_of_methodNamed B.named
  have hlocks := B.notSynchronized
  subst hsz
  have hl := lv_entry ([.ref (ad 0), .int v1, .int v2, .int v3, .int v4, .int v5, .int v6, .ref ao]) (n := 9) (Nat.le_of_ble_eq_true rfl)
  rw [lg_entry_eq]
  generalize (lg_sl ([.ref (ad 0), .int v1, .int v2, .int v3, .int v4, .int v5, .int v6, .ref ao]) ++ List.replicate (9 - (lg_sl ([.ref (ad 0), .int v1, .int v2, .int v3, .int v4, .int v5, .int v6, .ref ao])).length) Slot.unset).toArray = ls at hl ⊢
  have hl : lv_has ls 9 [(0, .ref (ad 0)), (1, .int v1), (2, .int v2), (3, .int v3), (4, .int v4), (5, .int v5), (6, .int v6), (7, .ref ao)] := hl
  refine lv_aload hx hb d_L_put_0 (lv_at hl 7 rfl) ?_
  refine lv_iconst (v := 0) hx hb d_L_put_2 (by decide) ?_
  refine lv_aload_n hx hb d_L_put_3 rfl (lv_at hl 0 rfl) ?_
  refine lv_iload_n hx hb d_L_put_4 rfl (lv_at hl 1 rfl) ?_
  refine lv_iload_n hx hb d_L_put_5 rfl (lv_at hl 2 rfl) ?_
  refine lv_iload_n hx hb d_L_put_6 rfl (lv_at hl 3 rfl) ?_
  refine lv_iload hx hb d_L_put_7 (lv_at hl 4 rfl) ?_
  refine lv_iload hx hb d_L_put_9 (lv_at hl 5 rfl) ?_
  refine lv_iload hx hb d_L_put_11 (lv_at hl 6 rfl) ?_
  obtain ⟨cellB, hcB, hoB, hclB⟩ := va_recv hK hP (q0 := 0) rfl ((kw_at hq0).trans (by rw [e0]))
  obtain ⟨m9, meth9, c9, hn9, hm9, hc9, -, -, htab, -, -, -⟩ := Cond.codeWith_spec (hts _ List.mem_cons_self)
  cases hn9.symm.trans B.named
  cases hm9.symm.trans B.method
  cases hc9.symm.trans (Stand.of_body B).code
  have htab := kL_t2 htab
  refine kx_call (Wd := 8) (hpc := 21) (As := [.int v1, .int v2, .int v3, .int v4, .int v5, .int v6]) (rest := [.int 0, .ref ao]) hx hb hown (hg _ kg_255) (hg _ kg_256) (hg _ kg_257) (hg _ kg_258) ⟨by decide, by decide⟩ (fun a9 U9 h9 => word_at h9 (Or.inl rfl) (hg _ kg_1)) hM kL_blindX rfl rfl (by decide) (by decide) (pay_in hg (kg_goodG kg_258)) List.mem_cons_self hcB hoB hclB (by rw [hml]; exact hl.1) (fun sig h9 => by have z9 : (parseMethodDescriptor y_M_put.desc).map (fun d => d.parameters.length) = some 6 := (by decide +kernel); (rw [h9] at z9); exact (Option.some.inj z9).symm) rfl (Nat.le_of_ble_eq_true rfl) d_L_put_13 (fun U hU hWm => ⟨rfl, ⟨by rw [hU]; exact hP, va_K.moved hWm.alike hK⟩, hSt.moved hWm (fun q cell hq _ => by rw [hU]; exact hq)⟩) ⟨by decide, by decide⟩ (fun x st t hst hal1 hal2 hT => ⟨fun T1 hT1 X1 => ?_, ?_⟩)
  · obtain ⟨hx1, ⟨ce, hce, hcls, hst1, hself⟩, hold⟩ := hT
    have hcls1 : s.vm.findClass "java/lang/IllegalArgumentException" = some ce.cls := by rw [← hal1.findClass]; exact hcls
    have hself1 : s.vm.assignable ce.cls ce.cls = true := by rw [← hal1.assignable]; exact hself
    have hex := kL_ex X1 hown (hg _ kg_253) hcls1
    exact kx_c1 X1 rfl hown htab rfl (by decide) (hg _ kg_253) (by rw [hT1]; exact hce) hst1 hex (fun k9 h9 => by cases hcls1.symm.trans h9; exact hself1)
  · obtain ⟨hx1, ⟨ce, hce, -⟩, hold⟩ := hT
    rw [hst] at hx1 hold
    refine lv_astore (lv' := [(8, .ref x), (0, .ref (ad 0)), (1, .int v1), (2, .int v2), (3, .int v3), (4, .int v4), (5, .int v5), (6, .int v6), (7, .ref ao)]) hx hb d_L_put_21 hl (by decide) rfl (fun ls hl => ?_)
    refine lv_iconst (v := 1) hx hb d_L_put_23 (by decide) ?_
    exact W.iret hx hb hr (fun t9 ht9 hW9 => ⟨⟨1, (), rfl, rfl, trivial⟩, by rw [ht9]; exact Nat.le_of_lt (Nat.lt_of_le_of_lt hx1 (Array.getElem?_eq_some_iff.mp hce).1), fun q h1 h2 => by rw [ht9]; exact hold q h1⟩) (fun q hq => by cases hq) d_L_put_24 hlocks

set_option maxRecDepth 100000 in
set_option maxHeartbeats 4000000 in
theorem c_L_put_S (l : Launch) {D : va_G} {ad : Nat → Nat} {n : Nat} {cs : Nat → va_E} {cI cB cJ cQ cW : ClassId} {ao sz : Nat} {o : Nat → Int64} {v1 v2 v3 v4 v5 v6 : Int32} (hao : ao < sz) (hq0 : 0 < n) {fs : List Value} (e0 : cs 0 = .inr (4, fs)) (hM : kx_th l y_M_put w_M_put kx_r D kc (kt cI cB cJ cQ cW) ad n cs (.ref (ad 0) :: [.int v1, .int v2, .int v3, .int v4, .int v5, .int v6]) "java/lang/IllegalStateException") : Met l y_L_put w_L_put kL_r (va_Pc [.ref (ad 0), .int v1, .int v2, .int v3, .int v4, .int v5, .int v6, .ref ao] (kL_P D (kt cI cB cJ cQ cW) ad n cs cJ ao o sz)) (va_Qi (fun r (_ : Unit) => r = 2) (fun _ _ => True) (fun q => sz ≤ q)) 1 6 (fun q => sz ≤ q) := by
  refine va_MetW (cc := b_L_put) (maxL := 9) (ret := some .int) (hh := [(0, 18, 21, 13), (0, 18, 25, 15)]) (by decide) rfl ?_
  intro p e s m args below meth c s₁ B hml hv
  obtain ⟨rfl, hsz, ⟨hP, hK⟩, hPo, hSt⟩ := hv
  have hx := B.exec
  have hb := B.bytes
  have hr := B.returns
  have hts := atoms_spec (ws := w_L_put) B.pre
  have hg : ∀ w9 ∈ kg_G, w9.before [.ref (ad 0), .int v1, .int v2, .int v3, .int v4, .int v5, .int v6, .ref ao].toArray s = true := fun w9 h9 => hts w9 (List.mem_cons_of_mem _ h9)
  have hown : s.vm.findClass "LaneMachineLaw" = some m.cls := findClass_of_methodNamed B.named
  have hlocks := B.notSynchronized
  subst hsz
  have hl := lv_entry ([.ref (ad 0), .int v1, .int v2, .int v3, .int v4, .int v5, .int v6, .ref ao]) (n := 9) (Nat.le_of_ble_eq_true rfl)
  rw [lg_entry_eq]
  generalize (lg_sl ([.ref (ad 0), .int v1, .int v2, .int v3, .int v4, .int v5, .int v6, .ref ao]) ++ List.replicate (9 - (lg_sl ([.ref (ad 0), .int v1, .int v2, .int v3, .int v4, .int v5, .int v6, .ref ao])).length) Slot.unset).toArray = ls at hl ⊢
  have hl : lv_has ls 9 [(0, .ref (ad 0)), (1, .int v1), (2, .int v2), (3, .int v3), (4, .int v4), (5, .int v5), (6, .int v6), (7, .ref ao)] := hl
  refine lv_aload hx hb d_L_put_0 (lv_at hl 7 rfl) ?_
  refine lv_iconst (v := 0) hx hb d_L_put_2 (by decide) ?_
  refine lv_aload_n hx hb d_L_put_3 rfl (lv_at hl 0 rfl) ?_
  refine lv_iload_n hx hb d_L_put_4 rfl (lv_at hl 1 rfl) ?_
  refine lv_iload_n hx hb d_L_put_5 rfl (lv_at hl 2 rfl) ?_
  refine lv_iload_n hx hb d_L_put_6 rfl (lv_at hl 3 rfl) ?_
  refine lv_iload hx hb d_L_put_7 (lv_at hl 4 rfl) ?_
  refine lv_iload hx hb d_L_put_9 (lv_at hl 5 rfl) ?_
  refine lv_iload hx hb d_L_put_11 (lv_at hl 6 rfl) ?_
  obtain ⟨cellB, hcB, hoB, hclB⟩ := va_recv hK hP (q0 := 0) rfl ((kw_at hq0).trans (by rw [e0]))
  obtain ⟨m9, meth9, c9, hn9, hm9, hc9, -, -, htab, -, -, -⟩ := Cond.codeWith_spec (hts _ List.mem_cons_self)
  cases hn9.symm.trans B.named
  cases hm9.symm.trans B.method
  cases hc9.symm.trans (Stand.of_body B).code
  have htab := kL_t2 htab
  refine kx_call (Wd := 8) (hpc := 25) (As := [.int v1, .int v2, .int v3, .int v4, .int v5, .int v6]) (rest := [.int 0, .ref ao]) hx hb hown (hg _ kg_255) (hg _ kg_256) (hg _ kg_257) (hg _ kg_258) ⟨by decide, by decide⟩ (fun a9 U9 h9 => word_at h9 (Or.inl rfl) (hg _ kg_1)) hM kL_blindX rfl rfl (by decide) (by decide) (pay_in hg (kg_goodG kg_258)) List.mem_cons_self hcB hoB hclB (by rw [hml]; exact hl.1) (fun sig h9 => by have z9 : (parseMethodDescriptor y_M_put.desc).map (fun d => d.parameters.length) = some 6 := (by decide +kernel); (rw [h9] at z9); exact (Option.some.inj z9).symm) rfl (Nat.le_of_ble_eq_true rfl) d_L_put_13 (fun U hU hWm => ⟨rfl, ⟨by rw [hU]; exact hP, va_K.moved hWm.alike hK⟩, hSt.moved hWm (fun q cell hq _ => by rw [hU]; exact hq)⟩) ⟨by decide, by decide⟩ (fun x st t hst hal1 hal2 hT => ⟨fun T1 hT1 X1 => ?_, ?_⟩)
  · obtain ⟨hx1, ⟨ce, hce, hcls, hst1, hself⟩, hold⟩ := hT
    have hcls1 : s.vm.findClass "java/lang/IllegalStateException" = some ce.cls := by rw [← hal1.findClass]; exact hcls
    have hself1 : s.vm.assignable ce.cls ce.cls = true := by rw [← hal1.assignable]; exact hself
    have hex := kL_ex X1 hown (hg _ kg_254) hcls1
    exact kx_c2 X1 rfl hown htab rfl (by decide) (hg _ kg_253) rfl (by decide) (hg _ kg_254) (by rw [hT1]; exact hce) hst1 hex (fun k9 h9 => kL_not hSt hcls1 h9) (fun k9 h9 => by cases hcls1.symm.trans h9; exact hself1)
  · obtain ⟨hx1, ⟨ce, hce, -⟩, hold⟩ := hT
    rw [hst] at hx1 hold
    refine lv_astore (lv' := [(8, .ref x), (0, .ref (ad 0)), (1, .int v1), (2, .int v2), (3, .int v3), (4, .int v4), (5, .int v5), (6, .int v6), (7, .ref ao)]) hx hb d_L_put_25 hl (by decide) rfl (fun ls hl => ?_)
    refine lv_iconst (v := 2) hx hb d_L_put_27 (by decide) ?_
    exact W.iret hx hb hr (fun t9 ht9 hW9 => ⟨⟨2, (), rfl, rfl, trivial⟩, by rw [ht9]; exact Nat.le_of_lt (Nat.lt_of_le_of_lt hx1 (Array.getElem?_eq_some_iff.mp hce).1), fun q h1 h2 => by rw [ht9]; exact hold q h1⟩) (fun q hq => by cases hq) d_L_put_28 hlocks
