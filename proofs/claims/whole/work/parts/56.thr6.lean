/-! throws: limit go cycles poke -/
set_option maxRecDepth 100000 in
theorem x_M_limit_S (l : Launch) (htr : ∀ e : Env, l.admits e → e.platform.stackTraces = false) {D : va_G} {tys : List (ClassId × FieldType)} {ad : Nat → Nat} {n q0 : Nat} {cs : Nat → va_E} {fs : List Value} {st qu ma v : Int32} (hq0 : q0 < n) (e0 : cs q0 = .inr (4, fs)) (hf7 : fs[7]? = some (.int ma)) (hf8 : fs[8]? = some (.int qu)) (hf9 : fs[9]? = some (.int st)) (h0 : ¬ v < 0) (h1 : v ≤ 128) (hbad : st = 0 ∨ 0 < qu) : kx_th l y_M_limit w_M_limit kx_r D kc tys ad n cs [.ref (ad q0), .int v] "java/lang/IllegalStateException" := by
  refine kx_of (cc := b_M_limit) (maxL := 2) (ret := (some .boolean)) (by decide) rfl (Nat.le_of_ble_eq_true rfl) ?_
  intro p e s m below meth c ls hx hb hr hml hown hts hlocks hnh hSt hP hK hl
  have hg : ∀ w9 ∈ kg_G, w9.before [.ref (ad q0), .int v].toArray s = true := fun w9 h9 => hts w9 (List.mem_cons_of_mem _ h9)
  have hown : s.vm.findClass "LaneMachine" = some m.cls := hown
  have hl : lv_has ls 2 [(0, .ref (ad q0)), (1, .int v)] := hl
  refine lv_iload_n hx hb d_M_limit_0 rfl (lv_at hl 1 rfl) ?_
  refine lv_if_lt (tgt := 11) hx hb d_M_limit_1 (by decide) (fun h1 => absurd h1 (h0)) (fun _ => ?_)
  refine lv_iload_n hx hb d_M_limit_4 rfl (lv_at hl 1 rfl) ?_
  refine lv_sipush (v := 128) hx hb d_M_limit_5 (by decide) ?_
  refine lv_icmp_le (tgt := 19) hx hb d_M_limit_8 (by decide) (fun _ => ?_) (fun h2 => absurd (h1) h2)
  refine lv_aload_n hx hb d_M_limit_19 rfl (lv_at hl 0 rfl) ?_
  refine kw_get (v := .int st) hx hb hg in_M hown hK hP q0 hq0 e0 rfl 9 (by decide) (hg _ kg_171) rfl hf9 d_M_limit_20 ?_
  refine lv_if_eq (tgt := 33) hx hb d_M_limit_23 (by decide) (fun h3 => ?_) (fun h3 => ?_)
  · exact kx_throw hx hb htr (inew := 82) hown (by decide +kernel) (by decide +kernel) (kx_atS hg hSt) (hg _ kg_327) (hg _ kg_12) (by rw [hml]; exact hl.1) d_M_limit_33 d_M_limit_36 d_M_limit_37 d_M_limit_40 (hnh _) hlocks (by decide) (by decide) (by decide) (by decide) (fun _ _ h => h)
  · refine lv_aload_n hx hb d_M_limit_26 rfl (lv_at hl 0 rfl) ?_
    refine kw_get (v := .int qu) hx hb hg in_M hown hK hP q0 hq0 e0 rfl 8 (by decide) (hg _ kg_170) rfl hf8 d_M_limit_27 ?_
    refine lv_if_le (tgt := 41) hx hb d_M_limit_30 (by decide) (fun h4 => ?_) (fun h4 => ?_)
    · exact (hbad.elim h3 (fun z9 => absurd h4 (Int32.not_le.mpr z9))).elim
    · exact kx_throw hx hb htr (inew := 82) hown (by decide +kernel) (by decide +kernel) (kx_atS hg hSt) (hg _ kg_327) (hg _ kg_12) (by rw [hml]; exact hl.1) d_M_limit_33 d_M_limit_36 d_M_limit_37 d_M_limit_40 (hnh _) hlocks (by decide) (by decide) (by decide) (by decide) (fun _ _ h => h)

set_option maxRecDepth 100000 in
theorem x_M_go_A (l : Launch) (htr : ∀ e : Env, l.admits e → e.platform.stackTraces = false) {D : va_G} {tys : List (ClassId × FieldType)} {ad : Nat → Nat} {n q0 : Nat} {cs : Nat → va_E} {fs : List Value} {st qu ma v : Int32} (hq0 : q0 < n) (e0 : cs q0 = .inr (4, fs)) (hf7 : fs[7]? = some (.int ma)) (hf8 : fs[8]? = some (.int qu)) (hf9 : fs[9]? = some (.int st)) (hbad : v < 0 ∨ ma ≤ v) : kx_th l y_M_go w_M_go kx_r D kc tys ad n cs [.ref (ad q0), .int v] "java/lang/IllegalArgumentException" := by
  refine kx_of (cc := b_M_go) (maxL := 2) (ret := (some .int)) (by decide) rfl (Nat.le_of_ble_eq_true rfl) ?_
  intro p e s m below meth c ls hx hb hr hml hown hts hlocks hnh hSt hP hK hl
  have hg : ∀ w9 ∈ kg_G, w9.before [.ref (ad q0), .int v].toArray s = true := fun w9 h9 => hts w9 (List.mem_cons_of_mem _ h9)
  have hown : s.vm.findClass "LaneMachine" = some m.cls := hown
  have hl : lv_has ls 2 [(0, .ref (ad q0)), (1, .int v)] := hl
  refine lv_iload_n hx hb d_M_go_0 rfl (lv_at hl 1 rfl) ?_
  refine lv_if_lt (tgt := 12) hx hb d_M_go_1 (by decide) (fun h1 => ?_) (fun h1 => ?_)
  · exact kx_throw hx hb htr (inew := 73) hown (by decide +kernel) (by decide +kernel) (kx_atA hg hSt) (hg _ kg_262) (hg _ kg_11) (by rw [hml]; exact hl.1) d_M_go_12 d_M_go_15 d_M_go_16 d_M_go_19 (hnh _) hlocks (by decide) (by decide) (by decide) (by decide) (fun _ _ h => h)
  · refine lv_iload_n hx hb d_M_go_4 rfl (lv_at hl 1 rfl) ?_
    refine lv_aload_n hx hb d_M_go_5 rfl (lv_at hl 0 rfl) ?_
    refine kw_get (v := .int ma) hx hb hg in_M hown hK hP q0 hq0 e0 rfl 7 (by decide) (hg _ kg_169) rfl hf7 d_M_go_6 ?_
    refine lv_icmp_lt (tgt := 20) hx hb d_M_go_9 (by decide) (fun h2 => ?_) (fun h2 => ?_)
    · exact (hbad.elim h1 (fun z9 => absurd h2 (Int32.not_lt.mpr z9))).elim
    · exact kx_throw hx hb htr (inew := 73) hown (by decide +kernel) (by decide +kernel) (kx_atA hg hSt) (hg _ kg_262) (hg _ kg_11) (by rw [hml]; exact hl.1) d_M_go_12 d_M_go_15 d_M_go_16 d_M_go_19 (hnh _) hlocks (by decide) (by decide) (by decide) (by decide) (fun _ _ h => h)

set_option maxRecDepth 100000 in
theorem x_M_go_S (l : Launch) (htr : ∀ e : Env, l.admits e → e.platform.stackTraces = false) {D : va_G} {tys : List (ClassId × FieldType)} {ad : Nat → Nat} {n q0 : Nat} {cs : Nat → va_E} {fs : List Value} {st qu ma v : Int32} (hq0 : q0 < n) (e0 : cs q0 = .inr (4, fs)) (hf7 : fs[7]? = some (.int ma)) (hf8 : fs[8]? = some (.int qu)) (hf9 : fs[9]? = some (.int st)) (h0 : ¬ v < 0) (h1 : v < ma) (hbad : st = 0 ∨ 0 < qu) : kx_th l y_M_go w_M_go kx_r D kc tys ad n cs [.ref (ad q0), .int v] "java/lang/IllegalStateException" := by
  refine kx_of (cc := b_M_go) (maxL := 2) (ret := (some .int)) (by decide) rfl (Nat.le_of_ble_eq_true rfl) ?_
  intro p e s m below meth c ls hx hb hr hml hown hts hlocks hnh hSt hP hK hl
  have hg : ∀ w9 ∈ kg_G, w9.before [.ref (ad q0), .int v].toArray s = true := fun w9 h9 => hts w9 (List.mem_cons_of_mem _ h9)
  have hown : s.vm.findClass "LaneMachine" = some m.cls := hown
  have hl : lv_has ls 2 [(0, .ref (ad q0)), (1, .int v)] := hl
  refine lv_iload_n hx hb d_M_go_0 rfl (lv_at hl 1 rfl) ?_
  refine lv_if_lt (tgt := 12) hx hb d_M_go_1 (by decide) (fun h1 => absurd h1 (h0)) (fun _ => ?_)
  refine lv_iload_n hx hb d_M_go_4 rfl (lv_at hl 1 rfl) ?_
  refine lv_aload_n hx hb d_M_go_5 rfl (lv_at hl 0 rfl) ?_
  refine kw_get (v := .int ma) hx hb hg in_M hown hK hP q0 hq0 e0 rfl 7 (by decide) (hg _ kg_169) rfl hf7 d_M_go_6 ?_
  refine lv_icmp_lt (tgt := 20) hx hb d_M_go_9 (by decide) (fun _ => ?_) (fun h2 => absurd (h1) h2)
  refine lv_aload_n hx hb d_M_go_20 rfl (lv_at hl 0 rfl) ?_
  refine kw_get (v := .int st) hx hb hg in_M hown hK hP q0 hq0 e0 rfl 9 (by decide) (hg _ kg_171) rfl hf9 d_M_go_21 ?_
  refine lv_if_eq (tgt := 34) hx hb d_M_go_24 (by decide) (fun h3 => ?_) (fun h3 => ?_)
  · exact kx_throw hx hb htr (inew := 82) hown (by decide +kernel) (by decide +kernel) (kx_atS hg hSt) (hg _ kg_327) (hg _ kg_12) (by rw [hml]; exact hl.1) d_M_go_34 d_M_go_37 d_M_go_38 d_M_go_41 (hnh _) hlocks (by decide) (by decide) (by decide) (by decide) (fun _ _ h => h)
  · refine lv_aload_n hx hb d_M_go_27 rfl (lv_at hl 0 rfl) ?_
    refine kw_get (v := .int qu) hx hb hg in_M hown hK hP q0 hq0 e0 rfl 8 (by decide) (hg _ kg_170) rfl hf8 d_M_go_28 ?_
    refine lv_if_le (tgt := 42) hx hb d_M_go_31 (by decide) (fun h4 => ?_) (fun h4 => ?_)
    · exact (hbad.elim h3 (fun z9 => absurd h4 (Int32.not_le.mpr z9))).elim
    · exact kx_throw hx hb htr (inew := 82) hown (by decide +kernel) (by decide +kernel) (kx_atS hg hSt) (hg _ kg_327) (hg _ kg_12) (by rw [hml]; exact hl.1) d_M_go_34 d_M_go_37 d_M_go_38 d_M_go_41 (hnh _) hlocks (by decide) (by decide) (by decide) (by decide) (fun _ _ h => h)

set_option maxRecDepth 100000 in
theorem x_M_cycles_A (l : Launch) (htr : ∀ e : Env, l.admits e → e.platform.stackTraces = false) {D : va_G} {tys : List (ClassId × FieldType)} {ad : Nat → Nat} {n q0 : Nat} {cs : Nat → va_E} {fs : List Value} {st qu ma v : Int32} (hq0 : q0 < n) (e0 : cs q0 = .inr (4, fs)) (hf7 : fs[7]? = some (.int ma)) (hf8 : fs[8]? = some (.int qu)) (hf9 : fs[9]? = some (.int st)) (hbad : v < 1 ∨ 200 < v) : kx_th l y_M_cycles w_M_cycles kx_r D kc tys ad n cs [.ref (ad q0), .int v] "java/lang/IllegalArgumentException" := by
  refine kx_of (cc := b_M_cycles) (maxL := 4) (ret := (some .int)) (by decide) rfl (Nat.le_of_ble_eq_true rfl) ?_
  intro p e s m below meth c ls hx hb hr hml hown hts hlocks hnh hSt hP hK hl
  have hg : ∀ w9 ∈ kg_G, w9.before [.ref (ad q0), .int v].toArray s = true := fun w9 h9 => hts w9 (List.mem_cons_of_mem _ h9)
  have hown : s.vm.findClass "LaneMachine" = some m.cls := hown
  have hl : lv_has ls 4 [(0, .ref (ad q0)), (1, .int v)] := hl
  refine lv_iload_n hx hb d_M_cycles_0 rfl (lv_at hl 1 rfl) ?_
  refine lv_iconst (v := 1) hx hb d_M_cycles_1 (by decide) ?_
  refine lv_icmp_lt (tgt := 12) hx hb d_M_cycles_2 (by decide) (fun h1 => ?_) (fun h1 => ?_)
  · exact kx_throw hx hb htr (inew := 73) hown (by decide +kernel) (by decide +kernel) (kx_atA hg hSt) (hg _ kg_262) (hg _ kg_11) (by rw [hml]; exact hl.1) d_M_cycles_12 d_M_cycles_15 d_M_cycles_16 d_M_cycles_19 (hnh _) hlocks (by decide) (by decide) (by decide) (by decide) (fun _ _ h => h)
  · refine lv_iload_n hx hb d_M_cycles_5 rfl (lv_at hl 1 rfl) ?_
    refine lv_sipush (v := 200) hx hb d_M_cycles_6 (by decide) ?_
    refine lv_icmp_le (tgt := 20) hx hb d_M_cycles_9 (by decide) (fun h2 => ?_) (fun h2 => ?_)
    · exact (hbad.elim h1 (fun z9 => absurd h2 (Int32.not_le.mpr z9))).elim
    · exact kx_throw hx hb htr (inew := 73) hown (by decide +kernel) (by decide +kernel) (kx_atA hg hSt) (hg _ kg_262) (hg _ kg_11) (by rw [hml]; exact hl.1) d_M_cycles_12 d_M_cycles_15 d_M_cycles_16 d_M_cycles_19 (hnh _) hlocks (by decide) (by decide) (by decide) (by decide) (fun _ _ h => h)

set_option maxRecDepth 100000 in
theorem x_M_poke_A (l : Launch) (htr : ∀ e : Env, l.admits e → e.platform.stackTraces = false) {D : va_G} {tys : List (ClassId × FieldType)} {ad : Nat → Nat} {n q0 : Nat} {cs : Nat → va_E} {fs : List Value} {st qu ma k v : Int32} (hq0 : q0 < n) (e0 : cs q0 = .inr (4, fs)) (hf7 : fs[7]? = some (.int ma)) (hf8 : fs[8]? = some (.int qu)) (hf9 : fs[9]? = some (.int st)) (hbad : k < 0 ∨ 128 ≤ k ∨ v < -128 ∨ 255 < v) : kx_th l y_M_poke w_M_poke kx_r D kc tys ad n cs [.ref (ad q0), .int k, .int v] "java/lang/IllegalArgumentException" := by
  refine kx_of (cc := b_M_poke) (maxL := 3) (ret := (some .boolean)) (by decide) rfl (Nat.le_of_ble_eq_true rfl) ?_
  intro p e s m below meth c ls hx hb hr hml hown hts hlocks hnh hSt hP hK hl
  have hg : ∀ w9 ∈ kg_G, w9.before [.ref (ad q0), .int k, .int v].toArray s = true := fun w9 h9 => hts w9 (List.mem_cons_of_mem _ h9)
  have hown : s.vm.findClass "LaneMachine" = some m.cls := hown
  have hl : lv_has ls 3 [(0, .ref (ad q0)), (1, .int k), (2, .int v)] := hl
  refine lv_iload_n hx hb d_M_poke_0 rfl (lv_at hl 1 rfl) ?_
  refine lv_if_lt (tgt := 24) hx hb d_M_poke_1 (by decide) (fun h1 => ?_) (fun h1 => ?_)
  · exact kx_throw hx hb htr (inew := 73) hown (by decide +kernel) (by decide +kernel) (kx_atA hg hSt) (hg _ kg_262) (hg _ kg_11) (by rw [hml]; exact hl.1) d_M_poke_24 d_M_poke_27 d_M_poke_28 d_M_poke_31 (hnh _) hlocks (by decide) (by decide) (by decide) (by decide) (fun _ _ h => h)
  · refine lv_iload_n hx hb d_M_poke_4 rfl (lv_at hl 1 rfl) ?_
    refine lv_sipush (v := 128) hx hb d_M_poke_5 (by decide) ?_
    refine lv_icmp_ge (tgt := 24) hx hb d_M_poke_8 (by decide) (fun h2 => ?_) (fun h2 => ?_)
    · exact kx_throw hx hb htr (inew := 73) hown (by decide +kernel) (by decide +kernel) (kx_atA hg hSt) (hg _ kg_262) (hg _ kg_11) (by rw [hml]; exact hl.1) d_M_poke_24 d_M_poke_27 d_M_poke_28 d_M_poke_31 (hnh _) hlocks (by decide) (by decide) (by decide) (by decide) (fun _ _ h => h)
    · refine lv_iload_n hx hb d_M_poke_11 rfl (lv_at hl 2 rfl) ?_
      refine lv_bipush (v := (-128)) hx hb d_M_poke_12 (by decide) ?_
      refine lv_icmp_lt (tgt := 24) hx hb d_M_poke_14 (by decide) (fun h3 => ?_) (fun h3 => ?_)
      · exact kx_throw hx hb htr (inew := 73) hown (by decide +kernel) (by decide +kernel) (kx_atA hg hSt) (hg _ kg_262) (hg _ kg_11) (by rw [hml]; exact hl.1) d_M_poke_24 d_M_poke_27 d_M_poke_28 d_M_poke_31 (hnh _) hlocks (by decide) (by decide) (by decide) (by decide) (fun _ _ h => h)
      · refine lv_iload_n hx hb d_M_poke_17 rfl (lv_at hl 2 rfl) ?_
        refine lv_sipush (v := 255) hx hb d_M_poke_18 (by decide) ?_
        refine lv_icmp_le (tgt := 32) hx hb d_M_poke_21 (by decide) (fun h4 => ?_) (fun h4 => ?_)
        · exact (hbad.elim h1 (fun z9 => z9.elim h2 (fun z9 => z9.elim h3 (fun z9 => absurd h4 (Int32.not_le.mpr z9))))).elim
        · exact kx_throw hx hb htr (inew := 73) hown (by decide +kernel) (by decide +kernel) (kx_atA hg hSt) (hg _ kg_262) (hg _ kg_11) (by rw [hml]; exact hl.1) d_M_poke_24 d_M_poke_27 d_M_poke_28 d_M_poke_31 (hnh _) hlocks (by decide) (by decide) (by decide) (by decide) (fun _ _ h => h)

set_option maxRecDepth 100000 in
theorem x_M_put_A (l : Launch) (htr : ∀ e : Env, l.admits e → e.platform.stackTraces = false) {D : va_G} {tys : List (ClassId × FieldType)} {ad : Nat → Nat} {n q0 : Nat} {cs : Nat → va_E} {fs : List Value} {st qu ma o9 d9 a9 b9 n9 m9 : Int32} (hq0 : q0 < n) (e0 : cs q0 = .inr (4, fs)) (hf7 : fs[7]? = some (.int ma)) (hf8 : fs[8]? = some (.int qu)) (hf9 : fs[9]? = some (.int st)) (hbad : o9 < 0 ∨ 20 < o9 ∨ kv_M_isRegister d9 = 0 ∨ kv_M_isRegister a9 = 0 ∨ kv_M_isRegister b9 = 0 ∨ (o9 = 6 ∧ kv_S_isCode n9 = 0)) : kx_th l y_M_put w_M_put kx_r D kc tys ad n cs [.ref (ad q0), .int o9, .int d9, .int a9, .int b9, .int n9, .int m9] "java/lang/IllegalArgumentException" := by
  refine kx_of (cc := b_M_put) (maxL := 7) (ret := (some .int)) (by decide) rfl (Nat.le_of_ble_eq_true rfl) ?_
  intro p e s m below meth c ls hx hb hr hml hown hts hlocks hnh hSt hP hK hl
  have hg : ∀ w9 ∈ kg_G, w9.before [.ref (ad q0), .int o9, .int d9, .int a9, .int b9, .int n9, .int m9].toArray s = true := fun w9 h9 => hts w9 (List.mem_cons_of_mem _ h9)
  have hown : s.vm.findClass "LaneMachine" = some m.cls := hown
  have hl : lv_has ls 7 [(0, .ref (ad q0)), (1, .int o9), (2, .int d9), (3, .int a9), (4, .int b9), (5, .int n9), (6, .int m9)] := hl
  have hP0 : va_P D kc (kw_w ad cs 0) s.heap := fun k q h => by simp [kw_w] at h
  have hA0 : ∀ k, k < 0 → (fun _ : Nat => False) (ad k) := fun k hk => absurd hk (Nat.not_lt_zero k)
  have hS0 : va_S (fun _ => False) s.heap s.heap [] := va_S.rf
  refine lv_iload_n hx hb d_M_put_0 rfl (lv_at hl 1 rfl) ?_
  refine lv_if_lt (tgt := 32) hx hb d_M_put_1 (by decide) (fun h1 => ?_) (fun h1 => ?_)
  · exact kx_throw hx hb htr (inew := 73) hown (by decide +kernel) (by decide +kernel) (kx_atA hg hSt) (hg _ kg_262) (hg _ kg_11) (by rw [hml]; exact hl.1) d_M_put_32 d_M_put_35 d_M_put_36 d_M_put_39 (hnh _) hlocks (by decide) (by decide) (by decide) (by decide) (fun _ _ h => h)
  · refine lv_iload_n hx hb d_M_put_4 rfl (lv_at hl 1 rfl) ?_
    refine lv_bipush (v := 20) hx hb d_M_put_5 (by decide) ?_
    refine lv_icmp_gt (tgt := 32) hx hb d_M_put_7 (by decide) (fun h2 => ?_) (fun h2 => ?_)
    · exact kx_throw hx hb htr (inew := 73) hown (by decide +kernel) (by decide +kernel) (kx_atA hg hSt) (hg _ kg_262) (hg _ kg_11) (by rw [hml]; exact hl.1) d_M_put_32 d_M_put_35 d_M_put_36 d_M_put_39 (hnh _) hlocks (by decide) (by decide) (by decide) (by decide) (fun _ _ h => h)
    · refine lv_iload_n hx hb d_M_put_10 rfl (lv_at hl 2 rfl) ?_
      refine kw_callix (kw_rS (As := [.int d9]) (rest := []) ⟨hx, hb, hml, hown, hg⟩ ⟨callB_of 1 hg (kg_goodG kg_261) rfl rfl rfl (hg _ kg_1) (hg _ kg_259) (by decide +kernel) ⟨by decide, by decide⟩, hg _ kg_260⟩ (c_M_isRegister l  ) hK hP0 rfl hl.1 rfl (Nat.le_of_ble_eq_true rfl) d_M_put_11 ⟨Nat.zero_le _, Nat.zero_le _⟩) hA0 hS0 (fun H locs _ hS9 => kx_same hS9 ?_)
      refine lv_if_eq (tgt := 32) hx hb d_M_put_14 (by decide) (fun h3 => ?_) (fun h3 => ?_)
      · exact kx_throw hx hb htr (inew := 73) hown (by decide +kernel) (by decide +kernel) (kx_atA hg hSt) (hg _ kg_262) (hg _ kg_11) (by rw [hml]; exact hl.1) d_M_put_32 d_M_put_35 d_M_put_36 d_M_put_39 (hnh _) hlocks (by decide) (by decide) (by decide) (by decide) (fun _ _ h => h)
      · refine lv_iload_n hx hb d_M_put_17 rfl (lv_at hl 3 rfl) ?_
        refine kw_callix (kw_rS (As := [.int a9]) (rest := []) ⟨hx, hb, hml, hown, hg⟩ ⟨callB_of 1 hg (kg_goodG kg_261) rfl rfl rfl (hg _ kg_1) (hg _ kg_259) (by decide +kernel) ⟨by decide, by decide⟩, hg _ kg_260⟩ (c_M_isRegister l  ) hK hP0 rfl hl.1 rfl (Nat.le_of_ble_eq_true rfl) d_M_put_18 ⟨Nat.zero_le _, Nat.zero_le _⟩) hA0 hS0 (fun H locs _ hS9 => kx_same hS9 ?_)
        refine lv_if_eq (tgt := 32) hx hb d_M_put_21 (by decide) (fun h4 => ?_) (fun h4 => ?_)
        · exact kx_throw hx hb htr (inew := 73) hown (by decide +kernel) (by decide +kernel) (kx_atA hg hSt) (hg _ kg_262) (hg _ kg_11) (by rw [hml]; exact hl.1) d_M_put_32 d_M_put_35 d_M_put_36 d_M_put_39 (hnh _) hlocks (by decide) (by decide) (by decide) (by decide) (fun _ _ h => h)
        · refine lv_iload hx hb d_M_put_24 (lv_at hl 4 rfl) ?_
          refine kw_callix (kw_rS (As := [.int b9]) (rest := []) ⟨hx, hb, hml, hown, hg⟩ ⟨callB_of 1 hg (kg_goodG kg_261) rfl rfl rfl (hg _ kg_1) (hg _ kg_259) (by decide +kernel) ⟨by decide, by decide⟩, hg _ kg_260⟩ (c_M_isRegister l  ) hK hP0 rfl hl.1 rfl (Nat.le_of_ble_eq_true rfl) d_M_put_26 ⟨Nat.zero_le _, Nat.zero_le _⟩) hA0 hS0 (fun H locs _ hS9 => kx_same hS9 ?_)
          refine lv_if_ne (tgt := 40) hx hb d_M_put_29 (by decide) (fun h5 => ?_) (fun h5 => ?_)
          · refine lv_iload_n hx hb d_M_put_40 rfl (lv_at hl 1 rfl) ?_
            refine lv_bipush (v := 6) hx hb d_M_put_41 (by decide) ?_
            refine lv_icmp_ne (tgt := 62) hx hb d_M_put_43 (by decide) (fun h6 => ?_) (fun h6 => ?_)
            · exact (hbad.elim h1 (fun z9 => z9.elim h2 (fun z9 => z9.elim h3 (fun z9 => z9.elim h4 (fun z9 => z9.elim h5 (fun z9 => h6 z9.1)))))).elim
            · refine lv_iload hx hb d_M_put_46 (lv_at hl 5 rfl) ?_
              refine kw_callix (kw_rS (As := [.int n9]) (rest := []) ⟨hx, hb, hml, hown, hg⟩ ⟨callB_of 1 hg (kg_goodG kg_326) rfl rfl rfl (hg _ kg_4) (hg _ kg_324) (by decide +kernel) ⟨by decide, by decide⟩, hg _ kg_325⟩ (c_S_isCode l  ) hK hP0 rfl hl.1 rfl (Nat.le_of_ble_eq_true rfl) d_M_put_48 ⟨Nat.zero_le _, Nat.zero_le _⟩) hA0 hS0 (fun H locs _ hS9 => kx_same hS9 ?_)
              refine lv_if_ne (tgt := 62) hx hb d_M_put_51 (by decide) (fun h7 => ?_) (fun h7 => ?_)
              · exact (hbad.elim h1 (fun z9 => z9.elim h2 (fun z9 => z9.elim h3 (fun z9 => z9.elim h4 (fun z9 => z9.elim h5 (fun z9 => h7 z9.2)))))).elim
              · exact kx_throw hx hb htr (inew := 73) hown (by decide +kernel) (by decide +kernel) (kx_atA hg hSt) (hg _ kg_262) (hg _ kg_11) (by rw [hml]; exact hl.1) d_M_put_54 d_M_put_57 d_M_put_58 d_M_put_61 (hnh _) hlocks (by decide) (by decide) (by decide) (by decide) (fun _ _ h => h)
          · exact kx_throw hx hb htr (inew := 73) hown (by decide +kernel) (by decide +kernel) (kx_atA hg hSt) (hg _ kg_262) (hg _ kg_11) (by rw [hml]; exact hl.1) d_M_put_32 d_M_put_35 d_M_put_36 d_M_put_39 (hnh _) hlocks (by decide) (by decide) (by decide) (by decide) (fun _ _ h => h)

set_option maxRecDepth 100000 in
theorem x_M_put_S (l : Launch) (htr : ∀ e : Env, l.admits e → e.platform.stackTraces = false) {D : va_G} {tys : List (ClassId × FieldType)} {ad : Nat → Nat} {n q0 : Nat} {cs : Nat → va_E} {fs : List Value} {st qu ma o9 d9 a9 b9 n9 m9 : Int32} (hq0 : q0 < n) (e0 : cs q0 = .inr (4, fs)) (hf7 : fs[7]? = some (.int ma)) (hf8 : fs[8]? = some (.int qu)) (hf9 : fs[9]? = some (.int st)) (h0 : ¬ o9 < 0) (h1 : ¬ 20 < o9) (hd : ¬ kv_M_isRegister d9 = 0) (ha : ¬ kv_M_isRegister a9 = 0) (hbb : ¬ kv_M_isRegister b9 = 0) (hcd : o9 = 6 → ¬ kv_S_isCode n9 = 0) (hbad : st = 0 ∨ 40 ≤ ma) : kx_th l y_M_put w_M_put kx_r D kc tys ad n cs [.ref (ad q0), .int o9, .int d9, .int a9, .int b9, .int n9, .int m9] "java/lang/IllegalStateException" := by
  refine kx_of (cc := b_M_put) (maxL := 7) (ret := (some .int)) (by decide) rfl (Nat.le_of_ble_eq_true rfl) ?_
  intro p e s m below meth c ls hx hb hr hml hown hts hlocks hnh hSt hP hK hl
  have hg : ∀ w9 ∈ kg_G, w9.before [.ref (ad q0), .int o9, .int d9, .int a9, .int b9, .int n9, .int m9].toArray s = true := fun w9 h9 => hts w9 (List.mem_cons_of_mem _ h9)
  have hown : s.vm.findClass "LaneMachine" = some m.cls := hown
  have hl : lv_has ls 7 [(0, .ref (ad q0)), (1, .int o9), (2, .int d9), (3, .int a9), (4, .int b9), (5, .int n9), (6, .int m9)] := hl
  have hP0 : va_P D kc (kw_w ad cs 0) s.heap := fun k q h => by simp [kw_w] at h
  have hA0 : ∀ k, k < 0 → (fun _ : Nat => False) (ad k) := fun k hk => absurd hk (Nat.not_lt_zero k)
  have hS0 : va_S (fun _ => False) s.heap s.heap [] := va_S.rf
  refine lv_iload_n hx hb d_M_put_0 rfl (lv_at hl 1 rfl) ?_
  refine lv_if_lt (tgt := 32) hx hb d_M_put_1 (by decide) (fun h1 => absurd h1 (h0)) (fun _ => ?_)
  refine lv_iload_n hx hb d_M_put_4 rfl (lv_at hl 1 rfl) ?_
  refine lv_bipush (v := 20) hx hb d_M_put_5 (by decide) ?_
  refine lv_icmp_gt (tgt := 32) hx hb d_M_put_7 (by decide) (fun h2 => absurd h2 (h1)) (fun _ => ?_)
  refine lv_iload_n hx hb d_M_put_10 rfl (lv_at hl 2 rfl) ?_
  refine kw_callix (kw_rS (As := [.int d9]) (rest := []) ⟨hx, hb, hml, hown, hg⟩ ⟨callB_of 1 hg (kg_goodG kg_261) rfl rfl rfl (hg _ kg_1) (hg _ kg_259) (by decide +kernel) ⟨by decide, by decide⟩, hg _ kg_260⟩ (c_M_isRegister l  ) hK hP0 rfl hl.1 rfl (Nat.le_of_ble_eq_true rfl) d_M_put_11 ⟨Nat.zero_le _, Nat.zero_le _⟩) hA0 hS0 (fun H locs _ hS9 => kx_same hS9 ?_)
  refine lv_if_eq (tgt := 32) hx hb d_M_put_14 (by decide) (fun h3 => absurd h3 (hd)) (fun _ => ?_)
  refine lv_iload_n hx hb d_M_put_17 rfl (lv_at hl 3 rfl) ?_
  refine kw_callix (kw_rS (As := [.int a9]) (rest := []) ⟨hx, hb, hml, hown, hg⟩ ⟨callB_of 1 hg (kg_goodG kg_261) rfl rfl rfl (hg _ kg_1) (hg _ kg_259) (by decide +kernel) ⟨by decide, by decide⟩, hg _ kg_260⟩ (c_M_isRegister l  ) hK hP0 rfl hl.1 rfl (Nat.le_of_ble_eq_true rfl) d_M_put_18 ⟨Nat.zero_le _, Nat.zero_le _⟩) hA0 hS0 (fun H locs _ hS9 => kx_same hS9 ?_)
  refine lv_if_eq (tgt := 32) hx hb d_M_put_21 (by decide) (fun h4 => absurd h4 (ha)) (fun _ => ?_)
  refine lv_iload hx hb d_M_put_24 (lv_at hl 4 rfl) ?_
  refine kw_callix (kw_rS (As := [.int b9]) (rest := []) ⟨hx, hb, hml, hown, hg⟩ ⟨callB_of 1 hg (kg_goodG kg_261) rfl rfl rfl (hg _ kg_1) (hg _ kg_259) (by decide +kernel) ⟨by decide, by decide⟩, hg _ kg_260⟩ (c_M_isRegister l  ) hK hP0 rfl hl.1 rfl (Nat.le_of_ble_eq_true rfl) d_M_put_26 ⟨Nat.zero_le _, Nat.zero_le _⟩) hA0 hS0 (fun H locs _ hS9 => kx_same hS9 ?_)
  refine lv_if_ne (tgt := 40) hx hb d_M_put_29 (by decide) (fun _ => ?_) (fun h5 => absurd h5 (hbb))
  refine lv_iload_n hx hb d_M_put_40 rfl (lv_at hl 1 rfl) ?_
  refine lv_bipush (v := 6) hx hb d_M_put_41 (by decide) ?_
  refine lv_icmp_ne (tgt := 62) hx hb d_M_put_43 (by decide) (fun h6 => ?_) (fun h6 => ?_)
  · refine lv_aload_n hx hb d_M_put_62 rfl (lv_at hl 0 rfl) ?_
    refine kw_get (v := .int st) hx hb hg in_M hown hK hP q0 hq0 e0 rfl 9 (by decide) (hg _ kg_171) rfl hf9 d_M_put_63 ?_
    refine lv_if_eq (tgt := 78) hx hb d_M_put_66 (by decide) (fun h7 => ?_) (fun h7 => ?_)
    · exact kx_throw hx hb htr (inew := 82) hown (by decide +kernel) (by decide +kernel) (kx_atS hg hSt) (hg _ kg_327) (hg _ kg_12) (by rw [hml]; exact hl.1) d_M_put_78 d_M_put_81 d_M_put_82 d_M_put_85 (hnh _) hlocks (by decide) (by decide) (by decide) (by decide) (fun _ _ h => h)
    · refine lv_aload_n hx hb d_M_put_69 rfl (lv_at hl 0 rfl) ?_
      refine kw_get (v := .int ma) hx hb hg in_M hown hK hP q0 hq0 e0 rfl 7 (by decide) (hg _ kg_169) rfl hf7 d_M_put_70 ?_
      refine lv_bipush (v := 40) hx hb d_M_put_73 (by decide) ?_
      refine lv_icmp_lt (tgt := 86) hx hb d_M_put_75 (by decide) (fun h8 => ?_) (fun h8 => ?_)
      · exact (hbad.elim h7 (fun z9 => absurd h8 (Int32.not_lt.mpr z9))).elim
      · exact kx_throw hx hb htr (inew := 82) hown (by decide +kernel) (by decide +kernel) (kx_atS hg hSt) (hg _ kg_327) (hg _ kg_12) (by rw [hml]; exact hl.1) d_M_put_78 d_M_put_81 d_M_put_82 d_M_put_85 (hnh _) hlocks (by decide) (by decide) (by decide) (by decide) (fun _ _ h => h)
  · refine lv_iload hx hb d_M_put_46 (lv_at hl 5 rfl) ?_
    refine kw_callix (kw_rS (As := [.int n9]) (rest := []) ⟨hx, hb, hml, hown, hg⟩ ⟨callB_of 1 hg (kg_goodG kg_326) rfl rfl rfl (hg _ kg_4) (hg _ kg_324) (by decide +kernel) ⟨by decide, by decide⟩, hg _ kg_325⟩ (c_S_isCode l  ) hK hP0 rfl hl.1 rfl (Nat.le_of_ble_eq_true rfl) d_M_put_48 ⟨Nat.zero_le _, Nat.zero_le _⟩) hA0 hS0 (fun H locs _ hS9 => kx_same hS9 ?_)
    refine lv_if_ne (tgt := 62) hx hb d_M_put_51 (by decide) (fun _ => ?_) (fun h9 => absurd h9 (hcd h6))
    refine lv_aload_n hx hb d_M_put_62 rfl (lv_at hl 0 rfl) ?_
    refine kw_get (v := .int st) hx hb hg in_M hown hK hP q0 hq0 e0 rfl 9 (by decide) (hg _ kg_171) rfl hf9 d_M_put_63 ?_
    refine lv_if_eq (tgt := 78) hx hb d_M_put_66 (by decide) (fun h10 => ?_) (fun h10 => ?_)
    · exact kx_throw hx hb htr (inew := 82) hown (by decide +kernel) (by decide +kernel) (kx_atS hg hSt) (hg _ kg_327) (hg _ kg_12) (by rw [hml]; exact hl.1) d_M_put_78 d_M_put_81 d_M_put_82 d_M_put_85 (hnh _) hlocks (by decide) (by decide) (by decide) (by decide) (fun _ _ h => h)
    · refine lv_aload_n hx hb d_M_put_69 rfl (lv_at hl 0 rfl) ?_
      refine kw_get (v := .int ma) hx hb hg in_M hown hK hP q0 hq0 e0 rfl 7 (by decide) (hg _ kg_169) rfl hf7 d_M_put_70 ?_
      refine lv_bipush (v := 40) hx hb d_M_put_73 (by decide) ?_
      refine lv_icmp_lt (tgt := 86) hx hb d_M_put_75 (by decide) (fun h11 => ?_) (fun h11 => ?_)
      · exact (hbad.elim h10 (fun z9 => absurd h11 (Int32.not_lt.mpr z9))).elim
      · exact kx_throw hx hb htr (inew := 82) hown (by decide +kernel) (by decide +kernel) (kx_atS hg hSt) (hg _ kg_327) (hg _ kg_12) (by rw [hml]; exact hl.1) d_M_put_78 d_M_put_81 d_M_put_82 d_M_put_85 (hnh _) hlocks (by decide) (by decide) (by decide) (by decide) (fun _ _ h => h)
