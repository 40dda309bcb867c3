/-! leaves: Setting, Instruction -/
def kv_S_width (wp : Int32) : Int32 := (1 : Int32) <<< (wp &&& 31)
set_option maxRecDepth 100000 in
set_option maxHeartbeats 4000000 in
theorem c_S_width (l : Launch) {D : va_G} {tys : List (ClassId × FieldType)} {ad : Nat → Nat} {n : Nat} {cs : Nat → va_E} {q0 : Nat} {wp : Int32} {gp : Int32} {ln : Int32} {sa : Int32} (hq0 : q0 < n) (e0 : cs q0 = .inr (2, [.int wp, .int gp, .int ln, .int sa]))  : kw_mi l y_S_width w_S_width (kr 0) D kc tys ad n cs [.ref (ad q0)] (fun r9 c9 => r9 = kv_S_width wp ∧ c9 = cs) := by
  refine kw_of (cc := b_S_width) (maxL := 1) (ret := (some .int)) (by decide) rfl (Nat.le_of_ble_eq_true rfl) ?_
  intro p e s m below meth c ls hx hb hr hml hown hts hlocks hP hK hl
  have hg : ∀ w9 ∈ kg_G, w9.before [.ref (ad q0)].toArray s = true := fun w9 h9 => hts w9 (List.mem_cons_of_mem _ h9)
  have hown : s.vm.findClass "LaneMachine$Setting" = some m.cls := hown
  have hA : ∀ k, k < n → kw_A ad n (ad k) := fun k hk => ⟨k, hk, rfl⟩
  have hS : va_S (kw_A ad n) s.heap s.heap [] := va_S.rf
  have hl : lv_has ls 1 [(0, .ref (ad q0))] := hl
  refine lv_iconst (v := 1) hx hb d_S_width_0 (by decide) ?_
  refine lv_aload_n hx hb d_S_width_1 rfl (lv_at hl 0 rfl) ?_
  refine kw_get hx hb hg in_S hown hK hP q0 hq0 e0 rfl 0 (by decide) (hg _ kg_45) rfl rfl d_S_width_2 ?_
  refine lv_ishl hx hb d_S_width_5 ?_
  exact kw_iret hx hb hr hlocks hP hK hS ⟨by rw [kv_S_width], rfl⟩ d_S_width_6

def kv_S_group (gp : Int32) : Int32 := (1 : Int32) <<< (gp &&& 31)
set_option maxRecDepth 100000 in
set_option maxHeartbeats 4000000 in
theorem c_S_group (l : Launch) {D : va_G} {tys : List (ClassId × FieldType)} {ad : Nat → Nat} {n : Nat} {cs : Nat → va_E} {q0 : Nat} {wp : Int32} {gp : Int32} {ln : Int32} {sa : Int32} (hq0 : q0 < n) (e0 : cs q0 = .inr (2, [.int wp, .int gp, .int ln, .int sa]))  : kw_mi l y_S_group w_S_group (kr 0) D kc tys ad n cs [.ref (ad q0)] (fun r9 c9 => r9 = kv_S_group gp ∧ c9 = cs) := by
  refine kw_of (cc := b_S_group) (maxL := 1) (ret := (some .int)) (by decide) rfl (Nat.le_of_ble_eq_true rfl) ?_
  intro p e s m below meth c ls hx hb hr hml hown hts hlocks hP hK hl
  have hg : ∀ w9 ∈ kg_G, w9.before [.ref (ad q0)].toArray s = true := fun w9 h9 => hts w9 (List.mem_cons_of_mem _ h9)
  have hown : s.vm.findClass "LaneMachine$Setting" = some m.cls := hown
  have hA : ∀ k, k < n → kw_A ad n (ad k) := fun k hk => ⟨k, hk, rfl⟩
  have hS : va_S (kw_A ad n) s.heap s.heap [] := va_S.rf
  have hl : lv_has ls 1 [(0, .ref (ad q0))] := hl
  refine lv_iconst (v := 1) hx hb d_S_group_0 (by decide) ?_
  refine lv_aload_n hx hb d_S_group_1 rfl (lv_at hl 0 rfl) ?_
  refine kw_get hx hb hg in_S hown hK hP q0 hq0 e0 rfl 1 (by decide) (hg _ kg_46) rfl rfl d_S_group_2 ?_
  refine lv_ishl hx hb d_S_group_5 ?_
  exact kw_iret hx hb hr hlocks hP hK hS ⟨by rw [kv_S_group], rfl⟩ d_S_group_6

def kv_S_most (wp : Int32) (gp : Int32) : Int32 := ((8 : Int32) <<< (gp &&& 31)) >>> (wp &&& 31)
set_option maxRecDepth 100000 in
set_option maxHeartbeats 4000000 in
theorem c_S_most (l : Launch) {D : va_G} {tys : List (ClassId × FieldType)} {ad : Nat → Nat} {n : Nat} {cs : Nat → va_E} {q0 : Nat} {wp : Int32} {gp : Int32} {ln : Int32} {sa : Int32} (hq0 : q0 < n) (e0 : cs q0 = .inr (2, [.int wp, .int gp, .int ln, .int sa]))  : kw_mi l y_S_most w_S_most (kr 0) D kc tys ad n cs [.ref (ad q0)] (fun r9 c9 => r9 = kv_S_most wp gp ∧ c9 = cs) := by
  refine kw_of (cc := b_S_most) (maxL := 1) (ret := (some .int)) (by decide) rfl (Nat.le_of_ble_eq_true rfl) ?_
  intro p e s m below meth c ls hx hb hr hml hown hts hlocks hP hK hl
  have hg : ∀ w9 ∈ kg_G, w9.before [.ref (ad q0)].toArray s = true := fun w9 h9 => hts w9 (List.mem_cons_of_mem _ h9)
  have hown : s.vm.findClass "LaneMachine$Setting" = some m.cls := hown
  have hA : ∀ k, k < n → kw_A ad n (ad k) := fun k hk => ⟨k, hk, rfl⟩
  have hS : va_S (kw_A ad n) s.heap s.heap [] := va_S.rf
  have hl : lv_has ls 1 [(0, .ref (ad q0))] := hl
  refine lv_bipush (v := 8) hx hb d_S_most_0 (by decide) ?_
  refine lv_aload_n hx hb d_S_most_2 rfl (lv_at hl 0 rfl) ?_
  refine kw_get hx hb hg in_S hown hK hP q0 hq0 e0 rfl 1 (by decide) (hg _ kg_46) rfl rfl d_S_most_3 ?_
  refine lv_ishl hx hb d_S_most_6 ?_
  refine lv_aload_n hx hb d_S_most_7 rfl (lv_at hl 0 rfl) ?_
  refine kw_get hx hb hg in_S hown hK hP q0 hq0 e0 rfl 0 (by decide) (hg _ kg_45) rfl rfl d_S_most_8 ?_
  refine lv_ishr hx hb d_S_most_11 ?_
  exact kw_iret hx hb hr hlocks hP hK hS ⟨by rw [kv_S_most], rfl⟩ d_S_most_12

def kv_S_isCode (x : Int32) : Int32 := if x < 0 then 0 else if 10 < x then 0 else if (x - x / 4 * 4) = 3 then 0 else 1
set_option maxRecDepth 100000 in
set_option maxHeartbeats 4000000 in
theorem c_S_isCode (l : Launch) {D : va_G} {tys : List (ClassId × FieldType)} {ad : Nat → Nat} {n : Nat} {cs : Nat → va_E} {x : Int32}   : kw_mi l y_S_isCode w_S_isCode (kr 0) D kc tys ad n cs [.int x] (fun r9 c9 => r9 = kv_S_isCode x ∧ c9 = cs) := by
  refine kw_of (cc := b_S_isCode) (maxL := 1) (ret := (some .boolean)) (by decide) rfl (Nat.le_of_ble_eq_true rfl) ?_
  intro p e s m below meth c ls hx hb hr hml hown hts hlocks hP hK hl
  have hg : ∀ w9 ∈ kg_G, w9.before [.int x].toArray s = true := fun w9 h9 => hts w9 (List.mem_cons_of_mem _ h9)
  have hown : s.vm.findClass "LaneMachine$Setting" = some m.cls := hown
  have hA : ∀ k, k < n → kw_A ad n (ad k) := fun k hk => ⟨k, hk, rfl⟩
  have hS : va_S (kw_A ad n) s.heap s.heap [] := va_S.rf
  have hl : lv_has ls 1 [(0, .int x)] := hl
  refine lv_iload_n hx hb d_S_isCode_0 rfl (lv_at hl 0 rfl) ?_
  refine lv_if_lt (tgt := 21) hx hb d_S_isCode_1 (by decide) (fun h1 => ?_) (fun h1 => ?_)
  · refine lv_iconst (v := 0) hx hb d_S_isCode_21 (by decide) ?_
    exact kw_zret hx hb hr hlocks hP hK hS (Or.inl rfl) ⟨by rw [kv_S_isCode, if_pos h1], rfl⟩ d_S_isCode_22
  · refine lv_iload_n hx hb d_S_isCode_4 rfl (lv_at hl 0 rfl) ?_
    refine lv_bipush (v := 10) hx hb d_S_isCode_5 (by decide) ?_
    refine lv_icmp_gt (tgt := 21) hx hb d_S_isCode_7 (by decide) (fun h2 => ?_) (fun h2 => ?_)
    · refine lv_iconst (v := 0) hx hb d_S_isCode_21 (by decide) ?_
      exact kw_zret hx hb hr hlocks hP hK hS (Or.inl rfl) ⟨by rw [kv_S_isCode, if_neg h1, if_pos h2], rfl⟩ d_S_isCode_22
    · refine lv_iload_n hx hb d_S_isCode_10 rfl (lv_at hl 0 rfl) ?_
      refine lv_iconst (v := 4) hx hb d_S_isCode_11 (by decide) ?_
      refine lv_irem hx hb d_S_isCode_12 (by decide) ?_
      refine lv_iconst (v := 3) hx hb d_S_isCode_13 (by decide) ?_
      refine lv_icmp_eq (tgt := 21) hx hb d_S_isCode_14 (by decide) (fun h3 => ?_) (fun h3 => ?_)
      · refine lv_iconst (v := 0) hx hb d_S_isCode_21 (by decide) ?_
        exact kw_zret hx hb hr hlocks hP hK hS (Or.inl rfl) ⟨by rw [kv_S_isCode, if_neg h1, if_neg h2, if_pos h3], rfl⟩ d_S_isCode_22
      · refine lv_iconst (v := 1) hx hb d_S_isCode_17 (by decide) ?_
        refine lv_goto (tgt := 22) hx hb d_S_isCode_18 (by decide) ?_
        exact kw_zret hx hb hr hlocks hP hK hS (Or.inr rfl) ⟨by rw [kv_S_isCode, if_neg h1, if_neg h2, if_neg h3], rfl⟩ d_S_isCode_22

def kv_S_isMultiple (x : Int32) (y : Int32) : Int32 := if (x &&& (y - 1)) = 0 then 1 else 0
set_option maxRecDepth 100000 in
set_option maxHeartbeats 4000000 in
theorem c_S_isMultiple (l : Launch) {D : va_G} {tys : List (ClassId × FieldType)} {ad : Nat → Nat} {n : Nat} {cs : Nat → va_E} {x : Int32} {y : Int32}   : kw_mi l y_S_isMultiple w_S_isMultiple (kr 0) D kc tys ad n cs [.int x, .int y] (fun r9 c9 => r9 = kv_S_isMultiple x y ∧ c9 = cs) := by
  refine kw_of (cc := b_S_isMultiple) (maxL := 2) (ret := (some .boolean)) (by decide) rfl (Nat.le_of_ble_eq_true rfl) ?_
  intro p e s m below meth c ls hx hb hr hml hown hts hlocks hP hK hl
  have hg : ∀ w9 ∈ kg_G, w9.before [.int x, .int y].toArray s = true := fun w9 h9 => hts w9 (List.mem_cons_of_mem _ h9)
  have hown : s.vm.findClass "LaneMachine$Setting" = some m.cls := hown
  have hA : ∀ k, k < n → kw_A ad n (ad k) := fun k hk => ⟨k, hk, rfl⟩
  have hS : va_S (kw_A ad n) s.heap s.heap [] := va_S.rf
  have hl : lv_has ls 2 [(0, .int x), (1, .int y)] := hl
  refine lv_iload_n hx hb d_S_isMultiple_0 rfl (lv_at hl 0 rfl) ?_
  refine lv_iload_n hx hb d_S_isMultiple_1 rfl (lv_at hl 1 rfl) ?_
  refine lv_iconst (v := 1) hx hb d_S_isMultiple_2 (by decide) ?_
  refine lv_isub hx hb d_S_isMultiple_3 ?_
  refine lv_iand hx hb d_S_isMultiple_4 ?_
  refine lv_if_ne (tgt := 12) hx hb d_S_isMultiple_5 (by decide) (fun h1 => ?_) (fun h1 => ?_)
  · refine lv_iconst (v := 0) hx hb d_S_isMultiple_12 (by decide) ?_
    exact kw_zret hx hb hr hlocks hP hK hS (Or.inl rfl) ⟨by rw [kv_S_isMultiple, if_neg h1], rfl⟩ d_S_isMultiple_13
  · refine lv_iconst (v := 1) hx hb d_S_isMultiple_8 (by decide) ?_
    refine lv_goto (tgt := 13) hx hb d_S_isMultiple_9 (by decide) ?_
    exact kw_zret hx hb hr hlocks hP hK hS (Or.inr rfl) ⟨by rw [kv_S_isMultiple, if_pos h1], rfl⟩ d_S_isMultiple_13

def kv_I_isVector (op : Int32) : Int32 := if op < 8 then 0 else 1
set_option maxRecDepth 100000 in
set_option maxHeartbeats 4000000 in
theorem c_I_isVector (l : Launch) {D : va_G} {tys : List (ClassId × FieldType)} {ad : Nat → Nat} {n : Nat} {cs : Nat → va_E} {q1 : Nat} {op : Int32} {rd : Int32} {ra : Int32} {rb : Int32} {rn : Int32} {mk : Int32} (hq1 : q1 < n) (e1 : cs q1 = .inr (1, [.int op, .int rd, .int ra, .int rb, .int rn, .int mk]))  : kw_mi l y_I_isVector w_I_isVector (kr 0) D kc tys ad n cs [.ref (ad q1)] (fun r9 c9 => r9 = kv_I_isVector op ∧ c9 = cs) := by
  refine kw_of (cc := b_I_isVector) (maxL := 1) (ret := (some .boolean)) (by decide) rfl (Nat.le_of_ble_eq_true rfl) ?_
  intro p e s m below meth c ls hx hb hr hml hown hts hlocks hP hK hl
  have hg : ∀ w9 ∈ kg_G, w9.before [.ref (ad q1)].toArray s = true := fun w9 h9 => hts w9 (List.mem_cons_of_mem _ h9)
  have hown : s.vm.findClass "LaneMachine$Instruction" = some m.cls := hown
  have hA : ∀ k, k < n → kw_A ad n (ad k) := fun k hk => ⟨k, hk, rfl⟩
  have hS : va_S (kw_A ad n) s.heap s.heap [] := va_S.rf
  have hl : lv_has ls 1 [(0, .ref (ad q1))] := hl
  refine lv_aload_n hx hb d_I_isVector_0 rfl (lv_at hl 0 rfl) ?_
  refine kw_get hx hb hg in_I hown hK hP q1 hq1 e1 rfl 0 (by decide) (hg _ kg_71) rfl rfl d_I_isVector_1 ?_
  refine lv_bipush (v := 8) hx hb d_I_isVector_4 (by decide) ?_
  refine lv_icmp_lt (tgt := 13) hx hb d_I_isVector_6 (by decide) (fun h1 => ?_) (fun h1 => ?_)
  · refine lv_iconst (v := 0) hx hb d_I_isVector_13 (by decide) ?_
    exact kw_zret hx hb hr hlocks hP hK hS (Or.inl rfl) ⟨by rw [kv_I_isVector, if_pos h1], rfl⟩ d_I_isVector_14
  · refine lv_iconst (v := 1) hx hb d_I_isVector_9 (by decide) ?_
    refine lv_goto (tgt := 14) hx hb d_I_isVector_10 (by decide) ?_
    exact kw_zret hx hb hr hlocks hP hK hS (Or.inr rfl) ⟨by rw [kv_I_isVector, if_neg h1], rfl⟩ d_I_isVector_14

def kv_I_needsEmptyQueue (op : Int32) : Int32 := if op = 7 then 1 else if op = 6 then 1 else if op = 5 then 1 else 0
set_option maxRecDepth 100000 in
set_option maxHeartbeats 4000000 in
theorem c_I_needsEmptyQueue (l : Launch) {D : va_G} {tys : List (ClassId × FieldType)} {ad : Nat → Nat} {n : Nat} {cs : Nat → va_E} {q1 : Nat} {op : Int32} {rd : Int32} {ra : Int32} {rb : Int32} {rn : Int32} {mk : Int32} (hq1 : q1 < n) (e1 : cs q1 = .inr (1, [.int op, .int rd, .int ra, .int rb, .int rn, .int mk]))  : kw_mi l y_I_needsEmptyQueue w_I_needsEmptyQueue (kr 0) D kc tys ad n cs [.ref (ad q1)] (fun r9 c9 => r9 = kv_I_needsEmptyQueue op ∧ c9 = cs) := by
  refine kw_of (cc := b_I_needsEmptyQueue) (maxL := 1) (ret := (some .boolean)) (by decide) rfl (Nat.le_of_ble_eq_true rfl) ?_
  intro p e s m below meth c ls hx hb hr hml hown hts hlocks hP hK hl
  have hg : ∀ w9 ∈ kg_G, w9.before [.ref (ad q1)].toArray s = true := fun w9 h9 => hts w9 (List.mem_cons_of_mem _ h9)
  have hown : s.vm.findClass "LaneMachine$Instruction" = some m.cls := hown
  have hA : ∀ k, k < n → kw_A ad n (ad k) := fun k hk => ⟨k, hk, rfl⟩
  have hS : va_S (kw_A ad n) s.heap s.heap [] := va_S.rf
  have hl : lv_has ls 1 [(0, .ref (ad q1))] := hl
  refine lv_aload_n hx hb d_I_needsEmptyQueue_0 rfl (lv_at hl 0 rfl) ?_
  refine kw_get hx hb hg in_I hown hK hP q1 hq1 e1 rfl 0 (by decide) (hg _ kg_71) rfl rfl d_I_needsEmptyQueue_1 ?_
  refine lv_bipush (v := 7) hx hb d_I_needsEmptyQueue_4 (by decide) ?_
  refine lv_icmp_eq (tgt := 26) hx hb d_I_needsEmptyQueue_6 (by decide) (fun h1 => ?_) (fun h1 => ?_)
  · refine lv_iconst (v := 1) hx hb d_I_needsEmptyQueue_26 (by decide) ?_
    refine lv_goto (tgt := 31) hx hb d_I_needsEmptyQueue_27 (by decide) ?_
    exact kw_zret hx hb hr hlocks hP hK hS (Or.inr rfl) ⟨by rw [kv_I_needsEmptyQueue, if_pos h1], rfl⟩ d_I_needsEmptyQueue_31
  · refine lv_aload_n hx hb d_I_needsEmptyQueue_9 rfl (lv_at hl 0 rfl) ?_
    refine kw_get hx hb hg in_I hown hK hP q1 hq1 e1 rfl 0 (by decide) (hg _ kg_71) rfl rfl d_I_needsEmptyQueue_10 ?_
    refine lv_bipush (v := 6) hx hb d_I_needsEmptyQueue_13 (by decide) ?_
    refine lv_icmp_eq (tgt := 26) hx hb d_I_needsEmptyQueue_15 (by decide) (fun h2 => ?_) (fun h2 => ?_)
    · refine lv_iconst (v := 1) hx hb d_I_needsEmptyQueue_26 (by decide) ?_
      refine lv_goto (tgt := 31) hx hb d_I_needsEmptyQueue_27 (by decide) ?_
      exact kw_zret hx hb hr hlocks hP hK hS (Or.inr rfl) ⟨by rw [kv_I_needsEmptyQueue, if_neg h1, if_pos h2], rfl⟩ d_I_needsEmptyQueue_31
    · refine lv_aload_n hx hb d_I_needsEmptyQueue_18 rfl (lv_at hl 0 rfl) ?_
      refine kw_get hx hb hg in_I hown hK hP q1 hq1 e1 rfl 0 (by decide) (hg _ kg_71) rfl rfl d_I_needsEmptyQueue_19 ?_
      refine lv_iconst (v := 5) hx hb d_I_needsEmptyQueue_22 (by decide) ?_
      refine lv_icmp_ne (tgt := 30) hx hb d_I_needsEmptyQueue_23 (by decide) (fun h3 => ?_) (fun h3 => ?_)
      · refine lv_iconst (v := 0) hx hb d_I_needsEmptyQueue_30 (by decide) ?_
        exact kw_zret hx hb hr hlocks hP hK hS (Or.inl rfl) ⟨by rw [kv_I_needsEmptyQueue, if_neg h1, if_neg h2, if_neg h3], rfl⟩ d_I_needsEmptyQueue_31
      · refine lv_iconst (v := 1) hx hb d_I_needsEmptyQueue_26 (by decide) ?_
        refine lv_goto (tgt := 31) hx hb d_I_needsEmptyQueue_27 (by decide) ?_
        exact kw_zret hx hb hr hlocks hP hK hS (Or.inr rfl) ⟨by rw [kv_I_needsEmptyQueue, if_neg h1, if_neg h2, if_pos h3], rfl⟩ d_I_needsEmptyQueue_31

def kv_I_unit (op : Int32) : Int32 := if op < 17 then (if op = 10 then 1 else if op < 14 then 0 else 1) else 2
set_option maxRecDepth 100000 in
set_option maxHeartbeats 4000000 in
theorem c_I_unit (l : Launch) {D : va_G} {tys : List (ClassId × FieldType)} {ad : Nat → Nat} {n : Nat} {cs : Nat → va_E} {q1 : Nat} {op : Int32} {rd : Int32} {ra : Int32} {rb : Int32} {rn : Int32} {mk : Int32} (hq1 : q1 < n) (e1 : cs q1 = .inr (1, [.int op, .int rd, .int ra, .int rb, .int rn, .int mk]))  : kw_mi l y_I_unit w_I_unit (kr 0) D kc tys ad n cs [.ref (ad q1)] (fun r9 c9 => r9 = kv_I_unit op ∧ c9 = cs) := by
  refine kw_of (cc := b_I_unit) (maxL := 1) (ret := (some .int)) (by decide) rfl (Nat.le_of_ble_eq_true rfl) ?_
  intro p e s m below meth c ls hx hb hr hml hown hts hlocks hP hK hl
  have hg : ∀ w9 ∈ kg_G, w9.before [.ref (ad q1)].toArray s = true := fun w9 h9 => hts w9 (List.mem_cons_of_mem _ h9)
  have hown : s.vm.findClass "LaneMachine$Instruction" = some m.cls := hown
  have hA : ∀ k, k < n → kw_A ad n (ad k) := fun k hk => ⟨k, hk, rfl⟩
  have hS : va_S (kw_A ad n) s.heap s.heap [] := va_S.rf
  have hl : lv_has ls 1 [(0, .ref (ad q1))] := hl
  refine lv_aload_n hx hb d_I_unit_0 rfl (lv_at hl 0 rfl) ?_
  refine kw_get hx hb hg in_I hown hK hP q1 hq1 e1 rfl 0 (by decide) (hg _ kg_71) rfl rfl d_I_unit_1 ?_
  refine lv_bipush (v := 17) hx hb d_I_unit_4 (by decide) ?_
  refine lv_icmp_lt (tgt := 11) hx hb d_I_unit_6 (by decide) (fun h1 => ?_) (fun h1 => ?_)
  · refine lv_aload_n hx hb d_I_unit_11 rfl (lv_at hl 0 rfl) ?_
    refine kw_get hx hb hg in_I hown hK hP q1 hq1 e1 rfl 0 (by decide) (hg _ kg_71) rfl rfl d_I_unit_12 ?_
    refine lv_bipush (v := 10) hx hb d_I_unit_15 (by decide) ?_
    refine lv_icmp_eq (tgt := 29) hx hb d_I_unit_17 (by decide) (fun h2 => ?_) (fun h2 => ?_)
    · refine lv_iconst (v := 1) hx hb d_I_unit_29 (by decide) ?_
      refine lv_goto (tgt := 34) hx hb d_I_unit_30 (by decide) ?_
      exact kw_iret hx hb hr hlocks hP hK hS ⟨by rw [kv_I_unit, if_pos h1, if_pos h2], rfl⟩ d_I_unit_34
    · refine lv_aload_n hx hb d_I_unit_20 rfl (lv_at hl 0 rfl) ?_
      refine kw_get hx hb hg in_I hown hK hP q1 hq1 e1 rfl 0 (by decide) (hg _ kg_71) rfl rfl d_I_unit_21 ?_
      refine lv_bipush (v := 14) hx hb d_I_unit_24 (by decide) ?_
      refine lv_icmp_lt (tgt := 33) hx hb d_I_unit_26 (by decide) (fun h3 => ?_) (fun h3 => ?_)
      · refine lv_iconst (v := 0) hx hb d_I_unit_33 (by decide) ?_
        exact kw_iret hx hb hr hlocks hP hK hS ⟨by rw [kv_I_unit, if_pos h1, if_neg h2, if_pos h3], rfl⟩ d_I_unit_34
      · refine lv_iconst (v := 1) hx hb d_I_unit_29 (by decide) ?_
        refine lv_goto (tgt := 34) hx hb d_I_unit_30 (by decide) ?_
        exact kw_iret hx hb hr hlocks hP hK hS ⟨by rw [kv_I_unit, if_pos h1, if_neg h2, if_neg h3], rfl⟩ d_I_unit_34
  · refine lv_iconst (v := 2) hx hb d_I_unit_9 (by decide) ?_
    exact kw_iret hx hb hr hlocks hP hK hS ⟨by rw [kv_I_unit, if_neg h1], rfl⟩ d_I_unit_10

def kv_I_hasGroupAtD (op : Int32) : Int32 := if op = 12 then 0 else if op = 14 then 0 else 1
set_option maxRecDepth 100000 in
set_option maxHeartbeats 4000000 in
theorem c_I_hasGroupAtD (l : Launch) {D : va_G} {tys : List (ClassId × FieldType)} {ad : Nat → Nat} {n : Nat} {cs : Nat → va_E} {q1 : Nat} {op : Int32} {rd : Int32} {ra : Int32} {rb : Int32} {rn : Int32} {mk : Int32} (hq1 : q1 < n) (e1 : cs q1 = .inr (1, [.int op, .int rd, .int ra, .int rb, .int rn, .int mk]))  : kw_mi l y_I_hasGroupAtD w_I_hasGroupAtD (kr 0) D kc tys ad n cs [.ref (ad q1)] (fun r9 c9 => r9 = kv_I_hasGroupAtD op ∧ c9 = cs) := by
  refine kw_of (cc := b_I_hasGroupAtD) (maxL := 1) (ret := (some .boolean)) (by decide) rfl (Nat.le_of_ble_eq_true rfl) ?_
  intro p e s m below meth c ls hx hb hr hml hown hts hlocks hP hK hl
  have hg : ∀ w9 ∈ kg_G, w9.before [.ref (ad q1)].toArray s = true := fun w9 h9 => hts w9 (List.mem_cons_of_mem _ h9)
  have hown : s.vm.findClass "LaneMachine$Instruction" = some m.cls := hown
  have hA : ∀ k, k < n → kw_A ad n (ad k) := fun k hk => ⟨k, hk, rfl⟩
  have hS : va_S (kw_A ad n) s.heap s.heap [] := va_S.rf
  have hl : lv_has ls 1 [(0, .ref (ad q1))] := hl
  refine lv_aload_n hx hb d_I_hasGroupAtD_0 rfl (lv_at hl 0 rfl) ?_
  refine kw_get hx hb hg in_I hown hK hP q1 hq1 e1 rfl 0 (by decide) (hg _ kg_71) rfl rfl d_I_hasGroupAtD_1 ?_
  refine lv_bipush (v := 12) hx hb d_I_hasGroupAtD_4 (by decide) ?_
  refine lv_icmp_eq (tgt := 22) hx hb d_I_hasGroupAtD_6 (by decide) (fun h1 => ?_) (fun h1 => ?_)
  · refine lv_iconst (v := 0) hx hb d_I_hasGroupAtD_22 (by decide) ?_
    exact kw_zret hx hb hr hlocks hP hK hS (Or.inl rfl) ⟨by rw [kv_I_hasGroupAtD, if_pos h1], rfl⟩ d_I_hasGroupAtD_23
  · refine lv_aload_n hx hb d_I_hasGroupAtD_9 rfl (lv_at hl 0 rfl) ?_
    refine kw_get hx hb hg in_I hown hK hP q1 hq1 e1 rfl 0 (by decide) (hg _ kg_71) rfl rfl d_I_hasGroupAtD_10 ?_
    refine lv_bipush (v := 14) hx hb d_I_hasGroupAtD_13 (by decide) ?_
    refine lv_icmp_eq (tgt := 22) hx hb d_I_hasGroupAtD_15 (by decide) (fun h2 => ?_) (fun h2 => ?_)
    · refine lv_iconst (v := 0) hx hb d_I_hasGroupAtD_22 (by decide) ?_
      exact kw_zret hx hb hr hlocks hP hK hS (Or.inl rfl) ⟨by rw [kv_I_hasGroupAtD, if_neg h1, if_pos h2], rfl⟩ d_I_hasGroupAtD_23
    · refine lv_iconst (v := 1) hx hb d_I_hasGroupAtD_18 (by decide) ?_
      refine lv_goto (tgt := 23) hx hb d_I_hasGroupAtD_19 (by decide) ?_
      exact kw_zret hx hb hr hlocks hP hK hS (Or.inr rfl) ⟨by rw [kv_I_hasGroupAtD, if_neg h1, if_neg h2], rfl⟩ d_I_hasGroupAtD_23

def kv_I_hasGroupAtA (op : Int32) : Int32 := if 16 < op then 0 else 1
set_option maxRecDepth 100000 in
set_option maxHeartbeats 4000000 in
theorem c_I_hasGroupAtA (l : Launch) {D : va_G} {tys : List (ClassId × FieldType)} {ad : Nat → Nat} {n : Nat} {cs : Nat → va_E} {q1 : Nat} {op : Int32} {rd : Int32} {ra : Int32} {rb : Int32} {rn : Int32} {mk : Int32} (hq1 : q1 < n) (e1 : cs q1 = .inr (1, [.int op, .int rd, .int ra, .int rb, .int rn, .int mk]))  : kw_mi l y_I_hasGroupAtA w_I_hasGroupAtA (kr 0) D kc tys ad n cs [.ref (ad q1)] (fun r9 c9 => r9 = kv_I_hasGroupAtA op ∧ c9 = cs) := by
  refine kw_of (cc := b_I_hasGroupAtA) (maxL := 1) (ret := (some .boolean)) (by decide) rfl (Nat.le_of_ble_eq_true rfl) ?_
  intro p e s m below meth c ls hx hb hr hml hown hts hlocks hP hK hl
  have hg : ∀ w9 ∈ kg_G, w9.before [.ref (ad q1)].toArray s = true := fun w9 h9 => hts w9 (List.mem_cons_of_mem _ h9)
  have hown : s.vm.findClass "LaneMachine$Instruction" = some m.cls := hown
  have hA : ∀ k, k < n → kw_A ad n (ad k) := fun k hk => ⟨k, hk, rfl⟩
  have hS : va_S (kw_A ad n) s.heap s.heap [] := va_S.rf
  have hl : lv_has ls 1 [(0, .ref (ad q1))] := hl
  refine lv_aload_n hx hb d_I_hasGroupAtA_0 rfl (lv_at hl 0 rfl) ?_
  refine kw_get hx hb hg in_I hown hK hP q1 hq1 e1 rfl 0 (by decide) (hg _ kg_71) rfl rfl d_I_hasGroupAtA_1 ?_
  refine lv_bipush (v := 16) hx hb d_I_hasGroupAtA_4 (by decide) ?_
  refine lv_icmp_gt (tgt := 13) hx hb d_I_hasGroupAtA_6 (by decide) (fun h1 => ?_) (fun h1 => ?_)
  · refine lv_iconst (v := 0) hx hb d_I_hasGroupAtA_13 (by decide) ?_
    exact kw_zret hx hb hr hlocks hP hK hS (Or.inl rfl) ⟨by rw [kv_I_hasGroupAtA, if_pos h1], rfl⟩ d_I_hasGroupAtA_14
  · refine lv_iconst (v := 1) hx hb d_I_hasGroupAtA_9 (by decide) ?_
    refine lv_goto (tgt := 14) hx hb d_I_hasGroupAtA_10 (by decide) ?_
    exact kw_zret hx hb hr hlocks hP hK hS (Or.inr rfl) ⟨by rw [kv_I_hasGroupAtA, if_neg h1], rfl⟩ d_I_hasGroupAtA_14

def kv_I_hasGroupAtB (op : Int32) : Int32 := if op = 19 then 1 else if 16 < op then 0 else if op = 11 then 0 else if op = 15 then 0 else if op = 14 then 0 else 1
set_option maxRecDepth 100000 in
set_option maxHeartbeats 4000000 in
theorem c_I_hasGroupAtB (l : Launch) {D : va_G} {tys : List (ClassId × FieldType)} {ad : Nat → Nat} {n : Nat} {cs : Nat → va_E} {q1 : Nat} {op : Int32} {rd : Int32} {ra : Int32} {rb : Int32} {rn : Int32} {mk : Int32} (hq1 : q1 < n) (e1 : cs q1 = .inr (1, [.int op, .int rd, .int ra, .int rb, .int rn, .int mk]))  : kw_mi l y_I_hasGroupAtB w_I_hasGroupAtB (kr 0) D kc tys ad n cs [.ref (ad q1)] (fun r9 c9 => r9 = kv_I_hasGroupAtB op ∧ c9 = cs) := by
  refine kw_of (cc := b_I_hasGroupAtB) (maxL := 1) (ret := (some .boolean)) (by decide) rfl (Nat.le_of_ble_eq_true rfl) ?_
  intro p e s m below meth c ls hx hb hr hml hown hts hlocks hP hK hl
  have hg : ∀ w9 ∈ kg_G, w9.before [.ref (ad q1)].toArray s = true := fun w9 h9 => hts w9 (List.mem_cons_of_mem _ h9)
  have hown : s.vm.findClass "LaneMachine$Instruction" = some m.cls := hown
  have hA : ∀ k, k < n → kw_A ad n (ad k) := fun k hk => ⟨k, hk, rfl⟩
  have hS : va_S (kw_A ad n) s.heap s.heap [] := va_S.rf
  have hl : lv_has ls 1 [(0, .ref (ad q1))] := hl
  refine lv_aload_n hx hb d_I_hasGroupAtB_0 rfl (lv_at hl 0 rfl) ?_
  refine kw_get hx hb hg in_I hown hK hP q1 hq1 e1 rfl 0 (by decide) (hg _ kg_71) rfl rfl d_I_hasGroupAtB_1 ?_
  refine lv_bipush (v := 19) hx hb d_I_hasGroupAtB_4 (by decide) ?_
  refine lv_icmp_eq (tgt := 45) hx hb d_I_hasGroupAtB_6 (by decide) (fun h1 => ?_) (fun h1 => ?_)
  · refine lv_iconst (v := 1) hx hb d_I_hasGroupAtB_45 (by decide) ?_
    refine lv_goto (tgt := 50) hx hb d_I_hasGroupAtB_46 (by decide) ?_
    exact kw_zret hx hb hr hlocks hP hK hS (Or.inr rfl) ⟨by rw [kv_I_hasGroupAtB, if_pos h1], rfl⟩ d_I_hasGroupAtB_50
  · refine lv_aload_n hx hb d_I_hasGroupAtB_9 rfl (lv_at hl 0 rfl) ?_
    refine kw_get hx hb hg in_I hown hK hP q1 hq1 e1 rfl 0 (by decide) (hg _ kg_71) rfl rfl d_I_hasGroupAtB_10 ?_
    refine lv_bipush (v := 16) hx hb d_I_hasGroupAtB_13 (by decide) ?_
    refine lv_icmp_gt (tgt := 49) hx hb d_I_hasGroupAtB_15 (by decide) (fun h2 => ?_) (fun h2 => ?_)
    · refine lv_iconst (v := 0) hx hb d_I_hasGroupAtB_49 (by decide) ?_
      exact kw_zret hx hb hr hlocks hP hK hS (Or.inl rfl) ⟨by rw [kv_I_hasGroupAtB, if_neg h1, if_pos h2], rfl⟩ d_I_hasGroupAtB_50
    · refine lv_aload_n hx hb d_I_hasGroupAtB_18 rfl (lv_at hl 0 rfl) ?_
      refine kw_get hx hb hg in_I hown hK hP q1 hq1 e1 rfl 0 (by decide) (hg _ kg_71) rfl rfl d_I_hasGroupAtB_19 ?_
      refine lv_bipush (v := 11) hx hb d_I_hasGroupAtB_22 (by decide) ?_
      refine lv_icmp_eq (tgt := 49) hx hb d_I_hasGroupAtB_24 (by decide) (fun h3 => ?_) (fun h3 => ?_)
      · refine lv_iconst (v := 0) hx hb d_I_hasGroupAtB_49 (by decide) ?_
        exact kw_zret hx hb hr hlocks hP hK hS (Or.inl rfl) ⟨by rw [kv_I_hasGroupAtB, if_neg h1, if_neg h2, if_pos h3], rfl⟩ d_I_hasGroupAtB_50
      · refine lv_aload_n hx hb d_I_hasGroupAtB_27 rfl (lv_at hl 0 rfl) ?_
        refine kw_get hx hb hg in_I hown hK hP q1 hq1 e1 rfl 0 (by decide) (hg _ kg_71) rfl rfl d_I_hasGroupAtB_28 ?_
        refine lv_bipush (v := 15) hx hb d_I_hasGroupAtB_31 (by decide) ?_
        refine lv_icmp_eq (tgt := 49) hx hb d_I_hasGroupAtB_33 (by decide) (fun h4 => ?_) (fun h4 => ?_)
        · refine lv_iconst (v := 0) hx hb d_I_hasGroupAtB_49 (by decide) ?_
          exact kw_zret hx hb hr hlocks hP hK hS (Or.inl rfl) ⟨by rw [kv_I_hasGroupAtB, if_neg h1, if_neg h2, if_neg h3, if_pos h4], rfl⟩ d_I_hasGroupAtB_50
        · refine lv_aload_n hx hb d_I_hasGroupAtB_36 rfl (lv_at hl 0 rfl) ?_
          refine kw_get hx hb hg in_I hown hK hP q1 hq1 e1 rfl 0 (by decide) (hg _ kg_71) rfl rfl d_I_hasGroupAtB_37 ?_
          refine lv_bipush (v := 14) hx hb d_I_hasGroupAtB_40 (by decide) ?_
          refine lv_icmp_eq (tgt := 49) hx hb d_I_hasGroupAtB_42 (by decide) (fun h5 => ?_) (fun h5 => ?_)
          · refine lv_iconst (v := 0) hx hb d_I_hasGroupAtB_49 (by decide) ?_
            exact kw_zret hx hb hr hlocks hP hK hS (Or.inl rfl) ⟨by rw [kv_I_hasGroupAtB, if_neg h1, if_neg h2, if_neg h3, if_neg h4, if_pos h5], rfl⟩ d_I_hasGroupAtB_50
          · refine lv_iconst (v := 1) hx hb d_I_hasGroupAtB_45 (by decide) ?_
            refine lv_goto (tgt := 50) hx hb d_I_hasGroupAtB_46 (by decide) ?_
            exact kw_zret hx hb hr hlocks hP hK hS (Or.inr rfl) ⟨by rw [kv_I_hasGroupAtB, if_neg h1, if_neg h2, if_neg h3, if_neg h4, if_neg h5], rfl⟩ d_I_hasGroupAtB_50

def kv_S_spoilsMask (op : Int32) (rd : Int32) (mk : Int32) : Int32 := if mk = 0 then 0 else if rd = 0 then (if op = 12 then 0 else if op = 18 then 0 else 1) else 0
set_option maxRecDepth 100000 in
set_option maxHeartbeats 4000000 in
theorem c_S_spoilsMask (l : Launch) {D : va_G} {tys : List (ClassId × FieldType)} {ad : Nat → Nat} {n : Nat} {cs : Nat → va_E} {q1 : Nat} {op : Int32} {rd : Int32} {ra : Int32} {rb : Int32} {rn : Int32} {mk : Int32} (hq1 : q1 < n) (e1 : cs q1 = .inr (1, [.int op, .int rd, .int ra, .int rb, .int rn, .int mk]))  : kw_mi l y_S_spoilsMask w_S_spoilsMask (kr 0) D kc tys ad n cs [.ref (ad q1)] (fun r9 c9 => r9 = kv_S_spoilsMask op rd mk ∧ c9 = cs) := by
  refine kw_of (cc := b_S_spoilsMask) (maxL := 1) (ret := (some .boolean)) (by decide) rfl (Nat.le_of_ble_eq_true rfl) ?_
  intro p e s m below meth c ls hx hb hr hml hown hts hlocks hP hK hl
  have hg : ∀ w9 ∈ kg_G, w9.before [.ref (ad q1)].toArray s = true := fun w9 h9 => hts w9 (List.mem_cons_of_mem _ h9)
  have hown : s.vm.findClass "LaneMachine$Setting" = some m.cls := hown
  have hA : ∀ k, k < n → kw_A ad n (ad k) := fun k hk => ⟨k, hk, rfl⟩
  have hS : va_S (kw_A ad n) s.heap s.heap [] := va_S.rf
  have hl : lv_has ls 1 [(0, .ref (ad q1))] := hl
  refine lv_aload_n hx hb d_S_spoilsMask_0 rfl (lv_at hl 0 rfl) ?_
  refine kw_get hx hb hg in_I hown hK hP q1 hq1 e1 rfl 5 (by decide) (hg _ kg_90) rfl rfl d_S_spoilsMask_1 ?_
  refine lv_if_eq (tgt := 36) hx hb d_S_spoilsMask_4 (by decide) (fun h1 => ?_) (fun h1 => ?_)
  · refine lv_iconst (v := 0) hx hb d_S_spoilsMask_36 (by decide) ?_
    exact kw_zret hx hb hr hlocks hP hK hS (Or.inl rfl) ⟨by rw [kv_S_spoilsMask, if_pos h1], rfl⟩ d_S_spoilsMask_37
  · refine lv_aload_n hx hb d_S_spoilsMask_7 rfl (lv_at hl 0 rfl) ?_
    refine kw_get hx hb hg in_I hown hK hP q1 hq1 e1 rfl 1 (by decide) (hg _ kg_76) rfl rfl d_S_spoilsMask_8 ?_
    refine lv_if_ne (tgt := 36) hx hb d_S_spoilsMask_11 (by decide) (fun h2 => ?_) (fun h2 => ?_)
    · refine lv_iconst (v := 0) hx hb d_S_spoilsMask_36 (by decide) ?_
      exact kw_zret hx hb hr hlocks hP hK hS (Or.inl rfl) ⟨by rw [kv_S_spoilsMask, if_neg h1, if_neg h2], rfl⟩ d_S_spoilsMask_37
    · refine lv_aload_n hx hb d_S_spoilsMask_14 rfl (lv_at hl 0 rfl) ?_
      refine kw_get hx hb hg in_I hown hK hP q1 hq1 e1 rfl 0 (by decide) (hg _ kg_73) rfl rfl d_S_spoilsMask_15 ?_
      refine lv_bipush (v := 12) hx hb d_S_spoilsMask_18 (by decide) ?_
      refine lv_icmp_eq (tgt := 36) hx hb d_S_spoilsMask_20 (by decide) (fun h3 => ?_) (fun h3 => ?_)
      · refine lv_iconst (v := 0) hx hb d_S_spoilsMask_36 (by decide) ?_
        exact kw_zret hx hb hr hlocks hP hK hS (Or.inl rfl) ⟨by rw [kv_S_spoilsMask, if_neg h1, if_pos h2, if_pos h3], rfl⟩ d_S_spoilsMask_37
      · refine lv_aload_n hx hb d_S_spoilsMask_23 rfl (lv_at hl 0 rfl) ?_
        refine kw_get hx hb hg in_I hown hK hP q1 hq1 e1 rfl 0 (by decide) (hg _ kg_73) rfl rfl d_S_spoilsMask_24 ?_
        refine lv_bipush (v := 18) hx hb d_S_spoilsMask_27 (by decide) ?_
        refine lv_icmp_eq (tgt := 36) hx hb d_S_spoilsMask_29 (by decide) (fun h4 => ?_) (fun h4 => ?_)
        · refine lv_iconst (v := 0) hx hb d_S_spoilsMask_36 (by decide) ?_
          exact kw_zret hx hb hr hlocks hP hK hS (Or.inl rfl) ⟨by rw [kv_S_spoilsMask, if_neg h1, if_pos h2, if_neg h3, if_pos h4], rfl⟩ d_S_spoilsMask_37
        · refine lv_iconst (v := 1) hx hb d_S_spoilsMask_32 (by decide) ?_
          refine lv_goto (tgt := 37) hx hb d_S_spoilsMask_33 (by decide) ?_
          exact kw_zret hx hb hr hlocks hP hK hS (Or.inr rfl) ⟨by rw [kv_S_spoilsMask, if_neg h1, if_pos h2, if_neg h3, if_neg h4], rfl⟩ d_S_spoilsMask_37

def kv_S_isInWideGroup (gp : Int32) (x : Int32) (y : Int32) : Int32 := if y < x then 0 else if (x + (2 * (kv_S_group gp))) ≤ y then 0 else 1
set_option maxRecDepth 100000 in
set_option maxHeartbeats 4000000 in
theorem c_S_isInWideGroup (l : Launch) {D : va_G} {tys : List (ClassId × FieldType)} {ad : Nat → Nat} {n : Nat} {cs : Nat → va_E} {q0 : Nat} {wp : Int32} {gp : Int32} {ln : Int32} {sa : Int32} {x : Int32} {y : Int32} (hq0 : q0 < n) (e0 : cs q0 = .inr (2, [.int wp, .int gp, .int ln, .int sa]))  : kw_mi l y_S_isInWideGroup w_S_isInWideGroup (kr 1) D kc tys ad n cs [.ref (ad q0), .int x, .int y] (fun r9 c9 => r9 = kv_S_isInWideGroup gp x y ∧ c9 = cs) := by
  refine kw_of (cc := b_S_isInWideGroup) (maxL := 3) (ret := (some .boolean)) (by decide) rfl (Nat.le_of_ble_eq_true rfl) ?_
  intro p e s m below meth c ls hx hb hr hml hown hts hlocks hP hK hl
  have hg : ∀ w9 ∈ kg_G, w9.before [.ref (ad q0), .int x, .int y].toArray s = true := fun w9 h9 => hts w9 (List.mem_cons_of_mem _ h9)
  have hown : s.vm.findClass "LaneMachine$Setting" = some m.cls := hown
  have hA : ∀ k, k < n → kw_A ad n (ad k) := fun k hk => ⟨k, hk, rfl⟩
  have hS : va_S (kw_A ad n) s.heap s.heap [] := va_S.rf
  have hl : lv_has ls 3 [(0, .ref (ad q0)), (1, .int x), (2, .int y)] := hl
  refine lv_iload_n hx hb d_S_isInWideGroup_0 rfl (lv_at hl 2 rfl) ?_
  refine lv_iload_n hx hb d_S_isInWideGroup_1 rfl (lv_at hl 1 rfl) ?_
  refine lv_icmp_lt (tgt := 21) hx hb d_S_isInWideGroup_2 (by decide) (fun h1 => ?_) (fun h1 => ?_)
  · refine lv_iconst (v := 0) hx hb d_S_isInWideGroup_21 (by decide) ?_
    exact kw_zret hx hb hr hlocks hP hK hS (Or.inl rfl) ⟨by rw [kv_S_isInWideGroup, if_pos h1], rfl⟩ d_S_isInWideGroup_22
  · refine lv_iload_n hx hb d_S_isInWideGroup_5 rfl (lv_at hl 2 rfl) ?_
    refine lv_iload_n hx hb d_S_isInWideGroup_6 rfl (lv_at hl 1 rfl) ?_
    refine lv_iconst (v := 2) hx hb d_S_isInWideGroup_7 (by decide) ?_
    refine lv_aload_n hx hb d_S_isInWideGroup_8 rfl (lv_at hl 0 rfl) ?_
    refine kw_callix (kw_rV (As := []) (rest := [.int 2, .int x, .int y]) (q0 := q0) ⟨hx, hb, hml, hown, hg⟩ ⟨callB_of 0 hg (kg_goodG kg_236) rfl rfl rfl (hg _ kg_4) (hg _ kg_482) (by decide +kernel) ⟨by decide, by decide⟩, hg _ kg_234, hg _ kg_235⟩ (c_S_group l hq0 e0 ) hK hP hq0 e0 rfl rfl hl.1 rfl (Nat.le_of_ble_eq_true rfl) d_S_isInWideGroup_9 ⟨Nat.zero_le _, Nat.zero_le _⟩) hA hS (fun H locs hP hS => ?_)
    refine lv_imul hx hb d_S_isInWideGroup_12 ?_
    refine lv_iadd hx hb d_S_isInWideGroup_13 ?_
    refine lv_icmp_ge (tgt := 21) hx hb d_S_isInWideGroup_14 (by decide) (fun h2 => ?_) (fun h2 => ?_)
    · refine lv_iconst (v := 0) hx hb d_S_isInWideGroup_21 (by decide) ?_
      exact kw_zret hx hb hr hlocks hP hK hS (Or.inl rfl) ⟨by rw [kv_S_isInWideGroup, if_neg h1, if_pos h2], rfl⟩ d_S_isInWideGroup_22
    · refine lv_iconst (v := 1) hx hb d_S_isInWideGroup_17 (by decide) ?_
      refine lv_goto (tgt := 22) hx hb d_S_isInWideGroup_18 (by decide) ?_
      exact kw_zret hx hb hr hlocks hP hK hS (Or.inr rfl) ⟨by rw [kv_S_isInWideGroup, if_neg h1, if_neg h2], rfl⟩ d_S_isInWideGroup_22

def kv_S_isTooWide (wp : Int32) (gp : Int32) (op : Int32) : Int32 := if op = 13 then (if (kv_S_width wp) = 4 then 1 else if (kv_S_group gp) = 4 then 1 else 0) else 0
set_option maxRecDepth 100000 in
set_option maxHeartbeats 4000000 in
theorem c_S_isTooWide (l : Launch) {D : va_G} {tys : List (ClassId × FieldType)} {ad : Nat → Nat} {n : Nat} {cs : Nat → va_E} {q0 : Nat} {wp : Int32} {gp : Int32} {ln : Int32} {sa : Int32} {q1 : Nat} {op : Int32} {rd : Int32} {ra : Int32} {rb : Int32} {rn : Int32} {mk : Int32} (hq0 : q0 < n) (e0 : cs q0 = .inr (2, [.int wp, .int gp, .int ln, .int sa])) (hq1 : q1 < n) (e1 : cs q1 = .inr (1, [.int op, .int rd, .int ra, .int rb, .int rn, .int mk]))  : kw_mi l y_S_isTooWide w_S_isTooWide (kr 1) D kc tys ad n cs [.ref (ad q0), .ref (ad q1)] (fun r9 c9 => r9 = kv_S_isTooWide wp gp op ∧ c9 = cs) := by
  refine kw_of (cc := b_S_isTooWide) (maxL := 2) (ret := (some .boolean)) (by decide) rfl (Nat.le_of_ble_eq_true rfl) ?_
  intro p e s m below meth c ls hx hb hr hml hown hts hlocks hP hK hl
  have hg : ∀ w9 ∈ kg_G, w9.before [.ref (ad q0), .ref (ad q1)].toArray s = true := fun w9 h9 => hts w9 (List.mem_cons_of_mem _ h9)
  have hown : s.vm.findClass "LaneMachine$Setting" = some m.cls := hown
  have hA : ∀ k, k < n → kw_A ad n (ad k) := fun k hk => ⟨k, hk, rfl⟩
  have hS : va_S (kw_A ad n) s.heap s.heap [] := va_S.rf
  have hl : lv_has ls 2 [(0, .ref (ad q0)), (1, .ref (ad q1))] := hl
  refine lv_aload_n hx hb d_S_isTooWide_0 rfl (lv_at hl 1 rfl) ?_
  refine kw_get hx hb hg in_I hown hK hP q1 hq1 e1 rfl 0 (by decide) (hg _ kg_73) rfl rfl d_S_isTooWide_1 ?_
  refine lv_bipush (v := 13) hx hb d_S_isTooWide_4 (by decide) ?_
  refine lv_icmp_ne (tgt := 29) hx hb d_S_isTooWide_6 (by decide) (fun h1 => ?_) (fun h1 => ?_)
  · refine lv_iconst (v := 0) hx hb d_S_isTooWide_29 (by decide) ?_
    exact kw_zret hx hb hr hlocks hP hK hS (Or.inl rfl) ⟨by rw [kv_S_isTooWide, if_neg h1], rfl⟩ d_S_isTooWide_30
  · refine lv_aload_n hx hb d_S_isTooWide_9 rfl (lv_at hl 0 rfl) ?_
    refine kw_callix (kw_rV (As := []) (rest := []) (q0 := q0) ⟨hx, hb, hml, hown, hg⟩ ⟨callB_of 0 hg (kg_goodG kg_232) rfl rfl rfl (hg _ kg_4) (hg _ kg_513) (by decide +kernel) ⟨by decide, by decide⟩, hg _ kg_230, hg _ kg_231⟩ (c_S_width l hq0 e0 ) hK hP hq0 e0 rfl rfl hl.1 rfl (Nat.le_of_ble_eq_true rfl) d_S_isTooWide_10 ⟨Nat.zero_le _, Nat.zero_le _⟩) hA hS (fun H locs hP hS => ?_)
    refine lv_iconst (v := 4) hx hb d_S_isTooWide_13 (by decide) ?_
    refine lv_icmp_eq (tgt := 25) hx hb d_S_isTooWide_14 (by decide) (fun h2 => ?_) (fun h2 => ?_)
    · refine lv_iconst (v := 1) hx hb d_S_isTooWide_25 (by decide) ?_
      refine lv_goto (tgt := 30) hx hb d_S_isTooWide_26 (by decide) ?_
      exact kw_zret hx hb hr hlocks hP hK hS (Or.inr rfl) ⟨by rw [kv_S_isTooWide, if_pos h1, if_pos h2], rfl⟩ d_S_isTooWide_30
    · refine lv_aload_n hx hb d_S_isTooWide_17 rfl (lv_at hl 0 rfl) ?_
      refine kw_callix (kw_rV (As := []) (rest := []) (q0 := q0) ⟨hx, hb, hml, hown, hg⟩ ⟨callB_of 0 hg (kg_goodG kg_236) rfl rfl rfl (hg _ kg_4) (hg _ kg_482) (by decide +kernel) ⟨by decide, by decide⟩, hg _ kg_234, hg _ kg_235⟩ (c_S_group l hq0 e0 ) hK hP hq0 e0 rfl rfl hl.1 rfl (Nat.le_of_ble_eq_true rfl) d_S_isTooWide_18 ⟨Nat.zero_le _, Nat.zero_le _⟩) hA hS (fun H locs hP hS => ?_)
      refine lv_iconst (v := 4) hx hb d_S_isTooWide_21 (by decide) ?_
      refine lv_icmp_ne (tgt := 29) hx hb d_S_isTooWide_22 (by decide) (fun h3 => ?_) (fun h3 => ?_)
      · refine lv_iconst (v := 0) hx hb d_S_isTooWide_29 (by decide) ?_
        exact kw_zret hx hb hr hlocks hP hK hS (Or.inl rfl) ⟨by rw [kv_S_isTooWide, if_pos h1, if_neg h2, if_neg h3], rfl⟩ d_S_isTooWide_30
      · refine lv_iconst (v := 1) hx hb d_S_isTooWide_25 (by decide) ?_
        refine lv_goto (tgt := 30) hx hb d_S_isTooWide_26 (by decide) ?_
        exact kw_zret hx hb hr hlocks hP hK hS (Or.inr rfl) ⟨by rw [kv_S_isTooWide, if_pos h1, if_neg h2, if_pos h3], rfl⟩ d_S_isTooWide_30

def kv_S_isMisplaced (gp : Int32) (op : Int32) (rd : Int32) (ra : Int32) (rb : Int32) : Int32 := if op = 13 then (if (kv_I_hasGroupAtD op) = 0 then (if (kv_I_hasGroupAtA op) = 0 then (if (kv_I_hasGroupAtB op) = 0 then 0 else if (kv_S_isMultiple rb (kv_S_group gp)) = 0 then 1 else 0) else if (kv_S_isMultiple ra (kv_S_group gp)) = 0 then 1 else if (kv_I_hasGroupAtB op) = 0 then 0 else if (kv_S_isMultiple rb (kv_S_group gp)) = 0 then 1 else 0) else if (kv_S_isMultiple rd (2 * (kv_S_group gp))) = 0 then 1 else if (kv_I_hasGroupAtA op) = 0 then (if (kv_I_hasGroupAtB op) = 0 then 0 else if (kv_S_isMultiple rb (kv_S_group gp)) = 0 then 1 else 0) else if (kv_S_isMultiple ra (kv_S_group gp)) = 0 then 1 else if (kv_I_hasGroupAtB op) = 0 then 0 else if (kv_S_isMultiple rb (kv_S_group gp)) = 0 then 1 else 0) else if (kv_I_hasGroupAtD op) = 0 then (if (kv_I_hasGroupAtA op) = 0 then (if (kv_I_hasGroupAtB op) = 0 then 0 else if (kv_S_isMultiple rb (kv_S_group gp)) = 0 then 1 else 0) else if (kv_S_isMultiple ra (kv_S_group gp)) = 0 then 1 else if (kv_I_hasGroupAtB op) = 0 then 0 else if (kv_S_isMultiple rb (kv_S_group gp)) = 0 then 1 else 0) else if (kv_S_isMultiple rd (kv_S_group gp)) = 0 then 1 else if (kv_I_hasGroupAtA op) = 0 then (if (kv_I_hasGroupAtB op) = 0 then 0 else if (kv_S_isMultiple rb (kv_S_group gp)) = 0 then 1 else 0) else if (kv_S_isMultiple ra (kv_S_group gp)) = 0 then 1 else if (kv_I_hasGroupAtB op) = 0 then 0 else if (kv_S_isMultiple rb (kv_S_group gp)) = 0 then 1 else 0
set_option maxRecDepth 100000 in
set_option maxHeartbeats 4000000 in
theorem c_S_isMisplaced (l : Launch) {D : va_G} {tys : List (ClassId × FieldType)} {ad : Nat → Nat} {n : Nat} {cs : Nat → va_E} {q0 : Nat} {wp : Int32} {gp : Int32} {ln : Int32} {sa : Int32} {q1 : Nat} {op : Int32} {rd : Int32} {ra : Int32} {rb : Int32} {rn : Int32} {mk : Int32} (hq0 : q0 < n) (e0 : cs q0 = .inr (2, [.int wp, .int gp, .int ln, .int sa])) (hq1 : q1 < n) (e1 : cs q1 = .inr (1, [.int op, .int rd, .int ra, .int rb, .int rn, .int mk]))  : kw_mi l y_S_isMisplaced w_S_isMisplaced (kr 1) D kc tys ad n cs [.ref (ad q0), .ref (ad q1)] (fun r9 c9 => r9 = kv_S_isMisplaced gp op rd ra rb ∧ c9 = cs) := by
  refine kw_of (cc := b_S_isMisplaced) (maxL := 3) (ret := (some .boolean)) (by decide) rfl (Nat.le_of_ble_eq_true rfl) ?_
  intro p e s m below meth c ls hx hb hr hml hown hts hlocks hP hK hl
  have hg : ∀ w9 ∈ kg_G, w9.before [.ref (ad q0), .ref (ad q1)].toArray s = true := fun w9 h9 => hts w9 (List.mem_cons_of_mem _ h9)
  have hown : s.vm.findClass "LaneMachine$Setting" = some m.cls := hown
  have hA : ∀ k, k < n → kw_A ad n (ad k) := fun k hk => ⟨k, hk, rfl⟩
  have hS : va_S (kw_A ad n) s.heap s.heap [] := va_S.rf
  have hl : lv_has ls 3 [(0, .ref (ad q0)), (1, .ref (ad q1))] := hl
  refine lv_aload_n hx hb d_S_isMisplaced_0 rfl (lv_at hl 1 rfl) ?_
  refine kw_get hx hb hg in_I hown hK hP q1 hq1 e1 rfl 0 (by decide) (hg _ kg_73) rfl rfl d_S_isMisplaced_1 ?_
  refine lv_bipush (v := 13) hx hb d_S_isMisplaced_4 (by decide) ?_
  refine lv_icmp_ne (tgt := 18) hx hb d_S_isMisplaced_6 (by decide) (fun h1 => ?_) (fun h1 => ?_)
  · refine lv_aload_n hx hb d_S_isMisplaced_18 rfl (lv_at hl 0 rfl) ?_
    refine kw_callix (kw_rV (As := []) (rest := []) (q0 := q0) ⟨hx, hb, hml, hown, hg⟩ ⟨callB_of 0 hg (kg_goodG kg_236) rfl rfl rfl (hg _ kg_4) (hg _ kg_482) (by decide +kernel) ⟨by decide, by decide⟩, hg _ kg_234, hg _ kg_235⟩ (c_S_group l hq0 e0 ) hK hP hq0 e0 rfl rfl hl.1 rfl (Nat.le_of_ble_eq_true rfl) d_S_isMisplaced_19 ⟨Nat.zero_le _, Nat.zero_le _⟩) hA hS (fun H locs hP hS => ?_)
    refine lv_istore_n (lv' := [(2, .int (kv_S_group gp)), (0, .ref (ad q0)), (1, .ref (ad q1))]) hx hb d_S_isMisplaced_22 rfl hl (by decide) rfl (fun ls hl => ?_)
    refine lv_aload_n hx hb d_S_isMisplaced_23 rfl (lv_at hl 2 rfl) ?_
    refine kw_callix (kw_rV (As := []) (rest := []) (q0 := q1) ⟨hx, hb, hml, hown, hg⟩ ⟨callB_of 0 hg (kg_goodG kg_486) rfl rfl rfl (hg _ kg_5) (hg _ kg_483) (by decide +kernel) ⟨by decide, by decide⟩, hg _ kg_484, hg _ kg_485⟩ (c_I_hasGroupAtD l hq1 e1 ) hK hP hq1 e1 rfl rfl hl.1 rfl (Nat.le_of_ble_eq_true rfl) d_S_isMisplaced_24 ⟨Nat.zero_le _, Nat.zero_le _⟩) hA hS (fun H locs hP hS => ?_)
    refine lv_if_eq (tgt := 41) hx hb d_S_isMisplaced_27 (by decide) (fun h2 => ?_) (fun h2 => ?_)
    · refine lv_aload_n hx hb d_S_isMisplaced_41 rfl (lv_at hl 2 rfl) ?_
      refine kw_callix (kw_rV (As := []) (rest := []) (q0 := q1) ⟨hx, hb, hml, hown, hg⟩ ⟨callB_of 0 hg (kg_goodG kg_493) rfl rfl rfl (hg _ kg_5) (hg _ kg_490) (by decide +kernel) ⟨by decide, by decide⟩, hg _ kg_491, hg _ kg_492⟩ (c_I_hasGroupAtA l hq1 e1 ) hK hP hq1 e1 rfl rfl hl.1 rfl (Nat.le_of_ble_eq_true rfl) d_S_isMisplaced_42 ⟨Nat.zero_le _, Nat.zero_le _⟩) hA hS (fun H locs hP hS => ?_)
      refine lv_if_eq (tgt := 62) hx hb d_S_isMisplaced_45 (by decide) (fun h3 => ?_) (fun h3 => ?_)
      · refine lv_aload_n hx hb d_S_isMisplaced_62 rfl (lv_at hl 2 rfl) ?_
        refine kw_callix (kw_rV (As := []) (rest := []) (q0 := q1) ⟨hx, hb, hml, hown, hg⟩ ⟨callB_of 0 hg (kg_goodG kg_497) rfl rfl rfl (hg _ kg_5) (hg _ kg_494) (by decide +kernel) ⟨by decide, by decide⟩, hg _ kg_495, hg _ kg_496⟩ (c_I_hasGroupAtB l hq1 e1 ) hK hP hq1 e1 rfl rfl hl.1 rfl (Nat.le_of_ble_eq_true rfl) d_S_isMisplaced_63 ⟨Nat.zero_le _, Nat.zero_le _⟩) hA hS (fun H locs hP hS => ?_)
        refine lv_if_eq (tgt := 87) hx hb d_S_isMisplaced_66 (by decide) (fun h4 => ?_) (fun h4 => ?_)
        · refine lv_iconst (v := 0) hx hb d_S_isMisplaced_87 (by decide) ?_
          exact kw_zret hx hb hr hlocks hP hK hS (Or.inl rfl) ⟨by rw [kv_S_isMisplaced, if_neg h1, if_pos h2, if_pos h3, if_pos h4], rfl⟩ d_S_isMisplaced_88
        · refine lv_aload_n hx hb d_S_isMisplaced_69 rfl (lv_at hl 2 rfl) ?_
          refine kw_get hx hb hg in_I hown hK hP q1 hq1 e1 rfl 3 (by decide) (hg _ kg_84) rfl rfl d_S_isMisplaced_70 ?_
          refine lv_aload_n hx hb d_S_isMisplaced_73 rfl (lv_at hl 1 rfl) ?_
          refine kw_callix (kw_rV (As := []) (rest := [.int rb]) (q0 := q0) ⟨hx, hb, hml, hown, hg⟩ ⟨callB_of 0 hg (kg_goodG kg_236) rfl rfl rfl (hg _ kg_4) (hg _ kg_482) (by decide +kernel) ⟨by decide, by decide⟩, hg _ kg_234, hg _ kg_235⟩ (c_S_group l hq0 e0 ) hK hP hq0 e0 rfl rfl hl.1 rfl (Nat.le_of_ble_eq_true rfl) d_S_isMisplaced_74 ⟨Nat.zero_le _, Nat.zero_le _⟩) hA hS (fun H locs hP hS => ?_)
          refine kw_callix (kw_rS (As := [.int rb, .int (kv_S_group gp)]) (rest := []) ⟨hx, hb, hml, hown, hg⟩ ⟨callB_of 2 hg (kg_goodG kg_489) rfl rfl rfl (hg _ kg_4) (hg _ kg_487) (by decide +kernel) ⟨by decide, by decide⟩, hg _ kg_488⟩ (c_S_isMultiple l  ) hK hP rfl hl.1 rfl (Nat.le_of_ble_eq_true rfl) d_S_isMisplaced_77 ⟨Nat.zero_le _, Nat.zero_le _⟩) hA hS (fun H locs hP hS => ?_)
          refine lv_if_ne (tgt := 87) hx hb d_S_isMisplaced_80 (by decide) (fun h5 => ?_) (fun h5 => ?_)
          · refine lv_iconst (v := 0) hx hb d_S_isMisplaced_87 (by decide) ?_
            exact kw_zret hx hb hr hlocks hP hK hS (Or.inl rfl) ⟨by rw [kv_S_isMisplaced, if_neg h1, if_pos h2, if_pos h3, if_neg h4, if_neg h5], rfl⟩ d_S_isMisplaced_88
          · refine lv_iconst (v := 1) hx hb d_S_isMisplaced_83 (by decide) ?_
            refine lv_goto (tgt := 88) hx hb d_S_isMisplaced_84 (by decide) ?_
            exact kw_zret hx hb hr hlocks hP hK hS (Or.inr rfl) ⟨by rw [kv_S_isMisplaced, if_neg h1, if_pos h2, if_pos h3, if_neg h4, if_pos h5], rfl⟩ d_S_isMisplaced_88
      · refine lv_aload_n hx hb d_S_isMisplaced_48 rfl (lv_at hl 2 rfl) ?_
        refine kw_get hx hb hg in_I hown hK hP q1 hq1 e1 rfl 2 (by decide) (hg _ kg_80) rfl rfl d_S_isMisplaced_49 ?_
        refine lv_aload_n hx hb d_S_isMisplaced_52 rfl (lv_at hl 1 rfl) ?_
        refine kw_callix (kw_rV (As := []) (rest := [.int ra]) (q0 := q0) ⟨hx, hb, hml, hown, hg⟩ ⟨callB_of 0 hg (kg_goodG kg_236) rfl rfl rfl (hg _ kg_4) (hg _ kg_482) (by decide +kernel) ⟨by decide, by decide⟩, hg _ kg_234, hg _ kg_235⟩ (c_S_group l hq0 e0 ) hK hP hq0 e0 rfl rfl hl.1 rfl (Nat.le_of_ble_eq_true rfl) d_S_isMisplaced_53 ⟨Nat.zero_le _, Nat.zero_le _⟩) hA hS (fun H locs hP hS => ?_)
        refine kw_callix (kw_rS (As := [.int ra, .int (kv_S_group gp)]) (rest := []) ⟨hx, hb, hml, hown, hg⟩ ⟨callB_of 2 hg (kg_goodG kg_489) rfl rfl rfl (hg _ kg_4) (hg _ kg_487) (by decide +kernel) ⟨by decide, by decide⟩, hg _ kg_488⟩ (c_S_isMultiple l  ) hK hP rfl hl.1 rfl (Nat.le_of_ble_eq_true rfl) d_S_isMisplaced_56 ⟨Nat.zero_le _, Nat.zero_le _⟩) hA hS (fun H locs hP hS => ?_)
        refine lv_if_eq (tgt := 83) hx hb d_S_isMisplaced_59 (by decide) (fun h6 => ?_) (fun h6 => ?_)
        · refine lv_iconst (v := 1) hx hb d_S_isMisplaced_83 (by decide) ?_
          refine lv_goto (tgt := 88) hx hb d_S_isMisplaced_84 (by decide) ?_
          exact kw_zret hx hb hr hlocks hP hK hS (Or.inr rfl) ⟨by rw [kv_S_isMisplaced, if_neg h1, if_pos h2, if_neg h3, if_pos h6], rfl⟩ d_S_isMisplaced_88
        · refine lv_aload_n hx hb d_S_isMisplaced_62 rfl (lv_at hl 2 rfl) ?_
          refine kw_callix (kw_rV (As := []) (rest := []) (q0 := q1) ⟨hx, hb, hml, hown, hg⟩ ⟨callB_of 0 hg (kg_goodG kg_497) rfl rfl rfl (hg _ kg_5) (hg _ kg_494) (by decide +kernel) ⟨by decide, by decide⟩, hg _ kg_495, hg _ kg_496⟩ (c_I_hasGroupAtB l hq1 e1 ) hK hP hq1 e1 rfl rfl hl.1 rfl (Nat.le_of_ble_eq_true rfl) d_S_isMisplaced_63 ⟨Nat.zero_le _, Nat.zero_le _⟩) hA hS (fun H locs hP hS => ?_)
          refine lv_if_eq (tgt := 87) hx hb d_S_isMisplaced_66 (by decide) (fun h7 => ?_) (fun h7 => ?_)
          · refine lv_iconst (v := 0) hx hb d_S_isMisplaced_87 (by decide) ?_
            exact kw_zret hx hb hr hlocks hP hK hS (Or.inl rfl) ⟨by rw [kv_S_isMisplaced, if_neg h1, if_pos h2, if_neg h3, if_neg h6, if_pos h7], rfl⟩ d_S_isMisplaced_88
          · refine lv_aload_n hx hb d_S_isMisplaced_69 rfl (lv_at hl 2 rfl) ?_
            refine kw_get hx hb hg in_I hown hK hP q1 hq1 e1 rfl 3 (by decide) (hg _ kg_84) rfl rfl d_S_isMisplaced_70 ?_
            refine lv_aload_n hx hb d_S_isMisplaced_73 rfl (lv_at hl 1 rfl) ?_
            refine kw_callix (kw_rV (As := []) (rest := [.int rb]) (q0 := q0) ⟨hx, hb, hml, hown, hg⟩ ⟨callB_of 0 hg (kg_goodG kg_236) rfl rfl rfl (hg _ kg_4) (hg _ kg_482) (by decide +kernel) ⟨by decide, by decide⟩, hg _ kg_234, hg _ kg_235⟩ (c_S_group l hq0 e0 ) hK hP hq0 e0 rfl rfl hl.1 rfl (Nat.le_of_ble_eq_true rfl) d_S_isMisplaced_74 ⟨Nat.zero_le _, Nat.zero_le _⟩) hA hS (fun H locs hP hS => ?_)
            refine kw_callix (kw_rS (As := [.int rb, .int (kv_S_group gp)]) (rest := []) ⟨hx, hb, hml, hown, hg⟩ ⟨callB_of 2 hg (kg_goodG kg_489) rfl rfl rfl (hg _ kg_4) (hg _ kg_487) (by decide +kernel) ⟨by decide, by decide⟩, hg _ kg_488⟩ (c_S_isMultiple l  ) hK hP rfl hl.1 rfl (Nat.le_of_ble_eq_true rfl) d_S_isMisplaced_77 ⟨Nat.zero_le _, Nat.zero_le _⟩) hA hS (fun H locs hP hS => ?_)
            refine lv_if_ne (tgt := 87) hx hb d_S_isMisplaced_80 (by decide) (fun h8 => ?_) (fun h8 => ?_)
            · refine lv_iconst (v := 0) hx hb d_S_isMisplaced_87 (by decide) ?_
              exact kw_zret hx hb hr hlocks hP hK hS (Or.inl rfl) ⟨by rw [kv_S_isMisplaced, if_neg h1, if_pos h2, if_neg h3, if_neg h6, if_neg h7, if_neg h8], rfl⟩ d_S_isMisplaced_88
            · refine lv_iconst (v := 1) hx hb d_S_isMisplaced_83 (by decide) ?_
              refine lv_goto (tgt := 88) hx hb d_S_isMisplaced_84 (by decide) ?_
              exact kw_zret hx hb hr hlocks hP hK hS (Or.inr rfl) ⟨by rw [kv_S_isMisplaced, if_neg h1, if_pos h2, if_neg h3, if_neg h6, if_neg h7, if_pos h8], rfl⟩ d_S_isMisplaced_88
    · refine lv_aload_n hx hb d_S_isMisplaced_30 rfl (lv_at hl 2 rfl) ?_
      refine kw_get hx hb hg in_I hown hK hP q1 hq1 e1 rfl 1 (by decide) (hg _ kg_76) rfl rfl d_S_isMisplaced_31 ?_
      refine lv_iload_n hx hb d_S_isMisplaced_34 rfl (lv_at hl 0 rfl) ?_
      refine kw_callix (kw_rS (As := [.int rd, .int (kv_S_group gp)]) (rest := []) ⟨hx, hb, hml, hown, hg⟩ ⟨callB_of 2 hg (kg_goodG kg_489) rfl rfl rfl (hg _ kg_4) (hg _ kg_487) (by decide +kernel) ⟨by decide, by decide⟩, hg _ kg_488⟩ (c_S_isMultiple l  ) hK hP rfl hl.1 rfl (Nat.le_of_ble_eq_true rfl) d_S_isMisplaced_35 ⟨Nat.zero_le _, Nat.zero_le _⟩) hA hS (fun H locs hP hS => ?_)
      refine lv_if_eq (tgt := 83) hx hb d_S_isMisplaced_38 (by decide) (fun h9 => ?_) (fun h9 => ?_)
      · refine lv_iconst (v := 1) hx hb d_S_isMisplaced_83 (by decide) ?_
        refine lv_goto (tgt := 88) hx hb d_S_isMisplaced_84 (by decide) ?_
        exact kw_zret hx hb hr hlocks hP hK hS (Or.inr rfl) ⟨by rw [kv_S_isMisplaced, if_neg h1, if_neg h2, if_pos h9], rfl⟩ d_S_isMisplaced_88
      · refine lv_aload_n hx hb d_S_isMisplaced_41 rfl (lv_at hl 2 rfl) ?_
        refine kw_callix (kw_rV (As := []) (rest := []) (q0 := q1) ⟨hx, hb, hml, hown, hg⟩ ⟨callB_of 0 hg (kg_goodG kg_493) rfl rfl rfl (hg _ kg_5) (hg _ kg_490) (by decide +kernel) ⟨by decide, by decide⟩, hg _ kg_491, hg _ kg_492⟩ (c_I_hasGroupAtA l hq1 e1 ) hK hP hq1 e1 rfl rfl hl.1 rfl (Nat.le_of_ble_eq_true rfl) d_S_isMisplaced_42 ⟨Nat.zero_le _, Nat.zero_le _⟩) hA hS (fun H locs hP hS => ?_)
        refine lv_if_eq (tgt := 62) hx hb d_S_isMisplaced_45 (by decide) (fun h10 => ?_) (fun h10 => ?_)
        · refine lv_aload_n hx hb d_S_isMisplaced_62 rfl (lv_at hl 2 rfl) ?_
          refine kw_callix (kw_rV (As := []) (rest := []) (q0 := q1) ⟨hx, hb, hml, hown, hg⟩ ⟨callB_of 0 hg (kg_goodG kg_497) rfl rfl rfl (hg _ kg_5) (hg _ kg_494) (by decide +kernel) ⟨by decide, by decide⟩, hg _ kg_495, hg _ kg_496⟩ (c_I_hasGroupAtB l hq1 e1 ) hK hP hq1 e1 rfl rfl hl.1 rfl (Nat.le_of_ble_eq_true rfl) d_S_isMisplaced_63 ⟨Nat.zero_le _, Nat.zero_le _⟩) hA hS (fun H locs hP hS => ?_)
          refine lv_if_eq (tgt := 87) hx hb d_S_isMisplaced_66 (by decide) (fun h11 => ?_) (fun h11 => ?_)
          · refine lv_iconst (v := 0) hx hb d_S_isMisplaced_87 (by decide) ?_
            exact kw_zret hx hb hr hlocks hP hK hS (Or.inl rfl) ⟨by rw [kv_S_isMisplaced, if_neg h1, if_neg h2, if_neg h9, if_pos h10, if_pos h11], rfl⟩ d_S_isMisplaced_88
          · refine lv_aload_n hx hb d_S_isMisplaced_69 rfl (lv_at hl 2 rfl) ?_
            refine kw_get hx hb hg in_I hown hK hP q1 hq1 e1 rfl 3 (by decide) (hg _ kg_84) rfl rfl d_S_isMisplaced_70 ?_
            refine lv_aload_n hx hb d_S_isMisplaced_73 rfl (lv_at hl 1 rfl) ?_
            refine kw_callix (kw_rV (As := []) (rest := [.int rb]) (q0 := q0) ⟨hx, hb, hml, hown, hg⟩ ⟨callB_of 0 hg (kg_goodG kg_236) rfl rfl rfl (hg _ kg_4) (hg _ kg_482) (by decide +kernel) ⟨by decide, by decide⟩, hg _ kg_234, hg _ kg_235⟩ (c_S_group l hq0 e0 ) hK hP hq0 e0 rfl rfl hl.1 rfl (Nat.le_of_ble_eq_true rfl) d_S_isMisplaced_74 ⟨Nat.zero_le _, Nat.zero_le _⟩) hA hS (fun H locs hP hS => ?_)
            refine kw_callix (kw_rS (As := [.int rb, .int (kv_S_group gp)]) (rest := []) ⟨hx, hb, hml, hown, hg⟩ ⟨callB_of 2 hg (kg_goodG kg_489) rfl rfl rfl (hg _ kg_4) (hg _ kg_487) (by decide +kernel) ⟨by decide, by decide⟩, hg _ kg_488⟩ (c_S_isMultiple l  ) hK hP rfl hl.1 rfl (Nat.le_of_ble_eq_true rfl) d_S_isMisplaced_77 ⟨Nat.zero_le _, Nat.zero_le _⟩) hA hS (fun H locs hP hS => ?_)
            refine lv_if_ne (tgt := 87) hx hb d_S_isMisplaced_80 (by decide) (fun h12 => ?_) (fun h12 => ?_)
            · refine lv_iconst (v := 0) hx hb d_S_isMisplaced_87 (by decide) ?_
              exact kw_zret hx hb hr hlocks hP hK hS (Or.inl rfl) ⟨by rw [kv_S_isMisplaced, if_neg h1, if_neg h2, if_neg h9, if_pos h10, if_neg h11, if_neg h12], rfl⟩ d_S_isMisplaced_88
            · refine lv_iconst (v := 1) hx hb d_S_isMisplaced_83 (by decide) ?_
              refine lv_goto (tgt := 88) hx hb d_S_isMisplaced_84 (by decide) ?_
              exact kw_zret hx hb hr hlocks hP hK hS (Or.inr rfl) ⟨by rw [kv_S_isMisplaced, if_neg h1, if_neg h2, if_neg h9, if_pos h10, if_neg h11, if_pos h12], rfl⟩ d_S_isMisplaced_88
        · refine lv_aload_n hx hb d_S_isMisplaced_48 rfl (lv_at hl 2 rfl) ?_
          refine kw_get hx hb hg in_I hown hK hP q1 hq1 e1 rfl 2 (by decide) (hg _ kg_80) rfl rfl d_S_isMisplaced_49 ?_
          refine lv_aload_n hx hb d_S_isMisplaced_52 rfl (lv_at hl 1 rfl) ?_
          refine kw_callix (kw_rV (As := []) (rest := [.int ra]) (q0 := q0) ⟨hx, hb, hml, hown, hg⟩ ⟨callB_of 0 hg (kg_goodG kg_236) rfl rfl rfl (hg _ kg_4) (hg _ kg_482) (by decide +kernel) ⟨by decide, by decide⟩, hg _ kg_234, hg _ kg_235⟩ (c_S_group l hq0 e0 ) hK hP hq0 e0 rfl rfl hl.1 rfl (Nat.le_of_ble_eq_true rfl) d_S_isMisplaced_53 ⟨Nat.zero_le _, Nat.zero_le _⟩) hA hS (fun H locs hP hS => ?_)
          refine kw_callix (kw_rS (As := [.int ra, .int (kv_S_group gp)]) (rest := []) ⟨hx, hb, hml, hown, hg⟩ ⟨callB_of 2 hg (kg_goodG kg_489) rfl rfl rfl (hg _ kg_4) (hg _ kg_487) (by decide +kernel) ⟨by decide, by decide⟩, hg _ kg_488⟩ (c_S_isMultiple l  ) hK hP rfl hl.1 rfl (Nat.le_of_ble_eq_true rfl) d_S_isMisplaced_56 ⟨Nat.zero_le _, Nat.zero_le _⟩) hA hS (fun H locs hP hS => ?_)
          refine lv_if_eq (tgt := 83) hx hb d_S_isMisplaced_59 (by decide) (fun h13 => ?_) (fun h13 => ?_)
          · refine lv_iconst (v := 1) hx hb d_S_isMisplaced_83 (by decide) ?_
            refine lv_goto (tgt := 88) hx hb d_S_isMisplaced_84 (by decide) ?_
            exact kw_zret hx hb hr hlocks hP hK hS (Or.inr rfl) ⟨by rw [kv_S_isMisplaced, if_neg h1, if_neg h2, if_neg h9, if_neg h10, if_pos h13], rfl⟩ d_S_isMisplaced_88
          · refine lv_aload_n hx hb d_S_isMisplaced_62 rfl (lv_at hl 2 rfl) ?_
            refine kw_callix (kw_rV (As := []) (rest := []) (q0 := q1) ⟨hx, hb, hml, hown, hg⟩ ⟨callB_of 0 hg (kg_goodG kg_497) rfl rfl rfl (hg _ kg_5) (hg _ kg_494) (by decide +kernel) ⟨by decide, by decide⟩, hg _ kg_495, hg _ kg_496⟩ (c_I_hasGroupAtB l hq1 e1 ) hK hP hq1 e1 rfl rfl hl.1 rfl (Nat.le_of_ble_eq_true rfl) d_S_isMisplaced_63 ⟨Nat.zero_le _, Nat.zero_le _⟩) hA hS (fun H locs hP hS => ?_)
            refine lv_if_eq (tgt := 87) hx hb d_S_isMisplaced_66 (by decide) (fun h14 => ?_) (fun h14 => ?_)
            · refine lv_iconst (v := 0) hx hb d_S_isMisplaced_87 (by decide) ?_
              exact kw_zret hx hb hr hlocks hP hK hS (Or.inl rfl) ⟨by rw [kv_S_isMisplaced, if_neg h1, if_neg h2, if_neg h9, if_neg h10, if_neg h13, if_pos h14], rfl⟩ d_S_isMisplaced_88
            · refine lv_aload_n hx hb d_S_isMisplaced_69 rfl (lv_at hl 2 rfl) ?_
              refine kw_get hx hb hg in_I hown hK hP q1 hq1 e1 rfl 3 (by decide) (hg _ kg_84) rfl rfl d_S_isMisplaced_70 ?_
              refine lv_aload_n hx hb d_S_isMisplaced_73 rfl (lv_at hl 1 rfl) ?_
              refine kw_callix (kw_rV (As := []) (rest := [.int rb]) (q0 := q0) ⟨hx, hb, hml, hown, hg⟩ ⟨callB_of 0 hg (kg_goodG kg_236) rfl rfl rfl (hg _ kg_4) (hg _ kg_482) (by decide +kernel) ⟨by decide, by decide⟩, hg _ kg_234, hg _ kg_235⟩ (c_S_group l hq0 e0 ) hK hP hq0 e0 rfl rfl hl.1 rfl (Nat.le_of_ble_eq_true rfl) d_S_isMisplaced_74 ⟨Nat.zero_le _, Nat.zero_le _⟩) hA hS (fun H locs hP hS => ?_)
              refine kw_callix (kw_rS (As := [.int rb, .int (kv_S_group gp)]) (rest := []) ⟨hx, hb, hml, hown, hg⟩ ⟨callB_of 2 hg (kg_goodG kg_489) rfl rfl rfl (hg _ kg_4) (hg _ kg_487) (by decide +kernel) ⟨by decide, by decide⟩, hg _ kg_488⟩ (c_S_isMultiple l  ) hK hP rfl hl.1 rfl (Nat.le_of_ble_eq_true rfl) d_S_isMisplaced_77 ⟨Nat.zero_le _, Nat.zero_le _⟩) hA hS (fun H locs hP hS => ?_)
              refine lv_if_ne (tgt := 87) hx hb d_S_isMisplaced_80 (by decide) (fun h15 => ?_) (fun h15 => ?_)
              · refine lv_iconst (v := 0) hx hb d_S_isMisplaced_87 (by decide) ?_
                exact kw_zret hx hb hr hlocks hP hK hS (Or.inl rfl) ⟨by rw [kv_S_isMisplaced, if_neg h1, if_neg h2, if_neg h9, if_neg h10, if_neg h13, if_neg h14, if_neg h15], rfl⟩ d_S_isMisplaced_88
              · refine lv_iconst (v := 1) hx hb d_S_isMisplaced_83 (by decide) ?_
                refine lv_goto (tgt := 88) hx hb d_S_isMisplaced_84 (by decide) ?_
                exact kw_zret hx hb hr hlocks hP hK hS (Or.inr rfl) ⟨by rw [kv_S_isMisplaced, if_neg h1, if_neg h2, if_neg h9, if_neg h10, if_neg h13, if_neg h14, if_pos h15], rfl⟩ d_S_isMisplaced_88
  · refine lv_iconst (v := 2) hx hb d_S_isMisplaced_9 (by decide) ?_
    refine lv_aload_n hx hb d_S_isMisplaced_10 rfl (lv_at hl 0 rfl) ?_
    refine kw_callix (kw_rV (As := []) (rest := [.int 2]) (q0 := q0) ⟨hx, hb, hml, hown, hg⟩ ⟨callB_of 0 hg (kg_goodG kg_236) rfl rfl rfl (hg _ kg_4) (hg _ kg_482) (by decide +kernel) ⟨by decide, by decide⟩, hg _ kg_234, hg _ kg_235⟩ (c_S_group l hq0 e0 ) hK hP hq0 e0 rfl rfl hl.1 rfl (Nat.le_of_ble_eq_true rfl) d_S_isMisplaced_11 ⟨Nat.zero_le _, Nat.zero_le _⟩) hA hS (fun H locs hP hS => ?_)
    refine lv_imul hx hb d_S_isMisplaced_14 ?_
    refine lv_goto (tgt := 22) hx hb d_S_isMisplaced_15 (by decide) ?_
    refine lv_istore_n (lv' := [(2, .int (2 * (kv_S_group gp))), (0, .ref (ad q0)), (1, .ref (ad q1))]) hx hb d_S_isMisplaced_22 rfl hl (by decide) rfl (fun ls hl => ?_)
    refine lv_aload_n hx hb d_S_isMisplaced_23 rfl (lv_at hl 2 rfl) ?_
    refine kw_callix (kw_rV (As := []) (rest := []) (q0 := q1) ⟨hx, hb, hml, hown, hg⟩ ⟨callB_of 0 hg (kg_goodG kg_486) rfl rfl rfl (hg _ kg_5) (hg _ kg_483) (by decide +kernel) ⟨by decide, by decide⟩, hg _ kg_484, hg _ kg_485⟩ (c_I_hasGroupAtD l hq1 e1 ) hK hP hq1 e1 rfl rfl hl.1 rfl (Nat.le_of_ble_eq_true rfl) d_S_isMisplaced_24 ⟨Nat.zero_le _, Nat.zero_le _⟩) hA hS (fun H locs hP hS => ?_)
    refine lv_if_eq (tgt := 41) hx hb d_S_isMisplaced_27 (by decide) (fun h16 => ?_) (fun h16 => ?_)
    · refine lv_aload_n hx hb d_S_isMisplaced_41 rfl (lv_at hl 2 rfl) ?_
      refine kw_callix (kw_rV (As := []) (rest := []) (q0 := q1) ⟨hx, hb, hml, hown, hg⟩ ⟨callB_of 0 hg (kg_goodG kg_493) rfl rfl rfl (hg _ kg_5) (hg _ kg_490) (by decide +kernel) ⟨by decide, by decide⟩, hg _ kg_491, hg _ kg_492⟩ (c_I_hasGroupAtA l hq1 e1 ) hK hP hq1 e1 rfl rfl hl.1 rfl (Nat.le_of_ble_eq_true rfl) d_S_isMisplaced_42 ⟨Nat.zero_le _, Nat.zero_le _⟩) hA hS (fun H locs hP hS => ?_)
      refine lv_if_eq (tgt := 62) hx hb d_S_isMisplaced_45 (by decide) (fun h17 => ?_) (fun h17 => ?_)
      · refine lv_aload_n hx hb d_S_isMisplaced_62 rfl (lv_at hl 2 rfl) ?_
        refine kw_callix (kw_rV (As := []) (rest := []) (q0 := q1) ⟨hx, hb, hml, hown, hg⟩ ⟨callB_of 0 hg (kg_goodG kg_497) rfl rfl rfl (hg _ kg_5) (hg _ kg_494) (by decide +kernel) ⟨by decide, by decide⟩, hg _ kg_495, hg _ kg_496⟩ (c_I_hasGroupAtB l hq1 e1 ) hK hP hq1 e1 rfl rfl hl.1 rfl (Nat.le_of_ble_eq_true rfl) d_S_isMisplaced_63 ⟨Nat.zero_le _, Nat.zero_le _⟩) hA hS (fun H locs hP hS => ?_)
        refine lv_if_eq (tgt := 87) hx hb d_S_isMisplaced_66 (by decide) (fun h18 => ?_) (fun h18 => ?_)
        · refine lv_iconst (v := 0) hx hb d_S_isMisplaced_87 (by decide) ?_
          exact kw_zret hx hb hr hlocks hP hK hS (Or.inl rfl) ⟨by rw [kv_S_isMisplaced, if_pos h1, if_pos h16, if_pos h17, if_pos h18], rfl⟩ d_S_isMisplaced_88
        · refine lv_aload_n hx hb d_S_isMisplaced_69 rfl (lv_at hl 2 rfl) ?_
          refine kw_get hx hb hg in_I hown hK hP q1 hq1 e1 rfl 3 (by decide) (hg _ kg_84) rfl rfl d_S_isMisplaced_70 ?_
          refine lv_aload_n hx hb d_S_isMisplaced_73 rfl (lv_at hl 1 rfl) ?_
          refine kw_callix (kw_rV (As := []) (rest := [.int rb]) (q0 := q0) ⟨hx, hb, hml, hown, hg⟩ ⟨callB_of 0 hg (kg_goodG kg_236) rfl rfl rfl (hg _ kg_4) (hg _ kg_482) (by decide +kernel) ⟨by decide, by decide⟩, hg _ kg_234, hg _ kg_235⟩ (c_S_group l hq0 e0 ) hK hP hq0 e0 rfl rfl hl.1 rfl (Nat.le_of_ble_eq_true rfl) d_S_isMisplaced_74 ⟨Nat.zero_le _, Nat.zero_le _⟩) hA hS (fun H locs hP hS => ?_)
          refine kw_callix (kw_rS (As := [.int rb, .int (kv_S_group gp)]) (rest := []) ⟨hx, hb, hml, hown, hg⟩ ⟨callB_of 2 hg (kg_goodG kg_489) rfl rfl rfl (hg _ kg_4) (hg _ kg_487) (by decide +kernel) ⟨by decide, by decide⟩, hg _ kg_488⟩ (c_S_isMultiple l  ) hK hP rfl hl.1 rfl (Nat.le_of_ble_eq_true rfl) d_S_isMisplaced_77 ⟨Nat.zero_le _, Nat.zero_le _⟩) hA hS (fun H locs hP hS => ?_)
          refine lv_if_ne (tgt := 87) hx hb d_S_isMisplaced_80 (by decide) (fun h19 => ?_) (fun h19 => ?_)
          · refine lv_iconst (v := 0) hx hb d_S_isMisplaced_87 (by decide) ?_
            exact kw_zret hx hb hr hlocks hP hK hS (Or.inl rfl) ⟨by rw [kv_S_isMisplaced, if_pos h1, if_pos h16, if_pos h17, if_neg h18, if_neg h19], rfl⟩ d_S_isMisplaced_88
          · refine lv_iconst (v := 1) hx hb d_S_isMisplaced_83 (by decide) ?_
            refine lv_goto (tgt := 88) hx hb d_S_isMisplaced_84 (by decide) ?_
            exact kw_zret hx hb hr hlocks hP hK hS (Or.inr rfl) ⟨by rw [kv_S_isMisplaced, if_pos h1, if_pos h16, if_pos h17, if_neg h18, if_pos h19], rfl⟩ d_S_isMisplaced_88
      · refine lv_aload_n hx hb d_S_isMisplaced_48 rfl (lv_at hl 2 rfl) ?_
        refine kw_get hx hb hg in_I hown hK hP q1 hq1 e1 rfl 2 (by decide) (hg _ kg_80) rfl rfl d_S_isMisplaced_49 ?_
        refine lv_aload_n hx hb d_S_isMisplaced_52 rfl (lv_at hl 1 rfl) ?_
        refine kw_callix (kw_rV (As := []) (rest := [.int ra]) (q0 := q0) ⟨hx, hb, hml, hown, hg⟩ ⟨callB_of 0 hg (kg_goodG kg_236) rfl rfl rfl (hg _ kg_4) (hg _ kg_482) (by decide +kernel) ⟨by decide, by decide⟩, hg _ kg_234, hg _ kg_235⟩ (c_S_group l hq0 e0 ) hK hP hq0 e0 rfl rfl hl.1 rfl (Nat.le_of_ble_eq_true rfl) d_S_isMisplaced_53 ⟨Nat.zero_le _, Nat.zero_le _⟩) hA hS (fun H locs hP hS => ?_)
        refine kw_callix (kw_rS (As := [.int ra, .int (kv_S_group gp)]) (rest := []) ⟨hx, hb, hml, hown, hg⟩ ⟨callB_of 2 hg (kg_goodG kg_489) rfl rfl rfl (hg _ kg_4) (hg _ kg_487) (by decide +kernel) ⟨by decide, by decide⟩, hg _ kg_488⟩ (c_S_isMultiple l  ) hK hP rfl hl.1 rfl (Nat.le_of_ble_eq_true rfl) d_S_isMisplaced_56 ⟨Nat.zero_le _, Nat.zero_le _⟩) hA hS (fun H locs hP hS => ?_)
        refine lv_if_eq (tgt := 83) hx hb d_S_isMisplaced_59 (by decide) (fun h20 => ?_) (fun h20 => ?_)
        · refine lv_iconst (v := 1) hx hb d_S_isMisplaced_83 (by decide) ?_
          refine lv_goto (tgt := 88) hx hb d_S_isMisplaced_84 (by decide) ?_
          exact kw_zret hx hb hr hlocks hP hK hS (Or.inr rfl) ⟨by rw [kv_S_isMisplaced, if_pos h1, if_pos h16, if_neg h17, if_pos h20], rfl⟩ d_S_isMisplaced_88
        · refine lv_aload_n hx hb d_S_isMisplaced_62 rfl (lv_at hl 2 rfl) ?_
          refine kw_callix (kw_rV (As := []) (rest := []) (q0 := q1) ⟨hx, hb, hml, hown, hg⟩ ⟨callB_of 0 hg (kg_goodG kg_497) rfl rfl rfl (hg _ kg_5) (hg _ kg_494) (by decide +kernel) ⟨by decide, by decide⟩, hg _ kg_495, hg _ kg_496⟩ (c_I_hasGroupAtB l hq1 e1 ) hK hP hq1 e1 rfl rfl hl.1 rfl (Nat.le_of_ble_eq_true rfl) d_S_isMisplaced_63 ⟨Nat.zero_le _, Nat.zero_le _⟩) hA hS (fun H locs hP hS => ?_)
          refine lv_if_eq (tgt := 87) hx hb d_S_isMisplaced_66 (by decide) (fun h21 => ?_) (fun h21 => ?_)
          · refine lv_iconst (v := 0) hx hb d_S_isMisplaced_87 (by decide) ?_
            exact kw_zret hx hb hr hlocks hP hK hS (Or.inl rfl) ⟨by rw [kv_S_isMisplaced, if_pos h1, if_pos h16, if_neg h17, if_neg h20, if_pos h21], rfl⟩ d_S_isMisplaced_88
          · refine lv_aload_n hx hb d_S_isMisplaced_69 rfl (lv_at hl 2 rfl) ?_
            refine kw_get hx hb hg in_I hown hK hP q1 hq1 e1 rfl 3 (by decide) (hg _ kg_84) rfl rfl d_S_isMisplaced_70 ?_
            refine lv_aload_n hx hb d_S_isMisplaced_73 rfl (lv_at hl 1 rfl) ?_
            refine kw_callix (kw_rV (As := []) (rest := [.int rb]) (q0 := q0) ⟨hx, hb, hml, hown, hg⟩ ⟨callB_of 0 hg (kg_goodG kg_236) rfl rfl rfl (hg _ kg_4) (hg _ kg_482) (by decide +kernel) ⟨by decide, by decide⟩, hg _ kg_234, hg _ kg_235⟩ (c_S_group l hq0 e0 ) hK hP hq0 e0 rfl rfl hl.1 rfl (Nat.le_of_ble_eq_true rfl) d_S_isMisplaced_74 ⟨Nat.zero_le _, Nat.zero_le _⟩) hA hS (fun H locs hP hS => ?_)
            refine kw_callix (kw_rS (As := [.int rb, .int (kv_S_group gp)]) (rest := []) ⟨hx, hb, hml, hown, hg⟩ ⟨callB_of 2 hg (kg_goodG kg_489) rfl rfl rfl (hg _ kg_4) (hg _ kg_487) (by decide +kernel) ⟨by decide, by decide⟩, hg _ kg_488⟩ (c_S_isMultiple l  ) hK hP rfl hl.1 rfl (Nat.le_of_ble_eq_true rfl) d_S_isMisplaced_77 ⟨Nat.zero_le _, Nat.zero_le _⟩) hA hS (fun H locs hP hS => ?_)
            refine lv_if_ne (tgt := 87) hx hb d_S_isMisplaced_80 (by decide) (fun h22 => ?_) (fun h22 => ?_)
            · refine lv_iconst (v := 0) hx hb d_S_isMisplaced_87 (by decide) ?_
              exact kw_zret hx hb hr hlocks hP hK hS (Or.inl rfl) ⟨by rw [kv_S_isMisplaced, if_pos h1, if_pos h16, if_neg h17, if_neg h20, if_neg h21, if_neg h22], rfl⟩ d_S_isMisplaced_88
            · refine lv_iconst (v := 1) hx hb d_S_isMisplaced_83 (by decide) ?_
              refine lv_goto (tgt := 88) hx hb d_S_isMisplaced_84 (by decide) ?_
              exact kw_zret hx hb hr hlocks hP hK hS (Or.inr rfl) ⟨by rw [kv_S_isMisplaced, if_pos h1, if_pos h16, if_neg h17, if_neg h20, if_neg h21, if_pos h22], rfl⟩ d_S_isMisplaced_88
    · refine lv_aload_n hx hb d_S_isMisplaced_30 rfl (lv_at hl 2 rfl) ?_
      refine kw_get hx hb hg in_I hown hK hP q1 hq1 e1 rfl 1 (by decide) (hg _ kg_76) rfl rfl d_S_isMisplaced_31 ?_
      refine lv_iload_n hx hb d_S_isMisplaced_34 rfl (lv_at hl 0 rfl) ?_
      refine kw_callix (kw_rS (As := [.int rd, .int (2 * (kv_S_group gp))]) (rest := []) ⟨hx, hb, hml, hown, hg⟩ ⟨callB_of 2 hg (kg_goodG kg_489) rfl rfl rfl (hg _ kg_4) (hg _ kg_487) (by decide +kernel) ⟨by decide, by decide⟩, hg _ kg_488⟩ (c_S_isMultiple l  ) hK hP rfl hl.1 rfl (Nat.le_of_ble_eq_true rfl) d_S_isMisplaced_35 ⟨Nat.zero_le _, Nat.zero_le _⟩) hA hS (fun H locs hP hS => ?_)
      refine lv_if_eq (tgt := 83) hx hb d_S_isMisplaced_38 (by decide) (fun h23 => ?_) (fun h23 => ?_)
      · refine lv_iconst (v := 1) hx hb d_S_isMisplaced_83 (by decide) ?_
        refine lv_goto (tgt := 88) hx hb d_S_isMisplaced_84 (by decide) ?_
        exact kw_zret hx hb hr hlocks hP hK hS (Or.inr rfl) ⟨by rw [kv_S_isMisplaced, if_pos h1, if_neg h16, if_pos h23], rfl⟩ d_S_isMisplaced_88
      · refine lv_aload_n hx hb d_S_isMisplaced_41 rfl (lv_at hl 2 rfl) ?_
        refine kw_callix (kw_rV (As := []) (rest := []) (q0 := q1) ⟨hx, hb, hml, hown, hg⟩ ⟨callB_of 0 hg (kg_goodG kg_493) rfl rfl rfl (hg _ kg_5) (hg _ kg_490) (by decide +kernel) ⟨by decide, by decide⟩, hg _ kg_491, hg _ kg_492⟩ (c_I_hasGroupAtA l hq1 e1 ) hK hP hq1 e1 rfl rfl hl.1 rfl (Nat.le_of_ble_eq_true rfl) d_S_isMisplaced_42 ⟨Nat.zero_le _, Nat.zero_le _⟩) hA hS (fun H locs hP hS => ?_)
        refine lv_if_eq (tgt := 62) hx hb d_S_isMisplaced_45 (by decide) (fun h24 => ?_) (fun h24 => ?_)
        · refine lv_aload_n hx hb d_S_isMisplaced_62 rfl (lv_at hl 2 rfl) ?_
          refine kw_callix (kw_rV (As := []) (rest := []) (q0 := q1) ⟨hx, hb, hml, hown, hg⟩ ⟨callB_of 0 hg (kg_goodG kg_497) rfl rfl rfl (hg _ kg_5) (hg _ kg_494) (by decide +kernel) ⟨by decide, by decide⟩, hg _ kg_495, hg _ kg_496⟩ (c_I_hasGroupAtB l hq1 e1 ) hK hP hq1 e1 rfl rfl hl.1 rfl (Nat.le_of_ble_eq_true rfl) d_S_isMisplaced_63 ⟨Nat.zero_le _, Nat.zero_le _⟩) hA hS (fun H locs hP hS => ?_)
          refine lv_if_eq (tgt := 87) hx hb d_S_isMisplaced_66 (by decide) (fun h25 => ?_) (fun h25 => ?_)
          · refine lv_iconst (v := 0) hx hb d_S_isMisplaced_87 (by decide) ?_
            exact kw_zret hx hb hr hlocks hP hK hS (Or.inl rfl) ⟨by rw [kv_S_isMisplaced, if_pos h1, if_neg h16, if_neg h23, if_pos h24, if_pos h25], rfl⟩ d_S_isMisplaced_88
          · refine lv_aload_n hx hb d_S_isMisplaced_69 rfl (lv_at hl 2 rfl) ?_
            refine kw_get hx hb hg in_I hown hK hP q1 hq1 e1 rfl 3 (by decide) (hg _ kg_84) rfl rfl d_S_isMisplaced_70 ?_
            refine lv_aload_n hx hb d_S_isMisplaced_73 rfl (lv_at hl 1 rfl) ?_
            refine kw_callix (kw_rV (As := []) (rest := [.int rb]) (q0 := q0) ⟨hx, hb, hml, hown, hg⟩ ⟨callB_of 0 hg (kg_goodG kg_236) rfl rfl rfl (hg _ kg_4) (hg _ kg_482) (by decide +kernel) ⟨by decide, by decide⟩, hg _ kg_234, hg _ kg_235⟩ (c_S_group l hq0 e0 ) hK hP hq0 e0 rfl rfl hl.1 rfl (Nat.le_of_ble_eq_true rfl) d_S_isMisplaced_74 ⟨Nat.zero_le _, Nat.zero_le _⟩) hA hS (fun H locs hP hS => ?_)
            refine kw_callix (kw_rS (As := [.int rb, .int (kv_S_group gp)]) (rest := []) ⟨hx, hb, hml, hown, hg⟩ ⟨callB_of 2 hg (kg_goodG kg_489) rfl rfl rfl (hg _ kg_4) (hg _ kg_487) (by decide +kernel) ⟨by decide, by decide⟩, hg _ kg_488⟩ (c_S_isMultiple l  ) hK hP rfl hl.1 rfl (Nat.le_of_ble_eq_true rfl) d_S_isMisplaced_77 ⟨Nat.zero_le _, Nat.zero_le _⟩) hA hS (fun H locs hP hS => ?_)
            refine lv_if_ne (tgt := 87) hx hb d_S_isMisplaced_80 (by decide) (fun h26 => ?_) (fun h26 => ?_)
            · refine lv_iconst (v := 0) hx hb d_S_isMisplaced_87 (by decide) ?_
              exact kw_zret hx hb hr hlocks hP hK hS (Or.inl rfl) ⟨by rw [kv_S_isMisplaced, if_pos h1, if_neg h16, if_neg h23, if_pos h24, if_neg h25, if_neg h26], rfl⟩ d_S_isMisplaced_88
            · refine lv_iconst (v := 1) hx hb d_S_isMisplaced_83 (by decide) ?_
              refine lv_goto (tgt := 88) hx hb d_S_isMisplaced_84 (by decide) ?_
              exact kw_zret hx hb hr hlocks hP hK hS (Or.inr rfl) ⟨by rw [kv_S_isMisplaced, if_pos h1, if_neg h16, if_neg h23, if_pos h24, if_neg h25, if_pos h26], rfl⟩ d_S_isMisplaced_88
        · refine lv_aload_n hx hb d_S_isMisplaced_48 rfl (lv_at hl 2 rfl) ?_
          refine kw_get hx hb hg in_I hown hK hP q1 hq1 e1 rfl 2 (by decide) (hg _ kg_80) rfl rfl d_S_isMisplaced_49 ?_
          refine lv_aload_n hx hb d_S_isMisplaced_52 rfl (lv_at hl 1 rfl) ?_
          refine kw_callix (kw_rV (As := []) (rest := [.int ra]) (q0 := q0) ⟨hx, hb, hml, hown, hg⟩ ⟨callB_of 0 hg (kg_goodG kg_236) rfl rfl rfl (hg _ kg_4) (hg _ kg_482) (by decide +kernel) ⟨by decide, by decide⟩, hg _ kg_234, hg _ kg_235⟩ (c_S_group l hq0 e0 ) hK hP hq0 e0 rfl rfl hl.1 rfl (Nat.le_of_ble_eq_true rfl) d_S_isMisplaced_53 ⟨Nat.zero_le _, Nat.zero_le _⟩) hA hS (fun H locs hP hS => ?_)
          refine kw_callix (kw_rS (As := [.int ra, .int (kv_S_group gp)]) (rest := []) ⟨hx, hb, hml, hown, hg⟩ ⟨callB_of 2 hg (kg_goodG kg_489) rfl rfl rfl (hg _ kg_4) (hg _ kg_487) (by decide +kernel) ⟨by decide, by decide⟩, hg _ kg_488⟩ (c_S_isMultiple l  ) hK hP rfl hl.1 rfl (Nat.le_of_ble_eq_true rfl) d_S_isMisplaced_56 ⟨Nat.zero_le _, Nat.zero_le _⟩) hA hS (fun H locs hP hS => ?_)
          refine lv_if_eq (tgt := 83) hx hb d_S_isMisplaced_59 (by decide) (fun h27 => ?_) (fun h27 => ?_)
          · refine lv_iconst (v := 1) hx hb d_S_isMisplaced_83 (by decide) ?_
            refine lv_goto (tgt := 88) hx hb d_S_isMisplaced_84 (by decide) ?_
            exact kw_zret hx hb hr hlocks hP hK hS (Or.inr rfl) ⟨by rw [kv_S_isMisplaced, if_pos h1, if_neg h16, if_neg h23, if_neg h24, if_pos h27], rfl⟩ d_S_isMisplaced_88
          · refine lv_aload_n hx hb d_S_isMisplaced_62 rfl (lv_at hl 2 rfl) ?_
            refine kw_callix (kw_rV (As := []) (rest := []) (q0 := q1) ⟨hx, hb, hml, hown, hg⟩ ⟨callB_of 0 hg (kg_goodG kg_497) rfl rfl rfl (hg _ kg_5) (hg _ kg_494) (by decide +kernel) ⟨by decide, by decide⟩, hg _ kg_495, hg _ kg_496⟩ (c_I_hasGroupAtB l hq1 e1 ) hK hP hq1 e1 rfl rfl hl.1 rfl (Nat.le_of_ble_eq_true rfl) d_S_isMisplaced_63 ⟨Nat.zero_le _, Nat.zero_le _⟩) hA hS (fun H locs hP hS => ?_)
            refine lv_if_eq (tgt := 87) hx hb d_S_isMisplaced_66 (by decide) (fun h28 => ?_) (fun h28 => ?_)
            · refine lv_iconst (v := 0) hx hb d_S_isMisplaced_87 (by decide) ?_
              exact kw_zret hx hb hr hlocks hP hK hS (Or.inl rfl) ⟨by rw [kv_S_isMisplaced, if_pos h1, if_neg h16, if_neg h23, if_neg h24, if_neg h27, if_pos h28], rfl⟩ d_S_isMisplaced_88
            · refine lv_aload_n hx hb d_S_isMisplaced_69 rfl (lv_at hl 2 rfl) ?_
              refine kw_get hx hb hg in_I hown hK hP q1 hq1 e1 rfl 3 (by decide) (hg _ kg_84) rfl rfl d_S_isMisplaced_70 ?_
              refine lv_aload_n hx hb d_S_isMisplaced_73 rfl (lv_at hl 1 rfl) ?_
              refine kw_callix (kw_rV (As := []) (rest := [.int rb]) (q0 := q0) ⟨hx, hb, hml, hown, hg⟩ ⟨callB_of 0 hg (kg_goodG kg_236) rfl rfl rfl (hg _ kg_4) (hg _ kg_482) (by decide +kernel) ⟨by decide, by decide⟩, hg _ kg_234, hg _ kg_235⟩ (c_S_group l hq0 e0 ) hK hP hq0 e0 rfl rfl hl.1 rfl (Nat.le_of_ble_eq_true rfl) d_S_isMisplaced_74 ⟨Nat.zero_le _, Nat.zero_le _⟩) hA hS (fun H locs hP hS => ?_)
              refine kw_callix (kw_rS (As := [.int rb, .int (kv_S_group gp)]) (rest := []) ⟨hx, hb, hml, hown, hg⟩ ⟨callB_of 2 hg (kg_goodG kg_489) rfl rfl rfl (hg _ kg_4) (hg _ kg_487) (by decide +kernel) ⟨by decide, by decide⟩, hg _ kg_488⟩ (c_S_isMultiple l  ) hK hP rfl hl.1 rfl (Nat.le_of_ble_eq_true rfl) d_S_isMisplaced_77 ⟨Nat.zero_le _, Nat.zero_le _⟩) hA hS (fun H locs hP hS => ?_)
              refine lv_if_ne (tgt := 87) hx hb d_S_isMisplaced_80 (by decide) (fun h29 => ?_) (fun h29 => ?_)
              · refine lv_iconst (v := 0) hx hb d_S_isMisplaced_87 (by decide) ?_
                exact kw_zret hx hb hr hlocks hP hK hS (Or.inl rfl) ⟨by rw [kv_S_isMisplaced, if_pos h1, if_neg h16, if_neg h23, if_neg h24, if_neg h27, if_neg h28, if_neg h29], rfl⟩ d_S_isMisplaced_88
              · refine lv_iconst (v := 1) hx hb d_S_isMisplaced_83 (by decide) ?_
                refine lv_goto (tgt := 88) hx hb d_S_isMisplaced_84 (by decide) ?_
                exact kw_zret hx hb hr hlocks hP hK hS (Or.inr rfl) ⟨by rw [kv_S_isMisplaced, if_pos h1, if_neg h16, if_neg h23, if_neg h24, if_neg h27, if_neg h28, if_pos h29], rfl⟩ d_S_isMisplaced_88

def kv_S_spoilsSources (gp : Int32) (op : Int32) (rd : Int32) (ra : Int32) (rb : Int32) : Int32 := if op = 13 then (if (kv_S_isInWideGroup gp rd ra) = 0 then (if (kv_S_isInWideGroup gp rd rb) = 0 then 0 else 1) else 1) else if op = 15 then (if rd = ra then 1 else 0) else if op = 16 then (if rd = ra then 1 else if rd = rb then 1 else 0) else 0
set_option maxRecDepth 100000 in
set_option maxHeartbeats 4000000 in
theorem c_S_spoilsSources (l : Launch) {D : va_G} {tys : List (ClassId × FieldType)} {ad : Nat → Nat} {n : Nat} {cs : Nat → va_E} {q0 : Nat} {wp : Int32} {gp : Int32} {ln : Int32} {sa : Int32} {q1 : Nat} {op : Int32} {rd : Int32} {ra : Int32} {rb : Int32} {rn : Int32} {mk : Int32} (hq0 : q0 < n) (e0 : cs q0 = .inr (2, [.int wp, .int gp, .int ln, .int sa])) (hq1 : q1 < n) (e1 : cs q1 = .inr (1, [.int op, .int rd, .int ra, .int rb, .int rn, .int mk]))  : kw_mi l y_S_spoilsSources w_S_spoilsSources (kr 2) D kc tys ad n cs [.ref (ad q0), .ref (ad q1)] (fun r9 c9 => r9 = kv_S_spoilsSources gp op rd ra rb ∧ c9 = cs) := by
  refine kw_of (cc := b_S_spoilsSources) (maxL := 2) (ret := (some .boolean)) (by decide) rfl (Nat.le_of_ble_eq_true rfl) ?_
  intro p e s m below meth c ls hx hb hr hml hown hts hlocks hP hK hl
  have hg : ∀ w9 ∈ kg_G, w9.before [.ref (ad q0), .ref (ad q1)].toArray s = true := fun w9 h9 => hts w9 (List.mem_cons_of_mem _ h9)
  have hown : s.vm.findClass "LaneMachine$Setting" = some m.cls := hown
  have hA : ∀ k, k < n → kw_A ad n (ad k) := fun k hk => ⟨k, hk, rfl⟩
  have hS : va_S (kw_A ad n) s.heap s.heap [] := va_S.rf
  have hl : lv_has ls 2 [(0, .ref (ad q0)), (1, .ref (ad q1))] := hl
  refine lv_aload_n hx hb d_S_spoilsSources_0 rfl (lv_at hl 1 rfl) ?_
  refine kw_get hx hb hg in_I hown hK hP q1 hq1 e1 rfl 0 (by decide) (hg _ kg_73) rfl rfl d_S_spoilsSources_1 ?_
  by_cases h1 : op = 13
  · refine lv_tableIn (tgt := 81) hx hb d_S_spoilsSources_4 (by rw [h1]; decide) (by rw [h1]; decide) (by rw [h1]; rfl) (by decide) ?_
    refine lv_aload_n hx hb d_S_spoilsSources_81 rfl (lv_at hl 0 rfl) ?_
    refine lv_aload_n hx hb d_S_spoilsSources_82 rfl (lv_at hl 1 rfl) ?_
    refine kw_get hx hb hg in_I hown hK hP q1 hq1 e1 rfl 1 (by decide) (hg _ kg_76) rfl rfl d_S_spoilsSources_83 ?_
    refine lv_aload_n hx hb d_S_spoilsSources_86 rfl (lv_at hl 1 rfl) ?_
    refine kw_get hx hb hg in_I hown hK hP q1 hq1 e1 rfl 2 (by decide) (hg _ kg_80) rfl rfl d_S_spoilsSources_87 ?_
    refine kw_callix (kw_rV (As := [.int rd, .int ra]) (rest := []) (q0 := q0) ⟨hx, hb, hml, hown, hg⟩ ⟨callB_of 2 hg (kg_goodG kg_508) rfl rfl rfl (hg _ kg_4) (hg _ kg_505) (by decide +kernel) ⟨by decide, by decide⟩, hg _ kg_507, hg _ (kg_sel (q := (y_S_isInWideGroup, 4)) (by decide +kernel))⟩ (c_S_isInWideGroup l hq0 e0 ) hK hP hq0 e0 rfl rfl hl.1 rfl (Nat.le_of_ble_eq_true rfl) d_S_spoilsSources_90 ⟨Nat.zero_le _, Nat.zero_le _⟩) hA hS (fun H locs hP hS => ?_)
    refine lv_if_ne (tgt := 111) hx hb d_S_spoilsSources_93 (by decide) (fun h2 => ?_) (fun h2 => ?_)
    · refine lv_iconst (v := 1) hx hb d_S_spoilsSources_111 (by decide) ?_
      refine lv_goto (tgt := 116) hx hb d_S_spoilsSources_112 (by decide) ?_
      exact kw_zret hx hb hr hlocks hP hK hS (Or.inr rfl) ⟨by rw [kv_S_spoilsSources, if_pos h1, if_neg h2], rfl⟩ d_S_spoilsSources_116
    · refine lv_aload_n hx hb d_S_spoilsSources_96 rfl (lv_at hl 0 rfl) ?_
      refine lv_aload_n hx hb d_S_spoilsSources_97 rfl (lv_at hl 1 rfl) ?_
      refine kw_get hx hb hg in_I hown hK hP q1 hq1 e1 rfl 1 (by decide) (hg _ kg_76) rfl rfl d_S_spoilsSources_98 ?_
      refine lv_aload_n hx hb d_S_spoilsSources_101 rfl (lv_at hl 1 rfl) ?_
      refine kw_get hx hb hg in_I hown hK hP q1 hq1 e1 rfl 3 (by decide) (hg _ kg_84) rfl rfl d_S_spoilsSources_102 ?_
      refine kw_callix (kw_rV (As := [.int rd, .int rb]) (rest := []) (q0 := q0) ⟨hx, hb, hml, hown, hg⟩ ⟨callB_of 2 hg (kg_goodG kg_508) rfl rfl rfl (hg _ kg_4) (hg _ kg_505) (by decide +kernel) ⟨by decide, by decide⟩, hg _ kg_507, hg _ (kg_sel (q := (y_S_isInWideGroup, 4)) (by decide +kernel))⟩ (c_S_isInWideGroup l hq0 e0 ) hK hP hq0 e0 rfl rfl hl.1 rfl (Nat.le_of_ble_eq_true rfl) d_S_spoilsSources_105 ⟨Nat.zero_le _, Nat.zero_le _⟩) hA hS (fun H locs hP hS => ?_)
      refine lv_if_eq (tgt := 115) hx hb d_S_spoilsSources_108 (by decide) (fun h3 => ?_) (fun h3 => ?_)
      · refine lv_iconst (v := 0) hx hb d_S_spoilsSources_115 (by decide) ?_
        exact kw_zret hx hb hr hlocks hP hK hS (Or.inl rfl) ⟨by rw [kv_S_spoilsSources, if_pos h1, if_pos h2, if_pos h3], rfl⟩ d_S_spoilsSources_116
      · refine lv_iconst (v := 1) hx hb d_S_spoilsSources_111 (by decide) ?_
        refine lv_goto (tgt := 116) hx hb d_S_spoilsSources_112 (by decide) ?_
        exact kw_zret hx hb hr hlocks hP hK hS (Or.inr rfl) ⟨by rw [kv_S_spoilsSources, if_pos h1, if_pos h2, if_neg h3], rfl⟩ d_S_spoilsSources_116
  by_cases h4 : op = 15
  · refine lv_tableIn (tgt := 36) hx hb d_S_spoilsSources_4 (by rw [h4]; decide) (by rw [h4]; decide) (by rw [h4]; rfl) (by decide) ?_
    refine lv_aload_n hx hb d_S_spoilsSources_36 rfl (lv_at hl 1 rfl) ?_
    refine kw_get hx hb hg in_I hown hK hP q1 hq1 e1 rfl 1 (by decide) (hg _ kg_76) rfl rfl d_S_spoilsSources_37 ?_
    refine lv_aload_n hx hb d_S_spoilsSources_40 rfl (lv_at hl 1 rfl) ?_
    refine kw_get hx hb hg in_I hown hK hP q1 hq1 e1 rfl 2 (by decide) (hg _ kg_80) rfl rfl d_S_spoilsSources_41 ?_
    refine lv_icmp_ne (tgt := 51) hx hb d_S_spoilsSources_44 (by decide) (fun h5 => ?_) (fun h5 => ?_)
    · refine lv_iconst (v := 0) hx hb d_S_spoilsSources_51 (by decide) ?_
      exact kw_zret hx hb hr hlocks hP hK hS (Or.inl rfl) ⟨by rw [kv_S_spoilsSources, if_neg h1, if_pos h4, if_neg h5], rfl⟩ d_S_spoilsSources_52
    · refine lv_iconst (v := 1) hx hb d_S_spoilsSources_47 (by decide) ?_
      refine lv_goto (tgt := 52) hx hb d_S_spoilsSources_48 (by decide) ?_
      exact kw_zret hx hb hr hlocks hP hK hS (Or.inr rfl) ⟨by rw [kv_S_spoilsSources, if_neg h1, if_pos h4, if_pos h5], rfl⟩ d_S_spoilsSources_52
  by_cases h6 : op = 16
  · refine lv_tableIn (tgt := 53) hx hb d_S_spoilsSources_4 (by rw [h6]; decide) (by rw [h6]; decide) (by rw [h6]; rfl) (by decide) ?_
    refine lv_aload_n hx hb d_S_spoilsSources_53 rfl (lv_at hl 1 rfl) ?_
    refine kw_get hx hb hg in_I hown hK hP q1 hq1 e1 rfl 1 (by decide) (hg _ kg_76) rfl rfl d_S_spoilsSources_54 ?_
    refine lv_aload_n hx hb d_S_spoilsSources_57 rfl (lv_at hl 1 rfl) ?_
    refine kw_get hx hb hg in_I hown hK hP q1 hq1 e1 rfl 2 (by decide) (hg _ kg_80) rfl rfl d_S_spoilsSources_58 ?_
    refine lv_icmp_eq (tgt := 75) hx hb d_S_spoilsSources_61 (by decide) (fun h7 => ?_) (fun h7 => ?_)
    · refine lv_iconst (v := 1) hx hb d_S_spoilsSources_75 (by decide) ?_
      refine lv_goto (tgt := 80) hx hb d_S_spoilsSources_76 (by decide) ?_
      exact kw_zret hx hb hr hlocks hP hK hS (Or.inr rfl) ⟨by rw [kv_S_spoilsSources, if_neg h1, if_neg h4, if_pos h6, if_pos h7], rfl⟩ d_S_spoilsSources_80
    · refine lv_aload_n hx hb d_S_spoilsSources_64 rfl (lv_at hl 1 rfl) ?_
      refine kw_get hx hb hg in_I hown hK hP q1 hq1 e1 rfl 1 (by decide) (hg _ kg_76) rfl rfl d_S_spoilsSources_65 ?_
      refine lv_aload_n hx hb d_S_spoilsSources_68 rfl (lv_at hl 1 rfl) ?_
      refine kw_get hx hb hg in_I hown hK hP q1 hq1 e1 rfl 3 (by decide) (hg _ kg_84) rfl rfl d_S_spoilsSources_69 ?_
      refine lv_icmp_ne (tgt := 79) hx hb d_S_spoilsSources_72 (by decide) (fun h8 => ?_) (fun h8 => ?_)
      · refine lv_iconst (v := 0) hx hb d_S_spoilsSources_79 (by decide) ?_
        exact kw_zret hx hb hr hlocks hP hK hS (Or.inl rfl) ⟨by rw [kv_S_spoilsSources, if_neg h1, if_neg h4, if_pos h6, if_neg h7, if_neg h8], rfl⟩ d_S_spoilsSources_80
      · refine lv_iconst (v := 1) hx hb d_S_spoilsSources_75 (by decide) ?_
        refine lv_goto (tgt := 80) hx hb d_S_spoilsSources_76 (by decide) ?_
        exact kw_zret hx hb hr hlocks hP hK hS (Or.inr rfl) ⟨by rw [kv_S_spoilsSources, if_neg h1, if_neg h4, if_pos h6, if_neg h7, if_pos h8], rfl⟩ d_S_spoilsSources_80
  refine kw_tbl (tgt := 117) (N := 4) hx hb d_S_spoilsSources_4 rfl (by decide) (fun i hi => match i, hi with | 0, _ => Or.inr (lv_neT h1 rfl) | 1, _ => Or.inl rfl | 2, _ => Or.inr (lv_neT h4 rfl) | 3, _ => Or.inr (lv_neT h6 rfl) | z + 4, h => absurd h (by omega)) ?_
  refine lv_iconst (v := 0) hx hb d_S_spoilsSources_117 (by decide) ?_
  exact kw_zret hx hb hr hlocks hP hK hS (Or.inl rfl) ⟨by rw [kv_S_spoilsSources, if_neg h1, if_neg h4, if_neg h6], rfl⟩ d_S_spoilsSources_118

def kv_S_forbids (wp : Int32) (gp : Int32) (op : Int32) (rd : Int32) (ra : Int32) (rb : Int32) (mk : Int32) : Int32 := if (kv_I_isVector op) = 0 then 0 else if (kv_S_isMisplaced gp op rd ra rb) = 0 then (if (kv_S_spoilsMask op rd mk) = 0 then (if (kv_S_spoilsSources gp op rd ra rb) = 0 then (if (kv_S_isTooWide wp gp op) = 0 then 0 else 1) else 1) else 1) else 1
set_option maxRecDepth 100000 in
set_option maxHeartbeats 4000000 in
theorem c_S_forbids (l : Launch) {D : va_G} {tys : List (ClassId × FieldType)} {ad : Nat → Nat} {n : Nat} {cs : Nat → va_E} {q0 : Nat} {wp : Int32} {gp : Int32} {ln : Int32} {sa : Int32} {q1 : Nat} {op : Int32} {rd : Int32} {ra : Int32} {rb : Int32} {rn : Int32} {mk : Int32} (hq0 : q0 < n) (e0 : cs q0 = .inr (2, [.int wp, .int gp, .int ln, .int sa])) (hq1 : q1 < n) (e1 : cs q1 = .inr (1, [.int op, .int rd, .int ra, .int rb, .int rn, .int mk]))  : kw_mi l y_S_forbids w_S_forbids (kr 3) D kc tys ad n cs [.ref (ad q0), .ref (ad q1)] (fun r9 c9 => r9 = kv_S_forbids wp gp op rd ra rb mk ∧ c9 = cs) := by
  refine kw_of (cc := b_S_forbids) (maxL := 2) (ret := (some .boolean)) (by decide) rfl (Nat.le_of_ble_eq_true rfl) ?_
  intro p e s m below meth c ls hx hb hr hml hown hts hlocks hP hK hl
  have hg : ∀ w9 ∈ kg_G, w9.before [.ref (ad q0), .ref (ad q1)].toArray s = true := fun w9 h9 => hts w9 (List.mem_cons_of_mem _ h9)
  have hown : s.vm.findClass "LaneMachine$Setting" = some m.cls := hown
  have hA : ∀ k, k < n → kw_A ad n (ad k) := fun k hk => ⟨k, hk, rfl⟩
  have hS : va_S (kw_A ad n) s.heap s.heap [] := va_S.rf
  have hl : lv_has ls 2 [(0, .ref (ad q0)), (1, .ref (ad q1))] := hl
  refine lv_aload_n hx hb d_S_forbids_0 rfl (lv_at hl 1 rfl) ?_
  refine kw_callix (kw_rV (As := []) (rest := []) (q0 := q1) ⟨hx, hb, hml, hown, hg⟩ ⟨callB_of 0 hg (kg_goodG kg_477) rfl rfl rfl (hg _ kg_5) (hg _ kg_474) (by decide +kernel) ⟨by decide, by decide⟩, hg _ kg_475, hg _ kg_476⟩ (c_I_isVector l hq1 e1 ) hK hP hq1 e1 rfl rfl hl.1 rfl (Nat.le_of_ble_eq_true rfl) d_S_forbids_1 ⟨Nat.zero_le _, Nat.zero_le _⟩) hA hS (fun H locs hP hS => ?_)
  refine lv_if_eq (tgt := 42) hx hb d_S_forbids_4 (by decide) (fun h1 => ?_) (fun h1 => ?_)
  · refine lv_iconst (v := 0) hx hb d_S_forbids_42 (by decide) ?_
    exact kw_zret hx hb hr hlocks hP hK hS (Or.inl rfl) ⟨by rw [kv_S_forbids, if_pos h1], rfl⟩ d_S_forbids_43
  · refine lv_aload_n hx hb d_S_forbids_7 rfl (lv_at hl 0 rfl) ?_
    refine lv_aload_n hx hb d_S_forbids_8 rfl (lv_at hl 1 rfl) ?_
    refine kw_callix (kw_rV (As := [.ref (ad q1)]) (rest := []) (q0 := q0) ⟨hx, hb, hml, hown, hg⟩ ⟨callB_of 1 hg (kg_goodG kg_481) rfl rfl rfl (hg _ kg_4) (hg _ kg_478) (by decide +kernel) ⟨by decide, by decide⟩, hg _ kg_480, hg _ (kg_sel (q := (y_S_isMisplaced, 4)) (by decide +kernel))⟩ (c_S_isMisplaced l hq0 e0 hq1 e1 ) hK hP hq0 e0 rfl rfl hl.1 rfl (Nat.le_of_ble_eq_true rfl) d_S_forbids_9 ⟨Nat.zero_le _, Nat.zero_le _⟩) hA hS (fun H locs hP hS => ?_)
    refine lv_if_ne (tgt := 38) hx hb d_S_forbids_12 (by decide) (fun h2 => ?_) (fun h2 => ?_)
    · refine lv_iconst (v := 1) hx hb d_S_forbids_38 (by decide) ?_
      refine lv_goto (tgt := 43) hx hb d_S_forbids_39 (by decide) ?_
      exact kw_zret hx hb hr hlocks hP hK hS (Or.inr rfl) ⟨by rw [kv_S_forbids, if_neg h1, if_neg h2], rfl⟩ d_S_forbids_43
    · refine lv_aload_n hx hb d_S_forbids_15 rfl (lv_at hl 1 rfl) ?_
      refine kw_callix (kw_rS (As := [.ref (ad q1)]) (rest := []) ⟨hx, hb, hml, hown, hg⟩ ⟨callB_of 1 hg (kg_goodG kg_500) rfl rfl rfl (hg _ kg_4) (hg _ kg_498) (by decide +kernel) ⟨by decide, by decide⟩, hg _ kg_499⟩ (c_S_spoilsMask l hq1 e1 ) hK hP rfl hl.1 rfl (Nat.le_of_ble_eq_true rfl) d_S_forbids_16 ⟨Nat.zero_le _, Nat.zero_le _⟩) hA hS (fun H locs hP hS => ?_)
      refine lv_if_ne (tgt := 38) hx hb d_S_forbids_19 (by decide) (fun h3 => ?_) (fun h3 => ?_)
      · refine lv_iconst (v := 1) hx hb d_S_forbids_38 (by decide) ?_
        refine lv_goto (tgt := 43) hx hb d_S_forbids_39 (by decide) ?_
        exact kw_zret hx hb hr hlocks hP hK hS (Or.inr rfl) ⟨by rw [kv_S_forbids, if_neg h1, if_pos h2, if_neg h3], rfl⟩ d_S_forbids_43
      · refine lv_aload_n hx hb d_S_forbids_22 rfl (lv_at hl 0 rfl) ?_
        refine lv_aload_n hx hb d_S_forbids_23 rfl (lv_at hl 1 rfl) ?_
        refine kw_callix (kw_rV (As := [.ref (ad q1)]) (rest := []) (q0 := q0) ⟨hx, hb, hml, hown, hg⟩ ⟨callB_of 1 hg (kg_goodG kg_504) rfl rfl rfl (hg _ kg_4) (hg _ kg_501) (by decide +kernel) ⟨by decide, by decide⟩, hg _ kg_503, hg _ (kg_sel (q := (y_S_spoilsSources, 4)) (by decide +kernel))⟩ (c_S_spoilsSources l hq0 e0 hq1 e1 ) hK hP hq0 e0 rfl rfl hl.1 rfl (Nat.le_of_ble_eq_true rfl) d_S_forbids_24 ⟨Nat.zero_le _, Nat.zero_le _⟩) hA hS (fun H locs hP hS => ?_)
        refine lv_if_ne (tgt := 38) hx hb d_S_forbids_27 (by decide) (fun h4 => ?_) (fun h4 => ?_)
        · refine lv_iconst (v := 1) hx hb d_S_forbids_38 (by decide) ?_
          refine lv_goto (tgt := 43) hx hb d_S_forbids_39 (by decide) ?_
          exact kw_zret hx hb hr hlocks hP hK hS (Or.inr rfl) ⟨by rw [kv_S_forbids, if_neg h1, if_pos h2, if_pos h3, if_neg h4], rfl⟩ d_S_forbids_43
        · refine lv_aload_n hx hb d_S_forbids_30 rfl (lv_at hl 0 rfl) ?_
          refine lv_aload_n hx hb d_S_forbids_31 rfl (lv_at hl 1 rfl) ?_
          refine kw_callix (kw_rV (As := [.ref (ad q1)]) (rest := []) (q0 := q0) ⟨hx, hb, hml, hown, hg⟩ ⟨callB_of 1 hg (kg_goodG kg_512) rfl rfl rfl (hg _ kg_4) (hg _ kg_509) (by decide +kernel) ⟨by decide, by decide⟩, hg _ kg_511, hg _ (kg_sel (q := (y_S_isTooWide, 4)) (by decide +kernel))⟩ (c_S_isTooWide l hq0 e0 hq1 e1 ) hK hP hq0 e0 rfl rfl hl.1 rfl (Nat.le_of_ble_eq_true rfl) d_S_forbids_32 ⟨Nat.zero_le _, Nat.zero_le _⟩) hA hS (fun H locs hP hS => ?_)
          refine lv_if_eq (tgt := 42) hx hb d_S_forbids_35 (by decide) (fun h5 => ?_) (fun h5 => ?_)
          · refine lv_iconst (v := 0) hx hb d_S_forbids_42 (by decide) ?_
            exact kw_zret hx hb hr hlocks hP hK hS (Or.inl rfl) ⟨by rw [kv_S_forbids, if_neg h1, if_pos h2, if_pos h3, if_pos h4, if_pos h5], rfl⟩ d_S_forbids_43
          · refine lv_iconst (v := 1) hx hb d_S_forbids_38 (by decide) ?_
            refine lv_goto (tgt := 43) hx hb d_S_forbids_39 (by decide) ?_
            exact kw_zret hx hb hr hlocks hP hK hS (Or.inr rfl) ⟨by rw [kv_S_forbids, if_neg h1, if_pos h2, if_pos h3, if_pos h4, if_neg h5], rfl⟩ d_S_forbids_43

def kv_K_span (x : Int32) (y : Int32) : Int64 := (((1 : Int64) <<< (y.toInt64 &&& 63)) - 1) <<< (x.toInt64 &&& 63)
set_option maxRecDepth 100000 in
set_option maxHeartbeats 4000000 in
theorem c_K_span (l : Launch) {D : va_G} {tys : List (ClassId × FieldType)} {ad : Nat → Nat} {n : Nat} {cs : Nat → va_E} {x : Int32} {y : Int32}   : kw_ml l y_K_span w_K_span (kr 0) D kc tys ad n cs [.int x, .int y] (fun r9 c9 => r9 = kv_K_span x y ∧ c9 = cs) := by
  refine kw_of (cc := b_K_span) (maxL := 2) (ret := (some .long)) (by decide) rfl (Nat.le_of_ble_eq_true rfl) ?_
  intro p e s m below meth c ls hx hb hr hml hown hts hlocks hP hK hl
  have hg : ∀ w9 ∈ kg_G, w9.before [.int x, .int y].toArray s = true := fun w9 h9 => hts w9 (List.mem_cons_of_mem _ h9)
  have hown : s.vm.findClass "LaneMachine$Work" = some m.cls := hown
  have hA : ∀ k, k < n → kw_A ad n (ad k) := fun k hk => ⟨k, hk, rfl⟩
  have hS : va_S (kw_A ad n) s.heap s.heap [] := va_S.rf
  have hl : lv_has ls 2 [(0, .int x), (1, .int y)] := hl
  refine lv_lconst (v := 1) hx hb d_K_span_0 (by decide) ?_
  refine lv_iload_n hx hb d_K_span_1 rfl (lv_at hl 1 rfl) ?_
  refine lv_lshl hx hb d_K_span_2 rfl ?_
  refine lv_lconst (v := 1) hx hb d_K_span_3 (by decide) ?_
  refine lv_lsub hx hb d_K_span_4 ?_
  refine lv_iload_n hx hb d_K_span_5 rfl (lv_at hl 0 rfl) ?_
  refine lv_lshl hx hb d_K_span_6 rfl ?_
  exact kw_lret hx hb hr hlocks hP hK hS ⟨by rw [kv_K_span], rfl⟩ d_K_span_7

def kv_M_isRegister (x : Int32) : Int32 := if x < 0 then 0 else if 8 ≤ x then 0 else 1
set_option maxRecDepth 100000 in
set_option maxHeartbeats 4000000 in
theorem c_M_isRegister (l : Launch) {D : va_G} {tys : List (ClassId × FieldType)} {ad : Nat → Nat} {n : Nat} {cs : Nat → va_E} {x : Int32}   : kw_mi l y_M_isRegister w_M_isRegister (kr 0) D kc tys ad n cs [.int x] (fun r9 c9 => r9 = kv_M_isRegister x ∧ c9 = cs) := by
  refine kw_of (cc := b_M_isRegister) (maxL := 1) (ret := (some .boolean)) (by decide) rfl (Nat.le_of_ble_eq_true rfl) ?_
  intro p e s m below meth c ls hx hb hr hml hown hts hlocks hP hK hl
  have hg : ∀ w9 ∈ kg_G, w9.before [.int x].toArray s = true := fun w9 h9 => hts w9 (List.mem_cons_of_mem _ h9)
  have hown : s.vm.findClass "LaneMachine" = some m.cls := hown
  have hA : ∀ k, k < n → kw_A ad n (ad k) := fun k hk => ⟨k, hk, rfl⟩
  have hS : va_S (kw_A ad n) s.heap s.heap [] := va_S.rf
  have hl : lv_has ls 1 [(0, .int x)] := hl
  refine lv_iload_n hx hb d_M_isRegister_0 rfl (lv_at hl 0 rfl) ?_
  refine lv_if_lt (tgt := 14) hx hb d_M_isRegister_1 (by decide) (fun h1 => ?_) (fun h1 => ?_)
  · refine lv_iconst (v := 0) hx hb d_M_isRegister_14 (by decide) ?_
    exact kw_zret hx hb hr hlocks hP hK hS (Or.inl rfl) ⟨by rw [kv_M_isRegister, if_pos h1], rfl⟩ d_M_isRegister_15
  · refine lv_iload_n hx hb d_M_isRegister_4 rfl (lv_at hl 0 rfl) ?_
    refine lv_bipush (v := 8) hx hb d_M_isRegister_5 (by decide) ?_
    refine lv_icmp_ge (tgt := 14) hx hb d_M_isRegister_7 (by decide) (fun h2 => ?_) (fun h2 => ?_)
    · refine lv_iconst (v := 0) hx hb d_M_isRegister_14 (by decide) ?_
      exact kw_zret hx hb hr hlocks hP hK hS (Or.inl rfl) ⟨by rw [kv_M_isRegister, if_neg h1, if_pos h2], rfl⟩ d_M_isRegister_15
    · refine lv_iconst (v := 1) hx hb d_M_isRegister_10 (by decide) ?_
      refine lv_goto (tgt := 15) hx hb d_M_isRegister_11 (by decide) ?_
      exact kw_zret hx hb hr hlocks hP hK hS (Or.inr rfl) ⟨by rw [kv_M_isRegister, if_neg h1, if_neg h2], rfl⟩ d_M_isRegister_15

def kv_R_isRegister (x : Int32) : Int32 := if x < 0 then 0 else if 7 < x then 0 else 1
set_option maxRecDepth 100000 in
set_option maxHeartbeats 4000000 in
theorem c_R_isRegister (l : Launch) {D : va_G} {tys : List (ClassId × FieldType)} {ad : Nat → Nat} {n : Nat} {cs : Nat → va_E} {x : Int32}   : kw_mi l y_R_isRegister w_R_isRegister (kr 0) D kc tys ad n cs [.int x] (fun r9 c9 => r9 = kv_R_isRegister x ∧ c9 = cs) := by
  refine kw_of (cc := b_R_isRegister) (maxL := 1) (ret := (some .boolean)) (by decide) rfl (Nat.le_of_ble_eq_true rfl) ?_
  intro p e s m below meth c ls hx hb hr hml hown hts hlocks hP hK hl
  have hg : ∀ w9 ∈ kg_G, w9.before [.int x].toArray s = true := fun w9 h9 => hts w9 (List.mem_cons_of_mem _ h9)
  have hown : s.vm.findClass "LaneMachineModel" = some m.cls := hown
  have hA : ∀ k, k < n → kw_A ad n (ad k) := fun k hk => ⟨k, hk, rfl⟩
  have hS : va_S (kw_A ad n) s.heap s.heap [] := va_S.rf
  have hl : lv_has ls 1 [(0, .int x)] := hl
  refine lv_iload_n hx hb d_R_isRegister_0 rfl (lv_at hl 0 rfl) ?_
  refine lv_if_lt (tgt := 14) hx hb d_R_isRegister_1 (by decide) (fun h1 => ?_) (fun h1 => ?_)
  · refine lv_iconst (v := 0) hx hb d_R_isRegister_14 (by decide) ?_
    exact kw_zret hx hb hr hlocks hP hK hS (Or.inl rfl) ⟨by rw [kv_R_isRegister, if_pos h1], rfl⟩ d_R_isRegister_15
  · refine lv_iload_n hx hb d_R_isRegister_4 rfl (lv_at hl 0 rfl) ?_
    refine lv_bipush (v := 7) hx hb d_R_isRegister_5 (by decide) ?_
    refine lv_icmp_gt (tgt := 14) hx hb d_R_isRegister_7 (by decide) (fun h2 => ?_) (fun h2 => ?_)
    · refine lv_iconst (v := 0) hx hb d_R_isRegister_14 (by decide) ?_
      exact kw_zret hx hb hr hlocks hP hK hS (Or.inl rfl) ⟨by rw [kv_R_isRegister, if_neg h1, if_pos h2], rfl⟩ d_R_isRegister_15
    · refine lv_iconst (v := 1) hx hb d_R_isRegister_10 (by decide) ?_
      refine lv_goto (tgt := 15) hx hb d_R_isRegister_11 (by decide) ?_
      exact kw_zret hx hb hr hlocks hP hK hS (Or.inr rfl) ⟨by rw [kv_R_isRegister, if_neg h1, if_neg h2], rfl⟩ d_R_isRegister_15

def kv_R_bytes (x : Int32) (y : Int32) : Int64 := (((1 : Int64) <<< (y.toInt64 &&& 63)) - 1) <<< (x.toInt64 &&& 63)
set_option maxRecDepth 100000 in
set_option maxHeartbeats 4000000 in
theorem c_R_bytes (l : Launch) {D : va_G} {tys : List (ClassId × FieldType)} {ad : Nat → Nat} {n : Nat} {cs : Nat → va_E} {x : Int32} {y : Int32}   : kw_ml l y_R_bytes w_R_bytes (kr 0) D kc tys ad n cs [.int x, .int y] (fun r9 c9 => r9 = kv_R_bytes x y ∧ c9 = cs) := by
  refine kw_of (cc := b_R_bytes) (maxL := 2) (ret := (some .long)) (by decide) rfl (Nat.le_of_ble_eq_true rfl) ?_
  intro p e s m below meth c ls hx hb hr hml hown hts hlocks hP hK hl
  have hg : ∀ w9 ∈ kg_G, w9.before [.int x, .int y].toArray s = true := fun w9 h9 => hts w9 (List.mem_cons_of_mem _ h9)
  have hown : s.vm.findClass "LaneMachineModel" = some m.cls := hown
  have hA : ∀ k, k < n → kw_A ad n (ad k) := fun k hk => ⟨k, hk, rfl⟩
  have hS : va_S (kw_A ad n) s.heap s.heap [] := va_S.rf
  have hl : lv_has ls 2 [(0, .int x), (1, .int y)] := hl
  refine lv_lconst (v := 1) hx hb d_R_bytes_0 (by decide) ?_
  refine lv_iload_n hx hb d_R_bytes_1 rfl (lv_at hl 1 rfl) ?_
  refine lv_lshl hx hb d_R_bytes_2 rfl ?_
  refine lv_lconst (v := 1) hx hb d_R_bytes_3 (by decide) ?_
  refine lv_lsub hx hb d_R_bytes_4 ?_
  refine lv_iload_n hx hb d_R_bytes_5 rfl (lv_at hl 0 rfl) ?_
  refine lv_lshl hx hb d_R_bytes_6 rfl ?_
  exact kw_lret hx hb hr hlocks hP hK hS ⟨by rw [kv_R_bytes], rfl⟩ d_R_bytes_7

def kv_R_signed (v : Int64) (y : Int32) : Int32 := if y = 4 then v.toInt32 else if y = 2 then (((v <<< ((48 : Int32).toInt64 &&& 63)) >>> ((48 : Int32).toInt64 &&& 63)).toInt32) else (((v <<< ((56 : Int32).toInt64 &&& 63)) >>> ((56 : Int32).toInt64 &&& 63)).toInt32)
set_option maxRecDepth 100000 in
set_option maxHeartbeats 4000000 in
theorem c_R_signed (l : Launch) {D : va_G} {tys : List (ClassId × FieldType)} {ad : Nat → Nat} {n : Nat} {cs : Nat → va_E} {v : Int64} {y : Int32}   : kw_mi l y_R_signed w_R_signed (kr 0) D kc tys ad n cs [.long v, .int y] (fun r9 c9 => r9 = kv_R_signed v y ∧ c9 = cs) := by
  refine kw_of (cc := b_R_signed) (maxL := 3) (ret := (some .int)) (by decide) rfl (Nat.le_of_ble_eq_true rfl) ?_
  intro p e s m below meth c ls hx hb hr hml hown hts hlocks hP hK hl
  have hg : ∀ w9 ∈ kg_G, w9.before [.long v, .int y].toArray s = true := fun w9 h9 => hts w9 (List.mem_cons_of_mem _ h9)
  have hown : s.vm.findClass "LaneMachineModel" = some m.cls := hown
  have hA : ∀ k, k < n → kw_A ad n (ad k) := fun k hk => ⟨k, hk, rfl⟩
  have hS : va_S (kw_A ad n) s.heap s.heap [] := va_S.rf
  have hl : lv_has ls 3 [(0, .long v), (2, .int y)] := hl
  refine lv_iload_n hx hb d_R_signed_0 rfl (lv_at hl 1 rfl) ?_
  refine lv_iconst (v := 4) hx hb d_R_signed_1 (by decide) ?_
  refine lv_icmp_ne (tgt := 10) hx hb d_R_signed_2 (by decide) (fun h1 => ?_) (fun h1 => ?_)
  · refine lv_iload_n hx hb d_R_signed_10 rfl (lv_at hl 1 rfl) ?_
    refine lv_iconst (v := 2) hx hb d_R_signed_11 (by decide) ?_
    refine lv_icmp_ne (tgt := 26) hx hb d_R_signed_12 (by decide) (fun h2 => ?_) (fun h2 => ?_)
    · refine lv_lload_n hx hb d_R_signed_26 rfl (lv_at hl 0 rfl) ?_
      refine lv_bipush (v := 56) hx hb d_R_signed_27 (by decide) ?_
      refine lv_lshl hx hb d_R_signed_29 rfl ?_
      refine lv_bipush (v := 56) hx hb d_R_signed_30 (by decide) ?_
      refine lv_lshr hx hb d_R_signed_32 rfl ?_
      refine lv_l2i hx hb d_R_signed_33 rfl ?_
      exact kw_iret hx hb hr hlocks hP hK hS ⟨by rw [kv_R_signed, if_neg h1, if_neg h2], rfl⟩ d_R_signed_34
    · refine lv_lload_n hx hb d_R_signed_15 rfl (lv_at hl 0 rfl) ?_
      refine lv_bipush (v := 48) hx hb d_R_signed_16 (by decide) ?_
      refine lv_lshl hx hb d_R_signed_18 rfl ?_
      refine lv_bipush (v := 48) hx hb d_R_signed_19 (by decide) ?_
      refine lv_lshr hx hb d_R_signed_21 rfl ?_
      refine lv_l2i hx hb d_R_signed_22 rfl ?_
      refine lv_goto (tgt := 34) hx hb d_R_signed_23 (by decide) ?_
      exact kw_iret hx hb hr hlocks hP hK hS ⟨by rw [kv_R_signed, if_neg h1, if_pos h2], rfl⟩ d_R_signed_34
  · refine lv_lload_n hx hb d_R_signed_5 rfl (lv_at hl 0 rfl) ?_
    refine lv_l2i hx hb d_R_signed_6 rfl ?_
    refine lv_goto (tgt := 34) hx hb d_R_signed_7 (by decide) ?_
    exact kw_iret hx hb hr hlocks hP hK hS ⟨by rw [kv_R_signed, if_pos h1], rfl⟩ d_R_signed_34

def kv_R_plain (x : Int32) (y : Int32) : Int64 := if y = 4 then (x.toInt64 &&& 4294967295) else if y = 2 then (x.toInt64 &&& 65535) else (x.toInt64 &&& 255)
set_option maxRecDepth 100000 in
set_option maxHeartbeats 4000000 in
theorem c_R_plain (l : Launch) {D : va_G} {tys : List (ClassId × FieldType)} {ad : Nat → Nat} {n : Nat} {cs : Nat → va_E} {x : Int32} {y : Int32}   : kw_ml l y_R_plain w_R_plain (kr 0) D kc tys ad n cs [.int x, .int y] (fun r9 c9 => r9 = kv_R_plain x y ∧ c9 = cs) := by
  refine kw_of (cc := b_R_plain) (maxL := 2) (ret := (some .long)) (by decide) rfl (Nat.le_of_ble_eq_true rfl) ?_
  intro p e s m below meth c ls hx hb hr hml hown hts hlocks hP hK hl
  have hg : ∀ w9 ∈ kg_G, w9.before [.int x, .int y].toArray s = true := fun w9 h9 => hts w9 (List.mem_cons_of_mem _ h9)
  have hown : s.vm.findClass "LaneMachineModel" = some m.cls := hown
  have hA : ∀ k, k < n → kw_A ad n (ad k) := fun k hk => ⟨k, hk, rfl⟩
  have hS : va_S (kw_A ad n) s.heap s.heap [] := va_S.rf
  have hl : lv_has ls 2 [(0, .int x), (1, .int y)] := hl
  refine lv_iload_n hx hb d_R_plain_0 rfl (lv_at hl 1 rfl) ?_
  refine lv_iconst (v := 4) hx hb d_R_plain_1 (by decide) ?_
  refine lv_icmp_ne (tgt := 14) hx hb d_R_plain_2 (by decide) (fun h1 => ?_) (fun h1 => ?_)
  · refine lv_iload_n hx hb d_R_plain_14 rfl (lv_at hl 1 rfl) ?_
    refine lv_iconst (v := 2) hx hb d_R_plain_15 (by decide) ?_
    refine lv_icmp_ne (tgt := 28) hx hb d_R_plain_16 (by decide) (fun h2 => ?_) (fun h2 => ?_)
    · refine lv_iload_n hx hb d_R_plain_28 rfl (lv_at hl 0 rfl) ?_
      refine lv_i2l hx hb d_R_plain_29 rfl ?_
      refine lv_ldc2 (v := 255) hx hb hown (hg _ kg_753) d_R_plain_30 ?_
      refine lv_land hx hb d_R_plain_33 ?_
      exact kw_lret hx hb hr hlocks hP hK hS ⟨by rw [kv_R_plain, if_neg h1, if_neg h2], rfl⟩ d_R_plain_34
    · refine lv_iload_n hx hb d_R_plain_19 rfl (lv_at hl 0 rfl) ?_
      refine lv_i2l hx hb d_R_plain_20 rfl ?_
      refine lv_ldc2 (v := 65535) hx hb hown (hg _ kg_752) d_R_plain_21 ?_
      refine lv_land hx hb d_R_plain_24 ?_
      refine lv_goto (tgt := 34) hx hb d_R_plain_25 (by decide) ?_
      exact kw_lret hx hb hr hlocks hP hK hS ⟨by rw [kv_R_plain, if_neg h1, if_pos h2], rfl⟩ d_R_plain_34
  · refine lv_iload_n hx hb d_R_plain_5 rfl (lv_at hl 0 rfl) ?_
    refine lv_i2l hx hb d_R_plain_6 rfl ?_
    refine lv_ldc2 (v := 4294967295) hx hb hown (hg _ kg_751) d_R_plain_7 ?_
    refine lv_land hx hb d_R_plain_10 ?_
    refine lv_goto (tgt := 34) hx hb d_R_plain_11 (by decide) ?_
    exact kw_lret hx hb hr hlocks hP hK hS ⟨by rw [kv_R_plain, if_pos h1], rfl⟩ d_R_plain_34

def kv_R_unit (x : Int32) : Int32 := if x < 17 then (if x = 10 then 1 else if x < 14 then 0 else 1) else 2
set_option maxRecDepth 100000 in
set_option maxHeartbeats 4000000 in
theorem c_R_unit (l : Launch) {D : va_G} {tys : List (ClassId × FieldType)} {ad : Nat → Nat} {n : Nat} {cs : Nat → va_E} {x : Int32}   : kw_mi l y_R_unit w_R_unit (kr 0) D kc tys ad n cs [.int x] (fun r9 c9 => r9 = kv_R_unit x ∧ c9 = cs) := by
  refine kw_of (cc := b_R_unit) (maxL := 1) (ret := (some .int)) (by decide) rfl (Nat.le_of_ble_eq_true rfl) ?_
  intro p e s m below meth c ls hx hb hr hml hown hts hlocks hP hK hl
  have hg : ∀ w9 ∈ kg_G, w9.before [.int x].toArray s = true := fun w9 h9 => hts w9 (List.mem_cons_of_mem _ h9)
  have hown : s.vm.findClass "LaneMachineModel" = some m.cls := hown
  have hA : ∀ k, k < n → kw_A ad n (ad k) := fun k hk => ⟨k, hk, rfl⟩
  have hS : va_S (kw_A ad n) s.heap s.heap [] := va_S.rf
  have hl : lv_has ls 1 [(0, .int x)] := hl
  refine lv_iload_n hx hb d_R_unit_0 rfl (lv_at hl 0 rfl) ?_
  refine lv_bipush (v := 17) hx hb d_R_unit_1 (by decide) ?_
  refine lv_icmp_lt (tgt := 10) hx hb d_R_unit_3 (by decide) (fun h1 => ?_) (fun h1 => ?_)
  · refine lv_iload_n hx hb d_R_unit_10 rfl (lv_at hl 0 rfl) ?_
    refine lv_bipush (v := 10) hx hb d_R_unit_11 (by decide) ?_
    refine lv_icmp_eq (tgt := 22) hx hb d_R_unit_13 (by decide) (fun h2 => ?_) (fun h2 => ?_)
    · refine lv_iconst (v := 1) hx hb d_R_unit_22 (by decide) ?_
      refine lv_goto (tgt := 27) hx hb d_R_unit_23 (by decide) ?_
      exact kw_iret hx hb hr hlocks hP hK hS ⟨by rw [kv_R_unit, if_pos h1, if_pos h2], rfl⟩ d_R_unit_27
    · refine lv_iload_n hx hb d_R_unit_16 rfl (lv_at hl 0 rfl) ?_
      refine lv_bipush (v := 14) hx hb d_R_unit_17 (by decide) ?_
      refine lv_icmp_lt (tgt := 26) hx hb d_R_unit_19 (by decide) (fun h3 => ?_) (fun h3 => ?_)
      · refine lv_iconst (v := 0) hx hb d_R_unit_26 (by decide) ?_
        exact kw_iret hx hb hr hlocks hP hK hS ⟨by rw [kv_R_unit, if_pos h1, if_neg h2, if_pos h3], rfl⟩ d_R_unit_27
      · refine lv_iconst (v := 1) hx hb d_R_unit_22 (by decide) ?_
        refine lv_goto (tgt := 27) hx hb d_R_unit_23 (by decide) ?_
        exact kw_iret hx hb hr hlocks hP hK hS ⟨by rw [kv_R_unit, if_pos h1, if_neg h2, if_neg h3], rfl⟩ d_R_unit_27
  · refine lv_iconst (v := 2) hx hb d_R_unit_6 (by decide) ?_
    refine lv_goto (tgt := 27) hx hb d_R_unit_7 (by decide) ?_
    exact kw_iret hx hb hr hlocks hP hK hS ⟨by rw [kv_R_unit, if_neg h1], rfl⟩ d_R_unit_27

def kv_R_odd (x : Int32) (y : Int32) : Int32 := if (x - x / y * y) = 0 then 0 else 1
set_option maxRecDepth 100000 in
set_option maxHeartbeats 4000000 in
theorem c_R_odd (l : Launch) {D : va_G} {tys : List (ClassId × FieldType)} {ad : Nat → Nat} {n : Nat} {cs : Nat → va_E} {q0 : Nat} {x : Int32} {y : Int32}  (hy : ¬ y = 0) : kw_mi l y_R_odd w_R_odd (kr 0) D kc tys ad n cs [.ref (ad q0), .int x, .int y] (fun r9 c9 => r9 = kv_R_odd x y ∧ c9 = cs) := by
  refine kw_of (cc := b_R_odd) (maxL := 3) (ret := (some .boolean)) (by decide) rfl (Nat.le_of_ble_eq_true rfl) ?_
  intro p e s m below meth c ls hx hb hr hml hown hts hlocks hP hK hl
  have hg : ∀ w9 ∈ kg_G, w9.before [.ref (ad q0), .int x, .int y].toArray s = true := fun w9 h9 => hts w9 (List.mem_cons_of_mem _ h9)
  have hown : s.vm.findClass "LaneMachineModel" = some m.cls := hown
  have hA : ∀ k, k < n → kw_A ad n (ad k) := fun k hk => ⟨k, hk, rfl⟩
  have hS : va_S (kw_A ad n) s.heap s.heap [] := va_S.rf
  have hl : lv_has ls 3 [(0, .ref (ad q0)), (1, .int x), (2, .int y)] := hl
  refine lv_iload_n hx hb d_R_odd_0 rfl (lv_at hl 1 rfl) ?_
  refine lv_iload_n hx hb d_R_odd_1 rfl (lv_at hl 2 rfl) ?_
  refine lv_irem hx hb d_R_odd_2 (hy) ?_
  refine lv_if_eq (tgt := 10) hx hb d_R_odd_3 (by decide) (fun h1 => ?_) (fun h1 => ?_)
  · refine lv_iconst (v := 0) hx hb d_R_odd_10 (by decide) ?_
    exact kw_zret hx hb hr hlocks hP hK hS (Or.inl rfl) ⟨by rw [kv_R_odd, if_pos h1], rfl⟩ d_R_odd_11
  · refine lv_iconst (v := 1) hx hb d_R_odd_6 (by decide) ?_
    refine lv_goto (tgt := 11) hx hb d_R_odd_7 (by decide) ?_
    exact kw_zret hx hb hr hlocks hP hK hS (Or.inr rfl) ⟨by rw [kv_R_odd, if_neg h1], rfl⟩ d_R_odd_11
