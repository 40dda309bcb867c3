/-! Work -/
def kv_K_steps (fr : Nat) (tt : Nat) (op : Int32) : Int32 := if op = 14 then (if (if 0 < ((nI tt) - (nI fr)) then ((nI tt) - (nI fr)) else 0) < 1 then (if 0 < ((nI tt) - (nI fr)) then ((nI tt) - (nI fr)) else 0) else 1) else (if 0 < ((nI tt) - (nI fr)) then ((nI tt) - (nI fr)) else 0)
set_option maxRecDepth 100000 in
set_option maxHeartbeats 4000000 in
theorem c_K_steps (l : Launch) {D : va_G} {ad : Nat → Nat} {n : Nat} {cs : Nat → va_E} {cI : ClassId} {cB : ClassId} {cJ : ClassId} {cQ : ClassId} {cW : ClassId} {qk : Nat} {q1 : Nat} {q2 : Nat} {q4 : Nat} {q6 : Nat} {q7 : Nat} {w : Nat} {fr : Nat} {tt : Nat} {dn : Nat} {db : Nat} {gr : Int32} {mo : Int32} {xa : Int32} {xb : Int32} {nu : Int32} {op : Int32} {rd : Int32} {ra : Int32} {rb : Int32} {rn : Int32} {mk : Int32} (hqk : qk < n) (ek : cs qk = .inr (3, [.ref (ad q2), .ref (ad q4), .ref (ad q6), .ref (ad q7), .int (nI w), .int gr, .int mo, .int xa, .int xb, .int (nI fr), .ref (ad q1), .int nu, .int (nI tt), .int (nI dn), .int (nI db)])) (hq1 : q1 < n) (e1 : cs q1 = .inr (1, [.int op, .int rd, .int ra, .int rb, .int rn, .int mk]))  : kw_mi l y_K_steps w_K_steps (kr 1) D kc (kt cI cB cJ cQ cW) ad n cs [.ref (ad qk)] (fun r9 c9 => r9 = kv_K_steps fr tt op ∧ c9 = cs) := by
  refine kw_of (cc := b_K_steps) (maxL := 2) (ret := (some .int)) (by decide) rfl (Nat.le_of_ble_eq_true rfl) ?_
  intro p e s m below meth c ls hx hb hr hml hown hts hlocks hP hK hl
  have hg : ∀ w9 ∈ kg_G, w9.before [.ref (ad qk)].toArray s = true := fun w9 h9 => hts w9 (List.mem_cons_of_mem _ h9)
  have hown : s.vm.findClass "LaneMachine$Work" = some m.cls := hown
  have hA : ∀ k, k < n → kw_A ad n (ad k) := fun k hk => ⟨k, hk, rfl⟩
  have hS : va_S (kw_A ad n) s.heap s.heap [] := va_S.rf
  have hl : lv_has ls 2 [(0, .ref (ad qk))] := hl
  refine lv_iconst (v := 0) hx hb d_K_steps_0 (by decide) ?_
  refine lv_aload_n hx hb d_K_steps_1 rfl (lv_at hl 0 rfl) ?_
  refine kw_get hx hb hg in_K hown hK hP qk hqk ek rfl 12 (by decide) (hg _ kg_125) rfl rfl d_K_steps_2 ?_
  refine lv_aload_n hx hb d_K_steps_5 rfl (lv_at hl 0 rfl) ?_
  refine kw_get hx hb hg in_K hown hK hP qk hqk ek rfl 9 (by decide) (hg _ kg_120) rfl rfl d_K_steps_6 ?_
  refine lv_isub hx hb d_K_steps_9 ?_
  refine va_mmax hx hb (hml.trans hl.1.symm) hown (hg _ kg_245) (hg _ kg_25) (hg _ kg_2) (hg _ kg_26) (by decide) (Nat.le_of_ble_eq_true rfl) (Nat.zero_le _) (Nat.zero_le _) d_K_steps_10 ?_
  refine lv_istore_n (lv' := [(1, .int (if 0 < ((nI tt) - (nI fr)) then ((nI tt) - (nI fr)) else 0)), (0, .ref (ad qk))]) hx hb d_K_steps_13 rfl hl (by decide) rfl (fun ls hl => ?_)
  refine lv_aload_n hx hb d_K_steps_14 rfl (lv_at hl 1 rfl) ?_
  refine kw_get hx hb hg in_K hown hK hP qk hqk ek rfl 10 (by decide) (hg _ kg_121) rfl rfl d_K_steps_15 ?_
  refine kw_get hx hb hg in_I hown hK hP q1 hq1 e1 rfl 0 (by decide) (hg _ kg_72) rfl rfl d_K_steps_18 ?_
  refine lv_bipush (v := 14) hx hb d_K_steps_21 (by decide) ?_
  refine lv_icmp_ne (tgt := 34) hx hb d_K_steps_23 (by decide) (fun h1 => ?_) (fun h1 => ?_)
  · refine lv_iload_n hx hb d_K_steps_34 rfl (lv_at hl 0 rfl) ?_
    exact kw_iret hx hb hr hlocks hP hK hS ⟨by rw [kv_K_steps, if_neg h1], rfl⟩ d_K_steps_35
  · refine lv_iconst (v := 1) hx hb d_K_steps_26 (by decide) ?_
    refine lv_iload_n hx hb d_K_steps_27 rfl (lv_at hl 0 rfl) ?_
    refine va_mmin hx hb (hml.trans hl.1.symm) hown (hg _ kg_246) (hg _ kg_22) (hg _ kg_2) (hg _ kg_23) (by decide) (Nat.le_of_ble_eq_true rfl) (Nat.zero_le _) (Nat.zero_le _) d_K_steps_28 ?_
    refine lv_goto (tgt := 35) hx hb d_K_steps_31 (by decide) ?_
    exact kw_iret hx hb hr hlocks hP hK hS ⟨by rw [kv_K_steps, if_pos h1], rfl⟩ d_K_steps_35

def kv_K_isDone (fr : Nat) (tt : Nat) (dn : Nat) (op : Int32) : Int32 := if (nI dn) < (kv_K_steps fr tt op) then 0 else 1
set_option maxRecDepth 100000 in
set_option maxHeartbeats 4000000 in
theorem c_K_isDone (l : Launch) {D : va_G} {ad : Nat → Nat} {n : Nat} {cs : Nat → va_E} {cI : ClassId} {cB : ClassId} {cJ : ClassId} {cQ : ClassId} {cW : ClassId} {qk : Nat} {q1 : Nat} {q2 : Nat} {q4 : Nat} {q6 : Nat} {q7 : Nat} {w : Nat} {fr : Nat} {tt : Nat} {dn : Nat} {db : Nat} {gr : Int32} {mo : Int32} {xa : Int32} {xb : Int32} {nu : Int32} {op : Int32} {rd : Int32} {ra : Int32} {rb : Int32} {rn : Int32} {mk : Int32} (hqk : qk < n) (ek : cs qk = .inr (3, [.ref (ad q2), .ref (ad q4), .ref (ad q6), .ref (ad q7), .int (nI w), .int gr, .int mo, .int xa, .int xb, .int (nI fr), .ref (ad q1), .int nu, .int (nI tt), .int (nI dn), .int (nI db)])) (hq1 : q1 < n) (e1 : cs q1 = .inr (1, [.int op, .int rd, .int ra, .int rb, .int rn, .int mk]))  : kw_mi l y_K_isDone w_K_isDone (kr 2) D kc (kt cI cB cJ cQ cW) ad n cs [.ref (ad qk)] (fun r9 c9 => r9 = kv_K_isDone fr tt dn op ∧ c9 = cs) := by
  refine kw_of (cc := b_K_isDone) (maxL := 1) (ret := (some .boolean)) (by decide) rfl (Nat.le_of_ble_eq_true rfl) ?_
  intro p e s m below meth c ls hx hb hr hml hown hts hlocks hP hK hl
  have hg : ∀ w9 ∈ kg_G, w9.before [.ref (ad qk)].toArray s = true := fun w9 h9 => hts w9 (List.mem_cons_of_mem _ h9)
  have hown : s.vm.findClass "LaneMachine$Work" = some m.cls := hown
  have hA : ∀ k, k < n → kw_A ad n (ad k) := fun k hk => ⟨k, hk, rfl⟩
  have hS : va_S (kw_A ad n) s.heap s.heap [] := va_S.rf
  have hl : lv_has ls 1 [(0, .ref (ad qk))] := hl
  refine lv_aload_n hx hb d_K_isDone_0 rfl (lv_at hl 0 rfl) ?_
  refine kw_get hx hb hg in_K hown hK hP qk hqk ek rfl 13 (by decide) (hg _ kg_127) rfl rfl d_K_isDone_1 ?_
  refine lv_aload_n hx hb d_K_isDone_4 rfl (lv_at hl 0 rfl) ?_
  refine kw_callix (kw_rV (As := []) (rest := [.int (nI dn)]) (q0 := qk) ⟨hx, hb, hml, hown, hg⟩ ⟨callB_of 0 hg (kg_goodG kg_244) rfl rfl rfl (hg _ kg_6) (hg _ kg_383) (by decide +kernel) ⟨by decide, by decide⟩, hg _ kg_242, hg _ kg_243⟩ (c_K_steps l hqk ek hq1 e1 ) hK hP hqk ek rfl rfl hl.1 rfl (Nat.le_of_ble_eq_true rfl) d_K_isDone_5 ⟨Nat.zero_le _, Nat.zero_le _⟩) hA hS (fun H locs hP hS => ?_)
  refine lv_icmp_lt (tgt := 15) hx hb d_K_isDone_8 (by decide) (fun h1 => ?_) (fun h1 => ?_)
  · refine lv_iconst (v := 0) hx hb d_K_isDone_15 (by decide) ?_
    exact kw_zret hx hb hr hlocks hP hK hS (Or.inl rfl) ⟨by rw [kv_K_isDone, if_pos h1], rfl⟩ d_K_isDone_16
  · refine lv_iconst (v := 1) hx hb d_K_isDone_11 (by decide) ?_
    refine lv_goto (tgt := 16) hx hb d_K_isDone_12 (by decide) ?_
    exact kw_zret hx hb hr hlocks hP hK hS (Or.inr rfl) ⟨by rw [kv_K_isDone, if_neg h1], rfl⟩ d_K_isDone_16

def kv_K_placeOf (w : Nat) (x : Int32) (y : Int32) : Int32 := (8 * x) + (y * (nI w))
set_option maxRecDepth 100000 in
set_option maxHeartbeats 4000000 in
theorem c_K_placeOf (l : Launch) {D : va_G} {ad : Nat → Nat} {n : Nat} {cs : Nat → va_E} {cI : ClassId} {cB : ClassId} {cJ : ClassId} {cQ : ClassId} {cW : ClassId} {qk : Nat} {q1 : Nat} {q2 : Nat} {q4 : Nat} {q6 : Nat} {q7 : Nat} {w : Nat} {fr : Nat} {tt : Nat} {dn : Nat} {db : Nat} {gr : Int32} {mo : Int32} {xa : Int32} {xb : Int32} {nu : Int32} {x : Int32} {y : Int32} (hqk : qk < n) (ek : cs qk = .inr (3, [.ref (ad q2), .ref (ad q4), .ref (ad q6), .ref (ad q7), .int (nI w), .int gr, .int mo, .int xa, .int xb, .int (nI fr), .ref (ad q1), .int nu, .int (nI tt), .int (nI dn), .int (nI db)]))  : kw_mi l y_K_placeOf w_K_placeOf (kr 0) D kc (kt cI cB cJ cQ cW) ad n cs [.ref (ad qk), .int x, .int y] (fun r9 c9 => r9 = kv_K_placeOf w x y ∧ c9 = cs) := by
  refine kw_of (cc := b_K_placeOf) (maxL := 3) (ret := (some .int)) (by decide) rfl (Nat.le_of_ble_eq_true rfl) ?_
  intro p e s m below meth c ls hx hb hr hml hown hts hlocks hP hK hl
  have hg : ∀ w9 ∈ kg_G, w9.before [.ref (ad qk), .int x, .int y].toArray s = true := fun w9 h9 => hts w9 (List.mem_cons_of_mem _ h9)
  have hown : s.vm.findClass "LaneMachine$Work" = some m.cls := hown
  have hA : ∀ k, k < n → kw_A ad n (ad k) := fun k hk => ⟨k, hk, rfl⟩
  have hS : va_S (kw_A ad n) s.heap s.heap [] := va_S.rf
  have hl : lv_has ls 3 [(0, .ref (ad qk)), (1, .int x), (2, .int y)] := hl
  refine lv_bipush (v := 8) hx hb d_K_placeOf_0 (by decide) ?_
  refine lv_iload_n hx hb d_K_placeOf_2 rfl (lv_at hl 1 rfl) ?_
  refine lv_imul hx hb d_K_placeOf_3 ?_
  refine lv_iload_n hx hb d_K_placeOf_4 rfl (lv_at hl 2 rfl) ?_
  refine lv_aload_n hx hb d_K_placeOf_5 rfl (lv_at hl 0 rfl) ?_
  refine kw_get hx hb hg in_K hown hK hP qk hqk ek rfl 4 (by decide) (hg _ kg_115) rfl rfl d_K_placeOf_6 ?_
  refine lv_imul hx hb d_K_placeOf_9 ?_
  refine lv_iadd hx hb d_K_placeOf_10 ?_
  exact kw_iret hx hb hr hlocks hP hK hS ⟨by rw [kv_K_placeOf], rfl⟩ d_K_placeOf_11

def kv_K_maskByte (mk : Int32) (x : Int32) : Int64 := if mk = 0 then 0 else ((1 : Int64) <<< ((x / 8).toInt64 &&& 63))
set_option maxRecDepth 100000 in
set_option maxHeartbeats 4000000 in
theorem c_K_maskByte (l : Launch) {D : va_G} {ad : Nat → Nat} {n : Nat} {cs : Nat → va_E} {cI : ClassId} {cB : ClassId} {cJ : ClassId} {cQ : ClassId} {cW : ClassId} {qk : Nat} {q1 : Nat} {q2 : Nat} {q4 : Nat} {q6 : Nat} {q7 : Nat} {w : Nat} {fr : Nat} {tt : Nat} {dn : Nat} {db : Nat} {gr : Int32} {mo : Int32} {xa : Int32} {xb : Int32} {nu : Int32} {op : Int32} {rd : Int32} {ra : Int32} {rb : Int32} {rn : Int32} {mk : Int32} {x : Int32} (hqk : qk < n) (ek : cs qk = .inr (3, [.ref (ad q2), .ref (ad q4), .ref (ad q6), .ref (ad q7), .int (nI w), .int gr, .int mo, .int xa, .int xb, .int (nI fr), .ref (ad q1), .int nu, .int (nI tt), .int (nI dn), .int (nI db)])) (hq1 : q1 < n) (e1 : cs q1 = .inr (1, [.int op, .int rd, .int ra, .int rb, .int rn, .int mk]))  : kw_ml l y_K_maskByte w_K_maskByte (kr 0) D kc (kt cI cB cJ cQ cW) ad n cs [.ref (ad qk), .int x] (fun r9 c9 => r9 = kv_K_maskByte mk x ∧ c9 = cs) := by
  refine kw_of (cc := b_K_maskByte) (maxL := 2) (ret := (some .long)) (by decide) rfl (Nat.le_of_ble_eq_true rfl) ?_
  intro p e s m below meth c ls hx hb hr hml hown hts hlocks hP hK hl
  have hg : ∀ w9 ∈ kg_G, w9.before [.ref (ad qk), .int x].toArray s = true := fun w9 h9 => hts w9 (List.mem_cons_of_mem _ h9)
  have hown : s.vm.findClass "LaneMachine$Work" = some m.cls := hown
  have hA : ∀ k, k < n → kw_A ad n (ad k) := fun k hk => ⟨k, hk, rfl⟩
  have hS : va_S (kw_A ad n) s.heap s.heap [] := va_S.rf
  have hl : lv_has ls 2 [(0, .ref (ad qk)), (1, .int x)] := hl
  refine lv_aload_n hx hb d_K_maskByte_0 rfl (lv_at hl 0 rfl) ?_
  refine kw_get hx hb hg in_K hown hK hP qk hqk ek rfl 10 (by decide) (hg _ kg_121) rfl rfl d_K_maskByte_1 ?_
  refine kw_get hx hb hg in_I hown hK hP q1 hq1 e1 rfl 5 (by decide) (hg _ kg_91) rfl rfl d_K_maskByte_4 ?_
  refine lv_if_eq (tgt := 19) hx hb d_K_maskByte_7 (by decide) (fun h1 => ?_) (fun h1 => ?_)
  · refine lv_lconst (v := 0) hx hb d_K_maskByte_19 (by decide) ?_
    exact kw_lret hx hb hr hlocks hP hK hS ⟨by rw [kv_K_maskByte, if_pos h1], rfl⟩ d_K_maskByte_20
  · refine lv_lconst (v := 1) hx hb d_K_maskByte_10 (by decide) ?_
    refine lv_iload_n hx hb d_K_maskByte_11 rfl (lv_at hl 1 rfl) ?_
    refine lv_bipush (v := 8) hx hb d_K_maskByte_12 (by decide) ?_
    refine lv_idiv hx hb d_K_maskByte_14 (by decide) ?_
    refine lv_lshl hx hb d_K_maskByte_15 rfl ?_
    refine lv_goto (tgt := 20) hx hb d_K_maskByte_16 (by decide) ?_
    exact kw_lret hx hb hr hlocks hP hK hS ⟨by rw [kv_K_maskByte, if_neg h1], rfl⟩ d_K_maskByte_20

def kv_K_isInGroup (mo : Int32) (x : Int32) : Int32 := if x < 0 then 0 else if mo ≤ x then 0 else 1
set_option maxRecDepth 100000 in
set_option maxHeartbeats 4000000 in
theorem c_K_isInGroup (l : Launch) {D : va_G} {ad : Nat → Nat} {n : Nat} {cs : Nat → va_E} {cI : ClassId} {cB : ClassId} {cJ : ClassId} {cQ : ClassId} {cW : ClassId} {qk : Nat} {q1 : Nat} {q2 : Nat} {q4 : Nat} {q6 : Nat} {q7 : Nat} {w : Nat} {fr : Nat} {tt : Nat} {dn : Nat} {db : Nat} {gr : Int32} {mo : Int32} {xa : Int32} {xb : Int32} {nu : Int32} {x : Int32} (hqk : qk < n) (ek : cs qk = .inr (3, [.ref (ad q2), .ref (ad q4), .ref (ad q6), .ref (ad q7), .int (nI w), .int gr, .int mo, .int xa, .int xb, .int (nI fr), .ref (ad q1), .int nu, .int (nI tt), .int (nI dn), .int (nI db)]))  : kw_mi l y_K_isInGroup w_K_isInGroup (kr 0) D kc (kt cI cB cJ cQ cW) ad n cs [.ref (ad qk), .int x] (fun r9 c9 => r9 = kv_K_isInGroup mo x ∧ c9 = cs) := by
  refine kw_of (cc := b_K_isInGroup) (maxL := 2) (ret := (some .boolean)) (by decide) rfl (Nat.le_of_ble_eq_true rfl) ?_
  intro p e s m below meth c ls hx hb hr hml hown hts hlocks hP hK hl
  have hg : ∀ w9 ∈ kg_G, w9.before [.ref (ad qk), .int x].toArray s = true := fun w9 h9 => hts w9 (List.mem_cons_of_mem _ h9)
  have hown : s.vm.findClass "LaneMachine$Work" = some m.cls := hown
  have hA : ∀ k, k < n → kw_A ad n (ad k) := fun k hk => ⟨k, hk, rfl⟩
  have hS : va_S (kw_A ad n) s.heap s.heap [] := va_S.rf
  have hl : lv_has ls 2 [(0, .ref (ad qk)), (1, .int x)] := hl
  refine lv_iload_n hx hb d_K_isInGroup_0 rfl (lv_at hl 1 rfl) ?_
  refine lv_if_lt (tgt := 16) hx hb d_K_isInGroup_1 (by decide) (fun h1 => ?_) (fun h1 => ?_)
  · refine lv_iconst (v := 0) hx hb d_K_isInGroup_16 (by decide) ?_
    exact kw_zret hx hb hr hlocks hP hK hS (Or.inl rfl) ⟨by rw [kv_K_isInGroup, if_pos h1], rfl⟩ d_K_isInGroup_17
  · refine lv_iload_n hx hb d_K_isInGroup_4 rfl (lv_at hl 1 rfl) ?_
    refine lv_aload_n hx hb d_K_isInGroup_5 rfl (lv_at hl 0 rfl) ?_
    refine kw_get hx hb hg in_K hown hK hP qk hqk ek rfl 6 (by decide) (hg _ kg_117) rfl rfl d_K_isInGroup_6 ?_
    refine lv_icmp_ge (tgt := 16) hx hb d_K_isInGroup_9 (by decide) (fun h2 => ?_) (fun h2 => ?_)
    · refine lv_iconst (v := 0) hx hb d_K_isInGroup_16 (by decide) ?_
      exact kw_zret hx hb hr hlocks hP hK hS (Or.inl rfl) ⟨by rw [kv_K_isInGroup, if_neg h1, if_pos h2], rfl⟩ d_K_isInGroup_17
    · refine lv_iconst (v := 1) hx hb d_K_isInGroup_12 (by decide) ?_
      refine lv_goto (tgt := 17) hx hb d_K_isInGroup_13 (by decide) ?_
      exact kw_zret hx hb hr hlocks hP hK hS (Or.inr rfl) ⟨by rw [kv_K_isInGroup, if_neg h1, if_neg h2], rfl⟩ d_K_isInGroup_17

def kv_K_sourcesOf (w : Nat) (gr : Int32) (mo : Int32) (xb : Int32) (op : Int32) (rd : Int32) (ra : Int32) (rb : Int32) (x : Int32) : Int64 := if op = 11 then (kv_K_span (kv_K_placeOf w ra x) (nI w)) else if op = 15 then (if (kv_K_isInGroup mo (x + xb)) = 0 then 0 else (kv_K_span (kv_K_placeOf w ra (x + xb)) (nI w))) else if op = 16 then ((kv_K_span (kv_K_placeOf w ra 0) (8 * gr)) ||| (kv_K_span (kv_K_placeOf w rb x) (nI w))) else if op = 17 then 0 else if op = 18 then (kv_K_span (kv_K_placeOf w rd x) (nI w)) else if op = 19 then (kv_K_span (kv_K_placeOf w rb x) (nI w)) else if op = 20 then 0 else ((kv_K_span (kv_K_placeOf w ra x) (nI w)) ||| (kv_K_span (kv_K_placeOf w rb x) (nI w)))
set_option maxRecDepth 100000 in
set_option maxHeartbeats 4000000 in
theorem c_K_sourcesOf (l : Launch) {D : va_G} {ad : Nat → Nat} {n : Nat} {cs : Nat → va_E} {cI : ClassId} {cB : ClassId} {cJ : ClassId} {cQ : ClassId} {cW : ClassId} {qk : Nat} {q1 : Nat} {q2 : Nat} {q4 : Nat} {q6 : Nat} {q7 : Nat} {w : Nat} {fr : Nat} {tt : Nat} {dn : Nat} {db : Nat} {gr : Int32} {mo : Int32} {xa : Int32} {xb : Int32} {nu : Int32} {op : Int32} {rd : Int32} {ra : Int32} {rb : Int32} {rn : Int32} {mk : Int32} {x : Int32} (hqk : qk < n) (ek : cs qk = .inr (3, [.ref (ad q2), .ref (ad q4), .ref (ad q6), .ref (ad q7), .int (nI w), .int gr, .int mo, .int xa, .int xb, .int (nI fr), .ref (ad q1), .int nu, .int (nI tt), .int (nI dn), .int (nI db)])) (hq1 : q1 < n) (e1 : cs q1 = .inr (1, [.int op, .int rd, .int ra, .int rb, .int rn, .int mk]))  : kw_ml l y_K_sourcesOf w_K_sourcesOf (kr 1) D kc (kt cI cB cJ cQ cW) ad n cs [.ref (ad qk), .int x] (fun r9 c9 => r9 = kv_K_sourcesOf w gr mo xb op rd ra rb x ∧ c9 = cs) := by
  refine kw_of (cc := b_K_sourcesOf) (maxL := 2) (ret := (some .long)) (by decide) rfl (Nat.le_of_ble_eq_true rfl) ?_
  intro p e s m below meth c ls hx hb hr hml hown hts hlocks hP hK hl
  have hg : ∀ w9 ∈ kg_G, w9.before [.ref (ad qk), .int x].toArray s = true := fun w9 h9 => hts w9 (List.mem_cons_of_mem _ h9)
  have hown : s.vm.findClass "LaneMachine$Work" = some m.cls := hown
  have hA : ∀ k, k < n → kw_A ad n (ad k) := fun k hk => ⟨k, hk, rfl⟩
  have hS : va_S (kw_A ad n) s.heap s.heap [] := va_S.rf
  have hl : lv_has ls 2 [(0, .ref (ad qk)), (1, .int x)] := hl
  refine lv_aload_n hx hb d_K_sourcesOf_0 rfl (lv_at hl 0 rfl) ?_
  refine kw_get hx hb hg in_K hown hK hP qk hqk ek rfl 10 (by decide) (hg _ kg_121) rfl rfl d_K_sourcesOf_1 ?_
  refine kw_get hx hb hg in_I hown hK hP q1 hq1 e1 rfl 0 (by decide) (hg _ kg_72) rfl rfl d_K_sourcesOf_4 ?_
  by_cases h1 : op = 11
  · refine lv_tableIn (tgt := 60) hx hb d_K_sourcesOf_7 (by rw [h1]; decide) (by rw [h1]; decide) (by rw [h1]; rfl) (by decide) ?_
    refine lv_aload_n hx hb d_K_sourcesOf_60 rfl (lv_at hl 0 rfl) ?_
    refine lv_aload_n hx hb d_K_sourcesOf_61 rfl (lv_at hl 0 rfl) ?_
    refine kw_get hx hb hg in_K hown hK hP qk hqk ek rfl 10 (by decide) (hg _ kg_121) rfl rfl d_K_sourcesOf_62 ?_
    refine kw_get hx hb hg in_I hown hK hP q1 hq1 e1 rfl 2 (by decide) (hg _ kg_81) rfl rfl d_K_sourcesOf_65 ?_
    refine lv_iload_n hx hb d_K_sourcesOf_68 rfl (lv_at hl 1 rfl) ?_
    refine kw_callix (kw_rV (As := [.int ra, .int x]) (rest := []) (q0 := qk) ⟨hx, hb, hml, hown, hg⟩ ⟨callB_of 2 hg (kg_goodG kg_394) rfl rfl rfl (hg _ kg_6) (hg _ kg_391) (by decide +kernel) ⟨by decide, by decide⟩, hg _ kg_393, hg _ (kg_sel (q := (y_K_placeOf, 15)) (by decide +kernel))⟩ (c_K_placeOf l hqk ek ) hK hP hqk ek rfl rfl hl.1 rfl (Nat.le_of_ble_eq_true rfl) d_K_sourcesOf_69 ⟨Nat.zero_le _, Nat.zero_le _⟩) hA hS (fun H locs hP hS => ?_)
    refine lv_aload_n hx hb d_K_sourcesOf_72 rfl (lv_at hl 0 rfl) ?_
    refine kw_get hx hb hg in_K hown hK hP qk hqk ek rfl 4 (by decide) (hg _ kg_115) rfl rfl d_K_sourcesOf_73 ?_
    refine kw_calllx (kw_rS (As := [.int (kv_K_placeOf w ra x), .int (nI w)]) (rest := []) ⟨hx, hb, hml, hown, hg⟩ ⟨callB_of 2 hg (kg_goodG kg_390) rfl rfl rfl (hg _ kg_6) (hg _ kg_388) (by decide +kernel) ⟨by decide, by decide⟩, hg _ kg_389⟩ (c_K_span l  ) hK hP rfl hl.1 rfl (Nat.le_of_ble_eq_true rfl) d_K_sourcesOf_76 ⟨Nat.zero_le _, Nat.zero_le _⟩) hA hS (fun H locs hP hS => ?_)
    exact kw_lret hx hb hr hlocks hP hK hS ⟨by rw [kv_K_sourcesOf, if_pos h1], rfl⟩ d_K_sourcesOf_79
  by_cases h2 : op = 15
  · refine lv_tableIn (tgt := 80) hx hb d_K_sourcesOf_7 (by rw [h2]; decide) (by rw [h2]; decide) (by rw [h2]; rfl) (by decide) ?_
    refine lv_aload_n hx hb d_K_sourcesOf_80 rfl (lv_at hl 0 rfl) ?_
    refine lv_iload_n hx hb d_K_sourcesOf_81 rfl (lv_at hl 1 rfl) ?_
    refine lv_aload_n hx hb d_K_sourcesOf_82 rfl (lv_at hl 0 rfl) ?_
    refine kw_get hx hb hg in_K hown hK hP qk hqk ek rfl 8 (by decide) (hg _ kg_119) rfl rfl d_K_sourcesOf_83 ?_
    refine lv_iadd hx hb d_K_sourcesOf_86 ?_
    refine kw_callix (kw_rV (As := [.int (x + xb)]) (rest := []) (q0 := qk) ⟨hx, hb, hml, hown, hg⟩ ⟨callB_of 1 hg (kg_goodG kg_414) rfl rfl rfl (hg _ kg_6) (hg _ kg_411) (by decide +kernel) ⟨by decide, by decide⟩, hg _ kg_413, hg _ (kg_sel (q := (y_K_isInGroup, 15)) (by decide +kernel))⟩ (c_K_isInGroup l hqk ek ) hK hP hqk ek rfl rfl hl.1 rfl (Nat.le_of_ble_eq_true rfl) d_K_sourcesOf_87 ⟨Nat.zero_le _, Nat.zero_le _⟩) hA hS (fun H locs hP hS => ?_)
    refine lv_if_eq (tgt := 120) hx hb d_K_sourcesOf_90 (by decide) (fun h3 => ?_) (fun h3 => ?_)
    · refine lv_lconst (v := 0) hx hb d_K_sourcesOf_120 (by decide) ?_
      exact kw_lret hx hb hr hlocks hP hK hS ⟨by rw [kv_K_sourcesOf, if_neg h1, if_pos h2, if_pos h3], rfl⟩ d_K_sourcesOf_121
    · refine lv_aload_n hx hb d_K_sourcesOf_93 rfl (lv_at hl 0 rfl) ?_
      refine lv_aload_n hx hb d_K_sourcesOf_94 rfl (lv_at hl 0 rfl) ?_
      refine kw_get hx hb hg in_K hown hK hP qk hqk ek rfl 10 (by decide) (hg _ kg_121) rfl rfl d_K_sourcesOf_95 ?_
      refine kw_get hx hb hg in_I hown hK hP q1 hq1 e1 rfl 2 (by decide) (hg _ kg_81) rfl rfl d_K_sourcesOf_98 ?_
      refine lv_iload_n hx hb d_K_sourcesOf_101 rfl (lv_at hl 1 rfl) ?_
      refine lv_aload_n hx hb d_K_sourcesOf_102 rfl (lv_at hl 0 rfl) ?_
      refine kw_get hx hb hg in_K hown hK hP qk hqk ek rfl 8 (by decide) (hg _ kg_119) rfl rfl d_K_sourcesOf_103 ?_
      refine lv_iadd hx hb d_K_sourcesOf_106 ?_
      refine kw_callix (kw_rV (As := [.int ra, .int (x + xb)]) (rest := []) (q0 := qk) ⟨hx, hb, hml, hown, hg⟩ ⟨callB_of 2 hg (kg_goodG kg_394) rfl rfl rfl (hg _ kg_6) (hg _ kg_391) (by decide +kernel) ⟨by decide, by decide⟩, hg _ kg_393, hg _ (kg_sel (q := (y_K_placeOf, 15)) (by decide +kernel))⟩ (c_K_placeOf l hqk ek ) hK hP hqk ek rfl rfl hl.1 rfl (Nat.le_of_ble_eq_true rfl) d_K_sourcesOf_107 ⟨Nat.zero_le _, Nat.zero_le _⟩) hA hS (fun H locs hP hS => ?_)
      refine lv_aload_n hx hb d_K_sourcesOf_110 rfl (lv_at hl 0 rfl) ?_
      refine kw_get hx hb hg in_K hown hK hP qk hqk ek rfl 4 (by decide) (hg _ kg_115) rfl rfl d_K_sourcesOf_111 ?_
      refine kw_calllx (kw_rS (As := [.int (kv_K_placeOf w ra (x + xb)), .int (nI w)]) (rest := []) ⟨hx, hb, hml, hown, hg⟩ ⟨callB_of 2 hg (kg_goodG kg_390) rfl rfl rfl (hg _ kg_6) (hg _ kg_388) (by decide +kernel) ⟨by decide, by decide⟩, hg _ kg_389⟩ (c_K_span l  ) hK hP rfl hl.1 rfl (Nat.le_of_ble_eq_true rfl) d_K_sourcesOf_114 ⟨Nat.zero_le _, Nat.zero_le _⟩) hA hS (fun H locs hP hS => ?_)
      refine lv_goto (tgt := 121) hx hb d_K_sourcesOf_117 (by decide) ?_
      exact kw_lret hx hb hr hlocks hP hK hS ⟨by rw [kv_K_sourcesOf, if_neg h1, if_pos h2, if_neg h3], rfl⟩ d_K_sourcesOf_121
  by_cases h4 : op = 16
  · refine lv_tableIn (tgt := 122) hx hb d_K_sourcesOf_7 (by rw [h4]; decide) (by rw [h4]; decide) (by rw [h4]; rfl) (by decide) ?_
    refine lv_aload_n hx hb d_K_sourcesOf_122 rfl (lv_at hl 0 rfl) ?_
    refine lv_aload_n hx hb d_K_sourcesOf_123 rfl (lv_at hl 0 rfl) ?_
    refine kw_get hx hb hg in_K hown hK hP qk hqk ek rfl 10 (by decide) (hg _ kg_121) rfl rfl d_K_sourcesOf_124 ?_
    refine kw_get hx hb hg in_I hown hK hP q1 hq1 e1 rfl 2 (by decide) (hg _ kg_81) rfl rfl d_K_sourcesOf_127 ?_
    refine lv_iconst (v := 0) hx hb d_K_sourcesOf_130 (by decide) ?_
    refine kw_callix (kw_rV (As := [.int ra, .int 0]) (rest := []) (q0 := qk) ⟨hx, hb, hml, hown, hg⟩ ⟨callB_of 2 hg (kg_goodG kg_394) rfl rfl rfl (hg _ kg_6) (hg _ kg_391) (by decide +kernel) ⟨by decide, by decide⟩, hg _ kg_393, hg _ (kg_sel (q := (y_K_placeOf, 15)) (by decide +kernel))⟩ (c_K_placeOf l hqk ek ) hK hP hqk ek rfl rfl hl.1 rfl (Nat.le_of_ble_eq_true rfl) d_K_sourcesOf_131 ⟨Nat.zero_le _, Nat.zero_le _⟩) hA hS (fun H locs hP hS => ?_)
    refine lv_bipush (v := 8) hx hb d_K_sourcesOf_134 (by decide) ?_
    refine lv_aload_n hx hb d_K_sourcesOf_136 rfl (lv_at hl 0 rfl) ?_
    refine kw_get hx hb hg in_K hown hK hP qk hqk ek rfl 5 (by decide) (hg _ kg_116) rfl rfl d_K_sourcesOf_137 ?_
    refine lv_imul hx hb d_K_sourcesOf_140 ?_
    refine kw_calllx (kw_rS (As := [.int (kv_K_placeOf w ra 0), .int (8 * gr)]) (rest := []) ⟨hx, hb, hml, hown, hg⟩ ⟨callB_of 2 hg (kg_goodG kg_390) rfl rfl rfl (hg _ kg_6) (hg _ kg_388) (by decide +kernel) ⟨by decide, by decide⟩, hg _ kg_389⟩ (c_K_span l  ) hK hP rfl hl.1 rfl (Nat.le_of_ble_eq_true rfl) d_K_sourcesOf_141 ⟨Nat.zero_le _, Nat.zero_le _⟩) hA hS (fun H locs hP hS => ?_)
    refine lv_aload_n hx hb d_K_sourcesOf_144 rfl (lv_at hl 0 rfl) ?_
    refine lv_aload_n hx hb d_K_sourcesOf_145 rfl (lv_at hl 0 rfl) ?_
    refine kw_get hx hb hg in_K hown hK hP qk hqk ek rfl 10 (by decide) (hg _ kg_121) rfl rfl d_K_sourcesOf_146 ?_
    refine kw_get hx hb hg in_I hown hK hP q1 hq1 e1 rfl 3 (by decide) (hg _ kg_85) rfl rfl d_K_sourcesOf_149 ?_
    refine lv_iload_n hx hb d_K_sourcesOf_152 rfl (lv_at hl 1 rfl) ?_
    refine kw_callix (kw_rV (As := [.int rb, .int x]) (rest := [.long (kv_K_span (kv_K_placeOf w ra 0) (8 * gr))]) (q0 := qk) ⟨hx, hb, hml, hown, hg⟩ ⟨callB_of 2 hg (kg_goodG kg_394) rfl rfl rfl (hg _ kg_6) (hg _ kg_391) (by decide +kernel) ⟨by decide, by decide⟩, hg _ kg_393, hg _ (kg_sel (q := (y_K_placeOf, 15)) (by decide +kernel))⟩ (c_K_placeOf l hqk ek ) hK hP hqk ek rfl rfl hl.1 rfl (Nat.le_of_ble_eq_true rfl) d_K_sourcesOf_153 ⟨Nat.zero_le _, Nat.zero_le _⟩) hA hS (fun H locs hP hS => ?_)
    refine lv_aload_n hx hb d_K_sourcesOf_156 rfl (lv_at hl 0 rfl) ?_
    refine kw_get hx hb hg in_K hown hK hP qk hqk ek rfl 4 (by decide) (hg _ kg_115) rfl rfl d_K_sourcesOf_157 ?_
    refine kw_calllx (kw_rS (As := [.int (kv_K_placeOf w rb x), .int (nI w)]) (rest := [.long (kv_K_span (kv_K_placeOf w ra 0) (8 * gr))]) ⟨hx, hb, hml, hown, hg⟩ ⟨callB_of 2 hg (kg_goodG kg_390) rfl rfl rfl (hg _ kg_6) (hg _ kg_388) (by decide +kernel) ⟨by decide, by decide⟩, hg _ kg_389⟩ (c_K_span l  ) hK hP rfl hl.1 rfl (Nat.le_of_ble_eq_true rfl) d_K_sourcesOf_160 ⟨Nat.zero_le _, Nat.zero_le _⟩) hA hS (fun H locs hP hS => ?_)
    refine lv_lor hx hb d_K_sourcesOf_163 ?_
    exact kw_lret hx hb hr hlocks hP hK hS ⟨by rw [kv_K_sourcesOf, if_neg h1, if_neg h2, if_pos h4], rfl⟩ d_K_sourcesOf_164
  by_cases h5 : op = 17
  · refine lv_tableIn (tgt := 205) hx hb d_K_sourcesOf_7 (by rw [h5]; decide) (by rw [h5]; decide) (by rw [h5]; rfl) (by decide) ?_
    refine lv_lconst (v := 0) hx hb d_K_sourcesOf_205 (by decide) ?_
    exact kw_lret hx hb hr hlocks hP hK hS ⟨by rw [kv_K_sourcesOf, if_neg h1, if_neg h2, if_neg h4, if_pos h5], rfl⟩ d_K_sourcesOf_206
  by_cases h6 : op = 18
  · refine lv_tableIn (tgt := 165) hx hb d_K_sourcesOf_7 (by rw [h6]; decide) (by rw [h6]; decide) (by rw [h6]; rfl) (by decide) ?_
    refine lv_aload_n hx hb d_K_sourcesOf_165 rfl (lv_at hl 0 rfl) ?_
    refine lv_aload_n hx hb d_K_sourcesOf_166 rfl (lv_at hl 0 rfl) ?_
    refine kw_get hx hb hg in_K hown hK hP qk hqk ek rfl 10 (by decide) (hg _ kg_121) rfl rfl d_K_sourcesOf_167 ?_
    refine kw_get hx hb hg in_I hown hK hP q1 hq1 e1 rfl 1 (by decide) (hg _ kg_77) rfl rfl d_K_sourcesOf_170 ?_
    refine lv_iload_n hx hb d_K_sourcesOf_173 rfl (lv_at hl 1 rfl) ?_
    refine kw_callix (kw_rV (As := [.int rd, .int x]) (rest := []) (q0 := qk) ⟨hx, hb, hml, hown, hg⟩ ⟨callB_of 2 hg (kg_goodG kg_394) rfl rfl rfl (hg _ kg_6) (hg _ kg_391) (by decide +kernel) ⟨by decide, by decide⟩, hg _ kg_393, hg _ (kg_sel (q := (y_K_placeOf, 15)) (by decide +kernel))⟩ (c_K_placeOf l hqk ek ) hK hP hqk ek rfl rfl hl.1 rfl (Nat.le_of_ble_eq_true rfl) d_K_sourcesOf_174 ⟨Nat.zero_le _, Nat.zero_le _⟩) hA hS (fun H locs hP hS => ?_)
    refine lv_aload_n hx hb d_K_sourcesOf_177 rfl (lv_at hl 0 rfl) ?_
    refine kw_get hx hb hg in_K hown hK hP qk hqk ek rfl 4 (by decide) (hg _ kg_115) rfl rfl d_K_sourcesOf_178 ?_
    refine kw_calllx (kw_rS (As := [.int (kv_K_placeOf w rd x), .int (nI w)]) (rest := []) ⟨hx, hb, hml, hown, hg⟩ ⟨callB_of 2 hg (kg_goodG kg_390) rfl rfl rfl (hg _ kg_6) (hg _ kg_388) (by decide +kernel) ⟨by decide, by decide⟩, hg _ kg_389⟩ (c_K_span l  ) hK hP rfl hl.1 rfl (Nat.le_of_ble_eq_true rfl) d_K_sourcesOf_181 ⟨Nat.zero_le _, Nat.zero_le _⟩) hA hS (fun H locs hP hS => ?_)
    exact kw_lret hx hb hr hlocks hP hK hS ⟨by rw [kv_K_sourcesOf, if_neg h1, if_neg h2, if_neg h4, if_neg h5, if_pos h6], rfl⟩ d_K_sourcesOf_184
  by_cases h7 : op = 19
  · refine lv_tableIn (tgt := 185) hx hb d_K_sourcesOf_7 (by rw [h7]; decide) (by rw [h7]; decide) (by rw [h7]; rfl) (by decide) ?_
    refine lv_aload_n hx hb d_K_sourcesOf_185 rfl (lv_at hl 0 rfl) ?_
    refine lv_aload_n hx hb d_K_sourcesOf_186 rfl (lv_at hl 0 rfl) ?_
    refine kw_get hx hb hg in_K hown hK hP qk hqk ek rfl 10 (by decide) (hg _ kg_121) rfl rfl d_K_sourcesOf_187 ?_
    refine kw_get hx hb hg in_I hown hK hP q1 hq1 e1 rfl 3 (by decide) (hg _ kg_85) rfl rfl d_K_sourcesOf_190 ?_
    refine lv_iload_n hx hb d_K_sourcesOf_193 rfl (lv_at hl 1 rfl) ?_
    refine kw_callix (kw_rV (As := [.int rb, .int x]) (rest := []) (q0 := qk) ⟨hx, hb, hml, hown, hg⟩ ⟨callB_of 2 hg (kg_goodG kg_394) rfl rfl rfl (hg _ kg_6) (hg _ kg_391) (by decide +kernel) ⟨by decide, by decide⟩, hg _ kg_393, hg _ (kg_sel (q := (y_K_placeOf, 15)) (by decide +kernel))⟩ (c_K_placeOf l hqk ek ) hK hP hqk ek rfl rfl hl.1 rfl (Nat.le_of_ble_eq_true rfl) d_K_sourcesOf_194 ⟨Nat.zero_le _, Nat.zero_le _⟩) hA hS (fun H locs hP hS => ?_)
    refine lv_aload_n hx hb d_K_sourcesOf_197 rfl (lv_at hl 0 rfl) ?_
    refine kw_get hx hb hg in_K hown hK hP qk hqk ek rfl 4 (by decide) (hg _ kg_115) rfl rfl d_K_sourcesOf_198 ?_
    refine kw_calllx (kw_rS (As := [.int (kv_K_placeOf w rb x), .int (nI w)]) (rest := []) ⟨hx, hb, hml, hown, hg⟩ ⟨callB_of 2 hg (kg_goodG kg_390) rfl rfl rfl (hg _ kg_6) (hg _ kg_388) (by decide +kernel) ⟨by decide, by decide⟩, hg _ kg_389⟩ (c_K_span l  ) hK hP rfl hl.1 rfl (Nat.le_of_ble_eq_true rfl) d_K_sourcesOf_201 ⟨Nat.zero_le _, Nat.zero_le _⟩) hA hS (fun H locs hP hS => ?_)
    exact kw_lret hx hb hr hlocks hP hK hS ⟨by rw [kv_K_sourcesOf, if_neg h1, if_neg h2, if_neg h4, if_neg h5, if_neg h6, if_pos h7], rfl⟩ d_K_sourcesOf_204
  by_cases h8 : op = 20
  · refine lv_tableIn (tgt := 205) hx hb d_K_sourcesOf_7 (by rw [h8]; decide) (by rw [h8]; decide) (by rw [h8]; rfl) (by decide) ?_
    refine lv_lconst (v := 0) hx hb d_K_sourcesOf_205 (by decide) ?_
    exact kw_lret hx hb hr hlocks hP hK hS ⟨by rw [kv_K_sourcesOf, if_neg h1, if_neg h2, if_neg h4, if_neg h5, if_neg h6, if_neg h7, if_pos h8], rfl⟩ d_K_sourcesOf_206
  refine kw_tbl (tgt := 207) (N := 10) hx hb d_K_sourcesOf_7 rfl (by decide) (fun i hi => match i, hi with | 0, _ => Or.inr (lv_neT h1 rfl) | 1, _ => Or.inl rfl | 2, _ => Or.inl rfl | 3, _ => Or.inl rfl | 4, _ => Or.inr (lv_neT h2 rfl) | 5, _ => Or.inr (lv_neT h4 rfl) | 6, _ => Or.inr (lv_neT h5 rfl) | 7, _ => Or.inr (lv_neT h6 rfl) | 8, _ => Or.inr (lv_neT h7 rfl) | 9, _ => Or.inr (lv_neT h8 rfl) | z + 10, h => absurd h (by omega)) ?_
  refine lv_aload_n hx hb d_K_sourcesOf_207 rfl (lv_at hl 0 rfl) ?_
  refine lv_aload_n hx hb d_K_sourcesOf_208 rfl (lv_at hl 0 rfl) ?_
  refine kw_get hx hb hg in_K hown hK hP qk hqk ek rfl 10 (by decide) (hg _ kg_121) rfl rfl d_K_sourcesOf_209 ?_
  refine kw_get hx hb hg in_I hown hK hP q1 hq1 e1 rfl 2 (by decide) (hg _ kg_81) rfl rfl d_K_sourcesOf_212 ?_
  refine lv_iload_n hx hb d_K_sourcesOf_215 rfl (lv_at hl 1 rfl) ?_
  refine kw_callix (kw_rV (As := [.int ra, .int x]) (rest := []) (q0 := qk) ⟨hx, hb, hml, hown, hg⟩ ⟨callB_of 2 hg (kg_goodG kg_394) rfl rfl rfl (hg _ kg_6) (hg _ kg_391) (by decide +kernel) ⟨by decide, by decide⟩, hg _ kg_393, hg _ (kg_sel (q := (y_K_placeOf, 15)) (by decide +kernel))⟩ (c_K_placeOf l hqk ek ) hK hP hqk ek rfl rfl hl.1 rfl (Nat.le_of_ble_eq_true rfl) d_K_sourcesOf_216 ⟨Nat.zero_le _, Nat.zero_le _⟩) hA hS (fun H locs hP hS => ?_)
  refine lv_aload_n hx hb d_K_sourcesOf_219 rfl (lv_at hl 0 rfl) ?_
  refine kw_get hx hb hg in_K hown hK hP qk hqk ek rfl 4 (by decide) (hg _ kg_115) rfl rfl d_K_sourcesOf_220 ?_
  refine kw_calllx (kw_rS (As := [.int (kv_K_placeOf w ra x), .int (nI w)]) (rest := []) ⟨hx, hb, hml, hown, hg⟩ ⟨callB_of 2 hg (kg_goodG kg_390) rfl rfl rfl (hg _ kg_6) (hg _ kg_388) (by decide +kernel) ⟨by decide, by decide⟩, hg _ kg_389⟩ (c_K_span l  ) hK hP rfl hl.1 rfl (Nat.le_of_ble_eq_true rfl) d_K_sourcesOf_223 ⟨Nat.zero_le _, Nat.zero_le _⟩) hA hS (fun H locs hP hS => ?_)
  refine lv_aload_n hx hb d_K_sourcesOf_226 rfl (lv_at hl 0 rfl) ?_
  refine lv_aload_n hx hb d_K_sourcesOf_227 rfl (lv_at hl 0 rfl) ?_
  refine kw_get hx hb hg in_K hown hK hP qk hqk ek rfl 10 (by decide) (hg _ kg_121) rfl rfl d_K_sourcesOf_228 ?_
  refine kw_get hx hb hg in_I hown hK hP q1 hq1 e1 rfl 3 (by decide) (hg _ kg_85) rfl rfl d_K_sourcesOf_231 ?_
  refine lv_iload_n hx hb d_K_sourcesOf_234 rfl (lv_at hl 1 rfl) ?_
  refine kw_callix (kw_rV (As := [.int rb, .int x]) (rest := [.long (kv_K_span (kv_K_placeOf w ra x) (nI w))]) (q0 := qk) ⟨hx, hb, hml, hown, hg⟩ ⟨callB_of 2 hg (kg_goodG kg_394) rfl rfl rfl (hg _ kg_6) (hg _ kg_391) (by decide +kernel) ⟨by decide, by decide⟩, hg _ kg_393, hg _ (kg_sel (q := (y_K_placeOf, 15)) (by decide +kernel))⟩ (c_K_placeOf l hqk ek ) hK hP hqk ek rfl rfl hl.1 rfl (Nat.le_of_ble_eq_true rfl) d_K_sourcesOf_235 ⟨Nat.zero_le _, Nat.zero_le _⟩) hA hS (fun H locs hP hS => ?_)
  refine lv_aload_n hx hb d_K_sourcesOf_238 rfl (lv_at hl 0 rfl) ?_
  refine kw_get hx hb hg in_K hown hK hP qk hqk ek rfl 4 (by decide) (hg _ kg_115) rfl rfl d_K_sourcesOf_239 ?_
  refine kw_calllx (kw_rS (As := [.int (kv_K_placeOf w rb x), .int (nI w)]) (rest := [.long (kv_K_span (kv_K_placeOf w ra x) (nI w))]) ⟨hx, hb, hml, hown, hg⟩ ⟨callB_of 2 hg (kg_goodG kg_390) rfl rfl rfl (hg _ kg_6) (hg _ kg_388) (by decide +kernel) ⟨by decide, by decide⟩, hg _ kg_389⟩ (c_K_span l  ) hK hP rfl hl.1 rfl (Nat.le_of_ble_eq_true rfl) d_K_sourcesOf_242 ⟨Nat.zero_le _, Nat.zero_le _⟩) hA hS (fun H locs hP hS => ?_)
  refine lv_lor hx hb d_K_sourcesOf_245 ?_
  exact kw_lret hx hb hr hlocks hP hK hS ⟨by rw [kv_K_sourcesOf, if_neg h1, if_neg h2, if_neg h4, if_neg h5, if_neg h6, if_neg h7, if_neg h8], rfl⟩ d_K_sourcesOf_246

def kv_K_writesOf (w : Nat) (fr : Nat) (op : Int32) (rd : Int32) (x : Int32) : Int64 := if op = 12 then (kv_K_span ((8 * rd) + (((nI fr) + x) / 8)) 1) else if op = 13 then (kv_K_span ((8 * rd) + ((2 * ((nI fr) + x)) * (nI w))) (2 * (nI w))) else if op = 14 then (kv_K_span (kv_K_placeOf w rd 0) (nI w)) else if op = 18 then 0 else (kv_K_span (kv_K_placeOf w rd ((nI fr) + x)) (nI w))
set_option maxRecDepth 100000 in
set_option maxHeartbeats 4000000 in
theorem c_K_writesOf (l : Launch) {D : va_G} {ad : Nat → Nat} {n : Nat} {cs : Nat → va_E} {cI : ClassId} {cB : ClassId} {cJ : ClassId} {cQ : ClassId} {cW : ClassId} {qk : Nat} {q1 : Nat} {q2 : Nat} {q4 : Nat} {q6 : Nat} {q7 : Nat} {w : Nat} {fr : Nat} {tt : Nat} {dn : Nat} {db : Nat} {gr : Int32} {mo : Int32} {xa : Int32} {xb : Int32} {nu : Int32} {op : Int32} {rd : Int32} {ra : Int32} {rb : Int32} {rn : Int32} {mk : Int32} {x : Int32} (hqk : qk < n) (ek : cs qk = .inr (3, [.ref (ad q2), .ref (ad q4), .ref (ad q6), .ref (ad q7), .int (nI w), .int gr, .int mo, .int xa, .int xb, .int (nI fr), .ref (ad q1), .int nu, .int (nI tt), .int (nI dn), .int (nI db)])) (hq1 : q1 < n) (e1 : cs q1 = .inr (1, [.int op, .int rd, .int ra, .int rb, .int rn, .int mk]))  : kw_ml l y_K_writesOf w_K_writesOf (kr 1) D kc (kt cI cB cJ cQ cW) ad n cs [.ref (ad qk), .int x] (fun r9 c9 => r9 = kv_K_writesOf w fr op rd x ∧ c9 = cs) := by
  refine kw_of (cc := b_K_writesOf) (maxL := 3) (ret := (some .long)) (by decide) rfl (Nat.le_of_ble_eq_true rfl) ?_
  intro p e s m below meth c ls hx hb hr hml hown hts hlocks hP hK hl
  have hg : ∀ w9 ∈ kg_G, w9.before [.ref (ad qk), .int x].toArray s = true := fun w9 h9 => hts w9 (List.mem_cons_of_mem _ h9)
  have hown : s.vm.findClass "LaneMachine$Work" = some m.cls := hown
  have hA : ∀ k, k < n → kw_A ad n (ad k) := fun k hk => ⟨k, hk, rfl⟩
  have hS : va_S (kw_A ad n) s.heap s.heap [] := va_S.rf
  have hl : lv_has ls 3 [(0, .ref (ad qk)), (1, .int x)] := hl
  refine lv_aload_n hx hb d_K_writesOf_0 rfl (lv_at hl 0 rfl) ?_
  refine kw_get hx hb hg in_K hown hK hP qk hqk ek rfl 9 (by decide) (hg _ kg_120) rfl rfl d_K_writesOf_1 ?_
  refine lv_iload_n hx hb d_K_writesOf_4 rfl (lv_at hl 1 rfl) ?_
  refine lv_iadd hx hb d_K_writesOf_5 ?_
  refine lv_istore_n (lv' := [(2, .int ((nI fr) + x)), (0, .ref (ad qk)), (1, .int x)]) hx hb d_K_writesOf_6 rfl hl (by decide) rfl (fun ls hl => ?_)
  refine lv_aload_n hx hb d_K_writesOf_7 rfl (lv_at hl 1 rfl) ?_
  refine kw_get hx hb hg in_K hown hK hP qk hqk ek rfl 10 (by decide) (hg _ kg_121) rfl rfl d_K_writesOf_8 ?_
  refine kw_get hx hb hg in_I hown hK hP q1 hq1 e1 rfl 0 (by decide) (hg _ kg_72) rfl rfl d_K_writesOf_11 ?_
  by_cases h1 : op = 12
  · refine lv_tableIn (tgt := 56) hx hb d_K_writesOf_14 (by rw [h1]; decide) (by rw [h1]; decide) (by rw [h1]; rfl) (by decide) ?_
    refine lv_bipush (v := 8) hx hb d_K_writesOf_56 (by decide) ?_
    refine lv_aload_n hx hb d_K_writesOf_58 rfl (lv_at hl 1 rfl) ?_
    refine kw_get hx hb hg in_K hown hK hP qk hqk ek rfl 10 (by decide) (hg _ kg_121) rfl rfl d_K_writesOf_59 ?_
    refine kw_get hx hb hg in_I hown hK hP q1 hq1 e1 rfl 1 (by decide) (hg _ kg_77) rfl rfl d_K_writesOf_62 ?_
    refine lv_imul hx hb d_K_writesOf_65 ?_
    refine lv_iload_n hx hb d_K_writesOf_66 rfl (lv_at hl 0 rfl) ?_
    refine lv_bipush (v := 8) hx hb d_K_writesOf_67 (by decide) ?_
    refine lv_idiv hx hb d_K_writesOf_69 (by decide) ?_
    refine lv_iadd hx hb d_K_writesOf_70 ?_
    refine lv_iconst (v := 1) hx hb d_K_writesOf_71 (by decide) ?_
    refine kw_calllx (kw_rS (As := [.int ((8 * rd) + (((nI fr) + x) / 8)), .int 1]) (rest := []) ⟨hx, hb, hml, hown, hg⟩ ⟨callB_of 2 hg (kg_goodG kg_390) rfl rfl rfl (hg _ kg_6) (hg _ kg_388) (by decide +kernel) ⟨by decide, by decide⟩, hg _ kg_389⟩ (c_K_span l  ) hK hP rfl hl.1 rfl (Nat.le_of_ble_eq_true rfl) d_K_writesOf_72 ⟨Nat.zero_le _, Nat.zero_le _⟩) hA hS (fun H locs hP hS => ?_)
    exact kw_lret hx hb hr hlocks hP hK hS ⟨by rw [kv_K_writesOf, if_pos h1], rfl⟩ d_K_writesOf_75
  by_cases h2 : op = 13
  · refine lv_tableIn (tgt := 76) hx hb d_K_writesOf_14 (by rw [h2]; decide) (by rw [h2]; decide) (by rw [h2]; rfl) (by decide) ?_
    refine lv_bipush (v := 8) hx hb d_K_writesOf_76 (by decide) ?_
    refine lv_aload_n hx hb d_K_writesOf_78 rfl (lv_at hl 1 rfl) ?_
    refine kw_get hx hb hg in_K hown hK hP qk hqk ek rfl 10 (by decide) (hg _ kg_121) rfl rfl d_K_writesOf_79 ?_
    refine kw_get hx hb hg in_I hown hK hP q1 hq1 e1 rfl 1 (by decide) (hg _ kg_77) rfl rfl d_K_writesOf_82 ?_
    refine lv_imul hx hb d_K_writesOf_85 ?_
    refine lv_iconst (v := 2) hx hb d_K_writesOf_86 (by decide) ?_
    refine lv_iload_n hx hb d_K_writesOf_87 rfl (lv_at hl 0 rfl) ?_
    refine lv_imul hx hb d_K_writesOf_88 ?_
    refine lv_aload_n hx hb d_K_writesOf_89 rfl (lv_at hl 1 rfl) ?_
    refine kw_get hx hb hg in_K hown hK hP qk hqk ek rfl 4 (by decide) (hg _ kg_115) rfl rfl d_K_writesOf_90 ?_
    refine lv_imul hx hb d_K_writesOf_93 ?_
    refine lv_iadd hx hb d_K_writesOf_94 ?_
    refine lv_iconst (v := 2) hx hb d_K_writesOf_95 (by decide) ?_
    refine lv_aload_n hx hb d_K_writesOf_96 rfl (lv_at hl 1 rfl) ?_
    refine kw_get hx hb hg in_K hown hK hP qk hqk ek rfl 4 (by decide) (hg _ kg_115) rfl rfl d_K_writesOf_97 ?_
    refine lv_imul hx hb d_K_writesOf_100 ?_
    refine kw_calllx (kw_rS (As := [.int ((8 * rd) + ((2 * ((nI fr) + x)) * (nI w))), .int (2 * (nI w))]) (rest := []) ⟨hx, hb, hml, hown, hg⟩ ⟨callB_of 2 hg (kg_goodG kg_390) rfl rfl rfl (hg _ kg_6) (hg _ kg_388) (by decide +kernel) ⟨by decide, by decide⟩, hg _ kg_389⟩ (c_K_span l  ) hK hP rfl hl.1 rfl (Nat.le_of_ble_eq_true rfl) d_K_writesOf_101 ⟨Nat.zero_le _, Nat.zero_le _⟩) hA hS (fun H locs hP hS => ?_)
    exact kw_lret hx hb hr hlocks hP hK hS ⟨by rw [kv_K_writesOf, if_neg h1, if_pos h2], rfl⟩ d_K_writesOf_104
  by_cases h3 : op = 14
  · refine lv_tableIn (tgt := 105) hx hb d_K_writesOf_14 (by rw [h3]; decide) (by rw [h3]; decide) (by rw [h3]; rfl) (by decide) ?_
    refine lv_aload_n hx hb d_K_writesOf_105 rfl (lv_at hl 1 rfl) ?_
    refine lv_aload_n hx hb d_K_writesOf_106 rfl (lv_at hl 1 rfl) ?_
    refine kw_get hx hb hg in_K hown hK hP qk hqk ek rfl 10 (by decide) (hg _ kg_121) rfl rfl d_K_writesOf_107 ?_
    refine kw_get hx hb hg in_I hown hK hP q1 hq1 e1 rfl 1 (by decide) (hg _ kg_77) rfl rfl d_K_writesOf_110 ?_
    refine lv_iconst (v := 0) hx hb d_K_writesOf_113 (by decide) ?_
    refine kw_callix (kw_rV (As := [.int rd, .int 0]) (rest := []) (q0 := qk) ⟨hx, hb, hml, hown, hg⟩ ⟨callB_of 2 hg (kg_goodG kg_394) rfl rfl rfl (hg _ kg_6) (hg _ kg_391) (by decide +kernel) ⟨by decide, by decide⟩, hg _ kg_393, hg _ (kg_sel (q := (y_K_placeOf, 15)) (by decide +kernel))⟩ (c_K_placeOf l hqk ek ) hK hP hqk ek rfl rfl hl.1 rfl (Nat.le_of_ble_eq_true rfl) d_K_writesOf_114 ⟨Nat.zero_le _, Nat.zero_le _⟩) hA hS (fun H locs hP hS => ?_)
    refine lv_aload_n hx hb d_K_writesOf_117 rfl (lv_at hl 1 rfl) ?_
    refine kw_get hx hb hg in_K hown hK hP qk hqk ek rfl 4 (by decide) (hg _ kg_115) rfl rfl d_K_writesOf_118 ?_
    refine kw_calllx (kw_rS (As := [.int (kv_K_placeOf w rd 0), .int (nI w)]) (rest := []) ⟨hx, hb, hml, hown, hg⟩ ⟨callB_of 2 hg (kg_goodG kg_390) rfl rfl rfl (hg _ kg_6) (hg _ kg_388) (by decide +kernel) ⟨by decide, by decide⟩, hg _ kg_389⟩ (c_K_span l  ) hK hP rfl hl.1 rfl (Nat.le_of_ble_eq_true rfl) d_K_writesOf_121 ⟨Nat.zero_le _, Nat.zero_le _⟩) hA hS (fun H locs hP hS => ?_)
    exact kw_lret hx hb hr hlocks hP hK hS ⟨by rw [kv_K_writesOf, if_neg h1, if_neg h2, if_pos h3], rfl⟩ d_K_writesOf_124
  by_cases h4 : op = 18
  · refine lv_tableIn (tgt := 125) hx hb d_K_writesOf_14 (by rw [h4]; decide) (by rw [h4]; decide) (by rw [h4]; rfl) (by decide) ?_
    refine lv_lconst (v := 0) hx hb d_K_writesOf_125 (by decide) ?_
    exact kw_lret hx hb hr hlocks hP hK hS ⟨by rw [kv_K_writesOf, if_neg h1, if_neg h2, if_neg h3, if_pos h4], rfl⟩ d_K_writesOf_126
  refine kw_tbl (tgt := 127) (N := 7) hx hb d_K_writesOf_14 rfl (by decide) (fun i hi => match i, hi with | 0, _ => Or.inr (lv_neT h1 rfl) | 1, _ => Or.inr (lv_neT h2 rfl) | 2, _ => Or.inr (lv_neT h3 rfl) | 3, _ => Or.inl rfl | 4, _ => Or.inl rfl | 5, _ => Or.inl rfl | 6, _ => Or.inr (lv_neT h4 rfl) | z + 7, h => absurd h (by omega)) ?_
  refine lv_aload_n hx hb d_K_writesOf_127 rfl (lv_at hl 1 rfl) ?_
  refine lv_aload_n hx hb d_K_writesOf_128 rfl (lv_at hl 1 rfl) ?_
  refine kw_get hx hb hg in_K hown hK hP qk hqk ek rfl 10 (by decide) (hg _ kg_121) rfl rfl d_K_writesOf_129 ?_
  refine kw_get hx hb hg in_I hown hK hP q1 hq1 e1 rfl 1 (by decide) (hg _ kg_77) rfl rfl d_K_writesOf_132 ?_
  refine lv_iload_n hx hb d_K_writesOf_135 rfl (lv_at hl 0 rfl) ?_
  refine kw_callix (kw_rV (As := [.int rd, .int ((nI fr) + x)]) (rest := []) (q0 := qk) ⟨hx, hb, hml, hown, hg⟩ ⟨callB_of 2 hg (kg_goodG kg_394) rfl rfl rfl (hg _ kg_6) (hg _ kg_391) (by decide +kernel) ⟨by decide, by decide⟩, hg _ kg_393, hg _ (kg_sel (q := (y_K_placeOf, 15)) (by decide +kernel))⟩ (c_K_placeOf l hqk ek ) hK hP hqk ek rfl rfl hl.1 rfl (Nat.le_of_ble_eq_true rfl) d_K_writesOf_136 ⟨Nat.zero_le _, Nat.zero_le _⟩) hA hS (fun H locs hP hS => ?_)
  refine lv_aload_n hx hb d_K_writesOf_139 rfl (lv_at hl 1 rfl) ?_
  refine kw_get hx hb hg in_K hown hK hP qk hqk ek rfl 4 (by decide) (hg _ kg_115) rfl rfl d_K_writesOf_140 ?_
  refine kw_calllx (kw_rS (As := [.int (kv_K_placeOf w rd ((nI fr) + x)), .int (nI w)]) (rest := []) ⟨hx, hb, hml, hown, hg⟩ ⟨callB_of 2 hg (kg_goodG kg_390) rfl rfl rfl (hg _ kg_6) (hg _ kg_388) (by decide +kernel) ⟨by decide, by decide⟩, hg _ kg_389⟩ (c_K_span l  ) hK hP rfl hl.1 rfl (Nat.le_of_ble_eq_true rfl) d_K_writesOf_143 ⟨Nat.zero_le _, Nat.zero_le _⟩) hA hS (fun H locs hP hS => ?_)
  exact kw_lret hx hb hr hlocks hP hK hS ⟨by rw [kv_K_writesOf, if_neg h1, if_neg h2, if_neg h3, if_neg h4], rfl⟩ d_K_writesOf_146

def kv_K_element (w : Nat) (f : Nat → Int32) (x : Int32) (y : Int32) : Int32 := kv_B_number 64 w (kv_K_placeOf w x y) f
set_option maxRecDepth 100000 in
set_option maxHeartbeats 4000000 in
theorem c_K_element (l : Launch) {D : va_G} {ad : Nat → Nat} {n : Nat} {cs : Nat → va_E} {cI : ClassId} {cB : ClassId} {cJ : ClassId} {cQ : ClassId} {cW : ClassId} {qk : Nat} {q1 : Nat} {q2 : Nat} {q3 : Nat} {q4 : Nat} {q6 : Nat} {q7 : Nat} {w : Nat} {fr : Nat} {tt : Nat} {dn : Nat} {db : Nat} {gr : Int32} {mo : Int32} {xa : Int32} {xb : Int32} {nu : Int32} {op : Int32} {rd : Int32} {ra : Int32} {rb : Int32} {rn : Int32} {mk : Int32} {f : Nat → Int32} {x : Int32} {y : Int32} (hqk : qk < n) (ek : cs qk = .inr (3, [.ref (ad q2), .ref (ad q4), .ref (ad q6), .ref (ad q7), .int (nI w), .int gr, .int mo, .int xa, .int xb, .int (nI fr), .ref (ad q1), .int nu, .int (nI tt), .int (nI dn), .int (nI db)])) (hq1 : q1 < n) (e1 : cs q1 = .inr (1, [.int op, .int rd, .int ra, .int rb, .int rn, .int mk])) (hq2 : q2 < n) (e2 : cs q2 = .inr (0, [.ref (ad q3)])) (hq3 : q3 < n) (e3 : cs q3 = .inl (cB, 64, .inl (f))) (hw : w ≤ 64) : kw_mi l y_K_element w_K_element (kr 2) D kc (kt cI cB cJ cQ cW) ad n cs [.ref (ad qk), .int x, .int y] (fun r9 c9 => r9 = kv_K_element w f x y ∧ c9 = cs) := by
  refine kw_of (cc := b_K_element) (maxL := 3) (ret := (some .int)) (by decide) rfl (Nat.le_of_ble_eq_true rfl) ?_
  intro p e s m below meth c ls hx hb hr hml hown hts hlocks hP hK hl
  have hg : ∀ w9 ∈ kg_G, w9.before [.ref (ad qk), .int x, .int y].toArray s = true := fun w9 h9 => hts w9 (List.mem_cons_of_mem _ h9)
  have hown : s.vm.findClass "LaneMachine$Work" = some m.cls := hown
  have hA : ∀ k, k < n → kw_A ad n (ad k) := fun k hk => ⟨k, hk, rfl⟩
  have hS : va_S (kw_A ad n) s.heap s.heap [] := va_S.rf
  have hl : lv_has ls 3 [(0, .ref (ad qk)), (1, .int x), (2, .int y)] := hl
  refine lv_aload_n hx hb d_K_element_0 rfl (lv_at hl 0 rfl) ?_
  refine kw_get hx hb hg in_K hown hK hP qk hqk ek rfl 0 (by decide) (hg _ kg_111) rfl rfl d_K_element_1 ?_
  refine lv_aload_n hx hb d_K_element_4 rfl (lv_at hl 0 rfl) ?_
  refine lv_iload_n hx hb d_K_element_5 rfl (lv_at hl 1 rfl) ?_
  refine lv_iload_n hx hb d_K_element_6 rfl (lv_at hl 2 rfl) ?_
  refine kw_callix (kw_rV (As := [.int x, .int y]) (rest := [.ref (ad q2)]) (q0 := qk) ⟨hx, hb, hml, hown, hg⟩ ⟨callB_of 2 hg (kg_goodG kg_394) rfl rfl rfl (hg _ kg_6) (hg _ kg_391) (by decide +kernel) ⟨by decide, by decide⟩, hg _ kg_393, hg _ (kg_sel (q := (y_K_placeOf, 15)) (by decide +kernel))⟩ (c_K_placeOf l hqk ek ) hK hP hqk ek rfl rfl hl.1 rfl (Nat.le_of_ble_eq_true rfl) d_K_element_7 ⟨Nat.zero_le _, Nat.zero_le _⟩) hA hS (fun H locs hP hS => ?_)
  refine lv_aload_n hx hb d_K_element_10 rfl (lv_at hl 0 rfl) ?_
  refine kw_get hx hb hg in_K hown hK hP qk hqk ek rfl 4 (by decide) (hg _ kg_115) rfl rfl d_K_element_11 ?_
  refine kw_callix (kw_rV (As := [.int (kv_K_placeOf w x y), .int (nI w)]) (rest := []) (q0 := q2) ⟨hx, hb, hml, hown, hg⟩ ⟨callB_of 2 hg (kg_goodG kg_216) rfl rfl rfl (hg _ kg_3) (hg _ kg_432) (by decide +kernel) ⟨by decide, by decide⟩, hg _ kg_214, hg _ kg_215⟩ (c_B_number l hq2 e2 hq3 e3 hw (by decide) ) hK hP hq2 e2 rfl rfl hl.1 rfl (Nat.le_of_ble_eq_true rfl) d_K_element_14 ⟨Nat.zero_le _, Nat.zero_le _⟩) hA hS (fun H locs hP hS => ?_)
  exact kw_iret hx hb hr hlocks hP hK hS ⟨by rw [kv_K_element], rfl⟩ d_K_element_17

def kv_K_elementOrZero (w : Nat) (mo : Int32) (f : Nat → Int32) (x : Int32) (y : Int32) : Int32 := if (kv_K_isInGroup mo y) = 0 then 0 else (kv_B_number 64 w (kv_K_placeOf w x y) f)
set_option maxRecDepth 100000 in
set_option maxHeartbeats 4000000 in
theorem c_K_elementOrZero (l : Launch) {D : va_G} {ad : Nat → Nat} {n : Nat} {cs : Nat → va_E} {cI : ClassId} {cB : ClassId} {cJ : ClassId} {cQ : ClassId} {cW : ClassId} {qk : Nat} {q1 : Nat} {q2 : Nat} {q3 : Nat} {q4 : Nat} {q6 : Nat} {q7 : Nat} {w : Nat} {fr : Nat} {tt : Nat} {dn : Nat} {db : Nat} {gr : Int32} {mo : Int32} {xa : Int32} {xb : Int32} {nu : Int32} {op : Int32} {rd : Int32} {ra : Int32} {rb : Int32} {rn : Int32} {mk : Int32} {f : Nat → Int32} {x : Int32} {y : Int32} (hqk : qk < n) (ek : cs qk = .inr (3, [.ref (ad q2), .ref (ad q4), .ref (ad q6), .ref (ad q7), .int (nI w), .int gr, .int mo, .int xa, .int xb, .int (nI fr), .ref (ad q1), .int nu, .int (nI tt), .int (nI dn), .int (nI db)])) (hq1 : q1 < n) (e1 : cs q1 = .inr (1, [.int op, .int rd, .int ra, .int rb, .int rn, .int mk])) (hq2 : q2 < n) (e2 : cs q2 = .inr (0, [.ref (ad q3)])) (hq3 : q3 < n) (e3 : cs q3 = .inl (cB, 64, .inl (f))) (hw : w ≤ 64) : kw_mi l y_K_elementOrZero w_K_elementOrZero (kr 2) D kc (kt cI cB cJ cQ cW) ad n cs [.ref (ad qk), .int x, .int y] (fun r9 c9 => r9 = kv_K_elementOrZero w mo f x y ∧ c9 = cs) := by
  refine kw_of (cc := b_K_elementOrZero) (maxL := 3) (ret := (some .int)) (by decide) rfl (Nat.le_of_ble_eq_true rfl) ?_
  intro p e s m below meth c ls hx hb hr hml hown hts hlocks hP hK hl
  have hg : ∀ w9 ∈ kg_G, w9.before [.ref (ad qk), .int x, .int y].toArray s = true := fun w9 h9 => hts w9 (List.mem_cons_of_mem _ h9)
  have hown : s.vm.findClass "LaneMachine$Work" = some m.cls := hown
  have hA : ∀ k, k < n → kw_A ad n (ad k) := fun k hk => ⟨k, hk, rfl⟩
  have hS : va_S (kw_A ad n) s.heap s.heap [] := va_S.rf
  have hl : lv_has ls 3 [(0, .ref (ad qk)), (1, .int x), (2, .int y)] := hl
  refine lv_aload_n hx hb d_K_elementOrZero_0 rfl (lv_at hl 0 rfl) ?_
  refine lv_iload_n hx hb d_K_elementOrZero_1 rfl (lv_at hl 2 rfl) ?_
  refine kw_callix (kw_rV (As := [.int y]) (rest := []) (q0 := qk) ⟨hx, hb, hml, hown, hg⟩ ⟨callB_of 1 hg (kg_goodG kg_414) rfl rfl rfl (hg _ kg_6) (hg _ kg_411) (by decide +kernel) ⟨by decide, by decide⟩, hg _ kg_413, hg _ (kg_sel (q := (y_K_isInGroup, 15)) (by decide +kernel))⟩ (c_K_isInGroup l hqk ek ) hK hP hqk ek rfl rfl hl.1 rfl (Nat.le_of_ble_eq_true rfl) d_K_elementOrZero_2 ⟨Nat.zero_le _, Nat.zero_le _⟩) hA hS (fun H locs hP hS => ?_)
  refine lv_if_eq (tgt := 28) hx hb d_K_elementOrZero_5 (by decide) (fun h1 => ?_) (fun h1 => ?_)
  · refine lv_iconst (v := 0) hx hb d_K_elementOrZero_28 (by decide) ?_
    exact kw_iret hx hb hr hlocks hP hK hS ⟨by rw [kv_K_elementOrZero, if_pos h1], rfl⟩ d_K_elementOrZero_29
  · refine lv_aload_n hx hb d_K_elementOrZero_8 rfl (lv_at hl 0 rfl) ?_
    refine kw_get hx hb hg in_K hown hK hP qk hqk ek rfl 0 (by decide) (hg _ kg_111) rfl rfl d_K_elementOrZero_9 ?_
    refine lv_aload_n hx hb d_K_elementOrZero_12 rfl (lv_at hl 0 rfl) ?_
    refine lv_iload_n hx hb d_K_elementOrZero_13 rfl (lv_at hl 1 rfl) ?_
    refine lv_iload_n hx hb d_K_elementOrZero_14 rfl (lv_at hl 2 rfl) ?_
    refine kw_callix (kw_rV (As := [.int x, .int y]) (rest := [.ref (ad q2)]) (q0 := qk) ⟨hx, hb, hml, hown, hg⟩ ⟨callB_of 2 hg (kg_goodG kg_394) rfl rfl rfl (hg _ kg_6) (hg _ kg_391) (by decide +kernel) ⟨by decide, by decide⟩, hg _ kg_393, hg _ (kg_sel (q := (y_K_placeOf, 15)) (by decide +kernel))⟩ (c_K_placeOf l hqk ek ) hK hP hqk ek rfl rfl hl.1 rfl (Nat.le_of_ble_eq_true rfl) d_K_elementOrZero_15 ⟨Nat.zero_le _, Nat.zero_le _⟩) hA hS (fun H locs hP hS => ?_)
    refine lv_aload_n hx hb d_K_elementOrZero_18 rfl (lv_at hl 0 rfl) ?_
    refine kw_get hx hb hg in_K hown hK hP qk hqk ek rfl 4 (by decide) (hg _ kg_115) rfl rfl d_K_elementOrZero_19 ?_
    refine kw_callix (kw_rV (As := [.int (kv_K_placeOf w x y), .int (nI w)]) (rest := []) (q0 := q2) ⟨hx, hb, hml, hown, hg⟩ ⟨callB_of 2 hg (kg_goodG kg_216) rfl rfl rfl (hg _ kg_3) (hg _ kg_432) (by decide +kernel) ⟨by decide, by decide⟩, hg _ kg_214, hg _ kg_215⟩ (c_B_number l hq2 e2 hq3 e3 hw (by decide) ) hK hP hq2 e2 rfl rfl hl.1 rfl (Nat.le_of_ble_eq_true rfl) d_K_elementOrZero_22 ⟨Nat.zero_le _, Nat.zero_le _⟩) hA hS (fun H locs hP hS => ?_)
    refine lv_goto (tgt := 29) hx hb d_K_elementOrZero_25 (by decide) ?_
    exact kw_iret hx hb hr hlocks hP hK hS ⟨by rw [kv_K_elementOrZero, if_neg h1], rfl⟩ d_K_elementOrZero_29

def kv_K_isWorkedOn (mk : Int32) (f : Nat → Int32) (x : Int32) : Int32 := if mk = 0 then 1 else if (((kv_bare f 64 (x / 8) 1) >>> ((x - x / 8 * 8) &&& 31)) &&& 1) = 1 then 1 else 0
set_option maxRecDepth 100000 in
set_option maxHeartbeats 4000000 in
theorem c_K_isWorkedOn (l : Launch) {D : va_G} {ad : Nat → Nat} {n : Nat} {cs : Nat → va_E} {cI : ClassId} {cB : ClassId} {cJ : ClassId} {cQ : ClassId} {cW : ClassId} {qk : Nat} {q1 : Nat} {q2 : Nat} {q3 : Nat} {q4 : Nat} {q6 : Nat} {q7 : Nat} {w : Nat} {fr : Nat} {tt : Nat} {dn : Nat} {db : Nat} {gr : Int32} {mo : Int32} {xa : Int32} {xb : Int32} {nu : Int32} {op : Int32} {rd : Int32} {ra : Int32} {rb : Int32} {rn : Int32} {mk : Int32} {f : Nat → Int32} {x : Int32} (hqk : qk < n) (ek : cs qk = .inr (3, [.ref (ad q2), .ref (ad q4), .ref (ad q6), .ref (ad q7), .int (nI w), .int gr, .int mo, .int xa, .int xb, .int (nI fr), .ref (ad q1), .int nu, .int (nI tt), .int (nI dn), .int (nI db)])) (hq1 : q1 < n) (e1 : cs q1 = .inr (1, [.int op, .int rd, .int ra, .int rb, .int rn, .int mk])) (hq2 : q2 < n) (e2 : cs q2 = .inr (0, [.ref (ad q3)])) (hq3 : q3 < n) (e3 : cs q3 = .inl (cB, 64, .inl (f)))  : kw_mi l y_K_isWorkedOn w_K_isWorkedOn (kr 1) D kc (kt cI cB cJ cQ cW) ad n cs [.ref (ad qk), .int x] (fun r9 c9 => r9 = kv_K_isWorkedOn mk f x ∧ c9 = cs) := by
  refine kw_of (cc := b_K_isWorkedOn) (maxL := 2) (ret := (some .boolean)) (by decide) rfl (Nat.le_of_ble_eq_true rfl) ?_
  intro p e s m below meth c ls hx hb hr hml hown hts hlocks hP hK hl
  have hg : ∀ w9 ∈ kg_G, w9.before [.ref (ad qk), .int x].toArray s = true := fun w9 h9 => hts w9 (List.mem_cons_of_mem _ h9)
  have hown : s.vm.findClass "LaneMachine$Work" = some m.cls := hown
  have hA : ∀ k, k < n → kw_A ad n (ad k) := fun k hk => ⟨k, hk, rfl⟩
  have hS : va_S (kw_A ad n) s.heap s.heap [] := va_S.rf
  have hl : lv_has ls 2 [(0, .ref (ad qk)), (1, .int x)] := hl
  refine lv_aload_n hx hb d_K_isWorkedOn_0 rfl (lv_at hl 0 rfl) ?_
  refine kw_get hx hb hg in_K hown hK hP qk hqk ek rfl 10 (by decide) (hg _ kg_121) rfl rfl d_K_isWorkedOn_1 ?_
  refine kw_get hx hb hg in_I hown hK hP q1 hq1 e1 rfl 5 (by decide) (hg _ kg_91) rfl rfl d_K_isWorkedOn_4 ?_
  refine lv_if_eq (tgt := 33) hx hb d_K_isWorkedOn_7 (by decide) (fun h1 => ?_) (fun h1 => ?_)
  · refine lv_iconst (v := 1) hx hb d_K_isWorkedOn_33 (by decide) ?_
    refine lv_goto (tgt := 38) hx hb d_K_isWorkedOn_34 (by decide) ?_
    exact kw_zret hx hb hr hlocks hP hK hS (Or.inr rfl) ⟨by rw [kv_K_isWorkedOn, if_pos h1], rfl⟩ d_K_isWorkedOn_38
  · refine lv_aload_n hx hb d_K_isWorkedOn_10 rfl (lv_at hl 0 rfl) ?_
    refine kw_get hx hb hg in_K hown hK hP qk hqk ek rfl 0 (by decide) (hg _ kg_111) rfl rfl d_K_isWorkedOn_11 ?_
    refine lv_iload_n hx hb d_K_isWorkedOn_14 rfl (lv_at hl 1 rfl) ?_
    refine lv_bipush (v := 8) hx hb d_K_isWorkedOn_15 (by decide) ?_
    refine lv_idiv hx hb d_K_isWorkedOn_17 (by decide) ?_
    refine lv_iconst (v := 1) hx hb d_K_isWorkedOn_18 (by decide) ?_
    refine kw_callix (kw_rV (As := [.int (x / 8), .int 1]) (rest := []) (q0 := q2) ⟨hx, hb, hml, hown, hg⟩ ⟨callB_of 2 hg (kg_goodG kg_220) rfl rfl rfl (hg _ kg_3) (hg _ kg_423) (by decide +kernel) ⟨by decide, by decide⟩, hg _ kg_218, hg _ kg_219⟩ (c_B_bareNumber l hq2 e2 hq3 e3 (by decide) (by decide) (w := 1)) hK hP hq2 e2 rfl rfl hl.1 rfl (Nat.le_of_ble_eq_true rfl) d_K_isWorkedOn_19 ⟨Nat.zero_le _, Nat.zero_le _⟩) hA hS (fun H locs hP hS => ?_)
    refine lv_iload_n hx hb d_K_isWorkedOn_22 rfl (lv_at hl 1 rfl) ?_
    refine lv_bipush (v := 8) hx hb d_K_isWorkedOn_23 (by decide) ?_
    refine lv_irem hx hb d_K_isWorkedOn_25 (by decide) ?_
    refine lv_ishr hx hb d_K_isWorkedOn_26 ?_
    refine lv_iconst (v := 1) hx hb d_K_isWorkedOn_27 (by decide) ?_
    refine lv_iand hx hb d_K_isWorkedOn_28 ?_
    refine lv_iconst (v := 1) hx hb d_K_isWorkedOn_29 (by decide) ?_
    refine lv_icmp_ne (tgt := 37) hx hb d_K_isWorkedOn_30 (by decide) (fun h2 => ?_) (fun h2 => ?_)
    · refine lv_iconst (v := 0) hx hb d_K_isWorkedOn_37 (by decide) ?_
      exact kw_zret hx hb hr hlocks hP hK hS (Or.inl rfl) ⟨by rw [kv_K_isWorkedOn, if_neg h1, if_neg h2], rfl⟩ d_K_isWorkedOn_38
    · refine lv_iconst (v := 1) hx hb d_K_isWorkedOn_33 (by decide) ?_
      refine lv_goto (tgt := 38) hx hb d_K_isWorkedOn_34 (by decide) ?_
      exact kw_zret hx hb hr hlocks hP hK hS (Or.inr rfl) ⟨by rw [kv_K_isWorkedOn, if_neg h1, if_pos h2], rfl⟩ d_K_isWorkedOn_38

def kv_K_placeInMemory (w : Nat) (xa : Int32) (xb : Int32) (op : Int32) (rb : Int32) (f : Nat → Int32) (x : Int32) : Int32 := if op = 19 then (xa + (kv_bare f 64 (kv_K_placeOf w rb x) w)) else (xa + (x * xb))
set_option maxRecDepth 100000 in
set_option maxHeartbeats 4000000 in
theorem c_K_placeInMemory (l : Launch) {D : va_G} {ad : Nat → Nat} {n : Nat} {cs : Nat → va_E} {cI : ClassId} {cB : ClassId} {cJ : ClassId} {cQ : ClassId} {cW : ClassId} {qk : Nat} {q1 : Nat} {q2 : Nat} {q3 : Nat} {q4 : Nat} {q6 : Nat} {q7 : Nat} {w : Nat} {fr : Nat} {tt : Nat} {dn : Nat} {db : Nat} {gr : Int32} {mo : Int32} {xa : Int32} {xb : Int32} {nu : Int32} {op : Int32} {rd : Int32} {ra : Int32} {rb : Int32} {rn : Int32} {mk : Int32} {f : Nat → Int32} {x : Int32} (hqk : qk < n) (ek : cs qk = .inr (3, [.ref (ad q2), .ref (ad q4), .ref (ad q6), .ref (ad q7), .int (nI w), .int gr, .int mo, .int xa, .int xb, .int (nI fr), .ref (ad q1), .int nu, .int (nI tt), .int (nI dn), .int (nI db)])) (hq1 : q1 < n) (e1 : cs q1 = .inr (1, [.int op, .int rd, .int ra, .int rb, .int rn, .int mk])) (hq2 : q2 < n) (e2 : cs q2 = .inr (0, [.ref (ad q3)])) (hq3 : q3 < n) (e3 : cs q3 = .inl (cB, 64, .inl (f))) (hw : w ≤ 64) : kw_mi l y_K_placeInMemory w_K_placeInMemory (kr 1) D kc (kt cI cB cJ cQ cW) ad n cs [.ref (ad qk), .int x] (fun r9 c9 => r9 = kv_K_placeInMemory w xa xb op rb f x ∧ c9 = cs) := by
  refine kw_of (cc := b_K_placeInMemory) (maxL := 2) (ret := (some .int)) (by decide) rfl (Nat.le_of_ble_eq_true rfl) ?_
  intro p e s m below meth c ls hx hb hr hml hown hts hlocks hP hK hl
  have hg : ∀ w9 ∈ kg_G, w9.before [.ref (ad qk), .int x].toArray s = true := fun w9 h9 => hts w9 (List.mem_cons_of_mem _ h9)
  have hown : s.vm.findClass "LaneMachine$Work" = some m.cls := hown
  have hA : ∀ k, k < n → kw_A ad n (ad k) := fun k hk => ⟨k, hk, rfl⟩
  have hS : va_S (kw_A ad n) s.heap s.heap [] := va_S.rf
  have hl : lv_has ls 2 [(0, .ref (ad qk)), (1, .int x)] := hl
  refine lv_aload_n hx hb d_K_placeInMemory_0 rfl (lv_at hl 0 rfl) ?_
  refine kw_get hx hb hg in_K hown hK hP qk hqk ek rfl 7 (by decide) (hg _ kg_118) rfl rfl d_K_placeInMemory_1 ?_
  refine lv_aload_n hx hb d_K_placeInMemory_4 rfl (lv_at hl 0 rfl) ?_
  refine kw_get hx hb hg in_K hown hK hP qk hqk ek rfl 10 (by decide) (hg _ kg_121) rfl rfl d_K_placeInMemory_5 ?_
  refine kw_get hx hb hg in_I hown hK hP q1 hq1 e1 rfl 0 (by decide) (hg _ kg_72) rfl rfl d_K_placeInMemory_8 ?_
  refine lv_bipush (v := 19) hx hb d_K_placeInMemory_11 (by decide) ?_
  refine lv_icmp_ne (tgt := 42) hx hb d_K_placeInMemory_13 (by decide) (fun h1 => ?_) (fun h1 => ?_)
  · refine lv_iload_n hx hb d_K_placeInMemory_42 rfl (lv_at hl 1 rfl) ?_
    refine lv_aload_n hx hb d_K_placeInMemory_43 rfl (lv_at hl 0 rfl) ?_
    refine kw_get hx hb hg in_K hown hK hP qk hqk ek rfl 8 (by decide) (hg _ kg_119) rfl rfl d_K_placeInMemory_44 ?_
    refine lv_imul hx hb d_K_placeInMemory_47 ?_
    refine lv_iadd hx hb d_K_placeInMemory_48 ?_
    exact kw_iret hx hb hr hlocks hP hK hS ⟨by rw [kv_K_placeInMemory, if_neg h1], rfl⟩ d_K_placeInMemory_49
  · refine lv_aload_n hx hb d_K_placeInMemory_16 rfl (lv_at hl 0 rfl) ?_
    refine kw_get hx hb hg in_K hown hK hP qk hqk ek rfl 0 (by decide) (hg _ kg_111) rfl rfl d_K_placeInMemory_17 ?_
    refine lv_aload_n hx hb d_K_placeInMemory_20 rfl (lv_at hl 0 rfl) ?_
    refine lv_aload_n hx hb d_K_placeInMemory_21 rfl (lv_at hl 0 rfl) ?_
    refine kw_get hx hb hg in_K hown hK hP qk hqk ek rfl 10 (by decide) (hg _ kg_121) rfl rfl d_K_placeInMemory_22 ?_
    refine kw_get hx hb hg in_I hown hK hP q1 hq1 e1 rfl 3 (by decide) (hg _ kg_85) rfl rfl d_K_placeInMemory_25 ?_
    refine lv_iload_n hx hb d_K_placeInMemory_28 rfl (lv_at hl 1 rfl) ?_
    refine kw_callix (kw_rV (As := [.int rb, .int x]) (rest := [.ref (ad q2), .int xa]) (q0 := qk) ⟨hx, hb, hml, hown, hg⟩ ⟨callB_of 2 hg (kg_goodG kg_394) rfl rfl rfl (hg _ kg_6) (hg _ kg_391) (by decide +kernel) ⟨by decide, by decide⟩, hg _ kg_393, hg _ (kg_sel (q := (y_K_placeOf, 15)) (by decide +kernel))⟩ (c_K_placeOf l hqk ek ) hK hP hqk ek rfl rfl hl.1 rfl (Nat.le_of_ble_eq_true rfl) d_K_placeInMemory_29 ⟨Nat.zero_le _, Nat.zero_le _⟩) hA hS (fun H locs hP hS => ?_)
    refine lv_aload_n hx hb d_K_placeInMemory_32 rfl (lv_at hl 0 rfl) ?_
    refine kw_get hx hb hg in_K hown hK hP qk hqk ek rfl 4 (by decide) (hg _ kg_115) rfl rfl d_K_placeInMemory_33 ?_
    refine kw_callix (kw_rV (As := [.int (kv_K_placeOf w rb x), .int (nI w)]) (rest := [.int xa]) (q0 := q2) ⟨hx, hb, hml, hown, hg⟩ ⟨callB_of 2 hg (kg_goodG kg_220) rfl rfl rfl (hg _ kg_3) (hg _ kg_423) (by decide +kernel) ⟨by decide, by decide⟩, hg _ kg_218, hg _ kg_219⟩ (c_B_bareNumber l hq2 e2 hq3 e3 hw (by decide) ) hK hP hq2 e2 rfl rfl hl.1 rfl (Nat.le_of_ble_eq_true rfl) d_K_placeInMemory_36 ⟨Nat.zero_le _, Nat.zero_le _⟩) hA hS (fun H locs hP hS => ?_)
    refine lv_goto (tgt := 48) hx hb d_K_placeInMemory_39 (by decide) ?_
    refine lv_iadd hx hb d_K_placeInMemory_48 ?_
    exact kw_iret hx hb hr hlocks hP hK hS ⟨by rw [kv_K_placeInMemory, if_pos h1], rfl⟩ d_K_placeInMemory_49

def kv_rS (w : Nat) (mk ra : Int32) : Nat → Nat → Int64 → Int64
  | 0, _, v => v
  | k + 1, i, v => kv_rS w mk ra k (i + 1) (v ||| (kv_K_maskByte mk (nI i) ||| kv_K_span (kv_K_placeOf w ra (nI i)) (nI w)))
def kv_K_readsOfSum (w fr tt : Nat) (mk ra rb : Int32) : Int64 := kv_rS w mk ra (tt - fr) fr (kv_K_span (kv_K_placeOf w rb 0) (nI w))

set_option maxRecDepth 100000 in
set_option maxHeartbeats 4000000 in
theorem c_K_readsOfSum (l : Launch) {D : va_G} {ad : Nat → Nat} {n : Nat} {cs : Nat → va_E} {cI : ClassId} {cB : ClassId} {cJ : ClassId} {cQ : ClassId} {cW : ClassId} {qk : Nat} {q1 : Nat} {q2 : Nat} {q4 : Nat} {q6 : Nat} {q7 : Nat} {w : Nat} {fr : Nat} {tt : Nat} {dn : Nat} {db : Nat} {gr : Int32} {mo : Int32} {xa : Int32} {xb : Int32} {nu : Int32} {op : Int32} {rd : Int32} {ra : Int32} {rb : Int32} {rn : Int32} {mk : Int32} (hqk : qk < n) (ek : cs qk = .inr (3, [.ref (ad q2), .ref (ad q4), .ref (ad q6), .ref (ad q7), .int (nI w), .int gr, .int mo, .int xa, .int xb, .int (nI fr), .ref (ad q1), .int nu, .int (nI tt), .int (nI dn), .int (nI db)])) (hq1 : q1 < n) (e1 : cs q1 = .inr (1, [.int op, .int rd, .int ra, .int rb, .int rn, .int mk])) (hft : fr ≤ tt) (htt : tt < 2 ^ 30) : kw_ml l y_K_readsOfSum w_K_readsOfSum (kr 1) D kc (kt cI cB cJ cQ cW) ad n cs [.ref (ad qk)] (fun r9 c9 => r9 = kv_K_readsOfSum w fr tt mk ra rb ∧ c9 = cs) := by
  refine kw_of (cc := b_K_readsOfSum) (maxL := 4) (ret := (some .long)) (by decide) rfl (Nat.le_of_ble_eq_true rfl) ?_
  intro p e s m below meth c ls hx hb hr hml hown hts hlocks hP hK hl
  have hg : ∀ w9 ∈ kg_G, w9.before [.ref (ad qk)].toArray s = true := fun w9 h9 => hts w9 (List.mem_cons_of_mem _ h9)
  have hown : s.vm.findClass "LaneMachine$Work" = some m.cls := hown
  have hA : ∀ k, k < n → kw_A ad n (ad k) := fun k hk => ⟨k, hk, rfl⟩
  have hS : va_S (kw_A ad n) s.heap s.heap [] := va_S.rf
  have hl : lv_has ls 4 [(0, .ref (ad qk))] := hl
  refine lv_aload_n hx hb d_K_readsOfSum_0 rfl (lv_at hl 0 rfl) ?_
  refine lv_aload_n hx hb d_K_readsOfSum_1 rfl (lv_at hl 0 rfl) ?_
  refine kw_get hx hb hg in_K hown hK hP qk hqk ek rfl 10 (by decide) (hg _ kg_121) rfl rfl d_K_readsOfSum_2 ?_
  refine kw_get hx hb hg in_I hown hK hP q1 hq1 e1 rfl 3 (by decide) (hg _ kg_85) rfl rfl d_K_readsOfSum_5 ?_
  refine lv_iconst (v := 0) hx hb d_K_readsOfSum_8 (by decide) ?_
  refine kw_callix (kw_rV (As := [.int rb, .int 0]) (rest := []) (q0 := qk) ⟨hx, hb, hml, hown, hg⟩ ⟨callB_of 2 hg (kg_goodG kg_394) rfl rfl rfl (hg _ kg_6) (hg _ kg_391) (by decide +kernel) ⟨by decide, by decide⟩, hg _ kg_393, hg _ (kg_sel (q := (y_K_placeOf, 15)) (by decide +kernel))⟩ (c_K_placeOf l hqk ek ) hK hP hqk ek rfl rfl hl.1 rfl (Nat.le_of_ble_eq_true rfl) d_K_readsOfSum_9 ⟨Nat.zero_le _, Nat.zero_le _⟩) hA hS (fun H locs hP hS => ?_)
  refine lv_aload_n hx hb d_K_readsOfSum_12 rfl (lv_at hl 0 rfl) ?_
  refine kw_get hx hb hg in_K hown hK hP qk hqk ek rfl 4 (by decide) (hg _ kg_115) rfl rfl d_K_readsOfSum_13 ?_
  refine kw_calllx (kw_rS (As := [.int (kv_K_placeOf w rb 0), .int (nI w)]) (rest := []) ⟨hx, hb, hml, hown, hg⟩ ⟨callB_of 2 hg (kg_goodG kg_390) rfl rfl rfl (hg _ kg_6) (hg _ kg_388) (by decide +kernel) ⟨by decide, by decide⟩, hg _ kg_389⟩ (c_K_span l  ) hK hP rfl hl.1 rfl (Nat.le_of_ble_eq_true rfl) d_K_readsOfSum_16 ⟨Nat.zero_le _, Nat.zero_le _⟩) hA hS (fun H locs hP hS => ?_)
  refine lv_lstore_n (lv' := [(1, .long (kv_K_span (kv_K_placeOf w rb 0) (nI w))), (0, .ref (ad qk))]) hx hb d_K_readsOfSum_19 rfl hl (by decide) rfl (fun ls hl => ?_)
  refine lv_aload_n hx hb d_K_readsOfSum_20 rfl (lv_at hl 1 rfl) ?_
  refine kw_get hx hb hg in_K hown hK hP qk hqk ek rfl 9 (by decide) (hg _ kg_120) rfl rfl d_K_readsOfSum_21 ?_
  refine lv_istore_n (lv' := [(3, .int (nI fr)), (1, .long (kv_K_span (kv_K_placeOf w rb 0) (nI w))), (0, .ref (ad qk))]) hx hb d_K_readsOfSum_24 rfl hl (by decide) rfl (fun ls hl => ?_)
  have loop : ∀ (kk : Nat) (i : Nat) (v : Int64) (H : Heap) (locs : List Loc) (ls : Array Slot), i + kk = tt → kv_K_readsOfSum w fr tt mk ra rb = kv_rS w mk ra kk i v → va_P D kc (kw_w ad cs n) H → va_S (kw_A ad n) s.heap H locs → lv_has ls 4 [(3, .int (nI i)), (1, .long v), (0, .ref (ad qk))] → W p l e (kr 1) s m [.ref (ad qk)].toArray below meth c H locs 0 0 (MQ below (va_Ql (fun r9 c9 => r9 = kv_K_readsOfSum w fr tt mk ra rb ∧ c9 = cs) (kw_Pre D kc (kt cI cB cJ cQ cW) ad n) (kw_A ad n)) [.ref (ad qk)].toArray s 0 0 (kw_A ad n)) (F0 m 25 ls []) := by
    intro kk
    induction kk with
    | zero =>
      intro i v H locs ls hik hv hP hS hl
      refine lv_iload_n hx hb d_K_readsOfSum_25 rfl (lv_at hl 0 rfl) ?_
      refine lv_aload_n hx hb d_K_readsOfSum_26 rfl (lv_at hl 2 rfl) ?_
      refine kw_get hx hb hg in_K hown hK hP qk hqk ek rfl 12 (by decide) (hg _ kg_125) rfl rfl d_K_readsOfSum_27 ?_
      refine lv_icmp_ge (tgt := 67) hx hb d_K_readsOfSum_30 (by decide) (fun _ => ?_) (fun h1 => absurd (nI_le (by omega) (by omega)) h1)
      refine lv_lload_n hx hb d_K_readsOfSum_67 rfl (lv_at hl 1 rfl) ?_
      exact kw_lret hx hb hr hlocks hP hK hS ⟨hv.symm, rfl⟩ d_K_readsOfSum_68
    | succ j ih =>
      intro i v H locs ls hik hv hP hS hl
      refine lv_iload_n hx hb d_K_readsOfSum_25 rfl (lv_at hl 0 rfl) ?_
      refine lv_aload_n hx hb d_K_readsOfSum_26 rfl (lv_at hl 2 rfl) ?_
      refine kw_get hx hb hg in_K hown hK hP qk hqk ek rfl 12 (by decide) (hg _ kg_125) rfl rfl d_K_readsOfSum_27 ?_
      refine lv_icmp_ge (tgt := 67) hx hb d_K_readsOfSum_30 (by decide) (fun h2 => absurd h2 (nI_ge (by omega) (by omega))) (fun _ => ?_)
      refine lv_lload_n hx hb d_K_readsOfSum_33 rfl (lv_at hl 1 rfl) ?_
      refine lv_aload_n hx hb d_K_readsOfSum_34 rfl (lv_at hl 2 rfl) ?_
      refine lv_iload_n hx hb d_K_readsOfSum_35 rfl (lv_at hl 0 rfl) ?_
      refine kw_calllx (kw_rV (As := [.int (nI i)]) (rest := [.long v]) (q0 := qk) ⟨hx, hb, hml, hown, hg⟩ ⟨callB_of 1 hg (kg_goodG kg_406) rfl rfl rfl (hg _ kg_6) (hg _ kg_403) (by decide +kernel) ⟨by decide, by decide⟩, hg _ kg_405, hg _ (kg_sel (q := (y_K_maskByte, 15)) (by decide +kernel))⟩ (c_K_maskByte l hqk ek hq1 e1 ) hK hP hqk ek rfl rfl hl.1 rfl (Nat.le_of_ble_eq_true rfl) d_K_readsOfSum_36 ⟨Nat.zero_le _, Nat.zero_le _⟩) hA hS (fun H locs hP hS => ?_)
      refine lv_aload_n hx hb d_K_readsOfSum_39 rfl (lv_at hl 2 rfl) ?_
      refine lv_aload_n hx hb d_K_readsOfSum_40 rfl (lv_at hl 2 rfl) ?_
      refine kw_get hx hb hg in_K hown hK hP qk hqk ek rfl 10 (by decide) (hg _ kg_121) rfl rfl d_K_readsOfSum_41 ?_
      refine kw_get hx hb hg in_I hown hK hP q1 hq1 e1 rfl 2 (by decide) (hg _ kg_81) rfl rfl d_K_readsOfSum_44 ?_
      refine lv_iload_n hx hb d_K_readsOfSum_47 rfl (lv_at hl 0 rfl) ?_
      refine kw_callix (kw_rV (As := [.int ra, .int (nI i)]) (rest := [.long (kv_K_maskByte mk (nI i)), .long v]) (q0 := qk) ⟨hx, hb, hml, hown, hg⟩ ⟨callB_of 2 hg (kg_goodG kg_394) rfl rfl rfl (hg _ kg_6) (hg _ kg_391) (by decide +kernel) ⟨by decide, by decide⟩, hg _ kg_393, hg _ (kg_sel (q := (y_K_placeOf, 15)) (by decide +kernel))⟩ (c_K_placeOf l hqk ek ) hK hP hqk ek rfl rfl hl.1 rfl (Nat.le_of_ble_eq_true rfl) d_K_readsOfSum_48 ⟨Nat.zero_le _, Nat.zero_le _⟩) hA hS (fun H locs hP hS => ?_)
      refine lv_aload_n hx hb d_K_readsOfSum_51 rfl (lv_at hl 2 rfl) ?_
      refine kw_get hx hb hg in_K hown hK hP qk hqk ek rfl 4 (by decide) (hg _ kg_115) rfl rfl d_K_readsOfSum_52 ?_
      refine kw_calllx (kw_rS (As := [.int (kv_K_placeOf w ra (nI i)), .int (nI w)]) (rest := [.long (kv_K_maskByte mk (nI i)), .long v]) ⟨hx, hb, hml, hown, hg⟩ ⟨callB_of 2 hg (kg_goodG kg_390) rfl rfl rfl (hg _ kg_6) (hg _ kg_388) (by decide +kernel) ⟨by decide, by decide⟩, hg _ kg_389⟩ (c_K_span l  ) hK hP rfl hl.1 rfl (Nat.le_of_ble_eq_true rfl) d_K_readsOfSum_55 ⟨Nat.zero_le _, Nat.zero_le _⟩) hA hS (fun H locs hP hS => ?_)
      refine lv_lor hx hb d_K_readsOfSum_58 ?_
      refine lv_lor hx hb d_K_readsOfSum_59 ?_
      refine lv_lstore_n (lv' := [(1, .long (v ||| ((kv_K_maskByte mk (nI i)) ||| (kv_K_span (kv_K_placeOf w ra (nI i)) (nI w))))), (3, .int (nI i)), (0, .ref (ad qk))]) hx hb d_K_readsOfSum_60 rfl hl (by decide) rfl (fun ls hl => ?_)
      refine lv_iinc (k := 1) (v := nI (i + 1)) (lv' := [(3, .int (nI (i + 1))), (1, .long (v ||| ((kv_K_maskByte mk (nI i)) ||| (kv_K_span (kv_K_placeOf w ra (nI i)) (nI w))))), (0, .ref (ad qk))]) hx hb d_K_readsOfSum_61 hl rfl ((nI_succ i).symm) (by decide) rfl (fun ls hl => ?_)
      refine lv_goto (tgt := 25) hx hb d_K_readsOfSum_64 (by decide) ?_
      exact ih ((i + 1)) _ _ _ _ (by omega) (hv) (hP) hS (lv_sub hl [0, 1, 2] rfl)
  exact loop (tt - fr) fr _ _ _ _ (by omega) (rfl) (hP) hS (lv_sub hl [0, 1, 2] rfl)

def kv_K_readsOf (w : Nat) (fr : Nat) (tt : Nat) (gr : Int32) (mo : Int32) (xb : Int32) (op : Int32) (rd : Int32) (ra : Int32) (rb : Int32) (mk : Int32) (x : Int32) : Int64 := if op = 14 then (kv_K_readsOfSum w fr tt mk ra rb) else ((kv_K_maskByte mk ((nI fr) + x)) ||| (kv_K_sourcesOf w gr mo xb op rd ra rb ((nI fr) + x)))
set_option maxRecDepth 100000 in
set_option maxHeartbeats 4000000 in
theorem c_K_readsOf (l : Launch) {D : va_G} {ad : Nat → Nat} {n : Nat} {cs : Nat → va_E} {cI : ClassId} {cB : ClassId} {cJ : ClassId} {cQ : ClassId} {cW : ClassId} {qk : Nat} {q1 : Nat} {q2 : Nat} {q4 : Nat} {q6 : Nat} {q7 : Nat} {w : Nat} {fr : Nat} {tt : Nat} {dn : Nat} {db : Nat} {gr : Int32} {mo : Int32} {xa : Int32} {xb : Int32} {nu : Int32} {op : Int32} {rd : Int32} {ra : Int32} {rb : Int32} {rn : Int32} {mk : Int32} {x : Int32} (hqk : qk < n) (ek : cs qk = .inr (3, [.ref (ad q2), .ref (ad q4), .ref (ad q6), .ref (ad q7), .int (nI w), .int gr, .int mo, .int xa, .int xb, .int (nI fr), .ref (ad q1), .int nu, .int (nI tt), .int (nI dn), .int (nI db)])) (hq1 : q1 < n) (e1 : cs q1 = .inr (1, [.int op, .int rd, .int ra, .int rb, .int rn, .int mk])) (hft : fr ≤ tt) (htt : tt < 2 ^ 30) : kw_ml l y_K_readsOf w_K_readsOf (kr 2) D kc (kt cI cB cJ cQ cW) ad n cs [.ref (ad qk), .int x] (fun r9 c9 => r9 = kv_K_readsOf w fr tt gr mo xb op rd ra rb mk x ∧ c9 = cs) := by
  refine kw_of (cc := b_K_readsOf) (maxL := 3) (ret := (some .long)) (by decide) rfl (Nat.le_of_ble_eq_true rfl) ?_
  intro p e s m below meth c ls hx hb hr hml hown hts hlocks hP hK hl
  have hg : ∀ w9 ∈ kg_G, w9.before [.ref (ad qk), .int x].toArray s = true := fun w9 h9 => hts w9 (List.mem_cons_of_mem _ h9)
  have hown : s.vm.findClass "LaneMachine$Work" = some m.cls := hown
  have hA : ∀ k, k < n → kw_A ad n (ad k) := fun k hk => ⟨k, hk, rfl⟩
  have hS : va_S (kw_A ad n) s.heap s.heap [] := va_S.rf
  have hl : lv_has ls 3 [(0, .ref (ad qk)), (1, .int x)] := hl
  refine lv_aload_n hx hb d_K_readsOf_0 rfl (lv_at hl 0 rfl) ?_
  refine kw_get hx hb hg in_K hown hK hP qk hqk ek rfl 9 (by decide) (hg _ kg_120) rfl rfl d_K_readsOf_1 ?_
  refine lv_iload_n hx hb d_K_readsOf_4 rfl (lv_at hl 1 rfl) ?_
  refine lv_iadd hx hb d_K_readsOf_5 ?_
  refine lv_istore_n (lv' := [(2, .int ((nI fr) + x)), (0, .ref (ad qk)), (1, .int x)]) hx hb d_K_readsOf_6 rfl hl (by decide) rfl (fun ls hl => ?_)
  refine lv_aload_n hx hb d_K_readsOf_7 rfl (lv_at hl 1 rfl) ?_
  refine kw_get hx hb hg in_K hown hK hP qk hqk ek rfl 10 (by decide) (hg _ kg_121) rfl rfl d_K_readsOf_8 ?_
  refine kw_get hx hb hg in_I hown hK hP q1 hq1 e1 rfl 0 (by decide) (hg _ kg_72) rfl rfl d_K_readsOf_11 ?_
  refine lv_bipush (v := 14) hx hb d_K_readsOf_14 (by decide) ?_
  refine lv_icmp_ne (tgt := 26) hx hb d_K_readsOf_16 (by decide) (fun h1 => ?_) (fun h1 => ?_)
  · refine lv_aload_n hx hb d_K_readsOf_26 rfl (lv_at hl 1 rfl) ?_
    refine lv_iload_n hx hb d_K_readsOf_27 rfl (lv_at hl 0 rfl) ?_
    refine kw_calllx (kw_rV (As := [.int ((nI fr) + x)]) (rest := []) (q0 := qk) ⟨hx, hb, hml, hown, hg⟩ ⟨callB_of 1 hg (kg_goodG kg_406) rfl rfl rfl (hg _ kg_6) (hg _ kg_403) (by decide +kernel) ⟨by decide, by decide⟩, hg _ kg_405, hg _ (kg_sel (q := (y_K_maskByte, 15)) (by decide +kernel))⟩ (c_K_maskByte l hqk ek hq1 e1 ) hK hP hqk ek rfl rfl hl.1 rfl (Nat.le_of_ble_eq_true rfl) d_K_readsOf_28 ⟨Nat.zero_le _, Nat.zero_le _⟩) hA hS (fun H locs hP hS => ?_)
    refine lv_aload_n hx hb d_K_readsOf_31 rfl (lv_at hl 1 rfl) ?_
    refine lv_iload_n hx hb d_K_readsOf_32 rfl (lv_at hl 0 rfl) ?_
    refine kw_calllx (kw_rV (As := [.int ((nI fr) + x)]) (rest := [.long (kv_K_maskByte mk ((nI fr) + x))]) (q0 := qk) ⟨hx, hb, hml, hown, hg⟩ ⟨callB_of 1 hg (kg_goodG kg_410) rfl rfl rfl (hg _ kg_6) (hg _ kg_407) (by decide +kernel) ⟨by decide, by decide⟩, hg _ kg_409, hg _ (kg_sel (q := (y_K_sourcesOf, 15)) (by decide +kernel))⟩ (c_K_sourcesOf l hqk ek hq1 e1 ) hK hP hqk ek rfl rfl hl.1 rfl (Nat.le_of_ble_eq_true rfl) d_K_readsOf_33 ⟨Nat.zero_le _, Nat.zero_le _⟩) hA hS (fun H locs hP hS => ?_)
    refine lv_lor hx hb d_K_readsOf_36 ?_
    exact kw_lret hx hb hr hlocks hP hK hS ⟨by rw [kv_K_readsOf, if_neg h1], rfl⟩ d_K_readsOf_37
  · refine lv_aload_n hx hb d_K_readsOf_19 rfl (lv_at hl 1 rfl) ?_
    refine kw_calllx (kw_rV (As := []) (rest := []) (q0 := qk) ⟨hx, hb, hml, hown, hg⟩ ⟨callB_of 0 hg (kg_goodG kg_402) rfl rfl rfl (hg _ kg_6) (hg _ kg_399) (by decide +kernel) ⟨by decide, by decide⟩, hg _ kg_401, hg _ (kg_sel (q := (y_K_readsOfSum, 15)) (by decide +kernel))⟩ (c_K_readsOfSum l hqk ek hq1 e1 hft htt ) hK hP hqk ek rfl rfl hl.1 rfl (Nat.le_of_ble_eq_true rfl) d_K_readsOf_20 ⟨Nat.zero_le _, Nat.zero_le _⟩) hA hS (fun H locs hP hS => ?_)
    refine lv_goto (tgt := 37) hx hb d_K_readsOf_23 (by decide) ?_
    exact kw_lret hx hb hr hlocks hP hK hS ⟨by rw [kv_K_readsOf, if_pos h1], rfl⟩ d_K_readsOf_37

def kv_K_isNextStepFree (w : Nat) (fr : Nat) (tt : Nat) (dn : Nat) (gr : Int32) (mo : Int32) (xb : Int32) (op : Int32) (rd : Int32) (ra : Int32) (rb : Int32) (mk : Int32) (u : Int64) (v : Int64) : Int32 := if (kv_K_isDone fr tt dn op) = 0 then (if (lg_cmp (v &&& ((kv_K_readsOf w fr tt gr mo xb op rd ra rb mk (nI dn)) ||| (kv_K_writesOf w fr op rd (nI dn)))) 0) = 0 then (if (lg_cmp (u &&& (kv_K_writesOf w fr op rd (nI dn))) 0) = 0 then 1 else 0) else 0) else 0
set_option maxRecDepth 100000 in
set_option maxHeartbeats 4000000 in
theorem c_K_isNextStepFree (l : Launch) {D : va_G} {ad : Nat → Nat} {n : Nat} {cs : Nat → va_E} {cI : ClassId} {cB : ClassId} {cJ : ClassId} {cQ : ClassId} {cW : ClassId} {qk : Nat} {q1 : Nat} {q2 : Nat} {q4 : Nat} {q6 : Nat} {q7 : Nat} {w : Nat} {fr : Nat} {tt : Nat} {dn : Nat} {db : Nat} {gr : Int32} {mo : Int32} {xa : Int32} {xb : Int32} {nu : Int32} {op : Int32} {rd : Int32} {ra : Int32} {rb : Int32} {rn : Int32} {mk : Int32} {u : Int64} {v : Int64} (hqk : qk < n) (ek : cs qk = .inr (3, [.ref (ad q2), .ref (ad q4), .ref (ad q6), .ref (ad q7), .int (nI w), .int gr, .int mo, .int xa, .int xb, .int (nI fr), .ref (ad q1), .int nu, .int (nI tt), .int (nI dn), .int (nI db)])) (hq1 : q1 < n) (e1 : cs q1 = .inr (1, [.int op, .int rd, .int ra, .int rb, .int rn, .int mk])) (hft : fr ≤ tt) (htt : tt < 2 ^ 30) : kw_mi l y_K_isNextStepFree w_K_isNextStepFree (kr 3) D kc (kt cI cB cJ cQ cW) ad n cs [.ref (ad qk), .long u, .long v] (fun r9 c9 => r9 = kv_K_isNextStepFree w fr tt dn gr mo xb op rd ra rb mk u v ∧ c9 = cs) := by
  refine kw_of (cc := b_K_isNextStepFree) (maxL := 7) (ret := (some .boolean)) (by decide) rfl (Nat.le_of_ble_eq_true rfl) ?_
  intro p e s m below meth c ls hx hb hr hml hown hts hlocks hP hK hl
  have hg : ∀ w9 ∈ kg_G, w9.before [.ref (ad qk), .long u, .long v].toArray s = true := fun w9 h9 => hts w9 (List.mem_cons_of_mem _ h9)
  have hown : s.vm.findClass "LaneMachine$Work" = some m.cls := hown
  have hA : ∀ k, k < n → kw_A ad n (ad k) := fun k hk => ⟨k, hk, rfl⟩
  have hS : va_S (kw_A ad n) s.heap s.heap [] := va_S.rf
  have hl : lv_has ls 7 [(0, .ref (ad qk)), (1, .long u), (3, .long v)] := hl
  refine lv_aload_n hx hb d_K_isNextStepFree_0 rfl (lv_at hl 0 rfl) ?_
  refine kw_callix (kw_rV (As := []) (rest := []) (q0 := qk) ⟨hx, hb, hml, hown, hg⟩ ⟨callB_of 0 hg (kg_goodG kg_382) rfl rfl rfl (hg _ kg_6) (hg _ kg_379) (by decide +kernel) ⟨by decide, by decide⟩, hg _ kg_380, hg _ kg_381⟩ (c_K_isDone l hqk ek hq1 e1 ) hK hP hqk ek rfl rfl hl.1 rfl (Nat.le_of_ble_eq_true rfl) d_K_isNextStepFree_1 ⟨Nat.zero_le _, Nat.zero_le _⟩) hA hS (fun H locs hP hS => ?_)
  refine lv_if_eq (tgt := 9) hx hb d_K_isNextStepFree_4 (by decide) (fun h1 => ?_) (fun h1 => ?_)
  · refine lv_aload_n hx hb d_K_isNextStepFree_9 rfl (lv_at hl 0 rfl) ?_
    refine lv_aload_n hx hb d_K_isNextStepFree_10 rfl (lv_at hl 0 rfl) ?_
    refine kw_get hx hb hg in_K hown hK hP qk hqk ek rfl 13 (by decide) (hg _ kg_127) rfl rfl d_K_isNextStepFree_11 ?_
    refine kw_calllx (kw_rV (As := [.int (nI dn)]) (rest := []) (q0 := qk) ⟨hx, hb, hml, hown, hg⟩ ⟨callB_of 1 hg (kg_goodG kg_387) rfl rfl rfl (hg _ kg_6) (hg _ kg_384) (by decide +kernel) ⟨by decide, by decide⟩, hg _ kg_386, hg _ (kg_sel (q := (y_K_writesOf, 15)) (by decide +kernel))⟩ (c_K_writesOf l hqk ek hq1 e1 ) hK hP hqk ek rfl rfl hl.1 rfl (Nat.le_of_ble_eq_true rfl) d_K_isNextStepFree_14 ⟨Nat.zero_le _, Nat.zero_le _⟩) hA hS (fun H locs hP hS => ?_)
    refine lv_lstore (lv' := [(5, .long (kv_K_writesOf w fr op rd (nI dn))), (0, .ref (ad qk)), (1, .long u), (3, .long v)]) hx hb d_K_isNextStepFree_17 hl (by decide) rfl (fun ls hl => ?_)
    refine lv_lload_n hx hb d_K_isNextStepFree_19 rfl (lv_at hl 3 rfl) ?_
    refine lv_aload_n hx hb d_K_isNextStepFree_20 rfl (lv_at hl 1 rfl) ?_
    refine lv_aload_n hx hb d_K_isNextStepFree_21 rfl (lv_at hl 1 rfl) ?_
    refine kw_get hx hb hg in_K hown hK hP qk hqk ek rfl 13 (by decide) (hg _ kg_127) rfl rfl d_K_isNextStepFree_22 ?_
    refine kw_calllx (kw_rV (As := [.int (nI dn)]) (rest := [.long v]) (q0 := qk) ⟨hx, hb, hml, hown, hg⟩ ⟨callB_of 1 hg (kg_goodG kg_398) rfl rfl rfl (hg _ kg_6) (hg _ kg_395) (by decide +kernel) ⟨by decide, by decide⟩, hg _ kg_397, hg _ (kg_sel (q := (y_K_readsOf, 15)) (by decide +kernel))⟩ (c_K_readsOf l hqk ek hq1 e1 hft htt ) hK hP hqk ek rfl rfl hl.1 rfl (Nat.le_of_ble_eq_true rfl) d_K_isNextStepFree_25 ⟨Nat.zero_le _, Nat.zero_le _⟩) hA hS (fun H locs hP hS => ?_)
    refine lv_lload hx hb d_K_isNextStepFree_28 (lv_at hl 0 rfl) ?_
    refine lv_lor hx hb d_K_isNextStepFree_30 ?_
    refine lv_land hx hb d_K_isNextStepFree_31 ?_
    refine lv_lconst (v := 0) hx hb d_K_isNextStepFree_32 (by decide) ?_
    refine W.lcmp hx hb d_K_isNextStepFree_33 ?_
    refine lv_if_ne (tgt := 50) hx hb d_K_isNextStepFree_34 (by decide) (fun h2 => ?_) (fun h2 => ?_)
    · refine lv_iconst (v := 0) hx hb d_K_isNextStepFree_50 (by decide) ?_
      exact kw_zret hx hb hr hlocks hP hK hS (Or.inl rfl) ⟨by rw [kv_K_isNextStepFree, if_pos h1, if_neg h2], rfl⟩ d_K_isNextStepFree_51
    · refine lv_lload_n hx hb d_K_isNextStepFree_37 rfl (lv_at hl 2 rfl) ?_
      refine lv_lload hx hb d_K_isNextStepFree_38 (lv_at hl 0 rfl) ?_
      refine lv_land hx hb d_K_isNextStepFree_40 ?_
      refine lv_lconst (v := 0) hx hb d_K_isNextStepFree_41 (by decide) ?_
      refine W.lcmp hx hb d_K_isNextStepFree_42 ?_
      refine lv_if_ne (tgt := 50) hx hb d_K_isNextStepFree_43 (by decide) (fun h3 => ?_) (fun h3 => ?_)
      · refine lv_iconst (v := 0) hx hb d_K_isNextStepFree_50 (by decide) ?_
        exact kw_zret hx hb hr hlocks hP hK hS (Or.inl rfl) ⟨by rw [kv_K_isNextStepFree, if_pos h1, if_pos h2, if_neg h3], rfl⟩ d_K_isNextStepFree_51
      · refine lv_iconst (v := 1) hx hb d_K_isNextStepFree_46 (by decide) ?_
        refine lv_goto (tgt := 51) hx hb d_K_isNextStepFree_47 (by decide) ?_
        exact kw_zret hx hb hr hlocks hP hK hS (Or.inr rfl) ⟨by rw [kv_K_isNextStepFree, if_pos h1, if_pos h2, if_pos h3], rfl⟩ d_K_isNextStepFree_51
  · refine lv_iconst (v := 0) hx hb d_K_isNextStepFree_7 (by decide) ?_
    exact kw_zret hx hb hr hlocks hP hK hS (Or.inl rfl) ⟨by rw [kv_K_isNextStepFree, if_neg h1], rfl⟩ d_K_isNextStepFree_8

def kv_K_result (w : Nat) (mo : Int32) (xa : Int32) (xb : Int32) (op : Int32) (ra : Int32) (rb : Int32) (f : Nat → Int32) (g : Nat → Int32) (x : Int32) : Int32 := if op = 8 then ((kv_K_element w f ra x) + (kv_K_element w f rb x)) else if op = 9 then ((kv_K_element w f ra x) - (kv_K_element w f rb x)) else if op = 10 then ((kv_K_element w f ra x) * (kv_K_element w f rb x)) else if op = 11 then ((kv_K_element w f ra x) + xb) else if op = 13 then ((kv_K_element w f ra x) + (kv_K_element w f rb x)) else if op = 15 then (kv_K_elementOrZero w mo f ra (x + xb)) else if op = 16 then (kv_K_elementOrZero w mo f ra (kv_bare f 64 (kv_K_placeOf w rb x) w)) else (kv_B_number 128 w (kv_K_placeInMemory w xa xb op rb f x) g)
set_option maxRecDepth 100000 in
set_option maxHeartbeats 4000000 in
theorem c_K_result (l : Launch) {D : va_G} {ad : Nat → Nat} {n : Nat} {cs : Nat → va_E} {cI : ClassId} {cB : ClassId} {cJ : ClassId} {cQ : ClassId} {cW : ClassId} {qk : Nat} {q1 : Nat} {q2 : Nat} {q3 : Nat} {q4 : Nat} {q5 : Nat} {q6 : Nat} {q7 : Nat} {w : Nat} {fr : Nat} {tt : Nat} {dn : Nat} {db : Nat} {gr : Int32} {mo : Int32} {xa : Int32} {xb : Int32} {nu : Int32} {op : Int32} {rd : Int32} {ra : Int32} {rb : Int32} {rn : Int32} {mk : Int32} {f : Nat → Int32} {g : Nat → Int32} {x : Int32} (hqk : qk < n) (ek : cs qk = .inr (3, [.ref (ad q2), .ref (ad q4), .ref (ad q6), .ref (ad q7), .int (nI w), .int gr, .int mo, .int xa, .int xb, .int (nI fr), .ref (ad q1), .int nu, .int (nI tt), .int (nI dn), .int (nI db)])) (hq1 : q1 < n) (e1 : cs q1 = .inr (1, [.int op, .int rd, .int ra, .int rb, .int rn, .int mk])) (hq2 : q2 < n) (e2 : cs q2 = .inr (0, [.ref (ad q3)])) (hq3 : q3 < n) (e3 : cs q3 = .inl (cB, 64, .inl (f))) (hq4 : q4 < n) (e4 : cs q4 = .inr (0, [.ref (ad q5)])) (hq5 : q5 < n) (e5 : cs q5 = .inl (cB, 128, .inl (g))) (hw : w ≤ 64) : kw_mi l y_K_result w_K_result (kr 3) D kc (kt cI cB cJ cQ cW) ad n cs [.ref (ad qk), .int x] (fun r9 c9 => r9 = kv_K_result w mo xa xb op ra rb f g x ∧ c9 = cs) := by
  refine kw_of (cc := b_K_result) (maxL := 2) (ret := (some .int)) (by decide) rfl (Nat.le_of_ble_eq_true rfl) ?_
  intro p e s m below meth c ls hx hb hr hml hown hts hlocks hP hK hl
  have hg : ∀ w9 ∈ kg_G, w9.before [.ref (ad qk), .int x].toArray s = true := fun w9 h9 => hts w9 (List.mem_cons_of_mem _ h9)
  have hown : s.vm.findClass "LaneMachine$Work" = some m.cls := hown
  have hA : ∀ k, k < n → kw_A ad n (ad k) := fun k hk => ⟨k, hk, rfl⟩
  have hS : va_S (kw_A ad n) s.heap s.heap [] := va_S.rf
  have hl : lv_has ls 2 [(0, .ref (ad qk)), (1, .int x)] := hl
  refine lv_aload_n hx hb d_K_result_0 rfl (lv_at hl 0 rfl) ?_
  refine kw_get hx hb hg in_K hown hK hP qk hqk ek rfl 10 (by decide) (hg _ kg_121) rfl rfl d_K_result_1 ?_
  refine kw_get hx hb hg in_I hown hK hP q1 hq1 e1 rfl 0 (by decide) (hg _ kg_72) rfl rfl d_K_result_4 ?_
  by_cases h1 : op = 8
  · refine lv_tableIn (tgt := 56) hx hb d_K_result_7 (by rw [h1]; decide) (by rw [h1]; decide) (by rw [h1]; rfl) (by decide) ?_
    refine lv_aload_n hx hb d_K_result_56 rfl (lv_at hl 0 rfl) ?_
    refine lv_aload_n hx hb d_K_result_57 rfl (lv_at hl 0 rfl) ?_
    refine kw_get hx hb hg in_K hown hK hP qk hqk ek rfl 10 (by decide) (hg _ kg_121) rfl rfl d_K_result_58 ?_
    refine kw_get hx hb hg in_I hown hK hP q1 hq1 e1 rfl 2 (by decide) (hg _ kg_81) rfl rfl d_K_result_61 ?_
    refine lv_iload_n hx hb d_K_result_64 rfl (lv_at hl 1 rfl) ?_
    refine kw_callix (kw_rV (As := [.int ra, .int x]) (rest := []) (q0 := qk) ⟨hx, hb, hml, hown, hg⟩ ⟨callB_of 2 hg (kg_goodG kg_431) rfl rfl rfl (hg _ kg_6) (hg _ kg_428) (by decide +kernel) ⟨by decide, by decide⟩, hg _ kg_430, hg _ (kg_sel (q := (y_K_element, 15)) (by decide +kernel))⟩ (c_K_element l hqk ek hq1 e1 hq2 e2 hq3 e3 hw ) hK hP hqk ek rfl rfl hl.1 rfl (Nat.le_of_ble_eq_true rfl) d_K_result_65 ⟨Nat.zero_le _, Nat.zero_le _⟩) hA hS (fun H locs hP hS => ?_)
    refine lv_aload_n hx hb d_K_result_68 rfl (lv_at hl 0 rfl) ?_
    refine lv_aload_n hx hb d_K_result_69 rfl (lv_at hl 0 rfl) ?_
    refine kw_get hx hb hg in_K hown hK hP qk hqk ek rfl 10 (by decide) (hg _ kg_121) rfl rfl d_K_result_70 ?_
    refine kw_get hx hb hg in_I hown hK hP q1 hq1 e1 rfl 3 (by decide) (hg _ kg_85) rfl rfl d_K_result_73 ?_
    refine lv_iload_n hx hb d_K_result_76 rfl (lv_at hl 1 rfl) ?_
    refine kw_callix (kw_rV (As := [.int rb, .int x]) (rest := [.int (kv_K_element w f ra x)]) (q0 := qk) ⟨hx, hb, hml, hown, hg⟩ ⟨callB_of 2 hg (kg_goodG kg_431) rfl rfl rfl (hg _ kg_6) (hg _ kg_428) (by decide +kernel) ⟨by decide, by decide⟩, hg _ kg_430, hg _ (kg_sel (q := (y_K_element, 15)) (by decide +kernel))⟩ (c_K_element l hqk ek hq1 e1 hq2 e2 hq3 e3 hw ) hK hP hqk ek rfl rfl hl.1 rfl (Nat.le_of_ble_eq_true rfl) d_K_result_77 ⟨Nat.zero_le _, Nat.zero_le _⟩) hA hS (fun H locs hP hS => ?_)
    refine lv_iadd hx hb d_K_result_80 ?_
    exact kw_iret hx hb hr hlocks hP hK hS ⟨by rw [kv_K_result, if_pos h1], rfl⟩ d_K_result_81
  by_cases h2 : op = 9
  · refine lv_tableIn (tgt := 82) hx hb d_K_result_7 (by rw [h2]; decide) (by rw [h2]; decide) (by rw [h2]; rfl) (by decide) ?_
    refine lv_aload_n hx hb d_K_result_82 rfl (lv_at hl 0 rfl) ?_
    refine lv_aload_n hx hb d_K_result_83 rfl (lv_at hl 0 rfl) ?_
    refine kw_get hx hb hg in_K hown hK hP qk hqk ek rfl 10 (by decide) (hg _ kg_121) rfl rfl d_K_result_84 ?_
    refine kw_get hx hb hg in_I hown hK hP q1 hq1 e1 rfl 2 (by decide) (hg _ kg_81) rfl rfl d_K_result_87 ?_
    refine lv_iload_n hx hb d_K_result_90 rfl (lv_at hl 1 rfl) ?_
    refine kw_callix (kw_rV (As := [.int ra, .int x]) (rest := []) (q0 := qk) ⟨hx, hb, hml, hown, hg⟩ ⟨callB_of 2 hg (kg_goodG kg_431) rfl rfl rfl (hg _ kg_6) (hg _ kg_428) (by decide +kernel) ⟨by decide, by decide⟩, hg _ kg_430, hg _ (kg_sel (q := (y_K_element, 15)) (by decide +kernel))⟩ (c_K_element l hqk ek hq1 e1 hq2 e2 hq3 e3 hw ) hK hP hqk ek rfl rfl hl.1 rfl (Nat.le_of_ble_eq_true rfl) d_K_result_91 ⟨Nat.zero_le _, Nat.zero_le _⟩) hA hS (fun H locs hP hS => ?_)
    refine lv_aload_n hx hb d_K_result_94 rfl (lv_at hl 0 rfl) ?_
    refine lv_aload_n hx hb d_K_result_95 rfl (lv_at hl 0 rfl) ?_
    refine kw_get hx hb hg in_K hown hK hP qk hqk ek rfl 10 (by decide) (hg _ kg_121) rfl rfl d_K_result_96 ?_
    refine kw_get hx hb hg in_I hown hK hP q1 hq1 e1 rfl 3 (by decide) (hg _ kg_85) rfl rfl d_K_result_99 ?_
    refine lv_iload_n hx hb d_K_result_102 rfl (lv_at hl 1 rfl) ?_
    refine kw_callix (kw_rV (As := [.int rb, .int x]) (rest := [.int (kv_K_element w f ra x)]) (q0 := qk) ⟨hx, hb, hml, hown, hg⟩ ⟨callB_of 2 hg (kg_goodG kg_431) rfl rfl rfl (hg _ kg_6) (hg _ kg_428) (by decide +kernel) ⟨by decide, by decide⟩, hg _ kg_430, hg _ (kg_sel (q := (y_K_element, 15)) (by decide +kernel))⟩ (c_K_element l hqk ek hq1 e1 hq2 e2 hq3 e3 hw ) hK hP hqk ek rfl rfl hl.1 rfl (Nat.le_of_ble_eq_true rfl) d_K_result_103 ⟨Nat.zero_le _, Nat.zero_le _⟩) hA hS (fun H locs hP hS => ?_)
    refine lv_isub hx hb d_K_result_106 ?_
    exact kw_iret hx hb hr hlocks hP hK hS ⟨by rw [kv_K_result, if_neg h1, if_pos h2], rfl⟩ d_K_result_107
  by_cases h3 : op = 10
  · refine lv_tableIn (tgt := 108) hx hb d_K_result_7 (by rw [h3]; decide) (by rw [h3]; decide) (by rw [h3]; rfl) (by decide) ?_
    refine lv_aload_n hx hb d_K_result_108 rfl (lv_at hl 0 rfl) ?_
    refine lv_aload_n hx hb d_K_result_109 rfl (lv_at hl 0 rfl) ?_
    refine kw_get hx hb hg in_K hown hK hP qk hqk ek rfl 10 (by decide) (hg _ kg_121) rfl rfl d_K_result_110 ?_
    refine kw_get hx hb hg in_I hown hK hP q1 hq1 e1 rfl 2 (by decide) (hg _ kg_81) rfl rfl d_K_result_113 ?_
    refine lv_iload_n hx hb d_K_result_116 rfl (lv_at hl 1 rfl) ?_
    refine kw_callix (kw_rV (As := [.int ra, .int x]) (rest := []) (q0 := qk) ⟨hx, hb, hml, hown, hg⟩ ⟨callB_of 2 hg (kg_goodG kg_431) rfl rfl rfl (hg _ kg_6) (hg _ kg_428) (by decide +kernel) ⟨by decide, by decide⟩, hg _ kg_430, hg _ (kg_sel (q := (y_K_element, 15)) (by decide +kernel))⟩ (c_K_element l hqk ek hq1 e1 hq2 e2 hq3 e3 hw ) hK hP hqk ek rfl rfl hl.1 rfl (Nat.le_of_ble_eq_true rfl) d_K_result_117 ⟨Nat.zero_le _, Nat.zero_le _⟩) hA hS (fun H locs hP hS => ?_)
    refine lv_aload_n hx hb d_K_result_120 rfl (lv_at hl 0 rfl) ?_
    refine lv_aload_n hx hb d_K_result_121 rfl (lv_at hl 0 rfl) ?_
    refine kw_get hx hb hg in_K hown hK hP qk hqk ek rfl 10 (by decide) (hg _ kg_121) rfl rfl d_K_result_122 ?_
    refine kw_get hx hb hg in_I hown hK hP q1 hq1 e1 rfl 3 (by decide) (hg _ kg_85) rfl rfl d_K_result_125 ?_
    refine lv_iload_n hx hb d_K_result_128 rfl (lv_at hl 1 rfl) ?_
    refine kw_callix (kw_rV (As := [.int rb, .int x]) (rest := [.int (kv_K_element w f ra x)]) (q0 := qk) ⟨hx, hb, hml, hown, hg⟩ ⟨callB_of 2 hg (kg_goodG kg_431) rfl rfl rfl (hg _ kg_6) (hg _ kg_428) (by decide +kernel) ⟨by decide, by decide⟩, hg _ kg_430, hg _ (kg_sel (q := (y_K_element, 15)) (by decide +kernel))⟩ (c_K_element l hqk ek hq1 e1 hq2 e2 hq3 e3 hw ) hK hP hqk ek rfl rfl hl.1 rfl (Nat.le_of_ble_eq_true rfl) d_K_result_129 ⟨Nat.zero_le _, Nat.zero_le _⟩) hA hS (fun H locs hP hS => ?_)
    refine lv_imul hx hb d_K_result_132 ?_
    exact kw_iret hx hb hr hlocks hP hK hS ⟨by rw [kv_K_result, if_neg h1, if_neg h2, if_pos h3], rfl⟩ d_K_result_133
  by_cases h4 : op = 11
  · refine lv_tableIn (tgt := 134) hx hb d_K_result_7 (by rw [h4]; decide) (by rw [h4]; decide) (by rw [h4]; rfl) (by decide) ?_
    refine lv_aload_n hx hb d_K_result_134 rfl (lv_at hl 0 rfl) ?_
    refine lv_aload_n hx hb d_K_result_135 rfl (lv_at hl 0 rfl) ?_
    refine kw_get hx hb hg in_K hown hK hP qk hqk ek rfl 10 (by decide) (hg _ kg_121) rfl rfl d_K_result_136 ?_
    refine kw_get hx hb hg in_I hown hK hP q1 hq1 e1 rfl 2 (by decide) (hg _ kg_81) rfl rfl d_K_result_139 ?_
    refine lv_iload_n hx hb d_K_result_142 rfl (lv_at hl 1 rfl) ?_
    refine kw_callix (kw_rV (As := [.int ra, .int x]) (rest := []) (q0 := qk) ⟨hx, hb, hml, hown, hg⟩ ⟨callB_of 2 hg (kg_goodG kg_431) rfl rfl rfl (hg _ kg_6) (hg _ kg_428) (by decide +kernel) ⟨by decide, by decide⟩, hg _ kg_430, hg _ (kg_sel (q := (y_K_element, 15)) (by decide +kernel))⟩ (c_K_element l hqk ek hq1 e1 hq2 e2 hq3 e3 hw ) hK hP hqk ek rfl rfl hl.1 rfl (Nat.le_of_ble_eq_true rfl) d_K_result_143 ⟨Nat.zero_le _, Nat.zero_le _⟩) hA hS (fun H locs hP hS => ?_)
    refine lv_aload_n hx hb d_K_result_146 rfl (lv_at hl 0 rfl) ?_
    refine kw_get hx hb hg in_K hown hK hP qk hqk ek rfl 8 (by decide) (hg _ kg_119) rfl rfl d_K_result_147 ?_
    refine lv_iadd hx hb d_K_result_150 ?_
    exact kw_iret hx hb hr hlocks hP hK hS ⟨by rw [kv_K_result, if_neg h1, if_neg h2, if_neg h3, if_pos h4], rfl⟩ d_K_result_151
  by_cases h5 : op = 13
  · refine lv_tableIn (tgt := 56) hx hb d_K_result_7 (by rw [h5]; decide) (by rw [h5]; decide) (by rw [h5]; rfl) (by decide) ?_
    refine lv_aload_n hx hb d_K_result_56 rfl (lv_at hl 0 rfl) ?_
    refine lv_aload_n hx hb d_K_result_57 rfl (lv_at hl 0 rfl) ?_
    refine kw_get hx hb hg in_K hown hK hP qk hqk ek rfl 10 (by decide) (hg _ kg_121) rfl rfl d_K_result_58 ?_
    refine kw_get hx hb hg in_I hown hK hP q1 hq1 e1 rfl 2 (by decide) (hg _ kg_81) rfl rfl d_K_result_61 ?_
    refine lv_iload_n hx hb d_K_result_64 rfl (lv_at hl 1 rfl) ?_
    refine kw_callix (kw_rV (As := [.int ra, .int x]) (rest := []) (q0 := qk) ⟨hx, hb, hml, hown, hg⟩ ⟨callB_of 2 hg (kg_goodG kg_431) rfl rfl rfl (hg _ kg_6) (hg _ kg_428) (by decide +kernel) ⟨by decide, by decide⟩, hg _ kg_430, hg _ (kg_sel (q := (y_K_element, 15)) (by decide +kernel))⟩ (c_K_element l hqk ek hq1 e1 hq2 e2 hq3 e3 hw ) hK hP hqk ek rfl rfl hl.1 rfl (Nat.le_of_ble_eq_true rfl) d_K_result_65 ⟨Nat.zero_le _, Nat.zero_le _⟩) hA hS (fun H locs hP hS => ?_)
    refine lv_aload_n hx hb d_K_result_68 rfl (lv_at hl 0 rfl) ?_
    refine lv_aload_n hx hb d_K_result_69 rfl (lv_at hl 0 rfl) ?_
    refine kw_get hx hb hg in_K hown hK hP qk hqk ek rfl 10 (by decide) (hg _ kg_121) rfl rfl d_K_result_70 ?_
    refine kw_get hx hb hg in_I hown hK hP q1 hq1 e1 rfl 3 (by decide) (hg _ kg_85) rfl rfl d_K_result_73 ?_
    refine lv_iload_n hx hb d_K_result_76 rfl (lv_at hl 1 rfl) ?_
    refine kw_callix (kw_rV (As := [.int rb, .int x]) (rest := [.int (kv_K_element w f ra x)]) (q0 := qk) ⟨hx, hb, hml, hown, hg⟩ ⟨callB_of 2 hg (kg_goodG kg_431) rfl rfl rfl (hg _ kg_6) (hg _ kg_428) (by decide +kernel) ⟨by decide, by decide⟩, hg _ kg_430, hg _ (kg_sel (q := (y_K_element, 15)) (by decide +kernel))⟩ (c_K_element l hqk ek hq1 e1 hq2 e2 hq3 e3 hw ) hK hP hqk ek rfl rfl hl.1 rfl (Nat.le_of_ble_eq_true rfl) d_K_result_77 ⟨Nat.zero_le _, Nat.zero_le _⟩) hA hS (fun H locs hP hS => ?_)
    refine lv_iadd hx hb d_K_result_80 ?_
    exact kw_iret hx hb hr hlocks hP hK hS ⟨by rw [kv_K_result, if_neg h1, if_neg h2, if_neg h3, if_neg h4, if_pos h5], rfl⟩ d_K_result_81
  by_cases h6 : op = 15
  · refine lv_tableIn (tgt := 152) hx hb d_K_result_7 (by rw [h6]; decide) (by rw [h6]; decide) (by rw [h6]; rfl) (by decide) ?_
    refine lv_aload_n hx hb d_K_result_152 rfl (lv_at hl 0 rfl) ?_
    refine lv_aload_n hx hb d_K_result_153 rfl (lv_at hl 0 rfl) ?_
    refine kw_get hx hb hg in_K hown hK hP qk hqk ek rfl 10 (by decide) (hg _ kg_121) rfl rfl d_K_result_154 ?_
    refine kw_get hx hb hg in_I hown hK hP q1 hq1 e1 rfl 2 (by decide) (hg _ kg_81) rfl rfl d_K_result_157 ?_
    refine lv_iload_n hx hb d_K_result_160 rfl (lv_at hl 1 rfl) ?_
    refine lv_aload_n hx hb d_K_result_161 rfl (lv_at hl 0 rfl) ?_
    refine kw_get hx hb hg in_K hown hK hP qk hqk ek rfl 8 (by decide) (hg _ kg_119) rfl rfl d_K_result_162 ?_
    refine lv_iadd hx hb d_K_result_165 ?_
    refine kw_callix (kw_rV (As := [.int ra, .int (x + xb)]) (rest := []) (q0 := qk) ⟨hx, hb, hml, hown, hg⟩ ⟨callB_of 2 hg (kg_goodG kg_448) rfl rfl rfl (hg _ kg_6) (hg _ kg_445) (by decide +kernel) ⟨by decide, by decide⟩, hg _ kg_447, hg _ (kg_sel (q := (y_K_elementOrZero, 15)) (by decide +kernel))⟩ (c_K_elementOrZero l hqk ek hq1 e1 hq2 e2 hq3 e3 hw ) hK hP hqk ek rfl rfl hl.1 rfl (Nat.le_of_ble_eq_true rfl) d_K_result_166 ⟨Nat.zero_le _, Nat.zero_le _⟩) hA hS (fun H locs hP hS => ?_)
    exact kw_iret hx hb hr hlocks hP hK hS ⟨by rw [kv_K_result, if_neg h1, if_neg h2, if_neg h3, if_neg h4, if_neg h5, if_pos h6], rfl⟩ d_K_result_169
  by_cases h7 : op = 16
  · refine lv_tableIn (tgt := 170) hx hb d_K_result_7 (by rw [h7]; decide) (by rw [h7]; decide) (by rw [h7]; rfl) (by decide) ?_
    refine lv_aload_n hx hb d_K_result_170 rfl (lv_at hl 0 rfl) ?_
    refine lv_aload_n hx hb d_K_result_171 rfl (lv_at hl 0 rfl) ?_
    refine kw_get hx hb hg in_K hown hK hP qk hqk ek rfl 10 (by decide) (hg _ kg_121) rfl rfl d_K_result_172 ?_
    refine kw_get hx hb hg in_I hown hK hP q1 hq1 e1 rfl 2 (by decide) (hg _ kg_81) rfl rfl d_K_result_175 ?_
    refine lv_aload_n hx hb d_K_result_178 rfl (lv_at hl 0 rfl) ?_
    refine kw_get hx hb hg in_K hown hK hP qk hqk ek rfl 0 (by decide) (hg _ kg_111) rfl rfl d_K_result_179 ?_
    refine lv_aload_n hx hb d_K_result_182 rfl (lv_at hl 0 rfl) ?_
    refine lv_aload_n hx hb d_K_result_183 rfl (lv_at hl 0 rfl) ?_
    refine kw_get hx hb hg in_K hown hK hP qk hqk ek rfl 10 (by decide) (hg _ kg_121) rfl rfl d_K_result_184 ?_
    refine kw_get hx hb hg in_I hown hK hP q1 hq1 e1 rfl 3 (by decide) (hg _ kg_85) rfl rfl d_K_result_187 ?_
    refine lv_iload_n hx hb d_K_result_190 rfl (lv_at hl 1 rfl) ?_
    refine kw_callix (kw_rV (As := [.int rb, .int x]) (rest := [.ref (ad q2), .int ra, .ref (ad qk)]) (q0 := qk) ⟨hx, hb, hml, hown, hg⟩ ⟨callB_of 2 hg (kg_goodG kg_394) rfl rfl rfl (hg _ kg_6) (hg _ kg_391) (by decide +kernel) ⟨by decide, by decide⟩, hg _ kg_393, hg _ (kg_sel (q := (y_K_placeOf, 15)) (by decide +kernel))⟩ (c_K_placeOf l hqk ek ) hK hP hqk ek rfl rfl hl.1 rfl (Nat.le_of_ble_eq_true rfl) d_K_result_191 ⟨Nat.zero_le _, Nat.zero_le _⟩) hA hS (fun H locs hP hS => ?_)
    refine lv_aload_n hx hb d_K_result_194 rfl (lv_at hl 0 rfl) ?_
    refine kw_get hx hb hg in_K hown hK hP qk hqk ek rfl 4 (by decide) (hg _ kg_115) rfl rfl d_K_result_195 ?_
    refine kw_callix (kw_rV (As := [.int (kv_K_placeOf w rb x), .int (nI w)]) (rest := [.int ra, .ref (ad qk)]) (q0 := q2) ⟨hx, hb, hml, hown, hg⟩ ⟨callB_of 2 hg (kg_goodG kg_220) rfl rfl rfl (hg _ kg_3) (hg _ kg_423) (by decide +kernel) ⟨by decide, by decide⟩, hg _ kg_218, hg _ kg_219⟩ (c_B_bareNumber l hq2 e2 hq3 e3 hw (by decide) ) hK hP hq2 e2 rfl rfl hl.1 rfl (Nat.le_of_ble_eq_true rfl) d_K_result_198 ⟨Nat.zero_le _, Nat.zero_le _⟩) hA hS (fun H locs hP hS => ?_)
    refine kw_callix (kw_rV (As := [.int ra, .int (kv_bare f 64 (kv_K_placeOf w rb x) w)]) (rest := []) (q0 := qk) ⟨hx, hb, hml, hown, hg⟩ ⟨callB_of 2 hg (kg_goodG kg_448) rfl rfl rfl (hg _ kg_6) (hg _ kg_445) (by decide +kernel) ⟨by decide, by decide⟩, hg _ kg_447, hg _ (kg_sel (q := (y_K_elementOrZero, 15)) (by decide +kernel))⟩ (c_K_elementOrZero l hqk ek hq1 e1 hq2 e2 hq3 e3 hw ) hK hP hqk ek rfl rfl hl.1 rfl (Nat.le_of_ble_eq_true rfl) d_K_result_201 ⟨Nat.zero_le _, Nat.zero_le _⟩) hA hS (fun H locs hP hS => ?_)
    exact kw_iret hx hb hr hlocks hP hK hS ⟨by rw [kv_K_result, if_neg h1, if_neg h2, if_neg h3, if_neg h4, if_neg h5, if_neg h6, if_pos h7], rfl⟩ d_K_result_204
  refine kw_tbl (tgt := 205) (N := 9) hx hb d_K_result_7 rfl (by decide) (fun i hi => match i, hi with | 0, _ => Or.inr (lv_neT h1 rfl) | 1, _ => Or.inr (lv_neT h2 rfl) | 2, _ => Or.inr (lv_neT h3 rfl) | 3, _ => Or.inr (lv_neT h4 rfl) | 4, _ => Or.inl rfl | 5, _ => Or.inr (lv_neT h5 rfl) | 6, _ => Or.inl rfl | 7, _ => Or.inr (lv_neT h6 rfl) | 8, _ => Or.inr (lv_neT h7 rfl) | z + 9, h => absurd h (by omega)) ?_
  refine lv_aload_n hx hb d_K_result_205 rfl (lv_at hl 0 rfl) ?_
  refine kw_get hx hb hg in_K hown hK hP qk hqk ek rfl 1 (by decide) (hg _ kg_112) rfl rfl d_K_result_206 ?_
  refine lv_aload_n hx hb d_K_result_209 rfl (lv_at hl 0 rfl) ?_
  refine lv_iload_n hx hb d_K_result_210 rfl (lv_at hl 1 rfl) ?_
  refine kw_callix (kw_rV (As := [.int x]) (rest := [.ref (ad q4)]) (q0 := qk) ⟨hx, hb, hml, hown, hg⟩ ⟨callB_of 1 hg (kg_goodG kg_452) rfl rfl rfl (hg _ kg_6) (hg _ kg_449) (by decide +kernel) ⟨by decide, by decide⟩, hg _ kg_451, hg _ (kg_sel (q := (y_K_placeInMemory, 15)) (by decide +kernel))⟩ (c_K_placeInMemory l hqk ek hq1 e1 hq2 e2 hq3 e3 hw ) hK hP hqk ek rfl rfl hl.1 rfl (Nat.le_of_ble_eq_true rfl) d_K_result_211 ⟨Nat.zero_le _, Nat.zero_le _⟩) hA hS (fun H locs hP hS => ?_)
  refine lv_aload_n hx hb d_K_result_214 rfl (lv_at hl 0 rfl) ?_
  refine kw_get hx hb hg in_K hown hK hP qk hqk ek rfl 4 (by decide) (hg _ kg_115) rfl rfl d_K_result_215 ?_
  refine kw_callix (kw_rV (As := [.int (kv_K_placeInMemory w xa xb op rb f x), .int (nI w)]) (rest := []) (q0 := q4) ⟨hx, hb, hml, hown, hg⟩ ⟨callB_of 2 hg (kg_goodG kg_216) rfl rfl rfl (hg _ kg_3) (hg _ kg_432) (by decide +kernel) ⟨by decide, by decide⟩, hg _ kg_214, hg _ kg_215⟩ (c_B_number l hq4 e4 hq5 e5 (by omega) (by decide) ) hK hP hq4 e4 rfl rfl hl.1 rfl (Nat.le_of_ble_eq_true rfl) d_K_result_218 ⟨Nat.zero_le _, Nat.zero_le _⟩) hA hS (fun H locs hP hS => ?_)
  exact kw_iret hx hb hr hlocks hP hK hS ⟨by rw [kv_K_result, if_neg h1, if_neg h2, if_neg h3, if_neg h4, if_neg h5, if_neg h6, if_neg h7], rfl⟩ d_K_result_221
