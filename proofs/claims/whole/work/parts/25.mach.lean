/-! LaneMachine: what is asked -/
theorem kw_rg8 {x : Int32} (h1 : ¬ x < 0) (h2 : ¬ 8 ≤ x) : x = nI x.toNatClampNeg ∧ x.toNatClampNeg < 8 := by
  obtain ⟨j, hj, rfl⟩ := nI_of h1
  have h3 : ¬ nI 8 ≤ nI j := h2
  rw [nI_leI (by decide) hj] at h3
  rw [nI_clamp hj]
  exact ⟨rfl, by omega⟩

def kv_M_scalar (x : Int32) (X : Nat → Int32) : Int32 := if x < 0 then 0 else if 8 ≤ x then 0 else (X x.toNatClampNeg)
set_option maxRecDepth 100000 in
set_option maxHeartbeats 4000000 in
theorem c_M_scalar (l : Launch) {D : va_G} {ad : Nat → Nat} {n : Nat} {cs : Nat → va_E} {cI : ClassId} {cB : ClassId} {cJ : ClassId} {cQ : ClassId} {cW : ClassId} {qm : Nat} {qx : Nat} {q0 : Nat} {q2 : Nat} {q4 : Nat} {qp : Nat} {qw : Nat} {la : Nat} {ma : Nat} {qu : Nat} {st : Nat} {bo : Nat} {nx : Int32} {cy : Int32} {sd : Int32} {x : Int32} {X : Nat → Int32} (hqm : qm < n) (em : cs qm = .inr (4, [.int (nI la), .ref (ad qx), .ref (ad q2), .ref (ad q4), .ref (ad q0), .ref (ad qp), .ref (ad qw), .int (nI ma), .int (nI qu), .int (nI st), .int nx, .int (nI bo), .int cy, .int sd])) (hqx : qx < n) (ex : cs qx = .inl (cI, 8, .inl (X)))  : kw_mi l y_M_scalar w_M_scalar (kr 0) D kc (kt cI cB cJ cQ cW) ad n cs [.ref (ad qm), .int x] (fun r9 c9 => r9 = kv_M_scalar x X ∧ c9 = cs) := by
  refine kw_of (cc := b_M_scalar) (maxL := 2) (ret := (some .int)) (by decide) rfl (Nat.le_of_ble_eq_true rfl) ?_
  intro p e s m below meth c ls hx hb hr hml hown hts hlocks hP hK hl
  have hg : ∀ w9 ∈ kg_G, w9.before [.ref (ad qm), .int x].toArray s = true := fun w9 h9 => hts w9 (List.mem_cons_of_mem _ h9)
  have hown : s.vm.findClass "LaneMachine" = some m.cls := hown
  have hA : ∀ k, k < n → kw_A ad n (ad k) := fun k hk => ⟨k, hk, rfl⟩
  have hS : va_S (kw_A ad n) s.heap s.heap [] := va_S.rf
  have hl : lv_has ls 2 [(0, .ref (ad qm)), (1, .int x)] := hl
  refine lv_iload_n hx hb d_M_scalar_0 rfl (lv_at hl 1 rfl) ?_
  refine lv_if_lt (tgt := 19) hx hb d_M_scalar_1 (by decide) (fun h1 => ?_) (fun h1 => ?_)
  · refine lv_iconst (v := 0) hx hb d_M_scalar_19 (by decide) ?_
    exact kw_iret hx hb hr hlocks hP hK hS ⟨by rw [kv_M_scalar, if_pos h1], rfl⟩ d_M_scalar_20
  · refine lv_iload_n hx hb d_M_scalar_4 rfl (lv_at hl 1 rfl) ?_
    refine lv_bipush (v := 8) hx hb d_M_scalar_5 (by decide) ?_
    refine lv_icmp_ge (tgt := 19) hx hb d_M_scalar_7 (by decide) (fun h2 => ?_) (fun h2 => ?_)
    · refine lv_iconst (v := 0) hx hb d_M_scalar_19 (by decide) ?_
      exact kw_iret hx hb hr hlocks hP hK hS ⟨by rw [kv_M_scalar, if_neg h1, if_pos h2], rfl⟩ d_M_scalar_20
    · refine lv_aload_n hx hb d_M_scalar_10 rfl (lv_at hl 0 rfl) ?_
      refine kw_get hx hb hg in_M hown hK hP qm hqm em rfl 1 (by decide) (hg _ kg_163) rfl rfl d_M_scalar_11 ?_
      refine lv_iload_n hx hb d_M_scalar_14 rfl (lv_at hl 1 rfl) ?_
      refine kw_iald hx hb hK hP qx 0 hqx ex rfl x.toNatClampNeg ((kw_rg8 h1 h2).1) ((kw_rg8 h1 h2).2) (by omega) d_M_scalar_15 ?_
      refine lv_goto (tgt := 20) hx hb d_M_scalar_16 (by decide) ?_
      exact kw_iret hx hb hr hlocks hP hK hS ⟨by rw [kv_M_scalar, if_neg h1, if_neg h2], rfl⟩ d_M_scalar_20

def kv_M_file (x : Int32) (f : Nat → Int32) : Int32 := kv_B_number 64 1 x f
set_option maxRecDepth 100000 in
set_option maxHeartbeats 4000000 in
theorem c_M_file (l : Launch) {D : va_G} {ad : Nat → Nat} {n : Nat} {cs : Nat → va_E} {cI : ClassId} {cB : ClassId} {cJ : ClassId} {cQ : ClassId} {cW : ClassId} {qm : Nat} {qx : Nat} {q0 : Nat} {q2 : Nat} {q3 : Nat} {q4 : Nat} {qp : Nat} {qw : Nat} {la : Nat} {ma : Nat} {qu : Nat} {st : Nat} {bo : Nat} {nx : Int32} {cy : Int32} {sd : Int32} {x : Int32} {f : Nat → Int32} (hqm : qm < n) (em : cs qm = .inr (4, [.int (nI la), .ref (ad qx), .ref (ad q2), .ref (ad q4), .ref (ad q0), .ref (ad qp), .ref (ad qw), .int (nI ma), .int (nI qu), .int (nI st), .int nx, .int (nI bo), .int cy, .int sd])) (hq2 : q2 < n) (e2 : cs q2 = .inr (0, [.ref (ad q3)])) (hq3 : q3 < n) (e3 : cs q3 = .inl (cB, 64, .inl (f)))  : kw_mi l y_M_file w_M_file (kr 2) D kc (kt cI cB cJ cQ cW) ad n cs [.ref (ad qm), .int x] (fun r9 c9 => r9 = kv_M_file x f ∧ c9 = cs) := by
  refine kw_of (cc := b_M_file) (maxL := 2) (ret := (some .int)) (by decide) rfl (Nat.le_of_ble_eq_true rfl) ?_
  intro p e s m below meth c ls hx hb hr hml hown hts hlocks hP hK hl
  have hg : ∀ w9 ∈ kg_G, w9.before [.ref (ad qm), .int x].toArray s = true := fun w9 h9 => hts w9 (List.mem_cons_of_mem _ h9)
  have hown : s.vm.findClass "LaneMachine" = some m.cls := hown
  have hA : ∀ k, k < n → kw_A ad n (ad k) := fun k hk => ⟨k, hk, rfl⟩
  have hS : va_S (kw_A ad n) s.heap s.heap [] := va_S.rf
  have hl : lv_has ls 2 [(0, .ref (ad qm)), (1, .int x)] := hl
  refine lv_aload_n hx hb d_M_file_0 rfl (lv_at hl 0 rfl) ?_
  refine kw_get hx hb hg in_M hown hK hP qm hqm em rfl 2 (by decide) (hg _ kg_164) rfl rfl d_M_file_1 ?_
  refine lv_iload_n hx hb d_M_file_4 rfl (lv_at hl 1 rfl) ?_
  refine lv_iconst (v := 1) hx hb d_M_file_5 (by decide) ?_
  refine kw_callix (kw_rV (As := [.int x, .int 1]) (rest := []) (q0 := q2) ⟨hx, hb, hml, hown, hg⟩ ⟨callB_of 2 hg (kg_goodG kg_216) rfl rfl rfl (hg _ kg_3) (hg _ kg_213) (by decide +kernel) ⟨by decide, by decide⟩, hg _ kg_214, hg _ kg_215⟩ (c_B_number l hq2 e2 hq3 e3 (by decide) (by decide) (w := 1)) hK hP hq2 e2 rfl rfl hl.1 rfl (Nat.le_of_ble_eq_true rfl) d_M_file_6 ⟨Nat.zero_le _, Nat.zero_le _⟩) hA hS (fun H locs hP hS => ?_)
  exact kw_iret hx hb hr hlocks hP hK hS ⟨by rw [kv_M_file], rfl⟩ d_M_file_9

def kv_M_memory (x : Int32) (g : Nat → Int32) : Int32 := kv_B_number 128 1 x g
set_option maxRecDepth 100000 in
set_option maxHeartbeats 4000000 in
theorem c_M_memory (l : Launch) {D : va_G} {ad : Nat → Nat} {n : Nat} {cs : Nat → va_E} {cI : ClassId} {cB : ClassId} {cJ : ClassId} {cQ : ClassId} {cW : ClassId} {qm : Nat} {qx : Nat} {q0 : Nat} {q2 : Nat} {q4 : Nat} {q5 : Nat} {qp : Nat} {qw : Nat} {la : Nat} {ma : Nat} {qu : Nat} {st : Nat} {bo : Nat} {nx : Int32} {cy : Int32} {sd : Int32} {x : Int32} {g : Nat → Int32} (hqm : qm < n) (em : cs qm = .inr (4, [.int (nI la), .ref (ad qx), .ref (ad q2), .ref (ad q4), .ref (ad q0), .ref (ad qp), .ref (ad qw), .int (nI ma), .int (nI qu), .int (nI st), .int nx, .int (nI bo), .int cy, .int sd])) (hq4 : q4 < n) (e4 : cs q4 = .inr (0, [.ref (ad q5)])) (hq5 : q5 < n) (e5 : cs q5 = .inl (cB, 128, .inl (g)))  : kw_mi l y_M_memory w_M_memory (kr 2) D kc (kt cI cB cJ cQ cW) ad n cs [.ref (ad qm), .int x] (fun r9 c9 => r9 = kv_M_memory x g ∧ c9 = cs) := by
  refine kw_of (cc := b_M_memory) (maxL := 2) (ret := (some .int)) (by decide) rfl (Nat.le_of_ble_eq_true rfl) ?_
  intro p e s m below meth c ls hx hb hr hml hown hts hlocks hP hK hl
  have hg : ∀ w9 ∈ kg_G, w9.before [.ref (ad qm), .int x].toArray s = true := fun w9 h9 => hts w9 (List.mem_cons_of_mem _ h9)
  have hown : s.vm.findClass "LaneMachine" = some m.cls := hown
  have hA : ∀ k, k < n → kw_A ad n (ad k) := fun k hk => ⟨k, hk, rfl⟩
  have hS : va_S (kw_A ad n) s.heap s.heap [] := va_S.rf
  have hl : lv_has ls 2 [(0, .ref (ad qm)), (1, .int x)] := hl
  refine lv_aload_n hx hb d_M_memory_0 rfl (lv_at hl 0 rfl) ?_
  refine kw_get hx hb hg in_M hown hK hP qm hqm em rfl 3 (by decide) (hg _ kg_165) rfl rfl d_M_memory_1 ?_
  refine lv_iload_n hx hb d_M_memory_4 rfl (lv_at hl 1 rfl) ?_
  refine lv_iconst (v := 1) hx hb d_M_memory_5 (by decide) ?_
  refine kw_callix (kw_rV (As := [.int x, .int 1]) (rest := []) (q0 := q4) ⟨hx, hb, hml, hown, hg⟩ ⟨callB_of 2 hg (kg_goodG kg_216) rfl rfl rfl (hg _ kg_3) (hg _ kg_213) (by decide +kernel) ⟨by decide, by decide⟩, hg _ kg_214, hg _ kg_215⟩ (c_B_number l hq4 e4 hq5 e5 (by decide) (by decide) (w := 1)) hK hP hq4 e4 rfl rfl hl.1 rfl (Nat.le_of_ble_eq_true rfl) d_M_memory_6 ⟨Nat.zero_le _, Nat.zero_le _⟩) hA hS (fun H locs hP hS => ?_)
  exact kw_iret hx hb hr hlocks hP hK hS ⟨by rw [kv_M_memory], rfl⟩ d_M_memory_9

def kv_M_about (ma : Nat) (qu : Nat) (st : Nat) (bo : Nat) (nx : Int32) (cy : Int32) (sd : Int32) (wp : Int32) (gp : Int32) (ln : Int32) (sa : Int32) (x : Int32) : Int32 := if x = 0 then (nI st) else if x = 1 then nx else if x = 2 then (kv_S_width wp) else if x = 3 then (kv_S_group gp) else if x = 4 then ln else if x = 5 then sa else if x = 6 then (nI bo) else if x = 7 then cy else if x = 8 then (nI qu) else if x = 9 then (nI ma) else if x = 10 then sd else ((-1))
set_option maxRecDepth 100000 in
set_option maxHeartbeats 4000000 in
theorem c_M_about (l : Launch) {D : va_G} {ad : Nat → Nat} {n : Nat} {cs : Nat → va_E} {cI : ClassId} {cB : ClassId} {cJ : ClassId} {cQ : ClassId} {cW : ClassId} {qm : Nat} {qx : Nat} {q0 : Nat} {q2 : Nat} {q4 : Nat} {qp : Nat} {qw : Nat} {la : Nat} {ma : Nat} {qu : Nat} {st : Nat} {bo : Nat} {nx : Int32} {cy : Int32} {sd : Int32} {wp : Int32} {gp : Int32} {ln : Int32} {sa : Int32} {x : Int32} (hqm : qm < n) (em : cs qm = .inr (4, [.int (nI la), .ref (ad qx), .ref (ad q2), .ref (ad q4), .ref (ad q0), .ref (ad qp), .ref (ad qw), .int (nI ma), .int (nI qu), .int (nI st), .int nx, .int (nI bo), .int cy, .int sd])) (hq0 : q0 < n) (e0 : cs q0 = .inr (2, [.int wp, .int gp, .int ln, .int sa]))  : kw_mi l y_M_about w_M_about (kr 1) D kc (kt cI cB cJ cQ cW) ad n cs [.ref (ad qm), .int x] (fun r9 c9 => r9 = kv_M_about ma qu st bo nx cy sd wp gp ln sa x ∧ c9 = cs) := by
  refine kw_of (cc := b_M_about) (maxL := 2) (ret := (some .int)) (by decide) rfl (Nat.le_of_ble_eq_true rfl) ?_
  intro p e s m below meth c ls hx hb hr hml hown hts hlocks hP hK hl
  have hg : ∀ w9 ∈ kg_G, w9.before [.ref (ad qm), .int x].toArray s = true := fun w9 h9 => hts w9 (List.mem_cons_of_mem _ h9)
  have hown : s.vm.findClass "LaneMachine" = some m.cls := hown
  have hA : ∀ k, k < n → kw_A ad n (ad k) := fun k hk => ⟨k, hk, rfl⟩
  have hS : va_S (kw_A ad n) s.heap s.heap [] := va_S.rf
  have hl : lv_has ls 2 [(0, .ref (ad qm)), (1, .int x)] := hl
  refine lv_iload_n hx hb d_M_about_0 rfl (lv_at hl 1 rfl) ?_
  by_cases h1 : x = 0
  · refine lv_tableIn (tgt := 60) hx hb d_M_about_1 (by rw [h1]; decide) (by rw [h1]; decide) (by rw [h1]; rfl) (by decide) ?_
    refine lv_aload_n hx hb d_M_about_60 rfl (lv_at hl 0 rfl) ?_
    refine kw_get hx hb hg in_M hown hK hP qm hqm em rfl 9 (by decide) (hg _ kg_171) rfl rfl d_M_about_61 ?_
    exact kw_iret hx hb hr hlocks hP hK hS ⟨by rw [kv_M_about, if_pos h1], rfl⟩ d_M_about_64
  by_cases h2 : x = 1
  · refine lv_tableIn (tgt := 65) hx hb d_M_about_1 (by rw [h2]; decide) (by rw [h2]; decide) (by rw [h2]; rfl) (by decide) ?_
    refine lv_aload_n hx hb d_M_about_65 rfl (lv_at hl 0 rfl) ?_
    refine kw_get hx hb hg in_M hown hK hP qm hqm em rfl 10 (by decide) (hg _ kg_172) rfl rfl d_M_about_66 ?_
    exact kw_iret hx hb hr hlocks hP hK hS ⟨by rw [kv_M_about, if_neg h1, if_pos h2], rfl⟩ d_M_about_69
  by_cases h3 : x = 2
  · refine lv_tableIn (tgt := 70) hx hb d_M_about_1 (by rw [h3]; decide) (by rw [h3]; decide) (by rw [h3]; rfl) (by decide) ?_
    refine lv_aload_n hx hb d_M_about_70 rfl (lv_at hl 0 rfl) ?_
    refine kw_get hx hb hg in_M hown hK hP qm hqm em rfl 4 (by decide) (hg _ kg_166) rfl rfl d_M_about_71 ?_
    refine kw_callix (kw_rV (As := []) (rest := []) (q0 := q0) ⟨hx, hb, hml, hown, hg⟩ ⟨callB_of 0 hg (kg_goodG kg_232) rfl rfl rfl (hg _ kg_4) (hg _ kg_229) (by decide +kernel) ⟨by decide, by decide⟩, hg _ kg_230, hg _ kg_231⟩ (c_S_width l hq0 e0 ) hK hP hq0 e0 rfl rfl hl.1 rfl (Nat.le_of_ble_eq_true rfl) d_M_about_74 ⟨Nat.zero_le _, Nat.zero_le _⟩) hA hS (fun H locs hP hS => ?_)
    exact kw_iret hx hb hr hlocks hP hK hS ⟨by rw [kv_M_about, if_neg h1, if_neg h2, if_pos h3], rfl⟩ d_M_about_77
  by_cases h4 : x = 3
  · refine lv_tableIn (tgt := 78) hx hb d_M_about_1 (by rw [h4]; decide) (by rw [h4]; decide) (by rw [h4]; rfl) (by decide) ?_
    refine lv_aload_n hx hb d_M_about_78 rfl (lv_at hl 0 rfl) ?_
    refine kw_get hx hb hg in_M hown hK hP qm hqm em rfl 4 (by decide) (hg _ kg_166) rfl rfl d_M_about_79 ?_
    refine kw_callix (kw_rV (As := []) (rest := []) (q0 := q0) ⟨hx, hb, hml, hown, hg⟩ ⟨callB_of 0 hg (kg_goodG kg_236) rfl rfl rfl (hg _ kg_4) (hg _ kg_233) (by decide +kernel) ⟨by decide, by decide⟩, hg _ kg_234, hg _ kg_235⟩ (c_S_group l hq0 e0 ) hK hP hq0 e0 rfl rfl hl.1 rfl (Nat.le_of_ble_eq_true rfl) d_M_about_82 ⟨Nat.zero_le _, Nat.zero_le _⟩) hA hS (fun H locs hP hS => ?_)
    exact kw_iret hx hb hr hlocks hP hK hS ⟨by rw [kv_M_about, if_neg h1, if_neg h2, if_neg h3, if_pos h4], rfl⟩ d_M_about_85
  by_cases h5 : x = 4
  · refine lv_tableIn (tgt := 86) hx hb d_M_about_1 (by rw [h5]; decide) (by rw [h5]; decide) (by rw [h5]; rfl) (by decide) ?_
    refine lv_aload_n hx hb d_M_about_86 rfl (lv_at hl 0 rfl) ?_
    refine kw_get hx hb hg in_M hown hK hP qm hqm em rfl 4 (by decide) (hg _ kg_166) rfl rfl d_M_about_87 ?_
    refine kw_get hx hb hg in_S hown hK hP q0 hq0 e0 rfl 2 (by decide) (hg _ kg_49) rfl rfl d_M_about_90 ?_
    exact kw_iret hx hb hr hlocks hP hK hS ⟨by rw [kv_M_about, if_neg h1, if_neg h2, if_neg h3, if_neg h4, if_pos h5], rfl⟩ d_M_about_93
  by_cases h6 : x = 5
  · refine lv_tableIn (tgt := 94) hx hb d_M_about_1 (by rw [h6]; decide) (by rw [h6]; decide) (by rw [h6]; rfl) (by decide) ?_
    refine lv_aload_n hx hb d_M_about_94 rfl (lv_at hl 0 rfl) ?_
    refine kw_get hx hb hg in_M hown hK hP qm hqm em rfl 4 (by decide) (hg _ kg_166) rfl rfl d_M_about_95 ?_
    refine kw_get hx hb hg in_S hown hK hP q0 hq0 e0 rfl 3 (by decide) (hg _ kg_51) rfl rfl d_M_about_98 ?_
    exact kw_iret hx hb hr hlocks hP hK hS ⟨by rw [kv_M_about, if_neg h1, if_neg h2, if_neg h3, if_neg h4, if_neg h5, if_pos h6], rfl⟩ d_M_about_101
  by_cases h7 : x = 6
  · refine lv_tableIn (tgt := 102) hx hb d_M_about_1 (by rw [h7]; decide) (by rw [h7]; decide) (by rw [h7]; rfl) (by decide) ?_
    refine lv_aload_n hx hb d_M_about_102 rfl (lv_at hl 0 rfl) ?_
    refine kw_get hx hb hg in_M hown hK hP qm hqm em rfl 11 (by decide) (hg _ kg_173) rfl rfl d_M_about_103 ?_
    exact kw_iret hx hb hr hlocks hP hK hS ⟨by rw [kv_M_about, if_neg h1, if_neg h2, if_neg h3, if_neg h4, if_neg h5, if_neg h6, if_pos h7], rfl⟩ d_M_about_106
  by_cases h8 : x = 7
  · refine lv_tableIn (tgt := 107) hx hb d_M_about_1 (by rw [h8]; decide) (by rw [h8]; decide) (by rw [h8]; rfl) (by decide) ?_
    refine lv_aload_n hx hb d_M_about_107 rfl (lv_at hl 0 rfl) ?_
    refine kw_get hx hb hg in_M hown hK hP qm hqm em rfl 12 (by decide) (hg _ kg_174) rfl rfl d_M_about_108 ?_
    exact kw_iret hx hb hr hlocks hP hK hS ⟨by rw [kv_M_about, if_neg h1, if_neg h2, if_neg h3, if_neg h4, if_neg h5, if_neg h6, if_neg h7, if_pos h8], rfl⟩ d_M_about_111
  by_cases h9 : x = 8
  · refine lv_tableIn (tgt := 112) hx hb d_M_about_1 (by rw [h9]; decide) (by rw [h9]; decide) (by rw [h9]; rfl) (by decide) ?_
    refine lv_aload_n hx hb d_M_about_112 rfl (lv_at hl 0 rfl) ?_
    refine kw_get hx hb hg in_M hown hK hP qm hqm em rfl 8 (by decide) (hg _ kg_170) rfl rfl d_M_about_113 ?_
    exact kw_iret hx hb hr hlocks hP hK hS ⟨by rw [kv_M_about, if_neg h1, if_neg h2, if_neg h3, if_neg h4, if_neg h5, if_neg h6, if_neg h7, if_neg h8, if_pos h9], rfl⟩ d_M_about_116
  by_cases h10 : x = 9
  · refine lv_tableIn (tgt := 117) hx hb d_M_about_1 (by rw [h10]; decide) (by rw [h10]; decide) (by rw [h10]; rfl) (by decide) ?_
    refine lv_aload_n hx hb d_M_about_117 rfl (lv_at hl 0 rfl) ?_
    refine kw_get hx hb hg in_M hown hK hP qm hqm em rfl 7 (by decide) (hg _ kg_169) rfl rfl d_M_about_118 ?_
    exact kw_iret hx hb hr hlocks hP hK hS ⟨by rw [kv_M_about, if_neg h1, if_neg h2, if_neg h3, if_neg h4, if_neg h5, if_neg h6, if_neg h7, if_neg h8, if_neg h9, if_pos h10], rfl⟩ d_M_about_121
  by_cases h11 : x = 10
  · refine lv_tableIn (tgt := 122) hx hb d_M_about_1 (by rw [h11]; decide) (by rw [h11]; decide) (by rw [h11]; rfl) (by decide) ?_
    refine lv_aload_n hx hb d_M_about_122 rfl (lv_at hl 0 rfl) ?_
    refine kw_get hx hb hg in_M hown hK hP qm hqm em rfl 13 (by decide) (hg _ kg_175) rfl rfl d_M_about_123 ?_
    exact kw_iret hx hb hr hlocks hP hK hS ⟨by rw [kv_M_about, if_neg h1, if_neg h2, if_neg h3, if_neg h4, if_neg h5, if_neg h6, if_neg h7, if_neg h8, if_neg h9, if_neg h10, if_pos h11], rfl⟩ d_M_about_126
  refine kw_tbl (tgt := 127) (N := 11) hx hb d_M_about_1 rfl (by decide) (fun i hi => match i, hi with | 0, _ => Or.inr (lv_neT h1 rfl) | 1, _ => Or.inr (lv_neT h2 rfl) | 2, _ => Or.inr (lv_neT h3 rfl) | 3, _ => Or.inr (lv_neT h4 rfl) | 4, _ => Or.inr (lv_neT h5 rfl) | 5, _ => Or.inr (lv_neT h6 rfl) | 6, _ => Or.inr (lv_neT h7 rfl) | 7, _ => Or.inr (lv_neT h8 rfl) | 8, _ => Or.inr (lv_neT h9 rfl) | 9, _ => Or.inr (lv_neT h10 rfl) | 10, _ => Or.inr (lv_neT h11 rfl) | z + 11, h => absurd h (by omega)) ?_
  refine lv_iconst (v := (-1)) hx hb d_M_about_127 (by decide) ?_
  exact kw_iret hx hb hr hlocks hP hK hS ⟨by rw [kv_M_about, if_neg h1, if_neg h2, if_neg h3, if_neg h4, if_neg h5, if_neg h6, if_neg h7, if_neg h8, if_neg h9, if_neg h10, if_neg h11], rfl⟩ d_M_about_128
