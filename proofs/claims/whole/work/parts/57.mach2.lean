/-! LaneMachine: ways back of what may throw; configure -/
set_option maxRecDepth 100000 in
set_option maxHeartbeats 4000000 in
theorem c_S_configure (l : Launch) {D : va_G} {tys : List (ClassId × FieldType)} {ad : Nat → Nat} {n : Nat} {cs : Nat → va_E} (hJ : kw_J ad n) {q0 : Nat} {wp : Int32} {gp : Int32} {ln : Int32} {sa : Int32} {x : Int32} {y : Int32} (hq0 : q0 < n) (e0 : cs q0 = .inr (2, [.int wp, .int gp, .int ln, .int sa]))  : kw_mv l y_S_configure w_S_configure (kr 1) D kc tys ad n cs [.ref (ad q0), .int x, .int y] (fun c9 => c9 = va_up cs q0 (.inr (2, [.int (x - x / 4 * 4), .int (x / 4), .int (if 0 < (if y < (kv_S_most (x - x / 4 * 4) (x / 4)) then y else (kv_S_most (x - x / 4 * 4) (x / 4))) then (if y < (kv_S_most (x - x / 4 * 4) (x / 4)) then y else (kv_S_most (x - x / 4 * 4) (x / 4))) else 0), .int 0]))) := by
  refine kw_of (cc := b_S_configure) (maxL := 3) (ret := none) (by decide) rfl (Nat.le_of_ble_eq_true rfl) ?_
  intro p e s m below meth c ls hx hb hr hml hown hts hlocks hP hK hl
  have hg : ∀ w9 ∈ kg_G, w9.before [.ref (ad q0), .int x, .int y].toArray s = true := fun w9 h9 => hts w9 (List.mem_cons_of_mem _ h9)
  have hown : s.vm.findClass "LaneMachine$Setting" = some m.cls := hown
  have hA : ∀ k, k < n → kw_A ad n (ad k) := fun k hk => ⟨k, hk, rfl⟩
  have hS : va_S (kw_A ad n) s.heap s.heap [] := va_S.rf
  have hl : lv_has ls 3 [(0, .ref (ad q0)), (1, .int x), (2, .int y)] := hl
  refine lv_aload_n hx hb d_S_configure_0 rfl (lv_at hl 0 rfl) ?_
  refine lv_iload_n hx hb d_S_configure_1 rfl (lv_at hl 1 rfl) ?_
  refine lv_iconst (v := 4) hx hb d_S_configure_2 (by decide) ?_
  refine lv_irem hx hb d_S_configure_3 (by decide) ?_
  refine kw_put (ty := .int) hx hb hg in_S t_S ty_S nm_S hown hK hP hJ hA hS q0 hq0 e0 rfl 0 (by decide) (hg _ kg_45) rfl rfl (by decide +kernel) rfl rfl (Nat.le_of_ble_eq_true rfl) d_S_configure_4 (fun H locs hP hS => ?_)
  have e0 : (va_up cs q0 (.inr (2, [.int (x - x / 4 * 4), .int gp, .int ln, .int sa]))) q0 = .inr (2, [.int (x - x / 4 * 4), .int gp, .int ln, .int sa]) := va_up_self _ _ _
  refine lv_aload_n hx hb d_S_configure_7 rfl (lv_at hl 0 rfl) ?_
  refine lv_iload_n hx hb d_S_configure_8 rfl (lv_at hl 1 rfl) ?_
  refine lv_iconst (v := 4) hx hb d_S_configure_9 (by decide) ?_
  refine lv_idiv hx hb d_S_configure_10 (by decide) ?_
  refine kw_put (ty := .int) hx hb hg in_S t_S ty_S nm_S hown hK hP hJ hA hS q0 hq0 e0 rfl 1 (by decide) (hg _ kg_46) rfl rfl (by decide +kernel) rfl rfl (Nat.le_of_ble_eq_true rfl) d_S_configure_11 (fun H locs hP hS => ?_)
  rw [bx_uu] at hP
  have e0 : (va_up cs q0 (.inr (2, [.int (x - x / 4 * 4), .int (x / 4), .int ln, .int sa]))) q0 = .inr (2, [.int (x - x / 4 * 4), .int (x / 4), .int ln, .int sa]) := va_up_self _ _ _
  refine lv_aload_n hx hb d_S_configure_14 rfl (lv_at hl 0 rfl) ?_
  refine lv_iconst (v := 0) hx hb d_S_configure_15 (by decide) ?_
  refine lv_aload_n hx hb d_S_configure_16 rfl (lv_at hl 0 rfl) ?_
  refine kw_callix (kw_rV (As := []) (rest := [.int 0, .ref (ad q0)]) (q0 := q0) ⟨hx, hb, hml, hown, hg⟩ ⟨callB_of 0 hg (kg_goodG kg_534) rfl rfl rfl (hg _ kg_4) (hg _ kg_559) (by decide +kernel) ⟨by decide, by decide⟩, hg _ kg_532, hg _ kg_533⟩ (c_S_most l hq0 e0 ) hK hP hq0 e0 rfl rfl hl.1 rfl (Nat.le_of_ble_eq_true rfl) d_S_configure_17 ⟨Nat.zero_le _, Nat.zero_le _⟩) hA hS (fun H locs hP hS => ?_)
  refine lv_iload_n hx hb d_S_configure_20 rfl (lv_at hl 2 rfl) ?_
  refine va_mmin hx hb (hml.trans hl.1.symm) hown (hg _ kg_560) (hg _ kg_22) (hg _ kg_2) (hg _ kg_23) (by decide) (Nat.le_of_ble_eq_true rfl) (Nat.zero_le _) (Nat.zero_le _) d_S_configure_21 ?_
  refine va_mmax hx hb (hml.trans hl.1.symm) hown (hg _ kg_561) (hg _ kg_25) (hg _ kg_2) (hg _ kg_26) (by decide) (Nat.le_of_ble_eq_true rfl) (Nat.zero_le _) (Nat.zero_le _) d_S_configure_24 ?_
  refine kw_put (ty := .int) hx hb hg in_S t_S ty_S nm_S hown hK hP hJ hA hS q0 hq0 e0 rfl 2 (by decide) (hg _ kg_48) rfl rfl (by decide +kernel) rfl rfl (Nat.le_of_ble_eq_true rfl) d_S_configure_27 (fun H locs hP hS => ?_)
  rw [bx_uu] at hP
  have e0 : (va_up cs q0 (.inr (2, [.int (x - x / 4 * 4), .int (x / 4), .int (if 0 < (if y < (kv_S_most (x - x / 4 * 4) (x / 4)) then y else (kv_S_most (x - x / 4 * 4) (x / 4))) then (if y < (kv_S_most (x - x / 4 * 4) (x / 4)) then y else (kv_S_most (x - x / 4 * 4) (x / 4))) else 0), .int sa]))) q0 = .inr (2, [.int (x - x / 4 * 4), .int (x / 4), .int (if 0 < (if y < (kv_S_most (x - x / 4 * 4) (x / 4)) then y else (kv_S_most (x - x / 4 * 4) (x / 4))) then (if y < (kv_S_most (x - x / 4 * 4) (x / 4)) then y else (kv_S_most (x - x / 4 * 4) (x / 4))) else 0), .int sa]) := va_up_self _ _ _
  refine lv_aload_n hx hb d_S_configure_30 rfl (lv_at hl 0 rfl) ?_
  refine lv_iconst (v := 0) hx hb d_S_configure_31 (by decide) ?_
  refine kw_put (ty := .int) hx hb hg in_S t_S ty_S nm_S hown hK hP hJ hA hS q0 hq0 e0 rfl 3 (by decide) (hg _ kg_52) rfl rfl (by decide +kernel) rfl rfl (Nat.le_of_ble_eq_true rfl) d_S_configure_32 (fun H locs hP hS => ?_)
  rw [bx_uu] at hP
  have e0 : (va_up cs q0 (.inr (2, [.int (x - x / 4 * 4), .int (x / 4), .int (if 0 < (if y < (kv_S_most (x - x / 4 * 4) (x / 4)) then y else (kv_S_most (x - x / 4 * 4) (x / 4))) then (if y < (kv_S_most (x - x / 4 * 4) (x / 4)) then y else (kv_S_most (x - x / 4 * 4) (x / 4))) else 0), .int 0]))) q0 = .inr (2, [.int (x - x / 4 * 4), .int (x / 4), .int (if 0 < (if y < (kv_S_most (x - x / 4 * 4) (x / 4)) then y else (kv_S_most (x - x / 4 * 4) (x / 4))) then (if y < (kv_S_most (x - x / 4 * 4) (x / 4)) then y else (kv_S_most (x - x / 4 * 4) (x / 4))) else 0), .int 0]) := va_up_self _ _ _
  exact kw_vret hx hb hr hlocks hP hK hS (rfl) d_S_configure_35

set_option maxRecDepth 100000 in
set_option maxHeartbeats 4000000 in
theorem c_M_limit (l : Launch) {D : va_G} {ad : Nat → Nat} {n : Nat} {cs : Nat → va_E} (hJ : kw_J ad n) {cI : ClassId} {cB : ClassId} {cJ : ClassId} {cQ : ClassId} {cW : ClassId} {qm : Nat} {qx : Nat} {q0 : Nat} {q2 : Nat} {q4 : Nat} {qp : Nat} {qw : Nat} {la : Nat} {ma : Nat} {qu : Nat} {st : Nat} {bo : Nat} {nx : Int32} {cy : Int32} {sd : Int32} {v : Nat} (hqm : qm < n) (em : cs qm = .inr (4, [.int (nI la), .ref (ad qx), .ref (ad q2), .ref (ad q4), .ref (ad q0), .ref (ad qp), .ref (ad qw), .int (nI ma), .int (nI qu), .int (nI st), .int nx, .int (nI bo), .int cy, .int sd])) (hv : v ≤ 128) (hst : ¬ nI st = 0) (hqu : nI qu ≤ 0) : kw_mi l y_M_limit w_M_limit (kr 0) D kc (kt cI cB cJ cQ cW) ad n cs [.ref (ad qm), .int (nI v)] (fun r9 c9 => r9 = 1 ∧ c9 = va_up cs qm (.inr (4, [.int (nI la), .ref (ad qx), .ref (ad q2), .ref (ad q4), .ref (ad q0), .ref (ad qp), .ref (ad qw), .int (nI ma), .int (nI qu), .int (nI st), .int nx, .int (nI v), .int cy, .int sd]))) := by
  refine kw_of (cc := b_M_limit) (maxL := 2) (ret := (some .boolean)) (by decide) rfl (Nat.le_of_ble_eq_true rfl) ?_
  intro p e s m below meth c ls hx hb hr hml hown hts hlocks hP hK hl
  have hg : ∀ w9 ∈ kg_G, w9.before [.ref (ad qm), .int (nI v)].toArray s = true := fun w9 h9 => hts w9 (List.mem_cons_of_mem _ h9)
  have hown : s.vm.findClass "LaneMachine" = some m.cls := hown
  have hA : ∀ k, k < n → kw_A ad n (ad k) := fun k hk => ⟨k, hk, rfl⟩
  have hS : va_S (kw_A ad n) s.heap s.heap [] := va_S.rf
  have hl : lv_has ls 2 [(0, .ref (ad qm)), (1, .int (nI v))] := hl
  refine lv_iload_n hx hb d_M_limit_0 rfl (lv_at hl 1 rfl) ?_
  refine lv_if_lt (tgt := 11) hx hb d_M_limit_1 (by decide) (fun h1 => absurd h1 (fun z9 => absurd ((nI_ltI (b := 0) (by omega) (by omega)).mp z9) (Nat.not_lt_zero _))) (fun _ => ?_)
  refine lv_iload_n hx hb d_M_limit_4 rfl (lv_at hl 1 rfl) ?_
  refine lv_sipush (v := 128) hx hb d_M_limit_5 (by decide) ?_
  refine lv_icmp_le (tgt := 19) hx hb d_M_limit_8 (by decide) (fun _ => ?_) (fun h2 => absurd (nI_le (b := 128) (by omega) (by omega)) h2)
  refine lv_aload_n hx hb d_M_limit_19 rfl (lv_at hl 0 rfl) ?_
  refine kw_get hx hb hg in_M hown hK hP qm hqm em rfl 9 (by decide) (hg _ kg_171) rfl rfl d_M_limit_20 ?_
  refine lv_if_eq (tgt := 33) hx hb d_M_limit_23 (by decide) (fun h3 => absurd h3 (hst)) (fun _ => ?_)
  refine lv_aload_n hx hb d_M_limit_26 rfl (lv_at hl 0 rfl) ?_
  refine kw_get hx hb hg in_M hown hK hP qm hqm em rfl 8 (by decide) (hg _ kg_170) rfl rfl d_M_limit_27 ?_
  refine lv_if_le (tgt := 41) hx hb d_M_limit_30 (by decide) (fun _ => ?_) (fun h4 => absurd (hqu) h4)
  refine lv_aload_n hx hb d_M_limit_41 rfl (lv_at hl 0 rfl) ?_
  refine lv_iload_n hx hb d_M_limit_42 rfl (lv_at hl 1 rfl) ?_
  refine kw_put (ty := .int) hx hb hg in_M t_M ty_M nm_M hown hK hP hJ hA hS qm hqm em rfl 11 (by decide) (hg _ kg_173) rfl rfl (by decide +kernel) rfl rfl (Nat.le_of_ble_eq_true rfl) d_M_limit_43 (fun H locs hP hS => ?_)
  have em : (va_up cs qm (.inr (4, [.int (nI la), .ref (ad qx), .ref (ad q2), .ref (ad q4), .ref (ad q0), .ref (ad qp), .ref (ad qw), .int (nI ma), .int (nI qu), .int (nI st), .int nx, .int (nI v), .int cy, .int sd]))) qm = .inr (4, [.int (nI la), .ref (ad qx), .ref (ad q2), .ref (ad q4), .ref (ad q0), .ref (ad qp), .ref (ad qw), .int (nI ma), .int (nI qu), .int (nI st), .int nx, .int (nI v), .int cy, .int sd]) := va_up_self _ _ _
  refine lv_iconst (v := 1) hx hb d_M_limit_46 (by decide) ?_
  exact kw_zret hx hb hr hlocks hP hK hS (Or.inr rfl) ⟨rfl, rfl⟩ d_M_limit_47

set_option maxRecDepth 100000 in
set_option maxHeartbeats 4000000 in
theorem c_M_resume (l : Launch) {D : va_G} {ad : Nat → Nat} {n : Nat} {cs : Nat → va_E} (hJ : kw_J ad n) {cI : ClassId} {cB : ClassId} {cJ : ClassId} {cQ : ClassId} {cW : ClassId} {qm : Nat} {qx : Nat} {q0 : Nat} {q2 : Nat} {q4 : Nat} {qp : Nat} {qw : Nat} {la : Nat} {ma : Nat} {qu : Nat} {st : Nat} {bo : Nat} {nx : Int32} {cy : Int32} {sd : Int32} {wp : Int32} {gp : Int32} {ln : Int32} {sa : Int32} (hqm : qm < n) (em : cs qm = .inr (4, [.int (nI la), .ref (ad qx), .ref (ad q2), .ref (ad q4), .ref (ad q0), .ref (ad qp), .ref (ad qw), .int (nI ma), .int (nI qu), .int (nI st), .int nx, .int (nI bo), .int cy, .int sd])) (hq0 : q0 < n) (e0 : cs q0 = .inr (2, [.int wp, .int gp, .int ln, .int sa])) (hst : nI st = 2) (hqu : nI qu ≤ 0) (hmq : qm ≠ q0) : kw_mi l y_M_resume w_M_resume (kr 0) D kc (kt cI cB cJ cQ cW) ad n cs [.ref (ad qm)] (fun r9 c9 => r9 = sa ∧ c9 = va_up cs qm (.inr (4, [.int (nI la), .ref (ad qx), .ref (ad q2), .ref (ad q4), .ref (ad q0), .ref (ad qp), .ref (ad qw), .int (nI ma), .int (nI qu), .int 0, .int nx, .int (nI bo), .int cy, .int sd]))) := by
  refine kw_of (cc := b_M_resume) (maxL := 1) (ret := (some .int)) (by decide) rfl (Nat.le_of_ble_eq_true rfl) ?_
  intro p e s m below meth c ls hx hb hr hml hown hts hlocks hP hK hl
  have hg : ∀ w9 ∈ kg_G, w9.before [.ref (ad qm)].toArray s = true := fun w9 h9 => hts w9 (List.mem_cons_of_mem _ h9)
  have hown : s.vm.findClass "LaneMachine" = some m.cls := hown
  have hA : ∀ k, k < n → kw_A ad n (ad k) := fun k hk => ⟨k, hk, rfl⟩
  have hS : va_S (kw_A ad n) s.heap s.heap [] := va_S.rf
  have hl : lv_has ls 1 [(0, .ref (ad qm))] := hl
  refine lv_aload_n hx hb d_M_resume_0 rfl (lv_at hl 0 rfl) ?_
  refine kw_get hx hb hg in_M hown hK hP qm hqm em rfl 9 (by decide) (hg _ kg_171) rfl rfl d_M_resume_1 ?_
  refine lv_iconst (v := 2) hx hb d_M_resume_4 (by decide) ?_
  refine lv_icmp_ne (tgt := 15) hx hb d_M_resume_5 (by decide) (fun h1 => absurd (hst) h1) (fun _ => ?_)
  refine lv_aload_n hx hb d_M_resume_8 rfl (lv_at hl 0 rfl) ?_
  refine kw_get hx hb hg in_M hown hK hP qm hqm em rfl 8 (by decide) (hg _ kg_170) rfl rfl d_M_resume_9 ?_
  refine lv_if_le (tgt := 23) hx hb d_M_resume_12 (by decide) (fun _ => ?_) (fun h2 => absurd (hqu) h2)
  refine lv_aload_n hx hb d_M_resume_23 rfl (lv_at hl 0 rfl) ?_
  refine lv_iconst (v := 0) hx hb d_M_resume_24 (by decide) ?_
  refine kw_put (ty := .int) hx hb hg in_M t_M ty_M nm_M hown hK hP hJ hA hS qm hqm em rfl 9 (by decide) (hg _ kg_171) rfl rfl (by decide +kernel) rfl rfl (Nat.le_of_ble_eq_true rfl) d_M_resume_25 (fun H locs hP hS => ?_)
  have em : (va_up cs qm (.inr (4, [.int (nI la), .ref (ad qx), .ref (ad q2), .ref (ad q4), .ref (ad q0), .ref (ad qp), .ref (ad qw), .int (nI ma), .int (nI qu), .int 0, .int nx, .int (nI bo), .int cy, .int sd]))) qm = .inr (4, [.int (nI la), .ref (ad qx), .ref (ad q2), .ref (ad q4), .ref (ad q0), .ref (ad qp), .ref (ad qw), .int (nI ma), .int (nI qu), .int 0, .int nx, .int (nI bo), .int cy, .int sd]) := va_up_self _ _ _
  have e0 : (va_up cs qm (.inr (4, [.int (nI la), .ref (ad qx), .ref (ad q2), .ref (ad q4), .ref (ad q0), .ref (ad qp), .ref (ad qw), .int (nI ma), .int (nI qu), .int 0, .int nx, .int (nI bo), .int cy, .int sd]))) q0 = .inr (2, [.int wp, .int gp, .int ln, .int sa]) := (va_up_ne _ _ (hmq.symm)).trans e0
  refine lv_aload_n hx hb d_M_resume_28 rfl (lv_at hl 0 rfl) ?_
  refine kw_get hx hb hg in_M hown hK hP qm hqm em rfl 4 (by decide) (hg _ kg_166) rfl rfl d_M_resume_29 ?_
  refine kw_get hx hb hg in_S hown hK hP q0 hq0 e0 rfl 3 (by decide) (hg _ kg_51) rfl rfl d_M_resume_32 ?_
  exact kw_iret hx hb hr hlocks hP hK hS ⟨rfl, rfl⟩ d_M_resume_35

set_option maxRecDepth 100000 in
set_option maxHeartbeats 4000000 in
theorem c_M_go (l : Launch) {D : va_G} {ad : Nat → Nat} {n : Nat} {cs : Nat → va_E} (hJ : kw_J ad n) {cI : ClassId} {cB : ClassId} {cJ : ClassId} {cQ : ClassId} {cW : ClassId} {qm : Nat} {qx : Nat} {q0 : Nat} {q2 : Nat} {q4 : Nat} {qp : Nat} {qw : Nat} {la : Nat} {ma : Nat} {qu : Nat} {st : Nat} {bo : Nat} {nx : Int32} {cy : Int32} {sd : Int32} {wp : Int32} {gp : Int32} {ln : Int32} {sa : Int32} {v : Nat} (hqm : qm < n) (em : cs qm = .inr (4, [.int (nI la), .ref (ad qx), .ref (ad q2), .ref (ad q4), .ref (ad q0), .ref (ad qp), .ref (ad qw), .int (nI ma), .int (nI qu), .int (nI st), .int nx, .int (nI bo), .int cy, .int sd])) (hq0 : q0 < n) (e0 : cs q0 = .inr (2, [.int wp, .int gp, .int ln, .int sa])) (hv : v < ma) (hma : ma ≤ 40) (hst : ¬ nI st = 0) (hqu : nI qu ≤ 0) (hmq : qm ≠ q0) : kw_mi l y_M_go w_M_go (kr 0) D kc (kt cI cB cJ cQ cW) ad n cs [.ref (ad qm), .int (nI v)] (fun r9 c9 => r9 = nI v ∧ c9 = va_up (va_up (va_up cs qm (.inr (4, [.int (nI la), .ref (ad qx), .ref (ad q2), .ref (ad q4), .ref (ad q0), .ref (ad qp), .ref (ad qw), .int (nI ma), .int (nI qu), .int (nI st), .int (nI v), .int (nI bo), .int cy, .int sd]))) q0 (.inr (2, [.int wp, .int gp, .int ln, .int 0]))) qm (.inr (4, [.int (nI la), .ref (ad qx), .ref (ad q2), .ref (ad q4), .ref (ad q0), .ref (ad qp), .ref (ad qw), .int (nI ma), .int (nI qu), .int 0, .int (nI v), .int (nI bo), .int cy, .int sd]))) := by
  refine kw_of (cc := b_M_go) (maxL := 2) (ret := (some .int)) (by decide) rfl (Nat.le_of_ble_eq_true rfl) ?_
  intro p e s m below meth c ls hx hb hr hml hown hts hlocks hP hK hl
  have hg : ∀ w9 ∈ kg_G, w9.before [.ref (ad qm), .int (nI v)].toArray s = true := fun w9 h9 => hts w9 (List.mem_cons_of_mem _ h9)
  have hown : s.vm.findClass "LaneMachine" = some m.cls := hown
  have hA : ∀ k, k < n → kw_A ad n (ad k) := fun k hk => ⟨k, hk, rfl⟩
  have hS : va_S (kw_A ad n) s.heap s.heap [] := va_S.rf
  have hl : lv_has ls 2 [(0, .ref (ad qm)), (1, .int (nI v))] := hl
  refine lv_iload_n hx hb d_M_go_0 rfl (lv_at hl 1 rfl) ?_
  refine lv_if_lt (tgt := 12) hx hb d_M_go_1 (by decide) (fun h1 => absurd h1 (fun z9 => absurd ((nI_ltI (b := 0) (by omega) (by omega)).mp z9) (Nat.not_lt_zero _))) (fun _ => ?_)
  refine lv_iload_n hx hb d_M_go_4 rfl (lv_at hl 1 rfl) ?_
  refine lv_aload_n hx hb d_M_go_5 rfl (lv_at hl 0 rfl) ?_
  refine kw_get hx hb hg in_M hown hK hP qm hqm em rfl 7 (by decide) (hg _ kg_169) rfl rfl d_M_go_6 ?_
  refine lv_icmp_lt (tgt := 20) hx hb d_M_go_9 (by decide) (fun _ => ?_) (fun h2 => absurd ((nI_ltI (by omega) (by omega)).mpr hv) h2)
  refine lv_aload_n hx hb d_M_go_20 rfl (lv_at hl 0 rfl) ?_
  refine kw_get hx hb hg in_M hown hK hP qm hqm em rfl 9 (by decide) (hg _ kg_171) rfl rfl d_M_go_21 ?_
  refine lv_if_eq (tgt := 34) hx hb d_M_go_24 (by decide) (fun h3 => absurd h3 (hst)) (fun _ => ?_)
  refine lv_aload_n hx hb d_M_go_27 rfl (lv_at hl 0 rfl) ?_
  refine kw_get hx hb hg in_M hown hK hP qm hqm em rfl 8 (by decide) (hg _ kg_170) rfl rfl d_M_go_28 ?_
  refine lv_if_le (tgt := 42) hx hb d_M_go_31 (by decide) (fun _ => ?_) (fun h4 => absurd (hqu) h4)
  refine lv_aload_n hx hb d_M_go_42 rfl (lv_at hl 0 rfl) ?_
  refine lv_iload_n hx hb d_M_go_43 rfl (lv_at hl 1 rfl) ?_
  refine kw_put (ty := .int) hx hb hg in_M t_M ty_M nm_M hown hK hP hJ hA hS qm hqm em rfl 10 (by decide) (hg _ kg_172) rfl rfl (by decide +kernel) rfl rfl (Nat.le_of_ble_eq_true rfl) d_M_go_44 (fun H locs hP hS => ?_)
  have em : (va_up cs qm (.inr (4, [.int (nI la), .ref (ad qx), .ref (ad q2), .ref (ad q4), .ref (ad q0), .ref (ad qp), .ref (ad qw), .int (nI ma), .int (nI qu), .int (nI st), .int (nI v), .int (nI bo), .int cy, .int sd]))) qm = .inr (4, [.int (nI la), .ref (ad qx), .ref (ad q2), .ref (ad q4), .ref (ad q0), .ref (ad qp), .ref (ad qw), .int (nI ma), .int (nI qu), .int (nI st), .int (nI v), .int (nI bo), .int cy, .int sd]) := va_up_self _ _ _
  have e0 : (va_up cs qm (.inr (4, [.int (nI la), .ref (ad qx), .ref (ad q2), .ref (ad q4), .ref (ad q0), .ref (ad qp), .ref (ad qw), .int (nI ma), .int (nI qu), .int (nI st), .int (nI v), .int (nI bo), .int cy, .int sd]))) q0 = .inr (2, [.int wp, .int gp, .int ln, .int sa]) := (va_up_ne _ _ (hmq.symm)).trans e0
  refine lv_aload_n hx hb d_M_go_47 rfl (lv_at hl 0 rfl) ?_
  refine kw_get hx hb hg in_M hown hK hP qm hqm em rfl 4 (by decide) (hg _ kg_166) rfl rfl d_M_go_48 ?_
  refine lv_iconst (v := 0) hx hb d_M_go_51 (by decide) ?_
  refine kw_put (ty := .int) hx hb hg in_S t_S ty_S nm_S hown hK hP hJ hA hS q0 hq0 e0 rfl 3 (by decide) (hg _ kg_51) rfl rfl (by decide +kernel) rfl rfl (Nat.le_of_ble_eq_true rfl) d_M_go_52 (fun H locs hP hS => ?_)
  have em : (va_up (va_up cs qm (.inr (4, [.int (nI la), .ref (ad qx), .ref (ad q2), .ref (ad q4), .ref (ad q0), .ref (ad qp), .ref (ad qw), .int (nI ma), .int (nI qu), .int (nI st), .int (nI v), .int (nI bo), .int cy, .int sd]))) q0 (.inr (2, [.int wp, .int gp, .int ln, .int 0]))) qm = .inr (4, [.int (nI la), .ref (ad qx), .ref (ad q2), .ref (ad q4), .ref (ad q0), .ref (ad qp), .ref (ad qw), .int (nI ma), .int (nI qu), .int (nI st), .int (nI v), .int (nI bo), .int cy, .int sd]) := (va_up_ne _ _ (hmq)).trans em
  have e0 : (va_up (va_up cs qm (.inr (4, [.int (nI la), .ref (ad qx), .ref (ad q2), .ref (ad q4), .ref (ad q0), .ref (ad qp), .ref (ad qw), .int (nI ma), .int (nI qu), .int (nI st), .int (nI v), .int (nI bo), .int cy, .int sd]))) q0 (.inr (2, [.int wp, .int gp, .int ln, .int 0]))) q0 = .inr (2, [.int wp, .int gp, .int ln, .int 0]) := va_up_self _ _ _
  refine lv_aload_n hx hb d_M_go_55 rfl (lv_at hl 0 rfl) ?_
  refine lv_iconst (v := 0) hx hb d_M_go_56 (by decide) ?_
  refine kw_put (ty := .int) hx hb hg in_M t_M ty_M nm_M hown hK hP hJ hA hS qm hqm em rfl 9 (by decide) (hg _ kg_171) rfl rfl (by decide +kernel) rfl rfl (Nat.le_of_ble_eq_true rfl) d_M_go_57 (fun H locs hP hS => ?_)
  have em : (va_up (va_up (va_up cs qm (.inr (4, [.int (nI la), .ref (ad qx), .ref (ad q2), .ref (ad q4), .ref (ad q0), .ref (ad qp), .ref (ad qw), .int (nI ma), .int (nI qu), .int (nI st), .int (nI v), .int (nI bo), .int cy, .int sd]))) q0 (.inr (2, [.int wp, .int gp, .int ln, .int 0]))) qm (.inr (4, [.int (nI la), .ref (ad qx), .ref (ad q2), .ref (ad q4), .ref (ad q0), .ref (ad qp), .ref (ad qw), .int (nI ma), .int (nI qu), .int 0, .int (nI v), .int (nI bo), .int cy, .int sd]))) qm = .inr (4, [.int (nI la), .ref (ad qx), .ref (ad q2), .ref (ad q4), .ref (ad q0), .ref (ad qp), .ref (ad qw), .int (nI ma), .int (nI qu), .int 0, .int (nI v), .int (nI bo), .int cy, .int sd]) := va_up_self _ _ _
  have e0 : (va_up (va_up (va_up cs qm (.inr (4, [.int (nI la), .ref (ad qx), .ref (ad q2), .ref (ad q4), .ref (ad q0), .ref (ad qp), .ref (ad qw), .int (nI ma), .int (nI qu), .int (nI st), .int (nI v), .int (nI bo), .int cy, .int sd]))) q0 (.inr (2, [.int wp, .int gp, .int ln, .int 0]))) qm (.inr (4, [.int (nI la), .ref (ad qx), .ref (ad q2), .ref (ad q4), .ref (ad q0), .ref (ad qp), .ref (ad qw), .int (nI ma), .int (nI qu), .int 0, .int (nI v), .int (nI bo), .int cy, .int sd]))) q0 = .inr (2, [.int wp, .int gp, .int ln, .int 0]) := (va_up_ne _ _ (hmq.symm)).trans e0
  refine lv_iload_n hx hb d_M_go_60 rfl (lv_at hl 1 rfl) ?_
  exact kw_iret hx hb hr hlocks hP hK hS ⟨rfl, rfl⟩ d_M_go_61

set_option maxRecDepth 100000 in
set_option maxHeartbeats 4000000 in
theorem c_M_poke (l : Launch) {D : va_G} {ad : Nat → Nat} {n : Nat} {cs : Nat → va_E} (hJ : kw_J ad n) {cI : ClassId} {cB : ClassId} {cJ : ClassId} {cQ : ClassId} {cW : ClassId} {qm : Nat} {qx : Nat} {q0 : Nat} {q2 : Nat} {q4 : Nat} {q5 : Nat} {qp : Nat} {qw : Nat} {la : Nat} {ma : Nat} {qu : Nat} {st : Nat} {bo : Nat} {nx : Int32} {cy : Int32} {sd : Int32} {y : Int32} {g : Nat → Int32} {k : Nat} (hqm : qm < n) (em : cs qm = .inr (4, [.int (nI la), .ref (ad qx), .ref (ad q2), .ref (ad q4), .ref (ad q0), .ref (ad qp), .ref (ad qw), .int (nI ma), .int (nI qu), .int (nI st), .int nx, .int (nI bo), .int cy, .int sd])) (hq4 : q4 < n) (e4 : cs q4 = .inr (0, [.ref (ad q5)])) (hq5 : q5 < n) (e5 : cs q5 = .inl (cB, 128, .inl (g))) (hk : k < 128) (hy1 : ¬ y < -128) (hy2 : y ≤ 255) : kw_mi l y_M_poke w_M_poke (kr 1) D kc (kt cI cB cJ cQ cW) ad n cs [.ref (ad qm), .int (nI k), .int y] (fun r9 c9 => r9 = 1 ∧ c9 = va_up cs q5 (.inl (cB, 128, .inl (kv_write g 128 (nI k) 1 y)))) := by
  refine kw_of (cc := b_M_poke) (maxL := 3) (ret := (some .boolean)) (by decide) rfl (Nat.le_of_ble_eq_true rfl) ?_
  intro p e s m below meth c ls hx hb hr hml hown hts hlocks hP hK hl
  have hg : ∀ w9 ∈ kg_G, w9.before [.ref (ad qm), .int (nI k), .int y].toArray s = true := fun w9 h9 => hts w9 (List.mem_cons_of_mem _ h9)
  have hown : s.vm.findClass "LaneMachine" = some m.cls := hown
  have hA : ∀ k, k < n → kw_A ad n (ad k) := fun k hk => ⟨k, hk, rfl⟩
  have hS : va_S (kw_A ad n) s.heap s.heap [] := va_S.rf
  have hl : lv_has ls 3 [(0, .ref (ad qm)), (1, .int (nI k)), (2, .int y)] := hl
  refine lv_iload_n hx hb d_M_poke_0 rfl (lv_at hl 1 rfl) ?_
  refine lv_if_lt (tgt := 24) hx hb d_M_poke_1 (by decide) (fun h1 => absurd h1 (fun z9 => absurd ((nI_ltI (b := 0) (by omega) (by omega)).mp z9) (Nat.not_lt_zero _))) (fun _ => ?_)
  refine lv_iload_n hx hb d_M_poke_4 rfl (lv_at hl 1 rfl) ?_
  refine lv_sipush (v := 128) hx hb d_M_poke_5 (by decide) ?_
  refine lv_icmp_ge (tgt := 24) hx hb d_M_poke_8 (by decide) (fun h2 => absurd h2 (fun z9 => absurd ((nI_leI (a := 128) (by omega) (by omega)).mp z9) (by omega))) (fun _ => ?_)
  refine lv_iload_n hx hb d_M_poke_11 rfl (lv_at hl 2 rfl) ?_
  refine lv_bipush (v := (-128)) hx hb d_M_poke_12 (by decide) ?_
  refine lv_icmp_lt (tgt := 24) hx hb d_M_poke_14 (by decide) (fun h3 => absurd h3 (hy1)) (fun _ => ?_)
  refine lv_iload_n hx hb d_M_poke_17 rfl (lv_at hl 2 rfl) ?_
  refine lv_sipush (v := 255) hx hb d_M_poke_18 (by decide) ?_
  refine lv_icmp_le (tgt := 32) hx hb d_M_poke_21 (by decide) (fun _ => ?_) (fun h4 => absurd (hy2) h4)
  refine lv_aload_n hx hb d_M_poke_32 rfl (lv_at hl 0 rfl) ?_
  refine kw_get hx hb hg in_M hown hK hP qm hqm em rfl 3 (by decide) (hg _ kg_165) rfl rfl d_M_poke_33 ?_
  refine lv_iload_n hx hb d_M_poke_36 rfl (lv_at hl 1 rfl) ?_
  refine lv_iconst (v := 1) hx hb d_M_poke_37 (by decide) ?_
  refine lv_iload_n hx hb d_M_poke_38 rfl (lv_at hl 2 rfl) ?_
  refine kw_callvx (kw_rV (As := [.int (nI k), .int 1, .int y]) (rest := []) (q0 := q4) ⟨hx, hb, hml, hown, hg⟩ ⟨callB_of 3 hg (kg_goodG kg_436) rfl rfl rfl (hg _ kg_3) (hg _ kg_569) (by decide +kernel) ⟨by decide, by decide⟩, hg _ kg_434, hg _ kg_435⟩ (c_B_write l hJ hq4 e4 hq5 e5 (by decide) (by decide) (w := 1)) hK hP hq4 e4 rfl rfl hl.1 rfl (Nat.le_of_ble_eq_true rfl) d_M_poke_39 ⟨Nat.zero_le _, Nat.zero_le _⟩) hA hS (fun H locs hP hS => ?_)
  have em : (va_up cs q5 (.inl (cB, 128, .inl (kv_write g 128 (nI k) 1 y)))) qm = .inr (4, [.int (nI la), .ref (ad qx), .ref (ad q2), .ref (ad q4), .ref (ad q0), .ref (ad qp), .ref (ad qw), .int (nI ma), .int (nI qu), .int (nI st), .int nx, .int (nI bo), .int cy, .int sd]) := (va_up_ne _ _ (fun z9 => by rw [z9, e5] at em; cases em)).trans em
  have e4 : (va_up cs q5 (.inl (cB, 128, .inl (kv_write g 128 (nI k) 1 y)))) q4 = .inr (0, [.ref (ad q5)]) := (va_up_ne _ _ (fun z9 => by rw [z9, e5] at e4; cases e4)).trans e4
  have e5 : (va_up cs q5 (.inl (cB, 128, .inl (kv_write g 128 (nI k) 1 y)))) q5 = .inl (cB, 128, .inl (kv_write g 128 (nI k) 1 y)) := va_up_self _ _ _
  refine lv_iconst (v := 1) hx hb d_M_poke_42 (by decide) ?_
  exact kw_zret hx hb hr hlocks hP hK hS (Or.inr rfl) ⟨rfl, rfl⟩ d_M_poke_43

def kv_M_setScalar_qx (y : Int32) (X : Nat → Int32) (i : Nat) : Nat → Int32 := if (nI i) ≤ 0 then X else (upd X i y)
set_option maxRecDepth 100000 in
set_option maxHeartbeats 4000000 in
theorem c_M_setScalar (l : Launch) {D : va_G} {ad : Nat → Nat} {n : Nat} {cs : Nat → va_E} (hJ : kw_J ad n) {cI : ClassId} {cB : ClassId} {cJ : ClassId} {cQ : ClassId} {cW : ClassId} {qm : Nat} {qx : Nat} {q0 : Nat} {q2 : Nat} {q4 : Nat} {qp : Nat} {qw : Nat} {la : Nat} {ma : Nat} {qu : Nat} {st : Nat} {bo : Nat} {nx : Int32} {cy : Int32} {sd : Int32} {y : Int32} {X : Nat → Int32} {i : Nat} (hqm : qm < n) (em : cs qm = .inr (4, [.int (nI la), .ref (ad qx), .ref (ad q2), .ref (ad q4), .ref (ad q0), .ref (ad qp), .ref (ad qw), .int (nI ma), .int (nI qu), .int (nI st), .int nx, .int (nI bo), .int cy, .int sd])) (hqx : qx < n) (ex : cs qx = .inl (cI, 8, .inl (X))) (hi8 : i < 8) : kw_mv l y_M_setScalar w_M_setScalar (kr 0) D kc (kt cI cB cJ cQ cW) ad n cs [.ref (ad qm), .int (nI i), .int y] (fun c9 => c9 = va_up cs qx (.inl (cI, 8, .inl (kv_M_setScalar_qx y X i)))) := by
  refine kw_of (cc := b_M_setScalar) (maxL := 3) (ret := none) (by decide) rfl (Nat.le_of_ble_eq_true rfl) ?_
  intro p e s m below meth c ls hx hb hr hml hown hts hlocks hP hK hl
  have hg : ∀ w9 ∈ kg_G, w9.before [.ref (ad qm), .int (nI i), .int y].toArray s = true := fun w9 h9 => hts w9 (List.mem_cons_of_mem _ h9)
  have hown : s.vm.findClass "LaneMachine" = some m.cls := hown
  have hA : ∀ k, k < n → kw_A ad n (ad k) := fun k hk => ⟨k, hk, rfl⟩
  have hS : va_S (kw_A ad n) s.heap s.heap [] := va_S.rf
  have hl : lv_has ls 3 [(0, .ref (ad qm)), (1, .int (nI i)), (2, .int y)] := hl
  refine lv_iload_n hx hb d_M_setScalar_0 rfl (lv_at hl 1 rfl) ?_
  refine lv_if_le (tgt := 17) hx hb d_M_setScalar_1 (by decide) (fun h1 => ?_) (fun h1 => ?_)
  · exact kw_vret hx hb hr hlocks hP hK hS (by rw [show kv_M_setScalar_qx y X i = X from (by rw [kv_M_setScalar_qx, if_pos h1]), kw_id (ex)]) d_M_setScalar_17
  · refine lv_iload_n hx hb d_M_setScalar_4 rfl (lv_at hl 1 rfl) ?_
    refine lv_bipush (v := 8) hx hb d_M_setScalar_5 (by decide) ?_
    refine lv_icmp_ge (tgt := 17) hx hb d_M_setScalar_7 (by decide) (fun h2 => absurd h2 (fun z9 => absurd ((nI_leI (a := 8) (by omega) (by omega)).mp z9) (by omega))) (fun _ => ?_)
    refine lv_aload_n hx hb d_M_setScalar_10 rfl (lv_at hl 0 rfl) ?_
    refine kw_get hx hb hg in_M hown hK hP qm hqm em rfl 1 (by decide) (hg _ kg_163) rfl rfl d_M_setScalar_11 ?_
    refine lv_iload_n hx hb d_M_setScalar_14 rfl (lv_at hl 1 rfl) ?_
    refine lv_iload_n hx hb d_M_setScalar_15 rfl (lv_at hl 2 rfl) ?_
    refine kw_iast hx hb hK hP hJ hA hS qx 0 hqx ex rfl i (rfl) (hi8) (by omega) d_M_setScalar_16 (fun H locs hP hS => ?_)
    have em : (va_up cs qx (.inl (cI, 8, .inl (upd X i y)))) qm = .inr (4, [.int (nI la), .ref (ad qx), .ref (ad q2), .ref (ad q4), .ref (ad q0), .ref (ad qp), .ref (ad qw), .int (nI ma), .int (nI qu), .int (nI st), .int nx, .int (nI bo), .int cy, .int sd]) := (va_up_ne _ _ (fun z9 => by rw [z9, ex] at em; cases em)).trans em
    have ex : (va_up cs qx (.inl (cI, 8, .inl (upd X i y)))) qx = .inl (cI, 8, .inl (upd X i y)) := va_up_self _ _ _
    exact kw_vret hx hb hr hlocks hP hK hS (by rw [show kv_M_setScalar_qx y X i = upd X i y from (by rw [kv_M_setScalar_qx, if_neg h1])]) d_M_setScalar_17
