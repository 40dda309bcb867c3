/-! Work: take, foresee -/
set_option maxRecDepth 100000 in
set_option maxHeartbeats 4000000 in
theorem c_K_take (l : Launch) {D : va_G} {ad : Nat → Nat} {n : Nat} {cs : Nat → va_E} (hJ : kw_J ad n) {cI : ClassId} {cB : ClassId} {cJ : ClassId} {cQ : ClassId} {cW : ClassId} {qk : Nat} {q1 : Nat} {q2 : Nat} {q4 : Nat} {q6 : Nat} {q7 : Nat} {xa : Int32} {xb : Int32} {nu : Int32} {q0 : Nat} {q8 : Nat} {k4 : Int32} {k5 : Int32} {k6 : Int32} {k7 : Int32} {k8 : Int32} {k9 : Int32} {k11 : Int32} {k12 : Int32} {k13 : Int32} {k14 : Int32} {wp : Int32} {gp : Int32} {ln : Int32} {sa : Int32} (hqk : qk < n) (ek : cs qk = .inr (3, [.ref (ad q2), .ref (ad q4), .ref (ad q6), .ref (ad q7), .int k4, .int k5, .int k6, .int k7, .int k8, .int k9, .ref (ad q8), .int k11, .int k12, .int k13, .int k14])) (hq0 : q0 < n) (e0 : cs q0 = .inr (2, [.int wp, .int gp, .int ln, .int sa]))  : kw_mv l y_K_take w_K_take (kr 1) D kc (kt cI cB cJ cQ cW) ad n cs [.ref (ad qk), .ref (ad q1), .int nu, .ref (ad q0), .int xa, .int xb] (fun c9 => c9 = va_up cs qk (.inr (3, [.ref (ad q2), .ref (ad q4), .ref (ad q6), .ref (ad q7), .int (kv_S_width wp), .int (kv_S_group gp), .int (kv_S_most wp gp), .int xa, .int xb, .int sa, .ref (ad q1), .int nu, .int ln, .int 0, .int k14]))) := by
  refine kw_of (cc := b_K_take) (maxL := 6) (ret := none) (by decide) rfl (Nat.le_of_ble_eq_true rfl) ?_
  intro p e s m below meth c ls hx hb hr hml hown hts hlocks hP hK hl
  have hg : ∀ w9 ∈ kg_G, w9.before [.ref (ad qk), .ref (ad q1), .int nu, .ref (ad q0), .int xa, .int xb].toArray s = true := fun w9 h9 => hts w9 (List.mem_cons_of_mem _ h9)
  have hown : s.vm.findClass "LaneMachine$Work" = some m.cls := hown
  have hA : ∀ k, k < n → kw_A ad n (ad k) := fun k hk => ⟨k, hk, rfl⟩
  have hS : va_S (kw_A ad n) s.heap s.heap [] := va_S.rf
  have hl : lv_has ls 6 [(0, .ref (ad qk)), (1, .ref (ad q1)), (2, .int nu), (3, .ref (ad q0)), (4, .int xa), (5, .int xb)] := hl
  have hn_qk_q0 : qk ≠ q0 := fun h => by rw [h, e0] at ek; simp at ek
  refine lv_aload_n hx hb d_K_take_0 rfl (lv_at hl 0 rfl) ?_
  refine lv_aload_n hx hb d_K_take_1 rfl (lv_at hl 1 rfl) ?_
  refine kw_put (ty := (.object "LaneMachine$Instruction")) hx hb hg in_K t_K ty_K nm_K hown hK hP hJ hA hS qk hqk ek rfl 10 (by decide) (hg _ kg_121) rfl rfl (by decide +kernel) rfl rfl (Nat.le_of_ble_eq_true rfl) d_K_take_2 (fun H locs hP hS => ?_)
  have ek : (va_up cs qk (.inr (3, [.ref (ad q2), .ref (ad q4), .ref (ad q6), .ref (ad q7), .int k4, .int k5, .int k6, .int k7, .int k8, .int k9, .ref (ad q1), .int k11, .int k12, .int k13, .int k14]))) qk = .inr (3, [.ref (ad q2), .ref (ad q4), .ref (ad q6), .ref (ad q7), .int k4, .int k5, .int k6, .int k7, .int k8, .int k9, .ref (ad q1), .int k11, .int k12, .int k13, .int k14]) := va_up_self _ _ _
  have e0 : (va_up cs qk (.inr (3, [.ref (ad q2), .ref (ad q4), .ref (ad q6), .ref (ad q7), .int k4, .int k5, .int k6, .int k7, .int k8, .int k9, .ref (ad q1), .int k11, .int k12, .int k13, .int k14]))) q0 = .inr (2, [.int wp, .int gp, .int ln, .int sa]) := (va_up_ne _ _ (hn_qk_q0.symm)).trans e0
  refine lv_aload_n hx hb d_K_take_5 rfl (lv_at hl 0 rfl) ?_
  refine lv_iload_n hx hb d_K_take_6 rfl (lv_at hl 2 rfl) ?_
  refine kw_put (ty := .int) hx hb hg in_K t_K ty_K nm_K hown hK hP hJ hA hS qk hqk ek rfl 11 (by decide) (hg _ kg_123) rfl rfl (by decide +kernel) rfl rfl (Nat.le_of_ble_eq_true rfl) d_K_take_7 (fun H locs hP hS => ?_)
  rw [bx_uu] at hP
  have ek : (va_up cs qk (.inr (3, [.ref (ad q2), .ref (ad q4), .ref (ad q6), .ref (ad q7), .int k4, .int k5, .int k6, .int k7, .int k8, .int k9, .ref (ad q1), .int nu, .int k12, .int k13, .int k14]))) qk = .inr (3, [.ref (ad q2), .ref (ad q4), .ref (ad q6), .ref (ad q7), .int k4, .int k5, .int k6, .int k7, .int k8, .int k9, .ref (ad q1), .int nu, .int k12, .int k13, .int k14]) := va_up_self _ _ _
  have e0 : (va_up cs qk (.inr (3, [.ref (ad q2), .ref (ad q4), .ref (ad q6), .ref (ad q7), .int k4, .int k5, .int k6, .int k7, .int k8, .int k9, .ref (ad q1), .int nu, .int k12, .int k13, .int k14]))) q0 = .inr (2, [.int wp, .int gp, .int ln, .int sa]) := (va_up_ne _ _ (hn_qk_q0.symm)).trans ((va_up_ne _ _ (hn_qk_q0.symm)).symm.trans e0)
  refine lv_aload_n hx hb d_K_take_10 rfl (lv_at hl 0 rfl) ?_
  refine lv_iload hx hb d_K_take_11 (lv_at hl 4 rfl) ?_
  refine kw_put (ty := .int) hx hb hg in_K t_K ty_K nm_K hown hK hP hJ hA hS qk hqk ek rfl 7 (by decide) (hg _ kg_118) rfl rfl (by decide +kernel) rfl rfl (Nat.le_of_ble_eq_true rfl) d_K_take_13 (fun H locs hP hS => ?_)
  rw [bx_uu] at hP
  have ek : (va_up cs qk (.inr (3, [.ref (ad q2), .ref (ad q4), .ref (ad q6), .ref (ad q7), .int k4, .int k5, .int k6, .int xa, .int k8, .int k9, .ref (ad q1), .int nu, .int k12, .int k13, .int k14]))) qk = .inr (3, [.ref (ad q2), .ref (ad q4), .ref (ad q6), .ref (ad q7), .int k4, .int k5, .int k6, .int xa, .int k8, .int k9, .ref (ad q1), .int nu, .int k12, .int k13, .int k14]) := va_up_self _ _ _
  have e0 : (va_up cs qk (.inr (3, [.ref (ad q2), .ref (ad q4), .ref (ad q6), .ref (ad q7), .int k4, .int k5, .int k6, .int xa, .int k8, .int k9, .ref (ad q1), .int nu, .int k12, .int k13, .int k14]))) q0 = .inr (2, [.int wp, .int gp, .int ln, .int sa]) := (va_up_ne _ _ (hn_qk_q0.symm)).trans ((va_up_ne _ _ (hn_qk_q0.symm)).symm.trans e0)
  refine lv_aload_n hx hb d_K_take_16 rfl (lv_at hl 0 rfl) ?_
  refine lv_iload hx hb d_K_take_17 (lv_at hl 5 rfl) ?_
  refine kw_put (ty := .int) hx hb hg in_K t_K ty_K nm_K hown hK hP hJ hA hS qk hqk ek rfl 8 (by decide) (hg _ kg_119) rfl rfl (by decide +kernel) rfl rfl (Nat.le_of_ble_eq_true rfl) d_K_take_19 (fun H locs hP hS => ?_)
  rw [bx_uu] at hP
  have ek : (va_up cs qk (.inr (3, [.ref (ad q2), .ref (ad q4), .ref (ad q6), .ref (ad q7), .int k4, .int k5, .int k6, .int xa, .int xb, .int k9, .ref (ad q1), .int nu, .int k12, .int k13, .int k14]))) qk = .inr (3, [.ref (ad q2), .ref (ad q4), .ref (ad q6), .ref (ad q7), .int k4, .int k5, .int k6, .int xa, .int xb, .int k9, .ref (ad q1), .int nu, .int k12, .int k13, .int k14]) := va_up_self _ _ _
  have e0 : (va_up cs qk (.inr (3, [.ref (ad q2), .ref (ad q4), .ref (ad q6), .ref (ad q7), .int k4, .int k5, .int k6, .int xa, .int xb, .int k9, .ref (ad q1), .int nu, .int k12, .int k13, .int k14]))) q0 = .inr (2, [.int wp, .int gp, .int ln, .int sa]) := (va_up_ne _ _ (hn_qk_q0.symm)).trans ((va_up_ne _ _ (hn_qk_q0.symm)).symm.trans e0)
  refine lv_aload_n hx hb d_K_take_22 rfl (lv_at hl 0 rfl) ?_
  refine lv_aload_n hx hb d_K_take_23 rfl (lv_at hl 3 rfl) ?_
  refine kw_callix (kw_rV (As := []) (rest := [.ref (ad qk)]) (q0 := q0) ⟨hx, hb, hml, hown, hg⟩ ⟨callB_of 0 hg (kg_goodG kg_232) rfl rfl rfl (hg _ kg_4) (hg _ kg_529) (by decide +kernel) ⟨by decide, by decide⟩, hg _ kg_230, hg _ kg_231⟩ (c_S_width l hq0 e0 ) hK hP hq0 e0 rfl rfl hl.1 rfl (Nat.le_of_ble_eq_true rfl) d_K_take_24 ⟨Nat.zero_le _, Nat.zero_le _⟩) hA hS (fun H locs hP hS => ?_)
  refine kw_put (ty := .int) hx hb hg in_K t_K ty_K nm_K hown hK hP hJ hA hS qk hqk ek rfl 4 (by decide) (hg _ kg_115) rfl rfl (by decide +kernel) rfl rfl (Nat.le_of_ble_eq_true rfl) d_K_take_27 (fun H locs hP hS => ?_)
  rw [bx_uu] at hP
  have ek : (va_up cs qk (.inr (3, [.ref (ad q2), .ref (ad q4), .ref (ad q6), .ref (ad q7), .int (kv_S_width wp), .int k5, .int k6, .int xa, .int xb, .int k9, .ref (ad q1), .int nu, .int k12, .int k13, .int k14]))) qk = .inr (3, [.ref (ad q2), .ref (ad q4), .ref (ad q6), .ref (ad q7), .int (kv_S_width wp), .int k5, .int k6, .int xa, .int xb, .int k9, .ref (ad q1), .int nu, .int k12, .int k13, .int k14]) := va_up_self _ _ _
  have e0 : (va_up cs qk (.inr (3, [.ref (ad q2), .ref (ad q4), .ref (ad q6), .ref (ad q7), .int (kv_S_width wp), .int k5, .int k6, .int xa, .int xb, .int k9, .ref (ad q1), .int nu, .int k12, .int k13, .int k14]))) q0 = .inr (2, [.int wp, .int gp, .int ln, .int sa]) := (va_up_ne _ _ (hn_qk_q0.symm)).trans ((va_up_ne _ _ (hn_qk_q0.symm)).symm.trans e0)
  refine lv_aload_n hx hb d_K_take_30 rfl (lv_at hl 0 rfl) ?_
  refine lv_aload_n hx hb d_K_take_31 rfl (lv_at hl 3 rfl) ?_
  refine kw_callix (kw_rV (As := []) (rest := [.ref (ad qk)]) (q0 := q0) ⟨hx, hb, hml, hown, hg⟩ ⟨callB_of 0 hg (kg_goodG kg_236) rfl rfl rfl (hg _ kg_4) (hg _ kg_530) (by decide +kernel) ⟨by decide, by decide⟩, hg _ kg_234, hg _ kg_235⟩ (c_S_group l hq0 e0 ) hK hP hq0 e0 rfl rfl hl.1 rfl (Nat.le_of_ble_eq_true rfl) d_K_take_32 ⟨Nat.zero_le _, Nat.zero_le _⟩) hA hS (fun H locs hP hS => ?_)
  refine kw_put (ty := .int) hx hb hg in_K t_K ty_K nm_K hown hK hP hJ hA hS qk hqk ek rfl 5 (by decide) (hg _ kg_116) rfl rfl (by decide +kernel) rfl rfl (Nat.le_of_ble_eq_true rfl) d_K_take_35 (fun H locs hP hS => ?_)
  rw [bx_uu] at hP
  have ek : (va_up cs qk (.inr (3, [.ref (ad q2), .ref (ad q4), .ref (ad q6), .ref (ad q7), .int (kv_S_width wp), .int (kv_S_group gp), .int k6, .int xa, .int xb, .int k9, .ref (ad q1), .int nu, .int k12, .int k13, .int k14]))) qk = .inr (3, [.ref (ad q2), .ref (ad q4), .ref (ad q6), .ref (ad q7), .int (kv_S_width wp), .int (kv_S_group gp), .int k6, .int xa, .int xb, .int k9, .ref (ad q1), .int nu, .int k12, .int k13, .int k14]) := va_up_self _ _ _
  have e0 : (va_up cs qk (.inr (3, [.ref (ad q2), .ref (ad q4), .ref (ad q6), .ref (ad q7), .int (kv_S_width wp), .int (kv_S_group gp), .int k6, .int xa, .int xb, .int k9, .ref (ad q1), .int nu, .int k12, .int k13, .int k14]))) q0 = .inr (2, [.int wp, .int gp, .int ln, .int sa]) := (va_up_ne _ _ (hn_qk_q0.symm)).trans ((va_up_ne _ _ (hn_qk_q0.symm)).symm.trans e0)
  refine lv_aload_n hx hb d_K_take_38 rfl (lv_at hl 0 rfl) ?_
  refine lv_aload_n hx hb d_K_take_39 rfl (lv_at hl 3 rfl) ?_
  refine kw_callix (kw_rV (As := []) (rest := [.ref (ad qk)]) (q0 := q0) ⟨hx, hb, hml, hown, hg⟩ ⟨callB_of 0 hg (kg_goodG kg_534) rfl rfl rfl (hg _ kg_4) (hg _ kg_531) (by decide +kernel) ⟨by decide, by decide⟩, hg _ kg_532, hg _ kg_533⟩ (c_S_most l hq0 e0 ) hK hP hq0 e0 rfl rfl hl.1 rfl (Nat.le_of_ble_eq_true rfl) d_K_take_40 ⟨Nat.zero_le _, Nat.zero_le _⟩) hA hS (fun H locs hP hS => ?_)
  refine kw_put (ty := .int) hx hb hg in_K t_K ty_K nm_K hown hK hP hJ hA hS qk hqk ek rfl 6 (by decide) (hg _ kg_117) rfl rfl (by decide +kernel) rfl rfl (Nat.le_of_ble_eq_true rfl) d_K_take_43 (fun H locs hP hS => ?_)
  rw [bx_uu] at hP
  have ek : (va_up cs qk (.inr (3, [.ref (ad q2), .ref (ad q4), .ref (ad q6), .ref (ad q7), .int (kv_S_width wp), .int (kv_S_group gp), .int (kv_S_most wp gp), .int xa, .int xb, .int k9, .ref (ad q1), .int nu, .int k12, .int k13, .int k14]))) qk = .inr (3, [.ref (ad q2), .ref (ad q4), .ref (ad q6), .ref (ad q7), .int (kv_S_width wp), .int (kv_S_group gp), .int (kv_S_most wp gp), .int xa, .int xb, .int k9, .ref (ad q1), .int nu, .int k12, .int k13, .int k14]) := va_up_self _ _ _
  have e0 : (va_up cs qk (.inr (3, [.ref (ad q2), .ref (ad q4), .ref (ad q6), .ref (ad q7), .int (kv_S_width wp), .int (kv_S_group gp), .int (kv_S_most wp gp), .int xa, .int xb, .int k9, .ref (ad q1), .int nu, .int k12, .int k13, .int k14]))) q0 = .inr (2, [.int wp, .int gp, .int ln, .int sa]) := (va_up_ne _ _ (hn_qk_q0.symm)).trans ((va_up_ne _ _ (hn_qk_q0.symm)).symm.trans e0)
  refine lv_aload_n hx hb d_K_take_46 rfl (lv_at hl 0 rfl) ?_
  refine lv_aload_n hx hb d_K_take_47 rfl (lv_at hl 3 rfl) ?_
  refine kw_get hx hb hg in_S hown hK hP q0 hq0 e0 rfl 3 (by decide) (hg _ kg_50) rfl rfl d_K_take_48 ?_
  refine kw_put (ty := .int) hx hb hg in_K t_K ty_K nm_K hown hK hP hJ hA hS qk hqk ek rfl 9 (by decide) (hg _ kg_120) rfl rfl (by decide +kernel) rfl rfl (Nat.le_of_ble_eq_true rfl) d_K_take_51 (fun H locs hP hS => ?_)
  rw [bx_uu] at hP
  have ek : (va_up cs qk (.inr (3, [.ref (ad q2), .ref (ad q4), .ref (ad q6), .ref (ad q7), .int (kv_S_width wp), .int (kv_S_group gp), .int (kv_S_most wp gp), .int xa, .int xb, .int sa, .ref (ad q1), .int nu, .int k12, .int k13, .int k14]))) qk = .inr (3, [.ref (ad q2), .ref (ad q4), .ref (ad q6), .ref (ad q7), .int (kv_S_width wp), .int (kv_S_group gp), .int (kv_S_most wp gp), .int xa, .int xb, .int sa, .ref (ad q1), .int nu, .int k12, .int k13, .int k14]) := va_up_self _ _ _
  have e0 : (va_up cs qk (.inr (3, [.ref (ad q2), .ref (ad q4), .ref (ad q6), .ref (ad q7), .int (kv_S_width wp), .int (kv_S_group gp), .int (kv_S_most wp gp), .int xa, .int xb, .int sa, .ref (ad q1), .int nu, .int k12, .int k13, .int k14]))) q0 = .inr (2, [.int wp, .int gp, .int ln, .int sa]) := (va_up_ne _ _ (hn_qk_q0.symm)).trans ((va_up_ne _ _ (hn_qk_q0.symm)).symm.trans e0)
  refine lv_aload_n hx hb d_K_take_54 rfl (lv_at hl 0 rfl) ?_
  refine lv_aload_n hx hb d_K_take_55 rfl (lv_at hl 3 rfl) ?_
  refine kw_get hx hb hg in_S hown hK hP q0 hq0 e0 rfl 2 (by decide) (hg _ kg_47) rfl rfl d_K_take_56 ?_
  refine kw_put (ty := .int) hx hb hg in_K t_K ty_K nm_K hown hK hP hJ hA hS qk hqk ek rfl 12 (by decide) (hg _ kg_125) rfl rfl (by decide +kernel) rfl rfl (Nat.le_of_ble_eq_true rfl) d_K_take_59 (fun H locs hP hS => ?_)
  rw [bx_uu] at hP
  have ek : (va_up cs qk (.inr (3, [.ref (ad q2), .ref (ad q4), .ref (ad q6), .ref (ad q7), .int (kv_S_width wp), .int (kv_S_group gp), .int (kv_S_most wp gp), .int xa, .int xb, .int sa, .ref (ad q1), .int nu, .int ln, .int k13, .int k14]))) qk = .inr (3, [.ref (ad q2), .ref (ad q4), .ref (ad q6), .ref (ad q7), .int (kv_S_width wp), .int (kv_S_group gp), .int (kv_S_most wp gp), .int xa, .int xb, .int sa, .ref (ad q1), .int nu, .int ln, .int k13, .int k14]) := va_up_self _ _ _
  have e0 : (va_up cs qk (.inr (3, [.ref (ad q2), .ref (ad q4), .ref (ad q6), .ref (ad q7), .int (kv_S_width wp), .int (kv_S_group gp), .int (kv_S_most wp gp), .int xa, .int xb, .int sa, .ref (ad q1), .int nu, .int ln, .int k13, .int k14]))) q0 = .inr (2, [.int wp, .int gp, .int ln, .int sa]) := (va_up_ne _ _ (hn_qk_q0.symm)).trans ((va_up_ne _ _ (hn_qk_q0.symm)).symm.trans e0)
  refine lv_aload_n hx hb d_K_take_62 rfl (lv_at hl 0 rfl) ?_
  refine lv_iconst (v := 0) hx hb d_K_take_63 (by decide) ?_
  refine kw_put (ty := .int) hx hb hg in_K t_K ty_K nm_K hown hK hP hJ hA hS qk hqk ek rfl 13 (by decide) (hg _ kg_127) rfl rfl (by decide +kernel) rfl rfl (Nat.le_of_ble_eq_true rfl) d_K_take_64 (fun H locs hP hS => ?_)
  rw [bx_uu] at hP
  have ek : (va_up cs qk (.inr (3, [.ref (ad q2), .ref (ad q4), .ref (ad q6), .ref (ad q7), .int (kv_S_width wp), .int (kv_S_group gp), .int (kv_S_most wp gp), .int xa, .int xb, .int sa, .ref (ad q1), .int nu, .int ln, .int 0, .int k14]))) qk = .inr (3, [.ref (ad q2), .ref (ad q4), .ref (ad q6), .ref (ad q7), .int (kv_S_width wp), .int (kv_S_group gp), .int (kv_S_most wp gp), .int xa, .int xb, .int sa, .ref (ad q1), .int nu, .int ln, .int 0, .int k14]) := va_up_self _ _ _
  have e0 : (va_up cs qk (.inr (3, [.ref (ad q2), .ref (ad q4), .ref (ad q6), .ref (ad q7), .int (kv_S_width wp), .int (kv_S_group gp), .int (kv_S_most wp gp), .int xa, .int xb, .int sa, .ref (ad q1), .int nu, .int ln, .int 0, .int k14]))) q0 = .inr (2, [.int wp, .int gp, .int ln, .int sa]) := (va_up_ne _ _ (hn_qk_q0.symm)).trans ((va_up_ne _ _ (hn_qk_q0.symm)).symm.trans e0)
  exact kw_vret hx hb hr hlocks hP hK hS (rfl) d_K_take_67

set_option maxRecDepth 100000 in
set_option maxHeartbeats 4000000 in
theorem c_K_readsFromStep (l : Launch) {D : va_G} {ad : Nat → Nat} {n : Nat} {cs : Nat → va_E} {cI : ClassId} {cB : ClassId} {cJ : ClassId} {cQ : ClassId} {cW : ClassId} {qk : Nat} {q1 : Nat} {q2 : Nat} {q4 : Nat} {q6 : Nat} {q7 : Nat} {w : Nat} {fr : Nat} {tt : Nat} {dn : Nat} {db : Nat} {gr : Int32} {mo : Int32} {xa : Int32} {xb : Int32} {nu : Int32} {y9 : Nat} {rF : Nat → Int64} (hqk : qk < n) (ek : cs qk = .inr (3, [.ref (ad q2), .ref (ad q4), .ref (ad q6), .ref (ad q7), .int (nI w), .int gr, .int mo, .int xa, .int xb, .int (nI fr), .ref (ad q1), .int nu, .int (nI tt), .int (nI dn), .int (nI db)])) (hq6 : q6 < n) (e6 : cs q6 = .inl (cJ, 33, .inr (.inl (rF)))) (hy : y9 ≤ 32) : kw_ml l y_K_readsFromStep w_K_readsFromStep (kr 0) D kc (kt cI cB cJ cQ cW) ad n cs [.ref (ad qk), .int (nI y9)] (fun r9 c9 => r9 = rF y9 ∧ c9 = cs) := by
  refine kw_of (cc := b_K_readsFromStep) (maxL := 2) (ret := (some .long)) (by decide) rfl (Nat.le_of_ble_eq_true rfl) ?_
  intro p e s m below meth c ls hx hb hr hml hown hts hlocks hP hK hl
  have hg : ∀ w9 ∈ kg_G, w9.before [.ref (ad qk), .int (nI y9)].toArray s = true := fun w9 h9 => hts w9 (List.mem_cons_of_mem _ h9)
  have hown : s.vm.findClass "LaneMachine$Work" = some m.cls := hown
  have hA : ∀ k, k < n → kw_A ad n (ad k) := fun k hk => ⟨k, hk, rfl⟩
  have hS : va_S (kw_A ad n) s.heap s.heap [] := va_S.rf
  have hl : lv_has ls 2 [(0, .ref (ad qk)), (1, .int (nI y9))] := hl
  refine lv_iload_n hx hb d_K_readsFromStep_0 rfl (lv_at hl 1 rfl) ?_
  refine lv_if_lt (tgt := 19) hx hb d_K_readsFromStep_1 (by decide) (fun h1 => absurd h1 (nI_pos (by omega))) (fun _ => ?_)
  refine lv_iload_n hx hb d_K_readsFromStep_4 rfl (lv_at hl 1 rfl) ?_
  refine lv_bipush (v := 32) hx hb d_K_readsFromStep_5 (by decide) ?_
  refine lv_icmp_gt (tgt := 19) hx hb d_K_readsFromStep_7 (by decide) (fun h2 => absurd h2 (nI_nlt (b := y9) (a := 32) (by omega) (by omega))) (fun _ => ?_)
  refine lv_aload_n hx hb d_K_readsFromStep_10 rfl (lv_at hl 0 rfl) ?_
  refine kw_get hx hb hg in_K hown hK hP qk hqk ek rfl 2 (by decide) (hg _ kg_113) rfl rfl d_K_readsFromStep_11 ?_
  refine lv_iload_n hx hb d_K_readsFromStep_14 rfl (lv_at hl 1 rfl) ?_
  refine kw_lald hx hb hK hP q6 2 hq6 e6 rfl y9 (rfl) (by omega) (by omega) d_K_readsFromStep_15 ?_
  refine lv_goto (tgt := 20) hx hb d_K_readsFromStep_16 (by decide) ?_
  exact kw_lret hx hb hr hlocks hP hK hS ⟨rfl, rfl⟩ d_K_readsFromStep_20

set_option maxRecDepth 100000 in
set_option maxHeartbeats 4000000 in
theorem c_K_writesFromStep (l : Launch) {D : va_G} {ad : Nat → Nat} {n : Nat} {cs : Nat → va_E} {cI : ClassId} {cB : ClassId} {cJ : ClassId} {cQ : ClassId} {cW : ClassId} {qk : Nat} {q1 : Nat} {q2 : Nat} {q4 : Nat} {q6 : Nat} {q7 : Nat} {w : Nat} {fr : Nat} {tt : Nat} {dn : Nat} {db : Nat} {gr : Int32} {mo : Int32} {xa : Int32} {xb : Int32} {nu : Int32} {y9 : Nat} {wF : Nat → Int64} (hqk : qk < n) (ek : cs qk = .inr (3, [.ref (ad q2), .ref (ad q4), .ref (ad q6), .ref (ad q7), .int (nI w), .int gr, .int mo, .int xa, .int xb, .int (nI fr), .ref (ad q1), .int nu, .int (nI tt), .int (nI dn), .int (nI db)])) (hq7 : q7 < n) (e7 : cs q7 = .inl (cJ, 33, .inr (.inl (wF)))) (hy : y9 ≤ 32) : kw_ml l y_K_writesFromStep w_K_writesFromStep (kr 0) D kc (kt cI cB cJ cQ cW) ad n cs [.ref (ad qk), .int (nI y9)] (fun r9 c9 => r9 = wF y9 ∧ c9 = cs) := by
  refine kw_of (cc := b_K_writesFromStep) (maxL := 2) (ret := (some .long)) (by decide) rfl (Nat.le_of_ble_eq_true rfl) ?_
  intro p e s m below meth c ls hx hb hr hml hown hts hlocks hP hK hl
  have hg : ∀ w9 ∈ kg_G, w9.before [.ref (ad qk), .int (nI y9)].toArray s = true := fun w9 h9 => hts w9 (List.mem_cons_of_mem _ h9)
  have hown : s.vm.findClass "LaneMachine$Work" = some m.cls := hown
  have hA : ∀ k, k < n → kw_A ad n (ad k) := fun k hk => ⟨k, hk, rfl⟩
  have hS : va_S (kw_A ad n) s.heap s.heap [] := va_S.rf
  have hl : lv_has ls 2 [(0, .ref (ad qk)), (1, .int (nI y9))] := hl
  refine lv_iload_n hx hb d_K_writesFromStep_0 rfl (lv_at hl 1 rfl) ?_
  refine lv_if_lt (tgt := 19) hx hb d_K_writesFromStep_1 (by decide) (fun h1 => absurd h1 (nI_pos (by omega))) (fun _ => ?_)
  refine lv_iload_n hx hb d_K_writesFromStep_4 rfl (lv_at hl 1 rfl) ?_
  refine lv_bipush (v := 32) hx hb d_K_writesFromStep_5 (by decide) ?_
  refine lv_icmp_gt (tgt := 19) hx hb d_K_writesFromStep_7 (by decide) (fun h2 => absurd h2 (nI_nlt (b := y9) (a := 32) (by omega) (by omega))) (fun _ => ?_)
  refine lv_aload_n hx hb d_K_writesFromStep_10 rfl (lv_at hl 0 rfl) ?_
  refine kw_get hx hb hg in_K hown hK hP qk hqk ek rfl 3 (by decide) (hg _ kg_114) rfl rfl d_K_writesFromStep_11 ?_
  refine lv_iload_n hx hb d_K_writesFromStep_14 rfl (lv_at hl 1 rfl) ?_
  refine kw_lald hx hb hK hP q7 2 hq7 e7 rfl y9 (rfl) (by omega) (by omega) d_K_writesFromStep_15 ?_
  refine lv_goto (tgt := 20) hx hb d_K_writesFromStep_16 (by decide) ?_
  exact kw_lret hx hb hr hlocks hP hK hS ⟨rfl, rfl⟩ d_K_writesFromStep_20

theorem kw_uu2 {cs : Nat → va_E} {i j : Nat} {a b c d : va_E} (h : i ≠ j) : va_up (va_up (va_up (va_up cs i a) j b) i c) j d = va_up (va_up cs i c) j d := by
  funext k
  by_cases h1 : k = j
  · subst h1; simp [va_up]
  · by_cases h2 : k = i
    · subst h2; simp [va_up, h]
    · simp [va_up, h1, h2]
def kv_fo (w fr tt : Nat) (gr mo xb op rd ra rb mk : Int32) : Nat → Int64 → Int64 → (Nat → Int64) → (Nat → Int64) → (Nat → Int64) × (Nat → Int64)
  | 0, _, _, a, b => (a, b)
  | k + 1, u, v, a, b => if kv_K_steps fr tt op ≤ nI k then kv_fo w fr tt gr mo xb op rd ra rb mk k u v (vp_updL a k u) (vp_updL b k v)
    else kv_fo w fr tt gr mo xb op rd ra rb mk k (u ||| kv_K_readsOf w fr tt gr mo xb op rd ra rb mk (nI k)) (v ||| kv_K_writesOf w fr op rd (nI k)) (vp_updL a k (u ||| kv_K_readsOf w fr tt gr mo xb op rd ra rb mk (nI k))) (vp_updL b k (v ||| kv_K_writesOf w fr op rd (nI k)))

set_option maxRecDepth 100000 in
set_option maxHeartbeats 4000000 in
theorem c_K_foresee (l : Launch) {D : va_G} {ad : Nat → Nat} {n : Nat} {cs : Nat → va_E} (hJ : kw_J ad n) {cI : ClassId} {cB : ClassId} {cJ : ClassId} {cQ : ClassId} {cW : ClassId} {qk : Nat} {q1 : Nat} {q2 : Nat} {q4 : Nat} {q6 : Nat} {q7 : Nat} {w : Nat} {fr : Nat} {tt : Nat} {dn : Nat} {db : Nat} {gr : Int32} {mo : Int32} {xa : Int32} {xb : Int32} {nu : Int32} {op : Int32} {rd : Int32} {ra : Int32} {rb : Int32} {rn : Int32} {mk : Int32} {rF : Nat → Int64} {wF : Nat → Int64} (hqk : qk < n) (ek : cs qk = .inr (3, [.ref (ad q2), .ref (ad q4), .ref (ad q6), .ref (ad q7), .int (nI w), .int gr, .int mo, .int xa, .int xb, .int (nI fr), .ref (ad q1), .int nu, .int (nI tt), .int (nI dn), .int (nI db)])) (hq1 : q1 < n) (e1 : cs q1 = .inr (1, [.int op, .int rd, .int ra, .int rb, .int rn, .int mk])) (hq6 : q6 < n) (e6 : cs q6 = .inl (cJ, 33, .inr (.inl (rF)))) (hq7 : q7 < n) (e7 : cs q7 = .inl (cJ, 33, .inr (.inl (wF)))) (h67 : q6 ≠ q7) (hft : fr ≤ tt) (htt : tt < 2 ^ 30) : kw_mv l y_K_foresee w_K_foresee (kr 3) D kc (kt cI cB cJ cQ cW) ad n cs [.ref (ad qk)] (fun c9 => c9 = va_up (va_up cs q6 (.inl (cJ, 33, .inr (.inl ((kv_fo w fr tt gr mo xb op rd ra rb mk 33 0 0 rF wF).1))))) q7 (.inl (cJ, 33, .inr (.inl ((kv_fo w fr tt gr mo xb op rd ra rb mk 33 0 0 rF wF).2))))) := by
  refine kw_of (cc := b_K_foresee) (maxL := 7) (ret := none) (by decide) rfl (Nat.le_of_ble_eq_true rfl) ?_
  intro p e s m below meth c ls hx hb hr hml hown hts hlocks hP hK hl
  have hg : ∀ w9 ∈ kg_G, w9.before [.ref (ad qk)].toArray s = true := fun w9 h9 => hts w9 (List.mem_cons_of_mem _ h9)
  have hown : s.vm.findClass "LaneMachine$Work" = some m.cls := hown
  have hA : ∀ k, k < n → kw_A ad n (ad k) := fun k hk => ⟨k, hk, rfl⟩
  have hS : va_S (kw_A ad n) s.heap s.heap [] := va_S.rf
  have hl : lv_has ls 7 [(0, .ref (ad qk))] := hl
  have hn_qk_q1 : qk ≠ q1 := fun h => by rw [h, e1] at ek; simp at ek
  have hn_qk_q6 : qk ≠ q6 := fun h => by rw [h, e6] at ek; simp at ek
  have hn_qk_q7 : qk ≠ q7 := fun h => by rw [h, e7] at ek; simp at ek
  have hn_q1_q6 : q1 ≠ q6 := fun h => by rw [h, e6] at e1; simp at e1
  have hn_q1_q7 : q1 ≠ q7 := fun h => by rw [h, e7] at e1; simp at e1
  refine lv_aload_n hx hb d_K_foresee_0 rfl (lv_at hl 0 rfl) ?_
  refine kw_callix (kw_rV (As := []) (rest := []) (q0 := qk) ⟨hx, hb, hml, hown, hg⟩ ⟨callB_of 0 hg (kg_goodG kg_244) rfl rfl rfl (hg _ kg_6) (hg _ kg_383) (by decide +kernel) ⟨by decide, by decide⟩, hg _ kg_242, hg _ kg_243⟩ (c_K_steps l hqk ek hq1 e1 ) hK hP hqk ek rfl rfl hl.1 rfl (Nat.le_of_ble_eq_true rfl) d_K_foresee_1 ⟨Nat.zero_le _, Nat.zero_le _⟩) hA hS (fun H locs hP hS => ?_)
  refine lv_istore_n (lv' := [(1, .int (kv_K_steps fr tt op)), (0, .ref (ad qk))]) hx hb d_K_foresee_4 rfl hl (by decide) rfl (fun ls hl => ?_)
  refine lv_lconst (v := 0) hx hb d_K_foresee_5 (by decide) ?_
  refine lv_lstore_n (lv' := [(2, .long 0), (1, .int (kv_K_steps fr tt op)), (0, .ref (ad qk))]) hx hb d_K_foresee_6 rfl hl (by decide) rfl (fun ls hl => ?_)
  refine lv_lconst (v := 0) hx hb d_K_foresee_7 (by decide) ?_
  refine lv_lstore (lv' := [(4, .long 0), (2, .long 0), (1, .int (kv_K_steps fr tt op)), (0, .ref (ad qk))]) hx hb d_K_foresee_8 hl (by decide) rfl (fun ls hl => ?_)
  refine lv_bipush (v := 32) hx hb d_K_foresee_10 (by decide) ?_
  refine lv_istore (lv' := [(6, .int 32), (4, .long 0), (2, .long 0), (1, .int (kv_K_steps fr tt op)), (0, .ref (ad qk))]) hx hb d_K_foresee_12 hl (by decide) rfl (fun ls hl => ?_)
  have loop : ∀ (kk : Nat) (u : Int64) (v : Int64) (a : Nat → Int64) (b : Nat → Int64) (H : Heap) (locs : List Loc) (ls : Array Slot), kk ≤ 33 → kv_fo w fr tt gr mo xb op rd ra rb mk 33 0 0 rF wF = kv_fo w fr tt gr mo xb op rd ra rb mk kk u v a b → va_P D kc (kw_w ad (va_up (va_up cs q6 (.inl (cJ, 33, .inr (.inl (a))))) q7 (.inl (cJ, 33, .inr (.inl (b))))) n) H → va_S (kw_A ad n) s.heap H locs → lv_has ls 7 [(6, .int (nI kk - 1)), (4, .long v), (2, .long u), (1, .int (kv_K_steps fr tt op)), (0, .ref (ad qk))] → W p l e (kr 3) s m [.ref (ad qk)].toArray below meth c H locs 0 0 (MQ below (va_Qv (fun c9 => c9 = va_up (va_up cs q6 (.inl (cJ, 33, .inr (.inl ((kv_fo w fr tt gr mo xb op rd ra rb mk 33 0 0 rF wF).1))))) q7 (.inl (cJ, 33, .inr (.inl ((kv_fo w fr tt gr mo xb op rd ra rb mk 33 0 0 rF wF).2))))) (kw_Pre D kc (kt cI cB cJ cQ cW) ad n) (kw_A ad n)) [.ref (ad qk)].toArray s 0 0 (kw_A ad n)) (F0 m 14 ls []) := by
    intro kk
    induction kk with
    | zero =>
      intro u v a b H locs ls hk hv hP hS hl
      have ek : (va_up (va_up cs q6 (.inl (cJ, 33, .inr (.inl (a))))) q7 (.inl (cJ, 33, .inr (.inl (b))))) qk = .inr (3, [.ref (ad q2), .ref (ad q4), .ref (ad q6), .ref (ad q7), .int (nI w), .int gr, .int mo, .int xa, .int xb, .int (nI fr), .ref (ad q1), .int nu, .int (nI tt), .int (nI dn), .int (nI db)]) := ((va_up_ne _ _ hn_qk_q7).trans (va_up_ne _ _ hn_qk_q6)).trans ek
      have e1 : (va_up (va_up cs q6 (.inl (cJ, 33, .inr (.inl (a))))) q7 (.inl (cJ, 33, .inr (.inl (b))))) q1 = .inr (1, [.int op, .int rd, .int ra, .int rb, .int rn, .int mk]) := ((va_up_ne _ _ hn_q1_q7).trans (va_up_ne _ _ hn_q1_q6)).trans e1
      have e6 : (va_up (va_up cs q6 (.inl (cJ, 33, .inr (.inl (a))))) q7 (.inl (cJ, 33, .inr (.inl (b))))) q6 = .inl (cJ, 33, .inr (.inl (a))) := (va_up_ne _ _ h67).trans (va_up_self _ _ _)
      have e7 : (va_up (va_up cs q6 (.inl (cJ, 33, .inr (.inl (a))))) q7 (.inl (cJ, 33, .inr (.inl (b))))) q7 = .inl (cJ, 33, .inr (.inl (b))) := va_up_self _ _ _
      refine lv_iload hx hb d_K_foresee_14 (lv_at hl 0 rfl) ?_
      refine lv_if_lt (tgt := 68) hx hb d_K_foresee_16 (by decide) (fun _ => ?_) (fun h1 => absurd (by decide) h1)
      exact kw_vret hx hb hr hlocks hP hK hS (by rw [hv, kv_fo]) d_K_foresee_68
    | succ j ih =>
      intro u v a b H locs ls hk hv hP hS hl
      have ek : (va_up (va_up cs q6 (.inl (cJ, 33, .inr (.inl (a))))) q7 (.inl (cJ, 33, .inr (.inl (b))))) qk = .inr (3, [.ref (ad q2), .ref (ad q4), .ref (ad q6), .ref (ad q7), .int (nI w), .int gr, .int mo, .int xa, .int xb, .int (nI fr), .ref (ad q1), .int nu, .int (nI tt), .int (nI dn), .int (nI db)]) := ((va_up_ne _ _ hn_qk_q7).trans (va_up_ne _ _ hn_qk_q6)).trans ek
      have e1 : (va_up (va_up cs q6 (.inl (cJ, 33, .inr (.inl (a))))) q7 (.inl (cJ, 33, .inr (.inl (b))))) q1 = .inr (1, [.int op, .int rd, .int ra, .int rb, .int rn, .int mk]) := ((va_up_ne _ _ hn_q1_q7).trans (va_up_ne _ _ hn_q1_q6)).trans e1
      have e6 : (va_up (va_up cs q6 (.inl (cJ, 33, .inr (.inl (a))))) q7 (.inl (cJ, 33, .inr (.inl (b))))) q6 = .inl (cJ, 33, .inr (.inl (a))) := (va_up_ne _ _ h67).trans (va_up_self _ _ _)
      have e7 : (va_up (va_up cs q6 (.inl (cJ, 33, .inr (.inl (a))))) q7 (.inl (cJ, 33, .inr (.inl (b))))) q7 = .inl (cJ, 33, .inr (.inl (b))) := va_up_self _ _ _
      rw [nI_pred] at hl
      refine lv_iload hx hb d_K_foresee_14 (lv_at hl 0 rfl) ?_
      refine lv_if_lt (tgt := 68) hx hb d_K_foresee_16 (by decide) (fun h2 => absurd h2 (nI_pos (by omega))) (fun _ => ?_)
      refine lv_iload hx hb d_K_foresee_19 (lv_at hl 0 rfl) ?_
      refine lv_iload_n hx hb d_K_foresee_21 rfl (lv_at hl 3 rfl) ?_
      refine lv_icmp_ge (tgt := 45) hx hb d_K_foresee_22 (by decide) (fun h3 => ?_) (fun h3 => ?_)
      · refine lv_aload_n hx hb d_K_foresee_45 rfl (lv_at hl 4 rfl) ?_
        refine kw_get hx hb hg in_K hown hK hP qk hqk ek rfl 2 (by decide) (hg _ kg_113) rfl rfl d_K_foresee_46 ?_
        refine lv_iload hx hb d_K_foresee_49 (lv_at hl 0 rfl) ?_
        refine lv_lload_n hx hb d_K_foresee_51 rfl (lv_at hl 2 rfl) ?_
        refine kw_last hx hb hK hP hJ hA hS q6 2 hq6 e6 rfl j (rfl) (by omega) (by omega) d_K_foresee_52 (fun H locs hP hS => ?_)
        have ek : (va_up (va_up (va_up cs q6 (.inl (cJ, 33, .inr (.inl (a))))) q7 (.inl (cJ, 33, .inr (.inl (b))))) q6 (.inl (cJ, 33, .inr (.inl (vp_updL a j u))))) qk = .inr (3, [.ref (ad q2), .ref (ad q4), .ref (ad q6), .ref (ad q7), .int (nI w), .int gr, .int mo, .int xa, .int xb, .int (nI fr), .ref (ad q1), .int nu, .int (nI tt), .int (nI dn), .int (nI db)]) := (va_up_ne _ _ (hn_qk_q6)).trans ek
        have e1 : (va_up (va_up (va_up cs q6 (.inl (cJ, 33, .inr (.inl (a))))) q7 (.inl (cJ, 33, .inr (.inl (b))))) q6 (.inl (cJ, 33, .inr (.inl (vp_updL a j u))))) q1 = .inr (1, [.int op, .int rd, .int ra, .int rb, .int rn, .int mk]) := (va_up_ne _ _ (hn_q1_q6)).trans e1
        have e6 : (va_up (va_up (va_up cs q6 (.inl (cJ, 33, .inr (.inl (a))))) q7 (.inl (cJ, 33, .inr (.inl (b))))) q6 (.inl (cJ, 33, .inr (.inl (vp_updL a j u))))) q6 = .inl (cJ, 33, .inr (.inl (vp_updL a j u))) := va_up_self _ _ _
        have e7 : (va_up (va_up (va_up cs q6 (.inl (cJ, 33, .inr (.inl (a))))) q7 (.inl (cJ, 33, .inr (.inl (b))))) q6 (.inl (cJ, 33, .inr (.inl (vp_updL a j u))))) q7 = .inl (cJ, 33, .inr (.inl (b))) := (va_up_ne _ _ (h67.symm)).trans e7
        refine lv_aload_n hx hb d_K_foresee_53 rfl (lv_at hl 4 rfl) ?_
        refine kw_get hx hb hg in_K hown hK hP qk hqk ek rfl 3 (by decide) (hg _ kg_114) rfl rfl d_K_foresee_54 ?_
        refine lv_iload hx hb d_K_foresee_57 (lv_at hl 0 rfl) ?_
        refine lv_lload hx hb d_K_foresee_59 (lv_at hl 1 rfl) ?_
        refine kw_last hx hb hK hP hJ hA hS q7 2 hq7 e7 rfl j (rfl) (by omega) (by omega) d_K_foresee_61 (fun H locs hP hS => ?_)
        have ek : (va_up (va_up (va_up (va_up cs q6 (.inl (cJ, 33, .inr (.inl (a))))) q7 (.inl (cJ, 33, .inr (.inl (b))))) q6 (.inl (cJ, 33, .inr (.inl (vp_updL a j u))))) q7 (.inl (cJ, 33, .inr (.inl (vp_updL b j v))))) qk = .inr (3, [.ref (ad q2), .ref (ad q4), .ref (ad q6), .ref (ad q7), .int (nI w), .int gr, .int mo, .int xa, .int xb, .int (nI fr), .ref (ad q1), .int nu, .int (nI tt), .int (nI dn), .int (nI db)]) := (va_up_ne _ _ (hn_qk_q7)).trans ek
        have e1 : (va_up (va_up (va_up (va_up cs q6 (.inl (cJ, 33, .inr (.inl (a))))) q7 (.inl (cJ, 33, .inr (.inl (b))))) q6 (.inl (cJ, 33, .inr (.inl (vp_updL a j u))))) q7 (.inl (cJ, 33, .inr (.inl (vp_updL b j v))))) q1 = .inr (1, [.int op, .int rd, .int ra, .int rb, .int rn, .int mk]) := (va_up_ne _ _ (hn_q1_q7)).trans e1
        have e6 : (va_up (va_up (va_up (va_up cs q6 (.inl (cJ, 33, .inr (.inl (a))))) q7 (.inl (cJ, 33, .inr (.inl (b))))) q6 (.inl (cJ, 33, .inr (.inl (vp_updL a j u))))) q7 (.inl (cJ, 33, .inr (.inl (vp_updL b j v))))) q6 = .inl (cJ, 33, .inr (.inl (vp_updL a j u))) := (va_up_ne _ _ (h67)).trans e6
        have e7 : (va_up (va_up (va_up (va_up cs q6 (.inl (cJ, 33, .inr (.inl (a))))) q7 (.inl (cJ, 33, .inr (.inl (b))))) q6 (.inl (cJ, 33, .inr (.inl (vp_updL a j u))))) q7 (.inl (cJ, 33, .inr (.inl (vp_updL b j v))))) q7 = .inl (cJ, 33, .inr (.inl (vp_updL b j v))) := va_up_self _ _ _
        refine lv_iinc (k := 0) (v := nI j - 1) (lv' := [(6, .int (nI j - 1)), (4, .long v), (2, .long u), (1, .int (kv_K_steps fr tt op)), (0, .ref (ad qk))]) hx hb d_K_foresee_62 hl rfl (kw_m1 _) (by decide) rfl (fun ls hl => ?_)
        refine lv_goto (tgt := 14) hx hb d_K_foresee_65 (by decide) ?_
        exact ih _ _ _ _ _ _ _ (by omega) (by rw [hv, kv_fo, if_pos h3]) (by rw [kw_uu2 h67] at hP; exact hP) hS (lv_sub hl [0, 1, 2, 3, 4] rfl)
      · refine lv_lload_n hx hb d_K_foresee_25 rfl (lv_at hl 2 rfl) ?_
        refine lv_aload_n hx hb d_K_foresee_26 rfl (lv_at hl 4 rfl) ?_
        refine lv_iload hx hb d_K_foresee_27 (lv_at hl 0 rfl) ?_
        refine kw_calllx (kw_rV (As := [.int (nI j)]) (rest := [.long u]) (q0 := qk) ⟨hx, hb, hml, hown, hg⟩ ⟨callB_of 1 hg (kg_goodG kg_398) rfl rfl rfl (hg _ kg_6) (hg _ kg_395) (by decide +kernel) ⟨by decide, by decide⟩, hg _ kg_397, hg _ (kg_sel (q := (y_K_readsOf, 15)) (by decide +kernel))⟩ (c_K_readsOf l hqk ek hq1 e1 hft htt ) hK hP hqk ek rfl rfl hl.1 rfl (Nat.le_of_ble_eq_true rfl) d_K_foresee_29 ⟨Nat.zero_le _, Nat.zero_le _⟩) hA hS (fun H locs hP hS => ?_)
        refine lv_lor hx hb d_K_foresee_32 ?_
        refine lv_lstore_n (lv' := [(2, .long (u ||| (kv_K_readsOf w fr tt gr mo xb op rd ra rb mk (nI j)))), (6, .int (nI j)), (4, .long v), (1, .int (kv_K_steps fr tt op)), (0, .ref (ad qk))]) hx hb d_K_foresee_33 rfl hl (by decide) rfl (fun ls hl => ?_)
        refine lv_lload hx hb d_K_foresee_34 (lv_at hl 2 rfl) ?_
        refine lv_aload_n hx hb d_K_foresee_36 rfl (lv_at hl 4 rfl) ?_
        refine lv_iload hx hb d_K_foresee_37 (lv_at hl 1 rfl) ?_
        refine kw_calllx (kw_rV (As := [.int (nI j)]) (rest := [.long v]) (q0 := qk) ⟨hx, hb, hml, hown, hg⟩ ⟨callB_of 1 hg (kg_goodG kg_387) rfl rfl rfl (hg _ kg_6) (hg _ kg_384) (by decide +kernel) ⟨by decide, by decide⟩, hg _ kg_386, hg _ (kg_sel (q := (y_K_writesOf, 15)) (by decide +kernel))⟩ (c_K_writesOf l hqk ek hq1 e1 ) hK hP hqk ek rfl rfl hl.1 rfl (Nat.le_of_ble_eq_true rfl) d_K_foresee_39 ⟨Nat.zero_le _, Nat.zero_le _⟩) hA hS (fun H locs hP hS => ?_)
        refine lv_lor hx hb d_K_foresee_42 ?_
        refine lv_lstore (lv' := [(4, .long (v ||| (kv_K_writesOf w fr op rd (nI j)))), (2, .long (u ||| (kv_K_readsOf w fr tt gr mo xb op rd ra rb mk (nI j)))), (6, .int (nI j)), (1, .int (kv_K_steps fr tt op)), (0, .ref (ad qk))]) hx hb d_K_foresee_43 hl (by decide) rfl (fun ls hl => ?_)
        refine lv_aload_n hx hb d_K_foresee_45 rfl (lv_at hl 4 rfl) ?_
        refine kw_get hx hb hg in_K hown hK hP qk hqk ek rfl 2 (by decide) (hg _ kg_113) rfl rfl d_K_foresee_46 ?_
        refine lv_iload hx hb d_K_foresee_49 (lv_at hl 2 rfl) ?_
        refine lv_lload_n hx hb d_K_foresee_51 rfl (lv_at hl 1 rfl) ?_
        refine kw_last hx hb hK hP hJ hA hS q6 2 hq6 e6 rfl j (rfl) (by omega) (by omega) d_K_foresee_52 (fun H locs hP hS => ?_)
        have ek : (va_up (va_up (va_up cs q6 (.inl (cJ, 33, .inr (.inl (a))))) q7 (.inl (cJ, 33, .inr (.inl (b))))) q6 (.inl (cJ, 33, .inr (.inl (vp_updL a j (u ||| (kv_K_readsOf w fr tt gr mo xb op rd ra rb mk (nI j)))))))) qk = .inr (3, [.ref (ad q2), .ref (ad q4), .ref (ad q6), .ref (ad q7), .int (nI w), .int gr, .int mo, .int xa, .int xb, .int (nI fr), .ref (ad q1), .int nu, .int (nI tt), .int (nI dn), .int (nI db)]) := (va_up_ne _ _ (hn_qk_q6)).trans ek
        have e1 : (va_up (va_up (va_up cs q6 (.inl (cJ, 33, .inr (.inl (a))))) q7 (.inl (cJ, 33, .inr (.inl (b))))) q6 (.inl (cJ, 33, .inr (.inl (vp_updL a j (u ||| (kv_K_readsOf w fr tt gr mo xb op rd ra rb mk (nI j)))))))) q1 = .inr (1, [.int op, .int rd, .int ra, .int rb, .int rn, .int mk]) := (va_up_ne _ _ (hn_q1_q6)).trans e1
        have e6 : (va_up (va_up (va_up cs q6 (.inl (cJ, 33, .inr (.inl (a))))) q7 (.inl (cJ, 33, .inr (.inl (b))))) q6 (.inl (cJ, 33, .inr (.inl (vp_updL a j (u ||| (kv_K_readsOf w fr tt gr mo xb op rd ra rb mk (nI j)))))))) q6 = .inl (cJ, 33, .inr (.inl (vp_updL a j (u ||| (kv_K_readsOf w fr tt gr mo xb op rd ra rb mk (nI j)))))) := va_up_self _ _ _
        have e7 : (va_up (va_up (va_up cs q6 (.inl (cJ, 33, .inr (.inl (a))))) q7 (.inl (cJ, 33, .inr (.inl (b))))) q6 (.inl (cJ, 33, .inr (.inl (vp_updL a j (u ||| (kv_K_readsOf w fr tt gr mo xb op rd ra rb mk (nI j)))))))) q7 = .inl (cJ, 33, .inr (.inl (b))) := (va_up_ne _ _ (h67.symm)).trans e7
        refine lv_aload_n hx hb d_K_foresee_53 rfl (lv_at hl 4 rfl) ?_
        refine kw_get hx hb hg in_K hown hK hP qk hqk ek rfl 3 (by decide) (hg _ kg_114) rfl rfl d_K_foresee_54 ?_
        refine lv_iload hx hb d_K_foresee_57 (lv_at hl 2 rfl) ?_
        refine lv_lload hx hb d_K_foresee_59 (lv_at hl 0 rfl) ?_
        refine kw_last hx hb hK hP hJ hA hS q7 2 hq7 e7 rfl j (rfl) (by omega) (by omega) d_K_foresee_61 (fun H locs hP hS => ?_)
        have ek : (va_up (va_up (va_up (va_up cs q6 (.inl (cJ, 33, .inr (.inl (a))))) q7 (.inl (cJ, 33, .inr (.inl (b))))) q6 (.inl (cJ, 33, .inr (.inl (vp_updL a j (u ||| (kv_K_readsOf w fr tt gr mo xb op rd ra rb mk (nI j)))))))) q7 (.inl (cJ, 33, .inr (.inl (vp_updL b j (v ||| (kv_K_writesOf w fr op rd (nI j)))))))) qk = .inr (3, [.ref (ad q2), .ref (ad q4), .ref (ad q6), .ref (ad q7), .int (nI w), .int gr, .int mo, .int xa, .int xb, .int (nI fr), .ref (ad q1), .int nu, .int (nI tt), .int (nI dn), .int (nI db)]) := (va_up_ne _ _ (hn_qk_q7)).trans ek
        have e1 : (va_up (va_up (va_up (va_up cs q6 (.inl (cJ, 33, .inr (.inl (a))))) q7 (.inl (cJ, 33, .inr (.inl (b))))) q6 (.inl (cJ, 33, .inr (.inl (vp_updL a j (u ||| (kv_K_readsOf w fr tt gr mo xb op rd ra rb mk (nI j)))))))) q7 (.inl (cJ, 33, .inr (.inl (vp_updL b j (v ||| (kv_K_writesOf w fr op rd (nI j)))))))) q1 = .inr (1, [.int op, .int rd, .int ra, .int rb, .int rn, .int mk]) := (va_up_ne _ _ (hn_q1_q7)).trans e1
        have e6 : (va_up (va_up (va_up (va_up cs q6 (.inl (cJ, 33, .inr (.inl (a))))) q7 (.inl (cJ, 33, .inr (.inl (b))))) q6 (.inl (cJ, 33, .inr (.inl (vp_updL a j (u ||| (kv_K_readsOf w fr tt gr mo xb op rd ra rb mk (nI j)))))))) q7 (.inl (cJ, 33, .inr (.inl (vp_updL b j (v ||| (kv_K_writesOf w fr op rd (nI j)))))))) q6 = .inl (cJ, 33, .inr (.inl (vp_updL a j (u ||| (kv_K_readsOf w fr tt gr mo xb op rd ra rb mk (nI j)))))) := (va_up_ne _ _ (h67)).trans e6
        have e7 : (va_up (va_up (va_up (va_up cs q6 (.inl (cJ, 33, .inr (.inl (a))))) q7 (.inl (cJ, 33, .inr (.inl (b))))) q6 (.inl (cJ, 33, .inr (.inl (vp_updL a j (u ||| (kv_K_readsOf w fr tt gr mo xb op rd ra rb mk (nI j)))))))) q7 (.inl (cJ, 33, .inr (.inl (vp_updL b j (v ||| (kv_K_writesOf w fr op rd (nI j)))))))) q7 = .inl (cJ, 33, .inr (.inl (vp_updL b j (v ||| (kv_K_writesOf w fr op rd (nI j)))))) := va_up_self _ _ _
        refine lv_iinc (k := 2) (v := nI j - 1) (lv' := [(6, .int (nI j - 1)), (4, .long (v ||| (kv_K_writesOf w fr op rd (nI j)))), (2, .long (u ||| (kv_K_readsOf w fr tt gr mo xb op rd ra rb mk (nI j)))), (1, .int (kv_K_steps fr tt op)), (0, .ref (ad qk))]) hx hb d_K_foresee_62 hl rfl (kw_m1 _) (by decide) rfl (fun ls hl => ?_)
        refine lv_goto (tgt := 14) hx hb d_K_foresee_65 (by decide) ?_
        exact ih _ _ _ _ _ _ _ (by omega) (by rw [hv, kv_fo, if_neg h3]) (by rw [kw_uu2 h67] at hP; exact hP) hS (lv_sub hl [0, 1, 2, 3, 4] rfl)
  exact loop 33 _ _ _ _ _ _ _ (by omega) (rfl) (by rw [kw_id e6, kw_id e7]; exact hP) hS (lv_sub hl [0, 1, 2, 3, 4] rfl)
