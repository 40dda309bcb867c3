/-! pure part: P17 -/
theorem kp_sca {X X' : Nat → Int32} {a : Nat} (hX : kp_eq 8 X' X) (ha : a < 8) : kv_M_scalar (nI a) X' = X a := by
  unfold kv_M_scalar
  rw [if_neg (kp_pos (by omega)), if_neg (fun z => by have := (nI_leI (a := 8) (by decide) (by omega)).mp z; omega), nI_clamp (by omega)]
  exact hX a ha
theorem kp_set {X X' : Nat → Int32} {d : Nat} {v v' : Int32} (hX : kp_eq 8 X' X) (h0 : X 0 = 0) (hd : d < 8) (hv : v' = v) : kp_eq 8 (kv_M_setScalar_qx v' X' d) (kv_R_setX_X X d v) ∧ kv_R_setX_X X d v 0 = 0 := by
  subst hv
  unfold kv_M_setScalar_qx kv_R_setX_X upd
  have hle : nI d ≤ 0 ↔ d ≤ 0 := nI_leI (b := 0) (by omega) (by decide)
  have heq : nI d = 0 ↔ d = 0 := ⟨kp_inj (b := 0) (by omega) (by decide), fun h => by rw [h]; rfl⟩
  by_cases h : d = 0
  · subst h
    rw [if_pos (hle.mpr (Nat.le_refl _)), if_pos (heq.mpr rfl)]
    refine ⟨fun j hj => ?_, ?_⟩
    · show X' j = if j = 0 then 0 else X j
      by_cases hj0 : j = 0
      · rw [if_pos hj0, hj0, hX 0 (by decide), h0]
      · rw [if_neg hj0]; exact hX j hj
    · rw [if_pos rfl]
  · rw [if_neg (fun z => h (by have := hle.mp z; omega)), if_neg (fun z => h (heq.mp z))]
    refine ⟨fun j hj => ?_, ?_⟩
    · show (if j = d then v' else X' j) = if j = d then v' else X j
      by_cases hj0 : j = d
      · rw [if_pos hj0, if_pos hj0]
      · rw [if_neg hj0, if_neg hj0]; exact hX j hj
    · rw [if_neg (fun z => h z.symm)]; exact h0
theorem kp_len {v : Int32} {m : Nat} (hm : m < 2 ^ 20) : kn_len (nI m) v = kn_c v m := by
  unfold kn_len kn_c
  by_cases h0 : v < 0
  · rw [if_pos h0]
    have h1 : v < nI m := Int32.lt_of_lt_of_le h0 (Int32.not_lt.mp (kp_pos (by omega)))
    rw [if_pos h1, if_neg (fun z => Int32.lt_irrefl (Int32.lt_trans z h0))]
    rfl
  · rw [if_neg h0]
    obtain ⟨j, hj, rfl⟩ := nI_of h0
    have h2 : nI j < nI m ↔ j < m := nI_ltI hj (by omega)
    by_cases h3 : j < m
    · rw [if_pos (h2.mpr h3), if_pos (h2.mpr h3)]
      by_cases h4 : 0 < nI j
      · rw [if_pos h4]
      · rw [if_neg h4]
        have h5 : ¬ 0 < j := fun z => h4 ((nI_ltI (a := 0) (by decide) hj).mpr z)
        rw [nI_clamp hj, show j = 0 by omega]; rfl
    · rw [if_neg (fun z => h3 (h2.mp z)), if_neg (fun z => h3 (h2.mp z))]
      by_cases h4 : 0 < nI m
      · rw [if_pos h4, nI_clamp (by omega)]
      · rw [if_neg h4]
        have h5 : ¬ 0 < m := fun z => h4 ((nI_ltI (a := 0) (by decide) (by omega)).mpr z)
        rw [show m = 0 by omega]; rfl
theorem kp_bnd (v : Int32) : kn_len 128 v = kn_b v ∧ kn_b v ≤ 128 := by
  have h := kp_len (v := v) (m := 128) (by decide)
  have e : kn_len 128 v = kn_len (nI 128) v := rfl
  rw [e, h]
  unfold kn_c kn_b
  by_cases h0 : v < 0
  · rw [if_pos h0, if_pos h0]; exact ⟨rfl, by omega⟩
  · rw [if_neg h0, if_neg h0]
    obtain ⟨j, hj, rfl⟩ := nI_of h0
    have h2 : nI j < nI 128 ↔ j < 128 := nI_ltI hj (by decide)
    have h3 : (128 : Int32) < nI j ↔ 128 < j := nI_ltI (a := 128) (by decide) hj
    rw [nI_clamp hj]
    by_cases h4 : j < 128
    · rw [if_pos (h2.mpr h4), if_neg (fun z => by have := h3.mp z; omega)]; exact ⟨rfl, by omega⟩
    · rw [if_neg (fun z => h4 (h2.mp z))]
      by_cases h5 : 128 < j
      · rw [if_pos (h3.mpr h5)]; exact ⟨rfl, by omega⟩
      · rw [if_neg (fun z => h5 (h3.mp z))]; exact ⟨by omega, by omega⟩
theorem kp_cle {v : Int32} {m : Nat} (hm : m < 2 ^ 20) : kn_c v m ≤ m := by
  unfold kn_c
  by_cases h0 : v < 0
  · rw [if_pos h0]; omega
  · rw [if_neg h0]
    obtain ⟨j, hj, rfl⟩ := nI_of h0
    by_cases h3 : nI j < nI m
    · rw [if_pos h3, nI_clamp hj]
      have := (nI_ltI hj (by omega)).mp h3
      omega
    · rw [if_neg h3]; omega
theorem kp_knw : ∀ c, c < 3 → kn_w c = 2 ^ c := by decide
/-- a scalar instruction in both -/
theorem kp_sc {x : kMS} {r : kRS} {k : Nat} (hI : kI r) (hC : kC x r) (hk : r.nx = nI k) (hkm : k < r.ma) (ho : r.po k < 8) (h4 : r.po k ≠ 4) (hst : r.st = 0) (hq : r.po k = 5 ∨ r.po k = 6 ∨ r.po k = 7 → r.qu = 0) : kI (kq_sc r k) ∧ kC (km_sc x (k + 1)) (kq_sc r k) := by
  have hc : r.po k = 0 ∨ r.po k = 1 ∨ r.po k = 2 ∨ r.po k = 3 ∨ r.po k = 5 ∨ r.po k = 6 ∨ r.po k = 7 := by omega
  obtain ⟨c1, c2, c3, c4, c5, c6, c7, c8, c9, c10, c11, c12, c13, c14, c15, c16, c17⟩ := hC.1
  obtain ⟨i1, i2, i3, i4, i5, i6, i7, i8⟩ := hI.2.1
  obtain ⟨p1, p2, p3, p4, p5, p6⟩ := hI.1.2 k hkm
  obtain ⟨d1, d2, d3, d4, d5, d6⟩ := hC.2.1.2 k hkm
  have sa := kp_sca c15 p3
  have sb := kp_sca c15 p4
  have hq0 : r.po k = 5 ∨ r.po k = 6 ∨ r.po k = 7 → nI r.qu ≤ 0 := fun h => by rw [hq h]; decide
  -- it is enough that the scalars agree
  suffices hs : kIs (kq_sc r k) ∧ kCs (km_sc x (k + 1)) (kq_sc r k) by
    refine ⟨⟨?_, hs.1, ?_⟩, hs.2, ?_, ?_⟩
    · refine hI.1.of ?_ ?_ ?_ ?_ ?_ ?_ ?_ <;> simp only [kq_sc_la, kq_sc_th, kq_sc_st, kq_sc_nx, kq_sc_wi, kq_sc_gp, kq_sc_vl, kq_sc_sa, kq_sc_bo, kq_sc_cy, kq_sc_sd, kq_sc_ma, kq_sc_qu, kq_sc_X, kq_sc_F, kq_sc_M, kq_sc_po, kq_sc_pd, kq_sc_pa, kq_sc_pb, kq_sc_pn, kq_sc_pm, kq_sc_wh, kq_sc_wd, kq_sc_rg, kq_sc_fr, kq_sc_sp, kq_sc_dn, kq_sc_bf, kq_sc_XA, kq_sc_XB]
    · have h := hI.2.2
      unfold kIq at h ⊢
      simp only [kq_sc_la, kq_sc_th, kq_sc_st, kq_sc_nx, kq_sc_wi, kq_sc_gp, kq_sc_vl, kq_sc_sa, kq_sc_bo, kq_sc_cy, kq_sc_sd, kq_sc_ma, kq_sc_qu, kq_sc_X, kq_sc_F, kq_sc_M, kq_sc_po, kq_sc_pd, kq_sc_pa, kq_sc_pb, kq_sc_pn, kq_sc_pm, kq_sc_wh, kq_sc_wd, kq_sc_rg, kq_sc_fr, kq_sc_sp, kq_sc_dn, kq_sc_bf, kq_sc_XA, kq_sc_XB]
      exact h
    · refine hC.2.1.of ?_ ?_ ?_ ?_ ?_ ?_ ?_ ?_ ?_ ?_ ?_ ?_ ?_ <;> simp only [kq_sc_la, kq_sc_th, kq_sc_st, kq_sc_nx, kq_sc_wi, kq_sc_gp, kq_sc_vl, kq_sc_sa, kq_sc_bo, kq_sc_cy, kq_sc_sd, kq_sc_ma, kq_sc_qu, kq_sc_X, kq_sc_F, kq_sc_M, kq_sc_po, kq_sc_pd, kq_sc_pa, kq_sc_pb, kq_sc_pn, kq_sc_pm, kq_sc_wh, kq_sc_wd, kq_sc_rg, kq_sc_fr, kq_sc_sp, kq_sc_dn, kq_sc_bf, kq_sc_XA, kq_sc_XB, km_sc_la, km_sc_ma, km_sc_qu, km_sc_st, km_sc_nx, km_sc_bo, km_sc_cy, km_sc_sd, km_sc_X, km_sc_F, km_sc_G, km_sc_wp, km_sc_gp, km_sc_ln, km_sc_sa, km_sc_wk, km_sc_po, km_sc_pd, km_sc_pa, km_sc_pb, km_sc_pn, km_sc_pm, km_sc_ww, km_sc_gr, km_sc_mo, km_sc_xa, km_sc_xb, km_sc_fr, km_sc_wi, km_sc_nu, km_sc_tt, km_sc_dn, km_sc_db, km_sc_rF, km_sc_wF]
    · have h := hC.2.2
      unfold kCq kCe at h ⊢
      simp only [kq_sc_la, kq_sc_th, kq_sc_st, kq_sc_nx, kq_sc_wi, kq_sc_gp, kq_sc_vl, kq_sc_sa, kq_sc_bo, kq_sc_cy, kq_sc_sd, kq_sc_ma, kq_sc_qu, kq_sc_X, kq_sc_F, kq_sc_M, kq_sc_po, kq_sc_pd, kq_sc_pa, kq_sc_pb, kq_sc_pn, kq_sc_pm, kq_sc_wh, kq_sc_wd, kq_sc_rg, kq_sc_fr, kq_sc_sp, kq_sc_dn, kq_sc_bf, kq_sc_XA, kq_sc_XB, km_sc_la, km_sc_ma, km_sc_qu, km_sc_st, km_sc_nx, km_sc_bo, km_sc_cy, km_sc_sd, km_sc_X, km_sc_F, km_sc_G, km_sc_wp, km_sc_gp, km_sc_ln, km_sc_sa, km_sc_wk, km_sc_po, km_sc_pd, km_sc_pa, km_sc_pb, km_sc_pn, km_sc_pm, km_sc_ww, km_sc_gr, km_sc_mo, km_sc_xa, km_sc_xb, km_sc_fr, km_sc_wi, km_sc_nu, km_sc_tt, km_sc_dn, km_sc_db, km_sc_rF, km_sc_wF]
      exact h
  unfold kIs kCs
  simp only [kq_sc_la, kq_sc_th, kq_sc_st, kq_sc_nx, kq_sc_wi, kq_sc_gp, kq_sc_vl, kq_sc_sa, kq_sc_bo, kq_sc_cy, kq_sc_sd, kq_sc_ma, kq_sc_qu, kq_sc_X, kq_sc_F, kq_sc_M, kq_sc_po, kq_sc_pd, kq_sc_pa, kq_sc_pb, kq_sc_pn, kq_sc_pm, kq_sc_wh, kq_sc_wd, kq_sc_rg, kq_sc_fr, kq_sc_sp, kq_sc_dn, kq_sc_bf, kq_sc_XA, kq_sc_XB, km_sc_la, km_sc_ma, km_sc_qu, km_sc_st, km_sc_nx, km_sc_bo, km_sc_cy, km_sc_sd, km_sc_X, km_sc_F, km_sc_G, km_sc_wp, km_sc_gp, km_sc_ln, km_sc_sa, km_sc_wk, km_sc_po, km_sc_pd, km_sc_pa, km_sc_pb, km_sc_pn, km_sc_pm, km_sc_ww, km_sc_gr, km_sc_mo, km_sc_xa, km_sc_xb, km_sc_fr, km_sc_wi, km_sc_nu, km_sc_tt, km_sc_dn, km_sc_db, km_sc_rF, km_sc_wF, kv_M_doScalar_st, kv_M_doScalar_nx, kv_M_doScalar_bo, kv_M_doScalar_X, kv_M_doScalar_wp, kv_M_doScalar_gp, kv_M_doScalar_ln, kv_M_doScalar_sa, kv_R_scalarDone, kv_R_scalarDone_nx, kv_R_scalarDone_wi, kv_R_scalarDone_gp, kv_R_scalarDone_vl, kv_R_scalarDone_sa, kv_R_scalarDone_bo, kv_R_scalarDone_X, d1, d2, d3, d4, d5, c5, hk, sa, sb, c4, hst]
  rcases hc with h | h | h | h | h | h | h
  · simp (decide := true) only [h, if_true, if_false]
    obtain ⟨t1, t2⟩ := kp_set (v := r.pn k) c15 i8 p2 rfl
    exact ⟨⟨i1, i2, i3, i4, i5, i6, i7, t2⟩, c1, c2, c3, trivial, trivial, c6, c7, c8, c9, c10, c11, c12, c13, c14, t1, c16, c17⟩
  · simp (decide := true) only [h, if_true, if_false]
    obtain ⟨t1, t2⟩ := kp_set (v := r.X (r.pa k) + r.X (r.pb k)) c15 i8 p2 rfl
    exact ⟨⟨i1, i2, i3, i4, i5, i6, i7, t2⟩, c1, c2, c3, trivial, trivial, c6, c7, c8, c9, c10, c11, c12, c13, c14, t1, c16, c17⟩
  · simp (decide := true) only [h, if_true, if_false]
    obtain ⟨t1, t2⟩ := kp_set (v := r.X (r.pa k) + r.pn k) c15 i8 p2 rfl
    exact ⟨⟨i1, i2, i3, i4, i5, i6, i7, t2⟩, c1, c2, c3, trivial, trivial, c6, c7, c8, c9, c10, c11, c12, c13, c14, t1, c16, c17⟩
  · simp (decide := true) only [h, if_true, if_false]
    exact ⟨⟨i1, i2, i3, i4, i5, i6, i7, i8⟩, c1, c2, c3, trivial, trivial, c6, c7, c8, c9, c10, c11, c12, c13, c14, c15, c16, c17⟩
  · have hqz := hq0 (Or.inl h)
    simp (decide := true) only [h, if_true, if_false, if_pos hqz]
    obtain ⟨b1, b2⟩ := kp_bnd (r.X (r.pa k))
    exact ⟨⟨i1, i2, i3, i4, i5, i6, b2, i8⟩, c1, c2, c3, trivial, trivial, b1, c7, c8, c9, c10, c11, c12, c13, c14, c15, c16, c17⟩
  · have hqz := hq0 (Or.inr (Or.inl h))
    obtain ⟨cd, g1, g2, g3⟩ := p6 h
    have e4 : (r.pn k).toNatClampNeg = cd := by rw [g3, nI_clamp (by omega)]
    simp (decide := true) only [h, if_true, if_false, if_pos hqz, kv_R_configures_wi, kv_R_configures_gp, kv_R_configures_vl, kv_R_configures_sa, kv_R_configures_X, e4]
    have w1 := kp_knw (cd % 4) (by omega)
    have w2 := kp_knw (cd / 4) (by omega)
    rw [w1, w2, kp_mst _ (by omega) _ (by omega)]
    have pw1 := kp_pw (p := cd % 4) (by omega)
    have pw2 := kp_pw (p := cd / 4) (by omega)
    have hm := kp_most pw2 pw1
    rw [kp_len (by omega)]
    obtain ⟨t1, t2⟩ := kp_set (v := nI (kn_c (r.X (r.pa k)) (8 * 2 ^ (cd / 4) / 2 ^ (cd % 4)))) c15 i8 p2 rfl
    exact ⟨⟨i1, i2, pw1, pw2, kp_cle (by omega), by omega, i7, t2⟩, c1, c2, c3, trivial, trivial, c6, c7, c8, by omega, by omega, rfl, rfl, rfl, trivial, t1, c16, c17⟩
  · have hqz := hq0 (Or.inr (Or.inr h))
    simp (decide := true) only [h, if_true, if_false, if_pos hqz]
    have en : kv_B_number 64 (2 ^ x.wp) (8 * nI (r.pa k)) x.F = kv_R_element r.F (r.pa k) 0 r.wi := by
      have hw5 := kp_w5 i3
      rw [c11, show (8 : Int32) = nI 8 from rfl, pk_mul, kp_numL i3 c16 (by omega) (by decide), kv_R_element, Nat.zero_mul, Nat.add_zero]
    obtain ⟨t1, t2⟩ := kp_set (v := kv_R_element r.F (r.pa k) 0 r.wi) c15 i8 p2 en
    exact ⟨⟨i1, i2, i3, i4, i5, i6, i7, t2⟩, c1, c2, c3, trivial, trivial, c6, c7, c8, c9, c10, c11, c12, c13, c14, t1, c16, c17⟩
