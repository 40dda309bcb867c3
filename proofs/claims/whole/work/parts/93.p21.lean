/-! pure part: P21 -/
theorem kp_nk {nx : Int32} {ma : Nat} (h1 : ¬ nx < 0) (h2 : ¬ nI ma ≤ nx) (h3 : ma ≤ 40) : nx = nI nx.toNatClampNeg ∧ nx.toNatClampNeg < ma := by
  obtain ⟨j, hj, rfl⟩ := nI_of h1
  rw [nI_leI (by omega) hj] at h2
  rw [nI_clamp hj]
  exact ⟨rfl, by omega⟩
theorem kp_stv {x : kMS} {r : kRS} (v : Nat) (hI : kI r) (hC : kC x r) : kI (kq_st r v) ∧ kC (km_st x v) (kq_st r v) := by
  obtain ⟨c1, c2, c3, c4, c5, c6, c7, c8, c9, c10, c11, c12, c13, c14, c15, c16, c17⟩ := hC.1
  refine ⟨⟨?_, ?_, ?_⟩, ?_, ?_, ?_⟩
  · refine hI.1.of ?_ ?_ ?_ ?_ ?_ ?_ ?_ <;> simp only [kq_st_la, kq_st_th, kq_st_st, kq_st_nx, kq_st_wi, kq_st_gp, kq_st_vl, kq_st_sa, kq_st_bo, kq_st_cy, kq_st_sd, kq_st_ma, kq_st_qu, kq_st_X, kq_st_F, kq_st_M, kq_st_po, kq_st_pd, kq_st_pa, kq_st_pb, kq_st_pn, kq_st_pm, kq_st_wh, kq_st_wd, kq_st_rg, kq_st_fr, kq_st_sp, kq_st_dn, kq_st_bf, kq_st_XA, kq_st_XB]
  · refine hI.2.1.of ?_ ?_ ?_ ?_ ?_ ?_ ?_ ?_ <;> simp only [kq_st_la, kq_st_th, kq_st_st, kq_st_nx, kq_st_wi, kq_st_gp, kq_st_vl, kq_st_sa, kq_st_bo, kq_st_cy, kq_st_sd, kq_st_ma, kq_st_qu, kq_st_X, kq_st_F, kq_st_M, kq_st_po, kq_st_pd, kq_st_pa, kq_st_pb, kq_st_pn, kq_st_pm, kq_st_wh, kq_st_wd, kq_st_rg, kq_st_fr, kq_st_sp, kq_st_dn, kq_st_bf, kq_st_XA, kq_st_XB]
  · have h := hI.2.2
    unfold kIq at h ⊢
    simp only [kq_st_la, kq_st_th, kq_st_st, kq_st_nx, kq_st_wi, kq_st_gp, kq_st_vl, kq_st_sa, kq_st_bo, kq_st_cy, kq_st_sd, kq_st_ma, kq_st_qu, kq_st_X, kq_st_F, kq_st_M, kq_st_po, kq_st_pd, kq_st_pa, kq_st_pb, kq_st_pn, kq_st_pm, kq_st_wh, kq_st_wd, kq_st_rg, kq_st_fr, kq_st_sp, kq_st_dn, kq_st_bf, kq_st_XA, kq_st_XB]
    exact h
  · unfold kCs
    simp only [kq_st_la, kq_st_th, kq_st_st, kq_st_nx, kq_st_wi, kq_st_gp, kq_st_vl, kq_st_sa, kq_st_bo, kq_st_cy, kq_st_sd, kq_st_ma, kq_st_qu, kq_st_X, kq_st_F, kq_st_M, kq_st_po, kq_st_pd, kq_st_pa, kq_st_pb, kq_st_pn, kq_st_pm, kq_st_wh, kq_st_wd, kq_st_rg, kq_st_fr, kq_st_sp, kq_st_dn, kq_st_bf, kq_st_XA, kq_st_XB, km_st_la, km_st_ma, km_st_qu, km_st_st, km_st_nx, km_st_bo, km_st_cy, km_st_sd, km_st_X, km_st_F, km_st_G, km_st_wp, km_st_gp, km_st_ln, km_st_sa, km_st_wk, km_st_po, km_st_pd, km_st_pa, km_st_pb, km_st_pn, km_st_pm, km_st_ww, km_st_gr, km_st_mo, km_st_xa, km_st_xb, km_st_fr, km_st_wi, km_st_nu, km_st_tt, km_st_dn, km_st_db, km_st_rF, km_st_wF]
    exact ⟨c1, c2, c3, trivial, c5, c6, c7, c8, c9, c10, c11, c12, c13, c14, c15, c16, c17⟩
  · refine hC.2.1.of ?_ ?_ ?_ ?_ ?_ ?_ ?_ ?_ ?_ ?_ ?_ ?_ ?_ <;> simp only [kq_st_la, kq_st_th, kq_st_st, kq_st_nx, kq_st_wi, kq_st_gp, kq_st_vl, kq_st_sa, kq_st_bo, kq_st_cy, kq_st_sd, kq_st_ma, kq_st_qu, kq_st_X, kq_st_F, kq_st_M, kq_st_po, kq_st_pd, kq_st_pa, kq_st_pb, kq_st_pn, kq_st_pm, kq_st_wh, kq_st_wd, kq_st_rg, kq_st_fr, kq_st_sp, kq_st_dn, kq_st_bf, kq_st_XA, kq_st_XB, km_st_la, km_st_ma, km_st_qu, km_st_st, km_st_nx, km_st_bo, km_st_cy, km_st_sd, km_st_X, km_st_F, km_st_G, km_st_wp, km_st_gp, km_st_ln, km_st_sa, km_st_wk, km_st_po, km_st_pd, km_st_pa, km_st_pb, km_st_pn, km_st_pm, km_st_ww, km_st_gr, km_st_mo, km_st_xa, km_st_xb, km_st_fr, km_st_wi, km_st_nu, km_st_tt, km_st_dn, km_st_db, km_st_rF, km_st_wF]
  · have h := hC.2.2
    unfold kCq kCe at h ⊢
    simp only [kq_st_la, kq_st_th, kq_st_st, kq_st_nx, kq_st_wi, kq_st_gp, kq_st_vl, kq_st_sa, kq_st_bo, kq_st_cy, kq_st_sd, kq_st_ma, kq_st_qu, kq_st_X, kq_st_F, kq_st_M, kq_st_po, kq_st_pd, kq_st_pa, kq_st_pb, kq_st_pn, kq_st_pm, kq_st_wh, kq_st_wd, kq_st_rg, kq_st_fr, kq_st_sp, kq_st_dn, kq_st_bf, kq_st_XA, kq_st_XB, km_st_la, km_st_ma, km_st_qu, km_st_st, km_st_nx, km_st_bo, km_st_cy, km_st_sd, km_st_X, km_st_F, km_st_G, km_st_wp, km_st_gp, km_st_ln, km_st_sa, km_st_wk, km_st_po, km_st_pd, km_st_pa, km_st_pb, km_st_pn, km_st_pm, km_st_ww, km_st_gr, km_st_mo, km_st_xa, km_st_xb, km_st_fr, km_st_wi, km_st_nu, km_st_tt, km_st_dn, km_st_db, km_st_rF, km_st_wF]
    exact h
theorem kp_one4 {x : kMS} {r : kRS} {k : Nat} (hk : r.nx = nI k) (hx : x.nx = r.nx) (ho : x.po (k + 1) = 4) (hst : x.st = 0) : km_sc x (k + 1) = km_st x 1 := by
  unfold km_sc km_st
  simp only [kv_M_doScalar_st, kv_M_doScalar_nx, kv_M_doScalar_bo, kv_M_doScalar_X, kv_M_doScalar_wp, kv_M_doScalar_gp, kv_M_doScalar_ln, kv_M_doScalar_sa, ho]
  simp (decide := true) only [if_true, if_false]
theorem kp_goesOnN {r : kRS} (hI : kI r) : kq_goesOnN r := by
  obtain ⟨i1, i2, i3, i4, i5, i6, i7, i8⟩ := hI.2.1
  have hm := kp_most i4 i3
  have hw := kp_w5 i3
  have hg := kp_w5 i4
  have hma := hI.1.1
  unfold kq_goesOnN kN
  refine ⟨hma, hg.1, hg.2, i2, by omega, i6, by omega, fun b hb => ?_, fun k hk hkm => ?_⟩
  · obtain ⟨w1, S, w2⟩ := hI.2.2.1 b hb
    have h1 := kp_most S.2.1 S.1
    have h2 := S.2.2.2.2.2.2.2.1
    have h3 := (hI.2.2.2.2.2.1 b hb).2
    exact ⟨by omega, h3, by omega⟩
  · obtain ⟨p1, p2, p3, p4, p5, p6⟩ := hI.1.2 k hkm
    refine ⟨p1, p2, p3, p4, fun h => ?_, fun hil h19 i hi => ?_⟩
    · obtain ⟨c, g1, g2, g3⟩ := p6 h
      rw [g3, nI_clamp (by omega)]
      exact ⟨rfl, g1⟩
    · clear p6
      have hG := (kp_ill i3 i4 p1 (by omega) p2 p3 p4).mp hil
      exact kp_al i4 i3 p4 (hG.2.1 (by omega)) (by omega)
theorem kp_advN {x : kMS} {r : kRS} (hI : kI r) (hC : kC x r) : km_advN x := by
  obtain ⟨c1, c2, c3, c4, c5, c6, c7, c8, c9, c10, c11, c12, c13, c14, c15, c16, c17⟩ := hC.1
  obtain ⟨i1, i2, i3, i4, i5, i6, i7, i8⟩ := hI.2.1
  have hm := kp_most i4 i3
  unfold km_advN
  have hma := hI.1.1
  refine ⟨by omega, by omega, c9, by omega, by omega, fun i hi => ?_, fun i hi => ?_, fun i hi h6 => ?_⟩
  · have hi' : i < r.qu := by omega
    obtain ⟨e1, e2, e3, e4, e5, e6, e7, e8, e9, e10, e11⟩ := hC.2.2.1 i hi'
    have S := (hI.2.2.1 i hi').2.1
    have h1 := kp_most S.2.1 S.1
    have h2 := S.2.2.2.2.2.2.2.1
    have h3 := (hI.2.2.2.2.2.1 i hi').2
    rw [e10]; omega
  · cases i with
    | zero => rw [hC.2.1.1.2]; decide
    | succ j => rw [(hC.2.1.2 j (by omega)).2.1]; exact (hI.1.2 j (by omega)).2.1
  · cases i with
    | zero => rw [hC.2.1.1.1] at h6; exact absurd h6 (by decide)
    | succ j =>
      have hj : j < r.ma := by omega
      rw [(hC.2.1.2 j hj).1] at h6
      have h6' : r.po j = 6 := kp_inj (b := 6) (by have := (hI.1.2 j hj).1; omega) (by decide) h6
      obtain ⟨c, g1, g2, g3⟩ := (hI.1.2 j hj).2.2.2.2.2 h6'
      rw [(hC.2.1.2 j hj).2.2.2.2.1]
      exact ⟨c, g1, g3⟩
/-- going on, in both -/
theorem kp_goes {x : kMS} {r : kRS} (hI : kI r) (hC : kC x r) (hst : r.st = 0) : kI (kq_goesOn r) ∧ kC (km_adv x) (kq_goesOn r) := by
  obtain ⟨c1, c2, c3, c4, c5, c6, c7, c8, c9, c10, c11, c12, c13, c14, c15, c16, c17⟩ := hC.1
  obtain ⟨i1, i2, i3, i4, i5, i6, i7, i8⟩ := hI.2.1
  by_cases h1 : r.nx < 0
  · rw [kq_goesOn_1 h1, km_adv_1 (by rw [c5]; exact h1)]
    exact kp_stv 3 hI hC
  by_cases h2 : nI r.ma ≤ r.nx
  · rw [kq_goesOn_2 h1 h2, km_adv_2 (by rw [c5]; exact h1) (by rw [c5, c2]; exact h2)]
    exact kp_stv 3 hI hC
  obtain ⟨hk, hkm⟩ := kp_nk h1 h2 hI.1.1
  have x1 : ¬ x.nx < 0 := by rw [c5]; exact h1
  have x2 : ¬ nI x.ma ≤ x.nx := by rw [c5, c2]; exact h2
  generalize hkk : r.nx.toNatClampNeg = k at hk hkm
  have hxk : x.nx.toNatClampNeg = k := by rw [c5, hkk]
  obtain ⟨p1, p2, p3, p4, p5, p6⟩ := hI.1.2 k hkm
  clear p6
  obtain ⟨d1, d2, d3, d4, d5, d6⟩ := hC.2.1.2 k hkm
  have hkr : nI r.nx.toNatClampNeg = r.nx := by rw [hkk]; exact hk.symm
  have lt8 : nI (r.po k) < 8 ↔ r.po k < 8 := nI_ltI (b := 8) (by omega) (by decide)
  by_cases h8 : r.po k < 8
  · -- scalar
    have hfb : kv_S_forbids (nI x.wp) (nI x.gp) (nI (x.po (k + 1))) (nI (x.pd (k + 1))) (nI (x.pa (k + 1))) (nI (x.pb (k + 1))) (x.pm (k + 1)) = 0 := by
      unfold kv_S_forbids kv_I_isVector
      rw [d1, if_pos (lt8.mpr h8), if_pos rfl]
    have hiv : kv_I_isVector (nI (x.po (k + 1))) = 0 := by
      unfold kv_I_isVector
      rw [d1, if_pos (lt8.mpr h8)]
    rw [← hxk] at hfb hiv
    have hq0 : nI x.qu = 0 ↔ r.qu = 0 := by
      rw [c3]; exact ⟨kp_inj (b := 0) (by omega) (by decide), fun h => by rw [h]; rfl⟩
    have hne : kv_I_needsEmptyQueue (nI (x.po (x.nx.toNatClampNeg + 1))) = 0 ↔ ¬ (r.po k = 5 ∨ r.po k = 6 ∨ r.po k = 7) := by
      rw [hxk, d1]
      unfold kv_I_needsEmptyQueue
      have e5 : nI (r.po k) = 5 ↔ r.po k = 5 := ⟨kp_inj (b := 5) (by omega) (by decide), fun h => by rw [h]; rfl⟩
      have e6 : nI (r.po k) = 6 ↔ r.po k = 6 := ⟨kp_inj (b := 6) (by omega) (by decide), fun h => by rw [h]; rfl⟩
      have e7 : nI (r.po k) = 7 ↔ r.po k = 7 := ⟨kp_inj (b := 7) (by omega) (by decide), fun h => by rw [h]; rfl⟩
      simp only [e5, e6, e7]
      by_cases h5 : r.po k = 5 <;> by_cases h6 : r.po k = 6 <;> by_cases h7 : r.po k = 7 <;> simp (decide := true) only [h5, h6, h7, if_true, if_false] <;> simp
    have hadv : ¬ (r.qu ≠ 0 ∧ (r.po k = 5 ∨ r.po k = 6 ∨ r.po k = 7)) → km_adv x = km_sc x (k + 1) := by
      intro hn
      rw [← hxk]
      by_cases hq : r.qu = 0
      · exact km_adv_4 x1 x2 hfb hiv (hq0.mpr hq)
      · exact km_adv_5 x1 x2 hfb hiv (fun z => hq (hq0.mp z)) (hne.mpr (fun z => hn ⟨hq, z⟩))
    by_cases h4 : r.po k = 4
    · have g := kq_goesOn_4 (x := r) h1 h2 (by rw [hkk]; exact lt8.mpr h8) (by rw [hkk, h4]; rfl) hkr
      rw [g, hadv (fun z => by omega), kp_one4 hk c5 (by rw [d1]; exact h4) (by rw [c4]; exact hst)]
      exact kp_stv 1 hI hC
    · have g := kq_goesOn_5 (x := r) h1 h2 (by rw [hkk]; exact lt8.mpr h8) (by rw [hkk]; exact fun z => h4 (kp_inj (b := 4) (by omega) (by decide) z)) hkr
      rw [g, hkk]
      by_cases hw : r.qu ≠ 0 ∧ (r.po k = 5 ∨ r.po k = 6 ∨ r.po k = 7)
      · -- it waits
        rw [km_adv_6 x1 x2 hfb hiv (fun z => hw.1 (hq0.mp z)) (fun z => (hne.mp z) hw.2)]
        have hqp : ¬ nI r.qu ≤ 0 := fun z => by have := (nI_leI (b := 0) (by omega) (by decide)).mp z; omega
        have e : kq_sc r k = r := by
          unfold kq_sc
          simp only [kv_R_scalarDone, kv_R_scalarDone_nx, kv_R_scalarDone_wi, kv_R_scalarDone_gp, kv_R_scalarDone_vl, kv_R_scalarDone_sa, kv_R_scalarDone_bo, kv_R_scalarDone_X]
          rcases hw.2 with h | h | h
          · simp (decide := true) only [h, if_true, if_false, if_neg hqp]; rw [← hk]; exact kmk_eta r
          · simp (decide := true) only [h, if_true, if_false, if_neg hqp]; rw [← hk]; exact kmk_eta r
          · simp (decide := true) only [h, if_true, if_false, if_neg hqp]; rw [← hk]; exact kmk_eta r
        rw [e]
        exact ⟨hI, hC⟩
      · rw [hadv hw]
        exact kp_sc hI hC hk hkm h8 h4 hst (fun z => by
          by_cases hq : r.qu = 0
          · exact hq
          · exact absurd ⟨hq, z⟩ hw)
  · -- a vector instruction
    have n8 : ¬ nI (r.po r.nx.toNatClampNeg) < 8 := by rw [hkk]; exact fun z => h8 (lt8.mp z)
    have hill := kp_ill (po := r.po) (pd := r.pd) (pa := r.pa) (pb := r.pb) (pm := r.pm) (k := k) i3 i4 p1 (by omega) p2 p3 p4
    have hforb := kp_forb (o := r.po k) (d := r.pd k) (a := r.pa k) (b := r.pb k) (m := r.pm k) c9 c10 p1 (by omega) p2 p3 p4
    rw [c11, c12] at hforb
    have hiv : ¬ kv_I_isVector (nI (x.po (x.nx.toNatClampNeg + 1))) = 0 := by
      unfold kv_I_isVector
      rw [hxk, d1, if_neg (fun z => h8 (lt8.mp z))]
      decide
    by_cases hG : kpG (r.po k) (r.pd k) (r.pa k) (r.pb k) (r.pm k) r.wi r.gp
    · have hil : kv_R_illegal r.wi r.gp r.po r.pd r.pa r.pb r.pm r.nx.toNatClampNeg = 0 := by rw [hkk]; exact hill.mpr hG
      have hfb : kv_S_forbids (nI x.wp) (nI x.gp) (nI (x.po (x.nx.toNatClampNeg + 1))) (nI (x.pd (x.nx.toNatClampNeg + 1))) (nI (x.pa (x.nx.toNatClampNeg + 1))) (nI (x.pb (x.nx.toNatClampNeg + 1))) (x.pm (x.nx.toNatClampNeg + 1)) = 0 := by
        rw [hxk, d1, d2, d3, d4, d6]; exact hforb.mpr hG
      have l4 : 4 ≤ nI r.qu ↔ 4 ≤ r.qu := nI_leI (a := 4) (by decide) (by omega)
      by_cases hq4 : 4 ≤ r.qu
      · rw [kq_goesOn_7 h1 h2 n8 hil (l4.mpr hq4) hkr, km_adv_7 x1 x2 hfb hiv (by rw [c3]; exact l4.mpr hq4)]
        exact ⟨hI, hC⟩
      · have g4 : ¬ 4 ≤ nI r.qu := fun z => hq4 (l4.mp z)
        have hheld : kv_M_mustWaitForQueue x.qu x.gp x.wk x.po x.pb x.pm x.wi x.dn x.wF (x.nx.toNatClampNeg + 1) = 0 ↔ (kv_R_unit (nI (r.po k)) = 2 → kv_R_held r.gp r.qu r.po r.pd r.pb r.pm r.wh r.wd r.fr r.sp r.dn k = 0) := by rw [hxk]; exact kp_held hI hC hkm hG
        by_cases hwait : kv_M_mustWaitForQueue x.qu x.gp x.wk x.po x.pb x.pm x.wi x.dn x.wF (x.nx.toNatClampNeg + 1) = 0
        · have hH := hheld.mp hwait
          rw [km_adv_9 x1 x2 hfb hiv (by rw [c3]; exact g4) hwait, hxk]
          have hgo : kq_goesOn r = kq_ho r k := by
            by_cases hu : kv_R_unit (nI (r.po k)) = 2
            · have g := kq_goesOn_9 (x := r) h1 h2 n8 hil g4 (by rw [hkk]; exact hu) (by rw [hkk]; exact hH hu) hkr
              rw [g, hkk]
            · have g := kq_goesOn_10 (x := r) h1 h2 n8 hil g4 (by rw [hkk]; exact hu) hkr
              rw [g, hkk]
          rw [hgo]
          refine kp_hand hI hC hk hkm (by omega) (by omega) hG (fun h17 q hq j hj1 hj2 => ?_)
          have hu : kv_R_unit (nI (r.po k)) = 2 := by
            unfold kv_R_unit
            rw [if_neg (fun z => by have := (nI_ltI (b := 17) (by omega) (by decide)).mp z; omega)]
          have h := hH hu
          unfold kv_R_held at h
          rw [kp_ho _ _ _ (Or.inl rfl)] at h
          exact (h.2 q (Nat.zero_le _) (by omega)).2 j hj1 (by omega)
        · rw [km_adv_8 x1 x2 hfb hiv (by rw [c3]; exact g4) hwait]
          have hn : ¬ (kv_R_unit (nI (r.po k)) = 2 → kv_R_held r.gp r.qu r.po r.pd r.pb r.pm r.wh r.wd r.fr r.sp r.dn k = 0) := fun z => hwait (hheld.mpr z)
          by_cases hu : kv_R_unit (nI (r.po k)) = 2
          · have hh : ¬ kv_R_held r.gp r.qu r.po r.pd r.pb r.pm r.wh r.wd r.fr r.sp r.dn k = 0 := fun z => hn (fun _ => z)
            rw [kq_goesOn_8 (x := r) h1 h2 n8 hil g4 (by rw [hkk]; exact hu) (by rw [hkk]; exact hh) hkr]
            exact ⟨hI, hC⟩
          · exact absurd (fun z => absurd z hu) hn
    · have hil : ¬ kv_R_illegal r.wi r.gp r.po r.pd r.pa r.pb r.pm r.nx.toNatClampNeg = 0 := by rw [hkk]; exact fun z => hG (hill.mp z)
      have hfb : ¬ kv_S_forbids (nI x.wp) (nI x.gp) (nI (x.po (x.nx.toNatClampNeg + 1))) (nI (x.pd (x.nx.toNatClampNeg + 1))) (nI (x.pa (x.nx.toNatClampNeg + 1))) (nI (x.pb (x.nx.toNatClampNeg + 1))) (x.pm (x.nx.toNatClampNeg + 1)) = 0 := by
        rw [hxk, d1, d2, d3, d4, d6]; exact fun z => hG (hforb.mp z)
      rw [kq_goesOn_3 h1 h2 n8 hil hkr, km_adv_3 x1 x2 hfb]
      exact kp_stv 3 hI hC
/-- one cycle, in both -/
theorem kp_cyc {x : kMS} {r : kRS} (hI : kI r) (hC : kC x r) (hth : r.th = 0) (hst4 : r.st < 4) : kq_N r ∧ km_N x ∧ kI (kq_step r) ∧ kC (km_step x) (kq_step r) := by
  obtain ⟨⟨n1, n2, n3, n4, n5⟩, uI, uC⟩ := kp_units hI hC
  obtain ⟨lI, lC, l3, l4⟩ := kp_leaves uI uC
  have eH : km_half x = km_drop (km_us x) := rfl
  have eR : kq_half r = kq_leaves (kq_us r) := rfl
  have hs : nI (km_half x).st = 0 ↔ nI (kq_half r).st = 0 := by rw [eH, eR, lC.1.2.2.2.1]
  have hsr : (kq_half r).st = r.st := by
    rw [eR]; simp only [kq_us, kq_leaves_la, kq_leaves_th, kq_leaves_st, kq_leaves_nx, kq_leaves_wi, kq_leaves_gp, kq_leaves_vl, kq_leaves_sa, kq_leaves_bo, kq_leaves_cy, kq_leaves_sd, kq_leaves_ma, kq_leaves_qu, kq_leaves_X, kq_leaves_F, kq_leaves_M, kq_leaves_po, kq_leaves_pd, kq_leaves_pa, kq_leaves_pb, kq_leaves_pn, kq_leaves_pm, kq_leaves_wh, kq_leaves_wd, kq_leaves_rg, kq_leaves_fr, kq_leaves_sp, kq_leaves_dn, kq_leaves_bf, kq_leaves_XA, kq_leaves_XB, kq_units_la, kq_units_th, kq_units_st, kq_units_nx, kq_units_wi, kq_units_gp, kq_units_vl, kq_units_sa, kq_units_bo, kq_units_cy, kq_units_sd, kq_units_ma, kq_units_qu, kq_units_X, kq_units_F, kq_units_M, kq_units_po, kq_units_pd, kq_units_pa, kq_units_pb, kq_units_pn, kq_units_pm, kq_units_wh, kq_units_wd, kq_units_rg, kq_units_fr, kq_units_sp, kq_units_dn, kq_units_bf, kq_units_XA, kq_units_XB, kq_cy_la, kq_cy_th, kq_cy_st, kq_cy_nx, kq_cy_wi, kq_cy_gp, kq_cy_vl, kq_cy_sa, kq_cy_bo, kq_cy_cy, kq_cy_sd, kq_cy_ma, kq_cy_qu, kq_cy_X, kq_cy_F, kq_cy_M, kq_cy_po, kq_cy_pd, kq_cy_pa, kq_cy_pb, kq_cy_pn, kq_cy_pm, kq_cy_wh, kq_cy_wd, kq_cy_rg, kq_cy_fr, kq_cy_sp, kq_cy_dn, kq_cy_bf, kq_cy_XA, kq_cy_XB]
  refine ⟨⟨n1, l4, fun _ => by rw [eR]; exact kp_goesOnN lI, hth⟩, ⟨n2, n3, n4, n5, l3, fun _ => by rw [eH]; exact kp_advN lI lC⟩, ?_⟩
  by_cases h : nI (kq_half r).st = 0
  · have h0 : (kq_half r).st = 0 := by
      rw [hsr] at h ⊢
      exact kp_inj (b := 0) (by omega) (by decide) h
    rw [kq_step_p h, km_step_p (hs.mpr h), eH, eR]
    rw [eR] at h0
    exact kp_goes lI lC h0
  · rw [kq_step_n h, km_step_n (fun z => h (hs.mp z)), eH, eR]
    exact ⟨lI, lC⟩
