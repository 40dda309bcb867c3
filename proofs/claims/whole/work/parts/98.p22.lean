/-! pure part: P22 -/
/-- the machine and the reference between two calls -/
def kZ (x : kMS) (r : kRS) : Prop := kI r ∧ kC x r ∧ r.st ≤ 3
theorem kp_if3 {c : Prop} [Decidable c] {a b : Nat} (ha : a ≤ 3) (hb : b ≤ 3) : (if c then a else b) ≤ 3 := by
  by_cases h : c
  · rw [if_pos h]; exact ha
  · rw [if_neg h]; exact hb
theorem kp_gst {r : kRS} (h : r.st ≤ 3) : (kq_goesOn r).st ≤ 3 := by
  simp only [kq_goesOn_st]
  unfold kv_R_goesOn_st kv_R_handsOut_st
  repeat' (first | exact h | exact Nat.le_refl 3 | exact (by decide : 1 ≤ 3) | exact (by decide : 2 ≤ 3) | exact (by decide : 0 ≤ 3) | apply kp_if3)
theorem kZ.step {x : kMS} {r : kRS} (h : kZ x r) (hth : r.th = 0) : kq_N r ∧ km_N x ∧ kZ (km_step x) (kq_step r) ∧ (kq_step r).th = 0 ∧ (km_step x).ma = x.ma := by
  obtain ⟨hI, hC, hs⟩ := h
  obtain ⟨a1, a2, a3, a4⟩ := kp_cyc hI hC hth (by omega)
  have hst : (kq_half r).st = r.st := by
    unfold kq_half; simp only [kq_leaves_la, kq_leaves_th, kq_leaves_st, kq_leaves_nx, kq_leaves_wi, kq_leaves_gp, kq_leaves_vl, kq_leaves_sa, kq_leaves_bo, kq_leaves_cy, kq_leaves_sd, kq_leaves_ma, kq_leaves_qu, kq_leaves_X, kq_leaves_F, kq_leaves_M, kq_leaves_po, kq_leaves_pd, kq_leaves_pa, kq_leaves_pb, kq_leaves_pn, kq_leaves_pm, kq_leaves_wh, kq_leaves_wd, kq_leaves_rg, kq_leaves_fr, kq_leaves_sp, kq_leaves_dn, kq_leaves_bf, kq_leaves_XA, kq_leaves_XB, kq_units_la, kq_units_th, kq_units_st, kq_units_nx, kq_units_wi, kq_units_gp, kq_units_vl, kq_units_sa, kq_units_bo, kq_units_cy, kq_units_sd, kq_units_ma, kq_units_qu, kq_units_X, kq_units_F, kq_units_M, kq_units_po, kq_units_pd, kq_units_pa, kq_units_pb, kq_units_pn, kq_units_pm, kq_units_wh, kq_units_wd, kq_units_rg, kq_units_fr, kq_units_sp, kq_units_dn, kq_units_bf, kq_units_XA, kq_units_XB, kq_cy_la, kq_cy_th, kq_cy_st, kq_cy_nx, kq_cy_wi, kq_cy_gp, kq_cy_vl, kq_cy_sa, kq_cy_bo, kq_cy_cy, kq_cy_sd, kq_cy_ma, kq_cy_qu, kq_cy_X, kq_cy_F, kq_cy_M, kq_cy_po, kq_cy_pd, kq_cy_pa, kq_cy_pb, kq_cy_pn, kq_cy_pm, kq_cy_wh, kq_cy_wd, kq_cy_rg, kq_cy_fr, kq_cy_sp, kq_cy_dn, kq_cy_bf, kq_cy_XA, kq_cy_XB]
  have hth2 : (kq_half r).th = r.th := by
    unfold kq_half; simp only [kq_leaves_la, kq_leaves_th, kq_leaves_st, kq_leaves_nx, kq_leaves_wi, kq_leaves_gp, kq_leaves_vl, kq_leaves_sa, kq_leaves_bo, kq_leaves_cy, kq_leaves_sd, kq_leaves_ma, kq_leaves_qu, kq_leaves_X, kq_leaves_F, kq_leaves_M, kq_leaves_po, kq_leaves_pd, kq_leaves_pa, kq_leaves_pb, kq_leaves_pn, kq_leaves_pm, kq_leaves_wh, kq_leaves_wd, kq_leaves_rg, kq_leaves_fr, kq_leaves_sp, kq_leaves_dn, kq_leaves_bf, kq_leaves_XA, kq_leaves_XB, kq_units_la, kq_units_th, kq_units_st, kq_units_nx, kq_units_wi, kq_units_gp, kq_units_vl, kq_units_sa, kq_units_bo, kq_units_cy, kq_units_sd, kq_units_ma, kq_units_qu, kq_units_X, kq_units_F, kq_units_M, kq_units_po, kq_units_pd, kq_units_pa, kq_units_pb, kq_units_pn, kq_units_pm, kq_units_wh, kq_units_wd, kq_units_rg, kq_units_fr, kq_units_sp, kq_units_dn, kq_units_bf, kq_units_XA, kq_units_XB, kq_cy_la, kq_cy_th, kq_cy_st, kq_cy_nx, kq_cy_wi, kq_cy_gp, kq_cy_vl, kq_cy_sa, kq_cy_bo, kq_cy_cy, kq_cy_sd, kq_cy_ma, kq_cy_qu, kq_cy_X, kq_cy_F, kq_cy_M, kq_cy_po, kq_cy_pd, kq_cy_pa, kq_cy_pb, kq_cy_pn, kq_cy_pm, kq_cy_wh, kq_cy_wd, kq_cy_rg, kq_cy_fr, kq_cy_sp, kq_cy_dn, kq_cy_bf, kq_cy_XA, kq_cy_XB]
  have hma2 : (kq_half r).ma = r.ma := by
    unfold kq_half; simp only [kq_leaves_la, kq_leaves_th, kq_leaves_st, kq_leaves_nx, kq_leaves_wi, kq_leaves_gp, kq_leaves_vl, kq_leaves_sa, kq_leaves_bo, kq_leaves_cy, kq_leaves_sd, kq_leaves_ma, kq_leaves_qu, kq_leaves_X, kq_leaves_F, kq_leaves_M, kq_leaves_po, kq_leaves_pd, kq_leaves_pa, kq_leaves_pb, kq_leaves_pn, kq_leaves_pm, kq_leaves_wh, kq_leaves_wd, kq_leaves_rg, kq_leaves_fr, kq_leaves_sp, kq_leaves_dn, kq_leaves_bf, kq_leaves_XA, kq_leaves_XB, kq_units_la, kq_units_th, kq_units_st, kq_units_nx, kq_units_wi, kq_units_gp, kq_units_vl, kq_units_sa, kq_units_bo, kq_units_cy, kq_units_sd, kq_units_ma, kq_units_qu, kq_units_X, kq_units_F, kq_units_M, kq_units_po, kq_units_pd, kq_units_pa, kq_units_pb, kq_units_pn, kq_units_pm, kq_units_wh, kq_units_wd, kq_units_rg, kq_units_fr, kq_units_sp, kq_units_dn, kq_units_bf, kq_units_XA, kq_units_XB, kq_cy_la, kq_cy_th, kq_cy_st, kq_cy_nx, kq_cy_wi, kq_cy_gp, kq_cy_vl, kq_cy_sa, kq_cy_bo, kq_cy_cy, kq_cy_sd, kq_cy_ma, kq_cy_qu, kq_cy_X, kq_cy_F, kq_cy_M, kq_cy_po, kq_cy_pd, kq_cy_pa, kq_cy_pb, kq_cy_pn, kq_cy_pm, kq_cy_wh, kq_cy_wd, kq_cy_rg, kq_cy_fr, kq_cy_sp, kq_cy_dn, kq_cy_bf, kq_cy_XA, kq_cy_XB]
  have hs2 : (kq_step r).st ≤ 3 := by
    unfold kq_step
    split
    · exact kp_gst (by rw [hst]; exact hs)
    · rw [hst]; exact hs
  have ht2 : (kq_step r).th = 0 := by
    unfold kq_step
    split
    · rw [kq_goesOn_th, hth2]; exact hth
    · rw [hth2]; exact hth
  have hm2 : (kq_step r).ma = r.ma := by
    unfold kq_step
    split
    · rw [kq_goesOn_ma, hma2]
    · exact hma2
  exact ⟨a1, a2, ⟨a3, a4, hs2⟩, ht2, by rw [a4.1.2.1, hm2, hC.1.2.1]⟩
theorem kZ.it : ∀ (C : Nat) {x : kMS} {r : kRS}, kZ x r → r.th = 0 → kZ (km_it C x) (kq_it C r) ∧ (kq_it C r).th = 0 ∧ (km_it C x).ma = x.ma := by
  intro C
  induction C with
  | zero => intro x r h ht; exact ⟨h, ht, rfl⟩
  | succ C ih =>
    intro x r h ht
    obtain ⟨-, -, h1, h2, h3⟩ := h.step ht
    obtain ⟨b1, b2, b3⟩ := ih h1 h2
    rw [km_it, kq_it]
    exact ⟨b1, b2, by rw [b3, h3]⟩
theorem kZ.tho {x : kMS} {r : kRS} (h : kZ x r) (v : Int32) : kZ x (kq_th r v) := by
  obtain ⟨hI, hC, hs⟩ := h
  refine ⟨⟨?_, ?_, ?_⟩, ⟨?_, ?_, ?_⟩, ?_⟩
  · refine hI.1.of ?_ ?_ ?_ ?_ ?_ ?_ ?_ <;> simp only [kq_th_la, kq_th_th, kq_th_st, kq_th_nx, kq_th_wi, kq_th_gp, kq_th_vl, kq_th_sa, kq_th_bo, kq_th_cy, kq_th_sd, kq_th_ma, kq_th_qu, kq_th_X, kq_th_F, kq_th_M, kq_th_po, kq_th_pd, kq_th_pa, kq_th_pb, kq_th_pn, kq_th_pm, kq_th_wh, kq_th_wd, kq_th_rg, kq_th_fr, kq_th_sp, kq_th_dn, kq_th_bf, kq_th_XA, kq_th_XB]
  · refine hI.2.1.of ?_ ?_ ?_ ?_ ?_ ?_ ?_ ?_ <;> simp only [kq_th_la, kq_th_th, kq_th_st, kq_th_nx, kq_th_wi, kq_th_gp, kq_th_vl, kq_th_sa, kq_th_bo, kq_th_cy, kq_th_sd, kq_th_ma, kq_th_qu, kq_th_X, kq_th_F, kq_th_M, kq_th_po, kq_th_pd, kq_th_pa, kq_th_pb, kq_th_pn, kq_th_pm, kq_th_wh, kq_th_wd, kq_th_rg, kq_th_fr, kq_th_sp, kq_th_dn, kq_th_bf, kq_th_XA, kq_th_XB]
  · have h := hI.2.2
    unfold kIq at h ⊢
    simp only [kq_th_la, kq_th_th, kq_th_st, kq_th_nx, kq_th_wi, kq_th_gp, kq_th_vl, kq_th_sa, kq_th_bo, kq_th_cy, kq_th_sd, kq_th_ma, kq_th_qu, kq_th_X, kq_th_F, kq_th_M, kq_th_po, kq_th_pd, kq_th_pa, kq_th_pb, kq_th_pn, kq_th_pm, kq_th_wh, kq_th_wd, kq_th_rg, kq_th_fr, kq_th_sp, kq_th_dn, kq_th_bf, kq_th_XA, kq_th_XB]
    exact h
  · have h := hC.1
    unfold kCs at h ⊢
    simp only [kq_th_la, kq_th_th, kq_th_st, kq_th_nx, kq_th_wi, kq_th_gp, kq_th_vl, kq_th_sa, kq_th_bo, kq_th_cy, kq_th_sd, kq_th_ma, kq_th_qu, kq_th_X, kq_th_F, kq_th_M, kq_th_po, kq_th_pd, kq_th_pa, kq_th_pb, kq_th_pn, kq_th_pm, kq_th_wh, kq_th_wd, kq_th_rg, kq_th_fr, kq_th_sp, kq_th_dn, kq_th_bf, kq_th_XA, kq_th_XB]
    exact h
  · refine hC.2.1.of rfl rfl rfl rfl rfl rfl ?_ ?_ ?_ ?_ ?_ ?_ ?_ <;> simp only [kq_th_la, kq_th_th, kq_th_st, kq_th_nx, kq_th_wi, kq_th_gp, kq_th_vl, kq_th_sa, kq_th_bo, kq_th_cy, kq_th_sd, kq_th_ma, kq_th_qu, kq_th_X, kq_th_F, kq_th_M, kq_th_po, kq_th_pd, kq_th_pa, kq_th_pb, kq_th_pn, kq_th_pm, kq_th_wh, kq_th_wd, kq_th_rg, kq_th_fr, kq_th_sp, kq_th_dn, kq_th_bf, kq_th_XA, kq_th_XB]
  · have h := hC.2.2
    unfold kCq kCe at h ⊢
    simp only [kq_th_la, kq_th_th, kq_th_st, kq_th_nx, kq_th_wi, kq_th_gp, kq_th_vl, kq_th_sa, kq_th_bo, kq_th_cy, kq_th_sd, kq_th_ma, kq_th_qu, kq_th_X, kq_th_F, kq_th_M, kq_th_po, kq_th_pd, kq_th_pa, kq_th_pb, kq_th_pn, kq_th_pm, kq_th_wh, kq_th_wd, kq_th_rg, kq_th_fr, kq_th_sp, kq_th_dn, kq_th_bf, kq_th_XA, kq_th_XB]
    exact h
  · simp only [kq_th_la, kq_th_th, kq_th_st, kq_th_nx, kq_th_wi, kq_th_gp, kq_th_vl, kq_th_sa, kq_th_bo, kq_th_cy, kq_th_sd, kq_th_ma, kq_th_qu, kq_th_X, kq_th_F, kq_th_M, kq_th_po, kq_th_pd, kq_th_pa, kq_th_pb, kq_th_pn, kq_th_pm, kq_th_wh, kq_th_wd, kq_th_rg, kq_th_fr, kq_th_sp, kq_th_dn, kq_th_bf, kq_th_XA, kq_th_XB]; exact hs
theorem kp_le0 {q : Nat} (h : q ≤ 4) : nI q ≤ 0 ↔ q = 0 := by
  rw [show (0 : Int32) = nI 0 from rfl, nI_leI (by omega) (by decide)]; omega
theorem kp_eq0 {q : Nat} (h : q ≤ 4) : nI q = 0 ↔ q = 0 := ⟨kp_inj (b := 0) (by omega) (by decide), fun z => by rw [z]; rfl⟩
/-- go -/
theorem kZ.goA {x : kMS} {r : kRS} {v : Int32} (h : v < 0 ∨ nI r.ma ≤ v) : kq_go r v = kq_th r 1 := by
  unfold kq_go kq_th
  simp only [kv_R_go_th, kv_R_go_st, kv_R_go_nx, kv_R_go_sa]
  rcases h with h | h
  · simp (decide := true) only [if_pos h, if_false]
  · have h2 : ¬ v < nI r.ma := Int32.not_lt.mpr h
    by_cases h0 : v < 0
    · simp (decide := true) only [if_pos h0, if_false]
    · simp (decide := true) only [if_neg h0, if_neg h2, if_false]
theorem kZ.goS {x : kMS} {r : kRS} {v : Int32} (h0 : ¬ v < 0) (h1 : v < nI r.ma) (h : nI r.st = 0 ∨ ¬ nI r.qu ≤ 0) : kq_go r v = kq_th r 2 := by
  unfold kq_go kq_th
  simp only [kv_R_go_th, kv_R_go_st, kv_R_go_nx, kv_R_go_sa]
  rcases h with h | h
  · simp (decide := true) only [if_neg h0, if_pos h1, if_pos h, if_false]
  · by_cases hs : nI r.st = 0
    · simp (decide := true) only [if_neg h0, if_pos h1, if_pos hs, if_false]
    · simp (decide := true) only [if_neg h0, if_pos h1, if_neg hs, if_neg h, if_false]
theorem kZ.go {x : kMS} {r : kRS} {v : Nat} (hZ : kZ x r) (hv : v < r.ma) (hs : ¬ nI r.st = 0) (hq : nI r.qu ≤ 0) : kZ (km_go x v) (kq_go r (nI v)) ∧ (kq_go r (nI v)).th = 0 ∧ kv_R_go r.st r.ma r.qu (nI v) = nI v := by
  obtain ⟨hI, hC, h3⟩ := hZ
  obtain ⟨c1, c2, c3, c4, c5, c6, c7, c8, c9, c10, c11, c12, c13, c14, c15, c16, c17⟩ := hC.1
  obtain ⟨i1, i2, i3, i4, i5, i6, i7, i8⟩ := hI.2.1
  have hma := hI.1.1
  have h0 : ¬ nI v < 0 := kp_pos (by omega)
  have h1 : nI v < nI r.ma := (nI_ltI (by omega) (by omega)).mpr hv
  have e : kq_go r (nI v) = kmk r.la 0 0 (nI v) r.wi r.gp r.vl 0 r.bo r.cy r.sd r.ma r.qu r.X r.F r.M r.po r.pd r.pa r.pb r.pn r.pm r.wh r.wd r.rg r.fr r.sp r.dn r.bf r.XA r.XB := by
    unfold kq_go
    simp only [kv_R_go_th, kv_R_go_st, kv_R_go_nx, kv_R_go_sa]
    simp (decide := true) only [if_neg h0, if_pos h1, if_neg hs, if_pos hq, if_true]
  have f : ∀ {α : Type} (g : kRS → α), g (kq_go r (nI v)) = g (kmk r.la 0 0 (nI v) r.wi r.gp r.vl 0 r.bo r.cy r.sd r.ma r.qu r.X r.F r.M r.po r.pd r.pa r.pb r.pn r.pm r.wh r.wd r.rg r.fr r.sp r.dn r.bf r.XA r.XB) := fun g => by rw [e]
  refine ⟨⟨⟨?_, ?_, ?_⟩, ⟨?_, ?_, ?_⟩, ?_⟩, ?_, ?_⟩
  · refine hI.1.of ?_ ?_ ?_ ?_ ?_ ?_ ?_ <;> simp only [kq_go_la, kq_go_th, kq_go_st, kq_go_nx, kq_go_wi, kq_go_gp, kq_go_vl, kq_go_sa, kq_go_bo, kq_go_cy, kq_go_sd, kq_go_ma, kq_go_qu, kq_go_X, kq_go_F, kq_go_M, kq_go_po, kq_go_pd, kq_go_pa, kq_go_pb, kq_go_pn, kq_go_pm, kq_go_wh, kq_go_wd, kq_go_rg, kq_go_fr, kq_go_sp, kq_go_dn, kq_go_bf, kq_go_XA, kq_go_XB]
  · rw [e]; exact ⟨i1, i2, i3, i4, i5, Nat.zero_le _, i7, i8⟩
  · have h := hI.2.2
    unfold kIq at h ⊢
    simp only [kq_go_la, kq_go_th, kq_go_st, kq_go_nx, kq_go_wi, kq_go_gp, kq_go_vl, kq_go_sa, kq_go_bo, kq_go_cy, kq_go_sd, kq_go_ma, kq_go_qu, kq_go_X, kq_go_F, kq_go_M, kq_go_po, kq_go_pd, kq_go_pa, kq_go_pb, kq_go_pn, kq_go_pm, kq_go_wh, kq_go_wd, kq_go_rg, kq_go_fr, kq_go_sp, kq_go_dn, kq_go_bf, kq_go_XA, kq_go_XB]
    exact h
  · rw [e]; exact ⟨c1, c2, c3, rfl, rfl, c6, c7, c8, c9, c10, c11, c12, c13, rfl, c15, c16, c17⟩
  · refine hC.2.1.of ?_ ?_ ?_ ?_ ?_ ?_ ?_ ?_ ?_ ?_ ?_ ?_ ?_ <;> simp only [kq_go_la, kq_go_th, kq_go_st, kq_go_nx, kq_go_wi, kq_go_gp, kq_go_vl, kq_go_sa, kq_go_bo, kq_go_cy, kq_go_sd, kq_go_ma, kq_go_qu, kq_go_X, kq_go_F, kq_go_M, kq_go_po, kq_go_pd, kq_go_pa, kq_go_pb, kq_go_pn, kq_go_pm, kq_go_wh, kq_go_wd, kq_go_rg, kq_go_fr, kq_go_sp, kq_go_dn, kq_go_bf, kq_go_XA, kq_go_XB, km_go_la, km_go_ma, km_go_qu, km_go_st, km_go_nx, km_go_bo, km_go_cy, km_go_sd, km_go_X, km_go_F, km_go_G, km_go_wp, km_go_gp, km_go_ln, km_go_sa, km_go_wk, km_go_po, km_go_pd, km_go_pa, km_go_pb, km_go_pn, km_go_pm, km_go_ww, km_go_gr, km_go_mo, km_go_xa, km_go_xb, km_go_fr, km_go_wi, km_go_nu, km_go_tt, km_go_dn, km_go_db, km_go_rF, km_go_wF]
  · have h := hC.2.2
    unfold kCq kCe at h ⊢
    simp only [kq_go_la, kq_go_th, kq_go_st, kq_go_nx, kq_go_wi, kq_go_gp, kq_go_vl, kq_go_sa, kq_go_bo, kq_go_cy, kq_go_sd, kq_go_ma, kq_go_qu, kq_go_X, kq_go_F, kq_go_M, kq_go_po, kq_go_pd, kq_go_pa, kq_go_pb, kq_go_pn, kq_go_pm, kq_go_wh, kq_go_wd, kq_go_rg, kq_go_fr, kq_go_sp, kq_go_dn, kq_go_bf, kq_go_XA, kq_go_XB, km_go_la, km_go_ma, km_go_qu, km_go_st, km_go_nx, km_go_bo, km_go_cy, km_go_sd, km_go_X, km_go_F, km_go_G, km_go_wp, km_go_gp, km_go_ln, km_go_sa, km_go_wk, km_go_po, km_go_pd, km_go_pa, km_go_pb, km_go_pn, km_go_pm, km_go_ww, km_go_gr, km_go_mo, km_go_xa, km_go_xb, km_go_fr, km_go_wi, km_go_nu, km_go_tt, km_go_dn, km_go_db, km_go_rF, km_go_wF]
    exact h
  · rw [e]; exact Nat.zero_le _
  · rw [e]; rfl
  · unfold kv_R_go
    simp (decide := true) only [if_neg h0, if_pos h1, if_neg hs, if_pos hq, if_true]
/-- resume -/
theorem kZ.resumeS {x : kMS} {r : kRS} (h : ¬ nI r.st = 2 ∨ ¬ nI r.qu ≤ 0) : kq_resume r = kq_th r 1 := by
  unfold kq_resume kq_th
  simp only [kv_R_resume_th, kv_R_resume_st]
  by_cases hs : nI r.st = 2
  · rcases h with h | h
    · exact absurd hs h
    · simp (decide := true) only [if_pos hs, if_neg h, if_false]
  · simp (decide := true) only [if_neg hs, if_false]
theorem kZ.resume {x : kMS} {r : kRS} (hZ : kZ x r) (hs : nI r.st = 2) (hq : nI r.qu ≤ 0) : kZ (km_resume x) (kq_resume r) ∧ (kq_resume r).th = 0 ∧ kv_R_resume r.st r.sa r.qu = nI r.sa := by
  obtain ⟨hI, hC, h3⟩ := hZ
  obtain ⟨c1, c2, c3, c4, c5, c6, c7, c8, c9, c10, c11, c12, c13, c14, c15, c16, c17⟩ := hC.1
  have e : kq_resume r = kq_th (kq_st r 0) 0 := by
    unfold kq_resume kq_th
    simp only [kv_R_resume_th, kv_R_resume_st, kq_st_la, kq_st_th, kq_st_st, kq_st_nx, kq_st_wi, kq_st_gp, kq_st_vl, kq_st_sa, kq_st_bo, kq_st_cy, kq_st_sd, kq_st_ma, kq_st_qu, kq_st_X, kq_st_F, kq_st_M, kq_st_po, kq_st_pd, kq_st_pa, kq_st_pb, kq_st_pn, kq_st_pm, kq_st_wh, kq_st_wd, kq_st_rg, kq_st_fr, kq_st_sp, kq_st_dn, kq_st_bf, kq_st_XA, kq_st_XB]
    simp (decide := true) only [if_pos hs, if_pos hq, if_true]
  have ex : km_resume x = km_st x 0 := rfl
  obtain ⟨a1, a2⟩ := kp_stv 0 hI hC
  have z : kZ (km_st x 0) (kq_st r 0) := ⟨a1, a2, Nat.zero_le _⟩
  refine ⟨by rw [e, ex]; exact z.tho 0, by rw [e]; rfl, ?_⟩
  unfold kv_R_resume
  simp (decide := true) only [if_pos hs, if_pos hq, if_true]
/-- limit -/
theorem kZ.limitA {r : kRS} {v : Nat} (h : nI v < 0 ∨ ¬ nI v ≤ 128) : kq_limit r v = kq_th r 1 := by
  unfold kq_limit kq_th
  simp only [kv_R_limit_th, kv_R_limit_bo]
  by_cases h0 : nI v < 0
  · simp (decide := true) only [if_pos h0, if_false]
  · rcases h with h | h
    · exact absurd h h0
    · simp (decide := true) only [if_neg h0, if_neg h, if_false]
theorem kZ.limitS {r : kRS} {v : Nat} (h0 : ¬ nI v < 0) (h1 : nI v ≤ 128) (h : nI r.st = 0 ∨ ¬ nI r.qu ≤ 0) : kq_limit r v = kq_th r 2 := by
  unfold kq_limit kq_th
  simp only [kv_R_limit_th, kv_R_limit_bo]
  by_cases hs : nI r.st = 0
  · simp (decide := true) only [if_neg h0, if_pos h1, if_pos hs, if_false]
  · rcases h with h | h
    · exact absurd h hs
    · simp (decide := true) only [if_neg h0, if_pos h1, if_neg hs, if_neg h, if_false]
theorem kZ.limit {x : kMS} {r : kRS} {v : Nat} (hZ : kZ x r) (hv : v ≤ 128) (hs : ¬ nI r.st = 0) (hq : nI r.qu ≤ 0) : kZ (km_limit x v) (kq_limit r v) ∧ (kq_limit r v).th = 0 ∧ kv_R_limit r.st r.qu v = 1 := by
  obtain ⟨hI, hC, h3⟩ := hZ
  obtain ⟨c1, c2, c3, c4, c5, c6, c7, c8, c9, c10, c11, c12, c13, c14, c15, c16, c17⟩ := hC.1
  obtain ⟨i1, i2, i3, i4, i5, i6, i7, i8⟩ := hI.2.1
  have h0 : ¬ nI v < 0 := kp_pos (by omega)
  have h1 : nI v ≤ 128 := (nI_leI (b := 128) (by omega) (by decide)).mpr hv
  have e1 : kv_R_limit_th r.st r.qu v = 0 := by
    unfold kv_R_limit_th
    rw [if_neg h0, if_pos h1, if_neg hs, if_pos hq]
  have e2 : kv_R_limit_bo r.st r.bo r.qu v = v := by
    unfold kv_R_limit_bo
    rw [if_neg h0, if_pos h1, if_neg hs, if_pos hq, if_pos (by decide)]
  refine ⟨⟨⟨?_, ?_, ?_⟩, ⟨?_, ?_, ?_⟩, ?_⟩, ?_, ?_⟩
  · refine hI.1.of ?_ ?_ ?_ ?_ ?_ ?_ ?_ <;> simp only [kq_limit_la, kq_limit_th, kq_limit_st, kq_limit_nx, kq_limit_wi, kq_limit_gp, kq_limit_vl, kq_limit_sa, kq_limit_bo, kq_limit_cy, kq_limit_sd, kq_limit_ma, kq_limit_qu, kq_limit_X, kq_limit_F, kq_limit_M, kq_limit_po, kq_limit_pd, kq_limit_pa, kq_limit_pb, kq_limit_pn, kq_limit_pm, kq_limit_wh, kq_limit_wd, kq_limit_rg, kq_limit_fr, kq_limit_sp, kq_limit_dn, kq_limit_bf, kq_limit_XA, kq_limit_XB]
  · unfold kIs
    simp only [kq_limit_la, kq_limit_th, kq_limit_st, kq_limit_nx, kq_limit_wi, kq_limit_gp, kq_limit_vl, kq_limit_sa, kq_limit_bo, kq_limit_cy, kq_limit_sd, kq_limit_ma, kq_limit_qu, kq_limit_X, kq_limit_F, kq_limit_M, kq_limit_po, kq_limit_pd, kq_limit_pa, kq_limit_pb, kq_limit_pn, kq_limit_pm, kq_limit_wh, kq_limit_wd, kq_limit_rg, kq_limit_fr, kq_limit_sp, kq_limit_dn, kq_limit_bf, kq_limit_XA, kq_limit_XB, e2]
    exact ⟨i1, i2, i3, i4, i5, i6, hv, i8⟩
  · have h := hI.2.2
    unfold kIq at h ⊢
    simp only [kq_limit_la, kq_limit_th, kq_limit_st, kq_limit_nx, kq_limit_wi, kq_limit_gp, kq_limit_vl, kq_limit_sa, kq_limit_bo, kq_limit_cy, kq_limit_sd, kq_limit_ma, kq_limit_qu, kq_limit_X, kq_limit_F, kq_limit_M, kq_limit_po, kq_limit_pd, kq_limit_pa, kq_limit_pb, kq_limit_pn, kq_limit_pm, kq_limit_wh, kq_limit_wd, kq_limit_rg, kq_limit_fr, kq_limit_sp, kq_limit_dn, kq_limit_bf, kq_limit_XA, kq_limit_XB]
    exact h
  · unfold kCs
    simp only [kq_limit_la, kq_limit_th, kq_limit_st, kq_limit_nx, kq_limit_wi, kq_limit_gp, kq_limit_vl, kq_limit_sa, kq_limit_bo, kq_limit_cy, kq_limit_sd, kq_limit_ma, kq_limit_qu, kq_limit_X, kq_limit_F, kq_limit_M, kq_limit_po, kq_limit_pd, kq_limit_pa, kq_limit_pb, kq_limit_pn, kq_limit_pm, kq_limit_wh, kq_limit_wd, kq_limit_rg, kq_limit_fr, kq_limit_sp, kq_limit_dn, kq_limit_bf, kq_limit_XA, kq_limit_XB, km_limit_la, km_limit_ma, km_limit_qu, km_limit_st, km_limit_nx, km_limit_bo, km_limit_cy, km_limit_sd, km_limit_X, km_limit_F, km_limit_G, km_limit_wp, km_limit_gp, km_limit_ln, km_limit_sa, km_limit_wk, km_limit_po, km_limit_pd, km_limit_pa, km_limit_pb, km_limit_pn, km_limit_pm, km_limit_ww, km_limit_gr, km_limit_mo, km_limit_xa, km_limit_xb, km_limit_fr, km_limit_wi, km_limit_nu, km_limit_tt, km_limit_dn, km_limit_db, km_limit_rF, km_limit_wF, e2]
    exact ⟨c1, c2, c3, c4, c5, trivial, c7, c8, c9, c10, c11, c12, c13, c14, c15, c16, c17⟩
  · refine hC.2.1.of ?_ ?_ ?_ ?_ ?_ ?_ ?_ ?_ ?_ ?_ ?_ ?_ ?_ <;> simp only [kq_limit_la, kq_limit_th, kq_limit_st, kq_limit_nx, kq_limit_wi, kq_limit_gp, kq_limit_vl, kq_limit_sa, kq_limit_bo, kq_limit_cy, kq_limit_sd, kq_limit_ma, kq_limit_qu, kq_limit_X, kq_limit_F, kq_limit_M, kq_limit_po, kq_limit_pd, kq_limit_pa, kq_limit_pb, kq_limit_pn, kq_limit_pm, kq_limit_wh, kq_limit_wd, kq_limit_rg, kq_limit_fr, kq_limit_sp, kq_limit_dn, kq_limit_bf, kq_limit_XA, kq_limit_XB, km_limit_la, km_limit_ma, km_limit_qu, km_limit_st, km_limit_nx, km_limit_bo, km_limit_cy, km_limit_sd, km_limit_X, km_limit_F, km_limit_G, km_limit_wp, km_limit_gp, km_limit_ln, km_limit_sa, km_limit_wk, km_limit_po, km_limit_pd, km_limit_pa, km_limit_pb, km_limit_pn, km_limit_pm, km_limit_ww, km_limit_gr, km_limit_mo, km_limit_xa, km_limit_xb, km_limit_fr, km_limit_wi, km_limit_nu, km_limit_tt, km_limit_dn, km_limit_db, km_limit_rF, km_limit_wF]
  · have h := hC.2.2
    unfold kCq kCe at h ⊢
    simp only [kq_limit_la, kq_limit_th, kq_limit_st, kq_limit_nx, kq_limit_wi, kq_limit_gp, kq_limit_vl, kq_limit_sa, kq_limit_bo, kq_limit_cy, kq_limit_sd, kq_limit_ma, kq_limit_qu, kq_limit_X, kq_limit_F, kq_limit_M, kq_limit_po, kq_limit_pd, kq_limit_pa, kq_limit_pb, kq_limit_pn, kq_limit_pm, kq_limit_wh, kq_limit_wd, kq_limit_rg, kq_limit_fr, kq_limit_sp, kq_limit_dn, kq_limit_bf, kq_limit_XA, kq_limit_XB, km_limit_la, km_limit_ma, km_limit_qu, km_limit_st, km_limit_nx, km_limit_bo, km_limit_cy, km_limit_sd, km_limit_X, km_limit_F, km_limit_G, km_limit_wp, km_limit_gp, km_limit_ln, km_limit_sa, km_limit_wk, km_limit_po, km_limit_pd, km_limit_pa, km_limit_pb, km_limit_pn, km_limit_pm, km_limit_ww, km_limit_gr, km_limit_mo, km_limit_xa, km_limit_xb, km_limit_fr, km_limit_wi, km_limit_nu, km_limit_tt, km_limit_dn, km_limit_db, km_limit_rF, km_limit_wF]
    exact h
  · simp only [kq_limit_la, kq_limit_th, kq_limit_st, kq_limit_nx, kq_limit_wi, kq_limit_gp, kq_limit_vl, kq_limit_sa, kq_limit_bo, kq_limit_cy, kq_limit_sd, kq_limit_ma, kq_limit_qu, kq_limit_X, kq_limit_F, kq_limit_M, kq_limit_po, kq_limit_pd, kq_limit_pa, kq_limit_pb, kq_limit_pn, kq_limit_pm, kq_limit_wh, kq_limit_wd, kq_limit_rg, kq_limit_fr, kq_limit_sp, kq_limit_dn, kq_limit_bf, kq_limit_XA, kq_limit_XB]; exact h3
  · simp only [kq_limit_la, kq_limit_th, kq_limit_st, kq_limit_nx, kq_limit_wi, kq_limit_gp, kq_limit_vl, kq_limit_sa, kq_limit_bo, kq_limit_cy, kq_limit_sd, kq_limit_ma, kq_limit_qu, kq_limit_X, kq_limit_F, kq_limit_M, kq_limit_po, kq_limit_pd, kq_limit_pa, kq_limit_pb, kq_limit_pn, kq_limit_pm, kq_limit_wh, kq_limit_wd, kq_limit_rg, kq_limit_fr, kq_limit_sp, kq_limit_dn, kq_limit_bf, kq_limit_XA, kq_limit_XB]; exact e1
  · unfold kv_R_limit
    rw [if_neg h0, if_pos h1, if_neg hs, if_pos hq, if_pos (by decide)]
/-- poke -/
theorem kZ.pokeA {r : kRS} {k v : Int32} (h : k < 0 ∨ 127 < k ∨ v < -128 ∨ ¬ v ≤ 255) : kq_poke r k v = kq_th r 1 := by
  unfold kq_poke kq_th
  simp only [kv_R_poke_th, kv_R_poke_M]
  by_cases h0 : k < 0
  · simp (decide := true) only [if_pos h0, if_false]
  by_cases h1 : 127 < k
  · simp (decide := true) only [if_neg h0, if_pos h1, if_false]
  by_cases h2 : v < -128
  · simp (decide := true) only [if_neg h0, if_neg h1, if_pos h2, if_false]
  by_cases h3 : v ≤ 255
  · rcases h with h | h | h | h
    · exact absurd h h0
    · exact absurd h h1
    · exact absurd h h2
    · exact absurd h3 h
  · simp (decide := true) only [if_neg h0, if_neg h1, if_neg h2, if_neg h3, if_false]
theorem kZ.poke {x : kMS} {r : kRS} {k : Nat} {v : Int32} (hZ : kZ x r) (hk : k < 128) (h2 : ¬ v < -128) (h3 : v ≤ 255) : kZ (km_poke x k v) (kq_poke r (nI k) v) ∧ (kq_poke r (nI k) v).th = 0 ∧ kv_R_poke (nI k) v = 1 := by
  obtain ⟨hI, hC, hs⟩ := hZ
  obtain ⟨c1, c2, c3, c4, c5, c6, c7, c8, c9, c10, c11, c12, c13, c14, c15, c16, c17⟩ := hC.1
  have h0 : ¬ nI k < 0 := kp_pos (by omega)
  have h1 : ¬ 127 < nI k := fun z => by have := (nI_ltI (a := 127) (by decide) (by omega)).mp z; omega
  have e1 : kv_R_poke_th (nI k) v = 0 := by
    unfold kv_R_poke_th
    rw [if_neg h0, if_neg h1, if_neg h2, if_pos h3]
  have e2 : kv_R_poke_M r.M (nI k) v = upd r.M k ((v <<< (24 &&& 31)) >>> (24 &&& 31)) := by
    unfold kv_R_poke_M
    rw [if_neg h0, if_neg h1, if_neg h2, if_pos h3, if_pos (by decide), nI_clamp (by omega)]
  obtain ⟨j1, j2, j3, j4, j5⟩ := hI.2.2.2
  refine ⟨⟨⟨?_, ?_, ?_⟩, ⟨?_, ?_, ?_⟩, ?_⟩, ?_, ?_⟩
  · refine hI.1.of ?_ ?_ ?_ ?_ ?_ ?_ ?_ <;> simp only [kq_poke_la, kq_poke_th, kq_poke_st, kq_poke_nx, kq_poke_wi, kq_poke_gp, kq_poke_vl, kq_poke_sa, kq_poke_bo, kq_poke_cy, kq_poke_sd, kq_poke_ma, kq_poke_qu, kq_poke_X, kq_poke_F, kq_poke_M, kq_poke_po, kq_poke_pd, kq_poke_pa, kq_poke_pb, kq_poke_pn, kq_poke_pm, kq_poke_wh, kq_poke_wd, kq_poke_rg, kq_poke_fr, kq_poke_sp, kq_poke_dn, kq_poke_bf, kq_poke_XA, kq_poke_XB]
  · refine hI.2.1.of ?_ ?_ ?_ ?_ ?_ ?_ ?_ ?_ <;> simp only [kq_poke_la, kq_poke_th, kq_poke_st, kq_poke_nx, kq_poke_wi, kq_poke_gp, kq_poke_vl, kq_poke_sa, kq_poke_bo, kq_poke_cy, kq_poke_sd, kq_poke_ma, kq_poke_qu, kq_poke_X, kq_poke_F, kq_poke_M, kq_poke_po, kq_poke_pd, kq_poke_pa, kq_poke_pb, kq_poke_pn, kq_poke_pm, kq_poke_wh, kq_poke_wd, kq_poke_rg, kq_poke_fr, kq_poke_sp, kq_poke_dn, kq_poke_bf, kq_poke_XA, kq_poke_XB]
  · unfold kIq
    simp only [kq_poke_la, kq_poke_th, kq_poke_st, kq_poke_nx, kq_poke_wi, kq_poke_gp, kq_poke_vl, kq_poke_sa, kq_poke_bo, kq_poke_cy, kq_poke_sd, kq_poke_ma, kq_poke_qu, kq_poke_X, kq_poke_F, kq_poke_M, kq_poke_po, kq_poke_pd, kq_poke_pa, kq_poke_pb, kq_poke_pn, kq_poke_pm, kq_poke_wh, kq_poke_wd, kq_poke_rg, kq_poke_fr, kq_poke_sp, kq_poke_dn, kq_poke_bf, kq_poke_XA, kq_poke_XB, e2]
    refine ⟨hI.2.2.1, j1, fun i hi => ?_, j3, j4, j5⟩
    unfold upd
    by_cases hik : i = k
    · rw [if_pos hik, kp_b8]; exact kp_by8 _
    · rw [if_neg hik]; exact j2 i hi
  · unfold kCs
    simp only [kq_poke_la, kq_poke_th, kq_poke_st, kq_poke_nx, kq_poke_wi, kq_poke_gp, kq_poke_vl, kq_poke_sa, kq_poke_bo, kq_poke_cy, kq_poke_sd, kq_poke_ma, kq_poke_qu, kq_poke_X, kq_poke_F, kq_poke_M, kq_poke_po, kq_poke_pd, kq_poke_pa, kq_poke_pb, kq_poke_pn, kq_poke_pm, kq_poke_wh, kq_poke_wd, kq_poke_rg, kq_poke_fr, kq_poke_sp, kq_poke_dn, kq_poke_bf, kq_poke_XA, kq_poke_XB, km_poke_la, km_poke_ma, km_poke_qu, km_poke_st, km_poke_nx, km_poke_bo, km_poke_cy, km_poke_sd, km_poke_X, km_poke_F, km_poke_G, km_poke_wp, km_poke_gp, km_poke_ln, km_poke_sa, km_poke_wk, km_poke_po, km_poke_pd, km_poke_pa, km_poke_pb, km_poke_pn, km_poke_pm, km_poke_ww, km_poke_gr, km_poke_mo, km_poke_xa, km_poke_xb, km_poke_fr, km_poke_wi, km_poke_nu, km_poke_tt, km_poke_dn, km_poke_db, km_poke_rF, km_poke_wF, e2]
    exact ⟨c1, c2, c3, c4, c5, c6, c7, c8, c9, c10, c11, c12, c13, c14, c15, c16, kp_wr1 c17 (by omega) (by decide) rfl⟩
  · refine hC.2.1.of ?_ ?_ ?_ ?_ ?_ ?_ ?_ ?_ ?_ ?_ ?_ ?_ ?_ <;> simp only [kq_poke_la, kq_poke_th, kq_poke_st, kq_poke_nx, kq_poke_wi, kq_poke_gp, kq_poke_vl, kq_poke_sa, kq_poke_bo, kq_poke_cy, kq_poke_sd, kq_poke_ma, kq_poke_qu, kq_poke_X, kq_poke_F, kq_poke_M, kq_poke_po, kq_poke_pd, kq_poke_pa, kq_poke_pb, kq_poke_pn, kq_poke_pm, kq_poke_wh, kq_poke_wd, kq_poke_rg, kq_poke_fr, kq_poke_sp, kq_poke_dn, kq_poke_bf, kq_poke_XA, kq_poke_XB, km_poke_la, km_poke_ma, km_poke_qu, km_poke_st, km_poke_nx, km_poke_bo, km_poke_cy, km_poke_sd, km_poke_X, km_poke_F, km_poke_G, km_poke_wp, km_poke_gp, km_poke_ln, km_poke_sa, km_poke_wk, km_poke_po, km_poke_pd, km_poke_pa, km_poke_pb, km_poke_pn, km_poke_pm, km_poke_ww, km_poke_gr, km_poke_mo, km_poke_xa, km_poke_xb, km_poke_fr, km_poke_wi, km_poke_nu, km_poke_tt, km_poke_dn, km_poke_db, km_poke_rF, km_poke_wF]
  · have h := hC.2.2
    unfold kCq kCe at h ⊢
    simp only [kq_poke_la, kq_poke_th, kq_poke_st, kq_poke_nx, kq_poke_wi, kq_poke_gp, kq_poke_vl, kq_poke_sa, kq_poke_bo, kq_poke_cy, kq_poke_sd, kq_poke_ma, kq_poke_qu, kq_poke_X, kq_poke_F, kq_poke_M, kq_poke_po, kq_poke_pd, kq_poke_pa, kq_poke_pb, kq_poke_pn, kq_poke_pm, kq_poke_wh, kq_poke_wd, kq_poke_rg, kq_poke_fr, kq_poke_sp, kq_poke_dn, kq_poke_bf, kq_poke_XA, kq_poke_XB, km_poke_la, km_poke_ma, km_poke_qu, km_poke_st, km_poke_nx, km_poke_bo, km_poke_cy, km_poke_sd, km_poke_X, km_poke_F, km_poke_G, km_poke_wp, km_poke_gp, km_poke_ln, km_poke_sa, km_poke_wk, km_poke_po, km_poke_pd, km_poke_pa, km_poke_pb, km_poke_pn, km_poke_pm, km_poke_ww, km_poke_gr, km_poke_mo, km_poke_xa, km_poke_xb, km_poke_fr, km_poke_wi, km_poke_nu, km_poke_tt, km_poke_dn, km_poke_db, km_poke_rF, km_poke_wF]
    exact h
  · simp only [kq_poke_la, kq_poke_th, kq_poke_st, kq_poke_nx, kq_poke_wi, kq_poke_gp, kq_poke_vl, kq_poke_sa, kq_poke_bo, kq_poke_cy, kq_poke_sd, kq_poke_ma, kq_poke_qu, kq_poke_X, kq_poke_F, kq_poke_M, kq_poke_po, kq_poke_pd, kq_poke_pa, kq_poke_pb, kq_poke_pn, kq_poke_pm, kq_poke_wh, kq_poke_wd, kq_poke_rg, kq_poke_fr, kq_poke_sp, kq_poke_dn, kq_poke_bf, kq_poke_XA, kq_poke_XB]; exact hs
  · simp only [kq_poke_la, kq_poke_th, kq_poke_st, kq_poke_nx, kq_poke_wi, kq_poke_gp, kq_poke_vl, kq_poke_sa, kq_poke_bo, kq_poke_cy, kq_poke_sd, kq_poke_ma, kq_poke_qu, kq_poke_X, kq_poke_F, kq_poke_M, kq_poke_po, kq_poke_pd, kq_poke_pa, kq_poke_pb, kq_poke_pn, kq_poke_pm, kq_poke_wh, kq_poke_wd, kq_poke_rg, kq_poke_fr, kq_poke_sp, kq_poke_dn, kq_poke_bf, kq_poke_XA, kq_poke_XB]; exact e1
  · unfold kv_R_poke
    rw [if_neg h0, if_neg h1, if_neg h2, if_pos h3, if_pos (by decide)]
