/-! pure part: P14 -/
section
variable {po pd pa pb : Nat → Nat} {pm : Nat → Int32} {wh wd rg fr sp dn wh0 wd0 rg0 fr0 sp0 dn0 : Nat → Nat} {XA XB XA0 XB0 : Nat → Int32} {i j : Nat}
theorem kpR.rd (h : kpR wh wd rg fr sp dn XA XB i wh0 wd0 rg0 fr0 sp0 dn0 XA0 XB0 j) (t vq : Nat) : kv_R_reads po pd pa pb pm wh wd rg fr XB i t vq = kv_R_reads po pd pa pb pm wh0 wd0 rg0 fr0 XB0 j t vq := by
  obtain ⟨r1, r2, r3, r4, r5, r6, r7, r8⟩ := h
  unfold kv_R_reads
  rw [r1, r2, r3, r4, r8]
theorem kpR.wr (h : kpR wh wd rg fr sp dn XA XB i wh0 wd0 rg0 fr0 sp0 dn0 XA0 XB0 j) (t : Nat) : kv_R_writes po pd wh wd fr i t = kv_R_writes po pd wh0 wd0 fr0 j t := by
  obtain ⟨r1, r2, r3, r4, r5, r6, r7, r8⟩ := h
  unfold kv_R_writes
  rw [r1, r2, r4]
theorem kpR.pl (h : kpR wh wd rg fr sp dn XA XB i wh0 wd0 rg0 fr0 sp0 dn0 XA0 XB0 j) (F : Nat → Int32) (t : Nat) : kv_R_place F po pb wh wd XA XB i t = kv_R_place F po pb wh0 wd0 XA0 XB0 j t := by
  obtain ⟨r1, r2, r3, r4, r5, r6, r7, r8⟩ := h
  unfold kv_R_place
  rw [r1, r2, r7, r8]
theorem kpR.S (h : kpR wh wd rg fr sp dn XA XB i wh0 wd0 rg0 fr0 sp0 dn0 XA0 XB0 j) (hS : kpS po pd pa pb pm wh0 wd0 rg0 fr0 sp0 XA0 j) : kpS po pd pa pb pm wh wd rg fr sp XA i := by
  obtain ⟨r1, r2, r3, r4, r5, r6, r7, r8⟩ := h
  unfold kpS at hS ⊢
  rw [r1, r2, r3, r4, r5, r7]
  exact hS
theorem kpR.N (h : kpR wh wd rg fr sp dn XA XB i wh0 wd0 rg0 fr0 sp0 dn0 XA0 XB0 j) (k : Nat) : kpN po pb pm wh rg i k ↔ kpN po pb pm wh0 rg0 j k := by
  obtain ⟨r1, r2, r3, r4, r5, r6, r7, r8⟩ := h
  unfold kpN
  rw [r1, r3]
end
theorem kp_leaves {x : kMS} {r : kRS} (hI : kI r) (hC : kC x r) : kI (kq_leaves r) ∧ kC (km_drop x) (kq_leaves r) ∧ km_dropN x ∧ kq_leavesN r := by
  have hqu : r.qu ≤ 4 := hI.2.1.2.1
  obtain ⟨c1, c2, c3, c4, c5, c6, c7, c8, c9, c10, c11, c12, c13, c14, c15, c16, c17⟩ := hC.1
  have hS : ∀ q, q < r.qu → kpS r.po r.pd r.pa r.pb r.pm r.wh r.wd r.rg r.fr r.sp r.XA q := fun q hq => (hI.2.2.1 q hq).2.1
  have hsp : ∀ q, q < r.qu → r.sp q ≤ 32 := fun q hq => by
    have S := hS q hq
    have := kp_most S.2.1 S.1
    have := S.2.2.2.2.2.2.2.1
    omega
  have hdnsp : ∀ q, q < r.qu → r.dn q ≤ r.sp q := fun q hq => (hI.2.2.2.2.2.1 q hq).2
  have hdone : ∀ i, i < r.qu → (kv_K_isDone (x.fr (x.wk i)) (x.tt (x.wk i)) (x.dn (x.wk i)) (nI (x.po (x.wi (x.wk i)))) = 0 ↔ r.dn i < r.sp i) := by
    intro i hi
    obtain ⟨q1, q2, q3, q4, q5, q6, q7, q8, q9, q10, q11, q12, q13⟩ := kC.Q hI hC hi
    obtain ⟨e1, e2, e3, e4, e5, e6, e7, e8, e9, e10, e11⟩ := hC.2.2.1 i hi
    unfold kv_K_isDone
    rw [q1, q10, q13, e10]
    have h1 := hsp i hi
    have h2 := hdnsp i hi
    have hlt : nI (r.dn i) < nI (r.sp i) ↔ r.dn i < r.sp i := nI_ltI (by omega) (by omega)
    by_cases h : r.dn i < r.sp i
    · rw [if_pos (hlt.mpr h)]; simp [h]
    · rw [if_neg (fun z => h (hlt.mp z))]; simp [h]
  obtain ⟨a1, a2, a3, m, m1, m2, m3⟩ := kp_lv (wk0 := x.wk) (cpo := x.po) (cfr := x.fr) (wi := x.wi) (tt := x.tt) (cdn := x.dn) (wh0 := r.wh) (wd0 := r.wd) (rg0 := r.rg) (fr0 := r.fr) (sp0 := r.sp) (dn0 := r.dn) (XA0 := r.XA) (XB0 := r.XB) hqu (fun i hi => by have := hsp i hi; have := hdnsp i hi; omega) hdone r.qu 0 0 r.wh r.wd r.rg r.fr r.sp r.dn r.bf r.XA r.XB x.wk (fun _ => 0) (by omega) (by omega) (fun i hi => by omega) (fun i j h hj => by omega) (fun i hi => by omega) (fun i _ hi => ⟨⟨rfl, rfl, rfl, rfl, rfl, rfl, rfl, rfl⟩, rfl⟩) hC.2.2.2 _ _ rfl rfl
  obtain ⟨j1, j2, j3, j4, j5⟩ := hI.2.2.2
  refine ⟨⟨?_, ?_, ?_⟩, ⟨?_, ?_, ?_⟩, ?_, ?_⟩
  · refine hI.1.of ?_ ?_ ?_ ?_ ?_ ?_ ?_ <;> simp only [kq_leaves_la, kq_leaves_th, kq_leaves_st, kq_leaves_nx, kq_leaves_wi, kq_leaves_gp, kq_leaves_vl, kq_leaves_sa, kq_leaves_bo, kq_leaves_cy, kq_leaves_sd, kq_leaves_ma, kq_leaves_qu, kq_leaves_X, kq_leaves_F, kq_leaves_M, kq_leaves_po, kq_leaves_pd, kq_leaves_pa, kq_leaves_pb, kq_leaves_pn, kq_leaves_pm, kq_leaves_wh, kq_leaves_wd, kq_leaves_rg, kq_leaves_fr, kq_leaves_sp, kq_leaves_dn, kq_leaves_bf, kq_leaves_XA, kq_leaves_XB]
  · have h := hI.2.1
    unfold kIs at h ⊢
    simp only [kq_leaves_la, kq_leaves_th, kq_leaves_st, kq_leaves_nx, kq_leaves_wi, kq_leaves_gp, kq_leaves_vl, kq_leaves_sa, kq_leaves_bo, kq_leaves_cy, kq_leaves_sd, kq_leaves_ma, kq_leaves_qu, kq_leaves_X, kq_leaves_F, kq_leaves_M, kq_leaves_po, kq_leaves_pd, kq_leaves_pa, kq_leaves_pb, kq_leaves_pn, kq_leaves_pm, kq_leaves_wh, kq_leaves_wd, kq_leaves_rg, kq_leaves_fr, kq_leaves_sp, kq_leaves_dn, kq_leaves_bf, kq_leaves_XA, kq_leaves_XB, kv_R_leaves_qu]
    exact ⟨h.1, by omega, h.2.2⟩
  · unfold kIq
    simp only [kq_leaves_la, kq_leaves_th, kq_leaves_st, kq_leaves_nx, kq_leaves_wi, kq_leaves_gp, kq_leaves_vl, kq_leaves_sa, kq_leaves_bo, kq_leaves_cy, kq_leaves_sd, kq_leaves_ma, kq_leaves_qu, kq_leaves_X, kq_leaves_F, kq_leaves_M, kq_leaves_po, kq_leaves_pd, kq_leaves_pa, kq_leaves_pb, kq_leaves_pn, kq_leaves_pm, kq_leaves_wh, kq_leaves_wd, kq_leaves_rg, kq_leaves_fr, kq_leaves_sp, kq_leaves_dn, kq_leaves_bf, kq_leaves_XA, kq_leaves_XB, kv_R_leaves_qu, kv_R_leaves_wh, kv_R_leaves_wd, kv_R_leaves_rg, kv_R_leaves_fr, kv_R_leaves_sp, kv_R_leaves_dn, kv_R_leaves_XA, kv_R_leaves_XB]
    generalize kv_lv r.qu 0 0 r.wh r.wd r.rg r.fr r.sp r.dn r.bf r.XA r.XB = B at a1 a2 m1 m2 m3 ⊢
    refine ⟨fun q hq => ?_, j1, j2, fun q hq => ?_, fun q hq h17 t ht1 ht2 hon => ?_, fun q hq h17 p hp t ht1 ht2 k hk hw => ?_⟩
    · obtain ⟨R, w, l⟩ := m3 q hq
      obtain ⟨w1, S, w2⟩ := hI.2.2.1 (m q) (m1 q hq)
      exact ⟨by rw [R.1]; exact w1, R.S S, by rw [R.2.2.2.2.1]; exact w2⟩
    · obtain ⟨R, w, l⟩ := m3 q hq
      refine ⟨Nat.zero_le _, ?_⟩
      rw [R.2.2.2.2.2.1, R.2.2.2.2.1]
      exact (j3 (m q) (m1 q hq)).2
    · obtain ⟨R, w, l⟩ := m3 q hq
      rw [R.pl]
      rw [R.1] at h17 hon
      rw [R.2.2.2.2.2.1] at ht1
      rw [R.2.2.2.2.1] at ht2
      rw [R.2.2.2.1] at hon ⊢
      rw [R.2.1]
      exact j4 (m q) (m1 q hq) h17 t ht1 ht2 hon
    · obtain ⟨R, w, l⟩ := m3 q hq
      obtain ⟨R', w', l'⟩ := m3 p (by omega)
      rw [R.N]
      rw [R'.wr] at hw
      rw [R.1] at h17
      rw [R'.2.2.2.2.2.1] at ht1
      rw [R'.2.2.2.2.1] at ht2
      exact j5 (m q) (m1 q hq) h17 (m p) (m2 p q hp hq) t ht1 ht2 k hk hw
  · unfold kCs
    simp only [kq_leaves_la, kq_leaves_th, kq_leaves_st, kq_leaves_nx, kq_leaves_wi, kq_leaves_gp, kq_leaves_vl, kq_leaves_sa, kq_leaves_bo, kq_leaves_cy, kq_leaves_sd, kq_leaves_ma, kq_leaves_qu, kq_leaves_X, kq_leaves_F, kq_leaves_M, kq_leaves_po, kq_leaves_pd, kq_leaves_pa, kq_leaves_pb, kq_leaves_pn, kq_leaves_pm, kq_leaves_wh, kq_leaves_wd, kq_leaves_rg, kq_leaves_fr, kq_leaves_sp, kq_leaves_dn, kq_leaves_bf, kq_leaves_XA, kq_leaves_XB, km_drop_la, km_drop_ma, km_drop_qu, km_drop_st, km_drop_nx, km_drop_bo, km_drop_cy, km_drop_sd, km_drop_X, km_drop_F, km_drop_G, km_drop_wp, km_drop_gp, km_drop_ln, km_drop_sa, km_drop_wk, km_drop_po, km_drop_pd, km_drop_pa, km_drop_pb, km_drop_pn, km_drop_pm, km_drop_ww, km_drop_gr, km_drop_mo, km_drop_xa, km_drop_xb, km_drop_fr, km_drop_wi, km_drop_nu, km_drop_tt, km_drop_dn, km_drop_db, km_drop_rF, km_drop_wF, kv_R_leaves_qu, kv_M_dropFinished_qu]
    exact ⟨c1, c2, by rw [c3]; exact a1, c4, c5, c6, c7, c8, c9, c10, c11, c12, c13, c14, c15, c16, c17⟩
  · refine hC.2.1.of ?_ ?_ ?_ ?_ ?_ ?_ ?_ ?_ ?_ ?_ ?_ ?_ ?_ <;> simp only [kq_leaves_la, kq_leaves_th, kq_leaves_st, kq_leaves_nx, kq_leaves_wi, kq_leaves_gp, kq_leaves_vl, kq_leaves_sa, kq_leaves_bo, kq_leaves_cy, kq_leaves_sd, kq_leaves_ma, kq_leaves_qu, kq_leaves_X, kq_leaves_F, kq_leaves_M, kq_leaves_po, kq_leaves_pd, kq_leaves_pa, kq_leaves_pb, kq_leaves_pn, kq_leaves_pm, kq_leaves_wh, kq_leaves_wd, kq_leaves_rg, kq_leaves_fr, kq_leaves_sp, kq_leaves_dn, kq_leaves_bf, kq_leaves_XA, kq_leaves_XB, km_drop_la, km_drop_ma, km_drop_qu, km_drop_st, km_drop_nx, km_drop_bo, km_drop_cy, km_drop_sd, km_drop_X, km_drop_F, km_drop_G, km_drop_wp, km_drop_gp, km_drop_ln, km_drop_sa, km_drop_wk, km_drop_po, km_drop_pd, km_drop_pa, km_drop_pb, km_drop_pn, km_drop_pm, km_drop_ww, km_drop_gr, km_drop_mo, km_drop_xa, km_drop_xb, km_drop_fr, km_drop_wi, km_drop_nu, km_drop_tt, km_drop_dn, km_drop_db, km_drop_rF, km_drop_wF]
  · unfold kCq kCe
    simp only [kq_leaves_la, kq_leaves_th, kq_leaves_st, kq_leaves_nx, kq_leaves_wi, kq_leaves_gp, kq_leaves_vl, kq_leaves_sa, kq_leaves_bo, kq_leaves_cy, kq_leaves_sd, kq_leaves_ma, kq_leaves_qu, kq_leaves_X, kq_leaves_F, kq_leaves_M, kq_leaves_po, kq_leaves_pd, kq_leaves_pa, kq_leaves_pb, kq_leaves_pn, kq_leaves_pm, kq_leaves_wh, kq_leaves_wd, kq_leaves_rg, kq_leaves_fr, kq_leaves_sp, kq_leaves_dn, kq_leaves_bf, kq_leaves_XA, kq_leaves_XB, km_drop_la, km_drop_ma, km_drop_qu, km_drop_st, km_drop_nx, km_drop_bo, km_drop_cy, km_drop_sd, km_drop_X, km_drop_F, km_drop_G, km_drop_wp, km_drop_gp, km_drop_ln, km_drop_sa, km_drop_wk, km_drop_po, km_drop_pd, km_drop_pa, km_drop_pb, km_drop_pn, km_drop_pm, km_drop_ww, km_drop_gr, km_drop_mo, km_drop_xa, km_drop_xb, km_drop_fr, km_drop_wi, km_drop_nu, km_drop_tt, km_drop_dn, km_drop_db, km_drop_rF, km_drop_wF, kv_R_leaves_qu, kv_R_leaves_wh, kv_R_leaves_wd, kv_R_leaves_rg, kv_R_leaves_fr, kv_R_leaves_sp, kv_R_leaves_dn, kv_R_leaves_XA, kv_R_leaves_XB, kv_M_dropFinished_wk]
    rw [c3]
    generalize kv_lv r.qu 0 0 r.wh r.wd r.rg r.fr r.sp r.dn r.bf r.XA r.XB = B at a1 a2 m1 m2 m3 ⊢
    refine ⟨fun q hq => ?_, a3⟩
    obtain ⟨R, w, l⟩ := m3 q hq
    have hE := hC.2.2.1 (m q) (m1 q hq)
    unfold kCe at hE
    obtain ⟨e1, e2, e3, e4, e5, e6, e7, e8, e9, e10, e11⟩ := hE
    have R0 := R
    obtain ⟨r1, r2, r3, r4, r5, r6, r7, r8⟩ := R0
    rw [w, r1, r2, r3, r4, r5, r6, r7, r8]
    refine ⟨e1, e2, e3, e4, e5, e6, e7, e8, e9, e10, fun s hs => ?_⟩
    have h11 := e11 s hs
    rw [h11.1, h11.2]
    constructor
    · congr 1
      funext t
      exact (R.rd t _).symm
    · congr 1
      funext t
      exact (R.wr t).symm
  · unfold km_dropN; omega
  · unfold kq_leavesN; exact hqu
