/-! pure part: P12 -/
theorem kpJ.b0 {po pd pb : Nat → Nat} {pm : Nat → Int32} {wh wd rg fr sp bf : Nat → Nat} {XA XB : Nat → Int32} {qu : Nat} {F M : Nat → Int32} {dn : Nat → Nat} (h : kpJ po pd pb pm wh wd rg fr sp bf XA XB qu F M dn) : kpJ po pd pb pm wh wd rg fr sp (fun _ => 0) XA XB qu F M dn :=
  ⟨h.1, h.2.1, fun q hq => ⟨Nat.zero_le _, (h.2.2.1 q hq).2⟩, h.2.2.2.1, h.2.2.2.2⟩
theorem kpJ.bf {po pd pb : Nat → Nat} {pm : Nat → Int32} {wh wd rg fr sp bf bf' : Nat → Nat} {XA XB : Nat → Int32} {qu : Nat} {F M : Nat → Int32} {dn : Nat → Nat} (h : kpJ po pd pb pm wh wd rg fr sp bf XA XB qu F M dn) (hb : ∀ q, q < qu → bf' q = dn q) : kpJ po pd pb pm wh wd rg fr sp bf' XA XB qu F M dn :=
  ⟨h.1, h.2.1, fun q hq => ⟨Nat.le_of_eq (hb q hq), (h.2.2.1 q hq).2⟩, h.2.2.2.1, h.2.2.2.2⟩
theorem kpJ.by {po pd pb : Nat → Nat} {pm : Nat → Int32} {wh wd rg fr sp bf : Nat → Nat} {XA XB : Nat → Int32} {qu : Nat} : ∀ F M dn, kpJ po pd pb pm wh wd rg fr sp bf XA XB qu F M dn → (∀ i, i < 64 → kp_by (F i)) ∧ (∀ i, i < 128 → kp_by (M i)) := fun F M dn h => ⟨h.1, h.2.1⟩
/-- what the three units do, in both -/
theorem kp_uni {x : kMS} {r : kRS} (hI : kI r) (hC : kC x r) {A0 A1 A2 : (Nat → Nat) × (Nat → Int32) × (Nat → Int32) × Int32} {B : Int32 × (Nat → Int32) × (Nat → Int32) × (Nat → Nat)} {db bf : Nat → Nat} (hdb : db = kv_nd x.wk x.dn x.qu 0 x.db) (hbf : bf = kv_ub r.dn r.qu 0 r.bf)
    (hA0 : A0 = kv_wo x.la x.wk x.po x.pd x.pa x.pb x.pm x.ww x.gr x.mo x.xa x.xb x.fr x.wi x.tt db x.rF x.wF 0 x.dn x.F x.G x.sd x.qu 0 0 0)
    (hA1 : A1 = kv_wo x.la x.wk x.po x.pd x.pa x.pb x.pm x.ww x.gr x.mo x.xa x.xb x.fr x.wi x.tt db x.rF x.wF 1 A0.1 A0.2.1 A0.2.2.1 A0.2.2.2 x.qu 0 0 0)
    (hA2 : A2 = kv_wo x.la x.wk x.po x.pd x.pa x.pb x.pm x.ww x.gr x.mo x.xa x.xb x.fr x.wi x.tt db x.rF x.wF 2 A1.1 A1.2.1 A1.2.2.1 A1.2.2.2 x.qu 0 0 0)
    (hB : B = kv_uu r.po r.pd r.pa r.pb r.pm r.wh r.wd r.rg r.fr r.sp bf r.XA r.XB r.la r.qu 3 0 r.sd r.F r.M r.dn) :
    (∀ q, q < r.qu → db (x.wk q) = r.dn q) ∧ (∀ q, q < r.qu → bf q = r.dn q) ∧ kp_eq 64 A2.2.1 B.2.1 ∧ kp_eq 128 A2.2.2.1 B.2.2.1 ∧ A2.2.2.2 = B.1 ∧ (∀ q, q < r.qu → A2.1 (x.wk q) = B.2.2.2 q) ∧ kpJ r.po r.pd r.pb r.pm r.wh r.wd r.rg r.fr r.sp bf r.XA r.XB r.qu B.2.1 B.2.2.1 B.2.2.2 := by
  obtain ⟨c1, c2, c3, c4, c5, c6, c7, c8, c9, c10, c11, c12, c13, c14, c15, c16, c17⟩ := hC.1
  have hqu : r.qu ≤ 4 := hI.2.1.2.1
  have hinj4 := hC.2.2.2
  have hinj : ∀ i j, i < r.qu → j < r.qu → x.wk i = x.wk j → i = j := fun i j hi hj h => hinj4 i j (by omega) (by omega) h
  have hbfd : ∀ q, q < r.qu → bf q = r.dn q := fun q hq => by rw [hbf]; exact kp_ub _ _ _ (by omega) (fun q h => by omega) q hq
  have hdbd : ∀ q, q < r.qu → db (x.wk q) = r.dn q := fun q hq => by
    rw [hdb, kp_nd (qu := r.qu) hinj _ _ _ (by omega) (fun q h => by omega) q hq]
    exact (hC.2.2.1 q hq).2.2.2.2.2.2.2.2.2.1
  have hJ0 := hI.2.2.2.bf hbfd
  have hS : ∀ q, q < r.qu → kpS r.po r.pd r.pa r.pb r.pm r.wh r.wd r.rg r.fr r.sp r.XA q := fun q hq => (hI.2.2.1 q hq).2.1
  have hU := kp_U (bf := bf) (XB := r.XB) hS
  have hdnsp : ∀ q, q < r.qu → r.dn q ≤ r.sp q := fun q hq => (hI.2.2.2.2.2.1 q hq).2
  have hsp : ∀ q, q < r.qu → r.sp q ≤ 32 := fun q hq => by
    have S := hS q hq
    have := kp_most S.2.1 S.1
    have := S.2.2.2.2.2.2.2.1
    omega
  have hV : ∀ q, q < r.qu → kpV r.po r.pa r.wh r.wd r.rg r.sp bf q := fun q hq => kC.V (x := x) hI hq (by rw [hbfd q hq]; exact hdnsp q hq)
  have hQ := fun q (hq : q < r.qu) => kC.Q hI hC hq
  have hr : ∀ q, q < r.qu → x.rF (x.wk q) (bf q) = kpo (fun t => kv_R_reads r.po r.pd r.pa r.pb r.pm r.wh r.wd r.rg r.fr r.XB q t (r.XA q).toNatClampNeg) (r.sp q - bf q) (bf q) := fun q hq => ((hC.2.2.1 q hq).2.2.2.2.2.2.2.2.2.2 (bf q) (by rw [hbfd q hq]; have := hdnsp q hq; have := hsp q hq; omega)).1
  have hw : ∀ q, q < r.qu → x.wF (x.wk q) (bf q) = kpo (fun t => kv_R_writes r.po r.pd r.wh r.wd r.fr q t) (r.sp q - bf q) (bf q) := fun q hq => ((hC.2.2.1 q hq).2.2.2.2.2.2.2.2.2.2 (bf q) (by rw [hbfd q hq]; have := hdnsp q hq; have := hsp q hq; omega)).2
  have hdb2 : ∀ q, q < r.qu → db (x.wk q) = bf q := fun q hq => by rw [hdbd q hq, hbfd q hq]
  have h0 : ∀ f : Nat → Nat → Int64, ∀ m : Int64, (0 : Int64) &&& m = 0 ↔ ∀ p, p < 0 → ∀ j, bf p ≤ j → j < bf p + (r.sp p - bf p) → f p j &&& m = 0 := fun f m => ⟨fun _ p hp => absurd hp (Nat.not_lt_zero _), fun _ => kp_0and m⟩
  rw [c3, c1] at hA0 hA1 hA2
  rw [kv_uu, kv_uu, kv_uu, kv_uu] at hB
  generalize hB0 : kv_ul r.po r.pd r.pa r.pb r.pm r.wh r.wd r.rg r.fr r.sp bf r.XA r.XB (kv_fq r.po r.wh 0 r.qu 0) r.la (if nI r.qu ≤ nI (kv_fq r.po r.wh 0 r.qu 0) then 0 else 1) r.sd r.F r.M r.dn = B0 at hB
  rw [c8] at hA0
  obtain ⟨a1, a2, a3, a4, a5⟩ := kp_wo (y := 0) (la := r.la) (by decide) hqu hV hQ hdb2 hr hw hU kpJ.by c16 c17 (fun q hq => (hC.2.2.1 q hq).2.2.2.2.2.2.2.2.2.1) hJ0 hinj r.qu 0 0 0 (by omega) (h0 _) (h0 _) A0 B0 hA0 hB0.symm
  generalize hB1 : kv_ul r.po r.pd r.pa r.pb r.pm r.wh r.wd r.rg r.fr r.sp bf r.XA r.XB (kv_fq r.po r.wh (0 + 1) r.qu 0) r.la (if nI r.qu ≤ nI (kv_fq r.po r.wh (0 + 1) r.qu 0) then 0 else 1) B0.1 B0.2.1 B0.2.2.1 B0.2.2.2 = B1 at hB
  rw [a3] at hA1
  obtain ⟨b1, b2, b3, b4, b5⟩ := kp_wo (y := 1) (la := r.la) (by decide) hqu hV hQ hdb2 hr hw hU kpJ.by a1 a2 a4 a5 hinj r.qu 0 0 0 (by omega) (h0 _) (h0 _) A1 B1 hA1 hB1.symm
  generalize hB2 : kv_ul r.po r.pd r.pa r.pb r.pm r.wh r.wd r.rg r.fr r.sp bf r.XA r.XB (kv_fq r.po r.wh (0 + 1 + 1) r.qu 0) r.la (if nI r.qu ≤ nI (kv_fq r.po r.wh (0 + 1 + 1) r.qu 0) then 0 else 1) B1.1 B1.2.1 B1.2.2.1 B1.2.2.2 = B2 at hB
  rw [b3] at hA2
  obtain ⟨d1, d2, d3, d4, d5⟩ := kp_wo (y := 2) (la := r.la) (by decide) hqu hV hQ hdb2 hr hw hU kpJ.by b1 b2 b4 b5 hinj r.qu 0 0 0 (by omega) (h0 _) (h0 _) A2 B2 hA2 hB2.symm
  have hB' : B = B2 := hB
  subst hB'
  exact ⟨hdbd, hbfd, d1, d2, d3, d4, d5⟩
theorem kIp.of {r r' : kRS} (h : kIp r) (h1 : r'.ma = r.ma) (h2 : r'.po = r.po) (h3 : r'.pd = r.pd) (h4 : r'.pa = r.pa) (h5 : r'.pb = r.pb) (h6 : r'.pn = r.pn) (h7 : r'.pm = r.pm) : kIp r' := by
  unfold kIp at h ⊢
  rw [h1, h2, h3, h4, h5, h6, h7]
  exact h
theorem kIs.of {r r' : kRS} (h : kIs r) (h1 : r'.la = r.la) (h2 : r'.qu = r.qu) (h3 : r'.wi = r.wi) (h4 : r'.gp = r.gp) (h5 : r'.vl = r.vl) (h6 : r'.sa = r.sa) (h7 : r'.bo = r.bo) (h8 : r'.X = r.X) : kIs r' := by
  unfold kIs at h ⊢
  rw [h1, h2, h3, h4, h5, h6, h7, h8]
  exact h
theorem kCp.of {x x' : kMS} {r r' : kRS} (h : kCp x r) (g1 : x'.po = x.po) (g2 : x'.pd = x.pd) (g3 : x'.pa = x.pa) (g4 : x'.pb = x.pb) (g5 : x'.pn = x.pn) (g6 : x'.pm = x.pm) (h1 : r'.ma = r.ma) (h2 : r'.po = r.po) (h3 : r'.pd = r.pd) (h4 : r'.pa = r.pa) (h5 : r'.pb = r.pb) (h6 : r'.pn = r.pn) (h7 : r'.pm = r.pm) : kCp x' r' := by
  unfold kCp at h ⊢
  rw [h1, h2, h3, h4, h5, h6, h7, g1, g2, g3, g4, g5, g6]
  exact h
theorem km_unitN.of {x x' : kMS} (h : km_unitN x) (h1 : x'.qu = x.qu) (h2 : x'.la = x.la) (h3 : x'.fr = x.fr) (h4 : x'.tt = x.tt) (h5 : x'.ww = x.ww) (h6 : x'.wk = x.wk) (h7 : x'.db = x.db) : km_unitN x' := by
  unfold km_unitN at h ⊢
  rw [h1, h2, h3, h4, h5, h6, h7]
  exact h
/-- after the units -/
def km_us (x : kMS) : kMS := km_unit 2 (km_unit 1 (km_unit 0 (km_u x)))
def kq_us (r : kRS) : kRS := kq_units (kq_cy r (r.cy + 1))
theorem kp_units {x : kMS} {r : kRS} (hI : kI r) (hC : kC x r) :
    (kq_unitsN (kq_cy r (r.cy + 1)) ∧ km_noteN (km_cy x (x.cy + 1)) ∧ km_unitN (km_u x) ∧ km_unitN (km_unit 0 (km_u x)) ∧ km_unitN (km_unit 1 (km_unit 0 (km_u x)))) ∧ kI (kq_us r) ∧ kC (km_us x) (kq_us r) := by
  have hqu : r.qu ≤ 4 := hI.2.1.2.1
  have cs := hC.1
  obtain ⟨c1, c2, c3, c4, c5, c6, c7, c8, c9, c10, c11, c12, c13, c14, c15, c16, c17⟩ := hC.1
  obtain ⟨u1, u2, u3, u4, u5, u6, u7⟩ := kp_uni hI hC rfl rfl rfl rfl rfl rfl
  have hS : ∀ q, q < r.qu → kpS r.po r.pd r.pa r.pb r.pm r.wh r.wd r.rg r.fr r.sp r.XA q := fun q hq => (hI.2.2.1 q hq).2.1
  have hdnsp : ∀ q, q < r.qu → r.dn q ≤ r.sp q := fun q hq => (hI.2.2.2.2.2.1 q hq).2
  have hsp : ∀ q, q < r.qu → r.sp q ≤ 32 := fun q hq => by
    have S := hS q hq
    have := kp_most S.2.1 S.1
    have := S.2.2.2.2.2.2.2.1
    omega
  have hun : ∀ i, i < r.qu → x.fr (x.wk i) ≤ x.tt (x.wk i) ∧ x.tt (x.wk i) < 2 ^ 30 ∧ x.ww (x.wk i) ≤ 4 ∧ kv_nd x.wk x.dn x.qu 0 x.db (x.wk i) ≤ 32 := by
    intro i hi
    obtain ⟨e1, e2, e3, e4, e5, e6, e7, e8, e9, e10, e11⟩ := hC.2.2.1 i hi
    have S := hS i hi
    have hm := kp_most S.2.1 S.1
    have hw := kp_w5 S.1
    obtain ⟨s1, s2, s3, s4, s5, s6, s7, s8, s9, s10, s11, s12, s13, s14⟩ := S
    refine ⟨?_, ?_, by omega, ?_⟩
    · by_cases h14 : r.po (r.wh i) = 14
      · have := (s9 h14).2.1; rw [e9 h14, e7]; omega
      · rw [(e8 h14).2, e7]; omega
    · by_cases h14 : r.po (r.wh i) = 14
      · have := (s9 h14).2.2.1; rw [e9 h14]; omega
      · rw [(e8 h14).2]; omega
    · rw [u1 i hi]; have := hdnsp i hi; have := hsp i hi; omega
  have hN : x.qu ≤ 4 ∧ x.la ≤ 8 ∧ ∀ i, i < x.qu → x.fr (x.wk i) ≤ x.tt (x.wk i) ∧ x.tt (x.wk i) < 2 ^ 30 ∧ x.ww (x.wk i) ≤ 4 ∧ kv_nd x.wk x.dn x.qu 0 x.db (x.wk i) ≤ 32 := ⟨by rw [c3]; exact hqu, by rw [c1]; exact hI.2.1.1, fun i hi => hun i (by rw [← c3]; exact hi)⟩
  have N0 : km_unitN (km_u x) := by
    unfold km_unitN km_u
    simp only [km_note_la, km_note_ma, km_note_qu, km_note_st, km_note_nx, km_note_bo, km_note_cy, km_note_sd, km_note_X, km_note_F, km_note_G, km_note_wp, km_note_gp, km_note_ln, km_note_sa, km_note_wk, km_note_po, km_note_pd, km_note_pa, km_note_pb, km_note_pn, km_note_pm, km_note_ww, km_note_gr, km_note_mo, km_note_xa, km_note_xb, km_note_fr, km_note_wi, km_note_nu, km_note_tt, km_note_dn, km_note_db, km_note_rF, km_note_wF, km_cy_la, km_cy_ma, km_cy_qu, km_cy_st, km_cy_nx, km_cy_bo, km_cy_cy, km_cy_sd, km_cy_X, km_cy_F, km_cy_G, km_cy_wp, km_cy_gp, km_cy_ln, km_cy_sa, km_cy_wk, km_cy_po, km_cy_pd, km_cy_pa, km_cy_pb, km_cy_pn, km_cy_pm, km_cy_ww, km_cy_gr, km_cy_mo, km_cy_xa, km_cy_xb, km_cy_fr, km_cy_wi, km_cy_nu, km_cy_tt, km_cy_dn, km_cy_db, km_cy_rF, km_cy_wF, kv_M_noteStepsDone_db]
    exact hN
  have N1 : km_unitN (km_unit 0 (km_u x)) := by
    unfold km_unitN at N0 ⊢
    simp only [km_unit_la, km_unit_ma, km_unit_qu, km_unit_st, km_unit_nx, km_unit_bo, km_unit_cy, km_unit_sd, km_unit_X, km_unit_F, km_unit_G, km_unit_wp, km_unit_gp, km_unit_ln, km_unit_sa, km_unit_wk, km_unit_po, km_unit_pd, km_unit_pa, km_unit_pb, km_unit_pn, km_unit_pm, km_unit_ww, km_unit_gr, km_unit_mo, km_unit_xa, km_unit_xb, km_unit_fr, km_unit_wi, km_unit_nu, km_unit_tt, km_unit_dn, km_unit_db, km_unit_rF, km_unit_wF]
    exact N0
  have N2 : km_unitN (km_unit 1 (km_unit 0 (km_u x))) := by
    unfold km_unitN at N1 ⊢
    simp only [km_unit_la, km_unit_ma, km_unit_qu, km_unit_st, km_unit_nx, km_unit_bo, km_unit_cy, km_unit_sd, km_unit_X, km_unit_F, km_unit_G, km_unit_wp, km_unit_gp, km_unit_ln, km_unit_sa, km_unit_wk, km_unit_po, km_unit_pd, km_unit_pa, km_unit_pb, km_unit_pn, km_unit_pm, km_unit_ww, km_unit_gr, km_unit_mo, km_unit_xa, km_unit_xb, km_unit_fr, km_unit_wi, km_unit_nu, km_unit_tt, km_unit_dn, km_unit_db, km_unit_rF, km_unit_wF] at N1 ⊢
    exact N1
  refine ⟨⟨?_, ?_, N0, N1, N2⟩, ⟨?_, ?_, ?_⟩, ⟨?_, ?_, ?_⟩⟩
  · unfold kq_unitsN
    simp only [kq_cy_la, kq_cy_th, kq_cy_st, kq_cy_nx, kq_cy_wi, kq_cy_gp, kq_cy_vl, kq_cy_sa, kq_cy_bo, kq_cy_cy, kq_cy_sd, kq_cy_ma, kq_cy_qu, kq_cy_X, kq_cy_F, kq_cy_M, kq_cy_po, kq_cy_pd, kq_cy_pa, kq_cy_pb, kq_cy_pn, kq_cy_pm, kq_cy_wh, kq_cy_wd, kq_cy_rg, kq_cy_fr, kq_cy_sp, kq_cy_dn, kq_cy_bf, kq_cy_XA, kq_cy_XB]
    refine ⟨hqu, hI.2.1.1, fun p hp => ?_, kpJ r.po r.pd r.pb r.pm r.wh r.wd r.rg r.fr r.sp (kv_ub r.dn r.qu 0 r.bf) r.XA r.XB r.qu, hI.2.2.2.bf u2, kp_U hS⟩
    obtain ⟨w1, S, w2⟩ := hI.2.2.1 p hp
    have hm := kp_most S.2.1 S.1
    have hw := kp_w5 S.1
    have hg := kp_w5 S.2.1
    obtain ⟨s1, s2, s3, s4, s5, s6, s7, s8, s9, s10, s11, s12, s13, s14⟩ := S
    have hma := hI.1.1
    refine ⟨⟨by omega, s3, hg.2, hw.1, hw.2⟩, fun h => (s9 h).1, fun h => Nat.le_of_lt (s9 h).2.1, fun h => ?_, ?_, ?_⟩
    · have := (s9 h).2.2.1; omega
    · rw [u2 p hp]; exact hdnsp p hp
    · have := hsp p hp; omega
  · unfold km_noteN
    simp only [km_cy_la, km_cy_ma, km_cy_qu, km_cy_st, km_cy_nx, km_cy_bo, km_cy_cy, km_cy_sd, km_cy_X, km_cy_F, km_cy_G, km_cy_wp, km_cy_gp, km_cy_ln, km_cy_sa, km_cy_wk, km_cy_po, km_cy_pd, km_cy_pa, km_cy_pb, km_cy_pn, km_cy_pm, km_cy_ww, km_cy_gr, km_cy_mo, km_cy_xa, km_cy_xb, km_cy_fr, km_cy_wi, km_cy_nu, km_cy_tt, km_cy_dn, km_cy_db, km_cy_rF, km_cy_wF]
    exact hN.1
  · refine hI.1.of ?_ ?_ ?_ ?_ ?_ ?_ ?_ <;> (simp only [kq_us, kq_units_la, kq_units_th, kq_units_st, kq_units_nx, kq_units_wi, kq_units_gp, kq_units_vl, kq_units_sa, kq_units_bo, kq_units_cy, kq_units_sd, kq_units_ma, kq_units_qu, kq_units_X, kq_units_F, kq_units_M, kq_units_po, kq_units_pd, kq_units_pa, kq_units_pb, kq_units_pn, kq_units_pm, kq_units_wh, kq_units_wd, kq_units_rg, kq_units_fr, kq_units_sp, kq_units_dn, kq_units_bf, kq_units_XA, kq_units_XB, kq_cy_la, kq_cy_th, kq_cy_st, kq_cy_nx, kq_cy_wi, kq_cy_gp, kq_cy_vl, kq_cy_sa, kq_cy_bo, kq_cy_cy, kq_cy_sd, kq_cy_ma, kq_cy_qu, kq_cy_X, kq_cy_F, kq_cy_M, kq_cy_po, kq_cy_pd, kq_cy_pa, kq_cy_pb, kq_cy_pn, kq_cy_pm, kq_cy_wh, kq_cy_wd, kq_cy_rg, kq_cy_fr, kq_cy_sp, kq_cy_dn, kq_cy_bf, kq_cy_XA, kq_cy_XB])
  · refine hI.2.1.of ?_ ?_ ?_ ?_ ?_ ?_ ?_ ?_ <;> (simp only [kq_us, kq_units_la, kq_units_th, kq_units_st, kq_units_nx, kq_units_wi, kq_units_gp, kq_units_vl, kq_units_sa, kq_units_bo, kq_units_cy, kq_units_sd, kq_units_ma, kq_units_qu, kq_units_X, kq_units_F, kq_units_M, kq_units_po, kq_units_pd, kq_units_pa, kq_units_pb, kq_units_pn, kq_units_pm, kq_units_wh, kq_units_wd, kq_units_rg, kq_units_fr, kq_units_sp, kq_units_dn, kq_units_bf, kq_units_XA, kq_units_XB, kq_cy_la, kq_cy_th, kq_cy_st, kq_cy_nx, kq_cy_wi, kq_cy_gp, kq_cy_vl, kq_cy_sa, kq_cy_bo, kq_cy_cy, kq_cy_sd, kq_cy_ma, kq_cy_qu, kq_cy_X, kq_cy_F, kq_cy_M, kq_cy_po, kq_cy_pd, kq_cy_pa, kq_cy_pb, kq_cy_pn, kq_cy_pm, kq_cy_wh, kq_cy_wd, kq_cy_rg, kq_cy_fr, kq_cy_sp, kq_cy_dn, kq_cy_bf, kq_cy_XA, kq_cy_XB])
  · unfold kIq kq_us
    simp only [kq_units_la, kq_units_th, kq_units_st, kq_units_nx, kq_units_wi, kq_units_gp, kq_units_vl, kq_units_sa, kq_units_bo, kq_units_cy, kq_units_sd, kq_units_ma, kq_units_qu, kq_units_X, kq_units_F, kq_units_M, kq_units_po, kq_units_pd, kq_units_pa, kq_units_pb, kq_units_pn, kq_units_pm, kq_units_wh, kq_units_wd, kq_units_rg, kq_units_fr, kq_units_sp, kq_units_dn, kq_units_bf, kq_units_XA, kq_units_XB, kq_cy_la, kq_cy_th, kq_cy_st, kq_cy_nx, kq_cy_wi, kq_cy_gp, kq_cy_vl, kq_cy_sa, kq_cy_bo, kq_cy_cy, kq_cy_sd, kq_cy_ma, kq_cy_qu, kq_cy_X, kq_cy_F, kq_cy_M, kq_cy_po, kq_cy_pd, kq_cy_pa, kq_cy_pb, kq_cy_pn, kq_cy_pm, kq_cy_wh, kq_cy_wd, kq_cy_rg, kq_cy_fr, kq_cy_sp, kq_cy_dn, kq_cy_bf, kq_cy_XA, kq_cy_XB, kv_R_units_F, kv_R_units_M, kv_R_units_dn]
    exact ⟨hI.2.2.1, u7.b0⟩
  · unfold kCs kq_us km_us km_u
    simp only [kq_units_la, kq_units_th, kq_units_st, kq_units_nx, kq_units_wi, kq_units_gp, kq_units_vl, kq_units_sa, kq_units_bo, kq_units_cy, kq_units_sd, kq_units_ma, kq_units_qu, kq_units_X, kq_units_F, kq_units_M, kq_units_po, kq_units_pd, kq_units_pa, kq_units_pb, kq_units_pn, kq_units_pm, kq_units_wh, kq_units_wd, kq_units_rg, kq_units_fr, kq_units_sp, kq_units_dn, kq_units_bf, kq_units_XA, kq_units_XB, kq_cy_la, kq_cy_th, kq_cy_st, kq_cy_nx, kq_cy_wi, kq_cy_gp, kq_cy_vl, kq_cy_sa, kq_cy_bo, kq_cy_cy, kq_cy_sd, kq_cy_ma, kq_cy_qu, kq_cy_X, kq_cy_F, kq_cy_M, kq_cy_po, kq_cy_pd, kq_cy_pa, kq_cy_pb, kq_cy_pn, kq_cy_pm, kq_cy_wh, kq_cy_wd, kq_cy_rg, kq_cy_fr, kq_cy_sp, kq_cy_dn, kq_cy_bf, kq_cy_XA, kq_cy_XB, km_unit_la, km_unit_ma, km_unit_qu, km_unit_st, km_unit_nx, km_unit_bo, km_unit_cy, km_unit_sd, km_unit_X, km_unit_F, km_unit_G, km_unit_wp, km_unit_gp, km_unit_ln, km_unit_sa, km_unit_wk, km_unit_po, km_unit_pd, km_unit_pa, km_unit_pb, km_unit_pn, km_unit_pm, km_unit_ww, km_unit_gr, km_unit_mo, km_unit_xa, km_unit_xb, km_unit_fr, km_unit_wi, km_unit_nu, km_unit_tt, km_unit_dn, km_unit_db, km_unit_rF, km_unit_wF, km_note_la, km_note_ma, km_note_qu, km_note_st, km_note_nx, km_note_bo, km_note_cy, km_note_sd, km_note_X, km_note_F, km_note_G, km_note_wp, km_note_gp, km_note_ln, km_note_sa, km_note_wk, km_note_po, km_note_pd, km_note_pa, km_note_pb, km_note_pn, km_note_pm, km_note_ww, km_note_gr, km_note_mo, km_note_xa, km_note_xb, km_note_fr, km_note_wi, km_note_nu, km_note_tt, km_note_dn, km_note_db, km_note_rF, km_note_wF, km_cy_la, km_cy_ma, km_cy_qu, km_cy_st, km_cy_nx, km_cy_bo, km_cy_cy, km_cy_sd, km_cy_X, km_cy_F, km_cy_G, km_cy_wp, km_cy_gp, km_cy_ln, km_cy_sa, km_cy_wk, km_cy_po, km_cy_pd, km_cy_pa, km_cy_pb, km_cy_pn, km_cy_pm, km_cy_ww, km_cy_gr, km_cy_mo, km_cy_xa, km_cy_xb, km_cy_fr, km_cy_wi, km_cy_nu, km_cy_tt, km_cy_dn, km_cy_db, km_cy_rF, km_cy_wF, kv_R_units_F, kv_R_units_M, kv_R_units_sd, kv_M_noteStepsDone_db]
    exact ⟨c1, c2, c3, c4, c5, c6, by rw [c7], u5, c9, c10, c11, c12, c13, c14, c15, u3, u4⟩
  · refine hC.2.1.of ?_ ?_ ?_ ?_ ?_ ?_ ?_ ?_ ?_ ?_ ?_ ?_ ?_ <;> (simp only [kq_us, km_us, km_u, kq_units_la, kq_units_th, kq_units_st, kq_units_nx, kq_units_wi, kq_units_gp, kq_units_vl, kq_units_sa, kq_units_bo, kq_units_cy, kq_units_sd, kq_units_ma, kq_units_qu, kq_units_X, kq_units_F, kq_units_M, kq_units_po, kq_units_pd, kq_units_pa, kq_units_pb, kq_units_pn, kq_units_pm, kq_units_wh, kq_units_wd, kq_units_rg, kq_units_fr, kq_units_sp, kq_units_dn, kq_units_bf, kq_units_XA, kq_units_XB, kq_cy_la, kq_cy_th, kq_cy_st, kq_cy_nx, kq_cy_wi, kq_cy_gp, kq_cy_vl, kq_cy_sa, kq_cy_bo, kq_cy_cy, kq_cy_sd, kq_cy_ma, kq_cy_qu, kq_cy_X, kq_cy_F, kq_cy_M, kq_cy_po, kq_cy_pd, kq_cy_pa, kq_cy_pb, kq_cy_pn, kq_cy_pm, kq_cy_wh, kq_cy_wd, kq_cy_rg, kq_cy_fr, kq_cy_sp, kq_cy_dn, kq_cy_bf, kq_cy_XA, kq_cy_XB, km_unit_la, km_unit_ma, km_unit_qu, km_unit_st, km_unit_nx, km_unit_bo, km_unit_cy, km_unit_sd, km_unit_X, km_unit_F, km_unit_G, km_unit_wp, km_unit_gp, km_unit_ln, km_unit_sa, km_unit_wk, km_unit_po, km_unit_pd, km_unit_pa, km_unit_pb, km_unit_pn, km_unit_pm, km_unit_ww, km_unit_gr, km_unit_mo, km_unit_xa, km_unit_xb, km_unit_fr, km_unit_wi, km_unit_nu, km_unit_tt, km_unit_dn, km_unit_db, km_unit_rF, km_unit_wF, km_note_la, km_note_ma, km_note_qu, km_note_st, km_note_nx, km_note_bo, km_note_cy, km_note_sd, km_note_X, km_note_F, km_note_G, km_note_wp, km_note_gp, km_note_ln, km_note_sa, km_note_wk, km_note_po, km_note_pd, km_note_pa, km_note_pb, km_note_pn, km_note_pm, km_note_ww, km_note_gr, km_note_mo, km_note_xa, km_note_xb, km_note_fr, km_note_wi, km_note_nu, km_note_tt, km_note_dn, km_note_db, km_note_rF, km_note_wF, km_cy_la, km_cy_ma, km_cy_qu, km_cy_st, km_cy_nx, km_cy_bo, km_cy_cy, km_cy_sd, km_cy_X, km_cy_F, km_cy_G, km_cy_wp, km_cy_gp, km_cy_ln, km_cy_sa, km_cy_wk, km_cy_po, km_cy_pd, km_cy_pa, km_cy_pb, km_cy_pn, km_cy_pm, km_cy_ww, km_cy_gr, km_cy_mo, km_cy_xa, km_cy_xb, km_cy_fr, km_cy_wi, km_cy_nu, km_cy_tt, km_cy_dn, km_cy_db, km_cy_rF, km_cy_wF])
  · unfold kCq kCe kq_us km_us km_u
    simp only [kq_units_la, kq_units_th, kq_units_st, kq_units_nx, kq_units_wi, kq_units_gp, kq_units_vl, kq_units_sa, kq_units_bo, kq_units_cy, kq_units_sd, kq_units_ma, kq_units_qu, kq_units_X, kq_units_F, kq_units_M, kq_units_po, kq_units_pd, kq_units_pa, kq_units_pb, kq_units_pn, kq_units_pm, kq_units_wh, kq_units_wd, kq_units_rg, kq_units_fr, kq_units_sp, kq_units_dn, kq_units_bf, kq_units_XA, kq_units_XB, kq_cy_la, kq_cy_th, kq_cy_st, kq_cy_nx, kq_cy_wi, kq_cy_gp, kq_cy_vl, kq_cy_sa, kq_cy_bo, kq_cy_cy, kq_cy_sd, kq_cy_ma, kq_cy_qu, kq_cy_X, kq_cy_F, kq_cy_M, kq_cy_po, kq_cy_pd, kq_cy_pa, kq_cy_pb, kq_cy_pn, kq_cy_pm, kq_cy_wh, kq_cy_wd, kq_cy_rg, kq_cy_fr, kq_cy_sp, kq_cy_dn, kq_cy_bf, kq_cy_XA, kq_cy_XB, km_unit_la, km_unit_ma, km_unit_qu, km_unit_st, km_unit_nx, km_unit_bo, km_unit_cy, km_unit_sd, km_unit_X, km_unit_F, km_unit_G, km_unit_wp, km_unit_gp, km_unit_ln, km_unit_sa, km_unit_wk, km_unit_po, km_unit_pd, km_unit_pa, km_unit_pb, km_unit_pn, km_unit_pm, km_unit_ww, km_unit_gr, km_unit_mo, km_unit_xa, km_unit_xb, km_unit_fr, km_unit_wi, km_unit_nu, km_unit_tt, km_unit_dn, km_unit_db, km_unit_rF, km_unit_wF, km_note_la, km_note_ma, km_note_qu, km_note_st, km_note_nx, km_note_bo, km_note_cy, km_note_sd, km_note_X, km_note_F, km_note_G, km_note_wp, km_note_gp, km_note_ln, km_note_sa, km_note_wk, km_note_po, km_note_pd, km_note_pa, km_note_pb, km_note_pn, km_note_pm, km_note_ww, km_note_gr, km_note_mo, km_note_xa, km_note_xb, km_note_fr, km_note_wi, km_note_nu, km_note_tt, km_note_dn, km_note_db, km_note_rF, km_note_wF, km_cy_la, km_cy_ma, km_cy_qu, km_cy_st, km_cy_nx, km_cy_bo, km_cy_cy, km_cy_sd, km_cy_X, km_cy_F, km_cy_G, km_cy_wp, km_cy_gp, km_cy_ln, km_cy_sa, km_cy_wk, km_cy_po, km_cy_pd, km_cy_pa, km_cy_pb, km_cy_pn, km_cy_pm, km_cy_ww, km_cy_gr, km_cy_mo, km_cy_xa, km_cy_xb, km_cy_fr, km_cy_wi, km_cy_nu, km_cy_tt, km_cy_dn, km_cy_db, km_cy_rF, km_cy_wF, kv_R_units_dn, kv_M_noteStepsDone_db]
    refine ⟨fun q hq => ?_, hC.2.2.2⟩
    obtain ⟨e1, e2, e3, e4, e5, e6, e7, e8, e9, e10, e11⟩ := hC.2.2.1 q hq
    exact ⟨e1, e2, e3, e4, e5, e6, e7, e8, e9, u6 q hq, e11⟩
